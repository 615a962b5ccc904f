def b2i (p : Prop) [Decidable p] : Int := if p then 1 else 0
def gA (n : Nat) (w : Wd) (a : Nat) (j : Int) : Int := if 0 ≤ j ∧ j < n then w a j else 0
def pA (n : Nat) (w : Wd) (a : Nat) (j x : Int) : Wd := if 0 ≤ j ∧ j < n then up w a j x else w
set_option maxRecDepth 8000 in
theorem m_X11_within {Q : Option AV → Wd → Prop} {w : Wd} (d : Nat) {a b c : Int} (hd : 0 ≤ d) (hw : WR w) (ha : R32 a) (hb : R32 b) (hc : R32 c) (hQ : ∀ r, r = b2i (b ≤ a ∧ a ≤ c) → (r = 0 ∨ r = 1) → Q (some (vI r)) w) : M mX11_within (Rm d) [vI a, vI b, vI c] (fl w) (lQ Q) := by
  refine f_mofv (L0 := [some (vI a), some (vI b), some (vI c)]) rfl (Nat.le_of_ble_eq_true rfl) rfl ?_
  refine r_iload_n (pc := 0) dX11_within_0 rfl ?_
  refine r_iload_n (pc := 1) dX11_within_1 rfl ?_
  refine r_icmplt (pc := 2) (tgt := 14) dX11_within_2 rfl (by omega) (by omega) (fun h2 => ?_) (fun h2 => ?_)
  · refine r_iconst (pc := 14) (n := 0) dX11_within_14 ?_
    exact f_zret (pc := 15) dX11_within_15 rfl (by first | exact Or.inl rfl | exact Or.inr rfl | omega) (by assumption) (hQ _ (by unfold b2i; split <;> omega) (by omega))
  refine r_iload_n (pc := 5) dX11_within_5 rfl ?_
  refine r_iload_n (pc := 6) dX11_within_6 rfl ?_
  refine r_icmpgt (pc := 7) (tgt := 14) dX11_within_7 rfl (by omega) (by omega) (fun h7 => ?_) (fun h7 => ?_)
  · refine r_iconst (pc := 14) (n := 0) dX11_within_14 ?_
    exact f_zret (pc := 15) dX11_within_15 rfl (by first | exact Or.inl rfl | exact Or.inr rfl | omega) (by assumption) (hQ _ (by unfold b2i; split <;> omega) (by omega))
  refine r_iconst (pc := 10) (n := 1) dX11_within_10 ?_
  refine r_goto (pc := 11) (tgt := 15) dX11_within_11 rfl ?_
  exact f_zret (pc := 15) dX11_within_15 rfl (by first | exact Or.inl rfl | exact Or.inr rfl | omega) (by assumption) (hQ _ (by unfold b2i; split <;> omega) (by omega))
set_option maxRecDepth 8000 in
theorem m_X11_isRange {Q : Option AV → Wd → Prop} {w : Wd} (d : Nat) {a b c : Int} (hd : 0 ≤ d) (hw : WR w) (ha : R32 a) (hb : R32 b) (hc : R32 c) (hQ : ∀ r, r = b2i (0 ≤ a ∧ a ≤ b ∧ b ≤ c) → (r = 0 ∨ r = 1) → Q (some (vI r)) w) : M mX11_isRange (Rm d) [vI a, vI b, vI c] (fl w) (lQ Q) := by
  refine f_mofv (L0 := [some (vI a), some (vI b), some (vI c)]) rfl (Nat.le_of_ble_eq_true rfl) rfl ?_
  refine r_iload_n (pc := 0) dX11_isRange_0 rfl ?_
  refine r_iflt (pc := 1) (tgt := 18) dX11_isRange_1 rfl (by omega) (fun h1 => ?_) (fun h1 => ?_)
  · refine r_iconst (pc := 18) (n := 0) dX11_isRange_18 ?_
    exact f_zret (pc := 19) dX11_isRange_19 rfl (by first | exact Or.inl rfl | exact Or.inr rfl | omega) (by assumption) (hQ _ (by unfold b2i; split <;> omega) (by omega))
  refine r_iload_n (pc := 4) dX11_isRange_4 rfl ?_
  refine r_iload_n (pc := 5) dX11_isRange_5 rfl ?_
  refine r_icmpgt (pc := 6) (tgt := 18) dX11_isRange_6 rfl (by omega) (by omega) (fun h6 => ?_) (fun h6 => ?_)
  · refine r_iconst (pc := 18) (n := 0) dX11_isRange_18 ?_
    exact f_zret (pc := 19) dX11_isRange_19 rfl (by first | exact Or.inl rfl | exact Or.inr rfl | omega) (by assumption) (hQ _ (by unfold b2i; split <;> omega) (by omega))
  refine r_iload_n (pc := 9) dX11_isRange_9 rfl ?_
  refine r_iload_n (pc := 10) dX11_isRange_10 rfl ?_
  refine r_icmpgt (pc := 11) (tgt := 18) dX11_isRange_11 rfl (by omega) (by omega) (fun h11 => ?_) (fun h11 => ?_)
  · refine r_iconst (pc := 18) (n := 0) dX11_isRange_18 ?_
    exact f_zret (pc := 19) dX11_isRange_19 rfl (by first | exact Or.inl rfl | exact Or.inr rfl | omega) (by assumption) (hQ _ (by unfold b2i; split <;> omega) (by omega))
  refine r_iconst (pc := 14) (n := 1) dX11_isRange_14 ?_
  refine r_goto (pc := 15) (tgt := 19) dX11_isRange_15 rfl ?_
  exact f_zret (pc := 19) dX11_isRange_19 rfl (by first | exact Or.inl rfl | exact Or.inr rfl | omega) (by assumption) (hQ _ (by unfold b2i; split <;> omega) (by omega))
set_option maxRecDepth 8000 in
theorem m_X11_at {Q : Option AV → Wd → Prop} {w : Wd} (d : Nat) {a n : Nat} {j : Int} (hd : 0 ≤ d) (hw : WR w) (hs : sh a = 1000 + n) (hn : n < 19000) (hj : R32 j) (hQ : ∀ r, r = gA n w a j → R32 r → Q (some (vI r)) w) : M mX11_at (Rm d) [vR (some a), vI j] (fl w) (lQ Q) := by
  refine f_mofv (L0 := [some (vR (some a)), some (vI j)]) rfl (Nat.le_of_ble_eq_true rfl) rfl ?_
  refine r_iload_n (pc := 0) dX11_at_0 rfl ?_
  refine r_iflt (pc := 1) (tgt := 16) dX11_at_1 rfl (by omega) (fun h1 => ?_) (fun h1 => ?_)
  · refine r_iconst (pc := 16) (n := 0) dX11_at_16 ?_
    exact f_iret (pc := 17) dX11_at_17 rfl (by assumption) (hQ _ (by unfold gA; split <;> first | rfl | omega) (by omega))
  refine r_iload_n (pc := 4) dX11_at_4 rfl ?_
  refine r_aload_n (pc := 5) dX11_at_5 rfl ?_
  refine f_alenI (pc := 6) dX11_at_6 (by first | assumption | rfl) (by omega) ?_
  refine r_icmpge (pc := 7) (tgt := 16) dX11_at_7 rfl (by omega) (by omega) (fun h7 => ?_) (fun h7 => ?_)
  · refine r_iconst (pc := 16) (n := 0) dX11_at_16 ?_
    exact f_iret (pc := 17) dX11_at_17 rfl (by assumption) (hQ _ (by unfold gA; split <;> first | rfl | omega) (by omega))
  refine r_aload_n (pc := 10) dX11_at_10 rfl ?_
  refine r_iload_n (pc := 11) dX11_at_11 rfl ?_
  refine f_iald (pc := 12) dX11_at_12 (by assumption) (by first | assumption | rfl) (by omega) (by omega) (by omega) (fun h12 => ?_)
  refine r_goto (pc := 13) (tgt := 17) dX11_at_13 rfl ?_
  exact f_iret (pc := 17) dX11_at_17 rfl (by assumption) (hQ _ (by unfold gA; split <;> first | rfl | omega) (by omega))
set_option maxRecDepth 8000 in
theorem m_X11_put {Q : Option AV → Wd → Prop} {w : Wd} (d : Nat) {a n : Nat} {j x : Int} (hd : 0 ≤ d) (hw : WR w) (hs : sh a = 1000 + n) (hn : n < 19000) (hj : R32 j) (hx : R32 x) (hQ : ∀ w2, w2 = pA n w a j x → WR w2 → Q none w2) : M mX11_put (Rm d) [vR (some a), vI j, vI x] (fl w) (lQ Q) := by
  refine f_mofv (L0 := [some (vR (some a)), some (vI j), some (vI x)]) rfl (Nat.le_of_ble_eq_true rfl) rfl ?_
  refine r_iload_n (pc := 0) dX11_put_0 rfl ?_
  refine r_iflt (pc := 1) (tgt := 14) dX11_put_1 rfl (by omega) (fun h1 => ?_) (fun h1 => ?_)
  · exact f_vret (pc := 14) dX11_put_14 rfl (by assumption) (hQ _ (by unfold pA; split <;> first | rfl | omega) (by assumption))
  refine r_iload_n (pc := 4) dX11_put_4 rfl ?_
  refine r_aload_n (pc := 5) dX11_put_5 rfl ?_
  refine f_alenI (pc := 6) dX11_put_6 (by first | assumption | rfl) (by omega) ?_
  refine r_icmpge (pc := 7) (tgt := 14) dX11_put_7 rfl (by omega) (by omega) (fun h7 => ?_) (fun h7 => ?_)
  · exact f_vret (pc := 14) dX11_put_14 rfl (by assumption) (hQ _ (by unfold pA; split <;> first | rfl | omega) (by assumption))
  refine r_aload_n (pc := 10) dX11_put_10 rfl ?_
  refine r_iload_n (pc := 11) dX11_put_11 rfl ?_
  refine r_iload_n (pc := 12) dX11_put_12 rfl ?_
  refine f_iast (pc := 13) dX11_put_13 (by assumption) (by first | assumption | rfl) (by omega) (by omega) (by omega) (by omega) (fun hw13 => ?_)
  exact f_vret (pc := 14) dX11_put_14 rfl (by assumption) (hQ _ (by unfold pA; split <;> first | rfl | omega) (by assumption))
