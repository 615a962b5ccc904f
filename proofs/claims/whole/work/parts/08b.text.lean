/-! the text -/
def pkT (w : Wd) : Int := if w 356 2 = -1 then hT (w 357) (w 356 0) (w 356 1) else -1
theorem up_same {w : Wd} {i : Nat} {j x : Int} (h : x = w i j) : up w i j x = w := by
  funext p q
  unfold up
  grind
theorem up_up {w : Wd} {i : Nat} {j x y : Int} : up (up w i j x) i j y = up w i j y := by
  funext p q
  unfold up
  grind
theorem nv_lt {T : Int → Int} {p : Int} {k : Nat} (h : k < 3) : nvD T p (k + 1) = 10 * nvD T p k + T (p + k) - 48 := if_pos h
theorem nv_ge {T : Int → Int} {p : Int} {k : Nat} (h : ¬ k < 3) : nvD T p (k + 1) = nvD T p k := if_neg h
theorem nv_all {T : Int → Int} {len p : Int} {k : Nat} (h : ∀ j : Int, 0 ≤ j → j < k → dgt T len p j < 1) : 0 ≤ nvD T p k ∧ nvD T p k ≤ 999 := by
  have g : ∀ m : Nat, m ≤ 3 → m ≤ k → 0 ≤ nvD T p m ∧ nvD T p m ≤ 999 := fun m h3 hk => by
    have a := nvD_bd (T := T) (p := p) m h3 (fun j hj => by
      have b := dgt_d (h j (by omega) (by omega))
      rw [hT_eq (hT_pos (T := T) (by omega))] at b
      exact b)
    have : (10 : Int) ^ m ≤ 1000 := by
      rcases (show m = 0 ∨ m = 1 ∨ m = 2 ∨ m = 3 by omega) with e | e | e | e <;> rw [e] <;> decide
    omega
  rcases Nat.lt_or_ge k 4 with z | z
  · exact g k (by omega) (Nat.le_refl _)
  · have q : ∀ m : Nat, 3 ≤ m → nvD T p m = nvD T p 3 := fun m hm => by
      induction m with
      | zero => omega
      | succ m ih =>
        rcases Nat.lt_or_ge m 3 with y | y
        · rw [show m + 1 = 3 by omega]
        · rw [nv_ge (by omega), ih y]
    rw [q k (by omega)]
    exact g 3 (by omega) (by omega)
theorem dg_next {T : Int → Int} {len p : Int} {k : Nat} (hj : ∀ j : Int, 0 ≤ j → j < k → dgt T len p j < 1) (h : dgt T len p k < 1) : ∀ j : Int, 0 ≤ j → j < (k + 1 : Nat) → dgt T len p j < 1 := fun j h1 h2 => by
  rcases Int.lt_or_le j k with z | z
  · exact hj j h1 z
  · rw [show j = (k : Int) by omega]
    exact h
theorem number_e1 {w : Wd} {k : Nat} (h : 0 ≤ w 356 1 ∧ w 356 1 ≤ w 356 0 ∧ w 356 0 ≤ 120 ∧ -1 ≤ w 356 2 ∧ w 356 2 ≤ 120) (hf : k = 0 ∨ w 356 2 = -1) (hj : ∀ j : Int, 0 ≤ j → j < k → dgt (w 357) (w 356 0) (w 356 1) j < 1) (hk : w 356 1 + k = w 356 0 ∧ (k : Int) ≥ 120) : w 356 2 = -1 ∧ (k : Int) = rnD (w 357) (w 356 0) (w 356 1) ∨ w 356 2 ≠ -1 ∧ k = 0 :=
  Or.inl ⟨by omega, KB_one ⟨by omega, by omega, hj, fun h => by omega⟩ (rnD_KB (by omega))⟩
theorem number_e2 {w : Wd} {k : Nat} (h : 0 ≤ w 356 1 ∧ w 356 1 ≤ w 356 0 ∧ w 356 0 ≤ 120 ∧ -1 ≤ w 356 2 ∧ w 356 2 ≤ 120) (hf : k = 0 ∨ w 356 2 = -1) (hj : ∀ j : Int, 0 ≤ j → j < k → dgt (w 357) (w 356 0) (w 356 1) j < 1) (hk : w 356 1 + k ≤ w 356 0 ∧ (w 356 2 = -1 → ¬ (48 ≤ hT (w 357) (w 356 0) (w 356 1 + k) ∧ hT (w 357) (w 356 0) (w 356 1 + k) ≤ 57))) : w 356 2 = -1 ∧ (k : Int) = rnD (w 357) (w 356 0) (w 356 1) ∨ w 356 2 ≠ -1 ∧ k = 0 := by
  rcases Decidable.em (w 356 2 = -1) with z | z
  · refine Or.inl ⟨z, KB_one ⟨by omega, by omega, hj, fun _ => ?_⟩ (rnD_KB (by omega))⟩
    unfold dgt
    rw [if_neg (hk.2 z)]
    omega
  · exact Or.inr ⟨z, by omega⟩
theorem kw_X9_45 : Jvm.Cond.constant RX9 45 (-1000000005 : Int32) ∈ gW := gw_t 752 (by decide +kernel) (by decide +kernel)
set_option maxRecDepth 8000 in
theorem m_X9_rewind {Q : Option AV → Wd → Prop} {w : Wd} (d : Nat) (hd : 0 ≤ d) (hw : WR w) (hQ : ∀ w2, w2 = up (up w 356 1 0) 356 2 (-1) → WR w2 → Q none w2) : M mX9_rewind (Rm d) [vR (some 356)] (fl w) (lQ Q) := by
  refine f_mofv (L0 := [some (vR (some 356))]) rfl (Nat.le_of_ble_eq_true rfl) rfl ?_
  refine r_aload_n (pc := 0) dX9_rewind_0 rfl ?_
  refine r_iconst (pc := 1) (n := 0) dX9_rewind_1 ?_
  refine ph_X9_26 (pc := 2) rfl dX9_rewind_2 (by assumption) (by omega) (fun hw2 => ?_)
  refine r_aload_n (pc := 5) dX9_rewind_5 rfl ?_
  refine r_iconst (pc := 6) (n := (-1)) dX9_rewind_6 ?_
  refine ph_X9_11 (pc := 7) rfl dX9_rewind_7 (by assumption) (by omega) (fun hw7 => ?_)
  exact f_vret (pc := 10) dX9_rewind_10 rfl (by assumption) (hQ _ rfl (by assumption))
set_option maxRecDepth 8000 in
theorem m_X9_fail {Q : Option AV → Wd → Prop} {w : Wd} (d : Nat) {l : Int} (hd : 0 ≤ d) (hw : WR w) (hl : R32 l) (hQ : ∀ w2, w2 = (if w 356 2 = -1 then up w 356 2 l else w) → WR w2 → Q none w2) : M mX9_fail (Rm d) [vR (some 356), vI l] (fl w) (lQ Q) := by
  refine f_mofv (L0 := [some (vR (some 356)), some (vI l)]) rfl (Nat.le_of_ble_eq_true rfl) rfl ?_
  refine r_aload_n (pc := 0) dX9_fail_0 rfl ?_
  refine h_X9_11 (pc := 1) rfl dX9_fail_1 (by assumption) (fun h1 => ?_)
  refine r_iconst (pc := 4) (n := (-1)) dX9_fail_4 ?_
  refine r_icmpne (pc := 5) (tgt := 13) dX9_fail_5 rfl (by omega) (by omega) (fun h5 => ?_) (fun h5 => ?_)
  · exact f_vret (pc := 13) dX9_fail_13 rfl (by assumption) (hQ _ (if_neg (show ¬ w 356 2 = -1 by omega)).symm (by assumption))
  refine r_aload_n (pc := 8) dX9_fail_8 rfl ?_
  refine r_iload_n (pc := 9) dX9_fail_9 rfl ?_
  refine ph_X9_11 (pc := 10) rfl dX9_fail_10 (by assumption) (by omega) (fun hw10 => ?_)
  exact f_vret (pc := 13) dX9_fail_13 rfl (by assumption) (hQ _ (if_pos (show w 356 2 = -1 by omega)).symm (by assumption))
set_option maxRecDepth 8000 in
theorem m_X9_add {Q : Option AV → Wd → Prop} {w : Wd} (d : Nat) {l : Int} (hd : 1 ≤ d) (hw : WR w) (hl : R32 l) (hn : 0 ≤ w 356 0 ∧ w 356 0 < 120) (hQ : ∀ r w2, r = w 356 0 + 1 → w2 = up (up w 357 (w 356 0) l) 356 0 (w 356 0 + 1) → WR w2 → Q (some (vI r)) w2) : M mX9_add (Rm d) [vR (some 356), vI l] (fl w) (lQ Q) := by
  refine f_mofv (L0 := [some (vR (some 356)), some (vI l)]) rfl (Nat.le_of_ble_eq_true rfl) rfl ?_
  refine r_aload_n (pc := 0) dX9_add_0 rfl ?_
  refine h_X9_15 (pc := 1) rfl dX9_add_1 ?_
  refine r_aload_n (pc := 4) dX9_add_4 rfl ?_
  refine h_X9_19 (pc := 5) rfl dX9_add_5 (by assumption) (fun h5 => ?_)
  refine r_iload_n (pc := 8) dX9_add_8 rfl ?_
  refine c_X9_22 (pc := 9) rfl dX9_add_9 (by omega) (Nat.le_of_ble_eq_true rfl) ?_
  refine m_X11_put (d - 1) (by omega) (by assumption) (n := 120) (show sh 357 = 1000 + 120 from rfl) (by omega) (by omega) (by omega) (fun w9 e9 hw9 => ?_)
  rw [pA_in (by omega) (by omega)] at e9
  have q : w9 356 = w 356 := by rw [e9, up_ne (by omega)]
  have z : w9 356 0 = w 356 0 := by rw [q]
  refine r_aload_n (pc := 12) dX9_add_12 rfl ?_
  refine r_dup (pc := 13) dX9_add_13 rfl ?_
  refine h_X9_19 (pc := 14) rfl dX9_add_14 (by assumption) (fun h14 => ?_)
  refine r_iconst (pc := 17) (n := 1) dX9_add_17 ?_
  refine r_iadd (pc := 18) dX9_add_18 ?_
  refine ph_X9_19 (pc := 19) rfl dX9_add_19 (by assumption) (by omega) (fun hw19 => ?_)
  rw [z] at hw19 ⊢
  refine r_aload_n (pc := 22) dX9_add_22 rfl ?_
  refine h_X9_19 (pc := 23) rfl dX9_add_23 (by assumption) (fun h23 => ?_)
  rw [show up w9 356 0 (w 356 0 + 1) 356 0 = w 356 0 + 1 from rfl]
  exact f_iret (pc := 26) dX9_add_26 rfl (by assumption) (hQ _ _ rfl (by rw [e9]) (by assumption))
set_option maxRecDepth 8000 in
theorem m_X9_peek {Q : Option AV → Wd → Prop} {w : Wd} (d : Nat) (hd : 1 ≤ d) (hw : WR w) (hT0 : 0 ≤ w 356 1 ∧ w 356 1 ≤ w 356 0 ∧ w 356 0 ≤ 120 ∧ -1 ≤ w 356 2 ∧ w 356 2 ≤ 120) (hQ : ∀ r, r = pkT w → R32 r → Q (some (vI r)) w) : M mX9_peek (Rm d) [vR (some 356)] (fl w) (lQ Q) := by
  refine f_mofv (L0 := [some (vR (some 356))]) rfl (Nat.le_of_ble_eq_true rfl) rfl ?_
  have cut33 : pkT w = -1 → V mX9_peek (Rm d) 0 0 33 [some (vR (some 356))] [] (fl w) (lQ Q) := by
    intro hh
    refine r_iconst (pc := 33) (n := (-1)) dX9_peek_33 ?_
    exact f_iret (pc := 34) dX9_peek_34 rfl (by assumption) (hQ _ hh.symm (by omega))
  refine r_aload_n (pc := 0) dX9_peek_0 rfl ?_
  refine h_X9_11 (pc := 1) rfl dX9_peek_1 (by assumption) (fun h1 => ?_)
  refine r_iconst (pc := 4) (n := (-1)) dX9_peek_4 ?_
  refine r_icmpne (pc := 5) (tgt := 33) dX9_peek_5 rfl (by omega) (by omega) (fun h5 => ?_) (fun h5 => ?_)
  · exact cut33 (if_neg (show ¬ w 356 2 = -1 by omega))
  refine r_aload_n (pc := 8) dX9_peek_8 rfl ?_
  refine h_X9_26 (pc := 9) rfl dX9_peek_9 (by assumption) (fun h9 => ?_)
  refine r_aload_n (pc := 12) dX9_peek_12 rfl ?_
  refine h_X9_19 (pc := 13) rfl dX9_peek_13 (by assumption) (fun h13 => ?_)
  refine r_icmpge (pc := 16) (tgt := 33) dX9_peek_16 rfl (by omega) (by omega) (fun h16 => ?_) (fun h16 => ?_)
  · exact cut33 (by unfold pkT hT; rw [if_pos (show w 356 2 = -1 by omega), if_neg (show ¬ w 356 1 < w 356 0 by omega)])
  refine r_aload_n (pc := 19) dX9_peek_19 rfl ?_
  refine h_X9_15 (pc := 20) rfl dX9_peek_20 ?_
  refine r_aload_n (pc := 23) dX9_peek_23 rfl ?_
  refine h_X9_26 (pc := 24) rfl dX9_peek_24 (by assumption) (fun h24 => ?_)
  refine c_X9_29 (pc := 27) rfl dX9_peek_27 (by omega) (Nat.le_of_ble_eq_true rfl) ?_
  refine m_X11_at (d - 1) (by omega) (by assumption) (n := 120) (show sh 357 = 1000 + 120 from rfl) (by omega) (by omega) (fun r27 e27 b27 => ?_)
  rw [gA_in (by omega) (by omega)] at e27
  refine r_goto (pc := 30) (tgt := 34) dX9_peek_30 rfl ?_
  exact f_iret (pc := 34) dX9_peek_34 rfl (by assumption) (hQ _ (by unfold pkT hT; rw [if_pos (show w 356 2 = -1 by omega), if_pos (show w 356 1 < w 356 0 by omega)]; exact e27) (by omega))
set_option maxRecDepth 8000 in
theorem m_X9_accept {Q : Option AV → Wd → Prop} {w : Wd} (d : Nat) {l : Int} (hd : 2 ≤ d) (hw : WR w) (hT0 : 0 ≤ w 356 1 ∧ w 356 1 ≤ w 356 0 ∧ w 356 0 ≤ 120 ∧ -1 ≤ w 356 2 ∧ w 356 2 ≤ 120) (hl : R32 l) (hQ : ∀ r w2, (pkT w = l ∧ r = 1 ∧ w2 = up w 356 1 (w 356 1 + 1)) ∨ (pkT w ≠ l ∧ r = 0 ∧ w2 = w) → WR w2 → Q (some (vI r)) w2) : M mX9_accept (Rm d) [vR (some 356), vI l] (fl w) (lQ Q) := by
  refine f_mofv (L0 := [some (vR (some 356)), some (vI l)]) rfl (Nat.le_of_ble_eq_true rfl) rfl ?_
  refine r_aload_n (pc := 0) dX9_accept_0 rfl ?_
  refine c_X9_33 (pc := 1) rfl dX9_accept_1 (by first | assumption | rfl) (by omega) (Nat.le_of_ble_eq_true rfl) ?_
  refine m_X9_peek (d - 1) (by omega) (by assumption) (by omega) (fun r1 e1 b1 => ?_)
  refine r_iload_n (pc := 4) dX9_accept_4 rfl ?_
  refine r_icmpeq (pc := 5) (tgt := 10) dX9_accept_5 rfl (by omega) (by omega) (fun h5 => ?_) (fun h5 => ?_)
  · refine r_aload_n (pc := 10) dX9_accept_10 rfl ?_
    refine r_dup (pc := 11) dX9_accept_11 rfl ?_
    refine h_X9_26 (pc := 12) rfl dX9_accept_12 (by assumption) (fun h12 => ?_)
    refine r_iconst (pc := 15) (n := 1) dX9_accept_15 ?_
    refine r_iadd (pc := 16) dX9_accept_16 ?_
    refine ph_X9_26 (pc := 17) rfl dX9_accept_17 (by assumption) (by omega) (fun hw17 => ?_)
    refine r_iconst (pc := 20) (n := 1) dX9_accept_20 ?_
    exact f_zret (pc := 21) dX9_accept_21 rfl (by first | exact Or.inl rfl | exact Or.inr rfl | omega) (by assumption) (hQ _ _ (Or.inl ⟨by omega, rfl, rfl⟩) (by assumption))
  refine r_iconst (pc := 8) (n := 0) dX9_accept_8 ?_
  exact f_zret (pc := 9) dX9_accept_9 rfl (by first | exact Or.inl rfl | exact Or.inr rfl | omega) (by assumption) (hQ _ _ (Or.inr ⟨by omega, rfl, rfl⟩) (by assumption))
set_option maxRecDepth 8000 in
theorem m_X9_expect {Q : Option AV → Wd → Prop} {w : Wd} (d : Nat) {l : Int} (hd : 3 ≤ d) (hw : WR w) (hT0 : 0 ≤ w 356 1 ∧ w 356 1 ≤ w 356 0 ∧ w 356 0 ≤ 120 ∧ -1 ≤ w 356 2 ∧ w 356 2 ≤ 120) (hl : R32 l) (hQ : ∀ w2, w2 = (if pkT w = l then up w 356 1 (w 356 1 + 1) else if w 356 2 = -1 then up w 356 2 (w 356 1) else w) → WR w2 → Q none w2) : M mX9_expect (Rm d) [vR (some 356), vI l] (fl w) (lQ Q) := by
  refine f_mofv (L0 := [some (vR (some 356)), some (vI l)]) rfl (Nat.le_of_ble_eq_true rfl) rfl ?_
  refine r_aload_n (pc := 0) dX9_expect_0 rfl ?_
  refine r_iload_n (pc := 1) dX9_expect_1 rfl ?_
  refine c_X9_37 (pc := 2) rfl dX9_expect_2 (by first | assumption | rfl) (by omega) (Nat.le_of_ble_eq_true rfl) ?_
  refine m_X9_accept (d - 1) (by omega) (by assumption) (by omega) (by omega) (fun r2 w2 e2 hw2 => ?_)
  refine r_ifne (pc := 5) (tgt := 16) dX9_expect_5 rfl (by omega) (fun h5 => ?_) (fun h5 => ?_)
  · have q : pkT w = l ∧ w2 = up w 356 1 (w 356 1 + 1) := by
      rcases e2 with z | z
      · exact ⟨z.1, z.2.2⟩
      · omega
    exact f_vret (pc := 16) dX9_expect_16 rfl (by assumption) (hQ _ (by rw [if_pos q.1]; exact q.2) (by assumption))
  have q : pkT w ≠ l ∧ w2 = w := by
    rcases e2 with z | z
    · omega
    · exact ⟨z.1, z.2.2⟩
  obtain ⟨q1, q2⟩ := q
  subst q2
  refine r_aload_n (pc := 8) dX9_expect_8 rfl ?_
  refine r_aload_n (pc := 9) dX9_expect_9 rfl ?_
  refine h_X9_26 (pc := 10) rfl dX9_expect_10 (by assumption) (fun h10 => ?_)
  refine c_X9_41 (pc := 13) rfl dX9_expect_13 (by first | assumption | rfl) (by omega) (Nat.le_of_ble_eq_true rfl) ?_
  refine m_X9_fail (d - 1) (by omega) (by assumption) (by omega) (fun w13 e13 hw13 => ?_)
  exact f_vret (pc := 16) dX9_expect_16 rfl (by assumption) (hQ _ (by rw [if_neg q1]; exact e13) (by assumption))
set_option maxRecDepth 8000 in
theorem m_X9_number {Q : Option AV → Wd → Prop} {w : Wd} (d : Nat) (hd : 3 ≤ d) (hw : WR w) (hT0 : 0 ≤ w 356 1 ∧ w 356 1 ≤ w 356 0 ∧ w 356 0 ≤ 120 ∧ -1 ≤ w 356 2 ∧ w 356 2 ≤ 120) (hQ : ∀ r w2, 0 ≤ r → r ≤ 999 → (w 356 2 = -1 ∧ 1 ≤ rnD (w 357) (w 356 0) (w 356 1) ∧ rnD (w 357) (w 356 0) (w 356 1) ≤ 3 ∧ r = nvD (w 357) (w 356 1) (rnD (w 357) (w 356 0) (w 356 1)).toNat ∧ w2 = up w 356 1 (w 356 1 + rnD (w 357) (w 356 0) (w 356 1))) ∨ (w 356 2 = -1 ∧ ¬ (1 ≤ rnD (w 357) (w 356 0) (w 356 1) ∧ rnD (w 357) (w 356 0) (w 356 1) ≤ 3) ∧ w2 = up (up w 356 1 (w 356 1 + rnD (w 357) (w 356 0) (w 356 1))) 356 2 (w 356 1)) ∨ (w 356 2 ≠ -1 ∧ w2 = w) → WR w2 → Q (some (vI r)) w2) : M mX9_number (Rm d) [vR (some 356)] (fl w) (lQ Q) := by
  refine f_mofv (L0 := [some (vR (some 356)), none, none, none]) rfl (Nat.le_of_ble_eq_true rfl) rfl ?_
  have cut71 : ∀ k : Nat, 0 ≤ nvD (w 357) (w 356 1) k → nvD (w 357) (w 356 1) k ≤ 999 → (w 356 2 = -1 ∧ (k : Int) = rnD (w 357) (w 356 0) (w 356 1) ∨ w 356 2 ≠ -1 ∧ k = 0) → WR (up w 356 1 (w 356 1 + k)) → (k : Int) ≤ 120 → V mX9_number (Rm d) 0 0 71 [some (vR (some 356)), some (vI (w 356 1)), some (vI (nvD (w 357) (w 356 1) k)), some (vI k)] [] (fl (up w 356 1 (w 356 1 + k))) (lQ Q) := by
    intro k k0 k9 hk hwk kb
    have F2 : up w 356 1 (w 356 1 + k) 356 2 = w 356 2 := rfl
    have U0 : w 356 2 ≠ -1 → k = 0 → up w 356 1 (w 356 1 + k) = w := fun _ e => by
      rw [e]
      exact up_same (by omega)
    refine r_iload_n (pc := 71) dX9_number_71 rfl ?_
    refine r_iconst (pc := 72) (n := 1) dX9_number_72 ?_
    refine r_icmplt (pc := 73) (tgt := 81) dX9_number_73 rfl (by omega) (by omega) (fun h73 => ?_) (fun h73 => ?_)
    · refine r_aload_n (pc := 81) dX9_number_81 rfl ?_
      refine r_iload_n (pc := 82) dX9_number_82 rfl ?_
      refine c_X9_41 (pc := 83) rfl dX9_number_83 (by first | assumption | rfl) (by omega) (Nat.le_of_ble_eq_true rfl) ?_
      refine m_X9_fail (d - 1) (by omega) (by assumption) (by omega) (fun w83 e83 hw83 => ?_)
      rw [F2] at e83
      refine r_iload_n (pc := 86) dX9_number_86 rfl ?_
      exact f_iret (pc := 87) dX9_number_87 rfl (by assumption) (hQ _ _ k0 k9 (by
          rcases hk with ⟨f1, f2⟩ | ⟨f1, f2⟩
          · rw [if_pos f1, f2] at e83
            exact Or.inr (Or.inl ⟨f1, by omega, e83⟩)
          · rw [if_neg f1, U0 f1 f2] at e83
            exact Or.inr (Or.inr ⟨f1, e83⟩)) (by assumption))
    refine r_iload_n (pc := 76) dX9_number_76 rfl ?_
    refine r_iconst (pc := 77) (n := 3) dX9_number_77 ?_
    refine r_icmple (pc := 78) (tgt := 86) dX9_number_78 rfl (by omega) (by omega) (fun h78 => ?_) (fun h78 => ?_)
    · refine r_iload_n (pc := 86) dX9_number_86 rfl ?_
      exact f_iret (pc := 87) dX9_number_87 rfl (by assumption) (hQ _ _ k0 k9 (by
          rcases hk with ⟨f1, f2⟩ | ⟨f1, f2⟩
          · exact Or.inl ⟨f1, by omega, by omega, by rw [← f2]; rfl, by rw [← f2]⟩
          · omega) (by assumption))
    refine r_aload_n (pc := 81) dX9_number_81 rfl ?_
    refine r_iload_n (pc := 82) dX9_number_82 rfl ?_
    refine c_X9_41 (pc := 83) rfl dX9_number_83 (by first | assumption | rfl) (by omega) (Nat.le_of_ble_eq_true rfl) ?_
    refine m_X9_fail (d - 1) (by omega) (by assumption) (by omega) (fun w83 e83 hw83 => ?_)
    rw [F2] at e83
    refine r_iload_n (pc := 86) dX9_number_86 rfl ?_
    exact f_iret (pc := 87) dX9_number_87 rfl (by assumption) (hQ _ _ k0 k9 (by
        rcases hk with ⟨f1, f2⟩ | ⟨f1, f2⟩
        · rw [if_pos f1, f2] at e83
          exact Or.inr (Or.inl ⟨f1, by omega, e83⟩)
        · rw [if_neg f1, U0 f1 f2] at e83
          exact Or.inr (Or.inr ⟨f1, e83⟩)) (by assumption))
  have cut54 : ∀ k : Nat, (WR (up w 356 1 (w 356 1 + (k + 1 : Nat))) → V mX9_number (Rm d) 0 0 9 [some (vR (some 356)), some (vI (w 356 1)), some (vI (nvD (w 357) (w 356 1) (k + 1))), some (vI ((k + 1 : Nat) : Int))] [] (fl (up w 356 1 (w 356 1 + (k + 1 : Nat)))) (lQ Q)) → w 356 1 + k < w 356 0 → WR (up w 356 1 (w 356 1 + k)) → ∀ x : Int, x = nvD (w 357) (w 356 1) (k + 1) → V mX9_number (Rm d) 0 0 54 [some (vR (some 356)), some (vI (w 356 1)), some (vI (nvD (w 357) (w 356 1) k)), some (vI k)] [vI x] (fl (up w 356 1 (w 356 1 + k))) (lQ Q) := by
    intro k kk hkl hwk x E54
    have T1 : up w 356 1 (w 356 1 + k) 356 1 = w 356 1 + k := rfl
    refine r_istore2 (pc := 54) dX9_number_54 rfl ?_
    refine r_iinc3 (pc := 55) dX9_number_55 rfl ?_
    refine r_aload_n (pc := 58) dX9_number_58 rfl ?_
    refine r_dup (pc := 59) dX9_number_59 rfl ?_
    refine h_X9_26 (pc := 60) rfl dX9_number_60 (by assumption) (fun h60 => ?_)
    refine r_iconst (pc := 63) (n := 1) dX9_number_63 ?_
    refine r_iadd (pc := 64) dX9_number_64 ?_
    refine ph_X9_26 (pc := 65) rfl dX9_number_65 (by assumption) (by omega) (fun hw65 => ?_)
    refine r_goto (pc := 68) (tgt := 9) dX9_number_68 rfl ?_
    rw [T1, up_up, show w 356 1 + k + 1 = w 356 1 + (k + 1 : Nat) by omega] at hw65
    rw [T1, up_up, show w 356 1 + k + 1 = w 356 1 + (k + 1 : Nat) by omega, E54]
    exact kk hw65
  have loop9 : ∀ n0 : Nat, ∀ k : Nat, (w 356 0 - w 356 1 - k).toNat = n0 → w 356 1 + k ≤ w 356 0 → (∀ j : Int, 0 ≤ j → j < k → dgt (w 357) (w 356 0) (w 356 1) j < 1) → (k = 0 ∨ w 356 2 = -1) → WR (up w 356 1 (w 356 1 + k)) → V mX9_number (Rm d) 0 0 9 [some (vR (some 356)), some (vI (w 356 1)), some (vI (nvD (w 357) (w 356 1) k)), some (vI k)] [] (fl (up w 356 1 (w 356 1 + k))) (lQ Q) := by
    refine ind_lt ?_
    intro n0 ih k hm hk hj hf hwk
    have NB := nv_all (T := w 357) (len := w 356 0) (p := w 356 1) (k := k) hj
    have PK : pkT (up w 356 1 (w 356 1 + k)) = if w 356 2 = -1 then hT (w 357) (w 356 0) (w 356 1 + k) else -1 := rfl
    have T1 : up w 356 1 (w 356 1 + k) 356 1 = w 356 1 + k := rfl
    have T2 : up w 356 1 (w 356 1 + k) 356 0 = w 356 0 := rfl
    have T3 : up w 356 1 (w 356 1 + k) 356 2 = w 356 2 := rfl
    refine r_iload_n (pc := 9) dX9_number_9 rfl ?_
    refine r_bipush (pc := 10) (n := 120) dX9_number_10 (by decide) ?_
    refine r_icmpge (pc := 12) (tgt := 71) dX9_number_12 rfl (by omega) (by omega) (fun h12 => ?_) (fun h12 => ?_)
    · exact cut71 k NB.1 NB.2 (number_e1 hT0 hf hj (by omega)) (by assumption) (by omega)
    refine r_aload_n (pc := 15) dX9_number_15 rfl ?_
    refine c_X9_33 (pc := 16) rfl dX9_number_16 (by first | assumption | rfl) (by omega) (Nat.le_of_ble_eq_true rfl) ?_
    refine m_X9_peek (d - 1) (by omega) (by assumption) (by omega) (fun r16 e16 b16 => ?_)
    refine r_bipush (pc := 19) (n := 48) dX9_number_19 (by decide) ?_
    refine r_icmplt (pc := 21) (tgt := 71) dX9_number_21 rfl (by omega) (by omega) (fun h21 => ?_) (fun h21 => ?_)
    · exact cut71 k NB.1 NB.2 (number_e2 hT0 hf hj ⟨by omega, fun z => by rw [if_pos z] at PK; omega⟩) (by assumption) (by omega)
    refine r_aload_n (pc := 24) dX9_number_24 rfl ?_
    refine c_X9_33 (pc := 25) rfl dX9_number_25 (by first | assumption | rfl) (by omega) (Nat.le_of_ble_eq_true rfl) ?_
    refine m_X9_peek (d - 1) (by omega) (by assumption) (by omega) (fun r25 e25 b25 => ?_)
    refine r_bipush (pc := 28) (n := 57) dX9_number_28 (by decide) ?_
    refine r_icmpgt (pc := 30) (tgt := 71) dX9_number_30 rfl (by omega) (by omega) (fun h30 => ?_) (fun h30 => ?_)
    · exact cut71 k NB.1 NB.2 (number_e2 hT0 hf hj ⟨by omega, fun z => by rw [if_pos z] at PK; omega⟩) (by assumption) (by omega)
    have hf2 : w 356 2 = -1 := by
      rcases Decidable.em (w 356 2 = -1) with z | z
      · exact z
      · rw [if_neg z] at PK; omega
    rw [if_pos hf2] at PK
    have D0 : dgt (w 357) (w 356 0) (w 356 1) k < 1 := by
      unfold dgt
      rw [if_pos (by omega)]
      omega
    have hkl := hT_pos (T := w 357) (len := w 356 0) (p := w 356 1 + k) (by omega)
    refine r_iload_n (pc := 33) dX9_number_33 rfl ?_
    refine r_iconst (pc := 34) (n := 3) dX9_number_34 ?_
    refine r_icmpge (pc := 35) (tgt := 53) dX9_number_35 rfl (by omega) (by omega) (fun h35 => ?_) (fun h35 => ?_)
    · refine r_iload_n (pc := 53) dX9_number_53 rfl ?_
      exact cut54 k (fun hw9 => ih _ (by omega) (k + 1) rfl (by omega) (dg_next hj D0) (Or.inr hf2) hw9) hkl (by assumption) _ (nv_ge (by omega)).symm
    refine r_bipush (pc := 38) (n := 10) dX9_number_38 (by decide) ?_
    refine r_iload_n (pc := 40) dX9_number_40 rfl ?_
    refine r_imul (pc := 41) dX9_number_41 ?_
    refine r_aload_n (pc := 42) dX9_number_42 rfl ?_
    refine c_X9_33 (pc := 43) rfl dX9_number_43 (by first | assumption | rfl) (by omega) (Nat.le_of_ble_eq_true rfl) ?_
    refine m_X9_peek (d - 1) (by omega) (by assumption) (by omega) (fun r43 e43 b43 => ?_)
    refine r_iadd (pc := 46) dX9_number_46 ?_
    refine r_bipush (pc := 47) (n := 48) dX9_number_47 (by decide) ?_
    refine r_isub (pc := 49) dX9_number_49 ?_
    refine r_goto (pc := 50) (tgt := 54) dX9_number_50 rfl ?_
    exact cut54 k (fun hw9 => ih _ (by omega) (k + 1) rfl (by omega) (dg_next hj D0) (Or.inr hf2) hw9) hkl (by assumption) _ (by rw [e43, PK, hT_eq hkl]; exact (nv_lt (by omega)).symm)
  refine r_aload_n (pc := 0) dX9_number_0 rfl ?_
  refine h_X9_26 (pc := 1) rfl dX9_number_1 (by assumption) (fun h1 => ?_)
  refine r_istore1 (pc := 4) dX9_number_4 rfl ?_
  refine r_iconst (pc := 5) (n := 0) dX9_number_5 ?_
  refine r_istore2 (pc := 6) dX9_number_6 rfl ?_
  refine r_iconst (pc := 7) (n := 0) dX9_number_7 ?_
  refine r_istore3 (pc := 8) dX9_number_8 rfl ?_
  rw [show fl w = fl (up w 356 1 (w 356 1 + (0 : Nat))) by rw [up_same (by omega)]]
  exact loop9 _ 0 rfl (by omega) (fun j h1 h2 => by omega) (Or.inl rfl) (by rw [up_same (by omega)]; exact hw)
set_option maxRecDepth 8000 in
theorem m_X9_verdict {Q : Option AV → Wd → Prop} {w : Wd} (d : Nat) (hd : 2 ≤ d) (hw : WR w) (hT0 : 0 ≤ w 356 1 ∧ w 356 1 ≤ w 356 0 ∧ w 356 0 ≤ 120 ∧ -1 ≤ w 356 2 ∧ w 356 2 ≤ 120) (hQ : ∀ r w2, r = (if w 356 2 ≠ -1 then w 356 2 else if w 356 1 < w 356 0 then w 356 1 else -1000000005) → w2 = (if w 356 2 = -1 ∧ w 356 1 < w 356 0 then up w 356 2 (w 356 1) else w) → WR w2 → Q (some (vI r)) w2) : M mX9_verdict (Rm d) [vR (some 356)] (fl w) (lQ Q) := by
  refine f_mofv (L0 := [some (vR (some 356))]) rfl (Nat.le_of_ble_eq_true rfl) rfl ?_
  have cut19 : ∀ w1 : Wd, w1 = (if w 356 2 = -1 ∧ w 356 1 < w 356 0 then up w 356 2 (w 356 1) else w) → WR w1 → V mX9_verdict (Rm d) 0 0 19 [some (vR (some 356))] [] (fl w1) (lQ Q) := by
    intro w1 e1 hw1
    have F1 : w1 356 2 = (if w 356 2 ≠ -1 then w 356 2 else if w 356 1 < w 356 0 then w 356 1 else -1) := by
      by_cases z : w 356 2 = -1
      · by_cases y : w 356 1 < w 356 0
        · rw [e1, if_pos ⟨z, y⟩, if_neg (fun q => q z), if_pos y]; rfl
        · rw [e1, if_neg (fun q => y q.2), if_neg (fun q => q z), if_neg y]; exact z
      · rw [e1, if_neg (fun q => z q.1), if_pos z]
    refine r_aload_n (pc := 19) dX9_verdict_19 rfl ?_
    refine h_X9_11 (pc := 20) rfl dX9_verdict_20 (by assumption) (fun h20 => ?_)
    refine r_iconst (pc := 23) (n := (-1)) dX9_verdict_23 ?_
    refine r_icmpne (pc := 24) (tgt := 32) dX9_verdict_24 rfl (by omega) (by omega) (fun h24 => ?_) (fun h24 => ?_)
    · refine r_aload_n (pc := 32) dX9_verdict_32 rfl ?_
      refine h_X9_11 (pc := 33) rfl dX9_verdict_33 (by assumption) (fun h33 => ?_)
      exact f_iret (pc := 36) dX9_verdict_36 rfl (by assumption) (hQ _ _ (by clear hQ; grind) e1 (by assumption))
    refine r_ldc (pc := 27) (n := -1000000005) dX9_verdict_27 kw_X9_45 rfl ?_
    refine r_goto (pc := 29) (tgt := 36) dX9_verdict_29 rfl ?_
    exact f_iret (pc := 36) dX9_verdict_36 rfl (by assumption) (hQ _ _ (by clear hQ; grind) e1 (by assumption))
  refine r_aload_n (pc := 0) dX9_verdict_0 rfl ?_
  refine h_X9_26 (pc := 1) rfl dX9_verdict_1 (by assumption) (fun h1 => ?_)
  refine r_aload_n (pc := 4) dX9_verdict_4 rfl ?_
  refine h_X9_19 (pc := 5) rfl dX9_verdict_5 (by assumption) (fun h5 => ?_)
  refine r_icmpge (pc := 8) (tgt := 19) dX9_verdict_8 rfl (by omega) (by omega) (fun h8 => ?_) (fun h8 => ?_)
  · exact cut19 _ (if_neg (show ¬ (w 356 2 = -1 ∧ w 356 1 < w 356 0) by omega)).symm (by assumption)
  refine r_aload_n (pc := 11) dX9_verdict_11 rfl ?_
  refine r_aload_n (pc := 12) dX9_verdict_12 rfl ?_
  refine h_X9_26 (pc := 13) rfl dX9_verdict_13 (by assumption) (fun h13 => ?_)
  refine c_X9_41 (pc := 16) rfl dX9_verdict_16 (by first | assumption | rfl) (by omega) (Nat.le_of_ble_eq_true rfl) ?_
  refine m_X9_fail (d - 1) (by omega) (by assumption) (by omega) (fun w16 e16 hw16 => ?_)
  exact cut19 _ (by
    by_cases z : w 356 2 = -1
    · rw [e16, if_pos z, if_pos (show w 356 2 = -1 ∧ w 356 1 < w 356 0 by omega)]
    · rw [e16, if_neg z, if_neg (show ¬ (w 356 2 = -1 ∧ w 356 1 < w 356 0) by omega)]) (by assumption)
