/-! formulas, states, the history -/
theorem pA_ne {n : Nat} {w : Wd} {a b : Nat} {j x : Int} (h : b ≠ a) : pA n w a j x b = w b := by
  unfold pA
  split
  · exact up_ne h
  · rfl
theorem sh_form0 : ∀ c, c < 402 → sh c = 3 → (sh (c + 1) = 1000 + 120 ∧ sh (c + 2) = 1000 + 120) := by decide +kernel
theorem sh_form {c : Nat} (h : sh c = 3) : sh (c + 1) = 1000 + 120 ∧ sh (c + 2) = 1000 + 120 := by
  have h1 := sh_in h (by decide) (by decide)
  exact sh_form0 c (by omega) h
theorem sh_sta0 : ∀ c, c < 402 → sh c = 8 → (sh (c + 1) = 10 ∧ sh (c + 4) = 3 ∧ sh (c + 7) = 40000 + 4 ∧ ∀ q, q < 4 → sh (c + 8 + 6 * q) = 0) := by decide +kernel
theorem sh_sta {c : Nat} (h : sh c = 8) : sh (c + 1) = 10 ∧ sh (c + 4) = 3 ∧ sh (c + 7) = 40000 + 4 ∧ ∀ q, q < 4 → sh (c + 8 + 6 * q) = 0 := by
  have h1 := sh_in h (by decide) (by decide)
  exact sh_sta0 c (by omega) h
theorem sh_st : ∀ q, q < 10 → sh (36 + 32 * q) = 8 := by decide +kernel
def cntL (f : Int → Int) : Nat → Int
  | 0 => 0
  | k + 1 => cntL f k + (if f k = 0 ∨ f k = 1 then 1 else 0)
def FRS (c : Nat) (w w2 : Wd) : Prop := ∀ i, (i < c ∨ c + 31 < i) → w2 i = w i
def SN (w : Wd) (e : Nat) : Prop := ∀ q : Nat, q < 4 → 0 ≤ w (e + 8 + 6 * q) 0 ∧ w (e + 8 + 6 * q) 0 ≤ 24
/-- the state at c in w2 is the one at e in w, the first k curves -/
def SCK (k : Nat) (w2 : Wd) (c : Nat) (w : Wd) (e : Nat) : Prop := w2 (c + 1) 0 = w (e + 1) 0 ∧ (∀ j, 0 ≤ j → j < 8 → w2 (c + 2) j = w (e + 2) j ∧ w2 (c + 3) j = w (e + 3) j) ∧ w2 (c + 4) 0 = w (e + 4) 0 ∧ (∀ j, 0 ≤ j → j < 120 → w2 (c + 5) j = w (e + 5) j ∧ w2 (c + 6) j = w (e + 6) j) ∧ ∀ q : Nat, q < k → CEQ (cx w2 (c + 8 + 6 * q)) (cx w (e + 8 + 6 * q))
abbrev SCE (w2 : Wd) (c : Nat) (w : Wd) (e : Nat) : Prop := SCK 4 w2 c w e
theorem sce_mf {w w8 w19 : Wd} {c e : Nat} (hce : e + 31 < c ∨ c + 31 < e) (h8 : w8 = upr (upr (up w (c + 1) 0 (w (e + 1) 0)) (e + 1 + 1) (c + 1 + 1) 8) (e + 1 + 2) (c + 1 + 2) 8) (h19 : w19 = upr (upr (up w8 (c + 4) 0 (w8 (e + 4) 0)) (e + 4 + 1) (c + 4 + 1) 120) (e + 4 + 2) (c + 4 + 2) 120) : FRS c w w19 ∧ SCK 0 w19 c w e := by
  subst h19
  subst h8
  refine ⟨fun i hi => ?_, ?_, fun j h0 h1 => ?_, ?_, fun j h0 h1 => ?_, fun q hq => absurd hq (Nat.not_lt_zero q)⟩
  · funext j
    unfold upr up
    grind
  · unfold upr up; grind
  · unfold upr up; grind
  · unfold upr up; grind
  · unfold upr up; grind
theorem FRS_c {w w1 w2 : Wd} {c k : Nat} (hk : k < 4) (h : FRS c w w1) (f : FRM (c + 8 + 6 * k) w1 w2) : FRS c w w2 := fun i hi => (f i (by omega)).trans (h i hi)
theorem SCK_s {w w1 w2 : Wd} {c e k : Nat} (hk : k < 4) (hce : e + 31 < c ∨ c + 31 < e) (hf : FRS c w w1) (h : SCK k w1 c w e) (f : FRM (c + 8 + 6 * k) w1 w2) (g : CEQ (cx w2 (c + 8 + 6 * k)) (cx w1 (e + 8 + 6 * k))) : SCK (k + 1) w2 c w e := by
  obtain ⟨h1, h2, h3, h4, h5⟩ := h
  have q : ∀ i, i ≤ 7 → w2 (c + i) = w1 (c + i) := fun i hi => f _ (by omega)
  refine ⟨by rw [q 1 (by omega)]; exact h1, fun j a b => by rw [q 2 (by omega), q 3 (by omega)]; exact h2 j a b, by rw [q 4 (by omega)]; exact h3, fun j a b => by rw [q 5 (by omega), q 6 (by omega)]; exact h4 j a b, fun p hp => ?_⟩
  by_cases e1 : p = k
  · subst e1
    have z : cx w1 (e + 8 + 6 * p) = cx w (e + 8 + 6 * p) ∨ True := Or.inr trivial
    refine g.tr ?_
    refine CEQ.of_eq fun r hr j => ?_
    unfold cx
    rw [hf _ (by omega)]
  · refine CEQ.tr (CEQ.of_eq fun r hr j => ?_) (h5 p (by omega))
    unfold cx
    rw [f _ (by omega)]
theorem tmod10 {x : Int} (h : 0 ≤ x) : x.tmod 10 = x % 10 ∧ 0 ≤ x % 10 ∧ x % 10 < 10 := ⟨Int.tmod_eq_emod_of_nonneg h, by omega, by omega⟩
/-- a record: the ring's oldest place and count after making room, the place that is written -/
def recO (w : Wd) : Int := if w 34 1 = 10 then (w 34 0 + 1) % 10 else w 34 0
def recK (w : Wd) : Int := if w 34 1 = 10 then 9 else w 34 1
def REC (w w2 : Wd) : Prop := ∃ q : Nat, q < 10 ∧ (q : Int) = (recO w + recK w) % 10 ∧ w2 34 0 = recO w ∧ w2 34 1 = recK w + 1 ∧ (∀ i, i ≠ 34 → (i < 36 + 32 * q ∨ 36 + 32 * q + 31 < i) → w2 i = w i) ∧ SCE w2 (36 + 32 * q) w 2
theorem SCK.src {k : Nat} {w2 w w1 : Wd} {c e : Nat} (hk : k ≤ 4) (h : SCK k w2 c w1 e) (f : ∀ i, e ≤ i → i ≤ e + 31 → w1 i = w i) : SCK k w2 c w e := by
  obtain ⟨h1, h2, h3, h4, h5⟩ := h
  refine ⟨by rw [h1, f _ (by omega) (by omega)], fun j a b => by rw [← f (e + 2) (by omega) (by omega), ← f (e + 3) (by omega) (by omega)]; exact h2 j a b, by rw [h3, f _ (by omega) (by omega)], fun j a b => by rw [← f (e + 5) (by omega) (by omega), ← f (e + 6) (by omega) (by omega)]; exact h4 j a b, fun q hq => (h5 q hq).tr (CEQ.of_eq fun r hr j => ?_)⟩
  unfold cx
  rw [f _ (by omega) (by omega)]
theorem SCK.dst {k : Nat} {w2 w3 w : Wd} {c e : Nat} (hk : k ≤ 4) (h : SCK k w2 c w e) (f : ∀ i, c ≤ i → i ≤ c + 31 → w3 i = w2 i) : SCK k w3 c w e := by
  obtain ⟨h1, h2, h3, h4, h5⟩ := h
  refine ⟨by rw [f _ (by omega) (by omega), h1], fun j a b => by rw [f (c + 2) (by omega) (by omega), f (c + 3) (by omega) (by omega)]; exact h2 j a b, by rw [f _ (by omega) (by omega), h3], fun j a b => by rw [f (c + 5) (by omega) (by omega), f (c + 6) (by omega) (by omega)]; exact h4 j a b, fun q hq => CEQ.tr (CEQ.of_eq fun r hr j => ?_) (h5 q hq)⟩
  unfold cx
  rw [f _ (by omega) (by omega)]
theorem REC_end {w w1 w2 : Wd} {q : Nat} (hf : ∀ i, i ≠ 34 → w1 i = w i) (bo : 0 ≤ w1 34 0 ∧ w1 34 0 < 10) (bk : 0 ≤ w1 34 1 ∧ w1 34 1 < 10) (hok : w1 34 0 = recO w ∧ w1 34 1 = recK w) (hq9 : q < 10) (hq : (q : Int) = (w1 34 0 + w1 34 1) % 10) (f : FRS (36 + 32 * q) w1 w2) (e : SCE w2 (36 + 32 * q) w1 2) : REC w (up w2 34 1 (w2 34 1 + 1)) := by
  have g := f 34 (by omega)
  refine ⟨q, hq9, by rw [hq, hok.1, hok.2], ?_, ?_, fun i hi hi2 => ?_, ?_⟩
  · rw [show up w2 34 1 (w2 34 1 + 1) 34 0 = w2 34 0 from rfl, g, hok.1]
  · rw [show up w2 34 1 (w2 34 1 + 1) 34 1 = w2 34 1 + 1 from rfl, g, hok.2]
  · rw [up_ne hi, f i hi2, hf i hi]
  · exact (e.src (by omega) (fun i a b => hf i (by omega))).dst (by omega) (fun i a b => up_ne (by omega))


set_option maxRecDepth 8000 in
theorem m_X3_copy {Q : Option AV → Wd → Prop} {w : Wd} (d : Nat) {c : Nat} {e : Nat} (hd : 2 ≤ d) (hw : WR w) (hs : sh c = 3) (hs2 : sh e = 3) (hQ : ∀ w2, w2 = upr (upr (up w c 0 (w e 0)) (e + 1) (c + 1) 120) (e + 2) (c + 2) 120 → WR w2 → Q none w2) : M mX3_copy (Rm d) [vR (some c), vR (some e)] (fl w) (lQ Q) := by
  obtain ⟨s1, s2⟩ := sh_form hs
  obtain ⟨t1, t2⟩ := sh_form hs2
  refine f_mofv (L0 := [some (vR (some c)), some (vR (some e))]) rfl (Nat.le_of_ble_eq_true rfl) rfl ?_
  refine r_aload_n (pc := 0) dX3_copy_0 rfl ?_
  refine r_aload_n (pc := 1) dX3_copy_1 rfl ?_
  refine g_X3_9 (pc := 2) rfl dX3_copy_2 (by assumption) (by first | assumption | rfl) (fun h2 => ?_)
  refine p_X3_9 (pc := 5) rfl dX3_copy_5 (by assumption) (by first | assumption | rfl) (by omega) (fun hw5 => ?_)
  refine r_aload_n (pc := 8) dX3_copy_8 rfl ?_
  refine g_X3_15 (pc := 9) rfl dX3_copy_9 (by first | assumption | rfl) ?_
  refine r_aload_n (pc := 12) dX3_copy_12 rfl ?_
  refine g_X3_15 (pc := 13) rfl dX3_copy_13 (by first | assumption | rfl) ?_
  refine c_X3_22 (pc := 16) rfl dX3_copy_16 (by omega) (Nat.le_of_ble_eq_true rfl) ?_
  refine m_X11_copyRow (d - 1) (by omega) (by assumption) (by assumption) (by assumption) (by omega) (fun w16 e16 hw16 => ?_)
  refine r_aload_n (pc := 19) dX3_copy_19 rfl ?_
  refine g_X3_19 (pc := 20) rfl dX3_copy_20 (by first | assumption | rfl) ?_
  refine r_aload_n (pc := 23) dX3_copy_23 rfl ?_
  refine g_X3_19 (pc := 24) rfl dX3_copy_24 (by first | assumption | rfl) ?_
  refine c_X3_22 (pc := 27) rfl dX3_copy_27 (by omega) (Nat.le_of_ble_eq_true rfl) ?_
  refine m_X11_copyRow (d - 1) (by omega) (by assumption) (by assumption) (by assumption) (by omega) (fun w27 e27 hw27 => ?_)
  exact f_vret (pc := 30) dX3_copy_30 rfl (by assumption) (hQ _ (by rw [e27, e16]; rfl) (by assumption))
set_option maxRecDepth 8000 in
theorem m_X3_add {Q : Option AV → Wd → Prop} {w : Wd} (d : Nat) {c : Nat} {a b : Int} (hd : 1 ≤ d) (hw : WR w) (hs : sh c = 3) (hn : 0 ≤ w c 0 ∧ w c 0 < 10000) (ha : R32 a) (hb : R32 b) (hQ : ∀ w2, w2 = up (pA 120 (pA 120 w (c + 1) (w c 0) a) (c + 2) (w c 0) b) c 0 (w c 0 + 1) → WR w2 → Q none w2) : M mX3_add (Rm d) [vR (some c), vI a, vI b] (fl w) (lQ Q) := by
  obtain ⟨s1, s2⟩ := sh_form hs
  refine f_mofv (L0 := [some (vR (some c)), some (vI a), some (vI b)]) rfl (Nat.le_of_ble_eq_true rfl) rfl ?_
  refine r_aload_n (pc := 0) dX3_add_0 rfl ?_
  refine g_X3_15 (pc := 1) rfl dX3_add_1 (by first | assumption | rfl) ?_
  refine r_aload_n (pc := 4) dX3_add_4 rfl ?_
  refine g_X3_9 (pc := 5) rfl dX3_add_5 (by assumption) (by first | assumption | rfl) (fun h5 => ?_)
  refine r_iload_n (pc := 8) dX3_add_8 rfl ?_
  refine c_X3_26 (pc := 9) rfl dX3_add_9 (by omega) (Nat.le_of_ble_eq_true rfl) ?_
  refine m_X11_put (d - 1) (by omega) (by assumption) (n := 120) (by assumption) (by omega) (by omega) (by omega) (fun w9 e9 hw9 => ?_)
  have q9 : w9 c = w c := by
    rw [e9, pA_ne (by omega)]
  have z9 : w9 c 0 = w c 0 := by rw [q9]
  refine r_aload_n (pc := 12) dX3_add_12 rfl ?_
  refine g_X3_19 (pc := 13) rfl dX3_add_13 (by first | assumption | rfl) ?_
  refine r_aload_n (pc := 16) dX3_add_16 rfl ?_
  refine g_X3_9 (pc := 17) rfl dX3_add_17 (by assumption) (by first | assumption | rfl) (fun h17 => ?_)
  refine r_iload_n (pc := 20) dX3_add_20 rfl ?_
  refine c_X3_26 (pc := 21) rfl dX3_add_21 (by omega) (Nat.le_of_ble_eq_true rfl) ?_
  refine m_X11_put (d - 1) (by omega) (by assumption) (n := 120) (by assumption) (by omega) (by omega) (by omega) (fun w21 e21 hw21 => ?_)
  have q21 : w21 c = w c := by
    rw [e21, pA_ne (by omega), q9]
  have z21 : w21 c 0 = w c 0 := by rw [q21]
  refine r_aload_n (pc := 24) dX3_add_24 rfl ?_
  refine r_dup (pc := 25) dX3_add_25 rfl ?_
  refine g_X3_9 (pc := 26) rfl dX3_add_26 (by assumption) (by first | assumption | rfl) (fun h26 => ?_)
  refine r_iconst (pc := 29) (n := 1) dX3_add_29 ?_
  refine r_iadd (pc := 30) dX3_add_30 ?_
  refine p_X3_9 (pc := 31) rfl dX3_add_31 (by assumption) (by first | assumption | rfl) (by omega) (fun hw31 => ?_)
  exact f_vret (pc := 34) dX3_add_34 rfl (by assumption) (hQ _ (by rw [z21, e21, z9, e9]) (by assumption))
set_option maxRecDepth 8000 in
theorem m_X3_operands {Q : Option AV → Wd → Prop} {w : Wd} (d : Nat) {c : Nat} (hd : 1 ≤ d) (hw : WR w) (hs : sh c = 3) (hn : 0 ≤ w c 0 ∧ w c 0 ≤ 120) (hQ : ∀ r, r = cntL (w (c + 1)) (w c 0).toNat → Q (some (vI r)) w) : M mX3_operands (Rm d) [vR (some c)] (fl w) (lQ Q) := by
  obtain ⟨s1, s2⟩ := sh_form hs
  refine f_mofv (L0 := [some (vR (some c)), none, none, none]) rfl (Nat.le_of_ble_eq_true rfl) rfl ?_
  have loop4 : ∀ n0 : Nat, ∀ k : Nat, (w c 0 - k).toNat = n0 → (k : Int) ≤ w c 0 → ∀ (x : Int) (o : Option AV), x = cntL (w (c + 1)) k → V mX3_operands (Rm d) 0 0 4 [some (vR (some c)), some (vI x), some (vI k), o] [] (fl w) (lQ Q) := by
    refine ind_lt ?_
    intro n0 ih k hm hk x o ex
    refine r_iload_n (pc := 4) dX3_operands_4 rfl ?_
    refine r_aload_n (pc := 5) dX3_operands_5 rfl ?_
    refine g_X3_9 (pc := 6) rfl dX3_operands_6 (by assumption) (by first | assumption | rfl) (fun h6 => ?_)
    refine r_icmpge (pc := 9) (tgt := 44) dX3_operands_9 rfl (by omega) (by omega) (fun h9 => ?_) (fun h9 => ?_)
    · refine r_iload_n (pc := 44) dX3_operands_44 rfl ?_
      exact f_iret (pc := 45) dX3_operands_45 rfl (by assumption) (hQ _ (by rw [ex, show k = (w c 0).toNat by omega]))
    refine r_aload_n (pc := 12) dX3_operands_12 rfl ?_
    refine g_X3_15 (pc := 13) rfl dX3_operands_13 (by first | assumption | rfl) ?_
    refine r_iload_n (pc := 16) dX3_operands_16 rfl ?_
    refine c_X3_30 (pc := 17) rfl dX3_operands_17 (by omega) (Nat.le_of_ble_eq_true rfl) ?_
    refine m_X11_at (d - 1) (by omega) (by assumption) (n := 120) (by assumption) (by omega) (by omega) (fun r17 e17 b17 => ?_)
    rw [gA_in (by omega) (by omega)] at e17
    refine r_istore3 (pc := 20) dX3_operands_20 rfl ?_
    refine r_iload_n (pc := 21) dX3_operands_21 rfl ?_
    refine r_iload_n (pc := 22) dX3_operands_22 rfl ?_
    refine r_ifeq (pc := 23) (tgt := 31) dX3_operands_23 rfl (by omega) (fun h23 => ?_) (fun h23 => ?_)
    · refine r_iconst (pc := 31) (n := 1) dX3_operands_31 ?_
      refine r_goto (pc := 32) (tgt := 36) dX3_operands_32 rfl ?_
      refine r_iadd (pc := 36) dX3_operands_36 ?_
      refine r_istore1 (pc := 37) dX3_operands_37 rfl ?_
      refine r_iinc2 (pc := 38) dX3_operands_38 rfl ?_
      refine r_goto (pc := 41) (tgt := 4) dX3_operands_41 rfl ?_
      exact ih _ (by omega) (k + 1) rfl (by omega) _ _ (by unfold cntL; rw [← ex]; first | rw [if_pos (show w (c + 1) k = 0 ∨ w (c + 1) k = 1 by omega)] | rw [if_neg (show ¬ (w (c + 1) k = 0 ∨ w (c + 1) k = 1) by omega)])
    refine r_iload_n (pc := 26) dX3_operands_26 rfl ?_
    refine r_iconst (pc := 27) (n := 1) dX3_operands_27 ?_
    refine r_icmpne (pc := 28) (tgt := 35) dX3_operands_28 rfl (by omega) (by omega) (fun h28 => ?_) (fun h28 => ?_)
    · refine r_iconst (pc := 35) (n := 0) dX3_operands_35 ?_
      refine r_iadd (pc := 36) dX3_operands_36 ?_
      refine r_istore1 (pc := 37) dX3_operands_37 rfl ?_
      refine r_iinc2 (pc := 38) dX3_operands_38 rfl ?_
      refine r_goto (pc := 41) (tgt := 4) dX3_operands_41 rfl ?_
      exact ih _ (by omega) (k + 1) rfl (by omega) _ _ (by unfold cntL; rw [← ex]; first | rw [if_pos (show w (c + 1) k = 0 ∨ w (c + 1) k = 1 by omega)] | rw [if_neg (show ¬ (w (c + 1) k = 0 ∨ w (c + 1) k = 1) by omega)])
    refine r_iconst (pc := 31) (n := 1) dX3_operands_31 ?_
    refine r_goto (pc := 32) (tgt := 36) dX3_operands_32 rfl ?_
    refine r_iadd (pc := 36) dX3_operands_36 ?_
    refine r_istore1 (pc := 37) dX3_operands_37 rfl ?_
    refine r_iinc2 (pc := 38) dX3_operands_38 rfl ?_
    refine r_goto (pc := 41) (tgt := 4) dX3_operands_41 rfl ?_
    exact ih _ (by omega) (k + 1) rfl (by omega) _ _ (by unfold cntL; rw [← ex]; first | rw [if_pos (show w (c + 1) k = 0 ∨ w (c + 1) k = 1 by omega)] | rw [if_neg (show ¬ (w (c + 1) k = 0 ∨ w (c + 1) k = 1) by omega)])
  refine r_iconst (pc := 0) (n := 0) dX3_operands_0 ?_
  refine r_istore1 (pc := 1) dX3_operands_1 rfl ?_
  refine r_iconst (pc := 2) (n := 0) dX3_operands_2 ?_
  refine r_istore2 (pc := 3) dX3_operands_3 rfl ?_
  exact loop4 _ 0 rfl (by omega) _ _ rfl
set_option maxRecDepth 8000 in
theorem m_X8_curveAt {Q : Option AV → Wd → Prop} {w : Wd} (d : Nat) {c : Nat} {q : Nat} {i : Int} (hd : 0 ≤ d) (hw : WR w) (hs : sh c = 8) (hq : q < 4) (hi : i = q) (hQ : Q (some (vR (some (c + 8 + 6 * q)))) w) : M mX8_curveAt (Rm d) [vR (some c), vI i] (fl w) (lQ Q) := by
  obtain ⟨s1, s4, s7, sq⟩ := sh_sta hs
  refine f_mofv (L0 := [some (vR (some c)), some (vI i)]) rfl (Nat.le_of_ble_eq_true rfl) rfl ?_
  subst hi
  refine r_iload_n (pc := 0) dX8_curveAt_0 rfl ?_
  refine r_iflt (pc := 1) (tgt := 22) dX8_curveAt_1 rfl (by omega) (fun h1 => ?_) (fun h1 => ?_)
  · omega
    --stop
  refine r_iload_n (pc := 4) dX8_curveAt_4 rfl ?_
  refine r_aload_n (pc := 5) dX8_curveAt_5 rfl ?_
  refine g_X8_27 (pc := 6) rfl dX8_curveAt_6 (by first | assumption | rfl) ?_
  refine f_alenC (pc := 9) dX8_curveAt_9 s7 (by omega) ?_
  refine r_icmpge (pc := 10) (tgt := 22) dX8_curveAt_10 rfl (by omega) (by omega) (fun h10 => ?_) (fun h10 => ?_)
  · omega
    --stop
  refine r_aload_n (pc := 13) dX8_curveAt_13 rfl ?_
  refine g_X8_27 (pc := 14) rfl dX8_curveAt_14 (by first | assumption | rfl) ?_
  refine r_iload_n (pc := 17) dX8_curveAt_17 rfl ?_
  refine f_aaldC (pc := 18) dX8_curveAt_18 s7 (by omega) (by omega) (by omega) ?_
  refine r_goto (pc := 19) (tgt := 23) dX8_curveAt_19 rfl ?_
  rw [show c + 7 + 1 + 6 * (q : Int).toNat = c + 8 + 6 * q by omega]
  exact f_aret (pc := 23) dX8_curveAt_23 rfl (by assumption) hQ
set_option maxRecDepth 8000 in
theorem m_X8_curveAtN {Q : Option AV → Wd → Prop} {w : Wd} (d : Nat) {c : Nat} {i : Int} (hd : 0 ≤ d) (hw : WR w) (hs : sh c = 8) (hi : ¬ (0 ≤ i ∧ i ≤ 3)) (hr : R32 i) (hQ : Q (some (vR none)) w) : M mX8_curveAt (Rm d) [vR (some c), vI i] (fl w) (lQ Q) := by
  obtain ⟨s1, s4, s7, sq⟩ := sh_sta hs
  refine f_mofv (L0 := [some (vR (some c)), some (vI i)]) rfl (Nat.le_of_ble_eq_true rfl) rfl ?_
  refine r_iload_n (pc := 0) dX8_curveAt_0 rfl ?_
  refine r_iflt (pc := 1) (tgt := 22) dX8_curveAt_1 rfl (by omega) (fun h1 => ?_) (fun h1 => ?_)
  · refine r_null (pc := 22) dX8_curveAt_22 ?_
    exact f_aret (pc := 23) dX8_curveAt_23 rfl (by assumption) hQ
  refine r_iload_n (pc := 4) dX8_curveAt_4 rfl ?_
  refine r_aload_n (pc := 5) dX8_curveAt_5 rfl ?_
  refine g_X8_27 (pc := 6) rfl dX8_curveAt_6 (by first | assumption | rfl) ?_
  refine f_alenC (pc := 9) dX8_curveAt_9 s7 (by omega) ?_
  refine r_icmpge (pc := 10) (tgt := 22) dX8_curveAt_10 rfl (by omega) (by omega) (fun h10 => ?_) (fun h10 => ?_)
  · refine r_null (pc := 22) dX8_curveAt_22 ?_
    exact f_aret (pc := 23) dX8_curveAt_23 rfl (by assumption) hQ
  omega
  --stop
set_option maxRecDepth 8000 in
theorem m_X8_copyAll {Q : Option AV → Wd → Prop} {w : Wd} (d : Nat) {c : Nat} {e : Nat} (hd : 4 ≤ d) (hw : WR w) (hs : sh c = 8) (hs2 : sh e = 8) (hce : e + 31 < c ∨ c + 31 < e) (hn : SN w e) (hQ : ∀ w2, FRS c w w2 → SCE w2 c w e → WR w2 → Q none w2) : M mX8_copyAll (Rm d) [vR (some c), vR (some e)] (fl w) (lQ Q) := by
  obtain ⟨s1, s4, s7, sq⟩ := sh_sta hs
  obtain ⟨t1, t4, t7, tq⟩ := sh_sta hs2
  refine f_mofv (L0 := [some (vR (some c)), some (vR (some e)), none, none, none]) rfl (Nat.le_of_ble_eq_true rfl) rfl ?_
  have loop24 : ∀ n0 : Nat, ∀ k : Nat, 4 - k = n0 → k ≤ 4 → ∀ (w1 : Wd) (o3 o4 : Option AV), WR w1 → FRS c w w1 → SCK k w1 c w e → V mX8_copyAll (Rm d) 0 0 24 [some (vR (some c)), some (vR (some e)), some (vI k), o3, o4] [] (fl w1) (lQ Q) := by
    refine ind_lt ?_
    intro n0 ih k hm hk w1 o3 o4 hw1 hf hkk
    refine r_iload_n (pc := 24) dX8_copyAll_24 rfl ?_
    refine r_iconst (pc := 25) (n := 4) dX8_copyAll_25 ?_
    refine r_icmpge (pc := 26) (tgt := 63) dX8_copyAll_26 rfl (by omega) (by omega) (fun h26 => ?_) (fun h26 => ?_)
    · exact f_vret (pc := 63) dX8_copyAll_63 rfl (by assumption) (hQ _ hf (by rw [show k = 4 by omega] at hkk; exact hkk) (by assumption))
    refine r_aload_n (pc := 29) dX8_copyAll_29 rfl ?_
    refine r_iload_n (pc := 30) dX8_copyAll_30 rfl ?_
    refine c_X8_39 (pc := 31) rfl dX8_copyAll_31 (by first | assumption | rfl) (by omega) (Nat.le_of_ble_eq_true rfl) ?_
    have hk4 : k < 4 := by omega
    have z1 := sq k hk4
    have z2 := tq k hk4
    refine m_X8_curveAt (q := k) (d - 1) (by omega) (by assumption) (by assumption) (by omega) (by omega) ?_
    refine r_astore3 (pc := 34) dX8_copyAll_34 rfl ?_
    refine r_aload_n (pc := 35) dX8_copyAll_35 rfl ?_
    refine r_iload_n (pc := 36) dX8_copyAll_36 rfl ?_
    refine c_X8_39 (pc := 37) rfl dX8_copyAll_37 (by first | assumption | rfl) (by omega) (Nat.le_of_ble_eq_true rfl) ?_
    refine m_X8_curveAt (q := k) (d - 1) (by omega) (by assumption) (by assumption) (by omega) (by omega) ?_
    refine r_astore4 (pc := 40) dX8_copyAll_40 rfl ?_
    refine r_aload_n (pc := 42) dX8_copyAll_42 rfl ?_
    refine r_ifnull_s (pc := 43) dX8_copyAll_43 ?_
    refine r_aload (pc := 46) dX8_copyAll_46 rfl ?_
    refine r_ifnull_s (pc := 48) dX8_copyAll_48 ?_
    refine r_aload_n (pc := 51) dX8_copyAll_51 rfl ?_
    refine r_aload (pc := 52) dX8_copyAll_52 rfl ?_
    refine c_X8_43 (pc := 54) rfl dX8_copyAll_54 (by first | assumption | rfl) (by omega) (Nat.le_of_ble_eq_true rfl) ?_
    have nn := hn k hk4
    have fe : w1 (e + 8 + 6 * k) = w (e + 8 + 6 * k) := hf _ (by omega)
    rw [← fe] at nn
    refine m_X0_copy (d - 1) (by omega) (by assumption) (by assumption) (by assumption) (by omega) (by omega) (fun w54 f54 e54 hw54 => ?_)
    refine r_iinc2 (pc := 57) dX8_copyAll_57 rfl ?_
    refine r_goto (pc := 60) (tgt := 24) dX8_copyAll_60 rfl ?_
    exact ih _ (by omega) (k + 1) rfl (by omega) _ _ _ (by assumption) (FRS_c hk4 hf f54) (SCK_s hk4 hce hf hkk f54 e54)
  refine r_aload_n (pc := 0) dX8_copyAll_0 rfl ?_
  refine g_X8_12 (pc := 1) rfl dX8_copyAll_1 (by first | assumption | rfl) ?_
  refine r_aload_n (pc := 4) dX8_copyAll_4 rfl ?_
  refine g_X8_12 (pc := 5) rfl dX8_copyAll_5 (by first | assumption | rfl) ?_
  refine c_X8_32 (pc := 8) rfl dX8_copyAll_8 (by first | assumption | rfl) (by omega) (Nat.le_of_ble_eq_true rfl) ?_
  refine m_X10_copy (d - 1) (by omega) (by assumption) (by assumption) (by assumption) (fun w8 e8 hw8 => ?_)
  refine r_aload_n (pc := 11) dX8_copyAll_11 rfl ?_
  refine g_X8_21 (pc := 12) rfl dX8_copyAll_12 (by first | assumption | rfl) ?_
  refine r_aload_n (pc := 15) dX8_copyAll_15 rfl ?_
  refine g_X8_21 (pc := 16) rfl dX8_copyAll_16 (by first | assumption | rfl) ?_
  refine c_X8_36 (pc := 19) rfl dX8_copyAll_19 (by first | assumption | rfl) (by omega) (Nat.le_of_ble_eq_true rfl) ?_
  refine m_X3_copy (d - 1) (by omega) (by assumption) (by assumption) (by assumption) (fun w19 e19 hw19 => ?_)
  refine r_iconst (pc := 22) (n := 0) dX8_copyAll_22 ?_
  refine r_istore2 (pc := 23) dX8_copyAll_23 rfl ?_
  exact loop24 _ 0 rfl (by omega) _ _ _ (by assumption) (sce_mf hce e8 e19).1 (sce_mf hce e8 e19).2
set_option maxRecDepth 8000 in
theorem m_X5_stateAt {Q : Option AV → Wd → Prop} {w : Wd} (d : Nat) {q : Nat} {i : Int} (hd : 0 ≤ d) (hw : WR w) (hq : q < 10) (hi : i = q) (hQ : Q (some (vR (some (36 + 32 * q)))) w) : M mX5_stateAt (Rm d) [vR (some 34), vI i] (fl w) (lQ Q) := by
  refine f_mofv (L0 := [some (vR (some 34)), some (vI i)]) rfl (Nat.le_of_ble_eq_true rfl) rfl ?_
  subst hi
  refine r_iload_n (pc := 0) dX5_stateAt_0 rfl ?_
  refine r_iflt (pc := 1) (tgt := 22) dX5_stateAt_1 rfl (by omega) (fun h1 => ?_) (fun h1 => ?_)
  · omega
    --stop
  refine r_iload_n (pc := 4) dX5_stateAt_4 rfl ?_
  refine r_aload_n (pc := 5) dX5_stateAt_5 rfl ?_
  refine h_X5_11 (pc := 6) rfl dX5_stateAt_6 ?_
  refine f_alenS (pc := 9) dX5_stateAt_9 (show sh 35 = 50000 + 10 from rfl) ?_
  refine r_icmpge (pc := 10) (tgt := 22) dX5_stateAt_10 rfl (by omega) (by omega) (fun h10 => ?_) (fun h10 => ?_)
  · omega
    --stop
  refine r_aload_n (pc := 13) dX5_stateAt_13 rfl ?_
  refine h_X5_11 (pc := 14) rfl dX5_stateAt_14 ?_
  refine r_iload_n (pc := 17) dX5_stateAt_17 rfl ?_
  refine f_aaldS (pc := 18) dX5_stateAt_18 (show sh 35 = 50000 + 10 from rfl) (by omega) (by omega) (by omega) ?_
  refine r_goto (pc := 19) (tgt := 23) dX5_stateAt_19 rfl ?_
  rw [show 35 + 1 + 32 * (q : Int).toNat = 36 + 32 * q by omega]
  exact f_aret (pc := 23) dX5_stateAt_23 rfl (by assumption) hQ
set_option maxRecDepth 8000 in
theorem m_X5_record {Q : Option AV → Wd → Prop} {w : Wd} (d : Nat) (hd : 5 ≤ d) (hw : WR w) (hh : (0 ≤ w 34 0 ∧ w 34 0 < 10) ∧ 0 ≤ w 34 1 ∧ w 34 1 ≤ 10) (hn : SN w 2) (hQ : ∀ w2, REC w w2 → WR w2 → Q none w2) : M mX5_record (Rm d) [vR (some 34), vR (some 2)] (fl w) (lQ Q) := by
  refine f_mofv (L0 := [some (vR (some 34)), some (vR (some 2)), none]) rfl (Nat.le_of_ble_eq_true rfl) rfl ?_
  have cut32 : ∀ (o k : Int) (w1 : Wd), WR w1 → (∀ i, i ≠ 34 → w1 i = w i) → w1 34 0 = o → w1 34 1 = k → (0 ≤ o ∧ o < 10) → (0 ≤ k ∧ k < 10) → (o = recO w ∧ k = recK w) → V mX5_record (Rm d) 0 0 32 [some (vR (some 34)), some (vR (some 2)), none] [] (fl w1) (lQ Q) := by
    intro o k w1 hw1 hf ho hk bo bk hok
    subst ho
    subst hk
    have m0 := tmod10 (x := w1 34 0 + w1 34 1) (by omega)
    refine r_aload_n (pc := 32) dX5_record_32 rfl ?_
    refine r_aload_n (pc := 33) dX5_record_33 rfl ?_
    refine h_X5_22 (pc := 34) rfl dX5_record_34 (by assumption) (fun h34 => ?_)
    refine r_aload_n (pc := 37) dX5_record_37 rfl ?_
    refine h_X5_18 (pc := 38) rfl dX5_record_38 (by assumption) (fun h38 => ?_)
    refine r_iadd (pc := 41) dX5_record_41 ?_
    refine r_bipush (pc := 42) (n := 10) dX5_record_42 (by decide) ?_
    refine r_irem (pc := 44) dX5_record_44 (by omega) (by omega) (by omega) ?_
    rw [m0.1]
    refine c_X5_25 (pc := 45) rfl dX5_record_45 (by first | assumption | rfl) (by omega) (Nat.le_of_ble_eq_true rfl) ?_
    obtain ⟨q, hq⟩ : ∃ q : Nat, (q : Int) = (w1 34 0 + w1 34 1) % 10 := ⟨((w1 34 0 + w1 34 1) % 10).toNat, by omega⟩
    have hq9 : q < 10 := by omega
    have sq := sh_st q hq9
    rw [← hq]
    refine m_X5_stateAt (q := q) (d - 1) (by omega) (by assumption) hq9 rfl ?_
    refine r_astore2 (pc := 48) dX5_record_48 rfl ?_
    refine r_aload_n (pc := 49) dX5_record_49 rfl ?_
    refine r_ifnull_s (pc := 50) dX5_record_50 ?_
    refine r_aload_n (pc := 53) dX5_record_53 rfl ?_
    refine r_aload_n (pc := 54) dX5_record_54 rfl ?_
    refine c_X5_29 (pc := 55) rfl dX5_record_55 (by first | assumption | rfl) (by omega) (Nat.le_of_ble_eq_true rfl) ?_
    have nn : SN w1 2 := fun q hq => by rw [hf _ (by omega)]; exact hn q hq
    refine m_X8_copyAll (d - 1) (by omega) (by assumption) (by assumption) rfl (by omega) (by assumption) (fun w55 f55 e55 hw55 => ?_)
    have g34 : w55 34 1 = w1 34 1 := by rw [f55 34 (by omega)]
    refine r_aload_n (pc := 58) dX5_record_58 rfl ?_
    refine r_dup (pc := 59) dX5_record_59 rfl ?_
    refine h_X5_18 (pc := 60) rfl dX5_record_60 (by assumption) (fun h60 => ?_)
    refine r_iconst (pc := 63) (n := 1) dX5_record_63 ?_
    refine r_iadd (pc := 64) dX5_record_64 ?_
    refine ph_X5_18 (pc := 65) rfl dX5_record_65 (by assumption) (by omega) (fun hw65 => ?_)
    exact f_vret (pc := 68) dX5_record_68 rfl (by assumption) (hQ _ (REC_end hf bo bk hok hq9 hq f55 e55) (by assumption))
  refine r_aload_n (pc := 0) dX5_record_0 rfl ?_
  refine h_X5_18 (pc := 1) rfl dX5_record_1 (by assumption) (fun h1 => ?_)
  refine r_bipush (pc := 4) (n := 10) dX5_record_4 (by decide) ?_
  refine r_icmpne (pc := 6) (tgt := 32) dX5_record_6 rfl (by omega) (by omega) (fun h6 => ?_) (fun h6 => ?_)
  · exact cut32 _ _ _ (by assumption) (fun i _ => rfl) rfl rfl (by omega) (by omega) (by unfold recO recK; rw [if_neg (by omega), if_neg (by omega)]; exact ⟨rfl, rfl⟩)
  refine r_aload_n (pc := 9) dX5_record_9 rfl ?_
  refine r_aload_n (pc := 10) dX5_record_10 rfl ?_
  refine h_X5_22 (pc := 11) rfl dX5_record_11 (by assumption) (fun h11 => ?_)
  refine r_iconst (pc := 14) (n := 1) dX5_record_14 ?_
  refine r_iadd (pc := 15) dX5_record_15 ?_
  refine r_bipush (pc := 16) (n := 10) dX5_record_16 (by decide) ?_
  refine r_irem (pc := 18) dX5_record_18 (by omega) (by omega) (by omega) ?_
  have m0 := tmod10 (x := w 34 0 + 1) (by omega)
  rw [m0.1]
  refine ph_X5_22 (pc := 19) rfl dX5_record_19 (by assumption) (by omega) (fun hw19 => ?_)
  refine r_aload_n (pc := 22) dX5_record_22 rfl ?_
  refine r_dup (pc := 23) dX5_record_23 rfl ?_
  refine h_X5_18 (pc := 24) rfl dX5_record_24 (by assumption) (fun h24 => ?_)
  refine r_iconst (pc := 27) (n := 1) dX5_record_27 ?_
  refine r_isub (pc := 28) dX5_record_28 ?_
  rw [show up w 34 0 ((w 34 0 + 1) % 10) 34 1 = w 34 1 from rfl]
  refine ph_X5_18 (pc := 29) rfl dX5_record_29 (by assumption) (by omega) (fun hw29 => ?_)
  exact cut32 ((w 34 0 + 1) % 10) (w 34 1 - 1) _ (by assumption) (fun i hi => by rw [up_ne hi, up_ne hi]) rfl rfl (by omega) (by omega) (by unfold recO recK; rw [if_pos (by omega), if_pos (by omega)]; exact ⟨rfl, by omega⟩)
