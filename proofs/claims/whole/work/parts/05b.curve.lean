set_option maxRecDepth 8000 in
theorem m_X0_has {Q : Option AV → Wd → Prop} {w : Wd} (d : Nat) {c : Nat} {k : Int} (hd : 0 ≤ d) (hw : WR w) (hs : sh c = 0) (hk : R32 k) (hQ : ∀ r, r = b2i (0 ≤ k ∧ k < w c 0) → (r = 0 ∨ r = 1) → Q (some (vI r)) w) : M mX0_has (Rm d) [vR (some c), vI k] (fl w) (lQ Q) := by
  refine f_mofv (L0 := [some (vR (some c)), some (vI k)]) rfl (Nat.le_of_ble_eq_true rfl) rfl ?_
  refine r_iload_n (pc := 0) dX0_has_0 rfl ?_
  refine r_iflt (pc := 1) (tgt := 16) dX0_has_1 rfl (by omega) (fun h1 => ?_) (fun h1 => ?_)
  · refine r_iconst (pc := 16) (n := 0) dX0_has_16 ?_
    exact f_zret (pc := 17) dX0_has_17 rfl (by first | exact Or.inl rfl | exact Or.inr rfl | omega) (by assumption) (hQ _ (by unfold b2i; split <;> omega) (by omega))
  refine r_iload_n (pc := 4) dX0_has_4 rfl ?_
  refine r_aload_n (pc := 5) dX0_has_5 rfl ?_
  refine g_X0_38 (pc := 6) rfl dX0_has_6 (by assumption) (by first | assumption | rfl) (fun h6 => ?_)
  refine r_icmpge (pc := 9) (tgt := 16) dX0_has_9 rfl (by omega) (by omega) (fun h9 => ?_) (fun h9 => ?_)
  · refine r_iconst (pc := 16) (n := 0) dX0_has_16 ?_
    exact f_zret (pc := 17) dX0_has_17 rfl (by first | exact Or.inl rfl | exact Or.inr rfl | omega) (by assumption) (hQ _ (by unfold b2i; split <;> omega) (by omega))
  refine r_iconst (pc := 12) (n := 1) dX0_has_12 ?_
  refine r_goto (pc := 13) (tgt := 17) dX0_has_13 rfl ?_
  exact f_zret (pc := 17) dX0_has_17 rfl (by first | exact Or.inl rfl | exact Or.inr rfl | omega) (by assumption) (hQ _ (by unfold b2i; split <;> omega) (by omega))
set_option maxRecDepth 8000 in
theorem m_X0_keysBefore {Q : Option AV → Wd → Prop} {w : Wd} (d : Nat) {c : Nat} {t : Int} (hd : 1 ≤ d) (hw : WR w) (hs : sh c = 0) (hn : 0 ≤ w c 0 ∧ w c 0 ≤ 24) (ht : R32 t) (hQ : ∀ r, KB (w c 0) (w (c + 1)) t r → Q (some (vI r)) w) : M mX0_keysBefore (Rm d) [vR (some c), vI t] (fl w) (lQ Q) := by
  obtain ⟨s1, s2, s3, s4, s5⟩ := sh_curve hs
  refine f_mofv (L0 := [some (vR (some c)), some (vI t), none]) rfl (Nat.le_of_ble_eq_true rfl) rfl ?_
  have loop2 : ∀ n0 : Nat, ∀ key : Int, (w c 0 - key).toNat = n0 → 0 ≤ key → key ≤ w c 0 → (∀ j, 0 ≤ j → j < key → w (c + 1) j < t) → V mX0_keysBefore (Rm d) 0 0 2 [some (vR (some c)), some (vI t), some (vI key)] [] (fl w) (lQ Q) := by
    refine ind_lt ?_
    intro n0 ih key hm hk0 hkn hj
    refine r_iload_n (pc := 2) dX0_keysBefore_2 rfl ?_
    refine r_aload_n (pc := 3) dX0_keysBefore_3 rfl ?_
    refine g_X0_38 (pc := 4) rfl dX0_keysBefore_4 (by assumption) (by first | assumption | rfl) (fun h4 => ?_)
    refine r_icmpge (pc := 7) (tgt := 28) dX0_keysBefore_7 rfl (by omega) (by omega) (fun h7 => ?_) (fun h7 => ?_)
    · refine r_iload_n (pc := 28) dX0_keysBefore_28 rfl ?_
      exact f_iret (pc := 29) dX0_keysBefore_29 rfl (by assumption) (hQ _ ⟨by omega, by omega, hj, fun h => by omega⟩)
    refine r_aload_n (pc := 10) dX0_keysBefore_10 rfl ?_
    refine g_X0_18 (pc := 11) rfl dX0_keysBefore_11 (by first | assumption | rfl) ?_
    refine r_iload_n (pc := 14) dX0_keysBefore_14 rfl ?_
    refine c_X0_53 (pc := 15) rfl dX0_keysBefore_15 (by omega) (Nat.le_of_ble_eq_true rfl) ?_
    refine m_X11_at (d - 1) (by omega) (by assumption) (n := 24) (by assumption) (by omega) (by omega) (fun r15 e15 b15 => ?_)
    rw [gA_in (by omega) (by omega)] at e15
    refine r_iload_n (pc := 18) dX0_keysBefore_18 rfl ?_
    refine r_icmpge (pc := 19) (tgt := 28) dX0_keysBefore_19 rfl (by omega) (by omega) (fun h19 => ?_) (fun h19 => ?_)
    · refine r_iload_n (pc := 28) dX0_keysBefore_28 rfl ?_
      exact f_iret (pc := 29) dX0_keysBefore_29 rfl (by assumption) (hQ _ ⟨by omega, by omega, hj, fun h => by omega⟩)
    refine r_iinc2 (pc := 22) dX0_keysBefore_22 rfl ?_
    refine r_goto (pc := 25) (tgt := 2) dX0_keysBefore_25 rfl ?_
    exact ih _ (by omega) (key + 1) rfl (by omega) (by omega) (fun j h1 h2 => by
      rcases Int.lt_or_le j key with q | q
      · exact hj j h1 q
      · rw [show j = key by omega]; omega)
  refine r_iconst (pc := 0) (n := 0) dX0_keysBefore_0 ?_
  refine r_istore2 (pc := 1) dX0_keysBefore_1 rfl ?_
  exact loop2 _ 0 rfl (by omega) (by omega) (fun j h1 h2 => by omega)
set_option maxRecDepth 8000 in
theorem m_X0_find {Q : Option AV → Wd → Prop} {w : Wd} (d : Nat) {c : Nat} {t : Int} (hd : 2 ≤ d) (hw : WR w) (hs : sh c = 0) (hn : 0 ≤ w c 0 ∧ w c 0 ≤ 24) (ht : R32 t) (hQ : ∀ r k, KB (w c 0) (w (c + 1)) t k → r = (if k < w c 0 ∧ w (c + 1) k = t then k else -1) → Q (some (vI r)) w) : M mX0_find (Rm d) [vR (some c), vI t] (fl w) (lQ Q) := by
  obtain ⟨s1, s2, s3, s4, s5⟩ := sh_curve hs
  refine f_mofv (L0 := [some (vR (some c)), some (vI t), none]) rfl (Nat.le_of_ble_eq_true rfl) rfl ?_
  refine r_aload_n (pc := 0) dX0_find_0 rfl ?_
  refine r_iload_n (pc := 1) dX0_find_1 rfl ?_
  refine c_X0_45 (pc := 2) rfl dX0_find_2 (by first | assumption | rfl) (by omega) (Nat.le_of_ble_eq_true rfl) ?_
  refine m_X0_keysBefore (d - 1) (by omega) (by assumption) (by assumption) (by omega) (by omega) (fun r2 e2 => ?_)
  refine r_istore2 (pc := 5) dX0_find_5 rfl ?_
  have B2 := e2
  obtain ⟨k1, k2, k3, k4⟩ := e2
  refine r_aload_n (pc := 6) dX0_find_6 rfl ?_
  refine r_iload_n (pc := 7) dX0_find_7 rfl ?_
  refine c_X0_49 (pc := 8) rfl dX0_find_8 (by first | assumption | rfl) (by omega) (Nat.le_of_ble_eq_true rfl) ?_
  refine m_X0_has (d - 1) (by omega) (by assumption) (by assumption) (by omega) (fun r8 e8 b8 => ?_)
  unfold b2i at e8
  refine r_ifeq (pc := 11) (tgt := 30) dX0_find_11 rfl (by omega) (fun h11 => ?_) (fun h11 => ?_)
  · refine r_iconst (pc := 30) (n := (-1)) dX0_find_30 ?_
    exact f_iret (pc := 31) dX0_find_31 rfl (by assumption) (hQ _ _ B2 (by split at e8 <;> split <;> omega))
  refine r_aload_n (pc := 14) dX0_find_14 rfl ?_
  refine g_X0_18 (pc := 15) rfl dX0_find_15 (by first | assumption | rfl) ?_
  refine r_iload_n (pc := 18) dX0_find_18 rfl ?_
  refine c_X0_53 (pc := 19) rfl dX0_find_19 (by omega) (Nat.le_of_ble_eq_true rfl) ?_
  have h9 : r2 < w c 0 := by
    split at e8 <;> omega
  refine m_X11_at (d - 1) (by omega) (by assumption) (n := 24) (by assumption) (by omega) (by omega) (fun r19 e19 b19 => ?_)
  rw [gA_in (by omega) (by omega)] at e19
  refine r_iload_n (pc := 22) dX0_find_22 rfl ?_
  refine r_icmpne (pc := 23) (tgt := 30) dX0_find_23 rfl (by omega) (by omega) (fun h23 => ?_) (fun h23 => ?_)
  · refine r_iconst (pc := 30) (n := (-1)) dX0_find_30 ?_
    exact f_iret (pc := 31) dX0_find_31 rfl (by assumption) (hQ _ _ B2 (by split at e8 <;> split <;> omega))
  refine r_iload_n (pc := 26) dX0_find_26 rfl ?_
  refine r_goto (pc := 27) (tgt := 31) dX0_find_27 rfl ?_
  exact f_iret (pc := 31) dX0_find_31 rfl (by assumption) (hQ _ _ B2 (by split at e8 <;> split <;> omega))
set_option maxRecDepth 8000 in
theorem m_X0_bothExtrapolations {Q : Option AV → Wd → Prop} {w : Wd} (d : Nat) {c : Nat} (hd : 0 ≤ d) (hw : WR w) (hs : sh c = 0) (hQ : ∀ r, r = 10 * w c 1 + w c 2 → Q (some (vI r)) w) : M mX0_bothExtrapolations (Rm d) [vR (some c)] (fl w) (lQ Q) := by
  refine f_mofv (L0 := [some (vR (some c))]) rfl (Nat.le_of_ble_eq_true rfl) rfl ?_
  refine r_bipush (pc := 0) (n := 10) dX0_bothExtrapolations_0 (by decide) ?_
  refine r_aload_n (pc := 2) dX0_bothExtrapolations_2 rfl ?_
  refine g_X0_9 (pc := 3) rfl dX0_bothExtrapolations_3 (by assumption) (by first | assumption | rfl) (fun h3 => ?_)
  refine r_imul (pc := 6) dX0_bothExtrapolations_6 ?_
  refine r_aload_n (pc := 7) dX0_bothExtrapolations_7 rfl ?_
  refine g_X0_15 (pc := 8) rfl dX0_bothExtrapolations_8 (by assumption) (by first | assumption | rfl) (fun h8 => ?_)
  refine r_iadd (pc := 11) dX0_bothExtrapolations_11 ?_
  exact f_iret (pc := 12) dX0_bothExtrapolations_12 rfl (by assumption) (hQ _ (by omega))
set_option maxRecDepth 8000 in
theorem m_X0_shift {Q : Option AV → Wd → Prop} {w : Wd} (d : Nat) {c : Nat} {f t : Int} (hd : 1 ≤ d) (hw : WR w) (hs : sh c = 0) (hf : 0 ≤ f ∧ f < 24) (ht : 0 ≤ t ∧ t < 24) (hne : f ≠ t) (hQ : ∀ w2, w2 = shW w c f t → WR w2 → Q none w2) : M mX0_shift (Rm d) [vR (some c), vI f, vI t] (fl w) (lQ Q) := by
  obtain ⟨s1, s2, s3, s4, s5⟩ := sh_curve hs
  refine f_mofv (L0 := [some (vR (some c)), some (vI f), some (vI t)]) rfl (Nat.le_of_ble_eq_true rfl) rfl ?_
  refine r_aload_n (pc := 0) dX0_shift_0 rfl ?_
  refine g_X0_18 (pc := 1) rfl dX0_shift_1 (by first | assumption | rfl) ?_
  refine r_iload_n (pc := 4) dX0_shift_4 rfl ?_
  refine r_aload_n (pc := 5) dX0_shift_5 rfl ?_
  refine g_X0_18 (pc := 6) rfl dX0_shift_6 (by first | assumption | rfl) ?_
  refine r_iload_n (pc := 9) dX0_shift_9 rfl ?_
  refine c_X0_53 (pc := 10) rfl dX0_shift_10 (by omega) (Nat.le_of_ble_eq_true rfl) ?_
  refine m_X11_at (d - 1) (by omega) (by assumption) (n := 24) (by assumption) (by omega) (by omega) (fun r10 e10 b10 => ?_)
  rw [gA_in (by omega) (by omega)] at e10
  refine c_X0_61 (pc := 13) rfl dX0_shift_13 (by omega) (Nat.le_of_ble_eq_true rfl) ?_
  refine m_X11_put (d - 1) (by omega) (by assumption) (n := 24) (by assumption) (by omega) (by omega) (by omega) (fun w13 e13 hw13 => ?_)
  rw [pA_in (by omega) (by omega)] at e13
  refine r_aload_n (pc := 16) dX0_shift_16 rfl ?_
  refine g_X0_22 (pc := 17) rfl dX0_shift_17 (by first | assumption | rfl) ?_
  refine r_iload_n (pc := 20) dX0_shift_20 rfl ?_
  refine r_aload_n (pc := 21) dX0_shift_21 rfl ?_
  refine g_X0_22 (pc := 22) rfl dX0_shift_22 (by first | assumption | rfl) ?_
  refine r_iload_n (pc := 25) dX0_shift_25 rfl ?_
  refine c_X0_53 (pc := 26) rfl dX0_shift_26 (by omega) (Nat.le_of_ble_eq_true rfl) ?_
  refine m_X11_at (d - 1) (by omega) (by assumption) (n := 24) (by assumption) (by omega) (by omega) (fun r26 e26 b26 => ?_)
  rw [gA_in (by omega) (by omega)] at e26
  refine c_X0_61 (pc := 29) rfl dX0_shift_29 (by omega) (Nat.le_of_ble_eq_true rfl) ?_
  refine m_X11_put (d - 1) (by omega) (by assumption) (n := 24) (by assumption) (by omega) (by omega) (by omega) (fun w29 e29 hw29 => ?_)
  rw [pA_in (by omega) (by omega)] at e29
  refine r_aload_n (pc := 32) dX0_shift_32 rfl ?_
  refine g_X0_25 (pc := 33) rfl dX0_shift_33 (by first | assumption | rfl) ?_
  refine r_iload_n (pc := 36) dX0_shift_36 rfl ?_
  refine r_aload_n (pc := 37) dX0_shift_37 rfl ?_
  refine g_X0_25 (pc := 38) rfl dX0_shift_38 (by first | assumption | rfl) ?_
  refine r_iload_n (pc := 41) dX0_shift_41 rfl ?_
  refine c_X0_53 (pc := 42) rfl dX0_shift_42 (by omega) (Nat.le_of_ble_eq_true rfl) ?_
  refine m_X11_at (d - 1) (by omega) (by assumption) (n := 24) (by assumption) (by omega) (by omega) (fun r42 e42 b42 => ?_)
  rw [gA_in (by omega) (by omega)] at e42
  refine c_X0_61 (pc := 45) rfl dX0_shift_45 (by omega) (Nat.le_of_ble_eq_true rfl) ?_
  refine m_X11_put (d - 1) (by omega) (by assumption) (n := 24) (by assumption) (by omega) (by omega) (by omega) (fun w45 e45 hw45 => ?_)
  rw [pA_in (by omega) (by omega)] at e45
  refine r_aload_n (pc := 48) dX0_shift_48 rfl ?_
  refine g_X0_28 (pc := 49) rfl dX0_shift_49 (by first | assumption | rfl) ?_
  refine r_iload_n (pc := 52) dX0_shift_52 rfl ?_
  refine r_aload_n (pc := 53) dX0_shift_53 rfl ?_
  refine g_X0_28 (pc := 54) rfl dX0_shift_54 (by first | assumption | rfl) ?_
  refine r_iload_n (pc := 57) dX0_shift_57 rfl ?_
  refine c_X0_53 (pc := 58) rfl dX0_shift_58 (by omega) (Nat.le_of_ble_eq_true rfl) ?_
  refine m_X11_at (d - 1) (by omega) (by assumption) (n := 24) (by assumption) (by omega) (by omega) (fun r58 e58 b58 => ?_)
  rw [gA_in (by omega) (by omega)] at e58
  refine c_X0_61 (pc := 61) rfl dX0_shift_61 (by omega) (Nat.le_of_ble_eq_true rfl) ?_
  refine m_X11_put (d - 1) (by omega) (by assumption) (n := 24) (by assumption) (by omega) (by omega) (by omega) (fun w61 e61 hw61 => ?_)
  rw [pA_in (by omega) (by omega)] at e61
  refine r_aload_n (pc := 64) dX0_shift_64 rfl ?_
  refine g_X0_31 (pc := 65) rfl dX0_shift_65 (by first | assumption | rfl) ?_
  refine r_iload_n (pc := 68) dX0_shift_68 rfl ?_
  refine r_aload_n (pc := 69) dX0_shift_69 rfl ?_
  refine g_X0_31 (pc := 70) rfl dX0_shift_70 (by first | assumption | rfl) ?_
  refine r_iload_n (pc := 73) dX0_shift_73 rfl ?_
  refine c_X0_53 (pc := 74) rfl dX0_shift_74 (by omega) (Nat.le_of_ble_eq_true rfl) ?_
  refine m_X11_at (d - 1) (by omega) (by assumption) (n := 24) (by assumption) (by omega) (by omega) (fun r74 e74 b74 => ?_)
  rw [gA_in (by omega) (by omega)] at e74
  refine c_X0_61 (pc := 77) rfl dX0_shift_77 (by omega) (Nat.le_of_ble_eq_true rfl) ?_
  refine m_X11_put (d - 1) (by omega) (by assumption) (n := 24) (by assumption) (by omega) (by omega) (by omega) (fun w77 e77 hw77 => ?_)
  rw [pA_in (by omega) (by omega)] at e77
  exact f_vret (pc := 80) dX0_shift_80 rfl (by assumption) (hQ _ (by
      rw [← sh5 hne]
      subst e77; subst e61; subst e45; subst e29; subst e13
      have g : ∀ (v : Wd) (a b : Nat) (x y : Int), b ≠ a → up v a x y b = v b := fun v a b x y h => up_ne h
      rw [e74, e58, e42, e26, e10]
      simp only [g _ _ (c + 5) _ _ (show c + 5 ≠ c + 4 by omega), g _ _ (c + 5) _ _ (show c + 5 ≠ c + 3 by omega), g _ _ (c + 5) _ _ (show c + 5 ≠ c + 2 by omega), g _ _ (c + 5) _ _ (show c + 5 ≠ c + 1 by omega), g _ _ (c + 4) _ _ (show c + 4 ≠ c + 3 by omega), g _ _ (c + 4) _ _ (show c + 4 ≠ c + 2 by omega), g _ _ (c + 4) _ _ (show c + 4 ≠ c + 1 by omega), g _ _ (c + 3) _ _ (show c + 3 ≠ c + 2 by omega), g _ _ (c + 3) _ _ (show c + 3 ≠ c + 1 by omega), g _ _ (c + 2) _ _ (show c + 2 ≠ c + 1 by omega)]) (by assumption))
set_option maxRecDepth 8000 in
theorem m_X0_drop {Q : Option AV → Wd → Prop} {w : Wd} (d : Nat) {c : Nat} {k : Int} (hd : 2 ≤ d) (hw : WR w) (hs : sh c = 0) (hn : 0 ≤ w c 0 ∧ w c 0 ≤ 24) (hk : 0 ≤ k ∧ k < w c 0) (hQ : ∀ w2, FRM c w w2 → CEQ (cx w2 c) (delX (cx w c) k) → WR w2 → Q none w2) : M mX0_drop (Rm d) [vR (some c), vI k] (fl w) (lQ Q) := by
  have D0 : ∀ i, delW w c k i c = w c := fun i => by
    funext j
    unfold delW
    grind
  refine f_mofv (L0 := [some (vR (some c)), some (vI k), none]) rfl (Nat.le_of_ble_eq_true rfl) rfl ?_
  have loop4 : ∀ n0 : Nat, ∀ i : Int, (w c 0 - i).toNat = n0 → k + 1 ≤ i → i ≤ w c 0 → WR (delW w c k i) → V mX0_drop (Rm d) 0 0 4 [some (vR (some c)), some (vI k), some (vI i)] [] (fl (delW w c k i)) (lQ Q) := by
    refine ind_lt ?_
    intro n0 ih i hm hi0 hin hwi
    refine r_iload_n (pc := 4) dX0_drop_4 rfl ?_
    refine r_aload_n (pc := 5) dX0_drop_5 rfl ?_
    refine g_X0_38 (pc := 6) rfl dX0_drop_6 (by assumption) (by first | assumption | rfl) (fun h6 => ?_)
    rw [D0] at h6
    rw [D0]
    refine r_icmpge (pc := 9) (tgt := 26) dX0_drop_9 rfl (by omega) (by omega) (fun h9 => ?_) (fun h9 => ?_)
    · refine r_aload_n (pc := 26) dX0_drop_26 rfl ?_
      refine r_dup (pc := 27) dX0_drop_27 rfl ?_
      refine g_X0_38 (pc := 28) rfl dX0_drop_28 (by assumption) (by first | assumption | rfl) (fun h28 => ?_)
      refine r_iconst (pc := 31) (n := 1) dX0_drop_31 ?_
      refine r_isub (pc := 32) dX0_drop_32 ?_
      rw [D0]
      refine p_X0_38 (pc := 33) rfl dX0_drop_33 (by assumption) (by first | assumption | rfl) (by omega) (fun hw33 => ?_)
      exact f_vret (pc := 36) dX0_drop_36 rfl (by assumption) (by
          have E : i = w c 0 := by omega
          subst E
          obtain ⟨g1, g2⟩ := del_end (w := w) (c := c) (k := k) (n := w c 0) rfl hk.1 hk.2 rfl
          exact hQ _ g1 g2 (by assumption))
    refine r_aload_n (pc := 12) dX0_drop_12 rfl ?_
    refine r_iload_n (pc := 13) dX0_drop_13 rfl ?_
    refine r_iload_n (pc := 14) dX0_drop_14 rfl ?_
    refine r_iconst (pc := 15) (n := 1) dX0_drop_15 ?_
    refine r_isub (pc := 16) dX0_drop_16 ?_
    refine c_X0_57 (pc := 17) rfl dX0_drop_17 (by first | assumption | rfl) (by omega) (Nat.le_of_ble_eq_true rfl) ?_
    refine m_X0_shift (d - 1) (by omega) (by assumption) (by assumption) (by omega) (by omega) (by omega) (fun w17 e17 hw17 => ?_)
    refine r_iinc2 (pc := 20) dX0_drop_20 rfl ?_
    refine r_goto (pc := 23) (tgt := 4) dX0_drop_23 rfl ?_
    rw [delW_step (by omega)] at e17
    subst e17
    exact ih _ (by omega) (i + 1) rfl (by omega) (by omega) (by assumption)
  refine r_iload_n (pc := 0) dX0_drop_0 rfl ?_
  refine r_iconst (pc := 1) (n := 1) dX0_drop_1 ?_
  refine r_iadd (pc := 2) dX0_drop_2 ?_
  refine r_istore2 (pc := 3) dX0_drop_3 rfl ?_
  rw [show fl w = fl (delW w c k (k + 1)) by rw [delW_0]]
  exact loop4 _ (k + 1) rfl (by omega) (by omega) (by rw [delW_0]; exact hw)
set_option maxRecDepth 8000 in
theorem m_X0_insert {Q : Option AV → Wd → Prop} {w : Wd} (d : Nat) {c : Nat} {t h m a b : Int} (hd : 2 ≤ d) (hw : WR w) (hs : sh c = 0) (hn : 0 ≤ w c 0 ∧ w c 0 ≤ 23) (ht : R32 t) (hh : R32 h) (hm : R32 m) (ha : R32 a) (hb : R32 b) (hQ : ∀ k w2, KB (w c 0) (w (c + 1)) t k → FRM c w w2 → CEQ (cx w2 c) (insX (cx w c) k (v5 t h m a b)) → WR w2 → Q (some (vI k)) w2) : M mX0_insert (Rm d) [vR (some c), vI t, vI h, vI m, vI a, vI b] (fl w) (lQ Q) := by
  obtain ⟨s1, s2, s3, s4, s5⟩ := sh_curve hs
  have D0 : ∀ k i, insW w c k i c = w c := fun k i => by
    funext j
    unfold insW
    grind
  refine f_mofv (L0 := [some (vR (some c)), some (vI t), some (vI h), some (vI m), some (vI a), some (vI b), none, none]) rfl (Nat.le_of_ble_eq_true rfl) rfl ?_
  have loop13 : ∀ k : Int, KB (w c 0) (w (c + 1)) t k → ∀ n0 : Nat, ∀ i : Int, (i - k).toNat = n0 → k ≤ i → i ≤ w c 0 → WR (insW w c i (w c 0)) → V mX0_insert (Rm d) 0 0 13 [some (vR (some c)), some (vI t), some (vI h), some (vI m), some (vI a), some (vI b), some (vI k), some (vI i)] [] (fl (insW w c i (w c 0))) (lQ Q) := by
    intro k hk
    have hk2 := hk
    obtain ⟨k1, k2, k3, k4⟩ := hk2
    refine ind_lt ?_
    intro n0 ih i hm0 hi0 hin hwi
    refine r_iload (pc := 13) dX0_insert_13 rfl ?_
    refine r_iload (pc := 15) dX0_insert_15 rfl ?_
    refine r_icmple (pc := 17) (tgt := 36) dX0_insert_17 rfl (by omega) (by omega) (fun h17 => ?_) (fun h17 => ?_)
    · have E : i = k := by omega
      subst E
      refine r_aload_n (pc := 36) dX0_insert_36 rfl ?_
      refine r_dup (pc := 37) dX0_insert_37 rfl ?_
      refine g_X0_38 (pc := 38) rfl dX0_insert_38 (by assumption) (by first | assumption | rfl) (fun h38 => ?_)
      rw [D0] at h38
      rw [D0]
      refine r_iconst (pc := 41) (n := 1) dX0_insert_41 ?_
      refine r_iadd (pc := 42) dX0_insert_42 ?_
      refine p_X0_38 (pc := 43) rfl dX0_insert_43 (by assumption) (by first | assumption | rfl) (by omega) (fun hw43 => ?_)
      refine r_aload_n (pc := 46) dX0_insert_46 rfl ?_
      refine g_X0_18 (pc := 47) rfl dX0_insert_47 (by first | assumption | rfl) ?_
      refine r_iload (pc := 50) dX0_insert_50 rfl ?_
      refine r_iload_n (pc := 52) dX0_insert_52 rfl ?_
      refine c_X0_61 (pc := 53) rfl dX0_insert_53 (by omega) (Nat.le_of_ble_eq_true rfl) ?_
      refine m_X11_put (d - 1) (by omega) (by assumption) (n := 24) (by assumption) (by omega) (by omega) (by omega) (fun w53 e53 hw53 => ?_)
      rw [pA_in (by omega) (by omega)] at e53
      refine r_aload_n (pc := 56) dX0_insert_56 rfl ?_
      refine g_X0_22 (pc := 57) rfl dX0_insert_57 (by first | assumption | rfl) ?_
      refine r_iload (pc := 60) dX0_insert_60 rfl ?_
      refine r_iload_n (pc := 62) dX0_insert_62 rfl ?_
      refine c_X0_61 (pc := 63) rfl dX0_insert_63 (by omega) (Nat.le_of_ble_eq_true rfl) ?_
      refine m_X11_put (d - 1) (by omega) (by assumption) (n := 24) (by assumption) (by omega) (by omega) (by omega) (fun w63 e63 hw63 => ?_)
      rw [pA_in (by omega) (by omega)] at e63
      refine r_aload_n (pc := 66) dX0_insert_66 rfl ?_
      refine g_X0_25 (pc := 67) rfl dX0_insert_67 (by first | assumption | rfl) ?_
      refine r_iload (pc := 70) dX0_insert_70 rfl ?_
      refine r_iload_n (pc := 72) dX0_insert_72 rfl ?_
      refine c_X0_61 (pc := 73) rfl dX0_insert_73 (by omega) (Nat.le_of_ble_eq_true rfl) ?_
      refine m_X11_put (d - 1) (by omega) (by assumption) (n := 24) (by assumption) (by omega) (by omega) (by omega) (fun w73 e73 hw73 => ?_)
      rw [pA_in (by omega) (by omega)] at e73
      refine r_aload_n (pc := 76) dX0_insert_76 rfl ?_
      refine g_X0_28 (pc := 77) rfl dX0_insert_77 (by first | assumption | rfl) ?_
      refine r_iload (pc := 80) dX0_insert_80 rfl ?_
      refine r_iload (pc := 82) dX0_insert_82 rfl ?_
      refine c_X0_61 (pc := 84) rfl dX0_insert_84 (by omega) (Nat.le_of_ble_eq_true rfl) ?_
      refine m_X11_put (d - 1) (by omega) (by assumption) (n := 24) (by assumption) (by omega) (by omega) (by omega) (fun w84 e84 hw84 => ?_)
      rw [pA_in (by omega) (by omega)] at e84
      refine r_aload_n (pc := 87) dX0_insert_87 rfl ?_
      refine g_X0_31 (pc := 88) rfl dX0_insert_88 (by first | assumption | rfl) ?_
      refine r_iload (pc := 91) dX0_insert_91 rfl ?_
      refine r_iload (pc := 93) dX0_insert_93 rfl ?_
      refine c_X0_61 (pc := 95) rfl dX0_insert_95 (by omega) (Nat.le_of_ble_eq_true rfl) ?_
      refine m_X11_put (d - 1) (by omega) (by assumption) (n := 24) (by assumption) (by omega) (by omega) (by omega) (fun w95 e95 hw95 => ?_)
      rw [pA_in (by omega) (by omega)] at e95
      refine r_iload (pc := 98) dX0_insert_98 rfl ?_
      exact f_iret (pc := 100) dX0_insert_100 rfl (by assumption) (by
          obtain ⟨g1, g2⟩ := ins_end (w := w) (w2 := w95) (c := c) (k := i) (n := w c 0) (t := t) (h := h) (m := m) (a := a) (b := b) rfl k1 k2 (by rw [e95, e84, e73, e63, e53])
          exact hQ _ _ hk g1 g2 (by assumption))
    refine r_aload_n (pc := 20) dX0_insert_20 rfl ?_
    refine r_iload (pc := 21) dX0_insert_21 rfl ?_
    refine r_iconst (pc := 23) (n := 1) dX0_insert_23 ?_
    refine r_isub (pc := 24) dX0_insert_24 ?_
    refine r_iload (pc := 25) dX0_insert_25 rfl ?_
    refine c_X0_57 (pc := 27) rfl dX0_insert_27 (by first | assumption | rfl) (by omega) (Nat.le_of_ble_eq_true rfl) ?_
    refine m_X0_shift (d - 1) (by omega) (by assumption) (by assumption) (by omega) (by omega) (by omega) (fun w27 e27 hw27 => ?_)
    refine r_iinc7 (pc := 30) dX0_insert_30 rfl ?_
    refine r_goto (pc := 33) (tgt := 13) dX0_insert_33 rfl ?_
    rw [insW_step (by omega)] at e27
    subst e27
    exact ih _ (by omega) (i + -1) rfl (by omega) (by omega) (by assumption)
  refine r_aload_n (pc := 0) dX0_insert_0 rfl ?_
  refine r_iload_n (pc := 1) dX0_insert_1 rfl ?_
  refine c_X0_45 (pc := 2) rfl dX0_insert_2 (by first | assumption | rfl) (by omega) (Nat.le_of_ble_eq_true rfl) ?_
  refine m_X0_keysBefore (d - 1) (by omega) (by assumption) (by assumption) (by omega) (by omega) (fun r2 e2 => ?_)
  refine r_istore6 (pc := 5) dX0_insert_5 rfl ?_
  refine r_aload_n (pc := 7) dX0_insert_7 rfl ?_
  refine g_X0_38 (pc := 8) rfl dX0_insert_8 (by assumption) (by first | assumption | rfl) (fun h8 => ?_)
  refine r_istore7 (pc := 11) dX0_insert_11 rfl ?_
  rw [show fl w = fl (insW w c (w c 0) (w c 0)) by rw [insW_0]]
  exact loop13 _ e2 _ (w c 0) rfl e2.2.1 (by omega) (by rw [insW_0]; exact hw)
