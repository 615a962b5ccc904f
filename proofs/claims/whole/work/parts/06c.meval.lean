theorem kw_X12_126 : Jvm.Cond.constantLong RX12 126 (3 : Int64) ∈ gW := gw_t 983 (by decide +kernel) (by decide +kernel)
set_option maxRecDepth 8000 in
theorem m_X12_many {Q : Option AV → Wd → Prop} {w : Wd} (d : Nat) {q : Int} (hd : 1 ≤ d) (hw : WR w) (hq : 0 ≤ q ∧ q ≤ 3) (hQ : ∀ r, r = mx w q 0 0 → R32 r → Q (some (vI r)) w) : M mX12_many (Rm d) [vR (some 385), vI q] (fl w) (lQ Q) := by
  refine f_mofv (L0 := [some (vR (some 385)), some (vI q)]) rfl (Nat.le_of_ble_eq_true rfl) rfl ?_
  refine r_aload_n (pc := 0) dX12_many_0 rfl ?_
  refine h_X12_7 (pc := 1) rfl dX12_many_1 ?_
  refine r_iload_n (pc := 4) dX12_many_4 rfl ?_
  refine r_iconst (pc := 5) (n := 0) dX12_many_5 ?_
  refine r_iconst (pc := 6) (n := 0) dX12_many_6 ?_
  refine c_X12_70 (pc := 7) rfl dX12_many_7 (by omega) (Nat.le_of_ble_eq_true rfl) ?_
  refine m_X12_at (d - 1) (by omega) (by assumption)  (fun r7 e7 => ?_)
  refine f_iald (pc := 10) dX12_many_10 (n := 660) (by assumption) (by first | assumption | rfl) (by omega) (by omega) (by omega) (fun h10 => ?_)
  rw [mxR0 (w := w) (q := q) (j := 0) (i := r7) (by omega)] at h10 ⊢
  exact f_iret (pc := 11) dX12_many_11 rfl (by assumption) (hQ _ rfl (by omega))
set_option maxRecDepth 8000 in
theorem m_X12_frame {Q : Option AV → Wd → Prop} {w : Wd} (d : Nat) {q : Int} {k : Int} (hd : 1 ≤ d) (hw : WR w) (hq : 0 ≤ q ∧ q ≤ 3) (hk : 0 ≤ k ∧ k < 24) (hQ : ∀ r, r = mx w q 1 k → R32 r → Q (some (vI r)) w) : M mX12_frame (Rm d) [vR (some 385), vI q, vI k] (fl w) (lQ Q) := by
  refine f_mofv (L0 := [some (vR (some 385)), some (vI q), some (vI k)]) rfl (Nat.le_of_ble_eq_true rfl) rfl ?_
  refine r_aload_n (pc := 0) dX12_frame_0 rfl ?_
  refine h_X12_7 (pc := 1) rfl dX12_frame_1 ?_
  refine r_iload_n (pc := 4) dX12_frame_4 rfl ?_
  refine r_iconst (pc := 5) (n := 4) dX12_frame_5 ?_
  refine r_iload_n (pc := 6) dX12_frame_6 rfl ?_
  refine c_X12_70 (pc := 7) rfl dX12_frame_7 (by omega) (Nat.le_of_ble_eq_true rfl) ?_
  refine m_X12_at (d - 1) (by omega) (by assumption)  (fun r7 e7 => ?_)
  refine f_iald (pc := 10) dX12_frame_10 (n := 660) (by assumption) (by first | assumption | rfl) (by omega) (by omega) (by omega) (fun h10 => ?_)
  rw [mxR1 (w := w) (q := q) (j := k) (i := r7) (by omega)] at h10 ⊢
  exact f_iret (pc := 11) dX12_frame_11 rfl (by assumption) (hQ _ rfl (by omega))
set_option maxRecDepth 8000 in
theorem m_X12_secant {Q : Option AV → Wd → Prop} {w : Wd} (d : Nat) {q : Int} {k : Int} (hd : 2 ≤ d) (hw : WR w) (hq : 0 ≤ q ∧ q ≤ 3) (hI : CI (mx w q)) (hk : 0 ≤ k ∧ k + 1 < mx w q 0 0) (hQ : ∀ r, r = sec2 (mx w q) k (k + 1) → -127872 ≤ r ∧ r ≤ 127872 → Q (some (vI r)) w) : M mX12_secant (Rm d) [vR (some 385), vI q, vI k] (fl w) (lQ Q) := by
  obtain ⟨hn, P, O, b1, b2, b3, b4⟩ := id hI
  have P1 := P k (by omega) (by omega)
  have P2 := P (k + 1) (by omega) (by omega)
  have O1 := O k (k + 1) (by omega) (by omega) (by omega)
  have B := sec2_bd hI hk.1 (show k < k + 1 by omega) hk.2
  refine f_mofv (L0 := [some (vR (some 385)), some (vI q), some (vI k)]) rfl (Nat.le_of_ble_eq_true rfl) rfl ?_
  refine r_ldc2 (pc := 0) (n := 64) dX12_secant_0 kw_X12_91 rfl ?_
  refine r_aload_n (pc := 3) dX12_secant_3 rfl ?_
  refine h_X12_7 (pc := 4) rfl dX12_secant_4 ?_
  refine r_iload_n (pc := 7) dX12_secant_7 rfl ?_
  refine r_bipush (pc := 8) (n := 28) dX12_secant_8 (by decide) ?_
  refine r_iload_n (pc := 10) dX12_secant_10 rfl ?_
  refine r_iconst (pc := 11) (n := 1) dX12_secant_11 ?_
  refine r_iadd (pc := 12) dX12_secant_12 ?_
  refine c_X12_70 (pc := 13) rfl dX12_secant_13 (by omega) (Nat.le_of_ble_eq_true rfl) ?_
  refine m_X12_at (d - 1) (by omega) (by assumption)  (fun r13 e13 => ?_)
  refine f_iald (pc := 16) dX12_secant_16 (n := 660) (by assumption) (by first | assumption | rfl) (by omega) (by omega) (by omega) (fun h16 => ?_)
  rw [mxR2 (w := w) (q := q) (j := k + 1) (i := r13) (by omega)] at h16 ⊢
  refine r_aload_n (pc := 17) dX12_secant_17 rfl ?_
  refine h_X12_7 (pc := 18) rfl dX12_secant_18 ?_
  refine r_iload_n (pc := 21) dX12_secant_21 rfl ?_
  refine r_bipush (pc := 22) (n := 28) dX12_secant_22 (by decide) ?_
  refine r_iload_n (pc := 24) dX12_secant_24 rfl ?_
  refine c_X12_70 (pc := 25) rfl dX12_secant_25 (by omega) (Nat.le_of_ble_eq_true rfl) ?_
  refine m_X12_at (d - 1) (by omega) (by assumption)  (fun r25 e25 => ?_)
  refine f_iald (pc := 28) dX12_secant_28 (n := 660) (by assumption) (by first | assumption | rfl) (by omega) (by omega) (by omega) (fun h28 => ?_)
  rw [mxR2 (w := w) (q := q) (j := k) (i := r25) (by omega)] at h28 ⊢
  refine r_isub (pc := 29) dX12_secant_29 ?_
  refine r_i2l (pc := 30) dX12_secant_30 (by first | assumption | omega) ?_
  refine r_lmul (pc := 31) dX12_secant_31 ?_
  refine r_aload_n (pc := 32) dX12_secant_32 rfl ?_
  refine r_iload_n (pc := 33) dX12_secant_33 rfl ?_
  refine r_iload_n (pc := 34) dX12_secant_34 rfl ?_
  refine r_iconst (pc := 35) (n := 1) dX12_secant_35 ?_
  refine r_iadd (pc := 36) dX12_secant_36 ?_
  refine c_X12_82 (pc := 37) rfl dX12_secant_37 (by first | assumption | rfl) (by omega) (Nat.le_of_ble_eq_true rfl) ?_
  refine m_X12_frame (d - 1) (by omega) (by assumption) (by omega) (by omega) (fun r37 e37 b37 => ?_)
  refine r_aload_n (pc := 40) dX12_secant_40 rfl ?_
  refine r_iload_n (pc := 41) dX12_secant_41 rfl ?_
  refine r_iload_n (pc := 42) dX12_secant_42 rfl ?_
  refine c_X12_82 (pc := 43) rfl dX12_secant_43 (by first | assumption | rfl) (by omega) (Nat.le_of_ble_eq_true rfl) ?_
  refine m_X12_frame (d - 1) (by omega) (by assumption) (by omega) (by omega) (fun r43 e43 b43 => ?_)
  refine r_isub (pc := 46) dX12_secant_46 ?_
  refine r_i2l (pc := 47) dX12_secant_47 (by first | assumption | omega) ?_
  refine c_X12_93 (pc := 48) rfl dX12_secant_48 (by omega) (Nat.le_of_ble_eq_true rfl) ?_
  refine m_X12_round (d - 1) (by omega) (by assumption) (by omega) (fun r48 e48 => ?_)
  have E : sec2 (mx w q) k (k + 1) = w32 r48 := by
    rw [e48, e37, e43]; rfl
  refine r_l2i (pc := 51) dX12_secant_51 ?_
  refine rep_I (zi_w32 _) ?_
  exact f_iret (pc := 52) dX12_secant_52 rfl (by assumption) (hQ _ E.symm (by omega))
set_option maxRecDepth 8000 in
theorem m_X12_auto {Q : Option AV → Wd → Prop} {w : Wd} (d : Nat) {q : Int} {k : Int} (hd : 3 ≤ d) (hw : WR w) (hq : 0 ≤ q ∧ q ≤ 3) (hI : CI (mx w q)) (hk : 0 ≤ k ∧ k < mx w q 0 0) (h2 : 2 ≤ mx w q 0 0) (hQ : ∀ r, r = autX (mx w q) k → -127872 ≤ r ∧ r ≤ 127872 → Q (some (vI r)) w) : M mX12_auto (Rm d) [vR (some 385), vI q, vI k] (fl w) (lQ Q) := by
  obtain ⟨hn, P, O, b1, b2, b3, b4⟩ := id hI
  have P1 := P k (by omega) (by omega)
  have B : -127872 ≤ autX (mx w q) k ∧ autX (mx w q) k ≤ 127872 := by
    unfold autX
    split <;> split <;> exact sec2_bd hI (by omega) (by omega) (by omega)
  refine f_mofv (L0 := [some (vR (some 385)), some (vI q), some (vI k)]) rfl (Nat.le_of_ble_eq_true rfl) rfl ?_
  have cut15 : (k = 0 ∨ k = mx w q 0 0 - 1) → V mX12_auto (Rm d) 0 0 15 [some (vR (some 385)), some (vI q), some (vI k)] [] (fl w) (lQ Q) := by
    intro hk2
    refine r_aload_n (pc := 15) dX12_auto_15 rfl ?_
    refine r_iload_n (pc := 16) dX12_auto_16 rfl ?_
    refine r_iload_n (pc := 17) dX12_auto_17 rfl ?_
    refine r_ifne (pc := 18) (tgt := 25) dX12_auto_18 rfl (by omega) (fun h18 => ?_) (fun h18 => ?_)
    · refine r_iload_n (pc := 25) dX12_auto_25 rfl ?_
      refine r_iconst (pc := 26) (n := 1) dX12_auto_26 ?_
      refine r_isub (pc := 27) dX12_auto_27 ?_
      refine c_X12_96 (pc := 28) rfl dX12_auto_28 (by first | assumption | rfl) (by omega) (Nat.le_of_ble_eq_true rfl) ?_
      refine m_X12_secant (d - 1) (by omega) (by assumption) (by assumption) (by assumption) ⟨by omega, by omega⟩ (fun r28 e28 b28 => ?_)
      exact f_iret (pc := 31) dX12_auto_31 rfl (by assumption) (hQ _ (by rw [e28]; unfold autX; rw [if_neg (show ¬ k = 0 by omega), if_pos (show k = mx w q 0 0 - 1 by omega), show k - 1 + 1 = k by omega]) (by omega))
    refine r_iconst (pc := 21) (n := 0) dX12_auto_21 ?_
    refine r_goto (pc := 22) (tgt := 28) dX12_auto_22 rfl ?_
    refine c_X12_96 (pc := 28) rfl dX12_auto_28 (by first | assumption | rfl) (by omega) (Nat.le_of_ble_eq_true rfl) ?_
    refine m_X12_secant (d - 1) (by omega) (by assumption) (by assumption) (by assumption) ⟨by omega, by omega⟩ (fun r28 e28 b28 => ?_)
    exact f_iret (pc := 31) dX12_auto_31 rfl (by assumption) (hQ _ (by rw [e28]; unfold autX; rw [if_pos (show k = 0 by omega), if_neg (show ¬ k = mx w q 0 0 - 1 by omega), show k = 0 by omega]) (by omega))
  refine r_iload_n (pc := 0) dX12_auto_0 rfl ?_
  refine r_ifeq (pc := 1) (tgt := 15) dX12_auto_1 rfl (by omega) (fun h1 => ?_) (fun h1 => ?_)
  · exact cut15 (by omega)
  refine r_iload_n (pc := 4) dX12_auto_4 rfl ?_
  refine r_aload_n (pc := 5) dX12_auto_5 rfl ?_
  refine r_iload_n (pc := 6) dX12_auto_6 rfl ?_
  refine c_X12_78 (pc := 7) rfl dX12_auto_7 (by first | assumption | rfl) (by omega) (Nat.le_of_ble_eq_true rfl) ?_
  refine m_X12_many (d - 1) (by omega) (by assumption) (by omega) (fun r7 e7 b7 => ?_)
  refine r_iconst (pc := 10) (n := 1) dX12_auto_10 ?_
  refine r_isub (pc := 11) dX12_auto_11 ?_
  refine r_icmpne (pc := 12) (tgt := 32) dX12_auto_12 rfl (by omega) (by omega) (fun h12 => ?_) (fun h12 => ?_)
  · have P2 := P (k + 1) (by omega) (by omega)
    have P3 := P (k - 1) (by omega) (by omega)
    have O1 := O (k - 1) (k + 1) (by omega) (by omega) (by omega)
    refine r_ldc2 (pc := 32) (n := 64) dX12_auto_32 kw_X12_91 rfl ?_
    refine r_aload_n (pc := 35) dX12_auto_35 rfl ?_
    refine h_X12_7 (pc := 36) rfl dX12_auto_36 ?_
    refine r_iload_n (pc := 39) dX12_auto_39 rfl ?_
    refine r_bipush (pc := 40) (n := 28) dX12_auto_40 (by decide) ?_
    refine r_iload_n (pc := 42) dX12_auto_42 rfl ?_
    refine r_iconst (pc := 43) (n := 1) dX12_auto_43 ?_
    refine r_iadd (pc := 44) dX12_auto_44 ?_
    refine c_X12_70 (pc := 45) rfl dX12_auto_45 (by omega) (Nat.le_of_ble_eq_true rfl) ?_
    refine m_X12_at (d - 1) (by omega) (by assumption)  (fun r45 e45 => ?_)
    refine f_iald (pc := 48) dX12_auto_48 (n := 660) (by assumption) (by first | assumption | rfl) (by omega) (by omega) (by omega) (fun h48 => ?_)
    rw [mxR2 (w := w) (q := q) (j := k + 1) (i := r45) (by omega)] at h48 ⊢
    refine r_aload_n (pc := 49) dX12_auto_49 rfl ?_
    refine h_X12_7 (pc := 50) rfl dX12_auto_50 ?_
    refine r_iload_n (pc := 53) dX12_auto_53 rfl ?_
    refine r_bipush (pc := 54) (n := 28) dX12_auto_54 (by decide) ?_
    refine r_iload_n (pc := 56) dX12_auto_56 rfl ?_
    refine r_iconst (pc := 57) (n := 1) dX12_auto_57 ?_
    refine r_isub (pc := 58) dX12_auto_58 ?_
    refine c_X12_70 (pc := 59) rfl dX12_auto_59 (by omega) (Nat.le_of_ble_eq_true rfl) ?_
    refine m_X12_at (d - 1) (by omega) (by assumption)  (fun r59 e59 => ?_)
    refine f_iald (pc := 62) dX12_auto_62 (n := 660) (by assumption) (by first | assumption | rfl) (by omega) (by omega) (by omega) (fun h62 => ?_)
    rw [mxR2 (w := w) (q := q) (j := k - 1) (i := r59) (by omega)] at h62 ⊢
    refine r_isub (pc := 63) dX12_auto_63 ?_
    refine r_i2l (pc := 64) dX12_auto_64 (by first | assumption | omega) ?_
    refine r_lmul (pc := 65) dX12_auto_65 ?_
    refine r_aload_n (pc := 66) dX12_auto_66 rfl ?_
    refine r_iload_n (pc := 67) dX12_auto_67 rfl ?_
    refine r_iload_n (pc := 68) dX12_auto_68 rfl ?_
    refine r_iconst (pc := 69) (n := 1) dX12_auto_69 ?_
    refine r_iadd (pc := 70) dX12_auto_70 ?_
    refine c_X12_82 (pc := 71) rfl dX12_auto_71 (by first | assumption | rfl) (by omega) (Nat.le_of_ble_eq_true rfl) ?_
    refine m_X12_frame (d - 1) (by omega) (by assumption) (by omega) (by omega) (fun r71 e71 b71 => ?_)
    refine r_aload_n (pc := 74) dX12_auto_74 rfl ?_
    refine r_iload_n (pc := 75) dX12_auto_75 rfl ?_
    refine r_iload_n (pc := 76) dX12_auto_76 rfl ?_
    refine r_iconst (pc := 77) (n := 1) dX12_auto_77 ?_
    refine r_isub (pc := 78) dX12_auto_78 ?_
    refine c_X12_82 (pc := 79) rfl dX12_auto_79 (by first | assumption | rfl) (by omega) (Nat.le_of_ble_eq_true rfl) ?_
    refine m_X12_frame (d - 1) (by omega) (by assumption) (by omega) (by omega) (fun r79 e79 b79 => ?_)
    refine r_isub (pc := 82) dX12_auto_82 ?_
    refine r_i2l (pc := 83) dX12_auto_83 (by first | assumption | omega) ?_
    refine c_X12_93 (pc := 84) rfl dX12_auto_84 (by omega) (Nat.le_of_ble_eq_true rfl) ?_
    refine m_X12_round (d - 1) (by omega) (by assumption) (by omega) (fun r84 e84 => ?_)
    have E : autX (mx w q) k = w32 r84 := by
      rw [e84, e71, e79]
      unfold autX
      rw [if_neg (show ¬ k = 0 by omega), if_neg (show ¬ k = mx w q 0 0 - 1 by omega)]; rfl
    refine r_l2i (pc := 87) dX12_auto_87 ?_
    refine rep_I (zi_w32 _) ?_
    exact f_iret (pc := 88) dX12_auto_88 rfl (by assumption) (hQ _ E.symm (by omega))
  exact cut15 (by omega)
set_option maxRecDepth 8000 in
theorem m_X12_isBetween {Q : Option AV → Wd → Prop} {w : Wd} (d : Nat) {q : Int} {k : Int} (hd : 1 ≤ d) (hw : WR w) (hq : 0 ≤ q ∧ q ≤ 3) (hI : CI (mx w q)) (hk : 0 < k ∧ k + 1 < mx w q 0 0) (hQ : ∀ r, r = b2i ((mx w q 2 k > mx w q 2 (k - 1) ∧ mx w q 2 k < mx w q 2 (k + 1)) ∨ (mx w q 2 k < mx w q 2 (k - 1) ∧ mx w q 2 k > mx w q 2 (k + 1))) → (r = 0 ∨ r = 1) → Q (some (vI r)) w) : M mX12_isBetween (Rm d) [vR (some 385), vI q, vI k] (fl w) (lQ Q) := by
  obtain ⟨hn, P, O, b1, b2, b3, b4⟩ := id hI
  refine f_mofv (L0 := [some (vR (some 385)), some (vI q), some (vI k), none, none, none]) rfl (Nat.le_of_ble_eq_true rfl) rfl ?_
  refine r_aload_n (pc := 0) dX12_isBetween_0 rfl ?_
  refine h_X12_7 (pc := 1) rfl dX12_isBetween_1 ?_
  refine r_iload_n (pc := 4) dX12_isBetween_4 rfl ?_
  refine r_bipush (pc := 5) (n := 28) dX12_isBetween_5 (by decide) ?_
  refine r_iload_n (pc := 7) dX12_isBetween_7 rfl ?_
  refine c_X12_70 (pc := 8) rfl dX12_isBetween_8 (by omega) (Nat.le_of_ble_eq_true rfl) ?_
  refine m_X12_at (d - 1) (by omega) (by assumption)  (fun r8 e8 => ?_)
  refine f_iald (pc := 11) dX12_isBetween_11 (n := 660) (by assumption) (by first | assumption | rfl) (by omega) (by omega) (by omega) (fun h11 => ?_)
  rw [mxR2 (w := w) (q := q) (j := k) (i := r8) (by omega)] at h11 ⊢
  refine r_istore3 (pc := 12) dX12_isBetween_12 rfl ?_
  refine r_aload_n (pc := 13) dX12_isBetween_13 rfl ?_
  refine h_X12_7 (pc := 14) rfl dX12_isBetween_14 ?_
  refine r_iload_n (pc := 17) dX12_isBetween_17 rfl ?_
  refine r_bipush (pc := 18) (n := 28) dX12_isBetween_18 (by decide) ?_
  refine r_iload_n (pc := 20) dX12_isBetween_20 rfl ?_
  refine r_iconst (pc := 21) (n := 1) dX12_isBetween_21 ?_
  refine r_isub (pc := 22) dX12_isBetween_22 ?_
  refine c_X12_70 (pc := 23) rfl dX12_isBetween_23 (by omega) (Nat.le_of_ble_eq_true rfl) ?_
  refine m_X12_at (d - 1) (by omega) (by assumption)  (fun r23 e23 => ?_)
  refine f_iald (pc := 26) dX12_isBetween_26 (n := 660) (by assumption) (by first | assumption | rfl) (by omega) (by omega) (by omega) (fun h26 => ?_)
  rw [mxR2 (w := w) (q := q) (j := k - 1) (i := r23) (by omega)] at h26 ⊢
  refine r_istore4 (pc := 27) dX12_isBetween_27 rfl ?_
  refine r_aload_n (pc := 29) dX12_isBetween_29 rfl ?_
  refine h_X12_7 (pc := 30) rfl dX12_isBetween_30 ?_
  refine r_iload_n (pc := 33) dX12_isBetween_33 rfl ?_
  refine r_bipush (pc := 34) (n := 28) dX12_isBetween_34 (by decide) ?_
  refine r_iload_n (pc := 36) dX12_isBetween_36 rfl ?_
  refine r_iconst (pc := 37) (n := 1) dX12_isBetween_37 ?_
  refine r_iadd (pc := 38) dX12_isBetween_38 ?_
  refine c_X12_70 (pc := 39) rfl dX12_isBetween_39 (by omega) (Nat.le_of_ble_eq_true rfl) ?_
  refine m_X12_at (d - 1) (by omega) (by assumption)  (fun r39 e39 => ?_)
  refine f_iald (pc := 42) dX12_isBetween_42 (n := 660) (by assumption) (by first | assumption | rfl) (by omega) (by omega) (by omega) (fun h42 => ?_)
  rw [mxR2 (w := w) (q := q) (j := k + 1) (i := r39) (by omega)] at h42 ⊢
  refine r_istore5 (pc := 43) dX12_isBetween_43 rfl ?_
  refine r_iload_n (pc := 45) dX12_isBetween_45 rfl ?_
  refine r_iload (pc := 46) dX12_isBetween_46 rfl ?_
  refine r_icmple (pc := 48) (tgt := 57) dX12_isBetween_48 rfl (by omega) (by omega) (fun h48 => ?_) (fun h48 => ?_)
  · refine r_iload_n (pc := 57) dX12_isBetween_57 rfl ?_
    refine r_iload (pc := 58) dX12_isBetween_58 rfl ?_
    refine r_icmpge (pc := 60) (tgt := 73) dX12_isBetween_60 rfl (by omega) (by omega) (fun h60 => ?_) (fun h60 => ?_)
    · refine r_iconst (pc := 73) (n := 0) dX12_isBetween_73 ?_
      exact f_zret (pc := 74) dX12_isBetween_74 rfl (by first | exact Or.inl rfl | exact Or.inr rfl | omega) (by assumption) (hQ _ (by unfold b2i; split <;> omega) (by omega))
    refine r_iload_n (pc := 63) dX12_isBetween_63 rfl ?_
    refine r_iload (pc := 64) dX12_isBetween_64 rfl ?_
    refine r_icmple (pc := 66) (tgt := 73) dX12_isBetween_66 rfl (by omega) (by omega) (fun h66 => ?_) (fun h66 => ?_)
    · refine r_iconst (pc := 73) (n := 0) dX12_isBetween_73 ?_
      exact f_zret (pc := 74) dX12_isBetween_74 rfl (by first | exact Or.inl rfl | exact Or.inr rfl | omega) (by assumption) (hQ _ (by unfold b2i; split <;> omega) (by omega))
    refine r_iconst (pc := 69) (n := 1) dX12_isBetween_69 ?_
    refine r_goto (pc := 70) (tgt := 74) dX12_isBetween_70 rfl ?_
    exact f_zret (pc := 74) dX12_isBetween_74 rfl (by first | exact Or.inl rfl | exact Or.inr rfl | omega) (by assumption) (hQ _ (by unfold b2i; split <;> omega) (by omega))
  refine r_iload_n (pc := 51) dX12_isBetween_51 rfl ?_
  refine r_iload (pc := 52) dX12_isBetween_52 rfl ?_
  refine r_icmplt (pc := 54) (tgt := 69) dX12_isBetween_54 rfl (by omega) (by omega) (fun h54 => ?_) (fun h54 => ?_)
  · refine r_iconst (pc := 69) (n := 1) dX12_isBetween_69 ?_
    refine r_goto (pc := 70) (tgt := 74) dX12_isBetween_70 rfl ?_
    exact f_zret (pc := 74) dX12_isBetween_74 rfl (by first | exact Or.inl rfl | exact Or.inr rfl | omega) (by assumption) (hQ _ (by unfold b2i; split <;> omega) (by omega))
  refine r_iload_n (pc := 57) dX12_isBetween_57 rfl ?_
  refine r_iload (pc := 58) dX12_isBetween_58 rfl ?_
  refine r_icmpge (pc := 60) (tgt := 73) dX12_isBetween_60 rfl (by omega) (by omega) (fun h60 => ?_) (fun h60 => ?_)
  · refine r_iconst (pc := 73) (n := 0) dX12_isBetween_73 ?_
    exact f_zret (pc := 74) dX12_isBetween_74 rfl (by first | exact Or.inl rfl | exact Or.inr rfl | omega) (by assumption) (hQ _ (by unfold b2i; split <;> omega) (by omega))
  refine r_iload_n (pc := 63) dX12_isBetween_63 rfl ?_
  refine r_iload (pc := 64) dX12_isBetween_64 rfl ?_
  refine r_icmple (pc := 66) (tgt := 73) dX12_isBetween_66 rfl (by omega) (by omega) (fun h66 => ?_) (fun h66 => ?_)
  · refine r_iconst (pc := 73) (n := 0) dX12_isBetween_73 ?_
    exact f_zret (pc := 74) dX12_isBetween_74 rfl (by first | exact Or.inl rfl | exact Or.inr rfl | omega) (by assumption) (hQ _ (by unfold b2i; split <;> omega) (by omega))
  refine r_iconst (pc := 69) (n := 1) dX12_isBetween_69 ?_
  refine r_goto (pc := 70) (tgt := 74) dX12_isBetween_70 rfl ?_
  exact f_zret (pc := 74) dX12_isBetween_74 rfl (by first | exact Or.inl rfl | exact Or.inr rfl | omega) (by assumption) (hQ _ (by unfold b2i; split <;> omega) (by omega))
set_option maxRecDepth 8000 in
theorem m_X12_monotone {Q : Option AV → Wd → Prop} {w : Wd} (d : Nat) {q : Int} {k : Int} (hd : 4 ≤ d) (hw : WR w) (hq : 0 ≤ q ∧ q ≤ 3) (hI : CI (mx w q)) (hk : 0 < k ∧ k + 1 < mx w q 0 0) (hQ : ∀ r, r = monS (autX (mx w q) k) (sec2 (mx w q) (k - 1) k) (sec2 (mx w q) k (k + 1)) → R32 r → Q (some (vI r)) w) : M mX12_monotone (Rm d) [vR (some 385), vI q, vI k] (fl w) (lQ Q) := by
  obtain ⟨hn, P, O, b1, b2, b3, b4⟩ := id hI
  refine f_mofv (L0 := [some (vR (some 385)), some (vI q), some (vI k), none, none, none, none]) rfl (Nat.le_of_ble_eq_true rfl) rfl ?_
  have cut45 : ∀ a b x y : Int, a = sec2 (mx w q) (k - 1) k → b = sec2 (mx w q) k (k + 1) → -127872 ≤ a ∧ a ≤ 127872 → -127872 ≤ b ∧ b ≤ 127872 → a ≠ 0 → b ≠ 0 → (x = 0 ∨ x = 1) → (y = 0 ∨ y = 1) → (x = 1 ↔ 0 < a) → (y = 1 ↔ 0 < b) → V mX12_monotone (Rm d) 0 0 45 [some (vR (some 385)), some (vI q), some (vI k), some (vI a), some (vI b), none, none] [vI y, vI x] (fl w) (lQ Q) := by
    intro a b x y ea eb ba bb a0 b0 hx hy hx2 hy2
    refine r_icmpeq (pc := 45) (tgt := 50) dX12_monotone_45 rfl (by omega) (by omega) (fun h45 => ?_) (fun h45 => ?_)
    · refine r_aload_n (pc := 50) dX12_monotone_50 rfl ?_
      refine r_iload_n (pc := 51) dX12_monotone_51 rfl ?_
      refine r_iload_n (pc := 52) dX12_monotone_52 rfl ?_
      refine c_X12_99 (pc := 53) rfl dX12_monotone_53 (by first | assumption | rfl) (by omega) (Nat.le_of_ble_eq_true rfl) ?_
      refine m_X12_auto (d - 1) (by omega) (by assumption) (by assumption) (by assumption) ⟨by omega, by omega⟩ (by omega) (fun r53 e53 b53 => ?_)
      refine r_istore5 (pc := 56) dX12_monotone_56 rfl ?_
      refine r_iconst (pc := 58) (n := 3) dX12_monotone_58 ?_
      refine r_iload_n (pc := 59) dX12_monotone_59 rfl ?_
      refine c_X12_102 (pc := 60) rfl dX12_monotone_60 (by omega) (Nat.le_of_ble_eq_true rfl) ?_
      refine m_X12_size (d - 1) (by omega) (by assumption) (by omega) (fun r60 e60 b60 => ?_)
      refine r_iload (pc := 63) dX12_monotone_63 rfl ?_
      refine c_X12_102 (pc := 65) rfl dX12_monotone_65 (by omega) (Nat.le_of_ble_eq_true rfl) ?_
      refine m_X12_size (d - 1) (by omega) (by assumption) (by omega) (fun r65 e65 b65 => ?_)
      refine c_X12_105 (pc := 68) rfl dX12_monotone_68 (by omega) (Nat.le_of_ble_eq_true rfl) ?_
      refine m_X12_least (d - 1) (by omega) (by assumption) (by omega) (by omega) (fun r68 e68 b68 => ?_)
      refine r_imul (pc := 71) dX12_monotone_71 ?_
      refine r_istore6 (pc := 72) dX12_monotone_72 rfl ?_
      refine r_iload (pc := 74) dX12_monotone_74 rfl ?_
      refine r_i2l (pc := 76) dX12_monotone_76 (by first | assumption | omega) ?_
      refine r_iload (pc := 77) dX12_monotone_77 rfl ?_
      refine c_X12_108 (pc := 79) rfl dX12_monotone_79 (by omega) (Nat.le_of_ble_eq_true rfl) ?_
      refine m_X12_bound (d - 1) (by omega) (by assumption) (by omega) (by omega) (fun r79 e79 b79 => ?_)
      exact f_iret (pc := 82) dX12_monotone_82 rfl (by assumption) (hQ _ (by rw [e79, e68, e60, e65, e53, ← ea, ← eb]; exact (if_pos (show (a > 0 ∧ b > 0) ∨ (a < 0 ∧ b < 0) by omega)).symm) (by omega))
    refine r_iconst (pc := 48) (n := 0) dX12_monotone_48 ?_
    exact f_iret (pc := 49) dX12_monotone_49 rfl (by assumption) (hQ _ (by rw [← ea, ← eb]; exact (if_neg (show ¬ ((a > 0 ∧ b > 0) ∨ (a < 0 ∧ b < 0)) by omega)).symm) (by omega))
  refine r_aload_n (pc := 0) dX12_monotone_0 rfl ?_
  refine r_iload_n (pc := 1) dX12_monotone_1 rfl ?_
  refine r_iload_n (pc := 2) dX12_monotone_2 rfl ?_
  refine r_iconst (pc := 3) (n := 1) dX12_monotone_3 ?_
  refine r_isub (pc := 4) dX12_monotone_4 ?_
  refine c_X12_96 (pc := 5) rfl dX12_monotone_5 (by first | assumption | rfl) (by omega) (Nat.le_of_ble_eq_true rfl) ?_
  refine m_X12_secant (d - 1) (by omega) (by assumption) (by assumption) (by assumption) ⟨by omega, by omega⟩ (fun r5 e5 b5 => ?_)
  rw [show k - 1 + 1 = k by omega] at e5
  refine r_istore3 (pc := 8) dX12_monotone_8 rfl ?_
  refine r_aload_n (pc := 9) dX12_monotone_9 rfl ?_
  refine r_iload_n (pc := 10) dX12_monotone_10 rfl ?_
  refine r_iload_n (pc := 11) dX12_monotone_11 rfl ?_
  refine c_X12_96 (pc := 12) rfl dX12_monotone_12 (by first | assumption | rfl) (by omega) (Nat.le_of_ble_eq_true rfl) ?_
  refine m_X12_secant (d - 1) (by omega) (by assumption) (by assumption) (by assumption) ⟨by omega, by omega⟩ (fun r12 e12 b12 => ?_)
  refine r_istore4 (pc := 15) dX12_monotone_15 rfl ?_
  refine r_iload_n (pc := 17) dX12_monotone_17 rfl ?_
  refine r_ifeq (pc := 18) (tgt := 48) dX12_monotone_18 rfl (by omega) (fun h18 => ?_) (fun h18 => ?_)
  · refine r_iconst (pc := 48) (n := 0) dX12_monotone_48 ?_
    exact f_iret (pc := 49) dX12_monotone_49 rfl (by assumption) (hQ _ (by rw [← e5, ← e12]; exact (if_neg (show ¬ ((r5 > 0 ∧ r12 > 0) ∨ (r5 < 0 ∧ r12 < 0)) by omega)).symm) (by omega))
  refine r_iload (pc := 21) dX12_monotone_21 rfl ?_
  refine r_ifeq (pc := 23) (tgt := 48) dX12_monotone_23 rfl (by omega) (fun h23 => ?_) (fun h23 => ?_)
  · refine r_iconst (pc := 48) (n := 0) dX12_monotone_48 ?_
    exact f_iret (pc := 49) dX12_monotone_49 rfl (by assumption) (hQ _ (by rw [← e5, ← e12]; exact (if_neg (show ¬ ((r5 > 0 ∧ r12 > 0) ∨ (r5 < 0 ∧ r12 < 0)) by omega)).symm) (by omega))
  refine r_iload_n (pc := 26) dX12_monotone_26 rfl ?_
  refine r_ifle (pc := 27) (tgt := 34) dX12_monotone_27 rfl (by omega) (fun h27 => ?_) (fun h27 => ?_)
  · refine r_iconst (pc := 34) (n := 0) dX12_monotone_34 ?_
    refine r_iload (pc := 35) dX12_monotone_35 rfl ?_
    refine r_ifle (pc := 37) (tgt := 44) dX12_monotone_37 rfl (by omega) (fun h37 => ?_) (fun h37 => ?_)
    · refine r_iconst (pc := 44) (n := 0) dX12_monotone_44 ?_
      exact cut45 _ _ _ _ e5 e12 (by omega) (by omega) (by omega) (by omega) (by omega) (by omega) (by omega) (by omega)
    refine r_iconst (pc := 40) (n := 1) dX12_monotone_40 ?_
    refine r_goto (pc := 41) (tgt := 45) dX12_monotone_41 rfl ?_
    exact cut45 _ _ _ _ e5 e12 (by omega) (by omega) (by omega) (by omega) (by omega) (by omega) (by omega) (by omega)
  refine r_iconst (pc := 30) (n := 1) dX12_monotone_30 ?_
  refine r_goto (pc := 31) (tgt := 35) dX12_monotone_31 rfl ?_
  refine r_iload (pc := 35) dX12_monotone_35 rfl ?_
  refine r_ifle (pc := 37) (tgt := 44) dX12_monotone_37 rfl (by omega) (fun h37 => ?_) (fun h37 => ?_)
  · refine r_iconst (pc := 44) (n := 0) dX12_monotone_44 ?_
    exact cut45 _ _ _ _ e5 e12 (by omega) (by omega) (by omega) (by omega) (by omega) (by omega) (by omega) (by omega)
  refine r_iconst (pc := 40) (n := 1) dX12_monotone_40 ?_
  refine r_goto (pc := 41) (tgt := 45) dX12_monotone_41 rfl ?_
  exact cut45 _ _ _ _ e5 e12 (by omega) (by omega) (by omega) (by omega) (by omega) (by omega) (by omega) (by omega)
set_option maxRecDepth 8000 in
theorem m_X12_slopeOf {Q : Option AV → Wd → Prop} {w : Wd} (d : Nat) {q : Int} {k o : Int} (hd : 5 ≤ d) (hw : WR w) (hq : 0 ≤ q ∧ q ≤ 3) (hI : CI (mx w q)) (hk : 0 ≤ k ∧ k < mx w q 0 0) (ho : o = 0 ∨ o = 1) (hQ : ∀ r, r = slp (mx w q) k o → R32 r → Q (some (vI r)) w) : M mX12_slopeOf (Rm d) [vR (some 385), vI q, vI k, vI o] (fl w) (lQ Q) := by
  obtain ⟨hn, P, O, b1, b2, b3, b4⟩ := id hI
  have Pk := P k hk.1 hk.2
  refine f_mofv (L0 := [some (vR (some 385)), some (vI q), some (vI k), some (vI o), none, none, none]) rfl (Nat.le_of_ble_eq_true rfl) rfl ?_
  have cut86 : ∀ z : Int, mx w q 3 k ≠ 0 → mx w q 0 0 ≠ 1 → mx w q 3 k ≠ 1 → mx w q 3 k ≠ 6 → (z = 0 ∨ z = 1) → (z = 1 ↔ k = 0 ∨ k = mx w q 0 0 - 1) → V mX12_slopeOf (Rm d) 0 0 86 [some (vR (some 385)), some (vI q), some (vI k), some (vI o), some (vI (mx w q 0 0)), some (vI (mx w q 3 k)), none] [vI z] (fl w) (lQ Q) := by
    intro z m0 n1 m1 m6 hz hz2
    refine r_istore6 (pc := 86) dX12_slopeOf_86 rfl ?_
    refine r_iload (pc := 88) dX12_slopeOf_88 rfl ?_
    rcases (show mx w q 3 k = 2 ∨ mx w q 3 k = 3 ∨ mx w q 3 k = 4 ∨ mx w q 3 k = 5 by omega) with m | m | m | m <;> rw [m]
    · skip
      refine r_tableIn (pc := 90) (tgt := 116) (x := 2) (off := 26) dX12_slopeOf_90 (by omega) (by omega) (by omega) rfl rfl ?_
      refine r_aload_n (pc := 116) dX12_slopeOf_116 rfl ?_
      refine r_iload_n (pc := 117) dX12_slopeOf_117 rfl ?_
      refine r_iload_n (pc := 118) dX12_slopeOf_118 rfl ?_
      refine r_ifeq (pc := 119) (tgt := 133) dX12_slopeOf_119 rfl (by omega) (fun h119 => ?_) (fun h119 => ?_)
      · refine r_iload_n (pc := 133) dX12_slopeOf_133 rfl ?_
        refine r_iconst (pc := 134) (n := 1) dX12_slopeOf_134 ?_
        refine r_isub (pc := 135) dX12_slopeOf_135 ?_
        refine r_iconst (pc := 136) (n := 0) dX12_slopeOf_136 ?_
        refine c_X12_112 (pc := 137) rfl dX12_slopeOf_137 (by omega) (Nat.le_of_ble_eq_true rfl) ?_
        refine m_X12_most (d - 1) (by omega) (by assumption) (by omega) (by omega) (fun r137 e137 b137 => ?_)
        refine c_X12_96 (pc := 140) rfl dX12_slopeOf_140 (by first | assumption | rfl) (by omega) (Nat.le_of_ble_eq_true rfl) ?_
        refine m_X12_secant (d - 1) (by omega) (by assumption) (by assumption) (by assumption) ⟨by omega, by omega⟩ (fun r140 e140 b140 => ?_)
        exact f_iret (pc := 143) dX12_slopeOf_143 rfl (by assumption) (hQ _ (by rw [e140]; clear hQ hw P O hI hn b1 b2 b3 b4; unfold slp; grind) (by omega))
      refine r_iload_n (pc := 122) dX12_slopeOf_122 rfl ?_
      refine r_iload (pc := 123) dX12_slopeOf_123 rfl ?_
      refine r_iconst (pc := 125) (n := 2) dX12_slopeOf_125 ?_
      refine r_isub (pc := 126) dX12_slopeOf_126 ?_
      refine c_X12_105 (pc := 127) rfl dX12_slopeOf_127 (by omega) (Nat.le_of_ble_eq_true rfl) ?_
      refine m_X12_least (d - 1) (by omega) (by assumption) (by omega) (by omega) (fun r127 e127 b127 => ?_)
      refine r_goto (pc := 130) (tgt := 140) dX12_slopeOf_130 rfl ?_
      refine c_X12_96 (pc := 140) rfl dX12_slopeOf_140 (by first | assumption | rfl) (by omega) (Nat.le_of_ble_eq_true rfl) ?_
      refine m_X12_secant (d - 1) (by omega) (by assumption) (by assumption) (by assumption) ⟨by omega, by omega⟩ (fun r140 e140 b140 => ?_)
      exact f_iret (pc := 143) dX12_slopeOf_143 rfl (by assumption) (hQ _ (by rw [e140]; clear hQ hw P O hI hn b1 b2 b3 b4; unfold slp; grind) (by omega))
    · skip
      refine r_tableIn (pc := 90) (tgt := 144) (x := 3) (off := 54) dX12_slopeOf_90 (by omega) (by omega) (by omega) rfl rfl ?_
      refine r_aload_n (pc := 144) dX12_slopeOf_144 rfl ?_
      refine r_iload_n (pc := 145) dX12_slopeOf_145 rfl ?_
      refine r_iload_n (pc := 146) dX12_slopeOf_146 rfl ?_
      refine c_X12_99 (pc := 147) rfl dX12_slopeOf_147 (by first | assumption | rfl) (by omega) (Nat.le_of_ble_eq_true rfl) ?_
      refine m_X12_auto (d - 1) (by omega) (by assumption) (by assumption) (by assumption) ⟨by omega, by omega⟩ (by omega) (fun r147 e147 b147 => ?_)
      exact f_iret (pc := 150) dX12_slopeOf_150 rfl (by assumption) (hQ _ (by clear hQ hw P O hI hn b1 b2 b3 b4; unfold slp; grind) (by omega))
    · skip
      refine r_tableIn (pc := 90) (tgt := 151) (x := 4) (off := 61) dX12_slopeOf_90 (by omega) (by omega) (by omega) rfl rfl ?_
      refine r_iload (pc := 151) dX12_slopeOf_151 rfl ?_
      refine r_ifne (pc := 153) (tgt := 165) dX12_slopeOf_153 rfl (by omega) (fun h153 => ?_) (fun h153 => ?_)
      · refine r_iconst (pc := 165) (n := 0) dX12_slopeOf_165 ?_
        refine r_goto (pc := 166) (tgt := 175) dX12_slopeOf_166 rfl ?_
        exact f_iret (pc := 175) dX12_slopeOf_175 rfl (by assumption) (hQ _ (by clear hQ hw P O hI hn b1 b2 b3 b4; unfold slp; grind) (by omega))
      refine r_aload_n (pc := 156) dX12_slopeOf_156 rfl ?_
      refine r_iload_n (pc := 157) dX12_slopeOf_157 rfl ?_
      refine r_iload_n (pc := 158) dX12_slopeOf_158 rfl ?_
      refine c_X12_115 (pc := 159) rfl dX12_slopeOf_159 (by first | assumption | rfl) (by omega) (Nat.le_of_ble_eq_true rfl) ?_
      refine m_X12_isBetween (d - 1) (by omega) (by assumption) (by assumption) (by assumption) ⟨by omega, by omega⟩ (fun r159 e159 b159 => ?_)
      unfold b2i at e159
      refine r_ifne (pc := 162) (tgt := 169) dX12_slopeOf_162 rfl (by omega) (fun h162 => ?_) (fun h162 => ?_)
      · refine r_aload_n (pc := 169) dX12_slopeOf_169 rfl ?_
        refine r_iload_n (pc := 170) dX12_slopeOf_170 rfl ?_
        refine r_iload_n (pc := 171) dX12_slopeOf_171 rfl ?_
        refine c_X12_99 (pc := 172) rfl dX12_slopeOf_172 (by first | assumption | rfl) (by omega) (Nat.le_of_ble_eq_true rfl) ?_
        refine m_X12_auto (d - 1) (by omega) (by assumption) (by assumption) (by assumption) ⟨by omega, by omega⟩ (by omega) (fun r172 e172 b172 => ?_)
        exact f_iret (pc := 175) dX12_slopeOf_175 rfl (by assumption) (hQ _ (by clear hQ hw P O hI hn b1 b2 b3 b4; unfold slp; grind) (by omega))
      refine r_iconst (pc := 165) (n := 0) dX12_slopeOf_165 ?_
      refine r_goto (pc := 166) (tgt := 175) dX12_slopeOf_166 rfl ?_
      exact f_iret (pc := 175) dX12_slopeOf_175 rfl (by assumption) (hQ _ (by clear hQ hw P O hI hn b1 b2 b3 b4; unfold slp; grind) (by omega))
    · skip
      refine r_tableOut (pc := 90) (tgt := 176) dX12_slopeOf_90 (by omega) (by omega) rfl ?_
      refine r_iload (pc := 176) dX12_slopeOf_176 rfl ?_
      refine r_ifeq (pc := 178) (tgt := 185) dX12_slopeOf_178 rfl (by omega) (fun h178 => ?_) (fun h178 => ?_)
      · refine r_aload_n (pc := 185) dX12_slopeOf_185 rfl ?_
        refine r_iload_n (pc := 186) dX12_slopeOf_186 rfl ?_
        refine r_iload_n (pc := 187) dX12_slopeOf_187 rfl ?_
        refine c_X12_119 (pc := 188) rfl dX12_slopeOf_188 (by first | assumption | rfl) (by omega) (Nat.le_of_ble_eq_true rfl) ?_
        refine m_X12_monotone (d - 1) (by omega) (by assumption) (by assumption) (by assumption) ⟨by omega, by omega⟩ (fun r188 e188 b188 => ?_)
        exact f_iret (pc := 191) dX12_slopeOf_191 rfl (by assumption) (hQ _ (by clear hQ hw P O hI hn b1 b2 b3 b4; unfold slp; grind) (by omega))
      refine r_iconst (pc := 181) (n := 0) dX12_slopeOf_181 ?_
      refine r_goto (pc := 182) (tgt := 191) dX12_slopeOf_182 rfl ?_
      exact f_iret (pc := 191) dX12_slopeOf_191 rfl (by assumption) (hQ _ (by clear hQ hw P O hI hn b1 b2 b3 b4; unfold slp; grind) (by omega))
  refine r_aload_n (pc := 0) dX12_slopeOf_0 rfl ?_
  refine r_iload_n (pc := 1) dX12_slopeOf_1 rfl ?_
  refine c_X12_78 (pc := 2) rfl dX12_slopeOf_2 (by first | assumption | rfl) (by omega) (Nat.le_of_ble_eq_true rfl) ?_
  refine m_X12_many (d - 1) (by omega) (by assumption) (by omega) (fun r2 e2 b2 => ?_)
  subst e2
  refine r_istore4 (pc := 5) dX12_slopeOf_5 rfl ?_
  refine r_aload_n (pc := 7) dX12_slopeOf_7 rfl ?_
  refine h_X12_7 (pc := 8) rfl dX12_slopeOf_8 ?_
  refine r_iload_n (pc := 11) dX12_slopeOf_11 rfl ?_
  refine r_bipush (pc := 12) (n := 52) dX12_slopeOf_12 (by decide) ?_
  refine r_iload_n (pc := 14) dX12_slopeOf_14 rfl ?_
  refine c_X12_70 (pc := 15) rfl dX12_slopeOf_15 (by omega) (Nat.le_of_ble_eq_true rfl) ?_
  refine m_X12_at (d - 1) (by omega) (by assumption)  (fun r15 e15 => ?_)
  refine f_iald (pc := 18) dX12_slopeOf_18 (n := 660) (by assumption) (by first | assumption | rfl) (by omega) (by omega) (by omega) (fun h18 => ?_)
  rw [mxR3 (w := w) (q := q) (j := k) (i := r15) (by omega)] at h18 ⊢
  refine r_istore5 (pc := 19) dX12_slopeOf_19 rfl ?_
  refine r_iload (pc := 21) dX12_slopeOf_21 rfl ?_
  refine r_ifne (pc := 23) (tgt := 48) dX12_slopeOf_23 rfl (by omega) (fun h23 => ?_) (fun h23 => ?_)
  · refine r_iload (pc := 48) dX12_slopeOf_48 rfl ?_
    refine r_iconst (pc := 50) (n := 1) dX12_slopeOf_50 ?_
    refine r_icmpeq (pc := 51) (tgt := 67) dX12_slopeOf_51 rfl (by omega) (by omega) (fun h51 => ?_) (fun h51 => ?_)
    · refine r_iconst (pc := 67) (n := 0) dX12_slopeOf_67 ?_
      exact f_iret (pc := 68) dX12_slopeOf_68 rfl (by assumption) (hQ _ (by clear hQ hw P O hI hn b1 b2 b3 b4; unfold slp; grind) (by omega))
    refine r_iload (pc := 54) dX12_slopeOf_54 rfl ?_
    refine r_iconst (pc := 56) (n := 1) dX12_slopeOf_56 ?_
    refine r_icmpeq (pc := 57) (tgt := 67) dX12_slopeOf_57 rfl (by omega) (by omega) (fun h57 => ?_) (fun h57 => ?_)
    · refine r_iconst (pc := 67) (n := 0) dX12_slopeOf_67 ?_
      exact f_iret (pc := 68) dX12_slopeOf_68 rfl (by assumption) (hQ _ (by clear hQ hw P O hI hn b1 b2 b3 b4; unfold slp; grind) (by omega))
    refine r_iload (pc := 60) dX12_slopeOf_60 rfl ?_
    refine r_bipush (pc := 62) (n := 6) dX12_slopeOf_62 (by decide) ?_
    refine r_icmpne (pc := 64) (tgt := 69) dX12_slopeOf_64 rfl (by omega) (by omega) (fun h64 => ?_) (fun h64 => ?_)
    · refine r_iload_n (pc := 69) dX12_slopeOf_69 rfl ?_
      refine r_ifeq (pc := 70) (tgt := 81) dX12_slopeOf_70 rfl (by omega) (fun h70 => ?_) (fun h70 => ?_)
      · refine r_iconst (pc := 81) (n := 1) dX12_slopeOf_81 ?_
        refine r_goto (pc := 82) (tgt := 86) dX12_slopeOf_82 rfl ?_
        exact cut86 _ (by omega) (by omega) (by omega) (by omega) (by omega) (by omega)
      refine r_iload_n (pc := 73) dX12_slopeOf_73 rfl ?_
      refine r_iload (pc := 74) dX12_slopeOf_74 rfl ?_
      refine r_iconst (pc := 76) (n := 1) dX12_slopeOf_76 ?_
      refine r_isub (pc := 77) dX12_slopeOf_77 ?_
      refine r_icmpne (pc := 78) (tgt := 85) dX12_slopeOf_78 rfl (by omega) (by omega) (fun h78 => ?_) (fun h78 => ?_)
      · refine r_iconst (pc := 85) (n := 0) dX12_slopeOf_85 ?_
        exact cut86 _ (by omega) (by omega) (by omega) (by omega) (by omega) (by omega)
      refine r_iconst (pc := 81) (n := 1) dX12_slopeOf_81 ?_
      refine r_goto (pc := 82) (tgt := 86) dX12_slopeOf_82 rfl ?_
      exact cut86 _ (by omega) (by omega) (by omega) (by omega) (by omega) (by omega)
    refine r_iconst (pc := 67) (n := 0) dX12_slopeOf_67 ?_
    exact f_iret (pc := 68) dX12_slopeOf_68 rfl (by assumption) (hQ _ (by clear hQ hw P O hI hn b1 b2 b3 b4; unfold slp; grind) (by omega))
  refine r_aload_n (pc := 26) dX12_slopeOf_26 rfl ?_
  refine h_X12_7 (pc := 27) rfl dX12_slopeOf_27 ?_
  refine r_iload_n (pc := 30) dX12_slopeOf_30 rfl ?_
  refine r_iload_n (pc := 31) dX12_slopeOf_31 rfl ?_
  refine r_ifeq (pc := 32) (tgt := 40) dX12_slopeOf_32 rfl (by omega) (fun h32 => ?_) (fun h32 => ?_)
  · refine r_bipush (pc := 40) (n := 76) dX12_slopeOf_40 (by decide) ?_
    refine r_iload_n (pc := 42) dX12_slopeOf_42 rfl ?_
    refine c_X12_70 (pc := 43) rfl dX12_slopeOf_43 (by omega) (Nat.le_of_ble_eq_true rfl) ?_
    refine m_X12_at (d - 1) (by omega) (by assumption)  (fun r43 e43 => ?_)
    refine f_iald (pc := 46) dX12_slopeOf_46 (n := 660) (by assumption) (by first | assumption | rfl) (by omega) (by omega) (by omega) (fun h46 => ?_)
    first | rw [mxR4 (w := w) (q := q) (j := k) (i := r43) (by omega)] at h46 ⊢ | rw [mxR5 (w := w) (q := q) (j := k) (i := r43) (by omega)] at h46 ⊢
    exact f_iret (pc := 47) dX12_slopeOf_47 rfl (by assumption) (hQ _ (by clear hQ hw P O hI hn b1 b2 b3 b4; unfold slp; grind) (by omega))
  refine r_bipush (pc := 35) (n := 100) dX12_slopeOf_35 (by decide) ?_
  refine r_goto (pc := 37) (tgt := 42) dX12_slopeOf_37 rfl ?_
  refine r_iload_n (pc := 42) dX12_slopeOf_42 rfl ?_
  refine c_X12_70 (pc := 43) rfl dX12_slopeOf_43 (by omega) (Nat.le_of_ble_eq_true rfl) ?_
  refine m_X12_at (d - 1) (by omega) (by assumption)  (fun r43 e43 => ?_)
  refine f_iald (pc := 46) dX12_slopeOf_46 (n := 660) (by assumption) (by first | assumption | rfl) (by omega) (by omega) (by omega) (fun h46 => ?_)
  first | rw [mxR4 (w := w) (q := q) (j := k) (i := r43) (by omega)] at h46 ⊢ | rw [mxR5 (w := w) (q := q) (j := k) (i := r43) (by omega)] at h46 ⊢
  exact f_iret (pc := 47) dX12_slopeOf_47 rfl (by assumption) (hQ _ (by clear hQ hw P O hI hn b1 b2 b3 b4; unfold slp; grind) (by omega))
set_option maxRecDepth 8000 in
theorem m_X12_inside {Q : Option AV → Wd → Prop} {w : Wd} (d : Nat) {q : Int} {f : Int} (hd : 6 ≤ d) (hw : WR w) (hq : 0 ≤ q ∧ q ≤ 3) (hI : CI (mx w q)) (h1 : 1 ≤ mx w q 0 0) (hf : mx w q 1 0 ≤ f ∧ f ≤ mx w q 1 (mx w q 0 0 - 1)) (hQ : ∀ r, r = insd (mx w q) f → R32 r → Q (some (vI r)) w) : M mX12_inside (Rm d) [vR (some 385), vI q, vI f] (fl w) (lQ Q) := by
  obtain ⟨hn, P, O, b1, b2, b3, b4⟩ := id hI
  have P0 := P 0 (by omega) (by omega)
  have Pl := P (mx w q 0 0 - 1) (by omega) (by omega)
  refine f_mofv (L0 := [some (vR (some 385)), some (vI q), some (vI f), none, none, none, none, none, none, none, none, none, none, none, none, none, none, none]) rfl (Nat.le_of_ble_eq_true rfl) rfl ?_
  have cut31 : ∀ k : Int, 0 ≤ k → k < mx w q 0 0 → mx w q 1 k ≤ f → (k + 1 < mx w q 0 0 → f < mx w q 1 (k + 1)) → V mX12_inside (Rm d) 0 0 31 [some (vR (some 385)), some (vI q), some (vI f), some (vI k), none, none, none, none, none, none, none, none, none, none, none, none, none, none] [] (fl w) (lQ Q) := by
    intro k hk0 hkn hkf hkg
    have K := kX_at hI hk0 hkn hkf hkg
    have Pk := P k hk0 (by omega)
    
    refine r_ldc2 (pc := 31) (n := 64) dX12_inside_31 kw_X12_91 rfl ?_
    refine r_aload_n (pc := 34) dX12_inside_34 rfl ?_
    refine h_X12_7 (pc := 35) rfl dX12_inside_35 ?_
    refine r_iload_n (pc := 38) dX12_inside_38 rfl ?_
    refine r_bipush (pc := 39) (n := 28) dX12_inside_39 (by decide) ?_
    refine r_iload_n (pc := 41) dX12_inside_41 rfl ?_
    refine c_X12_70 (pc := 42) rfl dX12_inside_42 (by omega) (Nat.le_of_ble_eq_true rfl) ?_
    refine m_X12_at (d - 1) (by omega) (by assumption)  (fun r42 e42 => ?_)
    refine f_iald (pc := 45) dX12_inside_45 (n := 660) (by assumption) (by first | assumption | rfl) (by omega) (by omega) (by omega) (fun h45 => ?_)
    rw [mxR2 (w := w) (q := q) (j := k) (i := r42) (by omega)] at h45 ⊢
    refine r_i2l (pc := 46) dX12_inside_46 (by first | assumption | omega) ?_
    refine r_lmul (pc := 47) dX12_inside_47 ?_
    refine r_lstore4 (pc := 48) dX12_inside_48 rfl ?_
    refine r_aload_n (pc := 50) dX12_inside_50 rfl ?_
    refine r_iload_n (pc := 51) dX12_inside_51 rfl ?_
    refine r_iload_n (pc := 52) dX12_inside_52 rfl ?_
    refine c_X12_82 (pc := 53) rfl dX12_inside_53 (by first | assumption | rfl) (by omega) (Nat.le_of_ble_eq_true rfl) ?_
    refine m_X12_frame (d - 1) (by omega) (by assumption) (by omega) (by omega) (fun r53 e53 b53 => ?_)
    refine r_iload_n (pc := 56) dX12_inside_56 rfl ?_
    refine r_icmpeq (pc := 57) (tgt := 77) dX12_inside_57 rfl (by omega) (by omega) (fun h57 => ?_) (fun h57 => ?_)
    · refine r_lload (pc := 77) dX12_inside_77 rfl ?_
      refine r_l2i (pc := 79) dX12_inside_79 ?_
      exact f_iret (pc := 80) dX12_inside_80 rfl (by assumption) (hQ _ (by unfold insd; rw [K, if_pos (show mx w q 1 k = f by omega)]) (by omega))
    have e53k : mx w q 1 k ≠ f := by omega
    have KL : k + 1 < mx w q 0 0 := by
      rcases Int.lt_or_le (k + 1) (mx w q 0 0) with z | z
      · exact z
      · have e : k = mx w q 0 0 - 1 := by omega
        rw [e] at hkf e53k
        omega
    have Pk2 := P (k + 1) (by omega) KL
    have Ok := O k (k + 1) hk0 (by omega) KL
    refine r_aload_n (pc := 60) dX12_inside_60 rfl ?_
    refine h_X12_7 (pc := 61) rfl dX12_inside_61 ?_
    refine r_iload_n (pc := 64) dX12_inside_64 rfl ?_
    refine r_bipush (pc := 65) (n := 52) dX12_inside_65 (by decide) ?_
    refine r_iload_n (pc := 67) dX12_inside_67 rfl ?_
    refine c_X12_70 (pc := 68) rfl dX12_inside_68 (by omega) (Nat.le_of_ble_eq_true rfl) ?_
    refine m_X12_at (d - 1) (by omega) (by assumption)  (fun r68 e68 => ?_)
    refine f_iald (pc := 71) dX12_inside_71 (n := 660) (by assumption) (by first | assumption | rfl) (by omega) (by omega) (by omega) (fun h71 => ?_)
    rw [mxR3 (w := w) (q := q) (j := k) (i := r68) (by omega)] at h71 ⊢
    refine r_bipush (pc := 72) (n := 6) dX12_inside_72 (by decide) ?_
    refine r_icmpne (pc := 74) (tgt := 81) dX12_inside_74 rfl (by omega) (by omega) (fun h74 => ?_) (fun h74 => ?_)
    · refine r_ldc2 (pc := 81) (n := 64) dX12_inside_81 kw_X12_91 rfl ?_
      refine r_aload_n (pc := 84) dX12_inside_84 rfl ?_
      refine h_X12_7 (pc := 85) rfl dX12_inside_85 ?_
      refine r_iload_n (pc := 88) dX12_inside_88 rfl ?_
      refine r_bipush (pc := 89) (n := 28) dX12_inside_89 (by decide) ?_
      refine r_iload_n (pc := 91) dX12_inside_91 rfl ?_
      refine r_iconst (pc := 92) (n := 1) dX12_inside_92 ?_
      refine r_iadd (pc := 93) dX12_inside_93 ?_
      refine c_X12_70 (pc := 94) rfl dX12_inside_94 (by omega) (Nat.le_of_ble_eq_true rfl) ?_
      refine m_X12_at (d - 1) (by omega) (by assumption)  (fun r94 e94 => ?_)
      refine f_iald (pc := 97) dX12_inside_97 (n := 660) (by assumption) (by first | assumption | rfl) (by omega) (by omega) (by omega) (fun h97 => ?_)
      rw [mxR2 (w := w) (q := q) (j := k + 1) (i := r94) (by omega)] at h97 ⊢
      refine r_i2l (pc := 98) dX12_inside_98 (by first | assumption | omega) ?_
      refine r_lmul (pc := 99) dX12_inside_99 ?_
      refine r_lstore6 (pc := 100) dX12_inside_100 rfl ?_
      refine r_aload_n (pc := 102) dX12_inside_102 rfl ?_
      refine r_iload_n (pc := 103) dX12_inside_103 rfl ?_
      refine r_iload_n (pc := 104) dX12_inside_104 rfl ?_
      refine r_iconst (pc := 105) (n := 1) dX12_inside_105 ?_
      refine c_X12_122 (pc := 106) rfl dX12_inside_106 (by first | assumption | rfl) (by omega) (Nat.le_of_ble_eq_true rfl) ?_
      refine m_X12_slopeOf (d - 1) (by omega) (by assumption) (by assumption) (by assumption) ⟨by omega, by omega⟩ (by omega) (fun r106 e106 b106 => ?_)
      refine r_i2l (pc := 109) dX12_inside_109 (by first | assumption | omega) ?_
      refine r_lstore8 (pc := 110) dX12_inside_110 rfl ?_
      refine r_aload_n (pc := 112) dX12_inside_112 rfl ?_
      refine r_iload_n (pc := 113) dX12_inside_113 rfl ?_
      refine r_iload_n (pc := 114) dX12_inside_114 rfl ?_
      refine r_iconst (pc := 115) (n := 1) dX12_inside_115 ?_
      refine r_iadd (pc := 116) dX12_inside_116 ?_
      refine r_iconst (pc := 117) (n := 0) dX12_inside_117 ?_
      refine c_X12_122 (pc := 118) rfl dX12_inside_118 (by first | assumption | rfl) (by omega) (Nat.le_of_ble_eq_true rfl) ?_
      refine m_X12_slopeOf (d - 1) (by omega) (by assumption) (by assumption) (by assumption) ⟨by omega, by omega⟩ (by omega) (fun r118 e118 b118 => ?_)
      refine r_i2l (pc := 121) dX12_inside_121 (by first | assumption | omega) ?_
      refine r_lstore10 (pc := 122) dX12_inside_122 rfl ?_
      refine r_aload_n (pc := 124) dX12_inside_124 rfl ?_
      refine r_iload_n (pc := 125) dX12_inside_125 rfl ?_
      refine r_iload_n (pc := 126) dX12_inside_126 rfl ?_
      refine r_iconst (pc := 127) (n := 1) dX12_inside_127 ?_
      refine r_iadd (pc := 128) dX12_inside_128 ?_
      refine c_X12_82 (pc := 129) rfl dX12_inside_129 (by first | assumption | rfl) (by omega) (Nat.le_of_ble_eq_true rfl) ?_
      refine m_X12_frame (d - 1) (by omega) (by assumption) (by omega) (by omega) (fun r129 e129 b129 => ?_)
      refine r_aload_n (pc := 132) dX12_inside_132 rfl ?_
      refine r_iload_n (pc := 133) dX12_inside_133 rfl ?_
      refine r_iload_n (pc := 134) dX12_inside_134 rfl ?_
      refine c_X12_82 (pc := 135) rfl dX12_inside_135 (by first | assumption | rfl) (by omega) (Nat.le_of_ble_eq_true rfl) ?_
      refine m_X12_frame (d - 1) (by omega) (by assumption) (by omega) (by omega) (fun r135 e135 b135 => ?_)
      refine r_isub (pc := 138) dX12_inside_138 ?_
      refine r_i2l (pc := 139) dX12_inside_139 (by first | assumption | omega) ?_
      refine r_lstore12 (pc := 140) dX12_inside_140 rfl ?_
      refine r_iload_n (pc := 142) dX12_inside_142 rfl ?_
      refine r_aload_n (pc := 143) dX12_inside_143 rfl ?_
      refine r_iload_n (pc := 144) dX12_inside_144 rfl ?_
      refine r_iload_n (pc := 145) dX12_inside_145 rfl ?_
      refine c_X12_82 (pc := 146) rfl dX12_inside_146 (by first | assumption | rfl) (by omega) (Nat.le_of_ble_eq_true rfl) ?_
      refine m_X12_frame (d - 1) (by omega) (by assumption) (by omega) (by omega) (fun r146 e146 b146 => ?_)
      refine r_isub (pc := 149) dX12_inside_149 ?_
      refine r_i2l (pc := 150) dX12_inside_150 (by first | assumption | omega) ?_
      refine r_lstore14 (pc := 151) dX12_inside_151 rfl ?_
      refine r_lload (pc := 153) dX12_inside_153 rfl ?_
      refine r_ldc2 (pc := 155) (n := 2) dX12_inside_155 kw_X12_60 rfl ?_
      refine r_lload (pc := 158) dX12_inside_158 rfl ?_
      refine r_lmul (pc := 160) dX12_inside_160 ?_
      refine r_lload (pc := 161) dX12_inside_161 rfl ?_
      refine r_lmul (pc := 163) dX12_inside_163 ?_
      refine r_lload (pc := 164) dX12_inside_164 rfl ?_
      refine r_lmul (pc := 166) dX12_inside_166 ?_
      refine r_ldc2 (pc := 167) (n := 3) dX12_inside_167 kw_X12_126 rfl ?_
      refine r_lload (pc := 170) dX12_inside_170 rfl ?_
      refine r_lmul (pc := 172) dX12_inside_172 ?_
      refine r_lload (pc := 173) dX12_inside_173 rfl ?_
      refine r_lmul (pc := 175) dX12_inside_175 ?_
      refine r_lload (pc := 176) dX12_inside_176 rfl ?_
      refine r_lmul (pc := 178) dX12_inside_178 ?_
      refine r_lsub (pc := 179) dX12_inside_179 ?_
      refine r_lload (pc := 180) dX12_inside_180 rfl ?_
      refine r_lload (pc := 182) dX12_inside_182 rfl ?_
      refine r_lmul (pc := 184) dX12_inside_184 ?_
      refine r_lload (pc := 185) dX12_inside_185 rfl ?_
      refine r_lmul (pc := 187) dX12_inside_187 ?_
      refine r_ladd (pc := 188) dX12_inside_188 ?_
      refine r_lmul (pc := 189) dX12_inside_189 ?_
      refine r_lload (pc := 190) dX12_inside_190 rfl ?_
      refine r_ldc2 (pc := 192) (n := 3) dX12_inside_192 kw_X12_126 rfl ?_
      refine r_lload (pc := 195) dX12_inside_195 rfl ?_
      refine r_lmul (pc := 197) dX12_inside_197 ?_
      refine r_lload (pc := 198) dX12_inside_198 rfl ?_
      refine r_lmul (pc := 200) dX12_inside_200 ?_
      refine r_lload (pc := 201) dX12_inside_201 rfl ?_
      refine r_lmul (pc := 203) dX12_inside_203 ?_
      refine r_ldc2 (pc := 204) (n := 2) dX12_inside_204 kw_X12_60 rfl ?_
      refine r_lload (pc := 207) dX12_inside_207 rfl ?_
      refine r_lmul (pc := 209) dX12_inside_209 ?_
      refine r_lload (pc := 210) dX12_inside_210 rfl ?_
      refine r_lmul (pc := 212) dX12_inside_212 ?_
      refine r_lload (pc := 213) dX12_inside_213 rfl ?_
      refine r_lmul (pc := 215) dX12_inside_215 ?_
      refine r_lsub (pc := 216) dX12_inside_216 ?_
      refine r_lmul (pc := 217) dX12_inside_217 ?_
      refine r_ladd (pc := 218) dX12_inside_218 ?_
      refine r_lstore16 (pc := 219) dX12_inside_219 rfl ?_
      refine r_lload (pc := 221) dX12_inside_221 rfl ?_
      refine r_lload (pc := 223) dX12_inside_223 rfl ?_
      refine r_lload (pc := 225) dX12_inside_225 rfl ?_
      refine r_lmul (pc := 227) dX12_inside_227 ?_
      refine r_lload (pc := 228) dX12_inside_228 rfl ?_
      refine r_lload (pc := 230) dX12_inside_230 rfl ?_
      refine r_lmul (pc := 232) dX12_inside_232 ?_
      refine r_lload (pc := 233) dX12_inside_233 rfl ?_
      refine r_lmul (pc := 235) dX12_inside_235 ?_
      refine r_ldc2 (pc := 236) (n := 2) dX12_inside_236 kw_X12_60 rfl ?_
      refine r_lload (pc := 239) dX12_inside_239 rfl ?_
      refine r_lmul (pc := 241) dX12_inside_241 ?_
      refine r_lload (pc := 242) dX12_inside_242 rfl ?_
      refine r_lmul (pc := 244) dX12_inside_244 ?_
      refine r_lload (pc := 245) dX12_inside_245 rfl ?_
      refine r_lmul (pc := 247) dX12_inside_247 ?_
      refine r_lsub (pc := 248) dX12_inside_248 ?_
      refine r_lload (pc := 249) dX12_inside_249 rfl ?_
      refine r_lload (pc := 251) dX12_inside_251 rfl ?_
      refine r_lmul (pc := 253) dX12_inside_253 ?_
      refine r_lload (pc := 254) dX12_inside_254 rfl ?_
      refine r_lmul (pc := 256) dX12_inside_256 ?_
      refine r_ladd (pc := 257) dX12_inside_257 ?_
      refine r_lmul (pc := 258) dX12_inside_258 ?_
      refine r_lload (pc := 259) dX12_inside_259 rfl ?_
      refine r_lload (pc := 261) dX12_inside_261 rfl ?_
      refine r_lmul (pc := 263) dX12_inside_263 ?_
      refine r_lload (pc := 264) dX12_inside_264 rfl ?_
      refine r_lload (pc := 266) dX12_inside_266 rfl ?_
      refine r_lmul (pc := 268) dX12_inside_268 ?_
      refine r_lload (pc := 269) dX12_inside_269 rfl ?_
      refine r_lmul (pc := 271) dX12_inside_271 ?_
      refine r_lload (pc := 272) dX12_inside_272 rfl ?_
      refine r_lload (pc := 274) dX12_inside_274 rfl ?_
      refine r_lmul (pc := 276) dX12_inside_276 ?_
      refine r_lload (pc := 277) dX12_inside_277 rfl ?_
      refine r_lmul (pc := 279) dX12_inside_279 ?_
      refine r_lsub (pc := 280) dX12_inside_280 ?_
      refine r_lmul (pc := 281) dX12_inside_281 ?_
      refine r_ladd (pc := 282) dX12_inside_282 ?_
      refine r_ladd (pc := 283) dX12_inside_283 ?_
      refine r_lstore16 (pc := 284) dX12_inside_284 rfl ?_
      refine r_lload (pc := 286) dX12_inside_286 rfl ?_
      refine r_lload (pc := 288) dX12_inside_288 rfl ?_
      refine r_lload (pc := 290) dX12_inside_290 rfl ?_
      refine r_lmul (pc := 292) dX12_inside_292 ?_
      refine r_lload (pc := 293) dX12_inside_293 rfl ?_
      refine r_lmul (pc := 295) dX12_inside_295 ?_
      refine c_X12_93 (pc := 296) rfl dX12_inside_296 (by omega) (Nat.le_of_ble_eq_true rfl) ?_
      have D3 := d3_bd (d := r129 - r135) (by omega) (by omega)
      refine m_X12_round (d - 1) (by omega) (by assumption) (by omega) (fun r296 e296 => ?_)
      refine r_l2i (pc := 299) dX12_inside_299 ?_
      refine rep_I (zi_w32 _) ?_
      exact f_iret (pc := 300) dX12_inside_300 rfl (by assumption) (hQ _ (by unfold insd; rw [K, if_neg (show ¬ mx w q 1 k = f by omega), e296, herm_ring, e106, e118, e129, e135, e146]; exact (if_neg (show ¬ mx w q 3 k = 6 by omega)).symm) (w32_r _))
    refine r_lload (pc := 77) dX12_inside_77 rfl ?_
    refine r_l2i (pc := 79) dX12_inside_79 ?_
    exact f_iret (pc := 80) dX12_inside_80 rfl (by assumption) (hQ _ (by unfold insd; rw [K, if_neg (show ¬ mx w q 1 k = f by omega)]; exact (if_pos (show mx w q 3 k = 6 by omega)).symm) (by omega))
  have loop2 : ∀ n0 : Nat, ∀ k : Int, (mx w q 0 0 - k).toNat = n0 → 0 ≤ k → k < mx w q 0 0 → mx w q 1 k ≤ f → V mX12_inside (Rm d) 0 0 2 [some (vR (some 385)), some (vI q), some (vI f), some (vI k), none, none, none, none, none, none, none, none, none, none, none, none, none, none] [] (fl w) (lQ Q) := by
    refine ind_lt ?_
    intro n0 ih k hm hk0 hkn hkf
    refine r_iload_n (pc := 2) dX12_inside_2 rfl ?_
    refine r_aload_n (pc := 3) dX12_inside_3 rfl ?_
    refine r_iload_n (pc := 4) dX12_inside_4 rfl ?_
    refine c_X12_78 (pc := 5) rfl dX12_inside_5 (by first | assumption | rfl) (by omega) (Nat.le_of_ble_eq_true rfl) ?_
    refine m_X12_many (d - 1) (by omega) (by assumption) (by omega) (fun r5 e5 b5 => ?_)
    refine r_iconst (pc := 8) (n := 1) dX12_inside_8 ?_
    refine r_isub (pc := 9) dX12_inside_9 ?_
    refine r_icmpge (pc := 10) (tgt := 31) dX12_inside_10 rfl (by omega) (by omega) (fun h10 => ?_) (fun h10 => ?_)
    · exact cut31 k hk0 hkn hkf (fun h => by omega)
    refine r_aload_n (pc := 13) dX12_inside_13 rfl ?_
    refine r_iload_n (pc := 14) dX12_inside_14 rfl ?_
    refine r_iload_n (pc := 15) dX12_inside_15 rfl ?_
    refine r_iconst (pc := 16) (n := 1) dX12_inside_16 ?_
    refine r_iadd (pc := 17) dX12_inside_17 ?_
    refine c_X12_82 (pc := 18) rfl dX12_inside_18 (by first | assumption | rfl) (by omega) (Nat.le_of_ble_eq_true rfl) ?_
    refine m_X12_frame (d - 1) (by omega) (by assumption) (by omega) (by omega) (fun r18 e18 b18 => ?_)
    refine r_iload_n (pc := 21) dX12_inside_21 rfl ?_
    refine r_icmpgt (pc := 22) (tgt := 31) dX12_inside_22 rfl (by omega) (by omega) (fun h22 => ?_) (fun h22 => ?_)
    · exact cut31 k hk0 hkn hkf (fun h => by omega)
    refine r_iinc3 (pc := 25) dX12_inside_25 rfl ?_
    refine r_goto (pc := 28) (tgt := 2) dX12_inside_28 rfl ?_
    exact ih _ (by omega) (k + 1) rfl (by omega) (by omega) (by omega)
  refine r_iconst (pc := 0) (n := 0) dX12_inside_0 ?_
  refine r_istore3 (pc := 1) dX12_inside_1 rfl ?_
  exact loop2 _ 0 rfl (by omega) (by omega) hf.1
