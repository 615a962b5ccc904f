theorem kw_X0_91 : Jvm.Cond.constantLong RX0 91 (2 : Int64) ∈ gW := gw_t 450 (by decide +kernel) (by decide +kernel)
theorem kw_X0_119 : Jvm.Cond.constantLong RX0 119 (64 : Int64) ∈ gW := gw_t 384 (by decide +kernel) (by decide +kernel)
theorem kw_X0_152 : Jvm.Cond.constantLong RX0 152 (3 : Int64) ∈ gW := gw_t 449 (by decide +kernel) (by decide +kernel)
set_option maxRecDepth 8000 in
theorem m_X0_secant {Q : Option AV → Wd → Prop} {w : Wd} (d : Nat) {c : Nat} {i j : Int} (hd : 2 ≤ d) (hw : WR w) (hs : sh c = 0) (hI : CI (cx w c)) (hi : 0 ≤ i ∧ i < j ∧ j < w c 0) (hQ : ∀ r, r = sec2 (cx w c) i j → -127872 ≤ r ∧ r ≤ 127872 → Q (some (vI r)) w) : M mX0_secant (Rm d) [vR (some c), vI i, vI j] (fl w) (lQ Q) := by
  obtain ⟨s1, s2, s3, s4, s5⟩ := sh_curve hs
  obtain ⟨hn, P, O, b1, b2, b3, b4⟩ := CIw hI
  have P1 := P i (by omega) (by omega)
  have P2 := P j (by omega) (by omega)
  have O1 := O i j (by omega) (by omega) (by omega)
  have B := sec2_bd hI hi.1 hi.2.1 hi.2.2
  refine f_mofv (L0 := [some (vR (some c)), some (vI i), some (vI j), none, none]) rfl (Nat.le_of_ble_eq_true rfl) rfl ?_
  refine r_aload_n (pc := 0) dX0_secant_0 rfl ?_
  refine g_X0_22 (pc := 1) rfl dX0_secant_1 (by first | assumption | rfl) ?_
  refine r_iload_n (pc := 4) dX0_secant_4 rfl ?_
  refine c_X0_53 (pc := 5) rfl dX0_secant_5 (by omega) (Nat.le_of_ble_eq_true rfl) ?_
  refine m_X11_at (d - 1) (by omega) (by assumption) (n := 24) (by assumption) (by omega) (by omega) (fun r5 e5 b5 => ?_)
  rw [gA_in (by omega) (by omega)] at e5
  refine r_i2l (pc := 8) dX0_secant_8 (by first | assumption | omega) ?_
  refine r_aload_n (pc := 9) dX0_secant_9 rfl ?_
  refine g_X0_22 (pc := 10) rfl dX0_secant_10 (by first | assumption | rfl) ?_
  refine r_iload_n (pc := 13) dX0_secant_13 rfl ?_
  refine c_X0_53 (pc := 14) rfl dX0_secant_14 (by omega) (Nat.le_of_ble_eq_true rfl) ?_
  refine m_X11_at (d - 1) (by omega) (by assumption) (n := 24) (by assumption) (by omega) (by omega) (fun r14 e14 b14 => ?_)
  rw [gA_in (by omega) (by omega)] at e14
  refine r_i2l (pc := 17) dX0_secant_17 (by first | assumption | omega) ?_
  refine r_lsub (pc := 18) dX0_secant_18 ?_
  refine r_lstore3 (pc := 19) dX0_secant_19 rfl ?_
  refine r_ldc2 (pc := 20) (n := 64) dX0_secant_20 kw_X0_119 rfl ?_
  refine r_lload_n (pc := 23) dX0_secant_23 rfl ?_
  refine r_lmul (pc := 24) dX0_secant_24 ?_
  refine r_aload_n (pc := 25) dX0_secant_25 rfl ?_
  refine g_X0_18 (pc := 26) rfl dX0_secant_26 (by first | assumption | rfl) ?_
  refine r_iload_n (pc := 29) dX0_secant_29 rfl ?_
  refine c_X0_53 (pc := 30) rfl dX0_secant_30 (by omega) (Nat.le_of_ble_eq_true rfl) ?_
  refine m_X11_at (d - 1) (by omega) (by assumption) (n := 24) (by assumption) (by omega) (by omega) (fun r30 e30 b30 => ?_)
  rw [gA_in (by omega) (by omega)] at e30
  refine r_aload_n (pc := 33) dX0_secant_33 rfl ?_
  refine g_X0_18 (pc := 34) rfl dX0_secant_34 (by first | assumption | rfl) ?_
  refine r_iload_n (pc := 37) dX0_secant_37 rfl ?_
  refine c_X0_53 (pc := 38) rfl dX0_secant_38 (by omega) (Nat.le_of_ble_eq_true rfl) ?_
  refine m_X11_at (d - 1) (by omega) (by assumption) (n := 24) (by assumption) (by omega) (by omega) (fun r38 e38 b38 => ?_)
  rw [gA_in (by omega) (by omega)] at e38
  refine r_isub (pc := 41) dX0_secant_41 ?_
  refine r_i2l (pc := 42) dX0_secant_42 (by first | assumption | omega) ?_
  refine c_X0_93 (pc := 43) rfl dX0_secant_43 (by omega) (Nat.le_of_ble_eq_true rfl) ?_
  refine m_X11_round (d - 1) (by omega) (by assumption) (by omega) (fun r43 e43 => ?_)
  have E : sec2 (cx w c) i j = w32 r43 := by
    rw [e43, e38, e30, e14, e5]; rfl
  refine r_l2i (pc := 46) dX0_secant_46 ?_
  refine rep_I (zi_w32 _) ?_
  exact f_iret (pc := 47) dX0_secant_47 rfl (by assumption) (hQ _ E.symm (by omega))
set_option maxRecDepth 8000 in
theorem m_X0_isBetweenNeighbors {Q : Option AV → Wd → Prop} {w : Wd} (d : Nat) {c : Nat} {k : Int} (hd : 1 ≤ d) (hw : WR w) (hs : sh c = 0) (hI : CI (cx w c)) (hk : 0 < k ∧ k + 1 < w c 0) (hQ : ∀ r, r = b2i ((w (c + 2) k > w (c + 2) (k - 1) ∧ w (c + 2) k < w (c + 2) (k + 1)) ∨ (w (c + 2) k < w (c + 2) (k - 1) ∧ w (c + 2) k > w (c + 2) (k + 1))) → (r = 0 ∨ r = 1) → Q (some (vI r)) w) : M mX0_isBetweenNeighbors (Rm d) [vR (some c), vI k] (fl w) (lQ Q) := by
  obtain ⟨s1, s2, s3, s4, s5⟩ := sh_curve hs
  obtain ⟨hn, P, O, b1, b2, b3, b4⟩ := CIw hI
  refine f_mofv (L0 := [some (vR (some c)), some (vI k), none, none, none]) rfl (Nat.le_of_ble_eq_true rfl) rfl ?_
  refine r_aload_n (pc := 0) dX0_isBetweenNeighbors_0 rfl ?_
  refine g_X0_22 (pc := 1) rfl dX0_isBetweenNeighbors_1 (by first | assumption | rfl) ?_
  refine r_iload_n (pc := 4) dX0_isBetweenNeighbors_4 rfl ?_
  refine c_X0_53 (pc := 5) rfl dX0_isBetweenNeighbors_5 (by omega) (Nat.le_of_ble_eq_true rfl) ?_
  refine m_X11_at (d - 1) (by omega) (by assumption) (n := 24) (by assumption) (by omega) (by omega) (fun r5 e5 b5 => ?_)
  rw [gA_in (by omega) (by omega)] at e5
  refine r_istore2 (pc := 8) dX0_isBetweenNeighbors_8 rfl ?_
  refine r_aload_n (pc := 9) dX0_isBetweenNeighbors_9 rfl ?_
  refine g_X0_22 (pc := 10) rfl dX0_isBetweenNeighbors_10 (by first | assumption | rfl) ?_
  refine r_iload_n (pc := 13) dX0_isBetweenNeighbors_13 rfl ?_
  refine r_iconst (pc := 14) (n := 1) dX0_isBetweenNeighbors_14 ?_
  refine r_isub (pc := 15) dX0_isBetweenNeighbors_15 ?_
  refine c_X0_53 (pc := 16) rfl dX0_isBetweenNeighbors_16 (by omega) (Nat.le_of_ble_eq_true rfl) ?_
  refine m_X11_at (d - 1) (by omega) (by assumption) (n := 24) (by assumption) (by omega) (by omega) (fun r16 e16 b16 => ?_)
  rw [gA_in (by omega) (by omega)] at e16
  refine r_istore3 (pc := 19) dX0_isBetweenNeighbors_19 rfl ?_
  refine r_aload_n (pc := 20) dX0_isBetweenNeighbors_20 rfl ?_
  refine g_X0_22 (pc := 21) rfl dX0_isBetweenNeighbors_21 (by first | assumption | rfl) ?_
  refine r_iload_n (pc := 24) dX0_isBetweenNeighbors_24 rfl ?_
  refine r_iconst (pc := 25) (n := 1) dX0_isBetweenNeighbors_25 ?_
  refine r_iadd (pc := 26) dX0_isBetweenNeighbors_26 ?_
  refine c_X0_53 (pc := 27) rfl dX0_isBetweenNeighbors_27 (by omega) (Nat.le_of_ble_eq_true rfl) ?_
  refine m_X11_at (d - 1) (by omega) (by assumption) (n := 24) (by assumption) (by omega) (by omega) (fun r27 e27 b27 => ?_)
  rw [gA_in (by omega) (by omega)] at e27
  refine r_istore4 (pc := 30) dX0_isBetweenNeighbors_30 rfl ?_
  refine r_iload_n (pc := 32) dX0_isBetweenNeighbors_32 rfl ?_
  refine r_iload_n (pc := 33) dX0_isBetweenNeighbors_33 rfl ?_
  refine r_iload (pc := 34) dX0_isBetweenNeighbors_34 rfl ?_
  refine c_X0_121 (pc := 36) rfl dX0_isBetweenNeighbors_36 (by omega) (Nat.le_of_ble_eq_true rfl) ?_
  refine m_J9_min_7cf53 (d - 1) (by omega) (by assumption) (by omega) (by omega) (fun r36 e36 b36 => ?_)
  refine r_icmple (pc := 39) (tgt := 56) dX0_isBetweenNeighbors_39 rfl (by omega) (by omega) (fun h39 => ?_) (fun h39 => ?_)
  · refine r_iconst (pc := 56) (n := 0) dX0_isBetweenNeighbors_56 ?_
    exact f_zret (pc := 57) dX0_isBetweenNeighbors_57 rfl (by first | exact Or.inl rfl | exact Or.inr rfl | omega) (by assumption) (hQ _ (by rw [← e5, ← e16, ← e27]; unfold b2i; split <;> omega) (by omega))
  refine r_iload_n (pc := 42) dX0_isBetweenNeighbors_42 rfl ?_
  refine r_iload_n (pc := 43) dX0_isBetweenNeighbors_43 rfl ?_
  refine r_iload (pc := 44) dX0_isBetweenNeighbors_44 rfl ?_
  refine c_X0_126 (pc := 46) rfl dX0_isBetweenNeighbors_46 (by omega) (Nat.le_of_ble_eq_true rfl) ?_
  refine m_J9_max_7cf53 (d - 1) (by omega) (by assumption) (by omega) (by omega) (fun r46 e46 b46 => ?_)
  refine r_icmpge (pc := 49) (tgt := 56) dX0_isBetweenNeighbors_49 rfl (by omega) (by omega) (fun h49 => ?_) (fun h49 => ?_)
  · refine r_iconst (pc := 56) (n := 0) dX0_isBetweenNeighbors_56 ?_
    exact f_zret (pc := 57) dX0_isBetweenNeighbors_57 rfl (by first | exact Or.inl rfl | exact Or.inr rfl | omega) (by assumption) (hQ _ (by rw [← e5, ← e16, ← e27]; unfold b2i; split <;> omega) (by omega))
  refine r_iconst (pc := 52) (n := 1) dX0_isBetweenNeighbors_52 ?_
  refine r_goto (pc := 53) (tgt := 57) dX0_isBetweenNeighbors_53 rfl ?_
  exact f_zret (pc := 57) dX0_isBetweenNeighbors_57 rfl (by first | exact Or.inl rfl | exact Or.inr rfl | omega) (by assumption) (hQ _ (by rw [← e5, ← e16, ← e27]; unfold b2i; split <;> omega) (by omega))
set_option maxRecDepth 8000 in
theorem m_X0_monotone {Q : Option AV → Wd → Prop} {w : Wd} (d : Nat) {a l r : Int} (hd : 2 ≤ d) (hw : WR w) (ha : R32 a) (hl : -200000 ≤ l ∧ l ≤ 200000) (hr : -200000 ≤ r ∧ r ≤ 200000) (hQ : ∀ z, z = monS a l r → -600000 ≤ z ∧ z ≤ 600000 → Q (some (vI z)) w) : M mX0_monotone (Rm d) [vI a, vI l, vI r] (fl w) (lQ Q) := by
  refine f_mofv (L0 := [some (vI a), some (vI l), some (vI r), none]) rfl (Nat.le_of_ble_eq_true rfl) rfl ?_
  have cut21 : ∀ z : Int, (z = 0 ∨ z = 1) → (z = 1 ↔ (l > 0 ∧ r > 0) ∨ (l < 0 ∧ r < 0)) → V mX0_monotone (Rm d) 0 0 21 [some (vI a), some (vI l), some (vI r), none] [vI z] (fl w) (lQ Q) := by
    intro z hz hz2
    refine r_istore3 (pc := 21) dX0_monotone_21 rfl ?_
    refine r_iload_n (pc := 22) dX0_monotone_22 rfl ?_
    refine r_ifne (pc := 23) (tgt := 28) dX0_monotone_23 rfl (by omega) (fun h23 => ?_) (fun h23 => ?_)
    · refine r_iload_n (pc := 28) dX0_monotone_28 rfl ?_
      refine r_i2l (pc := 29) dX0_monotone_29 (by first | assumption | omega) ?_
      refine r_iconst (pc := 30) (n := 3) dX0_monotone_30 ?_
      refine r_iload_n (pc := 31) dX0_monotone_31 rfl ?_
      refine c_X0_129 (pc := 32) rfl dX0_monotone_32 (by omega) (Nat.le_of_ble_eq_true rfl) ?_
      refine m_J9_abs_0f7a4 (d - 1) (by omega) (by assumption) (by omega) (fun r32 e32 b32 => ?_)
      refine r_iload_n (pc := 35) dX0_monotone_35 rfl ?_
      refine c_X0_129 (pc := 36) rfl dX0_monotone_36 (by omega) (Nat.le_of_ble_eq_true rfl) ?_
      refine m_J9_abs_0f7a4 (d - 1) (by omega) (by assumption) (by omega) (fun r36 e36 b36 => ?_)
      refine c_X0_121 (pc := 39) rfl dX0_monotone_39 (by omega) (Nat.le_of_ble_eq_true rfl) ?_
      refine m_J9_min_7cf53 (d - 1) (by omega) (by assumption) (by omega) (by omega) (fun r39 e39 b39 => ?_)
      refine r_imul (pc := 42) dX0_monotone_42 ?_
      refine c_X0_81 (pc := 43) rfl dX0_monotone_43 (by omega) (Nat.le_of_ble_eq_true rfl) ?_
      refine m_X11_limited (d - 1) (by omega) (by assumption) (by omega) (by omega) (fun r43 e43 b43 => ?_)
      exact f_iret (pc := 46) dX0_monotone_46 rfl (by assumption) (hQ _ (by have hc : (l > 0 ∧ r > 0) ∨ (l < 0 ∧ r < 0) := (by omega); unfold monS; rw [if_pos hc, e43, e39, e36, e32]) (by omega))
    refine r_iconst (pc := 26) (n := 0) dX0_monotone_26 ?_
    exact f_iret (pc := 27) dX0_monotone_27 rfl (by assumption) (hQ _ (by have hc : ¬ ((l > 0 ∧ r > 0) ∨ (l < 0 ∧ r < 0)) := (by omega); unfold monS; rw [if_neg hc]) (by omega))
  refine r_iload_n (pc := 0) dX0_monotone_0 rfl ?_
  refine r_ifle (pc := 1) (tgt := 8) dX0_monotone_1 rfl (by omega) (fun h1 => ?_) (fun h1 => ?_)
  · refine r_iload_n (pc := 8) dX0_monotone_8 rfl ?_
    refine r_ifge (pc := 9) (tgt := 20) dX0_monotone_9 rfl (by omega) (fun h9 => ?_) (fun h9 => ?_)
    · refine r_iconst (pc := 20) (n := 0) dX0_monotone_20 ?_
      exact cut21 _ (by omega) (by omega)
    refine r_iload_n (pc := 12) dX0_monotone_12 rfl ?_
    refine r_ifge (pc := 13) (tgt := 20) dX0_monotone_13 rfl (by omega) (fun h13 => ?_) (fun h13 => ?_)
    · refine r_iconst (pc := 20) (n := 0) dX0_monotone_20 ?_
      exact cut21 _ (by omega) (by omega)
    refine r_iconst (pc := 16) (n := 1) dX0_monotone_16 ?_
    refine r_goto (pc := 17) (tgt := 21) dX0_monotone_17 rfl ?_
    exact cut21 _ (by omega) (by omega)
  refine r_iload_n (pc := 4) dX0_monotone_4 rfl ?_
  refine r_ifgt (pc := 5) (tgt := 16) dX0_monotone_5 rfl (by omega) (fun h5 => ?_) (fun h5 => ?_)
  · refine r_iconst (pc := 16) (n := 1) dX0_monotone_16 ?_
    refine r_goto (pc := 17) (tgt := 21) dX0_monotone_17 rfl ?_
    exact cut21 _ (by omega) (by omega)
  refine r_iload_n (pc := 8) dX0_monotone_8 rfl ?_
  refine r_ifge (pc := 9) (tgt := 20) dX0_monotone_9 rfl (by omega) (fun h9 => ?_) (fun h9 => ?_)
  · refine r_iconst (pc := 20) (n := 0) dX0_monotone_20 ?_
    exact cut21 _ (by omega) (by omega)
  refine r_iload_n (pc := 12) dX0_monotone_12 rfl ?_
  refine r_ifge (pc := 13) (tgt := 20) dX0_monotone_13 rfl (by omega) (fun h13 => ?_) (fun h13 => ?_)
  · refine r_iconst (pc := 20) (n := 0) dX0_monotone_20 ?_
    exact cut21 _ (by omega) (by omega)
  refine r_iconst (pc := 16) (n := 1) dX0_monotone_16 ?_
  refine r_goto (pc := 17) (tgt := 21) dX0_monotone_17 rfl ?_
  exact cut21 _ (by omega) (by omega)
set_option maxRecDepth 8000 in
theorem m_X0_tangent {Q : Option AV → Wd → Prop} {w : Wd} (d : Nat) {c : Nat} {k o : Int} (hd : 4 ≤ d) (hw : WR w) (hs : sh c = 0) (hI : CI (cx w c)) (hk : 0 ≤ k ∧ k < w c 0) (ho : o = 0 ∨ o = 1) (hQ : ∀ r, r = slp (cx w c) k o → R32 r → Q (some (vI r)) w) : M mX0_tangent (Rm d) [vR (some c), vI k, vI o] (fl w) (lQ Q) := by
  obtain ⟨s1, s2, s3, s4, s5⟩ := sh_curve hs
  obtain ⟨hn, P, O, b1, b2, b3, b4⟩ := CIw hI
  have Pk := P k hk.1 hk.2
  refine f_mofv (L0 := [some (vR (some c)), some (vI k), some (vI o), none, none, none, none]) rfl (Nat.le_of_ble_eq_true rfl) rfl ?_
  have cut149 : ∀ m f1 l1 au : Int, m = w (c + 3) k → m ≠ 0 → ¬ w c 0 < 2 → m ≠ 1 → m ≠ 6 → m ≠ 2 → (f1 = 0 ∨ f1 = 1) → (l1 = 0 ∨ l1 = 1) → (f1 = 1 ↔ k = 0) → (l1 = 1 ↔ k = w c 0 - 1) → au = autX (cx w c) k → -127872 ≤ au ∧ au ≤ 127872 → V mX0_tangent (Rm d) 0 0 149 [some (vR (some c)), some (vI k), some (vI o), some (vI m), some (vI f1), some (vI l1), none] [vI au] (fl w) (lQ Q) := by
    intro m f1 l1 au hm m0 n2 m1 m6 m2 hf hl hf1 hl1 ha hab
    refine r_istore6 (pc := 149) dX0_tangent_149 rfl ?_
    refine r_iload_n (pc := 151) dX0_tangent_151 rfl ?_
    refine r_iconst (pc := 152) (n := 3) dX0_tangent_152 ?_
    refine r_icmpne (pc := 153) (tgt := 159) dX0_tangent_153 rfl (by omega) (by omega) (fun h153 => ?_) (fun h153 => ?_)
    · refine r_iload (pc := 159) dX0_tangent_159 rfl ?_
      refine r_ifne (pc := 161) (tgt := 169) dX0_tangent_161 rfl (by omega) (fun h161 => ?_) (fun h161 => ?_)
      · refine r_iconst (pc := 169) (n := 0) dX0_tangent_169 ?_
        exact f_iret (pc := 170) dX0_tangent_170 rfl (by assumption) (hQ _ (by clear hQ hw P O hI Pk s1 s2 s3 s4 s5 b1 b2 b3 b4; simp only [slp, cxr, Nat.add_zero]; grind) (by omega))
      refine r_iload (pc := 164) dX0_tangent_164 rfl ?_
      refine r_ifeq (pc := 166) (tgt := 171) dX0_tangent_166 rfl (by omega) (fun h166 => ?_) (fun h166 => ?_)
      · refine r_iload_n (pc := 171) dX0_tangent_171 rfl ?_
        refine r_iconst (pc := 172) (n := 4) dX0_tangent_172 ?_
        refine r_icmpne (pc := 173) (tgt := 191) dX0_tangent_173 rfl (by omega) (by omega) (fun h173 => ?_) (fun h173 => ?_)
        · refine r_iload (pc := 191) dX0_tangent_191 rfl ?_
          refine r_aload_n (pc := 193) dX0_tangent_193 rfl ?_
          refine r_iload_n (pc := 194) dX0_tangent_194 rfl ?_
          refine r_iconst (pc := 195) (n := 1) dX0_tangent_195 ?_
          refine r_isub (pc := 196) dX0_tangent_196 ?_
          refine r_iload_n (pc := 197) dX0_tangent_197 rfl ?_
          refine c_X0_109 (pc := 198) rfl dX0_tangent_198 (by first | assumption | rfl) (by omega) (Nat.le_of_ble_eq_true rfl) ?_
          refine m_X0_secant (d - 1) (by omega) (by assumption) (by assumption) (by assumption) ⟨by omega, by omega, by omega⟩ (fun r198 e198 b198 => ?_)
          refine r_aload_n (pc := 201) dX0_tangent_201 rfl ?_
          refine r_iload_n (pc := 202) dX0_tangent_202 rfl ?_
          refine r_iload_n (pc := 203) dX0_tangent_203 rfl ?_
          refine r_iconst (pc := 204) (n := 1) dX0_tangent_204 ?_
          refine r_iadd (pc := 205) dX0_tangent_205 ?_
          refine c_X0_109 (pc := 206) rfl dX0_tangent_206 (by first | assumption | rfl) (by omega) (Nat.le_of_ble_eq_true rfl) ?_
          refine m_X0_secant (d - 1) (by omega) (by assumption) (by assumption) (by assumption) ⟨by omega, by omega, by omega⟩ (fun r206 e206 b206 => ?_)
          refine c_X0_116 (pc := 209) rfl dX0_tangent_209 (by omega) (Nat.le_of_ble_eq_true rfl) ?_
          refine m_X0_monotone (d - 1) (by omega) (by assumption) (by omega) (by omega) (by omega) (fun r209 e209 b209 => ?_)
          exact f_iret (pc := 212) dX0_tangent_212 rfl (by assumption) (hQ _ (by clear hQ hw P O hI Pk s1 s2 s3 s4 s5 b1 b2 b3 b4; simp only [slp, cxr, Nat.add_zero]; grind) (by omega))
        refine r_aload_n (pc := 176) dX0_tangent_176 rfl ?_
        refine r_iload_n (pc := 177) dX0_tangent_177 rfl ?_
        refine c_X0_113 (pc := 178) rfl dX0_tangent_178 (by first | assumption | rfl) (by omega) (Nat.le_of_ble_eq_true rfl) ?_
        refine m_X0_isBetweenNeighbors (d - 1) (by omega) (by assumption) (by assumption) (by assumption) ⟨by omega, by omega⟩ (fun r178 e178 b178 => ?_)
        unfold b2i at e178
        refine r_ifeq (pc := 181) (tgt := 189) dX0_tangent_181 rfl (by omega) (fun h181 => ?_) (fun h181 => ?_)
        · refine r_iconst (pc := 189) (n := 0) dX0_tangent_189 ?_
          exact f_iret (pc := 190) dX0_tangent_190 rfl (by assumption) (hQ _ (by clear hQ hw P O hI Pk s1 s2 s3 s4 s5 b1 b2 b3 b4; simp only [slp, cxr, Nat.add_zero]; grind) (by omega))
        refine r_iload (pc := 184) dX0_tangent_184 rfl ?_
        refine r_goto (pc := 186) (tgt := 190) dX0_tangent_186 rfl ?_
        exact f_iret (pc := 190) dX0_tangent_190 rfl (by assumption) (hQ _ (by clear hQ hw P O hI Pk s1 s2 s3 s4 s5 b1 b2 b3 b4; simp only [slp, cxr, Nat.add_zero]; grind) (by omega))
      refine r_iconst (pc := 169) (n := 0) dX0_tangent_169 ?_
      exact f_iret (pc := 170) dX0_tangent_170 rfl (by assumption) (hQ _ (by clear hQ hw P O hI Pk s1 s2 s3 s4 s5 b1 b2 b3 b4; simp only [slp, cxr, Nat.add_zero]; grind) (by omega))
    refine r_iload (pc := 156) dX0_tangent_156 rfl ?_
    exact f_iret (pc := 158) dX0_tangent_158 rfl (by assumption) (hQ _ (by clear hQ hw P O hI Pk s1 s2 s3 s4 s5 b1 b2 b3 b4; simp only [slp, cxr, Nat.add_zero]; grind) (by omega))
  have cut80 : ∀ m f1 l1 : Int, m = w (c + 3) k → m ≠ 0 → ¬ w c 0 < 2 → m ≠ 1 → m ≠ 6 → (f1 = 0 ∨ f1 = 1) → (l1 = 0 ∨ l1 = 1) → (f1 = 1 ↔ k = 0) → (l1 = 1 ↔ k = w c 0 - 1) → V mX0_tangent (Rm d) 0 0 80 [some (vR (some c)), some (vI k), some (vI o), some (vI m), some (vI f1), none, none] [vI l1] (fl w) (lQ Q) := by
    intro m f1 l1 hm m0 n2 m1 m6 hf hl hf1 hl1
    refine r_istore5 (pc := 80) dX0_tangent_80 rfl ?_
    refine r_iload_n (pc := 82) dX0_tangent_82 rfl ?_
    refine r_iconst (pc := 83) (n := 2) dX0_tangent_83 ?_
    refine r_icmpne (pc := 84) (tgt := 121) dX0_tangent_84 rfl (by omega) (by omega) (fun h84 => ?_) (fun h84 => ?_)
    · refine r_aload_n (pc := 121) dX0_tangent_121 rfl ?_
      refine r_iload (pc := 122) dX0_tangent_122 rfl ?_
      refine r_ifeq (pc := 124) (tgt := 131) dX0_tangent_124 rfl (by omega) (fun h124 => ?_) (fun h124 => ?_)
      · refine r_iload_n (pc := 131) dX0_tangent_131 rfl ?_
        refine r_iconst (pc := 132) (n := 1) dX0_tangent_132 ?_
        refine r_isub (pc := 133) dX0_tangent_133 ?_
        refine r_iload (pc := 134) dX0_tangent_134 rfl ?_
        refine r_ifeq (pc := 136) (tgt := 143) dX0_tangent_136 rfl (by omega) (fun h136 => ?_) (fun h136 => ?_)
        · refine r_iload_n (pc := 143) dX0_tangent_143 rfl ?_
          refine r_iconst (pc := 144) (n := 1) dX0_tangent_144 ?_
          refine r_iadd (pc := 145) dX0_tangent_145 ?_
          refine c_X0_109 (pc := 146) rfl dX0_tangent_146 (by first | assumption | rfl) (by omega) (Nat.le_of_ble_eq_true rfl) ?_
          refine m_X0_secant (d - 1) (by omega) (by assumption) (by assumption) (by assumption) ⟨by omega, by omega, by omega⟩ (fun r146 e146 b146 => ?_)
          exact cut149 _ _ _ _ hm (by omega) (by omega) (by omega) (by omega) (by omega) (by omega) (by omega) (by omega) (by omega) (by rw [e146]; unfold autX; grind [cxr]) (by omega)
        refine r_iload_n (pc := 139) dX0_tangent_139 rfl ?_
        refine r_goto (pc := 140) (tgt := 146) dX0_tangent_140 rfl ?_
        refine c_X0_109 (pc := 146) rfl dX0_tangent_146 (by first | assumption | rfl) (by omega) (Nat.le_of_ble_eq_true rfl) ?_
        refine m_X0_secant (d - 1) (by omega) (by assumption) (by assumption) (by assumption) ⟨by omega, by omega, by omega⟩ (fun r146 e146 b146 => ?_)
        exact cut149 _ _ _ _ hm (by omega) (by omega) (by omega) (by omega) (by omega) (by omega) (by omega) (by omega) (by omega) (by rw [e146]; unfold autX; grind [cxr]) (by omega)
      refine r_iload_n (pc := 127) dX0_tangent_127 rfl ?_
      refine r_goto (pc := 128) (tgt := 134) dX0_tangent_128 rfl ?_
      refine r_iload (pc := 134) dX0_tangent_134 rfl ?_
      refine r_ifeq (pc := 136) (tgt := 143) dX0_tangent_136 rfl (by omega) (fun h136 => ?_) (fun h136 => ?_)
      · refine r_iload_n (pc := 143) dX0_tangent_143 rfl ?_
        refine r_iconst (pc := 144) (n := 1) dX0_tangent_144 ?_
        refine r_iadd (pc := 145) dX0_tangent_145 ?_
        refine c_X0_109 (pc := 146) rfl dX0_tangent_146 (by first | assumption | rfl) (by omega) (Nat.le_of_ble_eq_true rfl) ?_
        refine m_X0_secant (d - 1) (by omega) (by assumption) (by assumption) (by assumption) ⟨by omega, by omega, by omega⟩ (fun r146 e146 b146 => ?_)
        exact cut149 _ _ _ _ hm (by omega) (by omega) (by omega) (by omega) (by omega) (by omega) (by omega) (by omega) (by omega) (by rw [e146]; unfold autX; grind [cxr]) (by omega)
      refine r_iload_n (pc := 139) dX0_tangent_139 rfl ?_
      refine r_goto (pc := 140) (tgt := 146) dX0_tangent_140 rfl ?_
      refine c_X0_109 (pc := 146) rfl dX0_tangent_146 (by first | assumption | rfl) (by omega) (Nat.le_of_ble_eq_true rfl) ?_
      refine m_X0_secant (d - 1) (by omega) (by assumption) (by assumption) (by assumption) ⟨by omega, by omega, by omega⟩ (fun r146 e146 b146 => ?_)
      exact cut149 _ _ _ _ hm (by omega) (by omega) (by omega) (by omega) (by omega) (by omega) (by omega) (by omega) (by omega) (by rw [e146]; unfold autX; grind [cxr]) (by omega)
    refine r_iload (pc := 87) dX0_tangent_87 rfl ?_
    refine r_ifne (pc := 89) (tgt := 101) dX0_tangent_89 rfl (by omega) (fun h89 => ?_) (fun h89 => ?_)
    · refine r_aload_n (pc := 101) dX0_tangent_101 rfl ?_
      refine r_iload_n (pc := 102) dX0_tangent_102 rfl ?_
      refine r_iload_n (pc := 103) dX0_tangent_103 rfl ?_
      refine r_iconst (pc := 104) (n := 1) dX0_tangent_104 ?_
      refine r_iadd (pc := 105) dX0_tangent_105 ?_
      refine c_X0_109 (pc := 106) rfl dX0_tangent_106 (by first | assumption | rfl) (by omega) (Nat.le_of_ble_eq_true rfl) ?_
      refine m_X0_secant (d - 1) (by omega) (by assumption) (by assumption) (by assumption) ⟨by omega, by omega, by omega⟩ (fun r106 e106 b106 => ?_)
      refine r_goto (pc := 109) (tgt := 120) dX0_tangent_109 rfl ?_
      exact f_iret (pc := 120) dX0_tangent_120 rfl (by assumption) (hQ _ (by clear hQ hw P O hI Pk s1 s2 s3 s4 s5 b1 b2 b3 b4; simp only [slp, cxr, Nat.add_zero]; grind) (by omega))
    refine r_iload_n (pc := 92) dX0_tangent_92 rfl ?_
    refine r_ifeq (pc := 93) (tgt := 112) dX0_tangent_93 rfl (by omega) (fun h93 => ?_) (fun h93 => ?_)
    · refine r_aload_n (pc := 112) dX0_tangent_112 rfl ?_
      refine r_iload_n (pc := 113) dX0_tangent_113 rfl ?_
      refine r_iconst (pc := 114) (n := 1) dX0_tangent_114 ?_
      refine r_isub (pc := 115) dX0_tangent_115 ?_
      refine r_iload_n (pc := 116) dX0_tangent_116 rfl ?_
      refine c_X0_109 (pc := 117) rfl dX0_tangent_117 (by first | assumption | rfl) (by omega) (Nat.le_of_ble_eq_true rfl) ?_
      refine m_X0_secant (d - 1) (by omega) (by assumption) (by assumption) (by assumption) ⟨by omega, by omega, by omega⟩ (fun r117 e117 b117 => ?_)
      exact f_iret (pc := 120) dX0_tangent_120 rfl (by assumption) (hQ _ (by clear hQ hw P O hI Pk s1 s2 s3 s4 s5 b1 b2 b3 b4; simp only [slp, cxr, Nat.add_zero]; grind) (by omega))
    refine r_iload (pc := 96) dX0_tangent_96 rfl ?_
    refine r_ifne (pc := 98) (tgt := 112) dX0_tangent_98 rfl (by omega) (fun h98 => ?_) (fun h98 => ?_)
    · refine r_aload_n (pc := 112) dX0_tangent_112 rfl ?_
      refine r_iload_n (pc := 113) dX0_tangent_113 rfl ?_
      refine r_iconst (pc := 114) (n := 1) dX0_tangent_114 ?_
      refine r_isub (pc := 115) dX0_tangent_115 ?_
      refine r_iload_n (pc := 116) dX0_tangent_116 rfl ?_
      refine c_X0_109 (pc := 117) rfl dX0_tangent_117 (by first | assumption | rfl) (by omega) (Nat.le_of_ble_eq_true rfl) ?_
      refine m_X0_secant (d - 1) (by omega) (by assumption) (by assumption) (by assumption) ⟨by omega, by omega, by omega⟩ (fun r117 e117 b117 => ?_)
      exact f_iret (pc := 120) dX0_tangent_120 rfl (by assumption) (hQ _ (by clear hQ hw P O hI Pk s1 s2 s3 s4 s5 b1 b2 b3 b4; simp only [slp, cxr, Nat.add_zero]; grind) (by omega))
    refine r_aload_n (pc := 101) dX0_tangent_101 rfl ?_
    refine r_iload_n (pc := 102) dX0_tangent_102 rfl ?_
    refine r_iload_n (pc := 103) dX0_tangent_103 rfl ?_
    refine r_iconst (pc := 104) (n := 1) dX0_tangent_104 ?_
    refine r_iadd (pc := 105) dX0_tangent_105 ?_
    refine c_X0_109 (pc := 106) rfl dX0_tangent_106 (by first | assumption | rfl) (by omega) (Nat.le_of_ble_eq_true rfl) ?_
    refine m_X0_secant (d - 1) (by omega) (by assumption) (by assumption) (by assumption) ⟨by omega, by omega, by omega⟩ (fun r106 e106 b106 => ?_)
    refine r_goto (pc := 109) (tgt := 120) dX0_tangent_109 rfl ?_
    exact f_iret (pc := 120) dX0_tangent_120 rfl (by assumption) (hQ _ (by clear hQ hw P O hI Pk s1 s2 s3 s4 s5 b1 b2 b3 b4; simp only [slp, cxr, Nat.add_zero]; grind) (by omega))
  have cut63 : ∀ m f1 : Int, m = w (c + 3) k → m ≠ 0 → ¬ w c 0 < 2 → m ≠ 1 → m ≠ 6 → (f1 = 0 ∨ f1 = 1) → (f1 = 1 ↔ k = 0) → V mX0_tangent (Rm d) 0 0 63 [some (vR (some c)), some (vI k), some (vI o), some (vI m), none, none, none] [vI f1] (fl w) (lQ Q) := by
    intro m f1 hm m0 n2 m1 m6 hf hf1
    refine r_istore4 (pc := 63) dX0_tangent_63 rfl ?_
    refine r_iload_n (pc := 65) dX0_tangent_65 rfl ?_
    refine r_aload_n (pc := 66) dX0_tangent_66 rfl ?_
    refine g_X0_38 (pc := 67) rfl dX0_tangent_67 (by assumption) (by first | assumption | rfl) (fun h67 => ?_)
    refine r_iconst (pc := 70) (n := 1) dX0_tangent_70 ?_
    refine r_isub (pc := 71) dX0_tangent_71 ?_
    refine r_icmpne (pc := 72) (tgt := 79) dX0_tangent_72 rfl (by omega) (by omega) (fun h72 => ?_) (fun h72 => ?_)
    · refine r_iconst (pc := 79) (n := 0) dX0_tangent_79 ?_
      exact cut80 _ _ _ (by assumption) (by omega) (by omega) (by omega) (by omega) (by omega) (by omega) (by omega) (by omega)
    refine r_iconst (pc := 75) (n := 1) dX0_tangent_75 ?_
    refine r_goto (pc := 76) (tgt := 80) dX0_tangent_76 rfl ?_
    exact cut80 _ _ _ (by assumption) (by omega) (by omega) (by omega) (by omega) (by omega) (by omega) (by omega) (by omega)
  refine r_aload_n (pc := 0) dX0_tangent_0 rfl ?_
  refine g_X0_25 (pc := 1) rfl dX0_tangent_1 (by first | assumption | rfl) ?_
  refine r_iload_n (pc := 4) dX0_tangent_4 rfl ?_
  refine c_X0_53 (pc := 5) rfl dX0_tangent_5 (by omega) (Nat.le_of_ble_eq_true rfl) ?_
  refine m_X11_at (d - 1) (by omega) (by assumption) (n := 24) (by assumption) (by omega) (by omega) (fun r5 e5 b5 => ?_)
  rw [gA_in (by omega) (by omega)] at e5
  refine r_istore3 (pc := 8) dX0_tangent_8 rfl ?_
  refine r_iload_n (pc := 9) dX0_tangent_9 rfl ?_
  refine r_ifne (pc := 10) (tgt := 33) dX0_tangent_10 rfl (by omega) (fun h10 => ?_) (fun h10 => ?_)
  · refine r_aload_n (pc := 33) dX0_tangent_33 rfl ?_
    refine g_X0_38 (pc := 34) rfl dX0_tangent_34 (by assumption) (by first | assumption | rfl) (fun h34 => ?_)
    refine r_iconst (pc := 37) (n := 2) dX0_tangent_37 ?_
    refine r_icmplt (pc := 38) (tgt := 52) dX0_tangent_38 rfl (by omega) (by omega) (fun h38 => ?_) (fun h38 => ?_)
    · refine r_iconst (pc := 52) (n := 0) dX0_tangent_52 ?_
      exact f_iret (pc := 53) dX0_tangent_53 rfl (by assumption) (hQ _ (by clear hQ hw P O hI Pk s1 s2 s3 s4 s5 b1 b2 b3 b4; simp only [slp, cxr, Nat.add_zero]; grind) (by omega))
    refine r_iload_n (pc := 41) dX0_tangent_41 rfl ?_
    refine r_iconst (pc := 42) (n := 1) dX0_tangent_42 ?_
    refine r_icmpeq (pc := 43) (tgt := 52) dX0_tangent_43 rfl (by omega) (by omega) (fun h43 => ?_) (fun h43 => ?_)
    · refine r_iconst (pc := 52) (n := 0) dX0_tangent_52 ?_
      exact f_iret (pc := 53) dX0_tangent_53 rfl (by assumption) (hQ _ (by clear hQ hw P O hI Pk s1 s2 s3 s4 s5 b1 b2 b3 b4; simp only [slp, cxr, Nat.add_zero]; grind) (by omega))
    refine r_iload_n (pc := 46) dX0_tangent_46 rfl ?_
    refine r_bipush (pc := 47) (n := 6) dX0_tangent_47 (by decide) ?_
    refine r_icmpne (pc := 49) (tgt := 54) dX0_tangent_49 rfl (by omega) (by omega) (fun h49 => ?_) (fun h49 => ?_)
    · refine r_iload_n (pc := 54) dX0_tangent_54 rfl ?_
      refine r_ifne (pc := 55) (tgt := 62) dX0_tangent_55 rfl (by omega) (fun h55 => ?_) (fun h55 => ?_)
      · refine r_iconst (pc := 62) (n := 0) dX0_tangent_62 ?_
        exact cut63 _ _ (by assumption) (by omega) (by omega) (by omega) (by omega) (by omega) (by omega)
      refine r_iconst (pc := 58) (n := 1) dX0_tangent_58 ?_
      refine r_goto (pc := 59) (tgt := 63) dX0_tangent_59 rfl ?_
      exact cut63 _ _ (by assumption) (by omega) (by omega) (by omega) (by omega) (by omega) (by omega)
    refine r_iconst (pc := 52) (n := 0) dX0_tangent_52 ?_
    exact f_iret (pc := 53) dX0_tangent_53 rfl (by assumption) (hQ _ (by clear hQ hw P O hI Pk s1 s2 s3 s4 s5 b1 b2 b3 b4; simp only [slp, cxr, Nat.add_zero]; grind) (by omega))
  refine r_iload_n (pc := 13) dX0_tangent_13 rfl ?_
  refine r_ifeq (pc := 14) (tgt := 24) dX0_tangent_14 rfl (by omega) (fun h14 => ?_) (fun h14 => ?_)
  · refine r_aload_n (pc := 24) dX0_tangent_24 rfl ?_
    refine g_X0_28 (pc := 25) rfl dX0_tangent_25 (by first | assumption | rfl) ?_
    refine r_iload_n (pc := 28) dX0_tangent_28 rfl ?_
    refine c_X0_53 (pc := 29) rfl dX0_tangent_29 (by omega) (Nat.le_of_ble_eq_true rfl) ?_
    refine m_X11_at (d - 1) (by omega) (by assumption) (n := 24) (by assumption) (by omega) (by omega) (fun r29 e29 b29 => ?_)
    rw [gA_in (by omega) (by omega)] at e29
    exact f_iret (pc := 32) dX0_tangent_32 rfl (by assumption) (hQ _ (by clear hQ hw P O hI Pk s1 s2 s3 s4 s5 b1 b2 b3 b4; simp only [slp, cxr, Nat.add_zero]; grind) (by omega))
  refine r_aload_n (pc := 17) dX0_tangent_17 rfl ?_
  refine g_X0_31 (pc := 18) rfl dX0_tangent_18 (by first | assumption | rfl) ?_
  refine r_goto (pc := 21) (tgt := 28) dX0_tangent_21 rfl ?_
  refine r_iload_n (pc := 28) dX0_tangent_28 rfl ?_
  refine c_X0_53 (pc := 29) rfl dX0_tangent_29 (by omega) (Nat.le_of_ble_eq_true rfl) ?_
  refine m_X11_at (d - 1) (by omega) (by assumption) (n := 24) (by assumption) (by omega) (by omega) (fun r29 e29 b29 => ?_)
  rw [gA_in (by omega) (by omega)] at e29
  exact f_iret (pc := 32) dX0_tangent_32 rfl (by assumption) (hQ _ (by clear hQ hw P O hI Pk s1 s2 s3 s4 s5 b1 b2 b3 b4; simp only [slp, cxr, Nat.add_zero]; grind) (by omega))
set_option maxRecDepth 8000 in
theorem m_X0_extrapolation {Q : Option AV → Wd → Prop} {w : Wd} (d : Nat) {c : Nat} {f a b : Int} (hd : 0 ≤ d) (hw : WR w) (hs : sh c = 0) (hf : R32 f) (ha : R32 a) (hb : R32 b) (hQ : ∀ r, r = (if a = b ∨ (a ≤ f ∧ f ≤ b) then 0 else if f < a then w c 1 else w c 2) → R32 r → Q (some (vI r)) w) : M mX0_extrapolation (Rm d) [vR (some c), vI f, vI a, vI b] (fl w) (lQ Q) := by
  refine f_mofv (L0 := [some (vR (some c)), some (vI f), some (vI a), some (vI b)]) rfl (Nat.le_of_ble_eq_true rfl) rfl ?_
  refine r_iload_n (pc := 0) dX0_extrapolation_0 rfl ?_
  refine r_iload_n (pc := 1) dX0_extrapolation_1 rfl ?_
  refine r_icmpeq (pc := 2) (tgt := 15) dX0_extrapolation_2 rfl (by omega) (by omega) (fun h2 => ?_) (fun h2 => ?_)
  · refine r_iconst (pc := 15) (n := 0) dX0_extrapolation_15 ?_
    exact f_iret (pc := 16) dX0_extrapolation_16 rfl (by assumption) (hQ _ (by grind) (by omega))
  refine r_iload_n (pc := 5) dX0_extrapolation_5 rfl ?_
  refine r_iload_n (pc := 6) dX0_extrapolation_6 rfl ?_
  refine r_icmplt (pc := 7) (tgt := 17) dX0_extrapolation_7 rfl (by omega) (by omega) (fun h7 => ?_) (fun h7 => ?_)
  · refine r_iload_n (pc := 17) dX0_extrapolation_17 rfl ?_
    refine r_iload_n (pc := 18) dX0_extrapolation_18 rfl ?_
    refine r_icmpge (pc := 19) (tgt := 29) dX0_extrapolation_19 rfl (by omega) (by omega) (fun h19 => ?_) (fun h19 => ?_)
    · refine r_aload_n (pc := 29) dX0_extrapolation_29 rfl ?_
      refine g_X0_15 (pc := 30) rfl dX0_extrapolation_30 (by assumption) (by first | assumption | rfl) (fun h30 => ?_)
      exact f_iret (pc := 33) dX0_extrapolation_33 rfl (by assumption) (hQ _ (by grind) (by omega))
    refine r_aload_n (pc := 22) dX0_extrapolation_22 rfl ?_
    refine g_X0_9 (pc := 23) rfl dX0_extrapolation_23 (by assumption) (by first | assumption | rfl) (fun h23 => ?_)
    refine r_goto (pc := 26) (tgt := 33) dX0_extrapolation_26 rfl ?_
    exact f_iret (pc := 33) dX0_extrapolation_33 rfl (by assumption) (hQ _ (by grind) (by omega))
  refine r_iload_n (pc := 10) dX0_extrapolation_10 rfl ?_
  refine r_iload_n (pc := 11) dX0_extrapolation_11 rfl ?_
  refine r_icmpgt (pc := 12) (tgt := 17) dX0_extrapolation_12 rfl (by omega) (by omega) (fun h12 => ?_) (fun h12 => ?_)
  · refine r_iload_n (pc := 17) dX0_extrapolation_17 rfl ?_
    refine r_iload_n (pc := 18) dX0_extrapolation_18 rfl ?_
    refine r_icmpge (pc := 19) (tgt := 29) dX0_extrapolation_19 rfl (by omega) (by omega) (fun h19 => ?_) (fun h19 => ?_)
    · refine r_aload_n (pc := 29) dX0_extrapolation_29 rfl ?_
      refine g_X0_15 (pc := 30) rfl dX0_extrapolation_30 (by assumption) (by first | assumption | rfl) (fun h30 => ?_)
      exact f_iret (pc := 33) dX0_extrapolation_33 rfl (by assumption) (hQ _ (by grind) (by omega))
    refine r_aload_n (pc := 22) dX0_extrapolation_22 rfl ?_
    refine g_X0_9 (pc := 23) rfl dX0_extrapolation_23 (by assumption) (by first | assumption | rfl) (fun h23 => ?_)
    refine r_goto (pc := 26) (tgt := 33) dX0_extrapolation_26 rfl ?_
    exact f_iret (pc := 33) dX0_extrapolation_33 rfl (by assumption) (hQ _ (by grind) (by omega))
  refine r_iconst (pc := 15) (n := 0) dX0_extrapolation_15 ?_
  exact f_iret (pc := 16) dX0_extrapolation_16 rfl (by assumption) (hQ _ (by grind) (by omega))
set_option maxRecDepth 8000 in
theorem m_X0_folded {Q : Option AV → Wd → Prop} {w : Wd} (d : Nat) {kd f a b : Int} (hd : 1 ≤ d) (hw : WR w) (hk : R32 kd) (hf : -10000 ≤ f ∧ f ≤ 10000) (ha : 0 ≤ a ∧ a ≤ b) (hb : b ≤ 480) (hQ : ∀ r, r = foldS kd f a b → a ≤ r ∧ r ≤ b → Q (some (vI r)) w) : M mX0_folded (Rm d) [vI kd, vI f, vI a, vI b] (fl w) (lQ Q) := by
  have B := foldS_bd (kd := kd) (f := f) ha.2
  have E : ∀ z, z = foldS kd f a b → Q (some (vI z)) w := fun z hz => hQ z hz (by omega)
  refine f_mofv (L0 := [some (vI kd), some (vI f), some (vI a), some (vI b), none, none]) rfl (Nat.le_of_ble_eq_true rfl) rfl ?_
  refine r_iload_n (pc := 0) dX0_folded_0 rfl ?_
  refine r_iload_n (pc := 1) dX0_folded_1 rfl ?_
  refine r_isub (pc := 2) dX0_folded_2 ?_
  refine r_istore4 (pc := 3) dX0_folded_3 rfl ?_
  refine r_iload_n (pc := 5) dX0_folded_5 rfl ?_
  refine r_ifeq (pc := 6) (tgt := 20) dX0_folded_6 rfl (by omega) (fun h6 => ?_) (fun h6 => ?_)
  · refine r_iload_n (pc := 20) dX0_folded_20 rfl ?_
    refine r_iload_n (pc := 21) dX0_folded_21 rfl ?_
    refine r_iload_n (pc := 22) dX0_folded_22 rfl ?_
    refine c_X0_121 (pc := 23) rfl dX0_folded_23 (by omega) (Nat.le_of_ble_eq_true rfl) ?_
    refine m_J9_min_7cf53 (d - 1) (by omega) (by assumption) (by omega) (by omega) (fun r23 e23 b23 => ?_)
    refine c_X0_126 (pc := 26) rfl dX0_folded_26 (by omega) (Nat.le_of_ble_eq_true rfl) ?_
    refine m_J9_max_7cf53 (d - 1) (by omega) (by assumption) (by omega) (by omega) (fun r26 e26 b26 => ?_)
    exact f_iret (pc := 29) dX0_folded_29 rfl (by assumption) (E _ (by clear E hQ B hw; unfold foldS; grind))
  refine r_iload_n (pc := 9) dX0_folded_9 rfl ?_
  refine r_iconst (pc := 10) (n := 1) dX0_folded_10 ?_
  refine r_icmpeq (pc := 11) (tgt := 20) dX0_folded_11 rfl (by omega) (by omega) (fun h11 => ?_) (fun h11 => ?_)
  · refine r_iload_n (pc := 20) dX0_folded_20 rfl ?_
    refine r_iload_n (pc := 21) dX0_folded_21 rfl ?_
    refine r_iload_n (pc := 22) dX0_folded_22 rfl ?_
    refine c_X0_121 (pc := 23) rfl dX0_folded_23 (by omega) (Nat.le_of_ble_eq_true rfl) ?_
    refine m_J9_min_7cf53 (d - 1) (by omega) (by assumption) (by omega) (by omega) (fun r23 e23 b23 => ?_)
    refine c_X0_126 (pc := 26) rfl dX0_folded_26 (by omega) (Nat.le_of_ble_eq_true rfl) ?_
    refine m_J9_max_7cf53 (d - 1) (by omega) (by assumption) (by omega) (by omega) (fun r26 e26 b26 => ?_)
    exact f_iret (pc := 29) dX0_folded_29 rfl (by assumption) (E _ (by clear E hQ B hw; unfold foldS; grind))
  refine r_iload (pc := 14) dX0_folded_14 rfl ?_
  refine r_iconst (pc := 16) (n := 1) dX0_folded_16 ?_
  refine r_icmpge (pc := 17) (tgt := 30) dX0_folded_17 rfl (by omega) (by omega) (fun h17 => ?_) (fun h17 => ?_)
  · refine r_iload_n (pc := 30) dX0_folded_30 rfl ?_
    refine r_iconst (pc := 31) (n := 3) dX0_folded_31 ?_
    refine r_icmpeq (pc := 32) (tgt := 46) dX0_folded_32 rfl (by omega) (by omega) (fun h32 => ?_) (fun h32 => ?_)
    · refine r_iload_n (pc := 46) dX0_folded_46 rfl ?_
      refine r_iload_n (pc := 47) dX0_folded_47 rfl ?_
      refine r_isub (pc := 48) dX0_folded_48 ?_
      refine r_iconst (pc := 49) (n := 2) dX0_folded_49 ?_
      refine r_iload (pc := 50) dX0_folded_50 rfl ?_
      refine r_imul (pc := 52) dX0_folded_52 ?_
      refine c_X0_145 (pc := 53) rfl dX0_folded_53 (by omega) (Nat.le_of_ble_eq_true rfl) ?_
      refine m_J9_floorMod_7cf53 (d - 1) (by omega) (by assumption) (by omega) (by omega) (by omega) (fun r53 e53 b53 => ?_)
      refine r_istore5 (pc := 56) dX0_folded_56 rfl ?_
      refine r_iload (pc := 58) dX0_folded_58 rfl ?_
      refine r_iload (pc := 60) dX0_folded_60 rfl ?_
      refine r_icmpgt (pc := 62) (tgt := 72) dX0_folded_62 rfl (by omega) (by omega) (fun h62 => ?_) (fun h62 => ?_)
      · refine r_iload_n (pc := 72) dX0_folded_72 rfl ?_
        refine r_iconst (pc := 73) (n := 2) dX0_folded_73 ?_
        refine r_iload (pc := 74) dX0_folded_74 rfl ?_
        refine r_imul (pc := 76) dX0_folded_76 ?_
        refine r_iadd (pc := 77) dX0_folded_77 ?_
        refine r_iload (pc := 78) dX0_folded_78 rfl ?_
        refine r_isub (pc := 80) dX0_folded_80 ?_
        exact f_iret (pc := 81) dX0_folded_81 rfl (by assumption) (E _ (by clear E hQ B hw; unfold foldS; grind))
      refine r_iload_n (pc := 65) dX0_folded_65 rfl ?_
      refine r_iload (pc := 66) dX0_folded_66 rfl ?_
      refine r_iadd (pc := 68) dX0_folded_68 ?_
      refine r_goto (pc := 69) (tgt := 81) dX0_folded_69 rfl ?_
      exact f_iret (pc := 81) dX0_folded_81 rfl (by assumption) (E _ (by clear E hQ B hw; unfold foldS; grind))
    refine r_iload_n (pc := 35) dX0_folded_35 rfl ?_
    refine r_iload_n (pc := 36) dX0_folded_36 rfl ?_
    refine r_iload_n (pc := 37) dX0_folded_37 rfl ?_
    refine r_isub (pc := 38) dX0_folded_38 ?_
    refine r_iload (pc := 39) dX0_folded_39 rfl ?_
    refine c_X0_145 (pc := 41) rfl dX0_folded_41 (by omega) (Nat.le_of_ble_eq_true rfl) ?_
    refine m_J9_floorMod_7cf53 (d - 1) (by omega) (by assumption) (by omega) (by omega) (by omega) (fun r41 e41 b41 => ?_)
    refine r_iadd (pc := 44) dX0_folded_44 ?_
    exact f_iret (pc := 45) dX0_folded_45 rfl (by assumption) (E _ (by clear E hQ B hw; unfold foldS; grind))
  refine r_iload_n (pc := 20) dX0_folded_20 rfl ?_
  refine r_iload_n (pc := 21) dX0_folded_21 rfl ?_
  refine r_iload_n (pc := 22) dX0_folded_22 rfl ?_
  refine c_X0_121 (pc := 23) rfl dX0_folded_23 (by omega) (Nat.le_of_ble_eq_true rfl) ?_
  refine m_J9_min_7cf53 (d - 1) (by omega) (by assumption) (by omega) (by omega) (fun r23 e23 b23 => ?_)
  refine c_X0_126 (pc := 26) rfl dX0_folded_26 (by omega) (Nat.le_of_ble_eq_true rfl) ?_
  refine m_J9_max_7cf53 (d - 1) (by omega) (by assumption) (by omega) (by omega) (fun r26 e26 b26 => ?_)
  exact f_iret (pc := 29) dX0_folded_29 rfl (by assumption) (E _ (by clear E hQ B hw; unfold foldS; grind))
set_option maxRecDepth 8000 in
theorem m_X0_hermite {Q : Option AV → Wd → Prop} {w : Wd} (d : Nat) {p q m n e x : Int} (hd : 2 ≤ d) (hw : WR w) (he : 0 < e ∧ e ≤ 480) (hQ : ∀ r, r = herm p q m n e x → R32 r → Q (some (vI r)) w) : M mX0_hermite (Rm d) [vL p, vL q, vL m, vL n, vL e, vL x] (fl w) (lQ Q) := by
  have D3 := d3_bd he.1 he.2
  refine f_mofv (L0 := [some (vL p), none, some (vL q), none, some (vL m), none, some (vL n), none, some (vL e), none, some (vL x), none, none, none, none, none, none, none, none, none, none, none]) rfl (Nat.le_of_ble_eq_true rfl) rfl ?_
  refine r_lload (pc := 0) dX0_hermite_0 rfl ?_
  refine r_lload (pc := 2) dX0_hermite_2 rfl ?_
  refine r_lmul (pc := 4) dX0_hermite_4 ?_
  refine r_lstore12 (pc := 5) dX0_hermite_5 rfl ?_
  refine r_lload (pc := 7) dX0_hermite_7 rfl ?_
  refine r_lload (pc := 9) dX0_hermite_9 rfl ?_
  refine r_lmul (pc := 11) dX0_hermite_11 ?_
  refine r_lstore14 (pc := 12) dX0_hermite_12 rfl ?_
  refine r_ldc2 (pc := 14) (n := 3) dX0_hermite_14 kw_X0_152 rfl ?_
  refine r_lload (pc := 17) dX0_hermite_17 rfl ?_
  refine r_lmul (pc := 19) dX0_hermite_19 ?_
  refine r_lload (pc := 20) dX0_hermite_20 rfl ?_
  refine r_lmul (pc := 22) dX0_hermite_22 ?_
  refine r_ldc2 (pc := 23) (n := 2) dX0_hermite_23 kw_X0_91 rfl ?_
  refine r_lload (pc := 26) dX0_hermite_26 rfl ?_
  refine r_lmul (pc := 28) dX0_hermite_28 ?_
  refine r_lsub (pc := 29) dX0_hermite_29 ?_
  refine r_lstore16 (pc := 30) dX0_hermite_30 rfl ?_
  refine r_lload (pc := 32) dX0_hermite_32 rfl ?_
  refine r_lload (pc := 34) dX0_hermite_34 rfl ?_
  refine r_lmul (pc := 36) dX0_hermite_36 ?_
  refine r_lload (pc := 37) dX0_hermite_37 rfl ?_
  refine r_lmul (pc := 39) dX0_hermite_39 ?_
  refine r_lstore18 (pc := 40) dX0_hermite_40 rfl ?_
  refine r_lload_n (pc := 42) dX0_hermite_42 rfl ?_
  refine r_lload (pc := 43) dX0_hermite_43 rfl ?_
  refine r_lload (pc := 45) dX0_hermite_45 rfl ?_
  refine r_lsub (pc := 47) dX0_hermite_47 ?_
  refine r_lmul (pc := 48) dX0_hermite_48 ?_
  refine r_lload_n (pc := 49) dX0_hermite_49 rfl ?_
  refine r_lload (pc := 50) dX0_hermite_50 rfl ?_
  refine r_lmul (pc := 52) dX0_hermite_52 ?_
  refine r_ladd (pc := 53) dX0_hermite_53 ?_
  refine r_lload (pc := 54) dX0_hermite_54 rfl ?_
  refine r_lload (pc := 56) dX0_hermite_56 rfl ?_
  refine r_lmul (pc := 58) dX0_hermite_58 ?_
  refine r_lload (pc := 59) dX0_hermite_59 rfl ?_
  refine r_ldc2 (pc := 61) (n := 2) dX0_hermite_61 kw_X0_91 rfl ?_
  refine r_lload (pc := 64) dX0_hermite_64 rfl ?_
  refine r_lmul (pc := 66) dX0_hermite_66 ?_
  refine r_lload (pc := 67) dX0_hermite_67 rfl ?_
  refine r_lmul (pc := 69) dX0_hermite_69 ?_
  refine r_lsub (pc := 70) dX0_hermite_70 ?_
  refine r_lload (pc := 71) dX0_hermite_71 rfl ?_
  refine r_lload (pc := 73) dX0_hermite_73 rfl ?_
  refine r_lmul (pc := 75) dX0_hermite_75 ?_
  refine r_lload (pc := 76) dX0_hermite_76 rfl ?_
  refine r_lmul (pc := 78) dX0_hermite_78 ?_
  refine r_ladd (pc := 79) dX0_hermite_79 ?_
  refine r_lmul (pc := 80) dX0_hermite_80 ?_
  refine r_ladd (pc := 81) dX0_hermite_81 ?_
  refine r_lload (pc := 82) dX0_hermite_82 rfl ?_
  refine r_lload (pc := 84) dX0_hermite_84 rfl ?_
  refine r_lmul (pc := 86) dX0_hermite_86 ?_
  refine r_lload (pc := 87) dX0_hermite_87 rfl ?_
  refine r_lload (pc := 89) dX0_hermite_89 rfl ?_
  refine r_lload (pc := 91) dX0_hermite_91 rfl ?_
  refine r_lmul (pc := 93) dX0_hermite_93 ?_
  refine r_lsub (pc := 94) dX0_hermite_94 ?_
  refine r_lmul (pc := 95) dX0_hermite_95 ?_
  refine r_ladd (pc := 96) dX0_hermite_96 ?_
  refine r_lstore20 (pc := 97) dX0_hermite_97 rfl ?_
  refine r_lload (pc := 99) dX0_hermite_99 rfl ?_
  refine r_lload (pc := 101) dX0_hermite_101 rfl ?_
  refine c_X0_93 (pc := 103) rfl dX0_hermite_103 (by omega) (Nat.le_of_ble_eq_true rfl) ?_
  refine m_X11_round (d - 1) (by omega) (by assumption) (by omega) (fun r103 e103 => ?_)
  refine r_l2i (pc := 106) dX0_hermite_106 ?_
  refine rep_I (zi_w32 _) ?_
  exact f_iret (pc := 107) dX0_hermite_107 rfl (by assumption) (hQ _ (by rw [e103]; rfl) (w32_r _))
set_option maxRecDepth 8000 in
theorem m_X0_between {Q : Option AV → Wd → Prop} {w : Wd} (d : Nat) {c : Nat} {k f : Int} (hd : 5 ≤ d) (hw : WR w) (hs : sh c = 0) (hI : CI (cx w c)) (hk : 0 ≤ k ∧ k + 1 < w c 0) (hf : -10000 ≤ f ∧ f ≤ 10000) (hQ : ∀ r, r = btw (cx w c) k f → R32 r → Q (some (vI r)) w) : M mX0_between (Rm d) [vR (some c), vI k, vI f] (fl w) (lQ Q) := by
  obtain ⟨s1, s2, s3, s4, s5⟩ := sh_curve hs
  obtain ⟨hn, P, O, b1, b2, b3, b4⟩ := CIw hI
  have Pk := P k (by omega) (by omega)
  have Pk2 := P (k + 1) (by omega) (by omega)
  have Ok := O k (k + 1) (by omega) (by omega) (by omega)
  refine f_mofv (L0 := [some (vR (some c)), some (vI k), some (vI f), none, none, none, none]) rfl (Nat.le_of_ble_eq_true rfl) rfl ?_
  refine r_bipush (pc := 0) (n := 64) dX0_between_0 (by decide) ?_
  refine r_aload_n (pc := 2) dX0_between_2 rfl ?_
  refine g_X0_22 (pc := 3) rfl dX0_between_3 (by first | assumption | rfl) ?_
  refine r_iload_n (pc := 6) dX0_between_6 rfl ?_
  refine c_X0_53 (pc := 7) rfl dX0_between_7 (by omega) (Nat.le_of_ble_eq_true rfl) ?_
  refine m_X11_at (d - 1) (by omega) (by assumption) (n := 24) (by assumption) (by omega) (by omega) (fun r7 e7 b7 => ?_)
  rw [gA_in (by omega) (by omega)] at e7
  refine r_imul (pc := 10) dX0_between_10 ?_
  refine r_istore3 (pc := 11) dX0_between_11 rfl ?_
  refine r_aload_n (pc := 12) dX0_between_12 rfl ?_
  refine g_X0_25 (pc := 13) rfl dX0_between_13 (by first | assumption | rfl) ?_
  refine r_iload_n (pc := 16) dX0_between_16 rfl ?_
  refine c_X0_53 (pc := 17) rfl dX0_between_17 (by omega) (Nat.le_of_ble_eq_true rfl) ?_
  refine m_X11_at (d - 1) (by omega) (by assumption) (n := 24) (by assumption) (by omega) (by omega) (fun r17 e17 b17 => ?_)
  rw [gA_in (by omega) (by omega)] at e17
  refine r_bipush (pc := 20) (n := 6) dX0_between_20 (by decide) ?_
  refine r_icmpne (pc := 22) (tgt := 27) dX0_between_22 rfl (by omega) (by omega) (fun h22 => ?_) (fun h22 => ?_)
  · refine r_bipush (pc := 27) (n := 64) dX0_between_27 (by decide) ?_
    refine r_aload_n (pc := 29) dX0_between_29 rfl ?_
    refine g_X0_22 (pc := 30) rfl dX0_between_30 (by first | assumption | rfl) ?_
    refine r_iload_n (pc := 33) dX0_between_33 rfl ?_
    refine r_iconst (pc := 34) (n := 1) dX0_between_34 ?_
    refine r_iadd (pc := 35) dX0_between_35 ?_
    refine c_X0_53 (pc := 36) rfl dX0_between_36 (by omega) (Nat.le_of_ble_eq_true rfl) ?_
    refine m_X11_at (d - 1) (by omega) (by assumption) (n := 24) (by assumption) (by omega) (by omega) (fun r36 e36 b36 => ?_)
    rw [gA_in (by omega) (by omega)] at e36
    refine r_imul (pc := 39) dX0_between_39 ?_
    refine r_istore4 (pc := 40) dX0_between_40 rfl ?_
    refine r_aload_n (pc := 42) dX0_between_42 rfl ?_
    refine g_X0_18 (pc := 43) rfl dX0_between_43 (by first | assumption | rfl) ?_
    refine r_iload_n (pc := 46) dX0_between_46 rfl ?_
    refine c_X0_53 (pc := 47) rfl dX0_between_47 (by omega) (Nat.le_of_ble_eq_true rfl) ?_
    refine m_X11_at (d - 1) (by omega) (by assumption) (n := 24) (by assumption) (by omega) (by omega) (fun r47 e47 b47 => ?_)
    rw [gA_in (by omega) (by omega)] at e47
    refine r_istore5 (pc := 50) dX0_between_50 rfl ?_
    refine r_aload_n (pc := 52) dX0_between_52 rfl ?_
    refine g_X0_18 (pc := 53) rfl dX0_between_53 (by first | assumption | rfl) ?_
    refine r_iload_n (pc := 56) dX0_between_56 rfl ?_
    refine r_iconst (pc := 57) (n := 1) dX0_between_57 ?_
    refine r_iadd (pc := 58) dX0_between_58 ?_
    refine c_X0_53 (pc := 59) rfl dX0_between_59 (by omega) (Nat.le_of_ble_eq_true rfl) ?_
    refine m_X11_at (d - 1) (by omega) (by assumption) (n := 24) (by assumption) (by omega) (by omega) (fun r59 e59 b59 => ?_)
    rw [gA_in (by omega) (by omega)] at e59
    refine r_iload (pc := 62) dX0_between_62 rfl ?_
    refine r_isub (pc := 64) dX0_between_64 ?_
    refine r_istore6 (pc := 65) dX0_between_65 rfl ?_
    refine r_iload_n (pc := 67) dX0_between_67 rfl ?_
    refine r_i2l (pc := 68) dX0_between_68 (by first | assumption | omega) ?_
    refine r_iload (pc := 69) dX0_between_69 rfl ?_
    refine r_i2l (pc := 71) dX0_between_71 (by first | assumption | omega) ?_
    refine r_aload_n (pc := 72) dX0_between_72 rfl ?_
    refine r_iload_n (pc := 73) dX0_between_73 rfl ?_
    refine r_iconst (pc := 74) (n := 1) dX0_between_74 ?_
    refine c_X0_77 (pc := 75) rfl dX0_between_75 (by first | assumption | rfl) (by omega) (Nat.le_of_ble_eq_true rfl) ?_
    refine m_X0_tangent (d - 1) (by omega) (by assumption) (by assumption) (by assumption) ⟨by omega, by omega⟩ (by omega) (fun r75 e75 b75 => ?_)
    refine r_i2l (pc := 78) dX0_between_78 (by first | assumption | omega) ?_
    refine r_aload_n (pc := 79) dX0_between_79 rfl ?_
    refine r_iload_n (pc := 80) dX0_between_80 rfl ?_
    refine r_iconst (pc := 81) (n := 1) dX0_between_81 ?_
    refine r_iadd (pc := 82) dX0_between_82 ?_
    refine r_iconst (pc := 83) (n := 0) dX0_between_83 ?_
    refine c_X0_77 (pc := 84) rfl dX0_between_84 (by first | assumption | rfl) (by omega) (Nat.le_of_ble_eq_true rfl) ?_
    refine m_X0_tangent (d - 1) (by omega) (by assumption) (by assumption) (by assumption) ⟨by omega, by omega⟩ (by omega) (fun r84 e84 b84 => ?_)
    refine r_i2l (pc := 87) dX0_between_87 (by first | assumption | omega) ?_
    refine r_iload (pc := 88) dX0_between_88 rfl ?_
    refine r_i2l (pc := 90) dX0_between_90 (by first | assumption | omega) ?_
    refine r_iload_n (pc := 91) dX0_between_91 rfl ?_
    refine r_iload (pc := 92) dX0_between_92 rfl ?_
    refine r_isub (pc := 94) dX0_between_94 ?_
    refine r_i2l (pc := 95) dX0_between_95 (by first | assumption | omega) ?_
    refine c_X0_148 (pc := 96) rfl dX0_between_96 (by omega) (Nat.le_of_ble_eq_true rfl) ?_
    refine m_X0_hermite (d - 1) (by omega) (by assumption) (by omega) (fun r96 e96 b96 => ?_)
    exact f_iret (pc := 99) dX0_between_99 rfl (by assumption) (hQ _ ((show _ = herm (64 * w (c + 2) k) (64 * w (c + 2) (k + 1)) (slp (cx w c) k 1) (slp (cx w c) (k + 1) 0) (w (c + 1) (k + 1) - w (c + 1) k) (f - w (c + 1) k) by rw [e96, e84, e75, e59, e47, e36, e7]).trans (if_neg (show ¬ w (c + 3) k = 6 by omega)).symm) (by omega))
  refine r_iload_n (pc := 25) dX0_between_25 rfl ?_
  exact f_iret (pc := 26) dX0_between_26 rfl (by assumption) (hQ _ ((show _ = 64 * w (c + 2) k by rw [e7]).trans (if_pos (show w (c + 3) k = 6 by omega)).symm) (by omega))
