theorem knd_bd {X : CP} (h : CI X) (f : Int) : 0 ≤ knd X f ∧ knd X f ≤ 4 := by
  obtain ⟨h1, h2, h3, h4, h5, h6, h7⟩ := h
  unfold knd
  split
  · omega
  · split <;> omega
theorem ediv_bd {x y B : Int} (hy : 1 ≤ y) (hB : 0 ≤ B) (h1 : -B ≤ x) (h2 : x ≤ B) : -B ≤ x / y ∧ x / y ≤ B := by
  have g1 : B * 1 ≤ B * y := Int.mul_le_mul_of_nonneg_left hy hB
  refine ⟨(Int.le_ediv_iff_mul_le (by omega)).mpr (by rw [Int.neg_mul]; omega), ?_⟩
  have := (Int.ediv_lt_iff_lt_mul (a := x) (b := B + 1) (show 0 < y by omega)).mpr (by rw [Int.add_mul, Int.one_mul]; omega)
  omega
set_option maxRecDepth 8000 in
theorem m_X0_partsAt {Q : Option AV → Wd → Prop} {w : Wd} (d : Nat) {c : Nat} {f : Int} (hd : 6 ≤ d) (hw : WR w) (hs : sh c = 0) (hI : CI (cx w c)) (hf : -10000 ≤ f ∧ f ≤ 10000) (hQ : ∀ r, r = valS (cx w c) f → R32 r → Q (some (vI r)) w) : M mX0_partsAt (Rm d) [vR (some c), vI f] (fl w) (lQ Q) := by
  obtain ⟨s1, s2, s3, s4, s5⟩ := sh_curve hs
  obtain ⟨hn, P, O, b1, b2, b3, b4⟩ := CIw hI
  refine f_mofv (L0 := [some (vR (some c)), some (vI f), none, none, none, none, none, none, none, none, none]) rfl (Nat.le_of_ble_eq_true rfl) rfl ?_
  have cut197 : 1 ≤ w c 0 → ∀ (v : Int) (o1 o2 : Option AV), v = insd (cx w c) (inn (cx w c) f) + (if knd (cx w c) f = 1 then slp (cx w c) (kX (cx w c) (inn (cx w c) f)) (if f > w (c + 1) (w c 0 - 1) then 1 else 0) * (f - inn (cx w c) f) else 0) + (if knd (cx w c) f = 4 ∧ w (c + 1) (w c 0 - 1) > w (c + 1) 0 then (f - w (c + 1) 0) / (w (c + 1) (w c 0 - 1) - w (c + 1) 0) * 64 * (w (c + 2) (w c 0 - 1) - w (c + 2) 0) else 0) → V mX0_partsAt (Rm d) 0 0 197 [some (vR (some c)), some (vI f), some (vI (w (c + 1) 0)), some (vI (w (c + 1) (w c 0 - 1))), some (vI (knd (cx w c) f)), some (vI (inn (cx w c) f)), some (vI (kX (cx w c) (inn (cx w c) f))), some (vL v), none, o1, o2] [] (fl w) (lQ Q) := by
    intro n1 v o1 o2 hv
    refine r_lload (pc := 197) dX0_partsAt_197 rfl ?_
    refine r_l2i (pc := 199) dX0_partsAt_199 ?_
    refine rep_I (zi_w32 _) ?_
    exact f_iret (pc := 200) dX0_partsAt_200 rfl (by assumption) (hQ _ ((show _ = w32 (insd (cx w c) (inn (cx w c) f) + (if knd (cx w c) f = 1 then slp (cx w c) (kX (cx w c) (inn (cx w c) f)) (if f > w (c + 1) (w c 0 - 1) then 1 else 0) * (f - inn (cx w c) f) else 0) + (if knd (cx w c) f = 4 ∧ w (c + 1) (w c 0 - 1) > w (c + 1) 0 then (f - w (c + 1) 0) / (w (c + 1) (w c 0 - 1) - w (c + 1) 0) * 64 * (w (c + 2) (w c 0 - 1) - w (c + 2) 0) else 0)) by rw [hv]).trans (if_neg (show ¬ w c 0 < 1 by omega)).symm) (w32_r _))
  have cut139 : 1 ≤ w c 0 → ∀ (v : Int), v = insd (cx w c) (inn (cx w c) f) + (if knd (cx w c) f = 1 then slp (cx w c) (kX (cx w c) (inn (cx w c) f)) (if f > w (c + 1) (w c 0 - 1) then 1 else 0) * (f - inn (cx w c) f) else 0) → V mX0_partsAt (Rm d) 0 0 139 [some (vR (some c)), some (vI f), some (vI (w (c + 1) 0)), some (vI (w (c + 1) (w c 0 - 1))), some (vI (knd (cx w c) f)), some (vI (inn (cx w c) f)), some (vI (kX (cx w c) (inn (cx w c) f))), some (vL v), none, none, none] [] (fl w) (lQ Q) := by
    intro n1 v hv
    have n1 : 1 ≤ w c 0 := by omega
    have P0 := P 0 (by omega) (by omega)
    have Pl := P (w c 0 - 1) (by omega) (by omega)
    have Ol : w (c + 1) 0 ≤ w (c + 1) (w c 0 - 1) := by
      rcases Int.lt_or_le 0 (w c 0 - 1) with q | q
      · have := O 0 (w c 0 - 1) (by omega) q (by omega)
        omega
      · rw [show w c 0 - 1 = 0 by omega]; omega
    have K4 := knd_bd hI f
    have I4 : w (c + 1) 0 ≤ inn (cx w c) f ∧ inn (cx w c) f ≤ w (c + 1) (w c 0 - 1) := foldS_bd Ol
    refine r_iload (pc := 139) dX0_partsAt_139 rfl ?_
    refine r_iconst (pc := 141) (n := 4) dX0_partsAt_141 ?_
    refine r_icmpne (pc := 142) (tgt := 197) dX0_partsAt_142 rfl (by omega) (by omega) (fun h142 => ?_) (fun h142 => ?_)
    · exact cut197 n1 _ none none (by rw [hv, if_neg (show ¬ (knd (cx w c) f = 4 ∧ w (c + 1) (w c 0 - 1) > w (c + 1) 0) by omega), Int.add_zero])
    refine r_iload_n (pc := 145) dX0_partsAt_145 rfl ?_
    refine r_iload_n (pc := 146) dX0_partsAt_146 rfl ?_
    refine r_icmple (pc := 147) (tgt := 197) dX0_partsAt_147 rfl (by omega) (by omega) (fun h147 => ?_) (fun h147 => ?_)
    · exact cut197 n1 _ none none (by rw [hv, if_neg (show ¬ (knd (cx w c) f = 4 ∧ w (c + 1) (w c 0 - 1) > w (c + 1) 0) by omega), Int.add_zero])
    refine r_aload_n (pc := 150) dX0_partsAt_150 rfl ?_
    refine g_X0_22 (pc := 151) rfl dX0_partsAt_151 (by first | assumption | rfl) ?_
    refine r_aload_n (pc := 154) dX0_partsAt_154 rfl ?_
    refine g_X0_38 (pc := 155) rfl dX0_partsAt_155 (by assumption) (by first | assumption | rfl) (fun h155 => ?_)
    refine r_iconst (pc := 158) (n := 1) dX0_partsAt_158 ?_
    refine r_isub (pc := 159) dX0_partsAt_159 ?_
    refine c_X0_53 (pc := 160) rfl dX0_partsAt_160 (by omega) (Nat.le_of_ble_eq_true rfl) ?_
    refine m_X11_at (d - 1) (by omega) (by assumption) (n := 24) (by assumption) (by omega) (by omega) (fun r160 e160 b160 => ?_)
    rw [gA_in (by omega) (by omega)] at e160
    refine r_i2l (pc := 163) dX0_partsAt_163 (by first | assumption | omega) ?_
    refine r_aload_n (pc := 164) dX0_partsAt_164 rfl ?_
    refine g_X0_22 (pc := 165) rfl dX0_partsAt_165 (by first | assumption | rfl) ?_
    refine r_iconst (pc := 168) (n := 0) dX0_partsAt_168 ?_
    refine c_X0_53 (pc := 169) rfl dX0_partsAt_169 (by omega) (Nat.le_of_ble_eq_true rfl) ?_
    refine m_X11_at (d - 1) (by omega) (by assumption) (n := 24) (by assumption) (by omega) (by omega) (fun r169 e169 b169 => ?_)
    rw [gA_in (by omega) (by omega)] at e169
    refine r_i2l (pc := 172) dX0_partsAt_172 (by first | assumption | omega) ?_
    refine r_lsub (pc := 173) dX0_partsAt_173 ?_
    refine r_lstore9 (pc := 174) dX0_partsAt_174 rfl ?_
    refine r_lload (pc := 176) dX0_partsAt_176 rfl ?_
    refine r_iload_n (pc := 178) dX0_partsAt_178 rfl ?_
    refine r_iload_n (pc := 179) dX0_partsAt_179 rfl ?_
    refine r_isub (pc := 180) dX0_partsAt_180 ?_
    refine r_iload_n (pc := 181) dX0_partsAt_181 rfl ?_
    refine r_iload_n (pc := 182) dX0_partsAt_182 rfl ?_
    refine r_isub (pc := 183) dX0_partsAt_183 ?_
    refine c_X0_142 (pc := 184) rfl dX0_partsAt_184 (by omega) (Nat.le_of_ble_eq_true rfl) ?_
    refine m_J9_floorDiv_7cf53 (d - 1) (by omega) (by assumption) (by omega) (by omega) (by omega) (fun r184 e184 b184 => ?_)
    have B184 := ediv_bd (x := f - w (c + 1) 0) (y := w (c + 1) (w c 0 - 1) - w (c + 1) 0) (B := 20000) (by omega) (by omega) (by omega) (by omega)
    refine r_bipush (pc := 187) (n := 64) dX0_partsAt_187 (by decide) ?_
    refine r_imul (pc := 189) dX0_partsAt_189 ?_
    refine r_i2l (pc := 190) dX0_partsAt_190 (by first | assumption | omega) ?_
    refine r_lload (pc := 191) dX0_partsAt_191 rfl ?_
    refine r_lmul (pc := 193) dX0_partsAt_193 ?_
    refine r_ladd (pc := 194) dX0_partsAt_194 ?_
    refine r_lstore7 (pc := 195) dX0_partsAt_195 rfl ?_
    exact cut197 n1 _ _ _ (by rw [hv, if_pos (show knd (cx w c) f = 4 ∧ w (c + 1) (w c 0 - 1) > w (c + 1) 0 by omega), e184, e160, e169])
  have cut103 : 1 ≤ w c 0 → ∀ (v : Int), v = insd (cx w c) (inn (cx w c) f) → V mX0_partsAt (Rm d) 0 0 103 [some (vR (some c)), some (vI f), some (vI (w (c + 1) 0)), some (vI (w (c + 1) (w c 0 - 1))), some (vI (knd (cx w c) f)), some (vI (inn (cx w c) f)), some (vI (kX (cx w c) (inn (cx w c) f))), none, none, none, none] [vL v] (fl w) (lQ Q) := by
    intro n1 v hv
    have n1 : 1 ≤ w c 0 := by omega
    have P0 := P 0 (by omega) (by omega)
    have Pl := P (w c 0 - 1) (by omega) (by omega)
    have Ol : w (c + 1) 0 ≤ w (c + 1) (w c 0 - 1) := by
      rcases Int.lt_or_le 0 (w c 0 - 1) with q | q
      · have := O 0 (w c 0 - 1) (by omega) q (by omega)
        omega
      · rw [show w c 0 - 1 = 0 by omega]; omega
    have K4 := knd_bd hI f
    have I4 : w (c + 1) 0 ≤ inn (cx w c) f ∧ inn (cx w c) f ≤ w (c + 1) (w c 0 - 1) := foldS_bd Ol
    have KK : 0 ≤ kX (cx w c) (inn (cx w c) f) ∧ kX (cx w c) (inn (cx w c) f) < w c 0 := by
      have h1 := kb_KB (w (c + 1)) (inn (cx w c) f + 1) (w c 0).toNat
      rw [show (((w c 0).toNat : Nat) : Int) = w c 0 by omega] at h1
      have h2 := kX_of (X := cx w c) (t := inn (cx w c) f) hn.1 h1
      obtain ⟨q1, q2, q3, q4⟩ := h1
      rw [h2]
      refine ⟨?_, by omega⟩
      rcases Int.lt_or_le 0 (kb (w (c + 1)) (inn (cx w c) f + 1) (w c 0).toNat) with z | z
      · omega
      · have e : kb (w (c + 1)) (inn (cx w c) f + 1) (w c 0).toNat = 0 := by omega
        rw [e] at q4
        have := q4 (by omega)
        omega
    refine r_lstore7 (pc := 103) dX0_partsAt_103 rfl ?_
    refine r_iload (pc := 105) dX0_partsAt_105 rfl ?_
    refine r_iconst (pc := 107) (n := 1) dX0_partsAt_107 ?_
    refine r_icmpne (pc := 108) (tgt := 139) dX0_partsAt_108 rfl (by omega) (by omega) (fun h108 => ?_) (fun h108 => ?_)
    · exact cut139 n1 _ (by rw [hv, if_neg (show ¬ knd (cx w c) f = 1 by omega), Int.add_zero])
    refine r_lload (pc := 111) dX0_partsAt_111 rfl ?_
    refine r_aload_n (pc := 113) dX0_partsAt_113 rfl ?_
    refine r_iload (pc := 114) dX0_partsAt_114 rfl ?_
    refine r_iload_n (pc := 116) dX0_partsAt_116 rfl ?_
    refine r_iload_n (pc := 117) dX0_partsAt_117 rfl ?_
    refine r_icmple (pc := 118) (tgt := 125) dX0_partsAt_118 rfl (by omega) (by omega) (fun h118 => ?_) (fun h118 => ?_)
    · refine r_iconst (pc := 125) (n := 0) dX0_partsAt_125 ?_
      refine c_X0_77 (pc := 126) rfl dX0_partsAt_126 (by first | assumption | rfl) (by omega) (Nat.le_of_ble_eq_true rfl) ?_
      refine m_X0_tangent (d - 1) (by omega) (by assumption) (by assumption) (by assumption) ⟨by omega, by omega⟩ (by omega) (fun r126 e126 b126 => ?_)
      refine r_i2l (pc := 129) dX0_partsAt_129 (by first | assumption | omega) ?_
      refine r_iload_n (pc := 130) dX0_partsAt_130 rfl ?_
      refine r_iload (pc := 131) dX0_partsAt_131 rfl ?_
      refine r_isub (pc := 133) dX0_partsAt_133 ?_
      refine r_i2l (pc := 134) dX0_partsAt_134 (by first | assumption | omega) ?_
      refine r_lmul (pc := 135) dX0_partsAt_135 ?_
      refine r_ladd (pc := 136) dX0_partsAt_136 ?_
      refine r_lstore7 (pc := 137) dX0_partsAt_137 rfl ?_
      exact cut139 n1 _ (by rw [hv, if_pos (show knd (cx w c) f = 1 by omega), e126]; first | rw [if_pos (show f > w (c + 1) (w c 0 - 1) by omega)] | rw [if_neg (show ¬ f > w (c + 1) (w c 0 - 1) by omega)])
    refine r_iconst (pc := 121) (n := 1) dX0_partsAt_121 ?_
    refine r_goto (pc := 122) (tgt := 126) dX0_partsAt_122 rfl ?_
    refine c_X0_77 (pc := 126) rfl dX0_partsAt_126 (by first | assumption | rfl) (by omega) (Nat.le_of_ble_eq_true rfl) ?_
    refine m_X0_tangent (d - 1) (by omega) (by assumption) (by assumption) (by assumption) ⟨by omega, by omega⟩ (by omega) (fun r126 e126 b126 => ?_)
    refine r_i2l (pc := 129) dX0_partsAt_129 (by first | assumption | omega) ?_
    refine r_iload_n (pc := 130) dX0_partsAt_130 rfl ?_
    refine r_iload (pc := 131) dX0_partsAt_131 rfl ?_
    refine r_isub (pc := 133) dX0_partsAt_133 ?_
    refine r_i2l (pc := 134) dX0_partsAt_134 (by first | assumption | omega) ?_
    refine r_lmul (pc := 135) dX0_partsAt_135 ?_
    refine r_ladd (pc := 136) dX0_partsAt_136 ?_
    refine r_lstore7 (pc := 137) dX0_partsAt_137 rfl ?_
    exact cut139 n1 _ (by rw [hv, if_pos (show knd (cx w c) f = 1 by omega), e126]; first | rw [if_pos (show f > w (c + 1) (w c 0 - 1) by omega)] | rw [if_neg (show ¬ f > w (c + 1) (w c 0 - 1) by omega)])
  refine r_aload_n (pc := 0) dX0_partsAt_0 rfl ?_
  refine g_X0_38 (pc := 1) rfl dX0_partsAt_1 (by assumption) (by first | assumption | rfl) (fun h1 => ?_)
  refine r_iconst (pc := 4) (n := 1) dX0_partsAt_4 ?_
  refine r_icmpge (pc := 5) (tgt := 10) dX0_partsAt_5 rfl (by omega) (by omega) (fun h5 => ?_) (fun h5 => ?_)
  · have n1 : 1 ≤ w c 0 := by omega
    have P0 := P 0 (by omega) (by omega)
    have Pl := P (w c 0 - 1) (by omega) (by omega)
    have Ol : w (c + 1) 0 ≤ w (c + 1) (w c 0 - 1) := by
      rcases Int.lt_or_le 0 (w c 0 - 1) with q | q
      · have := O 0 (w c 0 - 1) (by omega) q (by omega)
        omega
      · rw [show w c 0 - 1 = 0 by omega]; omega
    have K4 := knd_bd hI f
    have I4 : w (c + 1) 0 ≤ inn (cx w c) f ∧ inn (cx w c) f ≤ w (c + 1) (w c 0 - 1) := foldS_bd Ol
    refine r_aload_n (pc := 10) dX0_partsAt_10 rfl ?_
    refine g_X0_18 (pc := 11) rfl dX0_partsAt_11 (by first | assumption | rfl) ?_
    refine r_iconst (pc := 14) (n := 0) dX0_partsAt_14 ?_
    refine c_X0_53 (pc := 15) rfl dX0_partsAt_15 (by omega) (Nat.le_of_ble_eq_true rfl) ?_
    refine m_X11_at (d - 1) (by omega) (by assumption) (n := 24) (by assumption) (by omega) (by omega) (fun r15 e15 b15 => ?_)
    rw [gA_in (by omega) (by omega)] at e15
    subst e15
    refine r_istore2 (pc := 18) dX0_partsAt_18 rfl ?_
    refine r_aload_n (pc := 19) dX0_partsAt_19 rfl ?_
    refine g_X0_18 (pc := 20) rfl dX0_partsAt_20 (by first | assumption | rfl) ?_
    refine r_aload_n (pc := 23) dX0_partsAt_23 rfl ?_
    refine g_X0_38 (pc := 24) rfl dX0_partsAt_24 (by assumption) (by first | assumption | rfl) (fun h24 => ?_)
    refine r_iconst (pc := 27) (n := 1) dX0_partsAt_27 ?_
    refine r_isub (pc := 28) dX0_partsAt_28 ?_
    refine c_X0_53 (pc := 29) rfl dX0_partsAt_29 (by omega) (Nat.le_of_ble_eq_true rfl) ?_
    refine m_X11_at (d - 1) (by omega) (by assumption) (n := 24) (by assumption) (by omega) (by omega) (fun r29 e29 b29 => ?_)
    rw [gA_in (by omega) (by omega)] at e29
    subst e29
    refine r_istore3 (pc := 32) dX0_partsAt_32 rfl ?_
    refine r_aload_n (pc := 33) dX0_partsAt_33 rfl ?_
    refine r_iload_n (pc := 34) dX0_partsAt_34 rfl ?_
    refine r_iload_n (pc := 35) dX0_partsAt_35 rfl ?_
    refine r_iload_n (pc := 36) dX0_partsAt_36 rfl ?_
    refine c_X0_132 (pc := 37) rfl dX0_partsAt_37 (by first | assumption | rfl) (by omega) (Nat.le_of_ble_eq_true rfl) ?_
    refine m_X0_extrapolation (d - 1) (by omega) (by assumption) (by assumption) (by omega) (by omega) (by omega) (fun r37 e37 b37 => ?_)
    have E37 : r37 = knd (cx w c) f := e37
    subst E37
    refine r_istore4 (pc := 40) dX0_partsAt_40 rfl ?_
    refine r_iload (pc := 42) dX0_partsAt_42 rfl ?_
    refine r_iload_n (pc := 44) dX0_partsAt_44 rfl ?_
    refine r_iload_n (pc := 45) dX0_partsAt_45 rfl ?_
    refine r_iload_n (pc := 46) dX0_partsAt_46 rfl ?_
    refine c_X0_135 (pc := 47) rfl dX0_partsAt_47 (by omega) (Nat.le_of_ble_eq_true rfl) ?_
    refine m_X0_folded (d - 1) (by omega) (by assumption) (by omega) (by omega) (by omega) (by omega) (fun r47 e47 b47 => ?_)
    have E47 : r47 = inn (cx w c) f := e47
    subst E47
    refine r_istore5 (pc := 50) dX0_partsAt_50 rfl ?_
    refine r_aload_n (pc := 52) dX0_partsAt_52 rfl ?_
    refine r_iload (pc := 53) dX0_partsAt_53 rfl ?_
    refine r_iconst (pc := 55) (n := 1) dX0_partsAt_55 ?_
    refine r_iadd (pc := 56) dX0_partsAt_56 ?_
    refine c_X0_45 (pc := 57) rfl dX0_partsAt_57 (by first | assumption | rfl) (by omega) (Nat.le_of_ble_eq_true rfl) ?_
    refine m_X0_keysBefore (d - 1) (by omega) (by assumption) (by assumption) (by omega) (by omega) (fun r57 e57 => ?_)
    have K57 := kX_of (X := cx w c) (t := inn (cx w c) f) hn.1 e57
    have KK : 0 ≤ kX (cx w c) (inn (cx w c) f) ∧ kX (cx w c) (inn (cx w c) f) < w c 0 := by
      have h1 := kb_KB (w (c + 1)) (inn (cx w c) f + 1) (w c 0).toNat
      rw [show (((w c 0).toNat : Nat) : Int) = w c 0 by omega] at h1
      have h2 := kX_of (X := cx w c) (t := inn (cx w c) f) hn.1 h1
      obtain ⟨q1, q2, q3, q4⟩ := h1
      rw [h2]
      refine ⟨?_, by omega⟩
      rcases Int.lt_or_le 0 (kb (w (c + 1)) (inn (cx w c) f + 1) (w c 0).toNat) with z | z
      · omega
      · have e : kb (w (c + 1)) (inn (cx w c) f + 1) (w c 0).toNat = 0 := by omega
        rw [e] at q4
        have := q4 (by omega)
        omega
    refine r_iconst (pc := 60) (n := 1) dX0_partsAt_60 ?_
    refine r_isub (pc := 61) dX0_partsAt_61 ?_
    rw [← K57]
    refine r_istore6 (pc := 62) dX0_partsAt_62 rfl ?_
    refine r_aload_n (pc := 64) dX0_partsAt_64 rfl ?_
    refine g_X0_18 (pc := 65) rfl dX0_partsAt_65 (by first | assumption | rfl) ?_
    refine r_iload (pc := 68) dX0_partsAt_68 rfl ?_
    refine c_X0_53 (pc := 70) rfl dX0_partsAt_70 (by omega) (Nat.le_of_ble_eq_true rfl) ?_
    refine m_X11_at (d - 1) (by omega) (by assumption) (n := 24) (by assumption) (by omega) (by omega) (fun r70 e70 b70 => ?_)
    rw [gA_in (by omega) (by omega)] at e70
    refine r_iload (pc := 73) dX0_partsAt_73 rfl ?_
    refine r_icmpne (pc := 75) (tgt := 94) dX0_partsAt_75 rfl (by omega) (by omega) (fun h75 => ?_) (fun h75 => ?_)
    · refine r_aload_n (pc := 94) dX0_partsAt_94 rfl ?_
      refine r_iload (pc := 95) dX0_partsAt_95 rfl ?_
      refine r_iload (pc := 97) dX0_partsAt_97 rfl ?_
      refine c_X0_139 (pc := 99) rfl dX0_partsAt_99 (by first | assumption | rfl) (by omega) (Nat.le_of_ble_eq_true rfl) ?_
      have KL : kX (cx w c) (inn (cx w c) f) + 1 < w c 0 := by
        obtain ⟨q1, q2, q3, q4⟩ := e57
        rcases Int.lt_or_le (kX (cx w c) (inn (cx w c) f) + 1) (w c 0) with z | z
        · exact z
        · have e : kX (cx w c) (inn (cx w c) f) = w c 0 - 1 := by omega
          have h3 := q3 (kX (cx w c) (inn (cx w c) f)) (by omega) (by omega)
          rw [e] at h3 e70
          omega
      refine m_X0_between (d - 1) (by omega) (by assumption) (by assumption) (by assumption) ⟨by omega, by omega⟩ (by omega) (fun r99 e99 b99 => ?_)
      refine r_i2l (pc := 102) dX0_partsAt_102 (by first | assumption | omega) ?_
      exact cut103 n1 _ (by rw [e99]; exact (if_neg (show ¬ w (c + 1) (kX (cx w c) (inn (cx w c) f)) = inn (cx w c) f by omega)).symm)
    have Pk := P _ KK.1 KK.2
    refine r_bipush (pc := 78) (n := 64) dX0_partsAt_78 (by decide) ?_
    refine r_aload_n (pc := 80) dX0_partsAt_80 rfl ?_
    refine g_X0_22 (pc := 81) rfl dX0_partsAt_81 (by first | assumption | rfl) ?_
    refine r_iload (pc := 84) dX0_partsAt_84 rfl ?_
    refine c_X0_53 (pc := 86) rfl dX0_partsAt_86 (by omega) (Nat.le_of_ble_eq_true rfl) ?_
    refine m_X11_at (d - 1) (by omega) (by assumption) (n := 24) (by assumption) (by omega) (by omega) (fun r86 e86 b86 => ?_)
    rw [gA_in (by omega) (by omega)] at e86
    refine r_imul (pc := 89) dX0_partsAt_89 ?_
    refine r_i2l (pc := 90) dX0_partsAt_90 (by first | assumption | omega) ?_
    refine r_goto (pc := 91) (tgt := 103) dX0_partsAt_91 rfl ?_
    exact cut103 n1 _ (by rw [e86]; exact (if_pos (show w (c + 1) (kX (cx w c) (inn (cx w c) f)) = inn (cx w c) f by omega)).symm)
  refine r_iconst (pc := 8) (n := 0) dX0_partsAt_8 ?_
  exact f_iret (pc := 9) dX0_partsAt_9 rfl (by assumption) (hQ _ (if_pos (show w c 0 < 1 by omega)).symm (by omega))
