theorem rndW_r (n d : Int) : R64 (rndW n d) := by
  unfold rndW
  split
  · rename_i h
    have h0 := w64_r (2 * n + d)
    have h1 : -9223372036854775808 ≤ w64 (2 * n + d) / (2 * d) := (Int.le_ediv_iff_mul_le (by omega)).mpr (by have : -9223372036854775808 * (2 * d) ≤ -9223372036854775808 * 1 := Int.mul_le_mul_of_nonpos_left (by omega) (by omega); omega)
    have h2 : w64 (2 * n + d) / (2 * d) < 9223372036854775808 := (Int.ediv_lt_iff_lt_mul (by omega)).mpr (by have : 9223372036854775808 * 1 ≤ 9223372036854775808 * (2 * d) := Int.mul_le_mul_of_nonneg_left (by omega) (by omega); omega)
    exact ⟨h1, h2⟩
  · constructor <;> omega
theorem kw_X11_278 : Jvm.Cond.constantLong RX11 278 (2 : Int64) ∈ gW := gw_t 388 (by decide +kernel) (by decide +kernel)
theorem kw_X11_289 : Jvm.Cond.constantLong RX11 289 (64 : Int64) ∈ gW := gw_t 457 (by decide +kernel) (by decide +kernel)
theorem kw_X12_60 : Jvm.Cond.constantLong RX12 60 (2 : Int64) ∈ gW := gw_t 961 (by decide +kernel) (by decide +kernel)
theorem kw_X12_91 : Jvm.Cond.constantLong RX12 91 (64 : Int64) ∈ gW := gw_t 943 (by decide +kernel) (by decide +kernel)
theorem kw_X12_292 : Jvm.Cond.constantLong RX12 292 (31 : Int64) ∈ gW := gw_t 1267 (by decide +kernel) (by decide +kernel)
set_option maxRecDepth 8000 in
theorem m_J9_max_7cf53 {Q : Option AV → Wd → Prop} {w : Wd} (d : Nat) {x y : Int} (hd : 0 ≤ d) (hw : WR w) (hx : R32 x) (hy : R32 y) (hQ : ∀ r, r = max x y → R32 r → Q (some (vI r)) w) : M mJ9_max_7cf53 (Rm d) [vI x, vI y] (fl w) (lQ Q) := by
  refine f_mofvF (L0 := [some (vI x), some (vI y)]) (by decide +kernel) (Nat.le_of_ble_eq_true rfl) rfl ?_
  refine r_iload_n (pc := 0) dJ9_max_7cf53_0 rfl ?_
  refine r_iload_n (pc := 1) dJ9_max_7cf53_1 rfl ?_
  refine r_icmplt (pc := 2) (tgt := 9) dJ9_max_7cf53_2 rfl (by omega) (by omega) (fun h2 => ?_) (fun h2 => ?_)
  · refine r_iload_n (pc := 9) dJ9_max_7cf53_9 rfl ?_
    exact f_iret (pc := 10) dJ9_max_7cf53_10 rfl (by assumption) (hQ _ (by omega) (by omega))
  refine r_iload_n (pc := 5) dJ9_max_7cf53_5 rfl ?_
  refine r_goto (pc := 6) (tgt := 10) dJ9_max_7cf53_6 rfl ?_
  exact f_iret (pc := 10) dJ9_max_7cf53_10 rfl (by assumption) (hQ _ (by omega) (by omega))
set_option maxRecDepth 8000 in
theorem m_J9_min_7cf53 {Q : Option AV → Wd → Prop} {w : Wd} (d : Nat) {x y : Int} (hd : 0 ≤ d) (hw : WR w) (hx : R32 x) (hy : R32 y) (hQ : ∀ r, r = min x y → R32 r → Q (some (vI r)) w) : M mJ9_min_7cf53 (Rm d) [vI x, vI y] (fl w) (lQ Q) := by
  refine f_mofvF (L0 := [some (vI x), some (vI y)]) (by decide +kernel) (Nat.le_of_ble_eq_true rfl) rfl ?_
  refine r_iload_n (pc := 0) dJ9_min_7cf53_0 rfl ?_
  refine r_iload_n (pc := 1) dJ9_min_7cf53_1 rfl ?_
  refine r_icmpgt (pc := 2) (tgt := 9) dJ9_min_7cf53_2 rfl (by omega) (by omega) (fun h2 => ?_) (fun h2 => ?_)
  · refine r_iload_n (pc := 9) dJ9_min_7cf53_9 rfl ?_
    exact f_iret (pc := 10) dJ9_min_7cf53_10 rfl (by assumption) (hQ _ (by omega) (by omega))
  refine r_iload_n (pc := 5) dJ9_min_7cf53_5 rfl ?_
  refine r_goto (pc := 6) (tgt := 10) dJ9_min_7cf53_6 rfl ?_
  exact f_iret (pc := 10) dJ9_min_7cf53_10 rfl (by assumption) (hQ _ (by omega) (by omega))
set_option maxRecDepth 8000 in
theorem m_J9_max_f86c9 {Q : Option AV → Wd → Prop} {w : Wd} (d : Nat) {x y : Int} (hd : 0 ≤ d) (hw : WR w) (hx : R64 x) (hy : R64 y) (hQ : ∀ r, r = max x y → R64 r → Q (some (vL r)) w) : M mJ9_max_f86c9 (Rm d) [vL x, vL y] (fl w) (lQ Q) := by
  refine f_mofvF (L0 := [some (vL x), none, some (vL y), none]) (by decide +kernel) (Nat.le_of_ble_eq_true rfl) rfl ?_
  refine r_lload_n (pc := 0) dJ9_max_f86c9_0 rfl ?_
  refine r_lload_n (pc := 1) dJ9_max_f86c9_1 rfl ?_
  refine r_lcmp (pc := 2) dJ9_max_f86c9_2 (by omega) (by omega) ?_
  refine r_iflt (pc := 3) (tgt := 10) dJ9_max_f86c9_3 rfl (cmpZ_r _ _) (fun h3 => ?_) (fun h3 => ?_)
  · rw [cmpZ_lt] at h3
    refine r_lload_n (pc := 10) dJ9_max_f86c9_10 rfl ?_
    exact f_lret (pc := 11) dJ9_max_f86c9_11 rfl (by assumption) (hQ _ (by omega) (by omega))
  rw [cmpZ_lt] at h3
  refine r_lload_n (pc := 6) dJ9_max_f86c9_6 rfl ?_
  refine r_goto (pc := 7) (tgt := 11) dJ9_max_f86c9_7 rfl ?_
  exact f_lret (pc := 11) dJ9_max_f86c9_11 rfl (by assumption) (hQ _ (by omega) (by omega))
set_option maxRecDepth 8000 in
theorem m_J9_min_f86c9 {Q : Option AV → Wd → Prop} {w : Wd} (d : Nat) {x y : Int} (hd : 0 ≤ d) (hw : WR w) (hx : R64 x) (hy : R64 y) (hQ : ∀ r, r = min x y → R64 r → Q (some (vL r)) w) : M mJ9_min_f86c9 (Rm d) [vL x, vL y] (fl w) (lQ Q) := by
  refine f_mofvF (L0 := [some (vL x), none, some (vL y), none]) (by decide +kernel) (Nat.le_of_ble_eq_true rfl) rfl ?_
  refine r_lload_n (pc := 0) dJ9_min_f86c9_0 rfl ?_
  refine r_lload_n (pc := 1) dJ9_min_f86c9_1 rfl ?_
  refine r_lcmp (pc := 2) dJ9_min_f86c9_2 (by omega) (by omega) ?_
  refine r_ifgt (pc := 3) (tgt := 10) dJ9_min_f86c9_3 rfl (cmpZ_r _ _) (fun h3 => ?_) (fun h3 => ?_)
  · rw [cmpZ_gt] at h3
    refine r_lload_n (pc := 10) dJ9_min_f86c9_10 rfl ?_
    exact f_lret (pc := 11) dJ9_min_f86c9_11 rfl (by assumption) (hQ _ (by omega) (by omega))
  rw [cmpZ_gt] at h3
  refine r_lload_n (pc := 6) dJ9_min_f86c9_6 rfl ?_
  refine r_goto (pc := 7) (tgt := 11) dJ9_min_f86c9_7 rfl ?_
  exact f_lret (pc := 11) dJ9_min_f86c9_11 rfl (by assumption) (hQ _ (by omega) (by omega))
set_option maxRecDepth 8000 in
theorem m_J9_abs_0f7a4 {Q : Option AV → Wd → Prop} {w : Wd} (d : Nat) {x : Int} (hd : 0 ≤ d) (hw : WR w) (hx : -2147483647 ≤ x ∧ x < 2147483648) (hQ : ∀ r, r = (x.natAbs : Int) → R32 r → Q (some (vI r)) w) : M mJ9_abs_0f7a4 (Rm d) [vI x] (fl w) (lQ Q) := by
  refine f_mofvF (L0 := [some (vI x)]) (by decide +kernel) (Nat.le_of_ble_eq_true rfl) rfl ?_
  refine r_iload_n (pc := 0) dJ9_abs_0f7a4_0 rfl ?_
  refine r_ifge (pc := 1) (tgt := 9) dJ9_abs_0f7a4_1 rfl (by omega) (fun h1 => ?_) (fun h1 => ?_)
  · refine r_iload_n (pc := 9) dJ9_abs_0f7a4_9 rfl ?_
    exact f_iret (pc := 10) dJ9_abs_0f7a4_10 rfl (by assumption) (hQ _ (by omega) (by omega))
  refine r_iload_n (pc := 4) dJ9_abs_0f7a4_4 rfl ?_
  refine r_ineg (pc := 5) dJ9_abs_0f7a4_5 ?_
  refine r_goto (pc := 6) (tgt := 10) dJ9_abs_0f7a4_6 rfl ?_
  exact f_iret (pc := 10) dJ9_abs_0f7a4_10 rfl (by assumption) (hQ _ (by omega) (by omega))
set_option maxRecDepth 8000 in
theorem m_J9_abs_067f4 {Q : Option AV → Wd → Prop} {w : Wd} (d : Nat) {x : Int} (hd : 0 ≤ d) (hw : WR w) (hx : -9223372036854775807 ≤ x ∧ x < 9223372036854775808) (hQ : ∀ r, r = (x.natAbs : Int) → R64 r → Q (some (vL r)) w) : M mJ9_abs_067f4 (Rm d) [vL x] (fl w) (lQ Q) := by
  refine f_mofvF (L0 := [some (vL x), none]) (by decide +kernel) (Nat.le_of_ble_eq_true rfl) rfl ?_
  refine r_lload_n (pc := 0) dJ9_abs_067f4_0 rfl ?_
  refine r_lconst0 (pc := 1) dJ9_abs_067f4_1 ?_
  refine r_lcmp (pc := 2) dJ9_abs_067f4_2 (by omega) (by omega) ?_
  refine r_ifge (pc := 3) (tgt := 11) dJ9_abs_067f4_3 rfl (cmpZ_r _ _) (fun h3 => ?_) (fun h3 => ?_)
  · rw [cmpZ_lt] at h3
    refine r_lload_n (pc := 11) dJ9_abs_067f4_11 rfl ?_
    exact f_lret (pc := 12) dJ9_abs_067f4_12 rfl (by assumption) (hQ _ (by omega) (by omega))
  rw [cmpZ_lt] at h3
  refine r_lload_n (pc := 6) dJ9_abs_067f4_6 rfl ?_
  refine r_lneg (pc := 7) dJ9_abs_067f4_7 ?_
  refine r_goto (pc := 8) (tgt := 12) dJ9_abs_067f4_8 rfl ?_
  exact f_lret (pc := 12) dJ9_abs_067f4_12 rfl (by assumption) (hQ _ (by omega) (by omega))
set_option maxRecDepth 8000 in
theorem m_J9_floorDiv_7cf53 {Q : Option AV → Wd → Prop} {w : Wd} (d : Nat) {x y : Int} (hd : 0 ≤ d) (hw : WR w) (hx : R32 x) (hy : R32 y) (hy0 : 0 < y) (hQ : ∀ r, r = x / y → R32 r → Q (some (vI r)) w) : M mJ9_floorDiv_7cf53 (Rm d) [vI x, vI y] (fl w) (lQ Q) := by
  have F := fd_sg (x := x) hy0
  have B := tdiv_bd hx hy0
  have B2 : R32 (x.tdiv y * y) := by
    have h1 := Int.mul_tdiv_add_tmod x y
    have e : x.tdiv y * y = y * x.tdiv y := Int.mul_comm _ _
    have B3 := tdiv_mul_bd (x := x) (y := y) (by omega) hy0
    obtain ⟨s1, s2⟩ := tmod_sg (x := x) hy0
    obtain ⟨b1, b2⟩ := tmod_bounds (a := x) hy0
    rcases Int.lt_or_le x 0 with z | z
    · have := s2 z
      have h3 : x.tdiv y ≤ 0 := by
        rcases Int.lt_or_le 0 (x.tdiv y) with q | q
        · have : y * 1 ≤ y * x.tdiv y := Int.mul_le_mul_of_nonneg_left (by omega) (by omega)
          omega
        · exact q
      have h4 := Int.mul_nonpos_of_nonneg_of_nonpos (show 0 ≤ y by omega) h3
      omega
    · have := s1 z
      have h3 : 0 ≤ x.tdiv y := by
        rcases Int.lt_or_le (x.tdiv y) 0 with q | q
        · have : y * x.tdiv y ≤ y * (-1) := Int.mul_le_mul_of_nonneg_left (by omega) (by omega)
          omega
        · exact q
      have h4 := Int.mul_nonneg (show 0 ≤ y by omega) h3
      omega
  refine f_mofvF (L0 := [some (vI x), some (vI y), none]) (by decide +kernel) (Nat.le_of_ble_eq_true rfl) rfl ?_
  refine r_iload_n (pc := 0) dJ9_floorDiv_7cf53_0 rfl ?_
  refine r_iload_n (pc := 1) dJ9_floorDiv_7cf53_1 rfl ?_
  refine r_idiv (pc := 2) dJ9_floorDiv_7cf53_2 (by omega) (by omega) (by omega) ?_
  refine r_istore2 (pc := 3) dJ9_floorDiv_7cf53_3 rfl ?_
  refine r_iload_n (pc := 4) dJ9_floorDiv_7cf53_4 rfl ?_
  refine r_iload_n (pc := 5) dJ9_floorDiv_7cf53_5 rfl ?_
  refine r_ixor (pc := 6) dJ9_floorDiv_7cf53_6 ?_
  refine r_ifge (pc := 7) (tgt := 21) dJ9_floorDiv_7cf53_7 rfl (xorI_r _ _) (fun h7 => ?_) (fun h7 => ?_)
  · rw [xorI_sg hx hy] at h7
    refine r_iload_n (pc := 21) dJ9_floorDiv_7cf53_21 rfl ?_
    exact f_iret (pc := 22) dJ9_floorDiv_7cf53_22 rfl (by assumption) (by
        have E : ∀ r : Int, r = x / y → R32 r → Q (some (vI r)) w := hQ
        first
        | (rw [if_pos (by omega)] at F; exact E _ F (by have h6 : x / y < 0 := (Int.ediv_lt_iff_lt_mul hy0).mpr (by omega); have h1 : -2147483648 ≤ x / y := (Int.le_ediv_iff_mul_le hy0).mpr (by have : -2147483648 * y ≤ -2147483648 * 1 := Int.mul_le_mul_of_nonpos_left (by omega) (by omega); omega); omega))
        | (rw [if_neg (by omega)] at F; exact E _ F (by omega)))
  rw [xorI_sg hx hy] at h7
  refine r_iload_n (pc := 10) dJ9_floorDiv_7cf53_10 rfl ?_
  refine r_iload_n (pc := 11) dJ9_floorDiv_7cf53_11 rfl ?_
  refine r_imul (pc := 12) dJ9_floorDiv_7cf53_12 ?_
  refine r_iload_n (pc := 13) dJ9_floorDiv_7cf53_13 rfl ?_
  refine r_icmpeq (pc := 14) (tgt := 21) dJ9_floorDiv_7cf53_14 rfl (by omega) (by omega) (fun h14 => ?_) (fun h14 => ?_)
  · refine r_iload_n (pc := 21) dJ9_floorDiv_7cf53_21 rfl ?_
    exact f_iret (pc := 22) dJ9_floorDiv_7cf53_22 rfl (by assumption) (by
        have E : ∀ r : Int, r = x / y → R32 r → Q (some (vI r)) w := hQ
        first
        | (rw [if_pos (by omega)] at F; exact E _ F (by have h6 : x / y < 0 := (Int.ediv_lt_iff_lt_mul hy0).mpr (by omega); have h1 : -2147483648 ≤ x / y := (Int.le_ediv_iff_mul_le hy0).mpr (by have : -2147483648 * y ≤ -2147483648 * 1 := Int.mul_le_mul_of_nonpos_left (by omega) (by omega); omega); omega))
        | (rw [if_neg (by omega)] at F; exact E _ F (by omega)))
  refine r_iload_n (pc := 17) dJ9_floorDiv_7cf53_17 rfl ?_
  refine r_iconst (pc := 18) (n := 1) dJ9_floorDiv_7cf53_18 ?_
  refine r_isub (pc := 19) dJ9_floorDiv_7cf53_19 ?_
  exact f_iret (pc := 20) dJ9_floorDiv_7cf53_20 rfl (by assumption) (by
      have E : ∀ r : Int, r = x / y → R32 r → Q (some (vI r)) w := hQ
      first
      | (rw [if_pos (by omega)] at F; exact E _ F (by have h6 : x / y < 0 := (Int.ediv_lt_iff_lt_mul hy0).mpr (by omega); have h1 : -2147483648 ≤ x / y := (Int.le_ediv_iff_mul_le hy0).mpr (by have : -2147483648 * y ≤ -2147483648 * 1 := Int.mul_le_mul_of_nonpos_left (by omega) (by omega); omega); omega))
      | (rw [if_neg (by omega)] at F; exact E _ F (by omega)))
set_option maxRecDepth 8000 in
theorem m_J9_floorDiv_f86c9 {Q : Option AV → Wd → Prop} {w : Wd} (d : Nat) {x y : Int} (hd : 0 ≤ d) (hw : WR w) (hx : R64 x) (hy : R64 y) (hy0 : 0 < y) (hQ : ∀ r, r = x / y → Q (some (vL r)) w) : M mJ9_floorDiv_f86c9 (Rm d) [vL x, vL y] (fl w) (lQ Q) := by
  have F := fd_sg (x := x) hy0
  have B2 := tdiv_mul_bd hx hy0
  refine f_mofvF (L0 := [some (vL x), none, some (vL y), none, none, none]) (by decide +kernel) (Nat.le_of_ble_eq_true rfl) rfl ?_
  refine r_lload_n (pc := 0) dJ9_floorDiv_f86c9_0 rfl ?_
  refine r_lload_n (pc := 1) dJ9_floorDiv_f86c9_1 rfl ?_
  refine r_ldiv (pc := 2) dJ9_floorDiv_f86c9_2 (by omega) (by omega) (by omega) ?_
  refine r_lstore4 (pc := 3) dJ9_floorDiv_f86c9_3 rfl ?_
  refine r_lload_n (pc := 5) dJ9_floorDiv_f86c9_5 rfl ?_
  refine r_lload_n (pc := 6) dJ9_floorDiv_f86c9_6 rfl ?_
  refine r_lxor (pc := 7) dJ9_floorDiv_f86c9_7 ?_
  refine r_lconst0 (pc := 8) dJ9_floorDiv_f86c9_8 ?_
  refine r_lcmp (pc := 9) dJ9_floorDiv_f86c9_9 (xorL_r _ _) (by omega) ?_
  refine r_ifge (pc := 10) (tgt := 27) dJ9_floorDiv_f86c9_10 rfl (cmpZ_r _ _) (fun h10 => ?_) (fun h10 => ?_)
  · rw [cmpZ_lt, xorL_sg hx hy] at h10
    refine r_lload (pc := 27) dJ9_floorDiv_f86c9_27 rfl ?_
    exact f_lret (pc := 29) dJ9_floorDiv_f86c9_29 rfl (by assumption) (by first | (rw [if_pos (by omega)] at F; exact hQ _ F) | (rw [if_neg (by omega)] at F; exact hQ _ F))
  rw [cmpZ_lt, xorL_sg hx hy] at h10
  refine r_lload (pc := 13) dJ9_floorDiv_f86c9_13 rfl ?_
  refine r_lload_n (pc := 15) dJ9_floorDiv_f86c9_15 rfl ?_
  refine r_lmul (pc := 16) dJ9_floorDiv_f86c9_16 ?_
  refine r_lload_n (pc := 17) dJ9_floorDiv_f86c9_17 rfl ?_
  refine r_lcmp (pc := 18) dJ9_floorDiv_f86c9_18 (by omega) (by omega) ?_
  refine r_ifeq (pc := 19) (tgt := 27) dJ9_floorDiv_f86c9_19 rfl (cmpZ_r _ _) (fun h19 => ?_) (fun h19 => ?_)
  · rw [cmpZ_eq] at h19
    refine r_lload (pc := 27) dJ9_floorDiv_f86c9_27 rfl ?_
    exact f_lret (pc := 29) dJ9_floorDiv_f86c9_29 rfl (by assumption) (by first | (rw [if_pos (by omega)] at F; exact hQ _ F) | (rw [if_neg (by omega)] at F; exact hQ _ F))
  rw [cmpZ_eq] at h19
  refine r_lload (pc := 22) dJ9_floorDiv_f86c9_22 rfl ?_
  refine r_lconst1 (pc := 24) dJ9_floorDiv_f86c9_24 ?_
  refine r_lsub (pc := 25) dJ9_floorDiv_f86c9_25 ?_
  exact f_lret (pc := 26) dJ9_floorDiv_f86c9_26 rfl (by assumption) (by first | (rw [if_pos (by omega)] at F; exact hQ _ F) | (rw [if_neg (by omega)] at F; exact hQ _ F))
set_option maxRecDepth 8000 in
theorem m_J9_floorMod_7cf53 {Q : Option AV → Wd → Prop} {w : Wd} (d : Nat) {x y : Int} (hd : 0 ≤ d) (hw : WR w) (hx : R32 x) (hy : R32 y) (hy0 : 0 < y) (hQ : ∀ r, r = x % y → R32 r → Q (some (vI r)) w) : M mJ9_floorMod_7cf53 (Rm d) [vI x, vI y] (fl w) (lQ Q) := by
  have F := fm_sg (x := x) hy0
  have B0 := Int.emod_nonneg x (show y ≠ 0 by omega)
  have B1 := Int.emod_lt_of_pos x hy0
  obtain ⟨b1, b2⟩ := tmod_bounds (a := x) hy0
  refine f_mofvF (L0 := [some (vI x), some (vI y), none]) (by decide +kernel) (Nat.le_of_ble_eq_true rfl) rfl ?_
  refine r_iload_n (pc := 0) dJ9_floorMod_7cf53_0 rfl ?_
  refine r_iload_n (pc := 1) dJ9_floorMod_7cf53_1 rfl ?_
  refine r_irem (pc := 2) dJ9_floorMod_7cf53_2 (by omega) (by omega) (by omega) ?_
  refine r_istore2 (pc := 3) dJ9_floorMod_7cf53_3 rfl ?_
  refine r_iload_n (pc := 4) dJ9_floorMod_7cf53_4 rfl ?_
  refine r_iload_n (pc := 5) dJ9_floorMod_7cf53_5 rfl ?_
  refine r_ixor (pc := 6) dJ9_floorMod_7cf53_6 ?_
  refine r_ifge (pc := 7) (tgt := 18) dJ9_floorMod_7cf53_7 rfl (xorI_r _ _) (fun h7 => ?_) (fun h7 => ?_)
  · rw [xorI_sg hx hy] at h7
    refine r_iload_n (pc := 18) dJ9_floorMod_7cf53_18 rfl ?_
    exact f_iret (pc := 19) dJ9_floorMod_7cf53_19 rfl (by assumption) (by first | (rw [if_pos (by omega)] at F; exact hQ _ F (by omega)) | (rw [if_neg (by omega)] at F; exact hQ _ F (by omega)))
  rw [xorI_sg hx hy] at h7
  refine r_iload_n (pc := 10) dJ9_floorMod_7cf53_10 rfl ?_
  refine r_ifeq (pc := 11) (tgt := 18) dJ9_floorMod_7cf53_11 rfl (by omega) (fun h11 => ?_) (fun h11 => ?_)
  · refine r_iload_n (pc := 18) dJ9_floorMod_7cf53_18 rfl ?_
    exact f_iret (pc := 19) dJ9_floorMod_7cf53_19 rfl (by assumption) (by first | (rw [if_pos (by omega)] at F; exact hQ _ F (by omega)) | (rw [if_neg (by omega)] at F; exact hQ _ F (by omega)))
  refine r_iload_n (pc := 14) dJ9_floorMod_7cf53_14 rfl ?_
  refine r_iload_n (pc := 15) dJ9_floorMod_7cf53_15 rfl ?_
  refine r_iadd (pc := 16) dJ9_floorMod_7cf53_16 ?_
  exact f_iret (pc := 17) dJ9_floorMod_7cf53_17 rfl (by assumption) (by first | (rw [if_pos (by omega)] at F; exact hQ _ F (by omega)) | (rw [if_neg (by omega)] at F; exact hQ _ F (by omega)))
set_option maxRecDepth 8000 in
theorem m_X11_within {Q : Option AV → Wd → Prop} {w : Wd} (d : Nat) {a b c : Int} (hd : 0 ≤ d) (hw : WR w) (ha : R32 a) (hb : R32 b) (hc : R32 c) (hQ : ∀ r, r = b2i (b ≤ a ∧ a ≤ c) → (r = 0 ∨ r = 1) → Q (some (vI r)) w) : M mX11_within (Rm d) [vI a, vI b, vI c] (fl w) (lQ Q) := by
  refine f_mofv (L0 := [some (vI a), some (vI b), some (vI c)]) rfl (Nat.le_of_ble_eq_true rfl) rfl ?_
  refine r_iload_n (pc := 0) dX11_within_0 rfl ?_
  refine r_iload_n (pc := 1) dX11_within_1 rfl ?_
  refine r_icmplt (pc := 2) (tgt := 14) dX11_within_2 rfl (by omega) (by omega) (fun h2 => ?_) (fun h2 => ?_)
  · refine r_iconst (pc := 14) (n := 0) dX11_within_14 ?_
    exact f_zret (pc := 15) dX11_within_15 rfl (by first | exact Or.inl rfl | exact Or.inr rfl | omega) (by assumption) (hQ _ (by unfold b2i; split <;> omega) (by omega))
  refine r_iload_n (pc := 5) dX11_within_5 rfl ?_
  refine r_iload_n (pc := 6) dX11_within_6 rfl ?_
  refine r_icmpgt (pc := 7) (tgt := 14) dX11_within_7 rfl (by omega) (by omega) (fun h7 => ?_) (fun h7 => ?_)
  · refine r_iconst (pc := 14) (n := 0) dX11_within_14 ?_
    exact f_zret (pc := 15) dX11_within_15 rfl (by first | exact Or.inl rfl | exact Or.inr rfl | omega) (by assumption) (hQ _ (by unfold b2i; split <;> omega) (by omega))
  refine r_iconst (pc := 10) (n := 1) dX11_within_10 ?_
  refine r_goto (pc := 11) (tgt := 15) dX11_within_11 rfl ?_
  exact f_zret (pc := 15) dX11_within_15 rfl (by first | exact Or.inl rfl | exact Or.inr rfl | omega) (by assumption) (hQ _ (by unfold b2i; split <;> omega) (by omega))
set_option maxRecDepth 8000 in
theorem m_X11_isRange {Q : Option AV → Wd → Prop} {w : Wd} (d : Nat) {a b c : Int} (hd : 0 ≤ d) (hw : WR w) (ha : R32 a) (hb : R32 b) (hc : R32 c) (hQ : ∀ r, r = b2i (0 ≤ a ∧ a ≤ b ∧ b ≤ c) → (r = 0 ∨ r = 1) → Q (some (vI r)) w) : M mX11_isRange (Rm d) [vI a, vI b, vI c] (fl w) (lQ Q) := by
  refine f_mofv (L0 := [some (vI a), some (vI b), some (vI c)]) rfl (Nat.le_of_ble_eq_true rfl) rfl ?_
  refine r_iload_n (pc := 0) dX11_isRange_0 rfl ?_
  refine r_iflt (pc := 1) (tgt := 18) dX11_isRange_1 rfl (by omega) (fun h1 => ?_) (fun h1 => ?_)
  · refine r_iconst (pc := 18) (n := 0) dX11_isRange_18 ?_
    exact f_zret (pc := 19) dX11_isRange_19 rfl (by first | exact Or.inl rfl | exact Or.inr rfl | omega) (by assumption) (hQ _ (by unfold b2i; split <;> omega) (by omega))
  refine r_iload_n (pc := 4) dX11_isRange_4 rfl ?_
  refine r_iload_n (pc := 5) dX11_isRange_5 rfl ?_
  refine r_icmpgt (pc := 6) (tgt := 18) dX11_isRange_6 rfl (by omega) (by omega) (fun h6 => ?_) (fun h6 => ?_)
  · refine r_iconst (pc := 18) (n := 0) dX11_isRange_18 ?_
    exact f_zret (pc := 19) dX11_isRange_19 rfl (by first | exact Or.inl rfl | exact Or.inr rfl | omega) (by assumption) (hQ _ (by unfold b2i; split <;> omega) (by omega))
  refine r_iload_n (pc := 9) dX11_isRange_9 rfl ?_
  refine r_iload_n (pc := 10) dX11_isRange_10 rfl ?_
  refine r_icmpgt (pc := 11) (tgt := 18) dX11_isRange_11 rfl (by omega) (by omega) (fun h11 => ?_) (fun h11 => ?_)
  · refine r_iconst (pc := 18) (n := 0) dX11_isRange_18 ?_
    exact f_zret (pc := 19) dX11_isRange_19 rfl (by first | exact Or.inl rfl | exact Or.inr rfl | omega) (by assumption) (hQ _ (by unfold b2i; split <;> omega) (by omega))
  refine r_iconst (pc := 14) (n := 1) dX11_isRange_14 ?_
  refine r_goto (pc := 15) (tgt := 19) dX11_isRange_15 rfl ?_
  exact f_zret (pc := 19) dX11_isRange_19 rfl (by first | exact Or.inl rfl | exact Or.inr rfl | omega) (by assumption) (hQ _ (by unfold b2i; split <;> omega) (by omega))
set_option maxRecDepth 8000 in
theorem m_X11_at {Q : Option AV → Wd → Prop} {w : Wd} (d : Nat) {a n : Nat} {j : Int} (hd : 0 ≤ d) (hw : WR w) (hs : sh a = 1000 + n) (hn : n < 19000) (hj : R32 j) (hQ : ∀ r, r = gA n w a j → R32 r → Q (some (vI r)) w) : M mX11_at (Rm d) [vR (some a), vI j] (fl w) (lQ Q) := by
  refine f_mofv (L0 := [some (vR (some a)), some (vI j)]) rfl (Nat.le_of_ble_eq_true rfl) rfl ?_
  refine r_iload_n (pc := 0) dX11_at_0 rfl ?_
  refine r_iflt (pc := 1) (tgt := 16) dX11_at_1 rfl (by omega) (fun h1 => ?_) (fun h1 => ?_)
  · refine r_iconst (pc := 16) (n := 0) dX11_at_16 ?_
    exact f_iret (pc := 17) dX11_at_17 rfl (by assumption) (hQ _ (by unfold gA; split <;> first | rfl | omega) (by omega))
  refine r_iload_n (pc := 4) dX11_at_4 rfl ?_
  refine r_aload_n (pc := 5) dX11_at_5 rfl ?_
  refine f_alenI (pc := 6) dX11_at_6 (by first | assumption | rfl) (by omega) ?_
  refine r_icmpge (pc := 7) (tgt := 16) dX11_at_7 rfl (by omega) (by omega) (fun h7 => ?_) (fun h7 => ?_)
  · refine r_iconst (pc := 16) (n := 0) dX11_at_16 ?_
    exact f_iret (pc := 17) dX11_at_17 rfl (by assumption) (hQ _ (by unfold gA; split <;> first | rfl | omega) (by omega))
  refine r_aload_n (pc := 10) dX11_at_10 rfl ?_
  refine r_iload_n (pc := 11) dX11_at_11 rfl ?_
  refine f_iald (pc := 12) dX11_at_12 (by assumption) (by first | assumption | rfl) (by omega) (by omega) (by omega) (fun h12 => ?_)
  refine r_goto (pc := 13) (tgt := 17) dX11_at_13 rfl ?_
  exact f_iret (pc := 17) dX11_at_17 rfl (by assumption) (hQ _ (by unfold gA; split <;> first | rfl | omega) (by omega))
set_option maxRecDepth 8000 in
theorem m_X11_put {Q : Option AV → Wd → Prop} {w : Wd} (d : Nat) {a n : Nat} {j x : Int} (hd : 0 ≤ d) (hw : WR w) (hs : sh a = 1000 + n) (hn : n < 19000) (hj : R32 j) (hx : R32 x) (hQ : ∀ w2, w2 = pA n w a j x → WR w2 → Q none w2) : M mX11_put (Rm d) [vR (some a), vI j, vI x] (fl w) (lQ Q) := by
  refine f_mofv (L0 := [some (vR (some a)), some (vI j), some (vI x)]) rfl (Nat.le_of_ble_eq_true rfl) rfl ?_
  refine r_iload_n (pc := 0) dX11_put_0 rfl ?_
  refine r_iflt (pc := 1) (tgt := 14) dX11_put_1 rfl (by omega) (fun h1 => ?_) (fun h1 => ?_)
  · exact f_vret (pc := 14) dX11_put_14 rfl (by assumption) (hQ _ (by unfold pA; split <;> first | rfl | omega) (by assumption))
  refine r_iload_n (pc := 4) dX11_put_4 rfl ?_
  refine r_aload_n (pc := 5) dX11_put_5 rfl ?_
  refine f_alenI (pc := 6) dX11_put_6 (by first | assumption | rfl) (by omega) ?_
  refine r_icmpge (pc := 7) (tgt := 14) dX11_put_7 rfl (by omega) (by omega) (fun h7 => ?_) (fun h7 => ?_)
  · exact f_vret (pc := 14) dX11_put_14 rfl (by assumption) (hQ _ (by unfold pA; split <;> first | rfl | omega) (by assumption))
  refine r_aload_n (pc := 10) dX11_put_10 rfl ?_
  refine r_iload_n (pc := 11) dX11_put_11 rfl ?_
  refine r_iload_n (pc := 12) dX11_put_12 rfl ?_
  refine f_iast (pc := 13) dX11_put_13 (by assumption) (by first | assumption | rfl) (by omega) (by omega) (by omega) (by omega) (fun hw13 => ?_)
  exact f_vret (pc := 14) dX11_put_14 rfl (by assumption) (hQ _ (by unfold pA; split <;> first | rfl | omega) (by assumption))
set_option maxRecDepth 8000 in
theorem m_X11_stepsIn {Q : Option AV → Wd → Prop} {w : Wd} (d : Nat) {a b c : Int} (hd : 0 ≤ d) (hw : WR w) (ha : 0 ≤ a ∧ a ≤ b) (hb : b ≤ 1000) (hc : 1 ≤ c ∧ c ≤ 1000) (hQ : ∀ r, r = (b - a) / c + 1 → 1 ≤ r → r ≤ 1001 → Q (some (vI r)) w) : M mX11_stepsIn (Rm d) [vI a, vI b, vI c] (fl w) (lQ Q) := by
  have E : (b - a).tdiv c = (b - a) / c := Int.tdiv_eq_ediv_of_nonneg (by omega)
  have B1 : 0 ≤ (b - a) / c := (Int.le_ediv_iff_mul_le (by omega)).mpr (by omega)
  have B2 : (b - a) / c < 1001 := (Int.ediv_lt_iff_lt_mul (by omega)).mpr (by have : 1001 * 1 ≤ 1001 * c := Int.mul_le_mul_of_nonneg_left (by omega) (by omega); omega)
  refine f_mofv (L0 := [some (vI a), some (vI b), some (vI c)]) rfl (Nat.le_of_ble_eq_true rfl) rfl ?_
  refine r_iload_n (pc := 0) dX11_stepsIn_0 rfl ?_
  refine r_ifle (pc := 1) (tgt := 14) dX11_stepsIn_1 rfl (by omega) (fun h1 => ?_) (fun h1 => ?_)
  · exact absurd h1 (by omega) --stop
  refine r_iload_n (pc := 4) dX11_stepsIn_4 rfl ?_
  refine r_iload_n (pc := 5) dX11_stepsIn_5 rfl ?_
  refine r_isub (pc := 6) dX11_stepsIn_6 ?_
  refine r_iload_n (pc := 7) dX11_stepsIn_7 rfl ?_
  refine r_idiv (pc := 8) dX11_stepsIn_8 (by omega) (by omega) (by omega) ?_
  refine r_iconst (pc := 9) (n := 1) dX11_stepsIn_9 ?_
  refine r_iadd (pc := 10) dX11_stepsIn_10 ?_
  refine r_goto (pc := 11) (tgt := 15) dX11_stepsIn_11 rfl ?_
  exact f_iret (pc := 15) dX11_stepsIn_15 rfl (by assumption) (hQ _ (by omega) (by omega) (by omega))
set_option maxRecDepth 8000 in
theorem m_X11_round {Q : Option AV → Wd → Prop} {w : Wd} (d : Nat) {n m : Int} (hd : 1 ≤ d) (hw : WR w) (hm : -4611686018427387904 ≤ m ∧ m < 4611686018427387904) (hQ : ∀ r, r = rndW n m → Q (some (vL r)) w) : M mX11_round (Rm d) [vL n, vL m] (fl w) (lQ Q) := by
  refine f_mofv (L0 := [some (vL n), none, some (vL m), none]) rfl (Nat.le_of_ble_eq_true rfl) rfl ?_
  refine r_lload_n (pc := 0) dX11_round_0 rfl ?_
  refine r_lconst0 (pc := 1) dX11_round_1 ?_
  refine r_lcmp (pc := 2) dX11_round_2 (by omega) (by omega) ?_
  refine r_ifle (pc := 3) (tgt := 24) dX11_round_3 rfl (cmpZ_r _ _) (fun h3 => ?_) (fun h3 => ?_)
  · rw [cmpZ_gt] at h3
    refine r_lconst0 (pc := 24) dX11_round_24 ?_
    exact f_lret (pc := 25) dX11_round_25 rfl (by assumption) (hQ _ (by unfold rndW; split <;> first | rfl | omega))
  rw [cmpZ_gt] at h3
  refine r_ldc2 (pc := 6) (n := 2) dX11_round_6 kw_X11_278 rfl ?_
  refine r_lload_n (pc := 9) dX11_round_9 rfl ?_
  refine r_lmul (pc := 10) dX11_round_10 ?_
  refine r_lload_n (pc := 11) dX11_round_11 rfl ?_
  refine r_ladd (pc := 12) dX11_round_12 ?_
  refine rep_L (y := w64 (2 * n + m)) (zl_w64 _) ?_
  have W6 := w64_r (2 * n + m)
  refine r_ldc2 (pc := 13) (n := 2) dX11_round_13 kw_X11_278 rfl ?_
  refine r_lload_n (pc := 16) dX11_round_16 rfl ?_
  refine r_lmul (pc := 17) dX11_round_17 ?_
  refine c_X11_280 (pc := 18) rfl dX11_round_18 (by omega) (Nat.le_of_ble_eq_true rfl) ?_
  refine m_J9_floorDiv_f86c9 (d - 1) (by omega) (by assumption) (by omega) (by omega) (by omega) (fun r18 e18 => ?_)
  refine r_goto (pc := 21) (tgt := 25) dX11_round_21 rfl ?_
  exact f_lret (pc := 25) dX11_round_25 rfl (by assumption) (hQ _ (by unfold rndW; split <;> first | rfl | omega))
set_option maxRecDepth 8000 in
theorem m_X11_limited {Q : Option AV → Wd → Prop} {w : Wd} (d : Nat) {x m : Int} (hd : 1 ≤ d) (hw : WR w) (hx : R64 x) (hm : 0 ≤ m ∧ m < 2147483648) (hQ : ∀ r, r = lim x m → -m ≤ r ∧ r ≤ m → Q (some (vI r)) w) : M mX11_limited (Rm d) [vL x, vI m] (fl w) (lQ Q) := by
  refine f_mofv (L0 := [some (vL x), none, some (vI m)]) rfl (Nat.le_of_ble_eq_true rfl) rfl ?_
  refine r_iload_n (pc := 0) dX11_limited_0 rfl ?_
  refine r_ineg (pc := 1) dX11_limited_1 ?_
  refine r_i2l (pc := 2) dX11_limited_2 (by first | assumption | omega) ?_
  refine r_iload_n (pc := 3) dX11_limited_3 rfl ?_
  refine r_i2l (pc := 4) dX11_limited_4 (by first | assumption | omega) ?_
  refine r_lload_n (pc := 5) dX11_limited_5 rfl ?_
  refine c_X11_284 (pc := 6) rfl dX11_limited_6 (by omega) (Nat.le_of_ble_eq_true rfl) ?_
  refine m_J9_min_f86c9 (d - 1) (by omega) (by assumption) (by omega) (by omega) (fun r6 e6 b6 => ?_)
  refine c_X11_286 (pc := 9) rfl dX11_limited_9 (by omega) (Nat.le_of_ble_eq_true rfl) ?_
  refine m_J9_max_f86c9 (d - 1) (by omega) (by assumption) (by omega) (by omega) (fun r9 e9 b9 => ?_)
  refine r_l2i (pc := 12) dX11_limited_12 ?_
  exact f_iret (pc := 13) dX11_limited_13 rfl (by assumption) (hQ _ (by unfold lim; split <;> (try split) <;> omega) (by omega))
set_option maxRecDepth 8000 in
theorem m_X11_nearestValue {Q : Option AV → Wd → Prop} {w : Wd} (d : Nat) {x : Int} (hd : 2 ≤ d) (hw : WR w) (hx : R32 x) (hQ : ∀ r, r = lim (rndW x 64) 999 → -999 ≤ r ∧ r ≤ 999 → Q (some (vI r)) w) : M mX11_nearestValue (Rm d) [vI x] (fl w) (lQ Q) := by
  refine f_mofv (L0 := [some (vI x)]) rfl (Nat.le_of_ble_eq_true rfl) rfl ?_
  refine r_iload_n (pc := 0) dX11_nearestValue_0 rfl ?_
  refine r_i2l (pc := 1) dX11_nearestValue_1 (by first | assumption | omega) ?_
  refine r_ldc2 (pc := 2) (n := 64) dX11_nearestValue_2 kw_X11_289 rfl ?_
  refine c_X11_291 (pc := 5) rfl dX11_nearestValue_5 (by omega) (Nat.le_of_ble_eq_true rfl) ?_
  refine m_X11_round (d - 1) (by omega) (by assumption) (by omega) (fun r5 e5 => ?_)
  have R5 : R64 r5 := by rw [e5]; exact rndW_r _ _
  refine r_sipush (pc := 8) (n := 999) dX11_nearestValue_8 (by decide) ?_
  refine c_X11_294 (pc := 11) rfl dX11_nearestValue_11 (by omega) (Nat.le_of_ble_eq_true rfl) ?_
  refine m_X11_limited (d - 1) (by omega) (by assumption) (by omega) (by omega) (fun r11 e11 b11 => ?_)
  exact f_iret (pc := 14) dX11_nearestValue_14 rfl (by assumption) (hQ _ (by rw [← e5]; assumption) (by assumption))
set_option maxRecDepth 8000 in
theorem m_X11_copyRow {Q : Option AV → Wd → Prop} {w : Wd} (d : Nat) {a b n : Nat} (hd : 1 ≤ d) (hw : WR w) (ha : sh a = 1000 + n) (hb : sh b = 1000 + n) (hn : n < 19000) (hQ : ∀ w2, w2 = upr w a b n → WR w2 → Q none w2) : M mX11_copyRow (Rm d) [vR (some a), vR (some b)] (fl w) (lQ Q) := by
  refine f_mofv (L0 := [some (vR (some a)), some (vR (some b))]) rfl (Nat.le_of_ble_eq_true rfl) rfl ?_
  refine r_aload_n (pc := 0) dX11_copyRow_0 rfl ?_
  refine r_iconst (pc := 1) (n := 0) dX11_copyRow_1 ?_
  refine r_aload_n (pc := 2) dX11_copyRow_2 rfl ?_
  refine r_iconst (pc := 3) (n := 0) dX11_copyRow_3 ?_
  refine r_aload_n (pc := 4) dX11_copyRow_4 rfl ?_
  refine f_alenI (pc := 5) dX11_copyRow_5 (by first | assumption | rfl) (by omega) ?_
  refine r_aload_n (pc := 6) dX11_copyRow_6 rfl ?_
  refine f_alenI (pc := 7) dX11_copyRow_7 (by first | assumption | rfl) (by omega) ?_
  refine c_X11_207 (pc := 8) rfl dX11_copyRow_8 (by omega) (Nat.le_of_ble_eq_true rfl) ?_
  refine m_J9_min_7cf53 (d - 1) (by omega) (by assumption) (by omega) (by omega) (fun r8 e8 b8 => ?_)
  have E : r8 = (n : Int) := by omega
  subst E
  refine f_copy (pc := 11) (n := n) dX11_copyRow_11 (gw_t 318 (by decide +kernel) (by decide +kernel)) (gw_t 320 (by decide +kernel) (by decide +kernel)) (gw_t 319 (by decide +kernel) (by decide +kernel)) (gw_t 15 (by decide +kernel) (by decide +kernel)) (by assumption) (by assumption) (by assumption) (by omega) (by omega) (fun hw11 => ?_) (Nat.le_of_ble_eq_true rfl)
  exact f_vret (pc := 14) dX11_copyRow_14 rfl (by assumption) (hQ _ rfl (by assumption))
set_option maxRecDepth 8000 in
theorem m_X12_in {Q : Option AV → Wd → Prop} {w : Wd} (d : Nat) {a b c : Int} (hd : 0 ≤ d) (hw : WR w) (ha : R32 a) (hb : R32 b) (hc : R32 c) (hQ : ∀ r, r = b2i (b ≤ a ∧ a ≤ c) → (r = 0 ∨ r = 1) → Q (some (vI r)) w) : M mX12_in (Rm d) [vI a, vI b, vI c] (fl w) (lQ Q) := by
  refine f_mofv (L0 := [some (vI a), some (vI b), some (vI c)]) rfl (Nat.le_of_ble_eq_true rfl) rfl ?_
  refine r_iload_n (pc := 0) dX12_in_0 rfl ?_
  refine r_iload_n (pc := 1) dX12_in_1 rfl ?_
  refine r_icmplt (pc := 2) (tgt := 14) dX12_in_2 rfl (by omega) (by omega) (fun h2 => ?_) (fun h2 => ?_)
  · refine r_iconst (pc := 14) (n := 0) dX12_in_14 ?_
    exact f_zret (pc := 15) dX12_in_15 rfl (by first | exact Or.inl rfl | exact Or.inr rfl | omega) (by assumption) (hQ _ (by unfold b2i; split <;> omega) (by omega))
  refine r_iload_n (pc := 5) dX12_in_5 rfl ?_
  refine r_iload_n (pc := 6) dX12_in_6 rfl ?_
  refine r_icmpgt (pc := 7) (tgt := 14) dX12_in_7 rfl (by omega) (by omega) (fun h7 => ?_) (fun h7 => ?_)
  · refine r_iconst (pc := 14) (n := 0) dX12_in_14 ?_
    exact f_zret (pc := 15) dX12_in_15 rfl (by first | exact Or.inl rfl | exact Or.inr rfl | omega) (by assumption) (hQ _ (by unfold b2i; split <;> omega) (by omega))
  refine r_iconst (pc := 10) (n := 1) dX12_in_10 ?_
  refine r_goto (pc := 11) (tgt := 15) dX12_in_11 rfl ?_
  exact f_zret (pc := 15) dX12_in_15 rfl (by first | exact Or.inl rfl | exact Or.inr rfl | omega) (by assumption) (hQ _ (by unfold b2i; split <;> omega) (by omega))
set_option maxRecDepth 8000 in
theorem m_X12_most {Q : Option AV → Wd → Prop} {w : Wd} (d : Nat) {x y : Int} (hd : 0 ≤ d) (hw : WR w) (hx : R32 x) (hy : R32 y) (hQ : ∀ r, r = max x y → R32 r → Q (some (vI r)) w) : M mX12_most (Rm d) [vI x, vI y] (fl w) (lQ Q) := by
  refine f_mofv (L0 := [some (vI x), some (vI y)]) rfl (Nat.le_of_ble_eq_true rfl) rfl ?_
  refine r_iload_n (pc := 0) dX12_most_0 rfl ?_
  refine r_iload_n (pc := 1) dX12_most_1 rfl ?_
  refine r_icmple (pc := 2) (tgt := 9) dX12_most_2 rfl (by omega) (by omega) (fun h2 => ?_) (fun h2 => ?_)
  · refine r_iload_n (pc := 9) dX12_most_9 rfl ?_
    exact f_iret (pc := 10) dX12_most_10 rfl (by assumption) (hQ _ (by omega) (by omega))
  refine r_iload_n (pc := 5) dX12_most_5 rfl ?_
  refine r_goto (pc := 6) (tgt := 10) dX12_most_6 rfl ?_
  exact f_iret (pc := 10) dX12_most_10 rfl (by assumption) (hQ _ (by omega) (by omega))
set_option maxRecDepth 8000 in
theorem m_X12_least {Q : Option AV → Wd → Prop} {w : Wd} (d : Nat) {x y : Int} (hd : 0 ≤ d) (hw : WR w) (hx : R32 x) (hy : R32 y) (hQ : ∀ r, r = min x y → R32 r → Q (some (vI r)) w) : M mX12_least (Rm d) [vI x, vI y] (fl w) (lQ Q) := by
  refine f_mofv (L0 := [some (vI x), some (vI y)]) rfl (Nat.le_of_ble_eq_true rfl) rfl ?_
  refine r_iload_n (pc := 0) dX12_least_0 rfl ?_
  refine r_iload_n (pc := 1) dX12_least_1 rfl ?_
  refine r_icmpge (pc := 2) (tgt := 9) dX12_least_2 rfl (by omega) (by omega) (fun h2 => ?_) (fun h2 => ?_)
  · refine r_iload_n (pc := 9) dX12_least_9 rfl ?_
    exact f_iret (pc := 10) dX12_least_10 rfl (by assumption) (hQ _ (by omega) (by omega))
  refine r_iload_n (pc := 5) dX12_least_5 rfl ?_
  refine r_goto (pc := 6) (tgt := 10) dX12_least_6 rfl ?_
  exact f_iret (pc := 10) dX12_least_10 rfl (by assumption) (hQ _ (by omega) (by omega))
set_option maxRecDepth 8000 in
theorem m_X12_bound {Q : Option AV → Wd → Prop} {w : Wd} (d : Nat) {x m : Int} (hd : 0 ≤ d) (hw : WR w) (hx : R64 x) (hm : 0 ≤ m ∧ m < 2147483648) (hQ : ∀ r, r = lim x m → -m ≤ r ∧ r ≤ m → Q (some (vI r)) w) : M mX12_bound (Rm d) [vL x, vI m] (fl w) (lQ Q) := by
  refine f_mofv (L0 := [some (vL x), none, some (vI m)]) rfl (Nat.le_of_ble_eq_true rfl) rfl ?_
  refine r_lload_n (pc := 0) dX12_bound_0 rfl ?_
  refine r_iload_n (pc := 1) dX12_bound_1 rfl ?_
  refine r_i2l (pc := 2) dX12_bound_2 (by first | assumption | omega) ?_
  refine r_lcmp (pc := 3) dX12_bound_3 (by omega) (by omega) ?_
  refine r_ifle (pc := 4) (tgt := 11) dX12_bound_4 rfl (cmpZ_r _ _) (fun h4 => ?_) (fun h4 => ?_)
  · rw [cmpZ_gt] at h4
    refine r_lload_n (pc := 11) dX12_bound_11 rfl ?_
    refine r_iload_n (pc := 12) dX12_bound_12 rfl ?_
    refine r_ineg (pc := 13) dX12_bound_13 ?_
    refine r_i2l (pc := 14) dX12_bound_14 (by first | assumption | omega) ?_
    refine r_lcmp (pc := 15) dX12_bound_15 (by omega) (by omega) ?_
    refine r_ifge (pc := 16) (tgt := 24) dX12_bound_16 rfl (cmpZ_r _ _) (fun h16 => ?_) (fun h16 => ?_)
    · rw [cmpZ_lt] at h16
      refine r_lload_n (pc := 24) dX12_bound_24 rfl ?_
      refine r_l2i (pc := 25) dX12_bound_25 ?_
      exact f_iret (pc := 26) dX12_bound_26 rfl (by assumption) (hQ _ (by unfold lim; split <;> (try split) <;> omega) (by omega))
    rw [cmpZ_lt] at h16
    refine r_iload_n (pc := 19) dX12_bound_19 rfl ?_
    refine r_ineg (pc := 20) dX12_bound_20 ?_
    refine r_goto (pc := 21) (tgt := 26) dX12_bound_21 rfl ?_
    exact f_iret (pc := 26) dX12_bound_26 rfl (by assumption) (hQ _ (by unfold lim; split <;> (try split) <;> omega) (by omega))
  rw [cmpZ_gt] at h4
  refine r_iload_n (pc := 7) dX12_bound_7 rfl ?_
  refine r_goto (pc := 8) (tgt := 26) dX12_bound_8 rfl ?_
  exact f_iret (pc := 26) dX12_bound_26 rfl (by assumption) (hQ _ (by unfold lim; split <;> (try split) <;> omega) (by omega))
set_option maxRecDepth 8000 in
theorem m_X12_size {Q : Option AV → Wd → Prop} {w : Wd} (d : Nat) {x : Int} (hd : 0 ≤ d) (hw : WR w) (hx : -2147483647 ≤ x ∧ x < 2147483648) (hQ : ∀ r, r = (x.natAbs : Int) → R32 r → Q (some (vI r)) w) : M mX12_size (Rm d) [vI x] (fl w) (lQ Q) := by
  refine f_mofv (L0 := [some (vI x)]) rfl (Nat.le_of_ble_eq_true rfl) rfl ?_
  refine r_iload_n (pc := 0) dX12_size_0 rfl ?_
  refine r_ifge (pc := 1) (tgt := 9) dX12_size_1 rfl (by omega) (fun h1 => ?_) (fun h1 => ?_)
  · refine r_iload_n (pc := 9) dX12_size_9 rfl ?_
    exact f_iret (pc := 10) dX12_size_10 rfl (by assumption) (hQ _ (by omega) (by omega))
  refine r_iload_n (pc := 4) dX12_size_4 rfl ?_
  refine r_ineg (pc := 5) dX12_size_5 ?_
  refine r_goto (pc := 6) (tgt := 10) dX12_size_6 rfl ?_
  exact f_iret (pc := 10) dX12_size_10 rfl (by assumption) (hQ _ (by omega) (by omega))
set_option maxRecDepth 8000 in
theorem m_X12_down {Q : Option AV → Wd → Prop} {w : Wd} (d : Nat) {x y : Int} (hd : 0 ≤ d) (hw : WR w) (hx : R64 x) (hy : R64 y) (hy0 : 0 < y) (hQ : ∀ r, r = x / y → Q (some (vL r)) w) : M mX12_down (Rm d) [vL x, vL y] (fl w) (lQ Q) := by
  have F := fd_mod (x := x) hy0
  obtain ⟨b1, b2⟩ := tmod_bounds (a := x) hy0
  refine f_mofv (L0 := [some (vL x), none, some (vL y), none, none, none]) rfl (Nat.le_of_ble_eq_true rfl) rfl ?_
  refine r_lload_n (pc := 0) dX12_down_0 rfl ?_
  refine r_lload_n (pc := 1) dX12_down_1 rfl ?_
  refine r_ldiv (pc := 2) dX12_down_2 (by omega) (by omega) (by omega) ?_
  refine r_lstore4 (pc := 3) dX12_down_3 rfl ?_
  refine r_lload_n (pc := 5) dX12_down_5 rfl ?_
  refine r_lload_n (pc := 6) dX12_down_6 rfl ?_
  refine r_lrem (pc := 7) dX12_down_7 (by omega) (by omega) (by omega) ?_
  refine r_lconst0 (pc := 8) dX12_down_8 ?_
  refine r_lcmp (pc := 9) dX12_down_9 (by omega) (by omega) ?_
  refine r_ifge (pc := 10) (tgt := 20) dX12_down_10 rfl (cmpZ_r _ _) (fun h10 => ?_) (fun h10 => ?_)
  · rw [cmpZ_lt] at h10
    refine r_lload (pc := 20) dX12_down_20 rfl ?_
    exact f_lret (pc := 22) dX12_down_22 rfl (by assumption) (by first | (rw [if_pos (by omega)] at F; exact hQ _ F) | (rw [if_neg (by omega)] at F; exact hQ _ F))
  rw [cmpZ_lt] at h10
  refine r_lload (pc := 13) dX12_down_13 rfl ?_
  refine r_lconst1 (pc := 15) dX12_down_15 ?_
  refine r_lsub (pc := 16) dX12_down_16 ?_
  refine r_goto (pc := 17) (tgt := 22) dX12_down_17 rfl ?_
  exact f_lret (pc := 22) dX12_down_22 rfl (by assumption) (by first | (rw [if_pos (by omega)] at F; exact hQ _ F) | (rw [if_neg (by omega)] at F; exact hQ _ F))
set_option maxRecDepth 8000 in
theorem m_X12_round {Q : Option AV → Wd → Prop} {w : Wd} (d : Nat) {n m : Int} (hd : 1 ≤ d) (hw : WR w) (hm : 0 < m ∧ m < 4611686018427387904) (hQ : ∀ r, r = rndW n m → Q (some (vL r)) w) : M mX12_round (Rm d) [vL n, vL m] (fl w) (lQ Q) := by
  refine f_mofv (L0 := [some (vL n), none, some (vL m), none]) rfl (Nat.le_of_ble_eq_true rfl) rfl ?_
  refine r_ldc2 (pc := 0) (n := 2) dX12_round_0 kw_X12_60 rfl ?_
  refine r_lload_n (pc := 3) dX12_round_3 rfl ?_
  refine r_lmul (pc := 4) dX12_round_4 ?_
  refine r_lload_n (pc := 5) dX12_round_5 rfl ?_
  refine r_ladd (pc := 6) dX12_round_6 ?_
  refine rep_L (y := w64 (2 * n + m)) (zl_w64 _) ?_
  have W6 := w64_r (2 * n + m)
  refine r_ldc2 (pc := 7) (n := 2) dX12_round_7 kw_X12_60 rfl ?_
  refine r_lload_n (pc := 10) dX12_round_10 rfl ?_
  refine r_lmul (pc := 11) dX12_round_11 ?_
  refine c_X12_62 (pc := 12) rfl dX12_round_12 (by omega) (Nat.le_of_ble_eq_true rfl) ?_
  refine m_X12_down (d - 1) (by omega) (by assumption) (by omega) (by omega) (by omega) (fun r12 e12 => ?_)
  exact f_lret (pc := 15) dX12_round_15 rfl (by assumption) (hQ _ (by unfold rndW; rw [if_pos hm.1]; assumption))
set_option maxRecDepth 8000 in
theorem m_X12_at {Q : Option AV → Wd → Prop} {w : Wd} (d : Nat) {x y z : Int} (hd : 0 ≤ d) (hw : WR w) (hQ : ∀ r, r = 128 * x + y + z → Q (some (vI r)) w) : M mX12_at (Rm d) [vI x, vI y, vI z] (fl w) (lQ Q) := by
  refine f_mofv (L0 := [some (vI x), some (vI y), some (vI z)]) rfl (Nat.le_of_ble_eq_true rfl) rfl ?_
  refine r_sipush (pc := 0) (n := 128) dX12_at_0 (by decide) ?_
  refine r_iload_n (pc := 3) dX12_at_3 rfl ?_
  refine r_imul (pc := 4) dX12_at_4 ?_
  refine r_iload_n (pc := 5) dX12_at_5 rfl ?_
  refine r_iadd (pc := 6) dX12_at_6 ?_
  refine r_iload_n (pc := 7) dX12_at_7 rfl ?_
  refine r_iadd (pc := 8) dX12_at_8 ?_
  exact f_iret (pc := 9) dX12_at_9 rfl (by assumption) (hQ _ (by omega))
set_option maxRecDepth 8000 in
theorem m_X12_isCurve {Q : Option AV → Wd → Prop} {w : Wd} (d : Nat) {x : Int} (hd : 1 ≤ d) (hw : WR w) (hx : R32 x) (hQ : ∀ r, r = b2i (0 ≤ x ∧ x ≤ 3) → (r = 0 ∨ r = 1) → Q (some (vI r)) w) : M mX12_isCurve (Rm d) [vI x] (fl w) (lQ Q) := by
  refine f_mofv (L0 := [some (vI x)]) rfl (Nat.le_of_ble_eq_true rfl) rfl ?_
  refine r_iload_n (pc := 0) dX12_isCurve_0 rfl ?_
  refine r_iconst (pc := 1) (n := 0) dX12_isCurve_1 ?_
  refine r_iconst (pc := 2) (n := 3) dX12_isCurve_2 ?_
  refine c_X12_66 (pc := 3) rfl dX12_isCurve_3 (by omega) (Nat.le_of_ble_eq_true rfl) ?_
  refine m_X12_in (d - 1) (by omega) (by assumption) (by omega) (by omega) (by omega) (fun r3 e3 b3 => ?_)
  exact f_zret (pc := 6) dX12_isCurve_6 rfl (by first | exact Or.inl rfl | exact Or.inr rfl | omega) (by assumption) (hQ _ (by assumption) (by assumption))
set_option maxRecDepth 8000 in
theorem m_X12_inUnits {Q : Option AV → Wd → Prop} {w : Wd} (d : Nat) {x : Int} (hd : 2 ≤ d) (hw : WR w) (hQ : ∀ r, r = lim (rndW x 64) 999 → -999 ≤ r ∧ r ≤ 999 → Q (some (vI r)) w) : M mX12_inUnits (Rm d) [vL x] (fl w) (lQ Q) := by
  refine f_mofv (L0 := [some (vL x), none]) rfl (Nat.le_of_ble_eq_true rfl) rfl ?_
  refine r_lload_n (pc := 0) dX12_inUnits_0 rfl ?_
  refine r_ldc2 (pc := 1) (n := 64) dX12_inUnits_1 kw_X12_91 rfl ?_
  refine c_X12_93 (pc := 4) rfl dX12_inUnits_4 (by omega) (Nat.le_of_ble_eq_true rfl) ?_
  refine m_X12_round (d - 1) (by omega) (by assumption) (by omega) (fun r4 e4 => ?_)
  have R4 : R64 r4 := by rw [e4]; exact rndW_r _ _
  refine r_sipush (pc := 7) (n := 999) dX12_inUnits_7 (by decide) ?_
  refine c_X12_108 (pc := 10) rfl dX12_inUnits_10 (by omega) (Nat.le_of_ble_eq_true rfl) ?_
  refine m_X12_bound (d - 1) (by omega) (by assumption) (by omega) (by omega) (fun r10 e10 b10 => ?_)
  exact f_iret (pc := 13) dX12_inUnits_13 rfl (by assumption) (hQ _ (by rw [← e4]; assumption) (by assumption))
set_option maxRecDepth 8000 in
theorem m_X12_more {Q : Option AV → Wd → Prop} {w : Wd} (d : Nat) {x y : Int} (hd : 0 ≤ d) (hw : WR w) (hy : R32 y) (hQ : ∀ r, r = 31 * x + y → Q (some (vL r)) w) : M mX12_more (Rm d) [vL x, vI y] (fl w) (lQ Q) := by
  refine f_mofv (L0 := [some (vL x), none, some (vI y)]) rfl (Nat.le_of_ble_eq_true rfl) rfl ?_
  refine r_ldc2 (pc := 0) (n := 31) dX12_more_0 kw_X12_292 rfl ?_
  refine r_lload_n (pc := 3) dX12_more_3 rfl ?_
  refine r_lmul (pc := 4) dX12_more_4 ?_
  refine r_iload_n (pc := 5) dX12_more_5 rfl ?_
  refine r_i2l (pc := 6) dX12_more_6 (by first | assumption | omega) ?_
  refine r_ladd (pc := 7) dX12_more_7 ?_
  exact f_lret (pc := 8) dX12_more_8 rfl (by assumption) (hQ _ (by omega))
