/-! digests; the map -/
def curHk (h : Int) (X : CP) : Nat → Int
  | 0 => 31 * h + X 0 0
  | k + 1 => 31 * (31 * (31 * (31 * (31 * curHk h X k + X 1 k) + X 2 k) + X 3 k) + slp X k 0) + slp X k 1
def curHv (h : Int) (X : CP) : Nat → Int
  | 0 => 31 * curHk h X (X 0 0).toNat + (10 * X 0 1 + X 0 2)
  | i + 1 => 31 * curHv h X i + valS X (60 * i)
def curH (h : Int) (X : CP) : Int := if 0 < X 0 0 then curHv h X 17 else curHv h X 0
theorem curHv_0 {h : Int} {X : CP} {k : Nat} (hk : (k : Int) = X 0 0) : 31 * curHk h X k + (10 * X 0 1 + X 0 2) = curHv h X 0 := by
  unfold curHv
  rw [show k = (X 0 0).toNat by omega]
theorem curHv_s {h : Int} {X : CP} {i : Nat} : 31 * curHv h X i + valS X (60 * i) = curHv h X (i + 1) := rfl
theorem curH_p {h : Int} {X : CP} (h0 : 0 < X 0 0) : curHv h X 17 = curH h X := (if_pos h0).symm
theorem curH_z {h : Int} {X : CP} {k : Nat} (hk : (k : Int) = X 0 0) (h0 : X 0 0 ≤ 0) : 31 * curHk h X k + (10 * X 0 1 + X 0 2) = curH h X := (curHv_0 hk).trans (if_neg (show ¬ 0 < X 0 0 by omega)).symm
theorem sh_map0 : ∀ c, c < 402 → sh c = 10 → (sh (c + 1) = 1000 + 8 ∧ sh (c + 2) = 1000 + 8) := by decide +kernel
theorem sh_map {c : Nat} (h : sh c = 10) : sh (c + 1) = 1000 + 8 ∧ sh (c + 2) = 1000 + 8 := by
  have h1 := sh_in h (by decide) (by decide)
  exact sh_map0 c (by omega) h
def MI (n : Int) (s t : Int → Int) : Prop := 0 ≤ n ∧ n ≤ 8 ∧ (∀ j, 0 ≤ j → j < n → 0 ≤ s j ∧ s j ≤ 480 ∧ 0 ≤ t j ∧ t j ≤ 480) ∧ (∀ i j, 0 ≤ i → i < j → j < n → s i < s j ∧ t i < t j)
def sndS (n : Int) (s t : Int → Int) (f : Int) : Int := if n = 0 then f else if kb s f n.toNat = 0 then f + t 0 - s 0 else if kb s f n.toNat = n then f + t (n - 1) - s (n - 1) else t (kb s f n.toNat - 1) + rdi ((f - s (kb s f n.toNat - 1)) * (t (kb s f n.toNat) - t (kb s f n.toNat - 1))) (s (kb s f n.toNat) - s (kb s f n.toNat - 1))
def strS (n : Int) (s t : Int → Int) (x f o : Int) : Int := if kb s (f + o) n.toNat = 0 ∨ kb s (f + o) n.toNat = n then x else lim (rndW (x * (s (kb s (f + o) n.toNat) - s (kb s (f + o) n.toNat - 1))) (t (kb s (f + o) n.toNat) - t (kb s (f + o) n.toNat - 1))) 9999
def mapH (h n : Int) (s t : Int → Int) : Nat → Int
  | 0 => 31 * h + n
  | k + 1 => 31 * (31 * mapH h n s t k + s k) + t k
theorem kbN_of {n r t : Int} {f : Int → Int} (hn : 0 ≤ n) (h : KB n f t r) : r = kb f t n.toNat := by
  have h2 := kb_KB f t n.toNat
  rw [show ((n.toNat : Nat) : Int) = n by omega] at h2
  exact KB_one h h2
theorem sndS_end {n b k f : Int} {s t : Int → Int} (hn : n ≠ 0) (hb : b = kb s f n.toNat) (hk : b = 0 ∧ k = 0 ∨ b ≠ 0 ∧ b = n ∧ k = n - 1) : sndS n s t f = f + t k - s k := by
  unfold sndS
  rw [if_neg hn, ← hb]
  rcases hk with ⟨h1, h2⟩ | ⟨h1, h2, h3⟩
  · rw [if_pos h1, h2]
  · rw [if_neg h1, if_pos h2, h3]
theorem sndS_mid {n b f : Int} {s t : Int → Int} (hn : n ≠ 0) (hb : b = kb s f n.toNat) (h : b ≠ 0 ∧ b ≠ n) : sndS n s t f = t (b - 1) + rdi ((f - s (b - 1)) * (t b - t (b - 1))) (s b - s (b - 1)) := by
  unfold sndS
  rw [if_neg hn, ← hb, if_neg h.1, if_neg h.2]
theorem strS_end {n b x f o : Int} {s t : Int → Int} (hb : b = kb s (f + o) n.toNat) (h : b = 0 ∨ b = n) : strS n s t x f o = x := by
  unfold strS
  rw [← hb, if_pos h]
theorem strS_mid {n b x f o : Int} {s t : Int → Int} (hb : b = kb s (f + o) n.toNat) (h : b ≠ 0 ∧ b ≠ n) : strS n s t x f o = lim (rndW (x * (s b - s (b - 1))) (t b - t (b - 1))) 9999 := by
  unfold strS
  rw [← hb, if_neg (by omega)]
theorem kw_X0_154 : Jvm.Cond.constantLong RX0 154 (31 : Int64) ∈ gW := gw_t 809 (by decide +kernel) (by decide +kernel)
theorem kw_X10_52 : Jvm.Cond.constantLong RX10 52 (31 : Int64) ∈ gW := gw_t 815 (by decide +kernel) (by decide +kernel)
set_option maxRecDepth 8000 in
theorem m_X0_addTo {Q : Option AV → Wd → Prop} {w : Wd} (d : Nat) {c : Nat} {h : Int} (hd : 7 ≤ d) (hw : WR w) (hs : sh c = 0) (hI : CI (cx w c)) (hQ : ∀ r, r = curH h (cx w c) → Q (some (vL r)) w) : M mX0_addTo (Rm d) [vR (some c), vL h] (fl w) (lQ Q) := by
  obtain ⟨s1, s2, s3, s4, s5⟩ := sh_curve hs
  obtain ⟨hn, P, O, b1, b2, b3, b4⟩ := CIw hI
  refine f_mofv (L0 := [some (vR (some c)), some (vL h), none, none, none, none]) rfl (Nat.le_of_ble_eq_true rfl) rfl ?_
  have loop126 : ∀ n0 : Nat, ∀ i : Nat, 17 - i = n0 → i ≤ 17 → (i = 0 ∨ 0 < w c 0) → ∀ x : Int, x = curHv h (cx w c) i → V mX0_addTo (Rm d) 0 0 126 [some (vR (some c)), some (vL h), none, some (vL x), none, some (vI (60 * i))] [] (fl w) (lQ Q) := by
    refine ind_lt ?_
    intro n0 ih i hm hi hz x hx
    refine r_iload (pc := 126) dX0_addTo_126 rfl ?_
    refine r_sipush (pc := 128) (n := 960) dX0_addTo_128 (by decide) ?_
    refine r_icmpgt (pc := 131) (tgt := 161) dX0_addTo_131 rfl (by omega) (by omega) (fun h131 => ?_) (fun h131 => ?_)
    · refine r_lload_n (pc := 161) dX0_addTo_161 rfl ?_
      exact f_lret (pc := 162) dX0_addTo_162 rfl (by assumption) (hQ _ (by rw [hx, show i = 17 by omega]; exact curH_p (X := cx w c) (show 0 < w c 0 by omega)))
    refine r_aload_n (pc := 134) dX0_addTo_134 rfl ?_
    refine g_X0_38 (pc := 135) rfl dX0_addTo_135 (by assumption) (by first | assumption | rfl) (fun h135 => ?_)
    refine r_ifle (pc := 138) (tgt := 161) dX0_addTo_138 rfl (by omega) (fun h138 => ?_) (fun h138 => ?_)
    · refine r_lload_n (pc := 161) dX0_addTo_161 rfl ?_
      exact f_lret (pc := 162) dX0_addTo_162 rfl (by assumption) (hQ _ (by rw [hx, show i = 0 by omega]; exact (if_neg (show ¬ 0 < w c 0 by omega)).symm))
    refine r_ldc2 (pc := 141) (n := 31) dX0_addTo_141 kw_X0_154 rfl ?_
    refine r_lload_n (pc := 144) dX0_addTo_144 rfl ?_
    refine r_lmul (pc := 145) dX0_addTo_145 ?_
    refine r_aload_n (pc := 146) dX0_addTo_146 rfl ?_
    refine r_iload (pc := 147) dX0_addTo_147 rfl ?_
    refine c_X0_85 (pc := 149) rfl dX0_addTo_149 (by first | assumption | rfl) (by omega) (Nat.le_of_ble_eq_true rfl) ?_
    refine m_X0_partsAt (d - 1) (by omega) (by assumption) (by assumption) (by assumption) (by omega) (fun r149 e149 b149 => ?_)
    refine r_i2l (pc := 152) dX0_addTo_152 (by first | assumption | omega) ?_
    refine r_ladd (pc := 153) dX0_addTo_153 ?_
    refine r_lstore3 (pc := 154) dX0_addTo_154 rfl ?_
    refine r_iinc5 (pc := 155) dX0_addTo_155 rfl ?_
    refine r_goto (pc := 158) (tgt := 126) dX0_addTo_158 rfl ?_
    exact ih _ (by omega) (i + 1) rfl (by omega) (by omega) _ (by rw [e149, hx]; exact curHv_s)
  have loop15 : ∀ n0 : Nat, ∀ k : Nat, (w c 0 - k).toNat = n0 → (k : Int) ≤ w c 0 → ∀ x : Int, x = curHk h (cx w c) k → V mX0_addTo (Rm d) 0 0 15 [some (vR (some c)), some (vL h), none, some (vL x), none, some (vI k)] [] (fl w) (lQ Q) := by
    refine ind_lt ?_
    intro n0 ih k hm hk x ex
    refine r_iload (pc := 15) dX0_addTo_15 rfl ?_
    refine r_aload_n (pc := 17) dX0_addTo_17 rfl ?_
    refine g_X0_38 (pc := 18) rfl dX0_addTo_18 (by assumption) (by first | assumption | rfl) (fun h18 => ?_)
    refine r_icmpge (pc := 21) (tgt := 111) dX0_addTo_21 rfl (by omega) (by omega) (fun h21 => ?_) (fun h21 => ?_)
    · refine r_ldc2 (pc := 111) (n := 31) dX0_addTo_111 kw_X0_154 rfl ?_
      refine r_lload_n (pc := 114) dX0_addTo_114 rfl ?_
      refine r_lmul (pc := 115) dX0_addTo_115 ?_
      refine r_aload_n (pc := 116) dX0_addTo_116 rfl ?_
      refine c_X0_156 (pc := 117) rfl dX0_addTo_117 (by first | assumption | rfl) (by omega) (Nat.le_of_ble_eq_true rfl) ?_
      refine m_X0_bothExtrapolations (d - 1) (by omega) (by assumption) (by assumption) (fun r117 e117 => ?_)
      refine r_i2l (pc := 120) dX0_addTo_120 (by first | assumption | omega) ?_
      refine r_ladd (pc := 121) dX0_addTo_121 ?_
      refine r_lstore3 (pc := 122) dX0_addTo_122 rfl ?_
      refine r_iconst (pc := 123) (n := 0) dX0_addTo_123 ?_
      refine r_istore5 (pc := 124) dX0_addTo_124 rfl ?_
      exact loop126 _ 0 rfl (by omega) (Or.inl rfl) _ (by rw [ex, e117]; exact curHv_0 (show (k : Int) = w c 0 by omega))
    refine r_ldc2 (pc := 24) (n := 31) dX0_addTo_24 kw_X0_154 rfl ?_
    refine r_lload_n (pc := 27) dX0_addTo_27 rfl ?_
    refine r_lmul (pc := 28) dX0_addTo_28 ?_
    refine r_aload_n (pc := 29) dX0_addTo_29 rfl ?_
    refine g_X0_18 (pc := 30) rfl dX0_addTo_30 (by first | assumption | rfl) ?_
    refine r_iload (pc := 33) dX0_addTo_33 rfl ?_
    refine c_X0_53 (pc := 35) rfl dX0_addTo_35 (by omega) (Nat.le_of_ble_eq_true rfl) ?_
    refine m_X11_at (d - 1) (by omega) (by assumption) (n := 24) (by assumption) (by omega) (by omega) (fun r35 e35 b35 => ?_)
    rw [gA_in (by omega) (by omega)] at e35
    refine r_i2l (pc := 38) dX0_addTo_38 (by first | assumption | omega) ?_
    refine r_ladd (pc := 39) dX0_addTo_39 ?_
    refine r_lstore3 (pc := 40) dX0_addTo_40 rfl ?_
    refine r_ldc2 (pc := 41) (n := 31) dX0_addTo_41 kw_X0_154 rfl ?_
    refine r_lload_n (pc := 44) dX0_addTo_44 rfl ?_
    refine r_lmul (pc := 45) dX0_addTo_45 ?_
    refine r_aload_n (pc := 46) dX0_addTo_46 rfl ?_
    refine g_X0_22 (pc := 47) rfl dX0_addTo_47 (by first | assumption | rfl) ?_
    refine r_iload (pc := 50) dX0_addTo_50 rfl ?_
    refine c_X0_53 (pc := 52) rfl dX0_addTo_52 (by omega) (Nat.le_of_ble_eq_true rfl) ?_
    refine m_X11_at (d - 1) (by omega) (by assumption) (n := 24) (by assumption) (by omega) (by omega) (fun r52 e52 b52 => ?_)
    rw [gA_in (by omega) (by omega)] at e52
    refine r_i2l (pc := 55) dX0_addTo_55 (by first | assumption | omega) ?_
    refine r_ladd (pc := 56) dX0_addTo_56 ?_
    refine r_lstore3 (pc := 57) dX0_addTo_57 rfl ?_
    refine r_ldc2 (pc := 58) (n := 31) dX0_addTo_58 kw_X0_154 rfl ?_
    refine r_lload_n (pc := 61) dX0_addTo_61 rfl ?_
    refine r_lmul (pc := 62) dX0_addTo_62 ?_
    refine r_aload_n (pc := 63) dX0_addTo_63 rfl ?_
    refine g_X0_25 (pc := 64) rfl dX0_addTo_64 (by first | assumption | rfl) ?_
    refine r_iload (pc := 67) dX0_addTo_67 rfl ?_
    refine c_X0_53 (pc := 69) rfl dX0_addTo_69 (by omega) (Nat.le_of_ble_eq_true rfl) ?_
    refine m_X11_at (d - 1) (by omega) (by assumption) (n := 24) (by assumption) (by omega) (by omega) (fun r69 e69 b69 => ?_)
    rw [gA_in (by omega) (by omega)] at e69
    refine r_i2l (pc := 72) dX0_addTo_72 (by first | assumption | omega) ?_
    refine r_ladd (pc := 73) dX0_addTo_73 ?_
    refine r_lstore3 (pc := 74) dX0_addTo_74 rfl ?_
    refine r_ldc2 (pc := 75) (n := 31) dX0_addTo_75 kw_X0_154 rfl ?_
    refine r_lload_n (pc := 78) dX0_addTo_78 rfl ?_
    refine r_lmul (pc := 79) dX0_addTo_79 ?_
    refine r_aload_n (pc := 80) dX0_addTo_80 rfl ?_
    refine r_iload (pc := 81) dX0_addTo_81 rfl ?_
    refine r_iconst (pc := 83) (n := 0) dX0_addTo_83 ?_
    refine c_X0_77 (pc := 84) rfl dX0_addTo_84 (by first | assumption | rfl) (by omega) (Nat.le_of_ble_eq_true rfl) ?_
    refine m_X0_tangent (d - 1) (by omega) (by assumption) (by assumption) (by assumption) ⟨by omega, by omega⟩ (by omega) (fun r84 e84 b84 => ?_)
    refine r_i2l (pc := 87) dX0_addTo_87 (by first | assumption | omega) ?_
    refine r_ladd (pc := 88) dX0_addTo_88 ?_
    refine r_lstore3 (pc := 89) dX0_addTo_89 rfl ?_
    refine r_ldc2 (pc := 90) (n := 31) dX0_addTo_90 kw_X0_154 rfl ?_
    refine r_lload_n (pc := 93) dX0_addTo_93 rfl ?_
    refine r_lmul (pc := 94) dX0_addTo_94 ?_
    refine r_aload_n (pc := 95) dX0_addTo_95 rfl ?_
    refine r_iload (pc := 96) dX0_addTo_96 rfl ?_
    refine r_iconst (pc := 98) (n := 1) dX0_addTo_98 ?_
    refine c_X0_77 (pc := 99) rfl dX0_addTo_99 (by first | assumption | rfl) (by omega) (Nat.le_of_ble_eq_true rfl) ?_
    refine m_X0_tangent (d - 1) (by omega) (by assumption) (by assumption) (by assumption) ⟨by omega, by omega⟩ (by omega) (fun r99 e99 b99 => ?_)
    refine r_i2l (pc := 102) dX0_addTo_102 (by first | assumption | omega) ?_
    refine r_ladd (pc := 103) dX0_addTo_103 ?_
    refine r_lstore3 (pc := 104) dX0_addTo_104 rfl ?_
    refine r_iinc5 (pc := 105) dX0_addTo_105 rfl ?_
    refine r_goto (pc := 108) (tgt := 15) dX0_addTo_108 rfl ?_
    exact ih _ (by omega) (k + 1) rfl (by omega) _ (by rw [e35, e52, e69, e84, e99, ex]; rfl)
  refine r_ldc2 (pc := 0) (n := 31) dX0_addTo_0 kw_X0_154 rfl ?_
  refine r_lload_n (pc := 3) dX0_addTo_3 rfl ?_
  refine r_lmul (pc := 4) dX0_addTo_4 ?_
  refine r_aload_n (pc := 5) dX0_addTo_5 rfl ?_
  refine g_X0_38 (pc := 6) rfl dX0_addTo_6 (by assumption) (by first | assumption | rfl) (fun h6 => ?_)
  refine r_i2l (pc := 9) dX0_addTo_9 (by first | assumption | omega) ?_
  refine r_ladd (pc := 10) dX0_addTo_10 ?_
  refine r_lstore3 (pc := 11) dX0_addTo_11 rfl ?_
  refine r_iconst (pc := 12) (n := 0) dX0_addTo_12 ?_
  refine r_istore5 (pc := 13) dX0_addTo_13 rfl ?_
  exact loop15 _ 0 rfl (by omega) _ rfl
set_option maxRecDepth 8000 in
theorem m_X10_copy {Q : Option AV → Wd → Prop} {w : Wd} (d : Nat) {c : Nat} {e : Nat} (hd : 2 ≤ d) (hw : WR w) (hs : sh c = 10) (hs2 : sh e = 10) (hQ : ∀ w2, w2 = upr (upr (up w c 0 (w e 0)) (e + 1) (c + 1) 8) (e + 2) (c + 2) 8 → WR w2 → Q none w2) : M mX10_copy (Rm d) [vR (some c), vR (some e)] (fl w) (lQ Q) := by
  obtain ⟨s1, s2⟩ := sh_map hs
  obtain ⟨t1, t2⟩ := sh_map hs2
  refine f_mofv (L0 := [some (vR (some c)), some (vR (some e))]) rfl (Nat.le_of_ble_eq_true rfl) rfl ?_
  refine r_aload_n (pc := 0) dX10_copy_0 rfl ?_
  refine r_aload_n (pc := 1) dX10_copy_1 rfl ?_
  refine g_X10_18 (pc := 2) rfl dX10_copy_2 (by assumption) (by first | assumption | rfl) (fun h2 => ?_)
  refine p_X10_18 (pc := 5) rfl dX10_copy_5 (by assumption) (by first | assumption | rfl) (by omega) (fun hw5 => ?_)
  refine r_aload_n (pc := 8) dX10_copy_8 rfl ?_
  refine g_X10_9 (pc := 9) rfl dX10_copy_9 (by first | assumption | rfl) ?_
  refine r_aload_n (pc := 12) dX10_copy_12 rfl ?_
  refine g_X10_9 (pc := 13) rfl dX10_copy_13 (by first | assumption | rfl) ?_
  refine c_X10_22 (pc := 16) rfl dX10_copy_16 (by omega) (Nat.le_of_ble_eq_true rfl) ?_
  refine m_X11_copyRow (d - 1) (by omega) (by assumption) (by assumption) (by assumption) (by omega) (fun w16 e16 hw16 => ?_)
  refine r_aload_n (pc := 19) dX10_copy_19 rfl ?_
  refine g_X10_15 (pc := 20) rfl dX10_copy_20 (by first | assumption | rfl) ?_
  refine r_aload_n (pc := 23) dX10_copy_23 rfl ?_
  refine g_X10_15 (pc := 24) rfl dX10_copy_24 (by first | assumption | rfl) ?_
  refine c_X10_22 (pc := 27) rfl dX10_copy_27 (by omega) (Nat.le_of_ble_eq_true rfl) ?_
  refine m_X11_copyRow (d - 1) (by omega) (by assumption) (by assumption) (by assumption) (by omega) (fun w27 e27 hw27 => ?_)
  exact f_vret (pc := 30) dX10_copy_30 rfl (by assumption) (hQ _ (by rw [e27, e16]; rfl) (by assumption))
set_option maxRecDepth 8000 in
theorem m_X10_canFollow {Q : Option AV → Wd → Prop} {w : Wd} (d : Nat) {c : Nat} {a b : Int} (hd : 1 ≤ d) (hw : WR w) (hs : sh c = 10) (hI : MI (w c 0) (w (c + 1)) (w (c + 2))) (ha : R32 a) (hb : R32 b) (hQ : ∀ r, r = b2i (w c 0 = 0 ∨ (a > w (c + 1) (w c 0 - 1) ∧ b > w (c + 2) (w c 0 - 1))) → (r = 0 ∨ r = 1) → Q (some (vI r)) w) : M mX10_canFollow (Rm d) [vR (some c), vI a, vI b] (fl w) (lQ Q) := by
  obtain ⟨s1, s2⟩ := sh_map hs
  obtain ⟨hn0, hn8, P, O⟩ := id hI
  refine f_mofv (L0 := [some (vR (some c)), some (vI a), some (vI b)]) rfl (Nat.le_of_ble_eq_true rfl) rfl ?_
  refine r_aload_n (pc := 0) dX10_canFollow_0 rfl ?_
  refine g_X10_18 (pc := 1) rfl dX10_canFollow_1 (by assumption) (by first | assumption | rfl) (fun h1 => ?_)
  refine r_ifeq (pc := 4) (tgt := 41) dX10_canFollow_4 rfl (by omega) (fun h4 => ?_) (fun h4 => ?_)
  · refine r_iconst (pc := 41) (n := 1) dX10_canFollow_41 ?_
    refine r_goto (pc := 42) (tgt := 46) dX10_canFollow_42 rfl ?_
    exact f_zret (pc := 46) dX10_canFollow_46 rfl (by first | exact Or.inl rfl | exact Or.inr rfl | omega) (by assumption) (hQ _ (by unfold b2i; split <;> omega) (by omega))
  refine r_iload_n (pc := 7) dX10_canFollow_7 rfl ?_
  refine r_aload_n (pc := 8) dX10_canFollow_8 rfl ?_
  refine g_X10_9 (pc := 9) rfl dX10_canFollow_9 (by first | assumption | rfl) ?_
  refine r_aload_n (pc := 12) dX10_canFollow_12 rfl ?_
  refine g_X10_18 (pc := 13) rfl dX10_canFollow_13 (by assumption) (by first | assumption | rfl) (fun h13 => ?_)
  refine r_iconst (pc := 16) (n := 1) dX10_canFollow_16 ?_
  refine r_isub (pc := 17) dX10_canFollow_17 ?_
  refine c_X10_26 (pc := 18) rfl dX10_canFollow_18 (by omega) (Nat.le_of_ble_eq_true rfl) ?_
  refine m_X11_at (d - 1) (by omega) (by assumption) (n := 8) (by assumption) (by omega) (by omega) (fun r18 e18 b18 => ?_)
  rw [gA_in (by omega) (by omega)] at e18
  refine r_icmple (pc := 21) (tgt := 45) dX10_canFollow_21 rfl (by omega) (by omega) (fun h21 => ?_) (fun h21 => ?_)
  · refine r_iconst (pc := 45) (n := 0) dX10_canFollow_45 ?_
    exact f_zret (pc := 46) dX10_canFollow_46 rfl (by first | exact Or.inl rfl | exact Or.inr rfl | omega) (by assumption) (hQ _ (by unfold b2i; split <;> omega) (by omega))
  refine r_iload_n (pc := 24) dX10_canFollow_24 rfl ?_
  refine r_aload_n (pc := 25) dX10_canFollow_25 rfl ?_
  refine g_X10_15 (pc := 26) rfl dX10_canFollow_26 (by first | assumption | rfl) ?_
  refine r_aload_n (pc := 29) dX10_canFollow_29 rfl ?_
  refine g_X10_18 (pc := 30) rfl dX10_canFollow_30 (by assumption) (by first | assumption | rfl) (fun h30 => ?_)
  refine r_iconst (pc := 33) (n := 1) dX10_canFollow_33 ?_
  refine r_isub (pc := 34) dX10_canFollow_34 ?_
  refine c_X10_26 (pc := 35) rfl dX10_canFollow_35 (by omega) (Nat.le_of_ble_eq_true rfl) ?_
  refine m_X11_at (d - 1) (by omega) (by assumption) (n := 8) (by assumption) (by omega) (by omega) (fun r35 e35 b35 => ?_)
  rw [gA_in (by omega) (by omega)] at e35
  refine r_icmple (pc := 38) (tgt := 45) dX10_canFollow_38 rfl (by omega) (by omega) (fun h38 => ?_) (fun h38 => ?_)
  · refine r_iconst (pc := 45) (n := 0) dX10_canFollow_45 ?_
    exact f_zret (pc := 46) dX10_canFollow_46 rfl (by first | exact Or.inl rfl | exact Or.inr rfl | omega) (by assumption) (hQ _ (by unfold b2i; split <;> omega) (by omega))
  refine r_iconst (pc := 41) (n := 1) dX10_canFollow_41 ?_
  refine r_goto (pc := 42) (tgt := 46) dX10_canFollow_42 rfl ?_
  exact f_zret (pc := 46) dX10_canFollow_46 rfl (by first | exact Or.inl rfl | exact Or.inr rfl | omega) (by assumption) (hQ _ (by unfold b2i; split <;> omega) (by omega))
set_option maxRecDepth 8000 in
theorem m_X10_add {Q : Option AV → Wd → Prop} {w : Wd} (d : Nat) {c : Nat} {a b : Int} (hd : 1 ≤ d) (hw : WR w) (hs : sh c = 10) (hn : 0 ≤ w c 0 ∧ w c 0 < 8) (ha : R32 a) (hb : R32 b) (hQ : ∀ w2, w2 = up (up (up w (c + 1) (w c 0) a) (c + 2) (w c 0) b) c 0 (w c 0 + 1) → WR w2 → Q none w2) : M mX10_add (Rm d) [vR (some c), vI a, vI b] (fl w) (lQ Q) := by
  obtain ⟨s1, s2⟩ := sh_map hs
  refine f_mofv (L0 := [some (vR (some c)), some (vI a), some (vI b)]) rfl (Nat.le_of_ble_eq_true rfl) rfl ?_
  refine r_aload_n (pc := 0) dX10_add_0 rfl ?_
  refine g_X10_9 (pc := 1) rfl dX10_add_1 (by first | assumption | rfl) ?_
  refine r_aload_n (pc := 4) dX10_add_4 rfl ?_
  refine g_X10_18 (pc := 5) rfl dX10_add_5 (by assumption) (by first | assumption | rfl) (fun h5 => ?_)
  refine r_iload_n (pc := 8) dX10_add_8 rfl ?_
  refine c_X10_30 (pc := 9) rfl dX10_add_9 (by omega) (Nat.le_of_ble_eq_true rfl) ?_
  refine m_X11_put (d - 1) (by omega) (by assumption) (n := 8) (by assumption) (by omega) (by omega) (by omega) (fun w9 e9 hw9 => ?_)
  rw [pA_in (by omega) (by omega)] at e9
  have q9 : w9 c = w c := by rw [e9, up_ne (by omega)]
  have z9 : w9 c 0 = w c 0 := by rw [q9]
  refine r_aload_n (pc := 12) dX10_add_12 rfl ?_
  refine g_X10_15 (pc := 13) rfl dX10_add_13 (by first | assumption | rfl) ?_
  refine r_aload_n (pc := 16) dX10_add_16 rfl ?_
  refine g_X10_18 (pc := 17) rfl dX10_add_17 (by assumption) (by first | assumption | rfl) (fun h17 => ?_)
  refine r_iload_n (pc := 20) dX10_add_20 rfl ?_
  refine c_X10_30 (pc := 21) rfl dX10_add_21 (by omega) (Nat.le_of_ble_eq_true rfl) ?_
  refine m_X11_put (d - 1) (by omega) (by assumption) (n := 8) (by assumption) (by omega) (by omega) (by omega) (fun w21 e21 hw21 => ?_)
  rw [pA_in (by omega) (by omega)] at e21
  have q21 : w21 c = w c := by rw [e21, up_ne (by omega), q9]
  have z21 : w21 c 0 = w c 0 := by rw [q21]
  refine r_aload_n (pc := 24) dX10_add_24 rfl ?_
  refine r_dup (pc := 25) dX10_add_25 rfl ?_
  refine g_X10_18 (pc := 26) rfl dX10_add_26 (by assumption) (by first | assumption | rfl) (fun h26 => ?_)
  refine r_iconst (pc := 29) (n := 1) dX10_add_29 ?_
  refine r_iadd (pc := 30) dX10_add_30 ?_
  refine p_X10_18 (pc := 31) rfl dX10_add_31 (by assumption) (by first | assumption | rfl) (by omega) (fun hw31 => ?_)
  exact f_vret (pc := 34) dX10_add_34 rfl (by assumption) (hQ _ (by rw [z21, e21, z9, e9]) (by assumption))
set_option maxRecDepth 8000 in
theorem m_X10_pointsBefore {Q : Option AV → Wd → Prop} {w : Wd} (d : Nat) {c : Nat} {t : Int} (hd : 1 ≤ d) (hw : WR w) (hs : sh c = 10) (hn : 0 ≤ w c 0 ∧ w c 0 ≤ 8) (ht : R32 t) (hQ : ∀ r, KB (w c 0) (w (c + 1)) t r → Q (some (vI r)) w) : M mX10_pointsBefore (Rm d) [vR (some c), vI t] (fl w) (lQ Q) := by
  obtain ⟨s1, s2⟩ := sh_map hs
  refine f_mofv (L0 := [some (vR (some c)), some (vI t), none]) rfl (Nat.le_of_ble_eq_true rfl) rfl ?_
  have loop2 : ∀ n0 : Nat, ∀ key : Int, (w c 0 - key).toNat = n0 → 0 ≤ key → key ≤ w c 0 → (∀ j, 0 ≤ j → j < key → w (c + 1) j < t) → V mX10_pointsBefore (Rm d) 0 0 2 [some (vR (some c)), some (vI t), some (vI key)] [] (fl w) (lQ Q) := by
    refine ind_lt ?_
    intro n0 ih key hm hk0 hkn hj
    refine r_iload_n (pc := 2) dX10_pointsBefore_2 rfl ?_
    refine r_aload_n (pc := 3) dX10_pointsBefore_3 rfl ?_
    refine g_X10_18 (pc := 4) rfl dX10_pointsBefore_4 (by assumption) (by first | assumption | rfl) (fun h4 => ?_)
    refine r_icmpge (pc := 7) (tgt := 28) dX10_pointsBefore_7 rfl (by omega) (by omega) (fun h7 => ?_) (fun h7 => ?_)
    · refine r_iload_n (pc := 28) dX10_pointsBefore_28 rfl ?_
      exact f_iret (pc := 29) dX10_pointsBefore_29 rfl (by assumption) (hQ _ ⟨by omega, by omega, hj, fun h => by omega⟩)
    refine r_aload_n (pc := 10) dX10_pointsBefore_10 rfl ?_
    refine g_X10_9 (pc := 11) rfl dX10_pointsBefore_11 (by first | assumption | rfl) ?_
    refine r_iload_n (pc := 14) dX10_pointsBefore_14 rfl ?_
    refine c_X10_26 (pc := 15) rfl dX10_pointsBefore_15 (by omega) (Nat.le_of_ble_eq_true rfl) ?_
    refine m_X11_at (d - 1) (by omega) (by assumption) (n := 8) (by assumption) (by omega) (by omega) (fun r15 e15 b15 => ?_)
    rw [gA_in (by omega) (by omega)] at e15
    refine r_iload_n (pc := 18) dX10_pointsBefore_18 rfl ?_
    refine r_icmpge (pc := 19) (tgt := 28) dX10_pointsBefore_19 rfl (by omega) (by omega) (fun h19 => ?_) (fun h19 => ?_)
    · refine r_iload_n (pc := 28) dX10_pointsBefore_28 rfl ?_
      exact f_iret (pc := 29) dX10_pointsBefore_29 rfl (by assumption) (hQ _ ⟨by omega, by omega, hj, fun h => by omega⟩)
    refine r_iinc2 (pc := 22) dX10_pointsBefore_22 rfl ?_
    refine r_goto (pc := 25) (tgt := 2) dX10_pointsBefore_25 rfl ?_
    exact ih _ (by omega) (key + 1) rfl (by omega) (by omega) (fun j h1 h2 => by
      rcases Int.lt_or_le j key with q | q
      · exact hj j h1 q
      · rw [show j = key by omega]; omega)
  refine r_iconst (pc := 0) (n := 0) dX10_pointsBefore_0 ?_
  refine r_istore2 (pc := 1) dX10_pointsBefore_1 rfl ?_
  exact loop2 _ 0 rfl (by omega) (by omega) (fun j h1 h2 => by omega)
set_option maxRecDepth 8000 in
theorem m_X10_sourceLength {Q : Option AV → Wd → Prop} {w : Wd} (d : Nat) {c : Nat} {k : Int} (hd : 1 ≤ d) (hw : WR w) (hs : sh c = 10) (hI : MI (w c 0) (w (c + 1)) (w (c + 2))) (hk : 0 ≤ k ∧ k + 1 < w c 0) (hQ : ∀ r, r = w (c + 1) (k + 1) - w (c + 1) k → 1 ≤ r ∧ r ≤ 480 → Q (some (vI r)) w) : M mX10_sourceLength (Rm d) [vR (some c), vI k] (fl w) (lQ Q) := by
  obtain ⟨s1, s2⟩ := sh_map hs
  obtain ⟨hn0, hn8, P, O⟩ := id hI
  have P1 := P k (by omega) (by omega)
  have P2 := P (k + 1) (by omega) (by omega)
  have O1 := O k (k + 1) (by omega) (by omega) (by omega)
  refine f_mofv (L0 := [some (vR (some c)), some (vI k)]) rfl (Nat.le_of_ble_eq_true rfl) rfl ?_
  refine r_aload_n (pc := 0) dX10_sourceLength_0 rfl ?_
  refine g_X10_9 (pc := 1) rfl dX10_sourceLength_1 (by first | assumption | rfl) ?_
  refine r_iload_n (pc := 4) dX10_sourceLength_4 rfl ?_
  refine r_iconst (pc := 5) (n := 1) dX10_sourceLength_5 ?_
  refine r_iadd (pc := 6) dX10_sourceLength_6 ?_
  refine c_X10_26 (pc := 7) rfl dX10_sourceLength_7 (by omega) (Nat.le_of_ble_eq_true rfl) ?_
  refine m_X11_at (d - 1) (by omega) (by assumption) (n := 8) (by assumption) (by omega) (by omega) (fun r7 e7 b7 => ?_)
  rw [gA_in (by omega) (by omega)] at e7
  refine r_aload_n (pc := 10) dX10_sourceLength_10 rfl ?_
  refine g_X10_9 (pc := 11) rfl dX10_sourceLength_11 (by first | assumption | rfl) ?_
  refine r_iload_n (pc := 14) dX10_sourceLength_14 rfl ?_
  refine c_X10_26 (pc := 15) rfl dX10_sourceLength_15 (by omega) (Nat.le_of_ble_eq_true rfl) ?_
  refine m_X11_at (d - 1) (by omega) (by assumption) (n := 8) (by assumption) (by omega) (by omega) (fun r15 e15 b15 => ?_)
  rw [gA_in (by omega) (by omega)] at e15
  refine r_isub (pc := 18) dX10_sourceLength_18 ?_
  exact f_iret (pc := 19) dX10_sourceLength_19 rfl (by assumption) (hQ _ (by omega) (by omega))
set_option maxRecDepth 8000 in
theorem m_X10_targetLength {Q : Option AV → Wd → Prop} {w : Wd} (d : Nat) {c : Nat} {k : Int} (hd : 1 ≤ d) (hw : WR w) (hs : sh c = 10) (hI : MI (w c 0) (w (c + 1)) (w (c + 2))) (hk : 0 ≤ k ∧ k + 1 < w c 0) (hQ : ∀ r, r = w (c + 2) (k + 1) - w (c + 2) k → 1 ≤ r ∧ r ≤ 480 → Q (some (vI r)) w) : M mX10_targetLength (Rm d) [vR (some c), vI k] (fl w) (lQ Q) := by
  obtain ⟨s1, s2⟩ := sh_map hs
  obtain ⟨hn0, hn8, P, O⟩ := id hI
  have P1 := P k (by omega) (by omega)
  have P2 := P (k + 1) (by omega) (by omega)
  have O1 := O k (k + 1) (by omega) (by omega) (by omega)
  refine f_mofv (L0 := [some (vR (some c)), some (vI k)]) rfl (Nat.le_of_ble_eq_true rfl) rfl ?_
  refine r_aload_n (pc := 0) dX10_targetLength_0 rfl ?_
  refine g_X10_15 (pc := 1) rfl dX10_targetLength_1 (by first | assumption | rfl) ?_
  refine r_iload_n (pc := 4) dX10_targetLength_4 rfl ?_
  refine r_iconst (pc := 5) (n := 1) dX10_targetLength_5 ?_
  refine r_iadd (pc := 6) dX10_targetLength_6 ?_
  refine c_X10_26 (pc := 7) rfl dX10_targetLength_7 (by omega) (Nat.le_of_ble_eq_true rfl) ?_
  refine m_X11_at (d - 1) (by omega) (by assumption) (n := 8) (by assumption) (by omega) (by omega) (fun r7 e7 b7 => ?_)
  rw [gA_in (by omega) (by omega)] at e7
  refine r_aload_n (pc := 10) dX10_targetLength_10 rfl ?_
  refine g_X10_15 (pc := 11) rfl dX10_targetLength_11 (by first | assumption | rfl) ?_
  refine r_iload_n (pc := 14) dX10_targetLength_14 rfl ?_
  refine c_X10_26 (pc := 15) rfl dX10_targetLength_15 (by omega) (Nat.le_of_ble_eq_true rfl) ?_
  refine m_X11_at (d - 1) (by omega) (by assumption) (n := 8) (by assumption) (by omega) (by omega) (fun r15 e15 b15 => ?_)
  rw [gA_in (by omega) (by omega)] at e15
  refine r_isub (pc := 18) dX10_targetLength_18 ?_
  exact f_iret (pc := 19) dX10_targetLength_19 rfl (by assumption) (hQ _ (by omega) (by omega))
set_option maxRecDepth 8000 in
theorem m_X10_send {Q : Option AV → Wd → Prop} {w : Wd} (d : Nat) {c : Nat} {t : Int} (hd : 2 ≤ d) (hw : WR w) (hs : sh c = 10) (hI : MI (w c 0) (w (c + 1)) (w (c + 2))) (ht : 0 ≤ t ∧ t ≤ 480) (hQ : ∀ r, r = sndS (w c 0) (w (c + 1)) (w (c + 2)) t → -300000 ≤ r ∧ r ≤ 300000 → Q (some (vI r)) w) : M mX10_send (Rm d) [vR (some c), vI t] (fl w) (lQ Q) := by
  obtain ⟨s1, s2⟩ := sh_map hs
  obtain ⟨hn0, hn8, P, O⟩ := id hI
  refine f_mofv (L0 := [some (vR (some c)), some (vI t), none, none, none, none]) rfl (Nat.le_of_ble_eq_true rfl) rfl ?_
  have cut41 : ∀ b k : Int, w c 0 ≠ 0 → b = kb (w (c + 1)) t (w c 0).toNat → (b = 0 ∧ k = 0 ∨ b ≠ 0 ∧ b = w c 0 ∧ k = w c 0 - 1) → V mX10_send (Rm d) 0 0 41 [some (vR (some c)), some (vI t), some (vI b), none, none, none] [vI k] (fl w) (lQ Q) := by
    intro b k hn1 hb hk
    have Pk := P k (by omega) (by omega)
    refine r_istore3 (pc := 41) dX10_send_41 rfl ?_
    refine r_iload_n (pc := 42) dX10_send_42 rfl ?_
    refine r_aload_n (pc := 43) dX10_send_43 rfl ?_
    refine g_X10_15 (pc := 44) rfl dX10_send_44 (by first | assumption | rfl) ?_
    refine r_iload_n (pc := 47) dX10_send_47 rfl ?_
    refine c_X10_26 (pc := 48) rfl dX10_send_48 (by omega) (Nat.le_of_ble_eq_true rfl) ?_
    refine m_X11_at (d - 1) (by omega) (by assumption) (n := 8) (by assumption) (by omega) (by omega) (fun r48 e48 b48 => ?_)
    rw [gA_in (by omega) (by omega)] at e48
    refine r_iadd (pc := 51) dX10_send_51 ?_
    refine r_aload_n (pc := 52) dX10_send_52 rfl ?_
    refine g_X10_9 (pc := 53) rfl dX10_send_53 (by first | assumption | rfl) ?_
    refine r_iload_n (pc := 56) dX10_send_56 rfl ?_
    refine c_X10_26 (pc := 57) rfl dX10_send_57 (by omega) (Nat.le_of_ble_eq_true rfl) ?_
    refine m_X11_at (d - 1) (by omega) (by assumption) (n := 8) (by assumption) (by omega) (by omega) (fun r57 e57 b57 => ?_)
    rw [gA_in (by omega) (by omega)] at e57
    refine r_isub (pc := 60) dX10_send_60 ?_
    exact f_iret (pc := 61) dX10_send_61 rfl (by assumption) (hQ _ (by rw [e48, e57]; exact (sndS_end hn1 hb hk).symm) (by omega))
  refine r_aload_n (pc := 0) dX10_send_0 rfl ?_
  refine g_X10_18 (pc := 1) rfl dX10_send_1 (by assumption) (by first | assumption | rfl) (fun h1 => ?_)
  refine r_ifne (pc := 4) (tgt := 9) dX10_send_4 rfl (by omega) (fun h4 => ?_) (fun h4 => ?_)
  · refine r_aload_n (pc := 9) dX10_send_9 rfl ?_
    refine r_iload_n (pc := 10) dX10_send_10 rfl ?_
    refine c_X10_34 (pc := 11) rfl dX10_send_11 (by first | assumption | rfl) (by omega) (Nat.le_of_ble_eq_true rfl) ?_
    refine m_X10_pointsBefore (d - 1) (by omega) (by assumption) (by assumption) (by omega) (by omega) (fun r11 e11 => ?_)
    have z11 := e11
    obtain ⟨k1, k2, k3, k4⟩ := e11
    have E11 := kbN_of hn0 z11
    refine r_istore2 (pc := 14) dX10_send_14 rfl ?_
    refine r_iload_n (pc := 15) dX10_send_15 rfl ?_
    refine r_ifeq (pc := 16) (tgt := 27) dX10_send_16 rfl (by omega) (fun h16 => ?_) (fun h16 => ?_)
    · refine r_iload_n (pc := 27) dX10_send_27 rfl ?_
      refine r_ifne (pc := 28) (tgt := 35) dX10_send_28 rfl (by omega) (fun h28 => ?_) (fun h28 => ?_)
      · refine r_aload_n (pc := 35) dX10_send_35 rfl ?_
        refine g_X10_18 (pc := 36) rfl dX10_send_36 (by assumption) (by first | assumption | rfl) (fun h36 => ?_)
        refine r_iconst (pc := 39) (n := 1) dX10_send_39 ?_
        refine r_isub (pc := 40) dX10_send_40 ?_
        exact cut41 _ _ (by omega) E11 (by omega)
      refine r_iconst (pc := 31) (n := 0) dX10_send_31 ?_
      refine r_goto (pc := 32) (tgt := 41) dX10_send_32 rfl ?_
      exact cut41 _ _ (by omega) E11 (by omega)
    refine r_iload_n (pc := 19) dX10_send_19 rfl ?_
    refine r_aload_n (pc := 20) dX10_send_20 rfl ?_
    refine g_X10_18 (pc := 21) rfl dX10_send_21 (by assumption) (by first | assumption | rfl) (fun h21 => ?_)
    refine r_icmpne (pc := 24) (tgt := 62) dX10_send_24 rfl (by omega) (by omega) (fun h24 => ?_) (fun h24 => ?_)
    · refine r_iload_n (pc := 62) dX10_send_62 rfl ?_
      refine r_iconst (pc := 63) (n := 1) dX10_send_63 ?_
      refine r_isub (pc := 64) dX10_send_64 ?_
      refine r_istore3 (pc := 65) dX10_send_65 rfl ?_
      have hb : 1 ≤ r11 ∧ r11 < w c 0 := by omega
      have Pa := P (r11 - 1) (by omega) (by omega)
      have Pb := P r11 (by omega) (by omega)
      have Oa := O (r11 - 1) r11 (by omega) (by omega) (by omega)
      have ka := k3 (r11 - 1) (by omega) (by omega)
      have kc := k4 (by omega)
      refine r_iload_n (pc := 66) dX10_send_66 rfl ?_
      refine r_aload_n (pc := 67) dX10_send_67 rfl ?_
      refine g_X10_9 (pc := 68) rfl dX10_send_68 (by first | assumption | rfl) ?_
      refine r_iload_n (pc := 71) dX10_send_71 rfl ?_
      refine c_X10_26 (pc := 72) rfl dX10_send_72 (by omega) (Nat.le_of_ble_eq_true rfl) ?_
      refine m_X11_at (d - 1) (by omega) (by assumption) (n := 8) (by assumption) (by omega) (by omega) (fun r72 e72 b72 => ?_)
      rw [gA_in (by omega) (by omega)] at e72
      refine r_isub (pc := 75) dX10_send_75 ?_
      refine r_i2l (pc := 76) dX10_send_76 (by first | assumption | omega) ?_
      refine r_aload_n (pc := 77) dX10_send_77 rfl ?_
      refine r_iload_n (pc := 78) dX10_send_78 rfl ?_
      refine c_X10_38 (pc := 79) rfl dX10_send_79 (by first | assumption | rfl) (by omega) (Nat.le_of_ble_eq_true rfl) ?_
      refine m_X10_targetLength (d - 1) (by omega) (by assumption) (by assumption) (by assumption) (by omega) (fun r79 e79 b79 => ?_)
      refine r_i2l (pc := 82) dX10_send_82 (by first | assumption | omega) ?_
      refine r_lmul (pc := 83) dX10_send_83 ?_
      refine r_lstore4 (pc := 84) dX10_send_84 rfl ?_
      refine r_aload_n (pc := 86) dX10_send_86 rfl ?_
      refine g_X10_15 (pc := 87) rfl dX10_send_87 (by first | assumption | rfl) ?_
      refine r_iload_n (pc := 90) dX10_send_90 rfl ?_
      refine c_X10_26 (pc := 91) rfl dX10_send_91 (by omega) (Nat.le_of_ble_eq_true rfl) ?_
      refine m_X11_at (d - 1) (by omega) (by assumption) (n := 8) (by assumption) (by omega) (by omega) (fun r91 e91 b91 => ?_)
      rw [gA_in (by omega) (by omega)] at e91
      refine r_lload (pc := 94) dX10_send_94 rfl ?_
      refine r_aload_n (pc := 96) dX10_send_96 rfl ?_
      refine r_iload_n (pc := 97) dX10_send_97 rfl ?_
      refine c_X10_41 (pc := 98) rfl dX10_send_98 (by first | assumption | rfl) (by omega) (Nat.le_of_ble_eq_true rfl) ?_
      refine m_X10_sourceLength (d - 1) (by omega) (by assumption) (by assumption) (by assumption) (by omega) (fun r98 e98 b98 => ?_)
      refine r_i2l (pc := 101) dX10_send_101 (by first | assumption | omega) ?_
      refine c_X10_44 (pc := 102) rfl dX10_send_102 (by omega) (Nat.le_of_ble_eq_true rfl) ?_
      refine m_X11_round (d - 1) (by omega) (by assumption) (by omega) (fun r102 e102 => ?_)
      refine r_l2i (pc := 105) dX10_send_105 ?_
      refine rep_I (zi_w32 _) ?_
      have WB := rdi_bd (n := (t - w (c + 1) (r11 - 1)) * (w (c + 2) r11 - w (c + 2) (r11 - 1))) (d := w (c + 1) r11 - w (c + 1) (r11 - 1)) (B := 230400) (by omega) (by omega) (by omega) (by omega) (Int.le_trans (by omega) (Int.mul_nonneg (show 0 ≤ t - w (c + 1) (r11 - 1) by omega) (show 0 ≤ w (c + 2) r11 - w (c + 2) (r11 - 1) by omega))) (Int.le_trans (Int.mul_le_mul (show t - w (c + 1) (r11 - 1) ≤ 480 by omega) (show w (c + 2) r11 - w (c + 2) (r11 - 1) ≤ 480 by omega) (by omega) (by omega)) (by omega))
      have E106 : w32 r102 = rdi ((t - w (c + 1) (r11 - 1)) * (w (c + 2) r11 - w (c + 2) (r11 - 1))) (w (c + 1) r11 - w (c + 1) (r11 - 1)) := by
        rw [e102, e72, e79, e98, show r11 - 1 + 1 = r11 by omega]; rfl
      rw [E106]
      refine r_iadd (pc := 106) dX10_send_106 ?_
      exact f_iret (pc := 107) dX10_send_107 rfl (by assumption) (hQ _ (by rw [e91]; exact (sndS_mid (show w c 0 ≠ 0 by omega) E11 (by omega)).symm) (by omega))
    refine r_iload_n (pc := 27) dX10_send_27 rfl ?_
    refine r_ifne (pc := 28) (tgt := 35) dX10_send_28 rfl (by omega) (fun h28 => ?_) (fun h28 => ?_)
    · refine r_aload_n (pc := 35) dX10_send_35 rfl ?_
      refine g_X10_18 (pc := 36) rfl dX10_send_36 (by assumption) (by first | assumption | rfl) (fun h36 => ?_)
      refine r_iconst (pc := 39) (n := 1) dX10_send_39 ?_
      refine r_isub (pc := 40) dX10_send_40 ?_
      exact cut41 _ _ (by omega) E11 (by omega)
    refine r_iconst (pc := 31) (n := 0) dX10_send_31 ?_
    refine r_goto (pc := 32) (tgt := 41) dX10_send_32 rfl ?_
    exact cut41 _ _ (by omega) E11 (by omega)
  refine r_iload_n (pc := 7) dX10_send_7 rfl ?_
  exact f_iret (pc := 8) dX10_send_8 rfl (by assumption) (hQ _ (if_pos (show w c 0 = 0 by omega)).symm (by omega))
set_option maxRecDepth 8000 in
theorem m_X10_stretched {Q : Option AV → Wd → Prop} {w : Wd} (d : Nat) {c : Nat} {x t o : Int} (hd : 2 ≤ d) (hw : WR w) (hs : sh c = 10) (hI : MI (w c 0) (w (c + 1)) (w (c + 2))) (hx : -9999 ≤ x ∧ x ≤ 9999) (ht : 0 ≤ t ∧ t ≤ 480) (ho : o = 0 ∨ o = 1) (hQ : ∀ r, r = strS (w c 0) (w (c + 1)) (w (c + 2)) x t o → -9999 ≤ r ∧ r ≤ 9999 → Q (some (vI r)) w) : M mX10_stretched (Rm d) [vR (some c), vI x, vI t, vI o] (fl w) (lQ Q) := by
  obtain ⟨s1, s2⟩ := sh_map hs
  obtain ⟨hn0, hn8, P, O⟩ := id hI
  refine f_mofv (L0 := [some (vR (some c)), some (vI x), some (vI t), some (vI o), none, none]) rfl (Nat.le_of_ble_eq_true rfl) rfl ?_
  have cut12 : V mX10_stretched (Rm d) 0 0 12 [some (vR (some c)), some (vI x), some (vI t), some (vI o), none, none] [vI (t + o), vR (some c)] (fl w) (lQ Q) := by
    skip
    refine c_X10_34 (pc := 12) rfl dX10_stretched_12 (by first | assumption | rfl) (by omega) (Nat.le_of_ble_eq_true rfl) ?_
    refine m_X10_pointsBefore (d - 1) (by omega) (by assumption) (by assumption) (by omega) (by omega) (fun r12 e12 => ?_)
    have z12 := e12
    obtain ⟨k1, k2, k3, k4⟩ := e12
    have E12 := kbN_of hn0 z12
    refine r_istore4 (pc := 15) dX10_stretched_15 rfl ?_
    refine r_iload (pc := 17) dX10_stretched_17 rfl ?_
    refine r_ifeq (pc := 19) (tgt := 31) dX10_stretched_19 rfl (by omega) (fun h19 => ?_) (fun h19 => ?_)
    · refine r_iload_n (pc := 31) dX10_stretched_31 rfl ?_
      exact f_iret (pc := 32) dX10_stretched_32 rfl (by assumption) (hQ _ (strS_end E12 (by omega)).symm (by omega))
    refine r_iload (pc := 22) dX10_stretched_22 rfl ?_
    refine r_aload_n (pc := 24) dX10_stretched_24 rfl ?_
    refine g_X10_18 (pc := 25) rfl dX10_stretched_25 (by assumption) (by first | assumption | rfl) (fun h25 => ?_)
    refine r_icmpne (pc := 28) (tgt := 33) dX10_stretched_28 rfl (by omega) (by omega) (fun h28 => ?_) (fun h28 => ?_)
    · have hb : 1 ≤ r12 ∧ r12 < w c 0 := by omega
      refine r_iload (pc := 33) dX10_stretched_33 rfl ?_
      refine r_iconst (pc := 35) (n := 1) dX10_stretched_35 ?_
      refine r_isub (pc := 36) dX10_stretched_36 ?_
      refine r_istore5 (pc := 37) dX10_stretched_37 rfl ?_
      refine r_iload_n (pc := 39) dX10_stretched_39 rfl ?_
      refine r_i2l (pc := 40) dX10_stretched_40 (by first | assumption | omega) ?_
      refine r_aload_n (pc := 41) dX10_stretched_41 rfl ?_
      refine r_iload (pc := 42) dX10_stretched_42 rfl ?_
      refine c_X10_41 (pc := 44) rfl dX10_stretched_44 (by first | assumption | rfl) (by omega) (Nat.le_of_ble_eq_true rfl) ?_
      refine m_X10_sourceLength (d - 1) (by omega) (by assumption) (by assumption) (by assumption) (by omega) (fun r44 e44 b44 => ?_)
      refine r_i2l (pc := 47) dX10_stretched_47 (by first | assumption | omega) ?_
      refine r_lmul (pc := 48) dX10_stretched_48 ?_
      refine r_aload_n (pc := 49) dX10_stretched_49 rfl ?_
      refine r_iload (pc := 50) dX10_stretched_50 rfl ?_
      refine c_X10_38 (pc := 52) rfl dX10_stretched_52 (by first | assumption | rfl) (by omega) (Nat.le_of_ble_eq_true rfl) ?_
      refine m_X10_targetLength (d - 1) (by omega) (by assumption) (by assumption) (by assumption) (by omega) (fun r52 e52 b52 => ?_)
      refine r_i2l (pc := 55) dX10_stretched_55 (by first | assumption | omega) ?_
      refine c_X10_44 (pc := 56) rfl dX10_stretched_56 (by omega) (Nat.le_of_ble_eq_true rfl) ?_
      refine m_X11_round (d - 1) (by omega) (by assumption) (by omega) (fun r56 e56 => ?_)
      refine r_sipush (pc := 59) (n := 9999) dX10_stretched_59 (by decide) ?_
      refine c_X10_48 (pc := 62) rfl dX10_stretched_62 (by omega) (Nat.le_of_ble_eq_true rfl) ?_
      have R56 : R64 r56 := by
        rw [e56]
        exact rndW_r _ _
      refine m_X11_limited (d - 1) (by omega) (by assumption) (by omega) (by omega) (fun r62 e62 b62 => ?_)
      exact f_iret (pc := 65) dX10_stretched_65 rfl (by assumption) (hQ _ (by rw [e62, e56, e44, e52, show r12 - 1 + 1 = r12 by omega]; exact (strS_mid E12 (by omega)).symm) (by omega))
    refine r_iload_n (pc := 31) dX10_stretched_31 rfl ?_
    exact f_iret (pc := 32) dX10_stretched_32 rfl (by assumption) (hQ _ (strS_end E12 (by omega)).symm (by omega))
  refine r_aload_n (pc := 0) dX10_stretched_0 rfl ?_
  refine r_iload_n (pc := 1) dX10_stretched_1 rfl ?_
  refine r_ifeq (pc := 2) (tgt := 11) dX10_stretched_2 rfl (by omega) (fun h2 => ?_) (fun h2 => ?_)
  · refine r_iload_n (pc := 11) dX10_stretched_11 rfl ?_
    rw [show some (vI t) = some (vI t) from rfl]
    have E := cut12
    rw [show t + o = t by omega] at E
    exact E
  refine r_iload_n (pc := 5) dX10_stretched_5 rfl ?_
  refine r_iconst (pc := 6) (n := 1) dX10_stretched_6 ?_
  refine r_iadd (pc := 7) dX10_stretched_7 ?_
  refine r_goto (pc := 8) (tgt := 12) dX10_stretched_8 rfl ?_
  rw [show t + 1 = t + o by omega]
  exact cut12
set_option maxRecDepth 8000 in
theorem m_X10_addTo {Q : Option AV → Wd → Prop} {w : Wd} (d : Nat) {c : Nat} {h : Int} (hd : 1 ≤ d) (hw : WR w) (hs : sh c = 10) (hn : 0 ≤ w c 0 ∧ w c 0 ≤ 8) (hQ : ∀ r, r = mapH h (w c 0) (w (c + 1)) (w (c + 2)) (w c 0).toNat → Q (some (vL r)) w) : M mX10_addTo (Rm d) [vR (some c), vL h] (fl w) (lQ Q) := by
  obtain ⟨s1, s2⟩ := sh_map hs
  refine f_mofv (L0 := [some (vR (some c)), some (vL h), none, none, none, none]) rfl (Nat.le_of_ble_eq_true rfl) rfl ?_
  have loop15 : ∀ n0 : Nat, ∀ k : Nat, (w c 0 - k).toNat = n0 → (k : Int) ≤ w c 0 → ∀ x : Int, x = mapH h (w c 0) (w (c + 1)) (w (c + 2)) k → V mX10_addTo (Rm d) 0 0 15 [some (vR (some c)), some (vL h), none, some (vL x), none, some (vI k)] [] (fl w) (lQ Q) := by
    refine ind_lt ?_
    intro n0 ih k hm hk x ex
    refine r_iload (pc := 15) dX10_addTo_15 rfl ?_
    refine r_aload_n (pc := 17) dX10_addTo_17 rfl ?_
    refine g_X10_18 (pc := 18) rfl dX10_addTo_18 (by assumption) (by first | assumption | rfl) (fun h18 => ?_)
    refine r_icmpge (pc := 21) (tgt := 64) dX10_addTo_21 rfl (by omega) (by omega) (fun h21 => ?_) (fun h21 => ?_)
    · refine r_lload_n (pc := 64) dX10_addTo_64 rfl ?_
      exact f_lret (pc := 65) dX10_addTo_65 rfl (by assumption) (hQ _ (by rw [ex, show k = (w c 0).toNat by omega]))
    refine r_ldc2 (pc := 24) (n := 31) dX10_addTo_24 kw_X10_52 rfl ?_
    refine r_lload_n (pc := 27) dX10_addTo_27 rfl ?_
    refine r_lmul (pc := 28) dX10_addTo_28 ?_
    refine r_aload_n (pc := 29) dX10_addTo_29 rfl ?_
    refine g_X10_9 (pc := 30) rfl dX10_addTo_30 (by first | assumption | rfl) ?_
    refine r_iload (pc := 33) dX10_addTo_33 rfl ?_
    refine c_X10_26 (pc := 35) rfl dX10_addTo_35 (by omega) (Nat.le_of_ble_eq_true rfl) ?_
    refine m_X11_at (d - 1) (by omega) (by assumption) (n := 8) (by assumption) (by omega) (by omega) (fun r35 e35 b35 => ?_)
    rw [gA_in (by omega) (by omega)] at e35
    refine r_i2l (pc := 38) dX10_addTo_38 (by first | assumption | omega) ?_
    refine r_ladd (pc := 39) dX10_addTo_39 ?_
    refine r_lstore3 (pc := 40) dX10_addTo_40 rfl ?_
    refine r_ldc2 (pc := 41) (n := 31) dX10_addTo_41 kw_X10_52 rfl ?_
    refine r_lload_n (pc := 44) dX10_addTo_44 rfl ?_
    refine r_lmul (pc := 45) dX10_addTo_45 ?_
    refine r_aload_n (pc := 46) dX10_addTo_46 rfl ?_
    refine g_X10_15 (pc := 47) rfl dX10_addTo_47 (by first | assumption | rfl) ?_
    refine r_iload (pc := 50) dX10_addTo_50 rfl ?_
    refine c_X10_26 (pc := 52) rfl dX10_addTo_52 (by omega) (Nat.le_of_ble_eq_true rfl) ?_
    refine m_X11_at (d - 1) (by omega) (by assumption) (n := 8) (by assumption) (by omega) (by omega) (fun r52 e52 b52 => ?_)
    rw [gA_in (by omega) (by omega)] at e52
    refine r_i2l (pc := 55) dX10_addTo_55 (by first | assumption | omega) ?_
    refine r_ladd (pc := 56) dX10_addTo_56 ?_
    refine r_lstore3 (pc := 57) dX10_addTo_57 rfl ?_
    refine r_iinc5 (pc := 58) dX10_addTo_58 rfl ?_
    refine r_goto (pc := 61) (tgt := 15) dX10_addTo_61 rfl ?_
    exact ih _ (by omega) (k + 1) rfl (by omega) _ (by rw [e35, e52, ex]; rfl)
  refine r_ldc2 (pc := 0) (n := 31) dX10_addTo_0 kw_X10_52 rfl ?_
  refine r_lload_n (pc := 3) dX10_addTo_3 rfl ?_
  refine r_lmul (pc := 4) dX10_addTo_4 ?_
  refine r_aload_n (pc := 5) dX10_addTo_5 rfl ?_
  refine g_X10_18 (pc := 6) rfl dX10_addTo_6 (by assumption) (by first | assumption | rfl) (fun h6 => ?_)
  refine r_i2l (pc := 9) dX10_addTo_9 (by first | assumption | omega) ?_
  refine r_ladd (pc := 10) dX10_addTo_10 ?_
  refine r_lstore3 (pc := 11) dX10_addTo_11 rfl ?_
  refine r_iconst (pc := 12) (n := 0) dX10_addTo_12 ?_
  refine r_istore5 (pc := 13) dX10_addTo_13 rfl ?_
  exact loop15 _ 0 rfl (by omega) _ rfl
