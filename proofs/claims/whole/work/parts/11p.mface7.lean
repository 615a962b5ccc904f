/-! the model's checksum -/
theorem mapH_s {h n : Int} {s g : Int → Int} {k : Nat} : mapH h n s g (k + 1) = 31 * (31 * mapH h n s g k + s k) + g k := rfl
theorem ckC_s {G : GS} {m : Nat} : ckC G (m + 1) = curH (ckC G m) (G.now.c m) := rfl
theorem kw_X12_298 : Jvm.Cond.constantLong RX12 298 (23 : Int64) ∈ gW := gw_t 1259 (by decide +kernel) (by decide +kernel)
set_option maxRecDepth 8000 in
theorem m_X12_moreOf {Q : Option AV → Wd → Prop} {w : Wd} (d : Nat) {h q : Int} (hd : 8 ≤ d) (hw : WR w) (hq : 0 ≤ q ∧ q ≤ 3) (I0 : CI (mx w q)) (hQ : ∀ r, r = curH h (mx w q) → Q (some (vL r)) w) : M mX12_moreOf (Rm d) [vR (some 385), vL h, vI q] (fl w) (lQ Q) := by
  have hn : 0 ≤ mx w q 0 0 ∧ mx w q 0 0 ≤ 24 := I0.1
  have B0 := I0.2.2.2
  refine f_mofv (L0 := [some (vR (some 385)), some (vL h), none, some (vI q), none, none, none]) rfl (Nat.le_of_ble_eq_true rfl) rfl ?_
  have loop138 : ∀ n0 : Nat, ∀ i : Nat, 17 - i = n0 → i ≤ 17 → (i = 0 ∨ 0 < mx w q 0 0) → ∀ x : Int, x = curHv h (mx w q) i → V mX12_moreOf (Rm d) 0 0 138 [some (vR (some 385)), some (vL h), none, some (vI q), some (vL x), none, some (vI (60 * i))] [] (fl w) (lQ Q) := by
    refine ind_lt ?_
    intro n0 ih i hm hi hz x hx
    refine r_iload (pc := 138) dX12_moreOf_138 rfl ?_
    refine r_sipush (pc := 140) (n := 960) dX12_moreOf_140 (by decide) ?_
    refine r_icmpgt (pc := 143) (tgt := 174) dX12_moreOf_143 rfl (by omega) (by omega) (fun h143 => ?_) (fun h143 => ?_)
    · refine r_lload (pc := 174) dX12_moreOf_174 rfl ?_
      exact f_lret (pc := 176) dX12_moreOf_176 rfl (by assumption) (hQ _ (by rw [hx, show i = 17 by omega]; exact curH_p (X := mx w q) (by omega)))
    refine r_aload_n (pc := 146) dX12_moreOf_146 rfl ?_
    refine r_iload_n (pc := 147) dX12_moreOf_147 rfl ?_
    refine c_X12_78 (pc := 148) rfl dX12_moreOf_148 (by first | assumption | rfl) (by omega) (Nat.le_of_ble_eq_true rfl) ?_
    refine m_X12_many (d - 1) (by omega) (by assumption) hq (fun r148 e148 b148 => ?_)
    refine r_ifle (pc := 151) (tgt := 174) dX12_moreOf_151 rfl (by omega) (fun h151 => ?_) (fun h151 => ?_)
    · refine r_lload (pc := 174) dX12_moreOf_174 rfl ?_
      exact f_lret (pc := 176) dX12_moreOf_176 rfl (by assumption) (hQ _ (by
            rw [hx, show i = 0 by omega]
            exact (if_neg (show ¬ 0 < mx w q 0 0 by omega)).symm))
    refine r_lload (pc := 154) dX12_moreOf_154 rfl ?_
    refine r_aload_n (pc := 156) dX12_moreOf_156 rfl ?_
    refine r_iload_n (pc := 157) dX12_moreOf_157 rfl ?_
    refine r_iload (pc := 158) dX12_moreOf_158 rfl ?_
    refine c_X12_133 (pc := 160) rfl dX12_moreOf_160 (by first | assumption | rfl) (by omega) (Nat.le_of_ble_eq_true rfl) ?_
    refine m_X12_valueAt (d - 1) (by omega) (by assumption) hq I0 (by omega) (by omega) (fun r160 e160 b160 => ?_)
    refine c_X12_294 (pc := 163) rfl dX12_moreOf_163 (by omega) (Nat.le_of_ble_eq_true rfl) ?_
    refine m_X12_more (d - 1) (by omega) (by assumption) (by omega) (fun r163 e163 => ?_)
    refine r_lstore4 (pc := 166) dX12_moreOf_166 rfl ?_
    refine r_iinc6 (pc := 168) dX12_moreOf_168 rfl ?_
    refine r_goto (pc := 171) (tgt := 138) dX12_moreOf_171 rfl ?_
    exact ih _ (by omega) (i + 1) rfl (by omega) (Or.inr (by omega)) _ (by rw [e163, e160, hx]; rfl)
  have loop14 : ∀ n0 : Nat, ∀ k : Nat, (mx w q 0 0 - k).toNat = n0 → (k : Int) ≤ mx w q 0 0 → ∀ x : Int, x = curHk h (mx w q) k → V mX12_moreOf (Rm d) 0 0 14 [some (vR (some 385)), some (vL h), none, some (vI q), some (vL x), none, some (vI k)] [] (fl w) (lQ Q) := by
    refine ind_lt ?_
    intro n0 ih k hm hk x hx
    refine r_iload (pc := 14) dX12_moreOf_14 rfl ?_
    refine r_aload_n (pc := 16) dX12_moreOf_16 rfl ?_
    refine r_iload_n (pc := 17) dX12_moreOf_17 rfl ?_
    refine c_X12_78 (pc := 18) rfl dX12_moreOf_18 (by first | assumption | rfl) (by omega) (Nat.le_of_ble_eq_true rfl) ?_
    refine m_X12_many (d - 1) (by omega) (by assumption) hq (fun r18 e18 b18 => ?_)
    refine r_icmpge (pc := 21) (tgt := 102) dX12_moreOf_21 rfl (by omega) (by omega) (fun h21 => ?_) (fun h21 => ?_)
    · refine r_lload (pc := 102) dX12_moreOf_102 rfl ?_
      refine r_bipush (pc := 104) (n := 10) dX12_moreOf_104 (by decide) ?_
      refine r_aload_n (pc := 106) dX12_moreOf_106 rfl ?_
      refine h_X12_7 (pc := 107) rfl dX12_moreOf_107 ?_
      refine r_iload_n (pc := 110) dX12_moreOf_110 rfl ?_
      refine r_iconst (pc := 111) (n := 1) dX12_moreOf_111 ?_
      refine r_iconst (pc := 112) (n := 0) dX12_moreOf_112 ?_
      refine c_X12_70 (pc := 113) rfl dX12_moreOf_113 (by omega) (Nat.le_of_ble_eq_true rfl) ?_
      refine m_X12_at (d - 1) (by omega) (by assumption) (fun r113 e113 => ?_)
      refine f_iald (pc := 116) dX12_moreOf_116 (n := 660) (by assumption) (by first | assumption | rfl) (by omega) (by omega) (by omega) (fun h116 => ?_)
      rw [mxR0 (w := w) (q := q) (j := 1) (i := r113) (by omega)] at h116 ⊢
      refine r_imul (pc := 117) dX12_moreOf_117 ?_
      refine r_aload_n (pc := 118) dX12_moreOf_118 rfl ?_
      refine h_X12_7 (pc := 119) rfl dX12_moreOf_119 ?_
      refine r_iload_n (pc := 122) dX12_moreOf_122 rfl ?_
      refine r_iconst (pc := 123) (n := 2) dX12_moreOf_123 ?_
      refine r_iconst (pc := 124) (n := 0) dX12_moreOf_124 ?_
      refine c_X12_70 (pc := 125) rfl dX12_moreOf_125 (by omega) (Nat.le_of_ble_eq_true rfl) ?_
      refine m_X12_at (d - 1) (by omega) (by assumption) (fun r125 e125 => ?_)
      refine f_iald (pc := 128) dX12_moreOf_128 (n := 660) (by assumption) (by first | assumption | rfl) (by omega) (by omega) (by omega) (fun h128 => ?_)
      rw [mxR0 (w := w) (q := q) (j := 2) (i := r125) (by omega)] at h128 ⊢
      refine r_iadd (pc := 129) dX12_moreOf_129 ?_
      refine c_X12_294 (pc := 130) rfl dX12_moreOf_130 (by omega) (Nat.le_of_ble_eq_true rfl) ?_
      refine m_X12_more (d - 1) (by omega) (by assumption) (by omega) (fun r130 e130 => ?_)
      refine r_lstore4 (pc := 133) dX12_moreOf_133 rfl ?_
      refine r_iconst (pc := 135) (n := 0) dX12_moreOf_135 ?_
      refine r_istore6 (pc := 136) dX12_moreOf_136 rfl ?_
      exact loop138 _ 0 rfl (by omega) (Or.inl rfl) _ (by rw [e130, hx]; exact curHv_0 (X := mx w q) (by omega))
    refine r_lload (pc := 24) dX12_moreOf_24 rfl ?_
    refine r_aload_n (pc := 26) dX12_moreOf_26 rfl ?_
    refine r_iload_n (pc := 27) dX12_moreOf_27 rfl ?_
    refine r_iload (pc := 28) dX12_moreOf_28 rfl ?_
    refine c_X12_82 (pc := 30) rfl dX12_moreOf_30 (by first | assumption | rfl) (by omega) (Nat.le_of_ble_eq_true rfl) ?_
    refine m_X12_frame (d - 1) (by omega) (by assumption) hq (by omega) (fun r30 e30 b30 => ?_)
    refine c_X12_294 (pc := 33) rfl dX12_moreOf_33 (by omega) (Nat.le_of_ble_eq_true rfl) ?_
    refine m_X12_more (d - 1) (by omega) (by assumption) (by omega) (fun r33 e33 => ?_)
    refine r_aload_n (pc := 36) dX12_moreOf_36 rfl ?_
    refine h_X12_7 (pc := 37) rfl dX12_moreOf_37 ?_
    refine r_iload_n (pc := 40) dX12_moreOf_40 rfl ?_
    refine r_bipush (pc := 41) (n := 28) dX12_moreOf_41 (by decide) ?_
    refine r_iload (pc := 43) dX12_moreOf_43 rfl ?_
    refine c_X12_70 (pc := 45) rfl dX12_moreOf_45 (by omega) (Nat.le_of_ble_eq_true rfl) ?_
    refine m_X12_at (d - 1) (by omega) (by assumption) (fun r45 e45 => ?_)
    refine f_iald (pc := 48) dX12_moreOf_48 (n := 660) (by assumption) (by first | assumption | rfl) (by omega) (by omega) (by omega) (fun h48 => ?_)
    rw [mxR2 (w := w) (q := q) (j := k) (i := r45) (by omega)] at h48 ⊢
    have P0 := I0.2.1 k (by omega) (by omega)
    refine c_X12_294 (pc := 49) rfl dX12_moreOf_49 (by omega) (Nat.le_of_ble_eq_true rfl) ?_
    refine m_X12_more (d - 1) (by omega) (by assumption) (by omega) (fun r49 e49 => ?_)
    refine r_aload_n (pc := 52) dX12_moreOf_52 rfl ?_
    refine h_X12_7 (pc := 53) rfl dX12_moreOf_53 ?_
    refine r_iload_n (pc := 56) dX12_moreOf_56 rfl ?_
    refine r_bipush (pc := 57) (n := 52) dX12_moreOf_57 (by decide) ?_
    refine r_iload (pc := 59) dX12_moreOf_59 rfl ?_
    refine c_X12_70 (pc := 61) rfl dX12_moreOf_61 (by omega) (Nat.le_of_ble_eq_true rfl) ?_
    refine m_X12_at (d - 1) (by omega) (by assumption) (fun r61 e61 => ?_)
    refine f_iald (pc := 64) dX12_moreOf_64 (n := 660) (by assumption) (by first | assumption | rfl) (by omega) (by omega) (by omega) (fun h64 => ?_)
    rw [mxR3 (w := w) (q := q) (j := k) (i := r61) (by omega)] at h64 ⊢
    refine c_X12_294 (pc := 65) rfl dX12_moreOf_65 (by omega) (Nat.le_of_ble_eq_true rfl) ?_
    refine m_X12_more (d - 1) (by omega) (by assumption) (by omega) (fun r65 e65 => ?_)
    refine r_lstore4 (pc := 68) dX12_moreOf_68 rfl ?_
    refine r_lload (pc := 70) dX12_moreOf_70 rfl ?_
    refine r_aload_n (pc := 72) dX12_moreOf_72 rfl ?_
    refine r_iload_n (pc := 73) dX12_moreOf_73 rfl ?_
    refine r_iload (pc := 74) dX12_moreOf_74 rfl ?_
    refine r_iconst (pc := 76) (n := 0) dX12_moreOf_76 ?_
    refine c_X12_122 (pc := 77) rfl dX12_moreOf_77 (by first | assumption | rfl) (by omega) (Nat.le_of_ble_eq_true rfl) ?_
    refine m_X12_slopeOf (d - 1) (by omega) (by assumption) hq I0 (by omega) (Or.inl rfl) (fun r77 e77 b77 => ?_)
    refine c_X12_294 (pc := 80) rfl dX12_moreOf_80 (by omega) (Nat.le_of_ble_eq_true rfl) ?_
    refine m_X12_more (d - 1) (by omega) (by assumption) (by omega) (fun r80 e80 => ?_)
    refine r_aload_n (pc := 83) dX12_moreOf_83 rfl ?_
    refine r_iload_n (pc := 84) dX12_moreOf_84 rfl ?_
    refine r_iload (pc := 85) dX12_moreOf_85 rfl ?_
    refine r_iconst (pc := 87) (n := 1) dX12_moreOf_87 ?_
    refine c_X12_122 (pc := 88) rfl dX12_moreOf_88 (by first | assumption | rfl) (by omega) (Nat.le_of_ble_eq_true rfl) ?_
    refine m_X12_slopeOf (d - 1) (by omega) (by assumption) hq I0 (by omega) (Or.inr rfl) (fun r88 e88 b88 => ?_)
    refine c_X12_294 (pc := 91) rfl dX12_moreOf_91 (by omega) (Nat.le_of_ble_eq_true rfl) ?_
    refine m_X12_more (d - 1) (by omega) (by assumption) (by omega) (fun r91 e91 => ?_)
    refine r_lstore4 (pc := 94) dX12_moreOf_94 rfl ?_
    refine r_iinc6 (pc := 96) dX12_moreOf_96 rfl ?_
    refine r_goto (pc := 99) (tgt := 14) dX12_moreOf_99 rfl ?_
    exact ih _ (by omega) (k + 1) rfl (by omega) _ (by rw [e91, e88, e80, e77, e65, e49, e33, e30, hx]; rfl)
  refine r_lload_n (pc := 0) dX12_moreOf_0 rfl ?_
  refine r_aload_n (pc := 1) dX12_moreOf_1 rfl ?_
  refine r_iload_n (pc := 2) dX12_moreOf_2 rfl ?_
  refine c_X12_78 (pc := 3) rfl dX12_moreOf_3 (by first | assumption | rfl) (by omega) (Nat.le_of_ble_eq_true rfl) ?_
  refine m_X12_many (d - 1) (by omega) (by assumption) hq (fun r3 e3 b3 => ?_)
  refine c_X12_294 (pc := 6) rfl dX12_moreOf_6 (by omega) (Nat.le_of_ble_eq_true rfl) ?_
  refine m_X12_more (d - 1) (by omega) (by assumption) (by omega) (fun r6 e6 => ?_)
  refine r_lstore4 (pc := 9) dX12_moreOf_9 rfl ?_
  refine r_iconst (pc := 11) (n := 0) dX12_moreOf_11 ?_
  refine r_istore6 (pc := 12) dX12_moreOf_12 rfl ?_
  exact loop14 _ 0 rfl (by omega) _ (by rw [e6, e3]; rfl)
set_option maxRecDepth 8000 in
theorem y_checksum {Q : Option AV → Wd → Prop} {w : Wd} (d : Nat) {G : GS} (hd : 13 ≤ d) (hw : WR w) (hG : GOK G) (hC : MOG G w) (hQ : ∀ r w2, r = o_checksum G → MOG G w2 → FRH w w2 → WR w2 → Q (some (vL r)) w2) : M mX12_checksum (Rm d) [vR (some 385)] (fl w) (lQ Q) := by
  have hp := MOG.hp hG hC
  have hG2 := GOK_rec hG
  have MI0 := hG.1.1
  have n0 := MI0.1
  have n8 := MI0.2.1
  have hMn : w 386 512 = G.now.n := hC.1.2.1
  have P3 := hC.1.2.2.1
  have hMs : ∀ j, 0 ≤ j → j < G.now.n → w 386 (513 + j) = G.now.s j := fun j a b => (P3 j a b).1
  have hMg : ∀ j, 0 ≤ j → j < G.now.n → w 386 (521 + j) = G.now.g j := fun j a b => (P3 j a b).2
  refine f_mofv (L0 := [some (vR (some 385)), none, none, none]) rfl (Nat.le_of_ble_eq_true rfl) rfl ?_
  have loop87 : ∀ n1 : Nat, ∀ i : Nat, 17 - i = n1 → i ≤ 17 → ∀ (w1 : Wd) (x : Int), x = ckA G (mapH (ckC G 4) G.now.n G.now.s G.now.g G.now.n.toNat) i → (∀ p, p ≠ 385 → (p < 395 ∨ 401 < p) → w1 p = w p) → w1 385 2 = w 385 2 → w1 385 4 = w 385 4 → WR w1 → V mX12_checksum (Rm d) 0 0 87 [some (vR (some 385)), some (vL x), none, some (vI (60 * i))] [] (fl w1) (lQ Q) := by
    refine ind_lt ?_
    intro n1 ih i hm hi w1 x hx hf1 hf2 hf4 hw1
    have C1 : MOG G w1 := MOG_kp hC (hf1 _ (by omega) (by omega)) (hf1 _ (by omega) (by omega)) (hf1 _ (by omega) (by omega)) hf2 hf4
    refine r_iload_n (pc := 87) dX12_checksum_87 rfl ?_
    refine r_sipush (pc := 88) (n := 960) dX12_checksum_88 (by decide) ?_
    refine r_icmpgt (pc := 91) (tgt := 110) dX12_checksum_91 rfl (by omega) (by omega) (fun h91 => ?_) (fun h91 => ?_)
    · refine r_lload_n (pc := 110) dX12_checksum_110 rfl ?_
      exact f_lret (pc := 111) dX12_checksum_111 rfl (by assumption) (hQ _ _ (by rw [hx, show i = 17 by omega]; rfl) C1 (fun p e => hf1 p (by omega) (by omega)) (by assumption))
    refine r_lload_n (pc := 94) dX12_checksum_94 rfl ?_
    refine r_aload_n (pc := 95) dX12_checksum_95 rfl ?_
    refine r_iload_n (pc := 96) dX12_checksum_96 rfl ?_
    refine c_X12_184 (pc := 97) rfl dX12_checksum_97 (by first | assumption | rfl) (by omega) (Nat.le_of_ble_eq_true rfl) ?_
    obtain ⟨Tm, lm, pm, tm1, tm2, tm3, tm4⟩ := C1.1.2.2.2
    refine m_X12_mixed (T := Tm) (len := lm) (q := pm) (e := G.now.f) (d - 1) (by omega) (by assumption) tm2 tm4 tm3 (fun p a b => C1.ci ⟨a, b⟩) (by omega) tm1 (fun r97 w97 f97 e97 b97 hw97 => ?_)
    have e97 : r97 = mixS G (60 * i) := e97.trans (MOG.mx hG C1 (60 * i))
    refine c_X12_294 (pc := 100) rfl dX12_checksum_100 (by omega) (Nat.le_of_ble_eq_true rfl) ?_
    refine m_X12_more (d - 1) (by omega) (by assumption) (by omega) (fun r100 e100 => ?_)
    refine r_lstore1 (pc := 103) dX12_checksum_103 rfl ?_
    refine r_iinc3 (pc := 104) dX12_checksum_104 rfl ?_
    refine r_goto (pc := 107) (tgt := 87) dX12_checksum_107 rfl ?_
    exact ih _ (by omega) (i + 1) rfl (by omega) w97 _ (by rw [e100, ckA_s, ← hx, e97]) (fun p e e3 => by rw [f97.1 p e e3]; exact hf1 p e e3) (by rw [f97.2 2 (by omega) (by omega) (by omega) (by omega)]; exact hf2) (by rw [f97.2 4 (by omega) (by omega) (by omega) (by omega)]; exact hf4) (by assumption)
  have loop39 : ∀ n1 : Nat, ∀ i : Nat, (G.now.n - i).toNat = n1 → (i : Int) ≤ G.now.n → ∀ x : Int, x = mapH (ckC G 4) G.now.n G.now.s G.now.g i → V mX12_checksum (Rm d) 0 0 39 [some (vR (some 385)), some (vL x), none, some (vI i)] [] (fl w) (lQ Q) := by
    refine ind_lt ?_
    intro n1 ih i hm hi x hx
    refine r_iload_n (pc := 39) dX12_checksum_39 rfl ?_
    refine r_aload_n (pc := 40) dX12_checksum_40 rfl ?_
    refine h_X12_7 (pc := 41) rfl dX12_checksum_41 ?_
    refine r_sipush (pc := 44) (n := 512) dX12_checksum_44 (by decide) ?_
    refine f_iald (pc := 47) dX12_checksum_47 (n := 660) (by assumption) (by first | assumption | rfl) (by omega) (by omega) (by omega) (fun h47 => ?_)
    rw [hMn] at h47 ⊢
    refine r_icmpge (pc := 48) (tgt := 85) dX12_checksum_48 rfl (by omega) (by omega) (fun h48 => ?_) (fun h48 => ?_)
    · refine r_iconst (pc := 85) (n := 0) dX12_checksum_85 ?_
      refine r_istore3 (pc := 86) dX12_checksum_86 rfl ?_
      exact loop87 _ 0 rfl (by omega) w _ (by rw [hx, show i = G.now.n.toNat by omega]; rfl) (fun _ _ _ => rfl) rfl rfl (by assumption)
    refine r_lload_n (pc := 51) dX12_checksum_51 rfl ?_
    refine r_aload_n (pc := 52) dX12_checksum_52 rfl ?_
    refine h_X12_7 (pc := 53) rfl dX12_checksum_53 ?_
    refine r_sipush (pc := 56) (n := 513) dX12_checksum_56 (by decide) ?_
    refine r_iload_n (pc := 59) dX12_checksum_59 rfl ?_
    refine r_iadd (pc := 60) dX12_checksum_60 ?_
    refine f_iald (pc := 61) dX12_checksum_61 (n := 660) (by assumption) (by first | assumption | rfl) (by omega) (by omega) (by omega) (fun h61 => ?_)
    rw [hMs i (by omega) (by omega)] at h61 ⊢
    have MI3 := MI0.2.2.1 i (by omega) (by omega)
    refine c_X12_294 (pc := 62) rfl dX12_checksum_62 (by omega) (Nat.le_of_ble_eq_true rfl) ?_
    refine m_X12_more (d - 1) (by omega) (by assumption) (by omega) (fun r62 e62 => ?_)
    refine r_aload_n (pc := 65) dX12_checksum_65 rfl ?_
    refine h_X12_7 (pc := 66) rfl dX12_checksum_66 ?_
    refine r_sipush (pc := 69) (n := 521) dX12_checksum_69 (by decide) ?_
    refine r_iload_n (pc := 72) dX12_checksum_72 rfl ?_
    refine r_iadd (pc := 73) dX12_checksum_73 ?_
    refine f_iald (pc := 74) dX12_checksum_74 (n := 660) (by assumption) (by first | assumption | rfl) (by omega) (by omega) (by omega) (fun h74 => ?_)
    rw [hMg i (by omega) (by omega)] at h74 ⊢
    refine c_X12_294 (pc := 75) rfl dX12_checksum_75 (by omega) (Nat.le_of_ble_eq_true rfl) ?_
    refine m_X12_more (d - 1) (by omega) (by assumption) (by omega) (fun r75 e75 => ?_)
    refine r_lstore1 (pc := 78) dX12_checksum_78 rfl ?_
    refine r_iinc3 (pc := 79) dX12_checksum_79 rfl ?_
    refine r_goto (pc := 82) (tgt := 39) dX12_checksum_82 rfl ?_
    exact ih _ (by omega) (i + 1) rfl (by omega) _ (by rw [e75, e62, hx, mapH_s])
  have loop6 : ∀ n0 : Nat, ∀ i : Nat, 4 - i = n0 → i ≤ 4 → ∀ x : Int, x = ckC G i → V mX12_checksum (Rm d) 0 0 6 [some (vR (some 385)), some (vL x), none, some (vI i)] [] (fl w) (lQ Q) := by
    refine ind_lt ?_
    intro n1 ih i hm hi x hx
    refine r_iload_n (pc := 6) dX12_checksum_6 rfl ?_
    refine r_iconst (pc := 7) (n := 4) dX12_checksum_7 ?_
    refine r_icmpge (pc := 8) (tgt := 24) dX12_checksum_8 rfl (by omega) (by omega) (fun h8 => ?_) (fun h8 => ?_)
    · refine r_lload_n (pc := 24) dX12_checksum_24 rfl ?_
      refine r_aload_n (pc := 25) dX12_checksum_25 rfl ?_
      refine h_X12_7 (pc := 26) rfl dX12_checksum_26 ?_
      refine r_sipush (pc := 29) (n := 512) dX12_checksum_29 (by decide) ?_
      refine f_iald (pc := 32) dX12_checksum_32 (n := 660) (by assumption) (by first | assumption | rfl) (by omega) (by omega) (by omega) (fun h32 => ?_)
      rw [hMn]
      refine c_X12_294 (pc := 33) rfl dX12_checksum_33 (by omega) (Nat.le_of_ble_eq_true rfl) ?_
      refine m_X12_more (d - 1) (by omega) (by assumption) (by omega) (fun r33 e33 => ?_)
      refine r_lstore1 (pc := 36) dX12_checksum_36 rfl ?_
      refine r_iconst (pc := 37) (n := 0) dX12_checksum_37 ?_
      refine r_istore3 (pc := 38) dX12_checksum_38 rfl ?_
      exact loop39 _ 0 rfl (by omega) _ (by rw [e33, hx, show i = 4 by omega]; rfl)
    refine r_aload_n (pc := 11) dX12_checksum_11 rfl ?_
    refine r_lload_n (pc := 12) dX12_checksum_12 rfl ?_
    refine r_iload_n (pc := 13) dX12_checksum_13 rfl ?_
    refine c_X12_300 (pc := 14) rfl dX12_checksum_14 (by first | assumption | rfl) (by omega) (Nat.le_of_ble_eq_true rfl) ?_
    refine m_X12_moreOf (d - 1) (by omega) (by assumption) ⟨by omega, by omega⟩ (hC.ci ⟨by omega, by omega⟩) (fun r14 e14 => ?_)
    refine r_lstore1 (pc := 17) dX12_checksum_17 rfl ?_
    refine r_iinc3 (pc := 18) dX12_checksum_18 rfl ?_
    refine r_goto (pc := 21) (tgt := 6) dX12_checksum_21 rfl ?_
    exact ih _ (by omega) (i + 1) rfl (by omega) _ (by rw [e14, hx, ckC_s]; exact curH_cg (hC.ci ⟨by omega, by omega⟩) (hC.cv ⟨by omega, by omega⟩).sy)
  refine r_ldc2 (pc := 0) (n := 23) dX12_checksum_0 kw_X12_298 rfl ?_
  refine r_lstore1 (pc := 3) dX12_checksum_3 rfl ?_
  refine r_iconst (pc := 4) (n := 0) dX12_checksum_4 ?_
  refine r_istore3 (pc := 5) dX12_checksum_5 rfl ?_
  exact loop6 _ 0 rfl (by omega) _ rfl
