/-! the model's calls, on -/
theorem MOG_map {G : GS} {w w2 : Wd} {n : Int} {s g : Int → Int} (hG : GOK G) (h : MOG G w) (f : ∀ p, p ≠ 386 → w2 p = w p) (f2 : ∀ j, (j < 512 ∨ 530 ≤ j) → w2 386 j = w 386 j) (e : w2 386 512 = n) (e2 : ∀ j, 0 ≤ j → j < n → w2 386 (513 + j) = s j ∧ w2 386 (521 + j) = g j) : MOG (setM G n s g) w2 := by
  obtain ⟨⟨h1, g2, g3, T, len, p, g4, g5, g6, g7⟩, h2, h3, h4, h5⟩ := h
  refine ⟨⟨fun q a b => ?_, e, e2, T, len, p, g4, by rw [f2 _ (by omega)]; exact g5, g6, fun j a b => by rw [f2 _ (by omega)]; exact g7 j a b⟩, by rw [f 385 (by omega)]; exact h2, by rw [f 387 (by omega)]; exact h3, by rw [f 385 (by omega)]; exact h4, by rw [f 388 (by omega)]; exact h5⟩
  have E := (mx_kp (w := w) (w2 := w2) (q := q) (fun j u v => f2 j (by omega))).ceq (h1 q a b).2.1.2
  exact ⟨(h1 q a b).1.tr E.v, (h1 q a b).2.eq E⟩
theorem mmap_s {w : Wd} {n a b x j : Int} (hj : 0 ≤ j ∧ j ≤ 7) (hn : 0 ≤ n ∧ n ≤ 7) : (up (up (up w 386 (513 + n) a) 386 (521 + n) b) 386 512 x) 386 (513 + j) = if j = n then a else w 386 (513 + j) := by
  rw [up_off (by omega), up_off (by omega)]
  by_cases z : j = n
  · rw [z, up_hit, if_pos rfl]
  · rw [up_off (by omega), if_neg z]
theorem mmap_g {w : Wd} {n a b x j : Int} (hj : 0 ≤ j ∧ j ≤ 7) (hn : 0 ≤ n ∧ n ≤ 7) : (up (up (up w 386 (513 + n) a) 386 (521 + n) b) 386 512 x) 386 (521 + j) = if j = n then b else w 386 (521 + j) := by
  rw [up_off (by omega)]
  by_cases z : j = n
  · rw [z, up_hit, if_pos rfl]
  · rw [up_off (by omega), up_off (by omega), if_neg z]
theorem kw_X12_139 : Jvm.Cond.constantFloat RX12 139 (1115684864 : UInt32) ∈ gW := gw_t 992 (by decide +kernel) (by decide +kernel)
theorem kw_X12_140 : Jvm.Cond.constantDouble RX12 140 (4634204016564240384 : UInt64) ∈ gW := gw_t 997 (by decide +kernel) (by decide +kernel)
set_option maxRecDepth 8000 in
theorem y_units {Q : Option AV → Wd → Prop} {w : Wd} (d : Nat) {G : GS} {q f : Int} (hd : 9 ≤ d) (hw : WR w) (hG : GOK G) (hC : MOG G w) (rq : R32 q) (rf : R32 f) (hQ : ∀ r, alike32 r (o_units G q f) = true → Q (some (vF r)) w) : M mX12_units (Rm d) [vR (some 385), vI q, vI f] (fl w) (lQ Q) := by
  have hp := MOG.hp hG hC
  have hG2 := GOK_rec hG
  refine f_mofv (L0 := [some (vR (some 385)), some (vI q), some (vI f)]) rfl (Nat.le_of_ble_eq_true rfl) rfl ?_
  refine r_aload_n (pc := 0) dX12_units_0 rfl ?_
  refine r_iload_n (pc := 1) dX12_units_1 rfl ?_
  refine r_iload_n (pc := 2) dX12_units_2 rfl ?_
  refine r_iload_n (pc := 3) dX12_units_3 rfl ?_
  refine c_X12_136 (pc := 4) rfl dX12_units_4 (by first | assumption | rfl) (by omega) (Nat.le_of_ble_eq_true rfl) ?_
  refine m_X12_isRange (d - 1) (by omega) (by assumption) (by omega) (by omega) (by omega) (fun r4 e4 b4 => ?_)
  have i4 := b2i_i e4
  refine r_ifeq (pc := 7) (tgt := 23) dX12_units_7 rfl (by omega) (fun h7 => ?_) (fun h7 => ?_)
  · refine r_fconst0 (pc := 23) dX12_units_23 ?_
    exact f_fret (pc := 24) dX12_units_24 rfl (by assumption) (hQ _ (by
        unfold o_units
        rw [if_neg (fun z => by
          have CV := hC.cv z.1
          have I0 := hC.ci z.1
          have e0 : G.now.c q 0 0 = mx w q 0 0 := CV.1
          have n0 := I0.1
          have z1 : 0 ≤ q ∧ q ≤ 3 := z.1
          have z2 := z.2.1
          have z3 := z.2.2
          omega)]
        exact alike32_refl _))
  have hq : 0 ≤ q ∧ q ≤ 3 := by omega
  have iq : inC q := hq
  have CV := hC.cv hq
  have I0 := hC.ci hq
  have hn : 0 ≤ mx w q 0 0 ∧ mx w q 0 0 ≤ 24 := I0.1
  have eN : G.now.c q 0 0 = mx w q 0 0 := CV.1
  refine r_aload_n (pc := 10) dX12_units_10 rfl ?_
  refine r_iload_n (pc := 11) dX12_units_11 rfl ?_
  refine r_iload_n (pc := 12) dX12_units_12 rfl ?_
  refine c_X12_133 (pc := 13) rfl dX12_units_13 (by first | assumption | rfl) (by omega) (Nat.le_of_ble_eq_true rfl) ?_
  refine m_X12_valueAt (d - 1) (by omega) (by assumption) hq I0 (by omega) (by omega) (fun r13 e13 b13 => ?_)
  refine r_i2f (pc := 16) dX12_units_16 ?_
  refine r_ldcf (pc := 17) dX12_units_17 kw_X12_139 ?_
  refine r_fdiv (pc := 19) dX12_units_19 (fun r19 a19 => ?_)
  refine r_goto (pc := 20) (tgt := 24) dX12_units_20 rfl ?_
  exact f_fret (pc := 24) dX12_units_24 rfl (by assumption) (hQ _ (by
        unfold o_units
        rw [if_pos ⟨iq, by omega, by omega⟩, ← valS_cg I0 CV.sy, ← e13]
        exact a19))
set_option maxRecDepth 8000 in
theorem y_mean {Q : Option AV → Wd → Prop} {w : Wd} (d : Nat) {G : GS} {q a b : Int} (hd : 9 ≤ d) (hw : WR w) (hG : GOK G) (hC : MOG G w) (rq : R32 q) (ra : R32 a) (rb : R32 b) (hQ : ∀ r, alike64 r (o_mean G q a b) = true → Q (some (vD r)) w) : M mX12_mean (Rm d) [vR (some 385), vI q, vI a, vI b] (fl w) (lQ Q) := by
  have hp := MOG.hp hG hC
  have hG2 := GOK_rec hG
  refine f_mofv (L0 := [some (vR (some 385)), some (vI q), some (vI a), some (vI b), none, none, none]) rfl (Nat.le_of_ble_eq_true rfl) rfl ?_
  have loop18 : (0 ≤ q ∧ q ≤ 3) → CI (mx w q) → (0 ≤ a ∧ a ≤ b ∧ b ≤ 960) → mx w q 0 0 ≠ 0 → ∀ n0 : Nat, ∀ m : Nat, (b - a + 1 - m).toNat = n0 → (m : Int) ≤ b - a + 1 → ∀ (x i : Int), x = meA (mx w q) a m → i = a + m → V mX12_mean (Rm d) 0 0 18 [some (vR (some 385)), some (vI q), some (vI a), some (vI b), some (vL x), none, some (vI i)] [] (fl w) (lQ Q) := by
    intro hq I0 hab hz
    have CV := hC.cv hq
    have eN : G.now.c q 0 0 = mx w q 0 0 := CV.1
    have hn : 0 ≤ mx w q 0 0 ∧ mx w q 0 0 ≤ 24 := I0.1
    refine ind_lt ?_
    intro n0 ih m hm hmb x i hx hi
    refine r_iload (pc := 18) dX12_mean_18 rfl ?_
    refine r_iload_n (pc := 20) dX12_mean_20 rfl ?_
    refine r_icmpgt (pc := 21) (tgt := 43) dX12_mean_21 rfl (by omega) (by omega) (fun h21 => ?_) (fun h21 => ?_)
    · refine r_lload (pc := 43) dX12_mean_43 rfl ?_
      refine r_l2d (pc := 45) dX12_mean_45 ?_
      refine r_ldc2d (pc := 46) dX12_mean_46 kw_X12_140 ?_
      refine r_iload_n (pc := 49) dX12_mean_49 rfl ?_
      refine r_iload_n (pc := 50) dX12_mean_50 rfl ?_
      refine r_isub (pc := 51) dX12_mean_51 ?_
      refine r_iconst (pc := 52) (n := 1) dX12_mean_52 ?_
      refine r_iadd (pc := 53) dX12_mean_53 ?_
      refine r_i2d (pc := 54) dX12_mean_54 ?_
      refine r_dmul (pc := 55) dX12_mean_55 (fun r55 a55 => ?_)
      refine r_ddiv (pc := 56) dX12_mean_56 (fun r56 a56 => ?_)
      exact f_dret (pc := 57) dX12_mean_57 rfl (by assumption) (hQ _ (by
            unfold o_mean
            rw [if_pos ⟨hq, by omega, by omega⟩, ← meA_cg I0 CV.sy, show (b - a + 1).toNat = m by omega, ← hx]
            exact alike64_ddr a55 a56))
    refine r_lload (pc := 24) dX12_mean_24 rfl ?_
    refine r_aload_n (pc := 26) dX12_mean_26 rfl ?_
    refine r_iload_n (pc := 27) dX12_mean_27 rfl ?_
    refine r_iload (pc := 28) dX12_mean_28 rfl ?_
    refine c_X12_133 (pc := 30) rfl dX12_mean_30 (by first | assumption | rfl) (by omega) (Nat.le_of_ble_eq_true rfl) ?_
    refine m_X12_valueAt (d - 1) (by omega) (by assumption) hq I0 (by omega) (by omega) (fun r30 e30 b30 => ?_)
    refine r_i2l (pc := 33) dX12_mean_33 (by first | assumption | omega) ?_
    refine r_ladd (pc := 34) dX12_mean_34 ?_
    refine r_lstore4 (pc := 35) dX12_mean_35 rfl ?_
    refine r_iinc6 (pc := 37) dX12_mean_37 rfl ?_
    refine r_goto (pc := 40) (tgt := 18) dX12_mean_40 rfl ?_
    exact ih _ (by omega) (m + 1) rfl (by omega) _ _ (by rw [hx, e30, hi]; rfl) (by omega)
  refine r_aload_n (pc := 0) dX12_mean_0 rfl ?_
  refine r_iload_n (pc := 1) dX12_mean_1 rfl ?_
  refine r_iload_n (pc := 2) dX12_mean_2 rfl ?_
  refine r_iload_n (pc := 3) dX12_mean_3 rfl ?_
  refine c_X12_136 (pc := 4) rfl dX12_mean_4 (by first | assumption | rfl) (by omega) (Nat.le_of_ble_eq_true rfl) ?_
  refine m_X12_isRange (d - 1) (by omega) (by assumption) (by omega) (by omega) (by omega) (fun r4 e4 b4 => ?_)
  have i4 := b2i_i e4
  refine r_ifne (pc := 7) (tgt := 12) dX12_mean_7 rfl (by omega) (fun h7 => ?_) (fun h7 => ?_)
  · have hq : 0 ≤ q ∧ q ≤ 3 := by omega
    have iq : inC q := hq
    have CV := hC.cv hq
    have I0 := hC.ci hq
    have hn : 0 ≤ mx w q 0 0 ∧ mx w q 0 0 ≤ 24 := I0.1
    have eN : G.now.c q 0 0 = mx w q 0 0 := CV.1
    refine r_lconst0 (pc := 12) dX12_mean_12 ?_
    refine r_lstore4 (pc := 13) dX12_mean_13 rfl ?_
    refine r_iload_n (pc := 15) dX12_mean_15 rfl ?_
    refine r_istore6 (pc := 16) dX12_mean_16 rfl ?_
    exact loop18 hq I0 (by omega) (by omega) _ 0 rfl (by omega) _ _ rfl (by omega)
  refine r_dconst0 (pc := 10) dX12_mean_10 ?_
  exact f_dret (pc := 11) dX12_mean_11 rfl (by assumption) (hQ _ (by
      unfold o_mean
      rw [if_neg (fun z => by
        have CV := hC.cv z.1
        have I0 := hC.ci z.1
        have e0 : G.now.c q 0 0 = mx w q 0 0 := CV.1
        have n0 := I0.1
        have z1 : 0 ≤ q ∧ q ≤ 3 := z.1
        have z2 := z.2.1
        have z3 := z.2.2
        omega)]
      exact alike64_refl _))
set_option maxRecDepth 8000 in
theorem y_extreme {Q : Option AV → Wd → Prop} {w : Wd} (d : Nat) {G : GS} {q a b o : Int} (hd : 9 ≤ d) (hw : WR w) (hG : GOK G) (hC : MOG G w) (rq : R32 q) (ra : R32 a) (rb : R32 b) (ro : R32 o) (ho : o = 0 ∨ o = 1) (hQ : ∀ r, r = o_extreme G q a b o → Q (some (vI r)) w) : M mX12_extreme (Rm d) [vR (some 385), vI q, vI a, vI b, vI o] (fl w) (lQ Q) := by
  have hp := MOG.hp hG hC
  have hG2 := GOK_rec hG
  refine f_mofv (L0 := [some (vR (some 385)), some (vI q), some (vI a), some (vI b), some (vI o), none, none, none, none]) rfl (Nat.le_of_ble_eq_true rfl) rfl ?_
  have loop62 : (0 ≤ q ∧ q ≤ 3) → CI (mx w q) → (0 ≤ a ∧ a ≤ b ∧ b ≤ 960) → mx w q 0 0 ≠ 0 → ∀ n0 : Nat, ∀ m : Nat, (b - a - m).toNat = n0 → a + m ≤ b → ∀ (x y i : Int) (o8 : Option AV), x = (exA (mx w q) a o m).1 → y = (exA (mx w q) a o m).2 → R32 x → R32 y → i = a + m + 1 → V mX12_extreme (Rm d) 0 0 62 [some (vR (some 385)), some (vI q), some (vI a), some (vI b), some (vI o), some (vI x), some (vI y), some (vI i), o8] [] (fl w) (lQ Q) := by
    intro hq I0 hab hz
    have CV := hC.cv hq
    have eN : G.now.c q 0 0 = mx w q 0 0 := CV.1
    have hn : 0 ≤ mx w q 0 0 ∧ mx w q 0 0 ≤ 24 := I0.1
    have iq : inC q := hq
    refine ind_lt ?_
    intro n0 ih m hm hmb x y i o8 hx hy rx ry hi
    refine r_iload (pc := 62) dX12_extreme_62 rfl ?_
    refine r_iload_n (pc := 64) dX12_extreme_64 rfl ?_
    refine r_icmpgt (pc := 65) (tgt := 113) dX12_extreme_65 rfl (by omega) (by omega) (fun h65 => ?_) (fun h65 => ?_)
    · refine r_iload (pc := 113) dX12_extreme_113 rfl ?_
      exact f_iret (pc := 115) dX12_extreme_115 rfl (by assumption) (hQ _ (by unfold o_extreme; rw [if_neg (fun z => z iq), if_neg (by omega), if_neg (by omega), hx, show (b - a).toNat = m by omega, exA_cg I0 CV.sy]))
    refine r_aload_n (pc := 68) dX12_extreme_68 rfl ?_
    refine r_iload_n (pc := 69) dX12_extreme_69 rfl ?_
    refine r_iload (pc := 70) dX12_extreme_70 rfl ?_
    refine c_X12_133 (pc := 72) rfl dX12_extreme_72 (by first | assumption | rfl) (by omega) (Nat.le_of_ble_eq_true rfl) ?_
    refine m_X12_valueAt (d - 1) (by omega) (by assumption) hq I0 (by omega) (by omega) (fun r72 e72 b72 => ?_)
    have e72 : r72 = valS (mx w q) (a + m + 1) := by rw [e72, hi]
    have ES : exA (mx w q) a o (m + 1) = if (o = 0 ∧ valS (mx w q) (a + m + 1) < (exA (mx w q) a o m).2) ∨ (o ≠ 0 ∧ (exA (mx w q) a o m).2 < valS (mx w q) (a + m + 1)) then (a + m + 1, valS (mx w q) (a + m + 1)) else exA (mx w q) a o m := rfl
    refine r_istore8 (pc := 75) dX12_extreme_75 rfl ?_
    refine r_iload (pc := 77) dX12_extreme_77 rfl ?_
    refine r_ifeq (pc := 79) (tgt := 92) dX12_extreme_79 rfl (by omega) (fun h79 => ?_) (fun h79 => ?_)
    · refine r_iload (pc := 92) dX12_extreme_92 rfl ?_
      refine r_iload (pc := 94) dX12_extreme_94 rfl ?_
      refine r_icmpge (pc := 96) (tgt := 107) dX12_extreme_96 rfl (by omega) (by omega) (fun h96 => ?_) (fun h96 => ?_)
      · have E := ES.trans (if_neg (by omega))
        refine r_iinc7 (pc := 107) dX12_extreme_107 rfl ?_
        refine r_goto (pc := 110) (tgt := 62) dX12_extreme_110 rfl ?_
        first
        | exact ih _ (by omega) (m + 1) rfl (by omega) x y _ _ (by rw [E]; exact hx) (by rw [E]; exact hy) (by omega) (by omega) (by omega)
        | exact ih _ (by omega) (m + 1) rfl (by omega) i r72 _ _ (by rw [E]; exact hi) (by rw [E]; exact e72) (by omega) (by omega) (by omega)
      have E := ES.trans (if_pos (by omega))
      refine r_iload (pc := 99) dX12_extreme_99 rfl ?_
      refine r_istore5 (pc := 101) dX12_extreme_101 rfl ?_
      refine r_iload (pc := 103) dX12_extreme_103 rfl ?_
      refine r_istore6 (pc := 105) dX12_extreme_105 rfl ?_
      refine r_iinc7 (pc := 107) dX12_extreme_107 rfl ?_
      refine r_goto (pc := 110) (tgt := 62) dX12_extreme_110 rfl ?_
      first
      | exact ih _ (by omega) (m + 1) rfl (by omega) x y _ _ (by rw [E]; exact hx) (by rw [E]; exact hy) (by omega) (by omega) (by omega)
      | exact ih _ (by omega) (m + 1) rfl (by omega) i r72 _ _ (by rw [E]; exact hi) (by rw [E]; exact e72) (by omega) (by omega) (by omega)
    refine r_iload (pc := 82) dX12_extreme_82 rfl ?_
    refine r_iload (pc := 84) dX12_extreme_84 rfl ?_
    refine r_icmple (pc := 86) (tgt := 107) dX12_extreme_86 rfl (by omega) (by omega) (fun h86 => ?_) (fun h86 => ?_)
    · have E := ES.trans (if_neg (by omega))
      refine r_iinc7 (pc := 107) dX12_extreme_107 rfl ?_
      refine r_goto (pc := 110) (tgt := 62) dX12_extreme_110 rfl ?_
      first
      | exact ih _ (by omega) (m + 1) rfl (by omega) x y _ _ (by rw [E]; exact hx) (by rw [E]; exact hy) (by omega) (by omega) (by omega)
      | exact ih _ (by omega) (m + 1) rfl (by omega) i r72 _ _ (by rw [E]; exact hi) (by rw [E]; exact e72) (by omega) (by omega) (by omega)
    have E := ES.trans (if_pos (by omega))
    refine r_goto (pc := 89) (tgt := 99) dX12_extreme_89 rfl ?_
    refine r_iload (pc := 99) dX12_extreme_99 rfl ?_
    refine r_istore5 (pc := 101) dX12_extreme_101 rfl ?_
    refine r_iload (pc := 103) dX12_extreme_103 rfl ?_
    refine r_istore6 (pc := 105) dX12_extreme_105 rfl ?_
    refine r_iinc7 (pc := 107) dX12_extreme_107 rfl ?_
    refine r_goto (pc := 110) (tgt := 62) dX12_extreme_110 rfl ?_
    first
    | exact ih _ (by omega) (m + 1) rfl (by omega) x y _ _ (by rw [E]; exact hx) (by rw [E]; exact hy) (by omega) (by omega) (by omega)
    | exact ih _ (by omega) (m + 1) rfl (by omega) i r72 _ _ (by rw [E]; exact hi) (by rw [E]; exact e72) (by omega) (by omega) (by omega)
  refine r_iload_n (pc := 0) dX12_extreme_0 rfl ?_
  refine c_X12_74 (pc := 1) rfl dX12_extreme_1 (by omega) (Nat.le_of_ble_eq_true rfl) ?_
  refine m_X12_isCurve (d - 1) (by omega) (by assumption) (by omega) (fun r1 e1 b1 => ?_)
  have i1 := b2i_i e1
  refine r_ifne (pc := 4) (tgt := 10) dX12_extreme_4 rfl (by omega) (fun h4 => ?_) (fun h4 => ?_)
  · have hq : 0 ≤ q ∧ q ≤ 3 := by omega
    have iq : inC q := hq
    have CV := hC.cv hq
    have I0 := hC.ci hq
    have hn : 0 ≤ mx w q 0 0 ∧ mx w q 0 0 ≤ 24 := I0.1
    have eN : G.now.c q 0 0 = mx w q 0 0 := CV.1
    refine r_iload_n (pc := 10) dX12_extreme_10 rfl ?_
    refine r_iconst (pc := 11) (n := 0) dX12_extreme_11 ?_
    refine r_sipush (pc := 12) (n := 960) dX12_extreme_12 (by decide) ?_
    refine c_X12_66 (pc := 15) rfl dX12_extreme_15 (by omega) (Nat.le_of_ble_eq_true rfl) ?_
    refine m_X12_in (d - 1) (by omega) (by assumption) (by omega) (by omega) (by omega) (fun r15 e15 b15 => ?_)
    have i15 := b2i_i e15
    refine r_ifeq (pc := 18) (tgt := 32) dX12_extreme_18 rfl (by omega) (fun h18 => ?_) (fun h18 => ?_)
    · refine r_ldc (pc := 32) (n := -1000000002) dX12_extreme_32 kw_X12_132 rfl ?_
      exact f_iret (pc := 34) dX12_extreme_34 rfl (by assumption) (hQ _ (by unfold o_extreme; rw [if_neg (fun z => z iq), if_pos (by omega)]))
    refine r_iload_n (pc := 21) dX12_extreme_21 rfl ?_
    refine r_iload_n (pc := 22) dX12_extreme_22 rfl ?_
    refine r_sipush (pc := 23) (n := 960) dX12_extreme_23 (by decide) ?_
    refine c_X12_66 (pc := 26) rfl dX12_extreme_26 (by omega) (Nat.le_of_ble_eq_true rfl) ?_
    refine m_X12_in (d - 1) (by omega) (by assumption) (by omega) (by omega) (by omega) (fun r26 e26 b26 => ?_)
    have i26 := b2i_i e26
    refine r_ifne (pc := 29) (tgt := 35) dX12_extreme_29 rfl (by omega) (fun h29 => ?_) (fun h29 => ?_)
    · refine r_aload_n (pc := 35) dX12_extreme_35 rfl ?_
      refine r_iload_n (pc := 36) dX12_extreme_36 rfl ?_
      refine c_X12_78 (pc := 37) rfl dX12_extreme_37 (by first | assumption | rfl) (by omega) (Nat.le_of_ble_eq_true rfl) ?_
      refine m_X12_many (d - 1) (by omega) (by assumption) hq (fun r37 e37 b37 => ?_)
      subst e37
      refine r_ifne (pc := 40) (tgt := 46) dX12_extreme_40 rfl (by omega) (fun h40 => ?_) (fun h40 => ?_)
      · refine r_iload_n (pc := 46) dX12_extreme_46 rfl ?_
        refine r_istore5 (pc := 47) dX12_extreme_47 rfl ?_
        refine r_aload_n (pc := 49) dX12_extreme_49 rfl ?_
        refine r_iload_n (pc := 50) dX12_extreme_50 rfl ?_
        refine r_iload_n (pc := 51) dX12_extreme_51 rfl ?_
        refine c_X12_133 (pc := 52) rfl dX12_extreme_52 (by first | assumption | rfl) (by omega) (Nat.le_of_ble_eq_true rfl) ?_
        refine m_X12_valueAt (d - 1) (by omega) (by assumption) hq I0 (by omega) (by omega) (fun r52 e52 b52 => ?_)
        refine r_istore6 (pc := 55) dX12_extreme_55 rfl ?_
        refine r_iload_n (pc := 57) dX12_extreme_57 rfl ?_
        refine r_iconst (pc := 58) (n := 1) dX12_extreme_58 ?_
        refine r_iadd (pc := 59) dX12_extreme_59 ?_
        refine r_istore7 (pc := 60) dX12_extreme_60 rfl ?_
        exact loop62 hq I0 (by omega) (by omega) _ 0 rfl (by omega) _ _ _ _ rfl e52 (by omega) (by omega) (by omega)
      refine r_ldc (pc := 43) (n := -1000000005) dX12_extreme_43 kw_X12_90 rfl ?_
      exact f_iret (pc := 45) dX12_extreme_45 rfl (by assumption) (hQ _ (by unfold o_extreme; rw [if_neg (fun z => z iq), if_neg (by omega), if_pos (by omega)]))
    refine r_ldc (pc := 32) (n := -1000000002) dX12_extreme_32 kw_X12_132 rfl ?_
    exact f_iret (pc := 34) dX12_extreme_34 rfl (by assumption) (hQ _ (by unfold o_extreme; rw [if_neg (fun z => z iq), if_pos (by omega)]))
  refine r_ldc (pc := 7) (n := -1000000001) dX12_extreme_7 kw_X12_131 rfl ?_
  exact f_iret (pc := 9) dX12_extreme_9 rfl (by assumption) (hQ _ (by unfold o_extreme; rw [if_pos (fun z => by have z : 0 ≤ q ∧ q ≤ 3 := z; omega)]))
set_option maxRecDepth 8000 in
theorem y_crossings {Q : Option AV → Wd → Prop} {w : Wd} (d : Nat) {G : GS} {q a b l : Int} (hd : 9 ≤ d) (hw : WR w) (hG : GOK G) (hC : MOG G w) (rq : R32 q) (ra : R32 a) (rb : R32 b) (rl : R32 l) (hQ : ∀ r, r = o_crossings G q a b l → Q (some (vI r)) w) : M mX12_crossings (Rm d) [vR (some 385), vI q, vI a, vI b, vI l] (fl w) (lQ Q) := by
  have hp := MOG.hp hG hC
  have hG2 := GOK_rec hG
  refine f_mofv (L0 := [some (vR (some 385)), some (vI q), some (vI a), some (vI b), some (vI l), none, none]) rfl (Nat.le_of_ble_eq_true rfl) rfl ?_
  have cut116 : (0 ≤ q ∧ q ≤ 3) → CI (mx w q) → (0 ≤ a ∧ a ≤ b ∧ b ≤ 960) → mx w q 0 0 ≠ 0 → (-999 ≤ l ∧ l ≤ 999) → ∀ n0 m : Nat, (∀ n1 : Nat, n1 < n0 → ∀ m : Nat, (b - a - m).toNat = n1 → a + m ≤ b → ∀ (x i : Int), x = csA (mx w q) l a m → i = a + m → V mX12_crossings (Rm d) 0 0 66 [some (vR (some 385)), some (vI q), some (vI a), some (vI b), some (vI l), some (vI x), some (vI i)] [] (fl w) (lQ Q)) → (b - a - m).toNat = n0 → a + m + 1 ≤ b → ∀ (x i h : Int), x = csA (mx w q) l a m → i = a + m → ((h = 1 ∧ valS (mx w q) (a + m) < 64 * l) ∨ (h = 0 ∧ ¬ valS (mx w q) (a + m) < 64 * l)) → ∀ g : Int, ((g = 1 ∧ valS (mx w q) (a + m + 1) < 64 * l) ∨ (g = 0 ∧ ¬ valS (mx w q) (a + m + 1) < 64 * l)) → V mX12_crossings (Rm d) 0 0 116 [some (vR (some 385)), some (vI q), some (vI a), some (vI b), some (vI l), some (vI x), some (vI i)] [vI g, vI h, vI x] (fl w) (lQ Q) := by
    intro hq I0 hab hz
    have CV := hC.cv hq
    have eN : G.now.c q 0 0 = mx w q 0 0 := CV.1
    have hn : 0 ≤ mx w q 0 0 ∧ mx w q 0 0 ≤ 24 := I0.1
    have iq : inC q := hq
    intro hl
    intro n0 m ih hm hmb x i h hx hi hh g hg
    refine r_icmpeq (pc := 116) (tgt := 123) dX12_crossings_116 rfl (by omega) (by omega) (fun h116 => ?_) (fun h116 => ?_)
    · have E : x + 0 = csA (mx w q) l a (m + 1) := by
        unfold csA
        rw [if_neg (by omega)]
        omega
      refine r_iconst (pc := 123) (n := 0) dX12_crossings_123 ?_
      refine r_iadd (pc := 124) dX12_crossings_124 ?_
      refine r_istore5 (pc := 125) dX12_crossings_125 rfl ?_
      refine r_iinc6 (pc := 127) dX12_crossings_127 rfl ?_
      refine r_goto (pc := 130) (tgt := 66) dX12_crossings_130 rfl ?_
      exact ih _ (by omega) (m + 1) rfl (by omega) _ _ E (by omega)
    have E : x + 1 = csA (mx w q) l a (m + 1) := by
      unfold csA
      rw [if_pos (by omega)]
      omega
    refine r_iconst (pc := 119) (n := 1) dX12_crossings_119 ?_
    refine r_goto (pc := 120) (tgt := 124) dX12_crossings_120 rfl ?_
    refine r_iadd (pc := 124) dX12_crossings_124 ?_
    refine r_istore5 (pc := 125) dX12_crossings_125 rfl ?_
    refine r_iinc6 (pc := 127) dX12_crossings_127 rfl ?_
    refine r_goto (pc := 130) (tgt := 66) dX12_crossings_130 rfl ?_
    exact ih _ (by omega) (m + 1) rfl (by omega) _ _ E (by omega)
  have cut94 : (0 ≤ q ∧ q ≤ 3) → CI (mx w q) → (0 ≤ a ∧ a ≤ b ∧ b ≤ 960) → mx w q 0 0 ≠ 0 → (-999 ≤ l ∧ l ≤ 999) → ∀ n0 m : Nat, (∀ n1 : Nat, n1 < n0 → ∀ m : Nat, (b - a - m).toNat = n1 → a + m ≤ b → ∀ (x i : Int), x = csA (mx w q) l a m → i = a + m → V mX12_crossings (Rm d) 0 0 66 [some (vR (some 385)), some (vI q), some (vI a), some (vI b), some (vI l), some (vI x), some (vI i)] [] (fl w) (lQ Q)) → (b - a - m).toNat = n0 → a + m + 1 ≤ b → ∀ (x i h : Int), x = csA (mx w q) l a m → i = a + m → ((h = 1 ∧ valS (mx w q) (a + m) < 64 * l) ∨ (h = 0 ∧ ¬ valS (mx w q) (a + m) < 64 * l)) → V mX12_crossings (Rm d) 0 0 94 [some (vR (some 385)), some (vI q), some (vI a), some (vI b), some (vI l), some (vI x), some (vI i)] [vI h, vI x] (fl w) (lQ Q) := by
    intro hq I0 hab hz
    have CV := hC.cv hq
    have eN : G.now.c q 0 0 = mx w q 0 0 := CV.1
    have hn : 0 ≤ mx w q 0 0 ∧ mx w q 0 0 ≤ 24 := I0.1
    have iq : inC q := hq
    intro hl
    intro n0 m ih hm hmb x i h hx hi hh
    refine r_aload_n (pc := 94) dX12_crossings_94 rfl ?_
    refine r_iload_n (pc := 95) dX12_crossings_95 rfl ?_
    refine r_iload (pc := 96) dX12_crossings_96 rfl ?_
    refine r_iconst (pc := 98) (n := 1) dX12_crossings_98 ?_
    refine r_iadd (pc := 99) dX12_crossings_99 ?_
    refine c_X12_133 (pc := 100) rfl dX12_crossings_100 (by first | assumption | rfl) (by omega) (Nat.le_of_ble_eq_true rfl) ?_
    refine m_X12_valueAt (d - 1) (by omega) (by assumption) hq I0 (by omega) (by omega) (fun r100 e100 b100 => ?_)
    rw [hi] at e100
    refine r_bipush (pc := 103) (n := 64) dX12_crossings_103 (by decide) ?_
    refine r_iload (pc := 105) dX12_crossings_105 rfl ?_
    refine r_imul (pc := 107) dX12_crossings_107 ?_
    refine r_icmpge (pc := 108) (tgt := 115) dX12_crossings_108 rfl (by omega) (by omega) (fun h108 => ?_) (fun h108 => ?_)
    · refine r_iconst (pc := 115) (n := 0) dX12_crossings_115 ?_
      exact cut116 hq I0 hab hz hl n0 m ih hm hmb x i h hx hi hh 0 (Or.inr ⟨rfl, by omega⟩)
    refine r_iconst (pc := 111) (n := 1) dX12_crossings_111 ?_
    refine r_goto (pc := 112) (tgt := 116) dX12_crossings_112 rfl ?_
    exact cut116 hq I0 hab hz hl n0 m ih hm hmb x i h hx hi hh 1 (Or.inl ⟨rfl, by omega⟩)
  have loop66 : (0 ≤ q ∧ q ≤ 3) → CI (mx w q) → (0 ≤ a ∧ a ≤ b ∧ b ≤ 960) → mx w q 0 0 ≠ 0 → (-999 ≤ l ∧ l ≤ 999) → ∀ n0 : Nat, ∀ m : Nat, (b - a - m).toNat = n0 → a + m ≤ b → ∀ (x i : Int), x = csA (mx w q) l a m → i = a + m → V mX12_crossings (Rm d) 0 0 66 [some (vR (some 385)), some (vI q), some (vI a), some (vI b), some (vI l), some (vI x), some (vI i)] [] (fl w) (lQ Q) := by
    intro hq I0 hab hz
    have CV := hC.cv hq
    have eN : G.now.c q 0 0 = mx w q 0 0 := CV.1
    have hn : 0 ≤ mx w q 0 0 ∧ mx w q 0 0 ≤ 24 := I0.1
    have iq : inC q := hq
    intro hl
    refine ind_lt ?_
    intro n0 ih m hm hmb x i hx hi
    refine r_iload (pc := 66) dX12_crossings_66 rfl ?_
    refine r_iload_n (pc := 68) dX12_crossings_68 rfl ?_
    refine r_icmpge (pc := 69) (tgt := 133) dX12_crossings_69 rfl (by omega) (by omega) (fun h69 => ?_) (fun h69 => ?_)
    · refine r_iload (pc := 133) dX12_crossings_133 rfl ?_
      exact f_iret (pc := 135) dX12_crossings_135 rfl (by assumption) (hQ _ (by unfold o_crossings; rw [if_neg (fun z => z iq), if_neg (by omega), if_neg (by omega), hx, show (b - a).toNat = m by omega, csA_cg I0 CV.sy]))
    refine r_iload (pc := 72) dX12_crossings_72 rfl ?_
    refine r_aload_n (pc := 74) dX12_crossings_74 rfl ?_
    refine r_iload_n (pc := 75) dX12_crossings_75 rfl ?_
    refine r_iload (pc := 76) dX12_crossings_76 rfl ?_
    refine c_X12_133 (pc := 78) rfl dX12_crossings_78 (by first | assumption | rfl) (by omega) (Nat.le_of_ble_eq_true rfl) ?_
    refine m_X12_valueAt (d - 1) (by omega) (by assumption) hq I0 (by omega) (by omega) (fun r78 e78 b78 => ?_)
    rw [hi] at e78
    refine r_bipush (pc := 81) (n := 64) dX12_crossings_81 (by decide) ?_
    refine r_iload (pc := 83) dX12_crossings_83 rfl ?_
    refine r_imul (pc := 85) dX12_crossings_85 ?_
    refine r_icmpge (pc := 86) (tgt := 93) dX12_crossings_86 rfl (by omega) (by omega) (fun h86 => ?_) (fun h86 => ?_)
    · refine r_iconst (pc := 93) (n := 0) dX12_crossings_93 ?_
      exact cut94 hq I0 hab hz hl n0 m ih hm (by omega) x i 0 hx hi (Or.inr ⟨rfl, by omega⟩)
    refine r_iconst (pc := 89) (n := 1) dX12_crossings_89 ?_
    refine r_goto (pc := 90) (tgt := 94) dX12_crossings_90 rfl ?_
    exact cut94 hq I0 hab hz hl n0 m ih hm (by omega) x i 1 hx hi (Or.inl ⟨rfl, by omega⟩)
  refine r_iload_n (pc := 0) dX12_crossings_0 rfl ?_
  refine c_X12_74 (pc := 1) rfl dX12_crossings_1 (by omega) (Nat.le_of_ble_eq_true rfl) ?_
  refine m_X12_isCurve (d - 1) (by omega) (by assumption) (by omega) (fun r1 e1 b1 => ?_)
  have i1 := b2i_i e1
  refine r_ifne (pc := 4) (tgt := 10) dX12_crossings_4 rfl (by omega) (fun h4 => ?_) (fun h4 => ?_)
  · have hq : 0 ≤ q ∧ q ≤ 3 := by omega
    have iq : inC q := hq
    have CV := hC.cv hq
    have I0 := hC.ci hq
    have hn : 0 ≤ mx w q 0 0 ∧ mx w q 0 0 ≤ 24 := I0.1
    have eN : G.now.c q 0 0 = mx w q 0 0 := CV.1
    refine r_iload_n (pc := 10) dX12_crossings_10 rfl ?_
    refine r_iconst (pc := 11) (n := 0) dX12_crossings_11 ?_
    refine r_sipush (pc := 12) (n := 960) dX12_crossings_12 (by decide) ?_
    refine c_X12_66 (pc := 15) rfl dX12_crossings_15 (by omega) (Nat.le_of_ble_eq_true rfl) ?_
    refine m_X12_in (d - 1) (by omega) (by assumption) (by omega) (by omega) (by omega) (fun r15 e15 b15 => ?_)
    have i15 := b2i_i e15
    refine r_ifeq (pc := 18) (tgt := 46) dX12_crossings_18 rfl (by omega) (fun h18 => ?_) (fun h18 => ?_)
    · refine r_ldc (pc := 46) (n := -1000000002) dX12_crossings_46 kw_X12_132 rfl ?_
      exact f_iret (pc := 48) dX12_crossings_48 rfl (by assumption) (hQ _ (by unfold o_crossings; rw [if_neg (fun z => z iq), if_pos (by omega)]))
    refine r_iload_n (pc := 21) dX12_crossings_21 rfl ?_
    refine r_iload_n (pc := 22) dX12_crossings_22 rfl ?_
    refine r_sipush (pc := 23) (n := 960) dX12_crossings_23 (by decide) ?_
    refine c_X12_66 (pc := 26) rfl dX12_crossings_26 (by omega) (Nat.le_of_ble_eq_true rfl) ?_
    refine m_X12_in (d - 1) (by omega) (by assumption) (by omega) (by omega) (by omega) (fun r26 e26 b26 => ?_)
    have i26 := b2i_i e26
    refine r_ifeq (pc := 29) (tgt := 46) dX12_crossings_29 rfl (by omega) (fun h29 => ?_) (fun h29 => ?_)
    · refine r_ldc (pc := 46) (n := -1000000002) dX12_crossings_46 kw_X12_132 rfl ?_
      exact f_iret (pc := 48) dX12_crossings_48 rfl (by assumption) (hQ _ (by unfold o_crossings; rw [if_neg (fun z => z iq), if_pos (by omega)]))
    refine r_iload (pc := 32) dX12_crossings_32 rfl ?_
    refine r_sipush (pc := 34) (n := (-999)) dX12_crossings_34 (by decide) ?_
    refine r_sipush (pc := 37) (n := 999) dX12_crossings_37 (by decide) ?_
    refine c_X12_66 (pc := 40) rfl dX12_crossings_40 (by omega) (Nat.le_of_ble_eq_true rfl) ?_
    refine m_X12_in (d - 1) (by omega) (by assumption) (by omega) (by omega) (by omega) (fun r40 e40 b40 => ?_)
    have i40 := b2i_i e40
    refine r_ifne (pc := 43) (tgt := 49) dX12_crossings_43 rfl (by omega) (fun h43 => ?_) (fun h43 => ?_)
    · refine r_aload_n (pc := 49) dX12_crossings_49 rfl ?_
      refine r_iload_n (pc := 50) dX12_crossings_50 rfl ?_
      refine c_X12_78 (pc := 51) rfl dX12_crossings_51 (by first | assumption | rfl) (by omega) (Nat.le_of_ble_eq_true rfl) ?_
      refine m_X12_many (d - 1) (by omega) (by assumption) hq (fun r51 e51 b51 => ?_)
      subst e51
      refine r_ifne (pc := 54) (tgt := 60) dX12_crossings_54 rfl (by omega) (fun h54 => ?_) (fun h54 => ?_)
      · refine r_iconst (pc := 60) (n := 0) dX12_crossings_60 ?_
        refine r_istore5 (pc := 61) dX12_crossings_61 rfl ?_
        refine r_iload_n (pc := 63) dX12_crossings_63 rfl ?_
        refine r_istore6 (pc := 64) dX12_crossings_64 rfl ?_
        exact loop66 hq I0 (by omega) (by omega) (by omega) _ 0 rfl (by omega) _ _ rfl (by omega)
      refine r_ldc (pc := 57) (n := -1000000005) dX12_crossings_57 kw_X12_90 rfl ?_
      exact f_iret (pc := 59) dX12_crossings_59 rfl (by assumption) (hQ _ (by unfold o_crossings; rw [if_neg (fun z => z iq), if_neg (by omega), if_pos (by omega)]))
    refine r_ldc (pc := 46) (n := -1000000002) dX12_crossings_46 kw_X12_132 rfl ?_
    exact f_iret (pc := 48) dX12_crossings_48 rfl (by assumption) (hQ _ (by unfold o_crossings; rw [if_neg (fun z => z iq), if_pos (by omega)]))
  refine r_ldc (pc := 7) (n := -1000000001) dX12_crossings_7 kw_X12_131 rfl ?_
  exact f_iret (pc := 9) dX12_crossings_9 rfl (by assumption) (hQ _ (by unfold o_crossings; rw [if_pos (fun z => by have z : 0 ≤ q ∧ q ≤ 3 := z; omega)]))
set_option maxRecDepth 8000 in
theorem y_addPoint {Q : Option AV → Wd → Prop} {w : Wd} (d : Nat) {G : GS} {a b : Int} (hd : 3 ≤ d) (hw : WR w) (hG : GOK G) (hC : MOG G w) (ra : R32 a) (rb : R32 b) (hQ : ∀ r w2, r = (o_addPoint G a b).1 → MOG (o_addPoint G a b).2 w2 → FRH w w2 → WR w2 → Q (some (vI r)) w2) : M mX12_addPoint (Rm d) [vR (some 385), vI a, vI b] (fl w) (lQ Q) := by
  have hp := MOG.hp hG hC
  have hG2 := GOK_rec hG
  have MI0 := hG.1.1
  have n0 := MI0.1
  have n8 := MI0.2.1
  have hMn : w 386 512 = G.now.n := hC.1.2.1
  have P3 := hC.1.2.2.1
  have hMs : ∀ j, 0 ≤ j → j < G.now.n → w 386 (513 + j) = G.now.s j := fun j a b => (P3 j a b).1
  have hMg : ∀ j, 0 ≤ j → j < G.now.n → w 386 (521 + j) = G.now.g j := fun j a b => (P3 j a b).2
  have PS : G.now.n ≠ 0 → w 386 (513 + G.now.n - 1) = G.now.s (G.now.n - 1) ∧ w 386 (521 + G.now.n - 1) = G.now.g (G.now.n - 1) := fun z => by
    rw [show 513 + G.now.n - 1 = 513 + (G.now.n - 1) by omega, show 521 + G.now.n - 1 = 521 + (G.now.n - 1) by omega]
    exact P3 _ (by omega) (by omega)
  refine f_mofv (L0 := [some (vR (some 385)), some (vI a), some (vI b), none, none]) rfl (Nat.le_of_ble_eq_true rfl) rfl ?_
  have cut36 : ∀ (h : Int) (o4 : Option AV), (h = 1 ∧ (0 ≤ a ∧ a ≤ 480) ∧ (0 ≤ b ∧ b ≤ 480)) ∨ (h = 0 ∧ ¬ ((0 ≤ a ∧ a ≤ 480) ∧ (0 ≤ b ∧ b ≤ 480))) → V mX12_addPoint (Rm d) 0 0 36 [some (vR (some 385)), some (vI a), some (vI b), some (vI G.now.n), o4] [vI h] (fl w) (lQ Q) := by
    intro h o4 hh
    refine r_istore4 (pc := 36) dX12_addPoint_36 rfl ?_
    refine r_iload (pc := 38) dX12_addPoint_38 rfl ?_
    refine r_ifeq (pc := 40) (tgt := 79) dX12_addPoint_40 rfl (by omega) (fun h40 => ?_) (fun h40 => ?_)
    · have o : o_addPoint G a b = (-1000000002, G) := by
        unfold o_addPoint
        rw [if_pos (by clear PS P3 hMs hMg; omega)]
      refine r_ldc (pc := 79) (n := -1000000002) dX12_addPoint_79 kw_X12_132 rfl ?_
      exact f_iret (pc := 81) dX12_addPoint_81 rfl (by assumption) (hQ _ _ (fst_m o (by omega)) (snd_m o hC) (FRH.rf w) (by assumption))
    refine r_iload_n (pc := 43) dX12_addPoint_43 rfl ?_
    refine r_ifle (pc := 44) (tgt := 82) dX12_addPoint_44 rfl (by omega) (fun h44 => ?_) (fun h44 => ?_)
    · have OK : (0 ≤ a ∧ a ≤ 480) ∧ (0 ≤ b ∧ b ≤ 480) ∧ (G.now.n = 0 ∨ (a > G.now.s (G.now.n - 1) ∧ b > G.now.g (G.now.n - 1))) := by clear PS P3 hMs hMg; omega
      refine r_iload_n (pc := 82) dX12_addPoint_82 rfl ?_
      refine r_bipush (pc := 83) (n := 8) dX12_addPoint_83 (by decide) ?_
      refine r_icmpne (pc := 85) (tgt := 91) dX12_addPoint_85 rfl (by omega) (by omega) (fun h85 => ?_) (fun h85 => ?_)
      · refine r_aload_n (pc := 91) dX12_addPoint_91 rfl ?_
        refine c_X12_146 (pc := 92) rfl dX12_addPoint_92 (by first | assumption | rfl) (by omega) (Nat.le_of_ble_eq_true rfl) ?_
        refine m_X12_changes (d - 1) (by omega) (by assumption) hp (fun w92 c92 hw92 => ?_)
        obtain ⟨C92, F92⟩ := MOG_rec hG hC c92
        have FL92 : FRH w w92 := fun p e => F92 p (by omega) (by omega)
        refine r_aload_n (pc := 95) dX12_addPoint_95 rfl ?_
        refine h_X12_7 (pc := 96) rfl dX12_addPoint_96 ?_
        refine r_sipush (pc := 99) (n := 513) dX12_addPoint_99 (by decide) ?_
        refine r_iload_n (pc := 102) dX12_addPoint_102 rfl ?_
        refine r_iadd (pc := 103) dX12_addPoint_103 ?_
        refine r_iload_n (pc := 104) dX12_addPoint_104 rfl ?_
        refine f_iast (pc := 105) dX12_addPoint_105 (n := 660) (by assumption) (by first | assumption | rfl) (by omega) (by omega) (by omega) (by omega) (fun hw105 => ?_)
        refine r_aload_n (pc := 106) dX12_addPoint_106 rfl ?_
        refine h_X12_7 (pc := 107) rfl dX12_addPoint_107 ?_
        refine r_sipush (pc := 110) (n := 521) dX12_addPoint_110 (by decide) ?_
        refine r_iload_n (pc := 113) dX12_addPoint_113 rfl ?_
        refine r_iadd (pc := 114) dX12_addPoint_114 ?_
        refine r_iload_n (pc := 115) dX12_addPoint_115 rfl ?_
        refine f_iast (pc := 116) dX12_addPoint_116 (n := 660) (by assumption) (by first | assumption | rfl) (by omega) (by omega) (by omega) (by omega) (fun hw116 => ?_)
        refine r_aload_n (pc := 117) dX12_addPoint_117 rfl ?_
        refine h_X12_7 (pc := 118) rfl dX12_addPoint_118 ?_
        refine r_sipush (pc := 121) (n := 512) dX12_addPoint_121 (by decide) ?_
        refine r_dup2_11 (pc := 124) dX12_addPoint_124 rfl rfl ?_
        refine f_iald (pc := 125) dX12_addPoint_125 (n := 660) (by assumption) (by first | assumption | rfl) (by omega) (by omega) (by omega) (fun h125 => ?_)
        rw [up_off (by omega), up_off (by omega), F92 386 (by omega) (by omega), hMn]
        refine r_iconst (pc := 126) (n := 1) dX12_addPoint_126 ?_
        refine r_iadd (pc := 127) dX12_addPoint_127 ?_
        refine f_iast (pc := 128) dX12_addPoint_128 (n := 660) (by assumption) (by first | assumption | rfl) (by omega) (by omega) (by omega) (by omega) (fun hw128 => ?_)
        have o : o_addPoint G a b = (G.now.n + 1, setM (recG G) (G.now.n + 1) (updI G.now.s G.now.n a) (updI G.now.g G.now.n b)) := by
          unfold o_addPoint
          rw [if_neg (fun z => z OK), if_neg (by omega)]
        have C128 := MOG_map (w2 := up (up (up w92 386 (513 + G.now.n) a) 386 (521 + G.now.n) b) 386 512 (G.now.n + 1)) (n := G.now.n + 1) (s := updI G.now.s G.now.n a) (g := updI G.now.g G.now.n b) hG2 C92 (fun p e => by rw [up_ne e, up_ne e, up_ne e]) (fun j e => by rw [up_off (by omega), up_off (by omega), up_off (by omega)]) up_hit (fun j j0 j1 => by
          unfold updI
          rw [mmap_s (by omega) (by omega), mmap_g (by omega) (by omega)]
          by_cases z : j = G.now.n
          · rw [if_pos z, if_pos z, if_pos z, if_pos z]
            exact ⟨rfl, rfl⟩
          · rw [if_neg z, if_neg z, if_neg z, if_neg z, F92 386 (by omega) (by omega)]
            exact P3 j j0 (by omega))
        refine r_iload_n (pc := 129) dX12_addPoint_129 rfl ?_
        refine r_iconst (pc := 130) (n := 1) dX12_addPoint_130 ?_
        refine r_iadd (pc := 131) dX12_addPoint_131 ?_
        exact f_iret (pc := 132) dX12_addPoint_132 rfl (by assumption) (hQ _ _ (fst_m o rfl) (snd_m o C128) (FL92.tr (fun p e => by rw [up_ne (by omega), up_ne (by omega), up_ne (by omega)])) (by assumption))
      have o : o_addPoint G a b = (-1000000003, G) := by
        unfold o_addPoint
        rw [if_neg (fun z => z OK), if_pos (by omega)]
      refine r_ldc (pc := 88) (n := -1000000003) dX12_addPoint_88 kw_X12_145 rfl ?_
      exact f_iret (pc := 90) dX12_addPoint_90 rfl (by assumption) (hQ _ _ (fst_m o (by omega)) (snd_m o hC) (FRH.rf w) (by assumption))
    have PA := PS (by omega)
    refine r_iload_n (pc := 47) dX12_addPoint_47 rfl ?_
    refine r_aload_n (pc := 48) dX12_addPoint_48 rfl ?_
    refine h_X12_7 (pc := 49) rfl dX12_addPoint_49 ?_
    refine r_sipush (pc := 52) (n := 513) dX12_addPoint_52 (by decide) ?_
    refine r_iload_n (pc := 55) dX12_addPoint_55 rfl ?_
    refine r_iadd (pc := 56) dX12_addPoint_56 ?_
    refine r_iconst (pc := 57) (n := 1) dX12_addPoint_57 ?_
    refine r_isub (pc := 58) dX12_addPoint_58 ?_
    refine f_iald (pc := 59) dX12_addPoint_59 (n := 660) (by assumption) (by first | assumption | rfl) (by omega) (by omega) (by omega) (fun h59 => ?_)
    rw [PA.1] at h59 ⊢
    refine r_icmple (pc := 60) (tgt := 79) dX12_addPoint_60 rfl (by omega) (by omega) (fun h60 => ?_) (fun h60 => ?_)
    · have o : o_addPoint G a b = (-1000000002, G) := by
        unfold o_addPoint
        rw [if_pos (by clear PS P3 hMs hMg; omega)]
      refine r_ldc (pc := 79) (n := -1000000002) dX12_addPoint_79 kw_X12_132 rfl ?_
      exact f_iret (pc := 81) dX12_addPoint_81 rfl (by assumption) (hQ _ _ (fst_m o (by omega)) (snd_m o hC) (FRH.rf w) (by assumption))
    refine r_iload_n (pc := 63) dX12_addPoint_63 rfl ?_
    refine r_aload_n (pc := 64) dX12_addPoint_64 rfl ?_
    refine h_X12_7 (pc := 65) rfl dX12_addPoint_65 ?_
    refine r_sipush (pc := 68) (n := 521) dX12_addPoint_68 (by decide) ?_
    refine r_iload_n (pc := 71) dX12_addPoint_71 rfl ?_
    refine r_iadd (pc := 72) dX12_addPoint_72 ?_
    refine r_iconst (pc := 73) (n := 1) dX12_addPoint_73 ?_
    refine r_isub (pc := 74) dX12_addPoint_74 ?_
    refine f_iald (pc := 75) dX12_addPoint_75 (n := 660) (by assumption) (by first | assumption | rfl) (by omega) (by omega) (by omega) (fun h75 => ?_)
    rw [PA.2] at h75 ⊢
    refine r_icmpgt (pc := 76) (tgt := 82) dX12_addPoint_76 rfl (by omega) (by omega) (fun h76 => ?_) (fun h76 => ?_)
    · have OK : (0 ≤ a ∧ a ≤ 480) ∧ (0 ≤ b ∧ b ≤ 480) ∧ (G.now.n = 0 ∨ (a > G.now.s (G.now.n - 1) ∧ b > G.now.g (G.now.n - 1))) := by clear PS P3 hMs hMg; omega
      refine r_iload_n (pc := 82) dX12_addPoint_82 rfl ?_
      refine r_bipush (pc := 83) (n := 8) dX12_addPoint_83 (by decide) ?_
      refine r_icmpne (pc := 85) (tgt := 91) dX12_addPoint_85 rfl (by omega) (by omega) (fun h85 => ?_) (fun h85 => ?_)
      · refine r_aload_n (pc := 91) dX12_addPoint_91 rfl ?_
        refine c_X12_146 (pc := 92) rfl dX12_addPoint_92 (by first | assumption | rfl) (by omega) (Nat.le_of_ble_eq_true rfl) ?_
        refine m_X12_changes (d - 1) (by omega) (by assumption) hp (fun w92 c92 hw92 => ?_)
        obtain ⟨C92, F92⟩ := MOG_rec hG hC c92
        have FL92 : FRH w w92 := fun p e => F92 p (by omega) (by omega)
        refine r_aload_n (pc := 95) dX12_addPoint_95 rfl ?_
        refine h_X12_7 (pc := 96) rfl dX12_addPoint_96 ?_
        refine r_sipush (pc := 99) (n := 513) dX12_addPoint_99 (by decide) ?_
        refine r_iload_n (pc := 102) dX12_addPoint_102 rfl ?_
        refine r_iadd (pc := 103) dX12_addPoint_103 ?_
        refine r_iload_n (pc := 104) dX12_addPoint_104 rfl ?_
        refine f_iast (pc := 105) dX12_addPoint_105 (n := 660) (by assumption) (by first | assumption | rfl) (by omega) (by omega) (by omega) (by omega) (fun hw105 => ?_)
        refine r_aload_n (pc := 106) dX12_addPoint_106 rfl ?_
        refine h_X12_7 (pc := 107) rfl dX12_addPoint_107 ?_
        refine r_sipush (pc := 110) (n := 521) dX12_addPoint_110 (by decide) ?_
        refine r_iload_n (pc := 113) dX12_addPoint_113 rfl ?_
        refine r_iadd (pc := 114) dX12_addPoint_114 ?_
        refine r_iload_n (pc := 115) dX12_addPoint_115 rfl ?_
        refine f_iast (pc := 116) dX12_addPoint_116 (n := 660) (by assumption) (by first | assumption | rfl) (by omega) (by omega) (by omega) (by omega) (fun hw116 => ?_)
        refine r_aload_n (pc := 117) dX12_addPoint_117 rfl ?_
        refine h_X12_7 (pc := 118) rfl dX12_addPoint_118 ?_
        refine r_sipush (pc := 121) (n := 512) dX12_addPoint_121 (by decide) ?_
        refine r_dup2_11 (pc := 124) dX12_addPoint_124 rfl rfl ?_
        refine f_iald (pc := 125) dX12_addPoint_125 (n := 660) (by assumption) (by first | assumption | rfl) (by omega) (by omega) (by omega) (fun h125 => ?_)
        rw [up_off (by omega), up_off (by omega), F92 386 (by omega) (by omega), hMn]
        refine r_iconst (pc := 126) (n := 1) dX12_addPoint_126 ?_
        refine r_iadd (pc := 127) dX12_addPoint_127 ?_
        refine f_iast (pc := 128) dX12_addPoint_128 (n := 660) (by assumption) (by first | assumption | rfl) (by omega) (by omega) (by omega) (by omega) (fun hw128 => ?_)
        have o : o_addPoint G a b = (G.now.n + 1, setM (recG G) (G.now.n + 1) (updI G.now.s G.now.n a) (updI G.now.g G.now.n b)) := by
          unfold o_addPoint
          rw [if_neg (fun z => z OK), if_neg (by omega)]
        have C128 := MOG_map (w2 := up (up (up w92 386 (513 + G.now.n) a) 386 (521 + G.now.n) b) 386 512 (G.now.n + 1)) (n := G.now.n + 1) (s := updI G.now.s G.now.n a) (g := updI G.now.g G.now.n b) hG2 C92 (fun p e => by rw [up_ne e, up_ne e, up_ne e]) (fun j e => by rw [up_off (by omega), up_off (by omega), up_off (by omega)]) up_hit (fun j j0 j1 => by
          unfold updI
          rw [mmap_s (by omega) (by omega), mmap_g (by omega) (by omega)]
          by_cases z : j = G.now.n
          · rw [if_pos z, if_pos z, if_pos z, if_pos z]
            exact ⟨rfl, rfl⟩
          · rw [if_neg z, if_neg z, if_neg z, if_neg z, F92 386 (by omega) (by omega)]
            exact P3 j j0 (by omega))
        refine r_iload_n (pc := 129) dX12_addPoint_129 rfl ?_
        refine r_iconst (pc := 130) (n := 1) dX12_addPoint_130 ?_
        refine r_iadd (pc := 131) dX12_addPoint_131 ?_
        exact f_iret (pc := 132) dX12_addPoint_132 rfl (by assumption) (hQ _ _ (fst_m o rfl) (snd_m o C128) (FL92.tr (fun p e => by rw [up_ne (by omega), up_ne (by omega), up_ne (by omega)])) (by assumption))
      have o : o_addPoint G a b = (-1000000003, G) := by
        unfold o_addPoint
        rw [if_neg (fun z => z OK), if_pos (by omega)]
      refine r_ldc (pc := 88) (n := -1000000003) dX12_addPoint_88 kw_X12_145 rfl ?_
      exact f_iret (pc := 90) dX12_addPoint_90 rfl (by assumption) (hQ _ _ (fst_m o (by omega)) (snd_m o hC) (FRH.rf w) (by assumption))
    have o : o_addPoint G a b = (-1000000002, G) := by
      unfold o_addPoint
      rw [if_pos (by clear PS P3 hMs hMg; omega)]
    refine r_ldc (pc := 79) (n := -1000000002) dX12_addPoint_79 kw_X12_132 rfl ?_
    exact f_iret (pc := 81) dX12_addPoint_81 rfl (by assumption) (hQ _ _ (fst_m o (by omega)) (snd_m o hC) (FRH.rf w) (by assumption))
  refine r_aload_n (pc := 0) dX12_addPoint_0 rfl ?_
  refine h_X12_7 (pc := 1) rfl dX12_addPoint_1 ?_
  refine r_sipush (pc := 4) (n := 512) dX12_addPoint_4 (by decide) ?_
  refine f_iald (pc := 7) dX12_addPoint_7 (n := 660) (by assumption) (by first | assumption | rfl) (by omega) (by omega) (by omega) (fun h7 => ?_)
  rw [hMn]
  refine r_istore3 (pc := 8) dX12_addPoint_8 rfl ?_
  refine r_iload_n (pc := 9) dX12_addPoint_9 rfl ?_
  refine r_iconst (pc := 10) (n := 0) dX12_addPoint_10 ?_
  refine r_sipush (pc := 11) (n := 480) dX12_addPoint_11 (by decide) ?_
  refine c_X12_66 (pc := 14) rfl dX12_addPoint_14 (by omega) (Nat.le_of_ble_eq_true rfl) ?_
  refine m_X12_in (d - 1) (by omega) (by assumption) (by omega) (by omega) (by omega) (fun r14 e14 b14 => ?_)
  have i14 := b2i_i e14
  refine r_ifeq (pc := 17) (tgt := 35) dX12_addPoint_17 rfl (by omega) (fun h17 => ?_) (fun h17 => ?_)
  · refine r_iconst (pc := 35) (n := 0) dX12_addPoint_35 ?_
    exact cut36 0 _ (Or.inr ⟨rfl, by omega⟩)
  refine r_iload_n (pc := 20) dX12_addPoint_20 rfl ?_
  refine r_iconst (pc := 21) (n := 0) dX12_addPoint_21 ?_
  refine r_sipush (pc := 22) (n := 480) dX12_addPoint_22 (by decide) ?_
  refine c_X12_66 (pc := 25) rfl dX12_addPoint_25 (by omega) (Nat.le_of_ble_eq_true rfl) ?_
  refine m_X12_in (d - 1) (by omega) (by assumption) (by omega) (by omega) (by omega) (fun r25 e25 b25 => ?_)
  have i25 := b2i_i e25
  refine r_ifeq (pc := 28) (tgt := 35) dX12_addPoint_28 rfl (by omega) (fun h28 => ?_) (fun h28 => ?_)
  · refine r_iconst (pc := 35) (n := 0) dX12_addPoint_35 ?_
    exact cut36 0 _ (Or.inr ⟨rfl, by omega⟩)
  refine r_iconst (pc := 31) (n := 1) dX12_addPoint_31 ?_
  refine r_goto (pc := 32) (tgt := 36) dX12_addPoint_32 rfl ?_
  exact cut36 1 _ (Or.inl ⟨rfl, by omega⟩)
set_option maxRecDepth 8000 in
theorem y_clearMap {Q : Option AV → Wd → Prop} {w : Wd} (d : Nat) {G : GS} (hd : 2 ≤ d) (hw : WR w) (hG : GOK G) (hC : MOG G w) (hQ : ∀ r w2, r = (o_clearMap G).1 → MOG (o_clearMap G).2 w2 → FRH w w2 → WR w2 → Q (some (vI r)) w2) : M mX12_clearMap (Rm d) [vR (some 385)] (fl w) (lQ Q) := by
  have hp := MOG.hp hG hC
  have hG2 := GOK_rec hG
  have MI0 := hG.1.1
  have n0 := MI0.1
  have n8 := MI0.2.1
  have hMn : w 386 512 = G.now.n := hC.1.2.1
  have P3 := hC.1.2.2.1
  have hMs : ∀ j, 0 ≤ j → j < G.now.n → w 386 (513 + j) = G.now.s j := fun j a b => (P3 j a b).1
  have hMg : ∀ j, 0 ≤ j → j < G.now.n → w 386 (521 + j) = G.now.g j := fun j a b => (P3 j a b).2
  refine f_mofv (L0 := [some (vR (some 385)), none]) rfl (Nat.le_of_ble_eq_true rfl) rfl ?_
  refine r_aload_n (pc := 0) dX12_clearMap_0 rfl ?_
  refine c_X12_146 (pc := 1) rfl dX12_clearMap_1 (by first | assumption | rfl) (by omega) (Nat.le_of_ble_eq_true rfl) ?_
  refine m_X12_changes (d - 1) (by omega) (by assumption) hp (fun w1 c1 hw1 => ?_)
  obtain ⟨C1, F1⟩ := MOG_rec hG hC c1
  have FL1 : FRH w w1 := fun p e => F1 p (by omega) (by omega)
  refine r_aload_n (pc := 4) dX12_clearMap_4 rfl ?_
  refine h_X12_7 (pc := 5) rfl dX12_clearMap_5 ?_
  refine r_sipush (pc := 8) (n := 512) dX12_clearMap_8 (by decide) ?_
  refine f_iald (pc := 11) dX12_clearMap_11 (n := 660) (by assumption) (by first | assumption | rfl) (by omega) (by omega) (by omega) (fun h11 => ?_)
  rw [F1 386 (by omega) (by omega), hMn]
  refine r_istore1 (pc := 12) dX12_clearMap_12 rfl ?_
  refine r_aload_n (pc := 13) dX12_clearMap_13 rfl ?_
  refine h_X12_7 (pc := 14) rfl dX12_clearMap_14 ?_
  refine r_sipush (pc := 17) (n := 512) dX12_clearMap_17 (by decide) ?_
  refine r_iconst (pc := 20) (n := 0) dX12_clearMap_20 ?_
  refine f_iast (pc := 21) dX12_clearMap_21 (n := 660) (by assumption) (by first | assumption | rfl) (by omega) (by omega) (by omega) (by omega) (fun hw21 => ?_)
  refine r_iload_n (pc := 22) dX12_clearMap_22 rfl ?_
  exact f_iret (pc := 23) dX12_clearMap_23 rfl (by assumption) (hQ _ _ rfl (show MOG (setM (recG G) 0 G.now.s G.now.g) _ from MOG_map hG2 C1 (fun p e => up_ne e) (fun j e => up_off (by omega)) up_hit (fun j a b => by omega)) (FL1.tr (fun p e => up_ne (by omega))) (by assumption))
set_option maxRecDepth 8000 in
theorem y_mapped {Q : Option AV → Wd → Prop} {w : Wd} (d : Nat) {G : GS} {f : Int} (hd : 4 ≤ d) (hw : WR w) (hG : GOK G) (hC : MOG G w) (rf : R32 f) (hQ : ∀ r, r = o_mapped G f → Q (some (vI r)) w) : M mX12_mapped (Rm d) [vR (some 385), vI f] (fl w) (lQ Q) := by
  have hp := MOG.hp hG hC
  have hG2 := GOK_rec hG
  have MI0 := hG.1.1
  have n0 := MI0.1
  have n8 := MI0.2.1
  have hMn : w 386 512 = G.now.n := hC.1.2.1
  have P3 := hC.1.2.2.1
  have hMs : ∀ j, 0 ≤ j → j < G.now.n → w 386 (513 + j) = G.now.s j := fun j a b => (P3 j a b).1
  have hMg : ∀ j, 0 ≤ j → j < G.now.n → w 386 (521 + j) = G.now.g j := fun j a b => (P3 j a b).2
  refine f_mofv (L0 := [some (vR (some 385)), some (vI f)]) rfl (Nat.le_of_ble_eq_true rfl) rfl ?_
  refine r_iload_n (pc := 0) dX12_mapped_0 rfl ?_
  refine r_iconst (pc := 1) (n := 0) dX12_mapped_1 ?_
  refine r_sipush (pc := 2) (n := 480) dX12_mapped_2 (by decide) ?_
  refine c_X12_66 (pc := 5) rfl dX12_mapped_5 (by omega) (Nat.le_of_ble_eq_true rfl) ?_
  refine m_X12_in (d - 1) (by omega) (by assumption) (by omega) (by omega) (by omega) (fun r5 e5 b5 => ?_)
  have i5 := b2i_i e5
  refine r_ifeq (pc := 8) (tgt := 19) dX12_mapped_8 rfl (by omega) (fun h8 => ?_) (fun h8 => ?_)
  · refine r_ldc (pc := 19) (n := -1000000002) dX12_mapped_19 kw_X12_132 rfl ?_
    exact f_iret (pc := 21) dX12_mapped_21 rfl (by assumption) (hQ _ (by unfold o_mapped; rw [if_neg (by omega)]))
  refine r_aload_n (pc := 11) dX12_mapped_11 rfl ?_
  refine r_iload_n (pc := 12) dX12_mapped_12 rfl ?_
  refine c_X12_168 (pc := 13) rfl dX12_mapped_13 (by first | assumption | rfl) (by omega) (Nat.le_of_ble_eq_true rfl) ?_
  refine m_X12_sent (d - 1) (by omega) (by assumption) hMn hMs hMg MI0 (by omega) (fun r13 e13 b13 c13 => ?_)
  refine r_goto (pc := 16) (tgt := 21) dX12_mapped_16 rfl ?_
  exact f_iret (pc := 21) dX12_mapped_21 rfl (by assumption) (hQ _ (by unfold o_mapped; rw [if_pos (by omega)]; exact e13))
