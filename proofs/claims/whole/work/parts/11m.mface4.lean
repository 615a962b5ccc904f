/-! the model's calls, on: baking -/
theorem mul_up {i j e : Int} (he : 1 ≤ e) (h : j < i) : j * e < i * e := Int.mul_lt_mul_of_pos_right h (by omega)
set_option maxRecDepth 8000 in
theorem y_bake {Q : Option AV → Wd → Prop} {w : Wd} (d : Nat) {G : GS} {q a b e : Int} (hd : 10 ≤ d) (hw : WR w) (hG : GOK G) (hC : MOG G w) (rq : R32 q) (ra : R32 a) (rb : R32 b) (re : R32 e) (hQ : ∀ r w2, r = (o_bake G q a b e).1 → MOG (o_bake G q a b e).2 w2 → FRH w w2 → WR w2 → Q (some (vI r)) w2) : M mX12_bake (Rm d) [vR (some 385), vI q, vI a, vI b, vI e] (fl w) (lQ Q) := by
  have hp := MOG.hp hG hC
  have hG2 := GOK_rec hG
  refine f_mofv (L0 := [some (vR (some 385)), some (vI q), some (vI a), some (vI b), some (vI e), none]) rfl (Nat.le_of_ble_eq_true rfl) rfl ?_
  have loop65 : (0 ≤ q ∧ q ≤ 3) → CI (mx w q) → (0 ≤ a ∧ a ≤ b ∧ b ≤ 480) → (1 ≤ e ∧ e ≤ 480) → ouN (G.now.c q) a b + ((b - a) / e + 1) ≤ 24 → (0 ≤ (b - a) / e ∧ (b - a) / e ≤ 480) → mx w q 0 0 ≠ 0 → ∀ w59 : Wd, MOG (recG G) w59 → mx w59 q = mx w q → FRH w w59 → ∀ n0 : Nat, ∀ i : Nat, ((b - a) / e + 1 - i).toNat = n0 → (i : Int) ≤ (b - a) / e + 1 → ∀ (w1 : Wd) (f : Int), f = a + i * e → (∀ j : Int, 0 ≤ j → j < i → w1 389 (j * e) = rnV (valS (mx w q) (a + j * e))) → (∀ p, p ≠ 389 → w1 p = w59 p) → WR w1 → V mX12_bake (Rm d) 0 0 65 [some (vR (some 385)), some (vI q), some (vI a), some (vI b), some (vI e), some (vI f)] [] (fl w1) (lQ Q) := by
    intro hq I0 hab he hfit dv0 hz w59 C59 X59 FL59
    have CV := hC.cv hq
    have iq : inC q := hq
    have eN : G.now.c q 0 0 = mx w q 0 0 := CV.1
    have hn : 0 ≤ mx w q 0 0 ∧ mx w q 0 0 ≤ 24 := I0.1
    refine ind_lt ?_
    intro n0 ih i hm hi w1 f hf hv hf1 hw1
    have s0 : 0 ≤ (i : Int) * e := Int.mul_nonneg (by omega) (by omega)
    have s1 := steps_ub (x := b - a) (i := i) he.1 hi
    have X1 : mx w1 q = mx w q := by rw [← X59]; unfold mx; rw [hf1 386 (by omega)]
    have C1 : MOG (recG G) w1 := MOG_kp C59 (hf1 _ (by omega)) (hf1 _ (by omega)) (hf1 _ (by omega)) (by rw [hf1 _ (by omega)]) (by rw [hf1 _ (by omega)])
    refine r_iload (pc := 65) dX12_bake_65 rfl ?_
    refine r_iload_n (pc := 67) dX12_bake_67 rfl ?_
    refine r_icmpgt (pc := 68) (tgt := 101) dX12_bake_68 rfl (by omega) (by omega) (fun h68 => ?_) (fun h68 => ?_)
    · have sg := steps_ge (x := b - a) (i := i) he.1 (by omega)
      refine r_aload_n (pc := 101) dX12_bake_101 rfl ?_
      refine r_iload_n (pc := 102) dX12_bake_102 rfl ?_
      refine r_iload_n (pc := 103) dX12_bake_103 rfl ?_
      refine r_iload_n (pc := 104) dX12_bake_104 rfl ?_
      refine r_iload (pc := 105) dX12_bake_105 rfl ?_
      refine c_X12_180 (pc := 107) rfl dX12_bake_107 (by first | assumption | rfl) (by omega) (Nat.le_of_ble_eq_true rfl) ?_
      rw [show (i : Int) = (b - a) / e + 1 by omega] at hv
      have hfit2 : mx w q 0 0 - (kbX (mx w q) (b + 1) - kbX (mx w q) a) + ((b - a) / e + 1) ≤ 24 := by
        have z : ouN (mx w q) a b = mx w q 0 0 - (kbX (mx w q) (b + 1) - kbX (mx w q) a) := rfl
        have y := ouN_cg CV a b
        omega
      refine m_X12_bakes (g := fun i => rnV (valS (mx w q) (a + i * e))) (d - 1) (by omega) (by assumption) hq (by rw [X1]; exact I0) hab he (by rw [X1]; exact hfit2) (fun j hj => ⟨hv j (by omega) (by omega), rnV_bd _⟩) (fun r107 w107 e107 f107 c107 hw107 => ?_)
      rw [X1] at e107 c107
      have e107 : r107 = ouN (mx w q) a b + ((b - a) / e + 1) := e107
      have e107 : r107 = ouN (G.now.c q) a b + ((b - a) / e + 1) := by rw [e107, ouN_cg CV]
      have c107 : CEQ (mx w107 q) (bkX (mx w q) (fun i => rnV (valS (mx w q) (a + i * e))) a b e) := c107
      have K107 : CEV (bkX (G.now.c q) (fun i => rnV (valS (G.now.c q) (a + i * e))) a b e) (mx w107 q) := (CV.bk (by rw [eN]; omega) hab.2.1 (fun j j0 j1 => (congrArg rnV (valS_cg I0 CV.sy _)).symm)).tr c107.sy.v
      have D107 : CI (mx w107 q) := (CI_bk I0 hab he.1 hfit2 (fun j j0 j1 => rnV_bd _)).eq c107.sy
      have C107 := MOG_fq hG2 hq C1 f107 K107 D107
      have o : o_bake G q a b e = (ouN (G.now.c q) a b + ((b - a) / e + 1), setC (recG G) q (bkX (G.now.c q) (fun i => rnV (valS (G.now.c q) (a + i * e))) a b e)) := by
        unfold o_bake
        rw [if_neg (fun z => z iq), if_neg (by omega), if_neg (by omega), if_neg (by omega)]
      exact f_iret (pc := 110) dX12_bake_110 rfl (by assumption) (hQ _ _ (fst_m o e107) (snd_m o C107) (FL59.tr (fun p e => by rw [f107.1 p (by omega), hf1 p (by omega)])) (by assumption))
    have sl := steps_lt (x := b - a) (i := i) he.1 (by omega)
    refine r_aload_n (pc := 71) dX12_bake_71 rfl ?_
    refine h_X12_19 (pc := 72) rfl dX12_bake_72 ?_
    refine r_iload (pc := 75) dX12_bake_75 rfl ?_
    refine r_iload_n (pc := 77) dX12_bake_77 rfl ?_
    refine r_isub (pc := 78) dX12_bake_78 ?_
    refine r_aload_n (pc := 79) dX12_bake_79 rfl ?_
    refine r_iload_n (pc := 80) dX12_bake_80 rfl ?_
    refine r_iload (pc := 81) dX12_bake_81 rfl ?_
    refine c_X12_133 (pc := 83) rfl dX12_bake_83 (by first | assumption | rfl) (by omega) (Nat.le_of_ble_eq_true rfl) ?_
    refine m_X12_valueAt (d - 1) (by omega) (by assumption) hq (by rw [X1]; exact I0) (by rw [X1]; omega) (by omega) (fun r83 e83 b83 => ?_)
    rw [X1] at e83
    refine r_i2l (pc := 86) dX12_bake_86 (by first | assumption | omega) ?_
    refine c_X12_161 (pc := 87) rfl dX12_bake_87 (by omega) (Nat.le_of_ble_eq_true rfl) ?_
    refine m_X12_inUnits (d - 1) (by omega) (by assumption)  (fun r87 e87 b87 => ?_)
    refine f_iast (pc := 90) dX12_bake_90 (n := 481) (by assumption) (by first | assumption | rfl) (by omega) (by omega) (by omega) (by omega) (fun hw90 => ?_)
    refine r_iload (pc := 91) dX12_bake_91 rfl ?_
    refine r_iload (pc := 93) dX12_bake_93 rfl ?_
    refine r_iadd (pc := 95) dX12_bake_95 ?_
    refine r_istore5 (pc := 96) dX12_bake_96 rfl ?_
    refine r_goto (pc := 98) (tgt := 65) dX12_bake_98 rfl ?_
    exact ih _ (by omega) (i + 1) rfl (by omega) _ _ (by rw [hf, show ((i + 1 : Nat) : Int) = (i : Int) + 1 by omega, Int.add_mul, Int.one_mul]; omega) (fun j j0 j1 => by
      by_cases z : j = i
      · rw [z, show (i : Int) * e = f - a by omega, up_hit, e87, e83, hf]
        show rnV _ = _
        rw [show a + (a + (i : Int) * e - a) = a + i * e by omega]
      · have lt := mul_up (i := i) (j := j) he.1 (by omega)
        rw [up_off (by omega)]
        exact hv j j0 (by omega)) (fun p e => by rw [up_ne e]; exact hf1 p e) (by assumption)
  refine r_iload_n (pc := 0) dX12_bake_0 rfl ?_
  refine c_X12_74 (pc := 1) rfl dX12_bake_1 (by omega) (Nat.le_of_ble_eq_true rfl) ?_
  refine m_X12_isCurve (d - 1) (by omega) (by assumption) (by omega) (fun r1 e1 b1 => ?_)
  have i1 := b2i_i e1
  refine r_ifne (pc := 4) (tgt := 10) dX12_bake_4 rfl (by omega) (fun h4 => ?_) (fun h4 => ?_)
  · have hq : 0 ≤ q ∧ q ≤ 3 := by omega
    have iq : inC q := hq
    have CV := hC.cv hq
    have I0 := hC.ci hq
    have hn : 0 ≤ mx w q 0 0 ∧ mx w q 0 0 ≤ 24 := I0.1
    have eN : G.now.c q 0 0 = mx w q 0 0 := CV.1
    refine r_iload_n (pc := 10) dX12_bake_10 rfl ?_
    refine r_iload_n (pc := 11) dX12_bake_11 rfl ?_
    refine r_iload (pc := 12) dX12_bake_12 rfl ?_
    refine c_X12_174 (pc := 14) rfl dX12_bake_14 (by omega) (Nat.le_of_ble_eq_true rfl) ?_
    refine m_X12_isBaking (d - 1) (by omega) (by assumption) (by omega) (by omega) (by omega) (fun r14 e14 b14 => ?_)
    have i14 := b2i_i e14
    refine r_ifne (pc := 17) (tgt := 23) dX12_bake_17 rfl (by omega) (fun h17 => ?_) (fun h17 => ?_)
    · refine r_aload_n (pc := 23) dX12_bake_23 rfl ?_
      refine r_iload_n (pc := 24) dX12_bake_24 rfl ?_
      refine c_X12_78 (pc := 25) rfl dX12_bake_25 (by first | assumption | rfl) (by omega) (Nat.le_of_ble_eq_true rfl) ?_
      refine m_X12_many (d - 1) (by omega) (by assumption) hq (fun r25 e25 b25 => ?_)
      subst e25
      refine r_ifne (pc := 28) (tgt := 34) dX12_bake_28 rfl (by omega) (fun h28 => ?_) (fun h28 => ?_)
      · refine r_aload_n (pc := 34) dX12_bake_34 rfl ?_
        refine r_iload_n (pc := 35) dX12_bake_35 rfl ?_
        refine r_iload_n (pc := 36) dX12_bake_36 rfl ?_
        refine r_iload_n (pc := 37) dX12_bake_37 rfl ?_
        refine c_X12_177 (pc := 38) rfl dX12_bake_38 (by first | assumption | rfl) (by omega) (Nat.le_of_ble_eq_true rfl) ?_
        refine m_X12_outside (d - 1) (by omega) (by assumption) hq I0 (by omega) (by omega) (by omega) (fun r38 e38 b38 c38 => ?_)
        have e38 : r38 = ouN (G.now.c q) a b := e38.trans (ouN_cg CV a b).symm
        have dv0 : 0 ≤ (b - a) / e ∧ (b - a) / e ≤ 480 := steps_bd (by omega) (by omega) (by omega)
        refine r_iload_n (pc := 41) dX12_bake_41 rfl ?_
        refine r_iload_n (pc := 42) dX12_bake_42 rfl ?_
        refine r_isub (pc := 43) dX12_bake_43 ?_
        refine r_iload (pc := 44) dX12_bake_44 rfl ?_
        refine r_idiv (pc := 46) dX12_bake_46 (by omega) (by omega) (by omega) ?_
        rw [Int.tdiv_eq_ediv_of_nonneg (by omega)]
        refine r_iadd (pc := 47) dX12_bake_47 ?_
        refine r_iconst (pc := 48) (n := 1) dX12_bake_48 ?_
        refine r_iadd (pc := 49) dX12_bake_49 ?_
        refine r_bipush (pc := 50) (n := 24) dX12_bake_50 (by decide) ?_
        refine r_icmple (pc := 52) (tgt := 58) dX12_bake_52 rfl (by omega) (by omega) (fun h52 => ?_) (fun h52 => ?_)
        · refine r_aload_n (pc := 58) dX12_bake_58 rfl ?_
          refine c_X12_146 (pc := 59) rfl dX12_bake_59 (by first | assumption | rfl) (by omega) (Nat.le_of_ble_eq_true rfl) ?_
          refine m_X12_changes (d - 1) (by omega) (by assumption) hp (fun w59 c59 hw59 => ?_)
          obtain ⟨C59, F59⟩ := MOG_rec hG hC c59
          have X59 : mx w59 q = mx w q := by unfold mx; rw [F59 386 (by omega) (by omega)]
          have FL59 : FRH w w59 := fun p e => F59 p (by omega) (by omega)
          refine r_iload_n (pc := 62) dX12_bake_62 rfl ?_
          refine r_istore5 (pc := 63) dX12_bake_63 rfl ?_
          exact loop65 hq I0 (by omega) (by omega) (by omega) (by omega) (by omega) w59 C59 X59 FL59 _ 0 rfl (by omega) w59 _ (by rw [show ((0 : Nat) : Int) = 0 from rfl, Int.zero_mul]; omega) (fun j a b => by omega) (fun _ _ => rfl) (by assumption)
        have o : o_bake G q a b e = (-1000000003, G) := by
          unfold o_bake
          rw [if_neg (fun z => z iq), if_neg (by omega), if_neg (by omega), if_pos (by omega)]
        refine r_ldc (pc := 55) (n := -1000000003) dX12_bake_55 kw_X12_145 rfl ?_
        exact f_iret (pc := 57) dX12_bake_57 rfl (by assumption) (hQ _ _ (fst_m o (by omega)) (snd_m o hC) (FRH.rf w) (by assumption))
      have o : o_bake G q a b e = (-1000000004, G) := by
        unfold o_bake
        rw [if_neg (fun z => z iq), if_neg (by omega), if_pos (by omega)]
      refine r_ldc (pc := 31) (n := -1000000004) dX12_bake_31 kw_X12_157 rfl ?_
      exact f_iret (pc := 33) dX12_bake_33 rfl (by assumption) (hQ _ _ (fst_m o (by omega)) (snd_m o hC) (FRH.rf w) (by assumption))
    have o : o_bake G q a b e = (-1000000002, G) := by
      unfold o_bake
      rw [if_neg (fun z => z iq), if_pos (by omega)]
    refine r_ldc (pc := 20) (n := -1000000002) dX12_bake_20 kw_X12_132 rfl ?_
    exact f_iret (pc := 22) dX12_bake_22 rfl (by assumption) (hQ _ _ (fst_m o (by omega)) (snd_m o hC) (FRH.rf w) (by assumption))
  have o : o_bake G q a b e = (-1000000001, G) := by
    unfold o_bake
    exact if_pos (fun z => by have z : 0 ≤ q ∧ q ≤ 3 := z; omega)
  refine r_ldc (pc := 7) (n := -1000000001) dX12_bake_7 kw_X12_131 rfl ?_
  exact f_iret (pc := 9) dX12_bake_9 rfl (by assumption) (hQ _ _ (fst_m o (by omega)) (snd_m o hC) (FRH.rf w) (by assumption))
set_option maxRecDepth 8000 in
theorem y_bakeFormula {Q : Option AV → Wd → Prop} {w : Wd} (d : Nat) {G : GS} {q a b e : Int} (hd : 14 ≤ d) (hw : WR w) (hG : GOK G) (hC : MOG G w) (rq : R32 q) (ra : R32 a) (rb : R32 b) (re : R32 e) (hQ : ∀ r w2, r = (o_bakeFormula G q a b e).1 → MOG (o_bakeFormula G q a b e).2 w2 → FRH w w2 → WR w2 → Q (some (vI r)) w2) : M mX12_bakeFormula (Rm d) [vR (some 385), vI q, vI a, vI b, vI e] (fl w) (lQ Q) := by
  have hp := MOG.hp hG hC
  have hG2 := GOK_rec hG
  refine f_mofv (L0 := [some (vR (some 385)), some (vI q), some (vI a), some (vI b), some (vI e), none]) rfl (Nat.le_of_ble_eq_true rfl) rfl ?_
  have loop54 : (0 ≤ q ∧ q ≤ 3) → CI (mx w q) → (0 ≤ a ∧ a ≤ b ∧ b ≤ 480) → (1 ≤ e ∧ e ≤ 480) → ouN (G.now.c q) a b + ((b - a) / e + 1) ≤ 24 → (0 ≤ (b - a) / e ∧ (b - a) / e ≤ 480) → ∀ w48 : Wd, MOG (recG G) w48 → mx w48 q = mx w q → FRH w w48 → ∀ n0 : Nat, ∀ i : Nat, ((b - a) / e + 1 - i).toNat = n0 → (i : Int) ≤ (b - a) / e + 1 → ∀ (w1 : Wd) (f : Int), f = a + i * e → (∀ j : Int, 0 ≤ j → j < i → w1 389 (j * e) = rnV (mixS G (a + j * e))) → (∀ p, p ≠ 385 → p ≠ 389 → (p < 395 ∨ 401 < p) → w1 p = w48 p) → w1 385 2 = w48 385 2 → w1 385 4 = w48 385 4 → WR w1 → V mX12_bakeFormula (Rm d) 0 0 54 [some (vR (some 385)), some (vI q), some (vI a), some (vI b), some (vI e), some (vI f)] [] (fl w1) (lQ Q) := by
    intro hq I0 hab he hfit dv0 w48 C48 X48 FL48
    have CV := hC.cv hq
    have iq : inC q := hq
    have eN : G.now.c q 0 0 = mx w q 0 0 := CV.1
    have hn : 0 ≤ mx w q 0 0 ∧ mx w q 0 0 ≤ 24 := I0.1
    refine ind_lt ?_
    intro n0 ih i hm hi w1 f hf hv hf1 hf2 hf4 hw1
    have s0 : 0 ≤ (i : Int) * e := Int.mul_nonneg (by omega) (by omega)
    have s1 := steps_ub (x := b - a) (i := i) he.1 hi
    have X1 : mx w1 q = mx w q := by rw [← X48]; unfold mx; rw [hf1 386 (by omega) (by omega) (by omega)]
    have C1 : MOG (recG G) w1 := MOG_kp C48 (hf1 _ (by omega) (by omega) (by omega)) (hf1 _ (by omega) (by omega) (by omega)) (hf1 _ (by omega) (by omega) (by omega)) hf2 hf4
    refine r_iload (pc := 54) dX12_bakeFormula_54 rfl ?_
    refine r_iload_n (pc := 56) dX12_bakeFormula_56 rfl ?_
    refine r_icmpgt (pc := 57) (tgt := 89) dX12_bakeFormula_57 rfl (by omega) (by omega) (fun h57 => ?_) (fun h57 => ?_)
    · have sg := steps_ge (x := b - a) (i := i) he.1 (by omega)
      refine r_aload_n (pc := 89) dX12_bakeFormula_89 rfl ?_
      refine r_iload_n (pc := 90) dX12_bakeFormula_90 rfl ?_
      refine r_iload_n (pc := 91) dX12_bakeFormula_91 rfl ?_
      refine r_iload_n (pc := 92) dX12_bakeFormula_92 rfl ?_
      refine r_iload (pc := 93) dX12_bakeFormula_93 rfl ?_
      refine c_X12_180 (pc := 95) rfl dX12_bakeFormula_95 (by first | assumption | rfl) (by omega) (Nat.le_of_ble_eq_true rfl) ?_
      rw [show (i : Int) = (b - a) / e + 1 by omega] at hv
      have hfit2 : mx w q 0 0 - (kbX (mx w q) (b + 1) - kbX (mx w q) a) + ((b - a) / e + 1) ≤ 24 := by
        have z : ouN (mx w q) a b = mx w q 0 0 - (kbX (mx w q) (b + 1) - kbX (mx w q) a) := rfl
        have y := ouN_cg CV a b
        omega
      refine m_X12_bakes (g := fun i => rnV (mixS G (a + i * e))) (d - 1) (by omega) (by assumption) hq (by rw [X1]; exact I0) hab he (by rw [X1]; exact hfit2) (fun j hj => ⟨hv j (by omega) (by omega), rnV_bd _⟩) (fun r95 w95 e95 f95 c95 hw95 => ?_)
      rw [X1] at e95 c95
      have e95 : r95 = ouN (mx w q) a b + ((b - a) / e + 1) := e95
      have e95 : r95 = ouN (G.now.c q) a b + ((b - a) / e + 1) := by rw [e95, ouN_cg CV]
      have c95 : CEQ (mx w95 q) (bkX (mx w q) (fun i => rnV (mixS G (a + i * e))) a b e) := c95
      have K95 : CEV (bkX (G.now.c q) (fun i => rnV (mixS G (a + i * e))) a b e) (mx w95 q) := (CV.bk (by rw [eN]; omega) hab.2.1 (fun j j0 j1 => rfl)).tr c95.sy.v
      have D95 : CI (mx w95 q) := (CI_bk I0 hab he.1 hfit2 (fun j j0 j1 => rnV_bd _)).eq c95.sy
      have C95 := MOG_fq hG2 hq C1 f95 K95 D95
      have o : o_bakeFormula G q a b e = (ouN (G.now.c q) a b + ((b - a) / e + 1), setC (recG G) q (bkX (G.now.c q) (fun i => rnV (mixS G (a + i * e))) a b e)) := by
        unfold o_bakeFormula
        rw [if_neg (fun z => z iq), if_neg (by omega), if_neg (by omega)]
      exact f_iret (pc := 98) dX12_bakeFormula_98 rfl (by assumption) (hQ _ _ (fst_m o e95) (snd_m o C95) (FL48.tr (fun p e => by rw [f95.1 p (by omega), hf1 p (by omega) (by omega) (by omega)])) (by assumption))
    have sl := steps_lt (x := b - a) (i := i) he.1 (by omega)
    refine r_aload_n (pc := 60) dX12_bakeFormula_60 rfl ?_
    refine h_X12_19 (pc := 61) rfl dX12_bakeFormula_61 ?_
    refine r_iload (pc := 64) dX12_bakeFormula_64 rfl ?_
    refine r_iload_n (pc := 66) dX12_bakeFormula_66 rfl ?_
    refine r_isub (pc := 67) dX12_bakeFormula_67 ?_
    refine r_aload_n (pc := 68) dX12_bakeFormula_68 rfl ?_
    refine r_iload (pc := 69) dX12_bakeFormula_69 rfl ?_
    refine c_X12_184 (pc := 71) rfl dX12_bakeFormula_71 (by first | assumption | rfl) (by omega) (Nat.le_of_ble_eq_true rfl) ?_
    obtain ⟨Tm, lm, pm, tm1, tm2, tm3, tm4⟩ := C1.1.2.2.2
    refine m_X12_mixed (T := Tm) (len := lm) (q := pm) (e := G.now.f) (d - 1) (by omega) (by assumption) tm2 tm4 tm3 (fun p a b => C1.ci ⟨a, b⟩) (by omega) tm1 (fun r71 w71 f71 e71 b71 hw71 => ?_)
    have e71 : r71 = mixS G f := e71.trans (MOG.mx hG2 C1 f)
    refine r_i2l (pc := 74) dX12_bakeFormula_74 (by first | assumption | omega) ?_
    refine c_X12_161 (pc := 75) rfl dX12_bakeFormula_75 (by omega) (Nat.le_of_ble_eq_true rfl) ?_
    refine m_X12_inUnits (d - 1) (by omega) (by assumption)  (fun r75 e75 b75 => ?_)
    refine f_iast (pc := 78) dX12_bakeFormula_78 (n := 481) (by assumption) (by first | assumption | rfl) (by omega) (by omega) (by omega) (by omega) (fun hw78 => ?_)
    refine r_iload (pc := 79) dX12_bakeFormula_79 rfl ?_
    refine r_iload (pc := 81) dX12_bakeFormula_81 rfl ?_
    refine r_iadd (pc := 83) dX12_bakeFormula_83 ?_
    refine r_istore5 (pc := 84) dX12_bakeFormula_84 rfl ?_
    refine r_goto (pc := 86) (tgt := 54) dX12_bakeFormula_86 rfl ?_
    exact ih _ (by omega) (i + 1) rfl (by omega) _ _ (by rw [hf, show ((i + 1 : Nat) : Int) = (i : Int) + 1 by omega, Int.add_mul, Int.one_mul]; omega) (fun j j0 j1 => by
      by_cases z : j = i
      · rw [z, show (i : Int) * e = f - a by omega, up_hit, e75, e71, show a + (f - a) = f by omega]
        rfl
      · have lt := mul_up (i := i) (j := j) he.1 (by omega)
        rw [up_off (by omega), f71.1 389 (by omega) (by omega)]
        exact hv j j0 (by omega)) (fun p e e2 e3 => by rw [up_ne e2, f71.1 p e e3]; exact hf1 p e e2 e3) (by rw [up_ne (by omega), f71.2 2 (by omega) (by omega) (by omega) (by omega)]; exact hf2) (by rw [up_ne (by omega), f71.2 4 (by omega) (by omega) (by omega) (by omega)]; exact hf4) (by assumption)
  refine r_iload_n (pc := 0) dX12_bakeFormula_0 rfl ?_
  refine c_X12_74 (pc := 1) rfl dX12_bakeFormula_1 (by omega) (Nat.le_of_ble_eq_true rfl) ?_
  refine m_X12_isCurve (d - 1) (by omega) (by assumption) (by omega) (fun r1 e1 b1 => ?_)
  have i1 := b2i_i e1
  refine r_ifne (pc := 4) (tgt := 10) dX12_bakeFormula_4 rfl (by omega) (fun h4 => ?_) (fun h4 => ?_)
  · have hq : 0 ≤ q ∧ q ≤ 3 := by omega
    have iq : inC q := hq
    have CV := hC.cv hq
    have I0 := hC.ci hq
    have hn : 0 ≤ mx w q 0 0 ∧ mx w q 0 0 ≤ 24 := I0.1
    have eN : G.now.c q 0 0 = mx w q 0 0 := CV.1
    refine r_iload_n (pc := 10) dX12_bakeFormula_10 rfl ?_
    refine r_iload_n (pc := 11) dX12_bakeFormula_11 rfl ?_
    refine r_iload (pc := 12) dX12_bakeFormula_12 rfl ?_
    refine c_X12_174 (pc := 14) rfl dX12_bakeFormula_14 (by omega) (Nat.le_of_ble_eq_true rfl) ?_
    refine m_X12_isBaking (d - 1) (by omega) (by assumption) (by omega) (by omega) (by omega) (fun r14 e14 b14 => ?_)
    have i14 := b2i_i e14
    refine r_ifne (pc := 17) (tgt := 23) dX12_bakeFormula_17 rfl (by omega) (fun h17 => ?_) (fun h17 => ?_)
    · refine r_aload_n (pc := 23) dX12_bakeFormula_23 rfl ?_
      refine r_iload_n (pc := 24) dX12_bakeFormula_24 rfl ?_
      refine r_iload_n (pc := 25) dX12_bakeFormula_25 rfl ?_
      refine r_iload_n (pc := 26) dX12_bakeFormula_26 rfl ?_
      refine c_X12_177 (pc := 27) rfl dX12_bakeFormula_27 (by first | assumption | rfl) (by omega) (Nat.le_of_ble_eq_true rfl) ?_
      refine m_X12_outside (d - 1) (by omega) (by assumption) hq I0 (by omega) (by omega) (by omega) (fun r27 e27 b27 c27 => ?_)
      have e27 : r27 = ouN (G.now.c q) a b := e27.trans (ouN_cg CV a b).symm
      have dv0 : 0 ≤ (b - a) / e ∧ (b - a) / e ≤ 480 := steps_bd (by omega) (by omega) (by omega)
      refine r_iload_n (pc := 30) dX12_bakeFormula_30 rfl ?_
      refine r_iload_n (pc := 31) dX12_bakeFormula_31 rfl ?_
      refine r_isub (pc := 32) dX12_bakeFormula_32 ?_
      refine r_iload (pc := 33) dX12_bakeFormula_33 rfl ?_
      refine r_idiv (pc := 35) dX12_bakeFormula_35 (by omega) (by omega) (by omega) ?_
      rw [Int.tdiv_eq_ediv_of_nonneg (by omega)]
      refine r_iadd (pc := 36) dX12_bakeFormula_36 ?_
      refine r_iconst (pc := 37) (n := 1) dX12_bakeFormula_37 ?_
      refine r_iadd (pc := 38) dX12_bakeFormula_38 ?_
      refine r_bipush (pc := 39) (n := 24) dX12_bakeFormula_39 (by decide) ?_
      refine r_icmple (pc := 41) (tgt := 47) dX12_bakeFormula_41 rfl (by omega) (by omega) (fun h41 => ?_) (fun h41 => ?_)
      · refine r_aload_n (pc := 47) dX12_bakeFormula_47 rfl ?_
        refine c_X12_146 (pc := 48) rfl dX12_bakeFormula_48 (by first | assumption | rfl) (by omega) (Nat.le_of_ble_eq_true rfl) ?_
        refine m_X12_changes (d - 1) (by omega) (by assumption) hp (fun w48 c48 hw48 => ?_)
        obtain ⟨C48, F48⟩ := MOG_rec hG hC c48
        have X48 : mx w48 q = mx w q := by unfold mx; rw [F48 386 (by omega) (by omega)]
        have FL48 : FRH w w48 := fun p e => F48 p (by omega) (by omega)
        refine r_iload_n (pc := 51) dX12_bakeFormula_51 rfl ?_
        refine r_istore5 (pc := 52) dX12_bakeFormula_52 rfl ?_
        exact loop54 hq I0 (by omega) (by omega) (by omega) (by omega) w48 C48 X48 FL48 _ 0 rfl (by omega) w48 _ (by rw [show ((0 : Nat) : Int) = 0 from rfl, Int.zero_mul]; omega) (fun j a b => by omega) (fun _ _ _ _ => rfl) rfl rfl (by assumption)
      have o : o_bakeFormula G q a b e = (-1000000003, G) := by
        unfold o_bakeFormula
        rw [if_neg (fun z => z iq), if_neg (by omega), if_pos (by omega)]
      refine r_ldc (pc := 44) (n := -1000000003) dX12_bakeFormula_44 kw_X12_145 rfl ?_
      exact f_iret (pc := 46) dX12_bakeFormula_46 rfl (by assumption) (hQ _ _ (fst_m o (by omega)) (snd_m o hC) (FRH.rf w) (by assumption))
    have o : o_bakeFormula G q a b e = (-1000000002, G) := by
      unfold o_bakeFormula
      rw [if_neg (fun z => z iq), if_pos (by omega)]
    refine r_ldc (pc := 20) (n := -1000000002) dX12_bakeFormula_20 kw_X12_132 rfl ?_
    exact f_iret (pc := 22) dX12_bakeFormula_22 rfl (by assumption) (hQ _ _ (fst_m o (by omega)) (snd_m o hC) (FRH.rf w) (by assumption))
  have o : o_bakeFormula G q a b e = (-1000000001, G) := by
    unfold o_bakeFormula
    exact if_pos (fun z => by have z : 0 ≤ q ∧ q ≤ 3 := z; omega)
  refine r_ldc (pc := 7) (n := -1000000001) dX12_bakeFormula_7 kw_X12_131 rfl ?_
  exact f_iret (pc := 9) dX12_bakeFormula_9 rfl (by assumption) (hQ _ _ (fst_m o (by omega)) (snd_m o hC) (FRH.rf w) (by assumption))
