/-! the model's calls -/
theorem stX_2 {X : CP} {r : Nat} {k x y : Int} : stX (stX X r k x) r k y = stX X r k y := by
  funext p i
  unfold stX
  grind
theorem insX_st2 {X : CP} {k t h m a b : Int} : stX (insX X k (v5 t h m a b)) 2 k h = insX X k (v5 t h m a b) := by
  funext p i
  by_cases z : p = 2 ∧ i = k
  · rw [z.1, z.2, stX_y, insX_eq (by omega)]; rfl
  · exact if_neg z
theorem rowOf_n {G : GS} {w : Wd} {q k : Int} (r : Nat) (hC : MOG G w) (h : ¬ ((0 ≤ q ∧ q ≤ 3) ∧ 0 ≤ k ∧ k < mx w q 0 0)) : -1000000001 = o_rowOf r G q k := by
  unfold o_rowOf
  by_cases z : inC q
  · have e : G.now.c q 0 0 = mx w q 0 0 := (hC.cv z).1
    rw [if_neg (fun y => y z), if_pos (fun y => h ⟨z, y.1, by omega⟩)]
  · rw [if_pos z]
theorem rowOf_y {G : GS} {w : Wd} {q k x : Int} {r : Nat} (hr : 1 ≤ r ∧ r ≤ 3) (hC : MOG G w) (h : (0 ≤ q ∧ q ≤ 3) ∧ 0 ≤ k ∧ k < mx w q 0 0) (hx : x = mx w q r k) : x = o_rowOf r G q k := by
  have e := (hC.cv h.1).1
  have e2 : G.now.c q 0 0 = mx w q 0 0 := e
  unfold o_rowOf
  rw [if_neg (fun y => y h.1), if_neg (fun y => y ⟨h.2.1, by omega⟩), hx]
  exact ((hC.cv h.1).row hr.1 hr.2 h.2.1 (by omega)).symm
theorem slope_n {G : GS} {w : Wd} {q k o : Int} (hC : MOG G w) (h : ¬ ((0 ≤ q ∧ q ≤ 3) ∧ 0 ≤ k ∧ k < mx w q 0 0)) : -1000000001 = o_slope G q k o := by
  unfold o_slope
  by_cases z : inC q
  · have e : G.now.c q 0 0 = mx w q 0 0 := (hC.cv z).1
    rw [if_neg (fun y => y z), if_pos (fun y => h ⟨z, y.1, by omega⟩)]
  · rw [if_pos z]
theorem kbX_nx {X : CP} (h : CI X) {f i : Int} (h0 : 0 ≤ i) (h1 : i + 1 < X 0 0) (a : X 1 i < f) (b : f ≤ X 1 (i + 1)) : i + 1 = kbX X f := kbX_of h.1.1 ⟨by omega, by omega, fun j j0 j1 => by
  rcases Int.lt_or_le j i with z | z
  · have := h.2.2.1 j i j0 z (by omega); omega
  · rw [show j = i by omega]; exact a, fun _ => b⟩
theorem kw_X12_90 : Jvm.Cond.constant RX12 90 (-1000000005 : Int32) ∈ gW := gw_t 911 (by decide +kernel) (by decide +kernel)
theorem kw_X12_131 : Jvm.Cond.constant RX12 131 (-1000000001 : Int32) ∈ gW := gw_t 922 (by decide +kernel) (by decide +kernel)
theorem kw_X12_132 : Jvm.Cond.constant RX12 132 (-1000000002 : Int32) ∈ gW := gw_t 923 (by decide +kernel) (by decide +kernel)
theorem kw_X12_145 : Jvm.Cond.constant RX12 145 (-1000000003 : Int32) ∈ gW := gw_t 1014 (by decide +kernel) (by decide +kernel)
theorem kw_X12_157 : Jvm.Cond.constant RX12 157 (-1000000004 : Int32) ∈ gW := gw_t 1035 (by decide +kernel) (by decide +kernel)
set_option maxRecDepth 8000 in
theorem y_setKey {Q : Option AV → Wd → Prop} {w : Wd} (d : Nat) {G : GS} {q f v : Int} (hd : 6 ≤ d) (hw : WR w) (hG : GOK G) (hC : MOG G w) (rq : R32 q) (rf : R32 f) (rv : R32 v) (hQ : ∀ r w2, r = (o_setKey G q f v).1 → MOG (o_setKey G q f v).2 w2 → FRH w w2 → WR w2 → Q (some (vI r)) w2) : M mX12_setKey (Rm d) [vR (some 385), vI q, vI f, vI v] (fl w) (lQ Q) := by
  have hp := MOG.hp hG hC
  have hG2 := GOK_rec hG
  refine f_mofv (L0 := [some (vR (some 385)), some (vI q), some (vI f), some (vI v), none]) rfl (Nat.le_of_ble_eq_true rfl) rfl ?_
  refine r_iload_n (pc := 0) dX12_setKey_0 rfl ?_
  refine c_X12_74 (pc := 1) rfl dX12_setKey_1 (by omega) (Nat.le_of_ble_eq_true rfl) ?_
  refine m_X12_isCurve (d - 1) (by omega) (by assumption) (by omega) (fun r1 e1 b1 => ?_)
  have i1 := b2i_i e1
  refine r_ifne (pc := 4) (tgt := 10) dX12_setKey_4 rfl (by omega) (fun h4 => ?_) (fun h4 => ?_)
  · have hq : 0 ≤ q ∧ q ≤ 3 := by omega
    have iq : inC q := hq
    have CV := hC.cv hq
    have I0 := hC.ci hq
    have hn : 0 ≤ mx w q 0 0 ∧ mx w q 0 0 ≤ 24 := I0.1
    have eN : G.now.c q 0 0 = mx w q 0 0 := CV.1
    refine r_iload_n (pc := 10) dX12_setKey_10 rfl ?_
    refine r_iconst (pc := 11) (n := 0) dX12_setKey_11 ?_
    refine r_sipush (pc := 12) (n := 480) dX12_setKey_12 (by decide) ?_
    refine c_X12_66 (pc := 15) rfl dX12_setKey_15 (by omega) (Nat.le_of_ble_eq_true rfl) ?_
    refine m_X12_in (d - 1) (by omega) (by assumption) (by omega) (by omega) (by omega) (fun r15 e15 b15 => ?_)
    have i15 := b2i_i e15
    refine r_ifeq (pc := 18) (tgt := 34) dX12_setKey_18 rfl (by omega) (fun h18 => ?_) (fun h18 => ?_)
    · have o : o_setKey G q f v = (-1000000002, G) := by
        unfold o_setKey
        rw [if_neg (fun z => z iq), if_pos (by omega)]
      refine r_ldc (pc := 34) (n := -1000000002) dX12_setKey_34 kw_X12_132 rfl ?_
      exact f_iret (pc := 36) dX12_setKey_36 rfl (by assumption) (hQ _ _ (fst_m o (by omega)) (snd_m o hC) (FRH.rf w) (by assumption))
    refine r_iload_n (pc := 21) dX12_setKey_21 rfl ?_
    refine r_sipush (pc := 22) (n := (-999)) dX12_setKey_22 (by decide) ?_
    refine r_sipush (pc := 25) (n := 999) dX12_setKey_25 (by decide) ?_
    refine c_X12_66 (pc := 28) rfl dX12_setKey_28 (by omega) (Nat.le_of_ble_eq_true rfl) ?_
    refine m_X12_in (d - 1) (by omega) (by assumption) (by omega) (by omega) (by omega) (fun r28 e28 b28 => ?_)
    have i28 := b2i_i e28
    refine r_ifne (pc := 31) (tgt := 37) dX12_setKey_31 rfl (by omega) (fun h31 => ?_) (fun h31 => ?_)
    · refine r_aload_n (pc := 37) dX12_setKey_37 rfl ?_
      refine r_iload_n (pc := 38) dX12_setKey_38 rfl ?_
      refine r_iload_n (pc := 39) dX12_setKey_39 rfl ?_
      refine c_X12_142 (pc := 40) rfl dX12_setKey_40 (by first | assumption | rfl) (by omega) (Nat.le_of_ble_eq_true rfl) ?_
      refine m_X12_find (d - 1) (by omega) (by assumption) hq I0 (by omega) (fun r40 e40 a40 c40 => ?_)
      have f40a := fin_in I0 e40
      have f40n : 0 ≤ r40 → r40 < mx w q 0 0 := fun z => (f40a z).1
      have f40b := fin_no I0 e40
      rw [← fin_cg CV (by omega)] at e40
      refine r_istore4 (pc := 43) dX12_setKey_43 rfl ?_
      refine r_iload (pc := 45) dX12_setKey_45 rfl ?_
      refine r_ifge (pc := 47) (tgt := 63) dX12_setKey_47 rfl (by omega) (fun h47 => ?_) (fun h47 => ?_)
      · refine r_aload_n (pc := 63) dX12_setKey_63 rfl ?_
        refine c_X12_146 (pc := 64) rfl dX12_setKey_64 (by first | assumption | rfl) (by omega) (Nat.le_of_ble_eq_true rfl) ?_
        refine m_X12_changes (d - 1) (by omega) (by assumption) hp (fun w64 c64 hw64 => ?_)
        obtain ⟨C64, F64⟩ := MOG_rec hG hC c64
        have X64 : mx w64 q = mx w q := by unfold mx; rw [F64 386 (by omega) (by omega)]
        have FL64 : FRH w w64 := fun p e => F64 p (by omega) (by omega)
        refine r_iload (pc := 67) dX12_setKey_67 rfl ?_
        refine r_ifge (pc := 69) (tgt := 84) dX12_setKey_69 rfl (by omega) (fun h69 => ?_) (fun h69 => ?_)
        · have o : o_setKey G q f v = (G.now.c q 0 0, setC (recG G) q (stX (G.now.c q) 2 r40 v)) := by
            unfold o_setKey
            rw [if_neg (fun z => z iq), if_neg (by omega), if_neg (by omega), if_neg (by omega), ← e40]
          have M64 : EQ24 (mx (up w64 386 (128 * q + 28 + r40) v) q) (stX (mx w q) 2 r40 v) := by rw [← X64]; exact mx_up (by omega) (by omega) (by omega)
          have M2 := M64.ceq (by have e := M64 0 0 (by omega); rw [e, stX_r (by omega)]; omega)
          have nM := M2.1
          rw [stX_r (by omega)] at nM
          have C97 := MOG_fq hG2 hq C64 (FQ_up (q := q) (i := 128 * q + 28 + r40) (x := v) (by omega)) ((CV.st r40 v (by omega) (by omega)).tr M2.sy.v) ((CI_st2 I0 (by omega)).eq M2.sy)
          refine r_aload_n (pc := 84) dX12_setKey_84 rfl ?_
          refine h_X12_7 (pc := 85) rfl dX12_setKey_85 ?_
          refine r_iload_n (pc := 88) dX12_setKey_88 rfl ?_
          refine r_bipush (pc := 89) (n := 28) dX12_setKey_89 (by decide) ?_
          refine r_iload (pc := 91) dX12_setKey_91 rfl ?_
          refine c_X12_70 (pc := 93) rfl dX12_setKey_93 (by omega) (Nat.le_of_ble_eq_true rfl) ?_
          refine m_X12_at (d - 1) (by omega) (by assumption) (fun r93 e93 => ?_)
          subst e93
          refine r_iload_n (pc := 96) dX12_setKey_96 rfl ?_
          refine f_iast (pc := 97) dX12_setKey_97 (n := 660) (by assumption) (by first | assumption | rfl) (by omega) (by omega) (by omega) (by omega) (fun hw97 => ?_)
          refine r_aload_n (pc := 98) dX12_setKey_98 rfl ?_
          refine r_iload_n (pc := 99) dX12_setKey_99 rfl ?_
          refine c_X12_78 (pc := 100) rfl dX12_setKey_100 (by first | assumption | rfl) (by omega) (Nat.le_of_ble_eq_true rfl) ?_
          refine m_X12_many (d - 1) (by omega) (by assumption) hq (fun r100 e100 b100 => ?_)
          exact f_iret (pc := 103) dX12_setKey_103 rfl (by assumption) (hQ _ _ (fst_m o (by omega)) (snd_m o C97) (FL64.tr (fun p e => up_ne (by omega))) (by assumption))
        have o : o_setKey G q f v = (G.now.c q 0 0 + 1, setC (recG G) q (insX (G.now.c q) (kbX (G.now.c q) f) (v5 f v 3 0 0))) := by
          unfold o_setKey
          rw [if_neg (fun z => z iq), if_neg (by omega), if_neg (by omega), if_pos (by omega)]
        refine r_aload_n (pc := 72) dX12_setKey_72 rfl ?_
        refine r_iload_n (pc := 73) dX12_setKey_73 rfl ?_
        refine r_iload_n (pc := 74) dX12_setKey_74 rfl ?_
        refine r_iload_n (pc := 75) dX12_setKey_75 rfl ?_
        refine r_iconst (pc := 76) (n := 3) dX12_setKey_76 ?_
        refine r_iconst (pc := 77) (n := 0) dX12_setKey_77 ?_
        refine r_iconst (pc := 78) (n := 0) dX12_setKey_78 ?_
        refine c_X12_149 (pc := 79) rfl dX12_setKey_79 (by first | assumption | rfl) (by omega) (Nat.le_of_ble_eq_true rfl) ?_
        refine m_X12_inserts (d - 1) (by omega) (by assumption) hq (by rw [X64]; exact I0) (by rw [X64]; omega) (by rw [X64]; exact f40b (by omega)) (by omega) (by omega) (by omega) (by omega) (by omega) (fun k79 w79 b79 f79 e79 hw79 => ?_)
        rw [X64] at b79 e79
        have kk := kbX_of I0.1.1 b79
        rw [← kbX_cg CV] at kk
        have M79 : EQ24 (mx (up w79 386 (128 * q + 28 + k79) v) q) (stX (mx w79 q) 2 k79 v) := mx_up (by omega) (by omega) (by have := b79.1; have := b79.2.1; omega)
        have n79 : mx w79 q 0 0 = mx w q 0 0 + 1 := e79.1
        have kb1 := b79.1
        have kb2 := b79.2.1
        have M2 : CEQ (mx (up w79 386 (128 * q + 28 + k79) v) q) (insX (mx w q) k79 (v5 f v 3 0 0)) := (M79.ceq (by have e := M79 0 0 (by omega); rw [e, stX_r (by omega)]; omega)).tr (by have z := stX_cg e79 (r := 2) (j := k79) (x := v) (by omega); rw [insX_st2] at z; exact z)
        have nM : mx (up w79 386 (128 * q + 28 + k79) v) q 0 0 = mx w q 0 0 + 1 := M2.1
        have C97 := MOG_fq hG2 hq C64 (f79.tr (FQ_up (q := q) (i := 128 * q + 28 + k79) (x := v) (by have := b79.1; have := b79.2.1; omega))) (X := insX (G.now.c q) (kbX (G.now.c q) f) (v5 f v 3 0 0)) (by rw [← kk]; exact (insX_cv CV ⟨b79.1, by rw [eN]; exact b79.2.1⟩ rfl rfl rfl (fun _ => ⟨rfl, rfl⟩)).tr M2.sy.v) ((CI_ins (v := v5 f v 3 0 0) I0 (by omega) b79 (fun z => f40b (by omega) _ b79.1 z) (by show KI f v 3 0 0; unfold KI; omega)).eq M2.sy)
        refine r_istore4 (pc := 82) dX12_setKey_82 rfl ?_
        refine r_aload_n (pc := 84) dX12_setKey_84 rfl ?_
        refine h_X12_7 (pc := 85) rfl dX12_setKey_85 ?_
        refine r_iload_n (pc := 88) dX12_setKey_88 rfl ?_
        refine r_bipush (pc := 89) (n := 28) dX12_setKey_89 (by decide) ?_
        refine r_iload (pc := 91) dX12_setKey_91 rfl ?_
        refine c_X12_70 (pc := 93) rfl dX12_setKey_93 (by omega) (Nat.le_of_ble_eq_true rfl) ?_
        refine m_X12_at (d - 1) (by omega) (by assumption) (fun r93 e93 => ?_)
        subst e93
        refine r_iload_n (pc := 96) dX12_setKey_96 rfl ?_
        refine f_iast (pc := 97) dX12_setKey_97 (n := 660) (by assumption) (by first | assumption | rfl) (by omega) (by omega) (by omega) (by omega) (fun hw97 => ?_)
        refine r_aload_n (pc := 98) dX12_setKey_98 rfl ?_
        refine r_iload_n (pc := 99) dX12_setKey_99 rfl ?_
        refine c_X12_78 (pc := 100) rfl dX12_setKey_100 (by first | assumption | rfl) (by omega) (Nat.le_of_ble_eq_true rfl) ?_
        refine m_X12_many (d - 1) (by omega) (by assumption) hq (fun r100 e100 b100 => ?_)
        exact f_iret (pc := 103) dX12_setKey_103 rfl (by assumption) (by exfalso; omega)
      refine r_aload_n (pc := 50) dX12_setKey_50 rfl ?_
      refine r_iload_n (pc := 51) dX12_setKey_51 rfl ?_
      refine c_X12_78 (pc := 52) rfl dX12_setKey_52 (by first | assumption | rfl) (by omega) (Nat.le_of_ble_eq_true rfl) ?_
      refine m_X12_many (d - 1) (by omega) (by assumption) hq (fun r52 e52 b52 => ?_)
      refine r_bipush (pc := 55) (n := 24) dX12_setKey_55 (by decide) ?_
      refine r_icmpne (pc := 57) (tgt := 63) dX12_setKey_57 rfl (by omega) (by omega) (fun h57 => ?_) (fun h57 => ?_)
      · refine r_aload_n (pc := 63) dX12_setKey_63 rfl ?_
        refine c_X12_146 (pc := 64) rfl dX12_setKey_64 (by first | assumption | rfl) (by omega) (Nat.le_of_ble_eq_true rfl) ?_
        refine m_X12_changes (d - 1) (by omega) (by assumption) hp (fun w64 c64 hw64 => ?_)
        obtain ⟨C64, F64⟩ := MOG_rec hG hC c64
        have X64 : mx w64 q = mx w q := by unfold mx; rw [F64 386 (by omega) (by omega)]
        have FL64 : FRH w w64 := fun p e => F64 p (by omega) (by omega)
        refine r_iload (pc := 67) dX12_setKey_67 rfl ?_
        refine r_ifge (pc := 69) (tgt := 84) dX12_setKey_69 rfl (by omega) (fun h69 => ?_) (fun h69 => ?_)
        · have o : o_setKey G q f v = (G.now.c q 0 0, setC (recG G) q (stX (G.now.c q) 2 r40 v)) := by
            unfold o_setKey
            rw [if_neg (fun z => z iq), if_neg (by omega), if_neg (by omega), if_neg (by omega), ← e40]
          have M64 : EQ24 (mx (up w64 386 (128 * q + 28 + r40) v) q) (stX (mx w q) 2 r40 v) := by rw [← X64]; exact mx_up (by omega) (by omega) (by omega)
          have M2 := M64.ceq (by have e := M64 0 0 (by omega); rw [e, stX_r (by omega)]; omega)
          have nM := M2.1
          rw [stX_r (by omega)] at nM
          have C97 := MOG_fq hG2 hq C64 (FQ_up (q := q) (i := 128 * q + 28 + r40) (x := v) (by omega)) ((CV.st r40 v (by omega) (by omega)).tr M2.sy.v) ((CI_st2 I0 (by omega)).eq M2.sy)
          refine r_aload_n (pc := 84) dX12_setKey_84 rfl ?_
          refine h_X12_7 (pc := 85) rfl dX12_setKey_85 ?_
          refine r_iload_n (pc := 88) dX12_setKey_88 rfl ?_
          refine r_bipush (pc := 89) (n := 28) dX12_setKey_89 (by decide) ?_
          refine r_iload (pc := 91) dX12_setKey_91 rfl ?_
          refine c_X12_70 (pc := 93) rfl dX12_setKey_93 (by omega) (Nat.le_of_ble_eq_true rfl) ?_
          refine m_X12_at (d - 1) (by omega) (by assumption) (fun r93 e93 => ?_)
          subst e93
          refine r_iload_n (pc := 96) dX12_setKey_96 rfl ?_
          refine f_iast (pc := 97) dX12_setKey_97 (n := 660) (by assumption) (by first | assumption | rfl) (by omega) (by omega) (by omega) (by omega) (fun hw97 => ?_)
          refine r_aload_n (pc := 98) dX12_setKey_98 rfl ?_
          refine r_iload_n (pc := 99) dX12_setKey_99 rfl ?_
          refine c_X12_78 (pc := 100) rfl dX12_setKey_100 (by first | assumption | rfl) (by omega) (Nat.le_of_ble_eq_true rfl) ?_
          refine m_X12_many (d - 1) (by omega) (by assumption) hq (fun r100 e100 b100 => ?_)
          exact f_iret (pc := 103) dX12_setKey_103 rfl (by assumption) (by exfalso; omega)
        have o : o_setKey G q f v = (G.now.c q 0 0 + 1, setC (recG G) q (insX (G.now.c q) (kbX (G.now.c q) f) (v5 f v 3 0 0))) := by
          unfold o_setKey
          rw [if_neg (fun z => z iq), if_neg (by omega), if_neg (by omega), if_pos (by omega)]
        refine r_aload_n (pc := 72) dX12_setKey_72 rfl ?_
        refine r_iload_n (pc := 73) dX12_setKey_73 rfl ?_
        refine r_iload_n (pc := 74) dX12_setKey_74 rfl ?_
        refine r_iload_n (pc := 75) dX12_setKey_75 rfl ?_
        refine r_iconst (pc := 76) (n := 3) dX12_setKey_76 ?_
        refine r_iconst (pc := 77) (n := 0) dX12_setKey_77 ?_
        refine r_iconst (pc := 78) (n := 0) dX12_setKey_78 ?_
        refine c_X12_149 (pc := 79) rfl dX12_setKey_79 (by first | assumption | rfl) (by omega) (Nat.le_of_ble_eq_true rfl) ?_
        refine m_X12_inserts (d - 1) (by omega) (by assumption) hq (by rw [X64]; exact I0) (by rw [X64]; omega) (by rw [X64]; exact f40b (by omega)) (by omega) (by omega) (by omega) (by omega) (by omega) (fun k79 w79 b79 f79 e79 hw79 => ?_)
        rw [X64] at b79 e79
        have kk := kbX_of I0.1.1 b79
        rw [← kbX_cg CV] at kk
        have M79 : EQ24 (mx (up w79 386 (128 * q + 28 + k79) v) q) (stX (mx w79 q) 2 k79 v) := mx_up (by omega) (by omega) (by have := b79.1; have := b79.2.1; omega)
        have n79 : mx w79 q 0 0 = mx w q 0 0 + 1 := e79.1
        have kb1 := b79.1
        have kb2 := b79.2.1
        have M2 : CEQ (mx (up w79 386 (128 * q + 28 + k79) v) q) (insX (mx w q) k79 (v5 f v 3 0 0)) := (M79.ceq (by have e := M79 0 0 (by omega); rw [e, stX_r (by omega)]; omega)).tr (by have z := stX_cg e79 (r := 2) (j := k79) (x := v) (by omega); rw [insX_st2] at z; exact z)
        have nM : mx (up w79 386 (128 * q + 28 + k79) v) q 0 0 = mx w q 0 0 + 1 := M2.1
        have C97 := MOG_fq hG2 hq C64 (f79.tr (FQ_up (q := q) (i := 128 * q + 28 + k79) (x := v) (by have := b79.1; have := b79.2.1; omega))) (X := insX (G.now.c q) (kbX (G.now.c q) f) (v5 f v 3 0 0)) (by rw [← kk]; exact (insX_cv CV ⟨b79.1, by rw [eN]; exact b79.2.1⟩ rfl rfl rfl (fun _ => ⟨rfl, rfl⟩)).tr M2.sy.v) ((CI_ins (v := v5 f v 3 0 0) I0 (by omega) b79 (fun z => f40b (by omega) _ b79.1 z) (by show KI f v 3 0 0; unfold KI; omega)).eq M2.sy)
        refine r_istore4 (pc := 82) dX12_setKey_82 rfl ?_
        refine r_aload_n (pc := 84) dX12_setKey_84 rfl ?_
        refine h_X12_7 (pc := 85) rfl dX12_setKey_85 ?_
        refine r_iload_n (pc := 88) dX12_setKey_88 rfl ?_
        refine r_bipush (pc := 89) (n := 28) dX12_setKey_89 (by decide) ?_
        refine r_iload (pc := 91) dX12_setKey_91 rfl ?_
        refine c_X12_70 (pc := 93) rfl dX12_setKey_93 (by omega) (Nat.le_of_ble_eq_true rfl) ?_
        refine m_X12_at (d - 1) (by omega) (by assumption) (fun r93 e93 => ?_)
        subst e93
        refine r_iload_n (pc := 96) dX12_setKey_96 rfl ?_
        refine f_iast (pc := 97) dX12_setKey_97 (n := 660) (by assumption) (by first | assumption | rfl) (by omega) (by omega) (by omega) (by omega) (fun hw97 => ?_)
        refine r_aload_n (pc := 98) dX12_setKey_98 rfl ?_
        refine r_iload_n (pc := 99) dX12_setKey_99 rfl ?_
        refine c_X12_78 (pc := 100) rfl dX12_setKey_100 (by first | assumption | rfl) (by omega) (Nat.le_of_ble_eq_true rfl) ?_
        refine m_X12_many (d - 1) (by omega) (by assumption) hq (fun r100 e100 b100 => ?_)
        exact f_iret (pc := 103) dX12_setKey_103 rfl (by assumption) (hQ _ _ (fst_m o (by omega)) (snd_m o C97) (FL64.tr (fun p e => by rw [up_ne (by omega)]; exact f79.1 p (by omega))) (by assumption))
      have o : o_setKey G q f v = (-1000000003, G) := by
        unfold o_setKey
        rw [if_neg (fun z => z iq), if_neg (by omega), if_pos (by omega)]
      refine r_ldc (pc := 60) (n := -1000000003) dX12_setKey_60 kw_X12_145 rfl ?_
      exact f_iret (pc := 62) dX12_setKey_62 rfl (by assumption) (hQ _ _ (fst_m o (by omega)) (snd_m o hC) (FRH.rf w) (by assumption))
    have o : o_setKey G q f v = (-1000000002, G) := by
      unfold o_setKey
      rw [if_neg (fun z => z iq), if_pos (by omega)]
    refine r_ldc (pc := 34) (n := -1000000002) dX12_setKey_34 kw_X12_132 rfl ?_
    exact f_iret (pc := 36) dX12_setKey_36 rfl (by assumption) (hQ _ _ (fst_m o (by omega)) (snd_m o hC) (FRH.rf w) (by assumption))
  have o : o_setKey G q f v = (-1000000001, G) := by
    unfold o_setKey
    exact if_pos (fun z => by have z : 0 ≤ q ∧ q ≤ 3 := z; omega)
  refine r_ldc (pc := 7) (n := -1000000001) dX12_setKey_7 kw_X12_131 rfl ?_
  exact f_iret (pc := 9) dX12_setKey_9 rfl (by assumption) (hQ _ _ (fst_m o (by omega)) (snd_m o hC) (FRH.rf w) (by assumption))
set_option maxRecDepth 8000 in
theorem y_removeKey {Q : Option AV → Wd → Prop} {w : Wd} (d : Nat) {G : GS} {q f : Int} (hd : 5 ≤ d) (hw : WR w) (hG : GOK G) (hC : MOG G w) (rq : R32 q) (rf : R32 f) (hQ : ∀ r w2, r = (o_removeKey G q f).1 → MOG (o_removeKey G q f).2 w2 → FRH w w2 → WR w2 → Q (some (vI r)) w2) : M mX12_removeKey (Rm d) [vR (some 385), vI q, vI f] (fl w) (lQ Q) := by
  have hp := MOG.hp hG hC
  have hG2 := GOK_rec hG
  refine f_mofv (L0 := [some (vR (some 385)), some (vI q), some (vI f), none]) rfl (Nat.le_of_ble_eq_true rfl) rfl ?_
  refine r_iload_n (pc := 0) dX12_removeKey_0 rfl ?_
  refine c_X12_74 (pc := 1) rfl dX12_removeKey_1 (by omega) (Nat.le_of_ble_eq_true rfl) ?_
  refine m_X12_isCurve (d - 1) (by omega) (by assumption) (by omega) (fun r1 e1 b1 => ?_)
  have i1 := b2i_i e1
  refine r_ifeq (pc := 4) (tgt := 16) dX12_removeKey_4 rfl (by omega) (fun h4 => ?_) (fun h4 => ?_)
  · have o : o_removeKey G q f = (-1000000001, G) := by
      unfold o_removeKey
      exact if_pos (fun z => by have z : 0 ≤ q ∧ q ≤ 3 := z; omega)
    refine r_iconst (pc := 16) (n := (-1)) dX12_removeKey_16 ?_
    refine r_istore3 (pc := 17) dX12_removeKey_17 rfl ?_
    refine r_iload_n (pc := 18) dX12_removeKey_18 rfl ?_
    refine r_ifge (pc := 19) (tgt := 25) dX12_removeKey_19 rfl (by omega) (fun h19 => ?_) (fun h19 => ?_)
    · omega
      --stop
    refine r_ldc (pc := 22) (n := -1000000001) dX12_removeKey_22 kw_X12_131 rfl ?_
    exact f_iret (pc := 24) dX12_removeKey_24 rfl (by assumption) (hQ _ _ (fst_m o (by omega)) (snd_m o hC) (FRH.rf w) (by assumption))
    --stop
  have hq : 0 ≤ q ∧ q ≤ 3 := by omega
  have iq : inC q := hq
  have CV := hC.cv hq
  have I0 := hC.ci hq
  have hn : 0 ≤ mx w q 0 0 ∧ mx w q 0 0 ≤ 24 := I0.1
  have eN : G.now.c q 0 0 = mx w q 0 0 := CV.1
  refine r_aload_n (pc := 7) dX12_removeKey_7 rfl ?_
  refine r_iload_n (pc := 8) dX12_removeKey_8 rfl ?_
  refine r_iload_n (pc := 9) dX12_removeKey_9 rfl ?_
  refine c_X12_142 (pc := 10) rfl dX12_removeKey_10 (by first | assumption | rfl) (by omega) (Nat.le_of_ble_eq_true rfl) ?_
  refine m_X12_find (d - 1) (by omega) (by assumption) hq I0 (by omega) (fun r10 e10 a10 c10 => ?_)
  have f10a := fin_in I0 e10
  have f10n : 0 ≤ r10 → r10 < mx w q 0 0 := fun z => (f10a z).1
  have f10b := fin_no I0 e10
  rw [← fin_cg CV (by omega)] at e10
  refine r_goto (pc := 13) (tgt := 17) dX12_removeKey_13 rfl ?_
  refine r_istore3 (pc := 17) dX12_removeKey_17 rfl ?_
  refine r_iload_n (pc := 18) dX12_removeKey_18 rfl ?_
  refine r_ifge (pc := 19) (tgt := 25) dX12_removeKey_19 rfl (by omega) (fun h19 => ?_) (fun h19 => ?_)
  · have o : o_removeKey G q f = (G.now.c q 0 0 - 1, setC (recG G) q (delX (G.now.c q) r10)) := by
      unfold o_removeKey
      rw [if_neg (fun z => z iq), if_neg (by omega), ← e10]
    refine r_aload_n (pc := 25) dX12_removeKey_25 rfl ?_
    refine c_X12_146 (pc := 26) rfl dX12_removeKey_26 (by first | assumption | rfl) (by omega) (Nat.le_of_ble_eq_true rfl) ?_
    refine m_X12_changes (d - 1) (by omega) (by assumption) hp (fun w26 c26 hw26 => ?_)
    obtain ⟨C26, F26⟩ := MOG_rec hG hC c26
    have X26 : mx w26 q = mx w q := by unfold mx; rw [F26 386 (by omega) (by omega)]
    have FL26 : FRH w w26 := fun p e => F26 p (by omega) (by omega)
    refine r_aload_n (pc := 29) dX12_removeKey_29 rfl ?_
    refine r_iload_n (pc := 30) dX12_removeKey_30 rfl ?_
    refine r_iload_n (pc := 31) dX12_removeKey_31 rfl ?_
    refine c_X12_153 (pc := 32) rfl dX12_removeKey_32 (by first | assumption | rfl) (by omega) (Nat.le_of_ble_eq_true rfl) ?_
    refine m_X12_removes (d - 1) (by omega) (by assumption) hq (by rw [X26]; omega) (by rw [X26]; omega) (fun w32 f32 e32 hw32 => ?_)
    rw [X26] at e32
    have n32 : mx w32 q 0 0 = mx w q 0 0 - 1 := e32.1
    have C32 := MOG_fq hG2 hq C26 f32 (X := delX (G.now.c q) r10) ((delX_cv CV (by omega)).tr e32.sy.v) ((CI_del I0 (by omega)).eq e32.sy)
    refine r_aload_n (pc := 35) dX12_removeKey_35 rfl ?_
    refine r_iload_n (pc := 36) dX12_removeKey_36 rfl ?_
    refine c_X12_78 (pc := 37) rfl dX12_removeKey_37 (by first | assumption | rfl) (by omega) (Nat.le_of_ble_eq_true rfl) ?_
    refine m_X12_many (d - 1) (by omega) (by assumption) hq (fun r37 e37 b37 => ?_)
    exact f_iret (pc := 40) dX12_removeKey_40 rfl (by assumption) (hQ _ _ (fst_m o (by omega)) (snd_m o C32) (FL26.tr (fun p e => f32.1 p (by omega))) (by assumption))
  have o : o_removeKey G q f = (-1000000001, G) := by
    unfold o_removeKey
    rw [if_neg (fun z => z iq), if_pos (by omega)]
  refine r_ldc (pc := 22) (n := -1000000001) dX12_removeKey_22 kw_X12_131 rfl ?_
  exact f_iret (pc := 24) dX12_removeKey_24 rfl (by assumption) (hQ _ _ (fst_m o (by omega)) (snd_m o hC) (FRH.rf w) (by assumption))
set_option maxRecDepth 8000 in
theorem y_moveKey {Q : Option AV → Wd → Prop} {w : Wd} (d : Nat) {G : GS} {q f t : Int} (hd : 6 ≤ d) (hw : WR w) (hG : GOK G) (hC : MOG G w) (rq : R32 q) (rf : R32 f) (rt : R32 t) (hQ : ∀ r w2, r = (o_moveKey G q f t).1 → MOG (o_moveKey G q f t).2 w2 → FRH w w2 → WR w2 → Q (some (vI r)) w2) : M mX12_moveKey (Rm d) [vR (some 385), vI q, vI f, vI t] (fl w) (lQ Q) := by
  have hp := MOG.hp hG hC
  have hG2 := GOK_rec hG
  refine f_mofv (L0 := [some (vR (some 385)), some (vI q), some (vI f), some (vI t), none, none, none, none, none]) rfl (Nat.le_of_ble_eq_true rfl) rfl ?_
  refine r_iload_n (pc := 0) dX12_moveKey_0 rfl ?_
  refine c_X12_74 (pc := 1) rfl dX12_moveKey_1 (by omega) (Nat.le_of_ble_eq_true rfl) ?_
  refine m_X12_isCurve (d - 1) (by omega) (by assumption) (by omega) (fun r1 e1 b1 => ?_)
  have i1 := b2i_i e1
  refine r_ifeq (pc := 4) (tgt := 16) dX12_moveKey_4 rfl (by omega) (fun h4 => ?_) (fun h4 => ?_)
  · have o : o_moveKey G q f t = (-1000000001, G) := by
      unfold o_moveKey
      exact if_pos (fun z => by have z : 0 ≤ q ∧ q ≤ 3 := z; omega)
    refine r_iconst (pc := 16) (n := (-1)) dX12_moveKey_16 ?_
    refine r_istore4 (pc := 17) dX12_moveKey_17 rfl ?_
    refine r_iload (pc := 19) dX12_moveKey_19 rfl ?_
    refine r_ifge (pc := 21) (tgt := 27) dX12_moveKey_21 rfl (by omega) (fun h21 => ?_) (fun h21 => ?_)
    · omega
      --stop
    refine r_ldc (pc := 24) (n := -1000000001) dX12_moveKey_24 kw_X12_131 rfl ?_
    exact f_iret (pc := 26) dX12_moveKey_26 rfl (by assumption) (hQ _ _ (fst_m o (by omega)) (snd_m o hC) (FRH.rf w) (by assumption))
    --stop
  have hq : 0 ≤ q ∧ q ≤ 3 := by omega
  have iq : inC q := hq
  have CV := hC.cv hq
  have I0 := hC.ci hq
  have hn : 0 ≤ mx w q 0 0 ∧ mx w q 0 0 ≤ 24 := I0.1
  have eN : G.now.c q 0 0 = mx w q 0 0 := CV.1
  refine r_aload_n (pc := 7) dX12_moveKey_7 rfl ?_
  refine r_iload_n (pc := 8) dX12_moveKey_8 rfl ?_
  refine r_iload_n (pc := 9) dX12_moveKey_9 rfl ?_
  refine c_X12_142 (pc := 10) rfl dX12_moveKey_10 (by first | assumption | rfl) (by omega) (Nat.le_of_ble_eq_true rfl) ?_
  refine m_X12_find (d - 1) (by omega) (by assumption) hq I0 (by omega) (fun r10 e10 a10 c10 => ?_)
  have f10a := fin_in I0 e10
  have f10n : 0 ≤ r10 → r10 < mx w q 0 0 := fun z => (f10a z).1
  have f10b := fin_no I0 e10
  rw [← fin_cg CV (by omega)] at e10
  refine r_goto (pc := 13) (tgt := 17) dX12_moveKey_13 rfl ?_
  refine r_istore4 (pc := 17) dX12_moveKey_17 rfl ?_
  refine r_iload (pc := 19) dX12_moveKey_19 rfl ?_
  refine r_ifge (pc := 21) (tgt := 27) dX12_moveKey_21 rfl (by omega) (fun h21 => ?_) (fun h21 => ?_)
  · refine r_iload_n (pc := 27) dX12_moveKey_27 rfl ?_
    refine r_iconst (pc := 28) (n := 0) dX12_moveKey_28 ?_
    refine r_sipush (pc := 29) (n := 480) dX12_moveKey_29 (by decide) ?_
    refine c_X12_66 (pc := 32) rfl dX12_moveKey_32 (by omega) (Nat.le_of_ble_eq_true rfl) ?_
    refine m_X12_in (d - 1) (by omega) (by assumption) (by omega) (by omega) (by omega) (fun r32 e32 b32 => ?_)
    have i32 := b2i_i e32
    refine r_ifne (pc := 35) (tgt := 41) dX12_moveKey_35 rfl (by omega) (fun h35 => ?_) (fun h35 => ?_)
    · refine r_iload_n (pc := 41) dX12_moveKey_41 rfl ?_
      refine r_iload_n (pc := 42) dX12_moveKey_42 rfl ?_
      refine r_icmpeq (pc := 43) (tgt := 58) dX12_moveKey_43 rfl (by omega) (by omega) (fun h43 => ?_) (fun h43 => ?_)
      · have NE : ∀ j, 0 ≤ j → j < mx w q 0 0 → mx w q 1 j = t → j = r10 := fun j j0 j1 e => fin_one I0 j0 j1 (f10a (by omega)).1 (by omega) (by rw [e, (f10a (by omega)).2]; omega)
        refine r_aload_n (pc := 58) dX12_moveKey_58 rfl ?_
        refine c_X12_146 (pc := 59) rfl dX12_moveKey_59 (by first | assumption | rfl) (by omega) (Nat.le_of_ble_eq_true rfl) ?_
        refine m_X12_changes (d - 1) (by omega) (by assumption) hp (fun w59 c59 hw59 => ?_)
        obtain ⟨C59, F59⟩ := MOG_rec hG hC c59
        have X59 : mx w59 q = mx w q := by unfold mx; rw [F59 386 (by omega) (by omega)]
        have FL59 : FRH w w59 := fun p e => F59 p (by omega) (by omega)
        refine r_aload_n (pc := 62) dX12_moveKey_62 rfl ?_
        refine h_X12_7 (pc := 63) rfl dX12_moveKey_63 ?_
        refine r_iload_n (pc := 66) dX12_moveKey_66 rfl ?_
        refine r_bipush (pc := 67) (n := 28) dX12_moveKey_67 (by decide) ?_
        refine r_iload (pc := 69) dX12_moveKey_69 rfl ?_
        refine c_X12_70 (pc := 71) rfl dX12_moveKey_71 (by omega) (Nat.le_of_ble_eq_true rfl) ?_
        refine m_X12_at (d - 1) (by omega) (by assumption) (fun r71 e71 => ?_)
        refine f_iald (pc := 74) dX12_moveKey_74 (n := 660) (by assumption) (by first | assumption | rfl) (by omega) (by omega) (by omega) (fun h74 => ?_)
        rw [mxR2 (w := w59) (q := q) (j := r10) (i := r71) (by omega)] at h74 ⊢
        rw [X59]
        have P0 := I0.2.1 r10 (by omega) (by omega)
        refine r_istore5 (pc := 75) dX12_moveKey_75 rfl ?_
        refine r_aload_n (pc := 77) dX12_moveKey_77 rfl ?_
        refine h_X12_7 (pc := 78) rfl dX12_moveKey_78 ?_
        refine r_iload_n (pc := 81) dX12_moveKey_81 rfl ?_
        refine r_bipush (pc := 82) (n := 52) dX12_moveKey_82 (by decide) ?_
        refine r_iload (pc := 84) dX12_moveKey_84 rfl ?_
        refine c_X12_70 (pc := 86) rfl dX12_moveKey_86 (by omega) (Nat.le_of_ble_eq_true rfl) ?_
        refine m_X12_at (d - 1) (by omega) (by assumption) (fun r86 e86 => ?_)
        refine f_iald (pc := 89) dX12_moveKey_89 (n := 660) (by assumption) (by first | assumption | rfl) (by omega) (by omega) (by omega) (fun h89 => ?_)
        rw [mxR3 (w := w59) (q := q) (j := r10) (i := r86) (by omega)] at h89 ⊢
        rw [X59]
        refine r_istore6 (pc := 90) dX12_moveKey_90 rfl ?_
        refine r_aload_n (pc := 92) dX12_moveKey_92 rfl ?_
        refine h_X12_7 (pc := 93) rfl dX12_moveKey_93 ?_
        refine r_iload_n (pc := 96) dX12_moveKey_96 rfl ?_
        refine r_bipush (pc := 97) (n := 76) dX12_moveKey_97 (by decide) ?_
        refine r_iload (pc := 99) dX12_moveKey_99 rfl ?_
        refine c_X12_70 (pc := 101) rfl dX12_moveKey_101 (by omega) (Nat.le_of_ble_eq_true rfl) ?_
        refine m_X12_at (d - 1) (by omega) (by assumption) (fun r101 e101 => ?_)
        refine f_iald (pc := 104) dX12_moveKey_104 (n := 660) (by assumption) (by first | assumption | rfl) (by omega) (by omega) (by omega) (fun h104 => ?_)
        rw [mxR4 (w := w59) (q := q) (j := r10) (i := r101) (by omega)] at h104 ⊢
        rw [X59]
        refine r_istore7 (pc := 105) dX12_moveKey_105 rfl ?_
        refine r_aload_n (pc := 107) dX12_moveKey_107 rfl ?_
        refine h_X12_7 (pc := 108) rfl dX12_moveKey_108 ?_
        refine r_iload_n (pc := 111) dX12_moveKey_111 rfl ?_
        refine r_bipush (pc := 112) (n := 100) dX12_moveKey_112 (by decide) ?_
        refine r_iload (pc := 114) dX12_moveKey_114 rfl ?_
        refine c_X12_70 (pc := 116) rfl dX12_moveKey_116 (by omega) (Nat.le_of_ble_eq_true rfl) ?_
        refine m_X12_at (d - 1) (by omega) (by assumption) (fun r116 e116 => ?_)
        refine f_iald (pc := 119) dX12_moveKey_119 (n := 660) (by assumption) (by first | assumption | rfl) (by omega) (by omega) (by omega) (fun h119 => ?_)
        rw [mxR5 (w := w59) (q := q) (j := r10) (i := r116) (by omega)] at h119 ⊢
        rw [X59]
        refine r_istore8 (pc := 120) dX12_moveKey_120 rfl ?_
        refine r_aload_n (pc := 122) dX12_moveKey_122 rfl ?_
        refine r_iload_n (pc := 123) dX12_moveKey_123 rfl ?_
        refine r_iload (pc := 124) dX12_moveKey_124 rfl ?_
        refine c_X12_153 (pc := 126) rfl dX12_moveKey_126 (by first | assumption | rfl) (by omega) (Nat.le_of_ble_eq_true rfl) ?_
        refine m_X12_removes (d - 1) (by omega) (by assumption) hq (by rw [X59]; omega) (by rw [X59]; omega) (fun w126 f126 e126 hw126 => ?_)
        rw [X59] at e126
        have n126 : mx w126 q 0 0 = mx w q 0 0 - 1 := e126.1
        have ID := (CI_del I0 (k := r10) (by omega)).eq e126.sy
        refine r_aload_n (pc := 129) dX12_moveKey_129 rfl ?_
        refine r_iload_n (pc := 130) dX12_moveKey_130 rfl ?_
        refine r_iload_n (pc := 131) dX12_moveKey_131 rfl ?_
        refine r_iload (pc := 132) dX12_moveKey_132 rfl ?_
        refine r_iload (pc := 134) dX12_moveKey_134 rfl ?_
        refine r_iload (pc := 136) dX12_moveKey_136 rfl ?_
        refine r_iload (pc := 138) dX12_moveKey_138 rfl ?_
        refine c_X12_149 (pc := 140) rfl dX12_moveKey_140 (by first | assumption | rfl) (by omega) (Nat.le_of_ble_eq_true rfl) ?_
        have o : o_moveKey G q f t = (kbX (delX (G.now.c q) r10) t, setC (recG G) q (movX (G.now.c q) r10 t)) := by
          unfold o_moveKey
          rw [if_neg (fun z => z iq), if_neg (by omega), if_neg (by omega), if_neg (by omega), ← e10]
        refine m_X12_inserts (d - 1) (by omega) (by assumption) hq ID (by omega) (fun j j0 j1 e => ?_) (by omega) (by omega) (by omega) (by omega) (by omega) (fun k140 w140 b140 f140 e140 hw140 => ?_)
        · rw [e126.row (by omega) (by omega) j0 j1] at e
          rcases Int.lt_or_le j r10 with z | z
          · rw [delX_lt (by omega) z] at e
            have := NE j j0 (by omega) e
            omega
          · rw [delX_ge (by omega) z] at e
            have := NE (j + 1) (by omega) (by omega) e
            omega
        have kk := kbX_of ID.1.1 b140
        rw [kbX_cg e126.v] at kk
        have e2 : CEQ (mx w140 q) (movX (mx w q) r10 t) := by
          refine e140.tr ?_
          rw [kk]
          unfold movX
          exact insX_cg e126 _ ⟨by rw [← kk]; exact b140.1, by rw [← kk]; exact b140.2.1⟩
        rw [← kbX_cg (delX_cv CV (by omega))] at kk
        have C140 := MOG_fq hG2 hq C59 (f126.tr f140) (X := movX (G.now.c q) r10 t) ((CV.mov (by omega)).tr e2.sy.v) ((CI_mov I0 (by omega) (by omega) NE).eq e2.sy)
        exact f_iret (pc := 143) dX12_moveKey_143 rfl (by assumption) (hQ _ _ (fst_m o kk) (snd_m o C140) (FL59.tr (fun p e => (f126.tr f140).1 p (by omega))) (by assumption))
      refine r_aload_n (pc := 46) dX12_moveKey_46 rfl ?_
      refine r_iload_n (pc := 47) dX12_moveKey_47 rfl ?_
      refine r_iload_n (pc := 48) dX12_moveKey_48 rfl ?_
      refine c_X12_142 (pc := 49) rfl dX12_moveKey_49 (by first | assumption | rfl) (by omega) (Nat.le_of_ble_eq_true rfl) ?_
      refine m_X12_find (d - 1) (by omega) (by assumption) hq I0 (by omega) (fun r49 e49 a49 c49 => ?_)
      have f49a := fin_in I0 e49
      have f49n : 0 ≤ r49 → r49 < mx w q 0 0 := fun z => (f49a z).1
      have f49b := fin_no I0 e49
      rw [← fin_cg CV (by omega)] at e49
      refine r_iflt (pc := 52) (tgt := 58) dX12_moveKey_52 rfl (by omega) (fun h52 => ?_) (fun h52 => ?_)
      · have NE : ∀ j, 0 ≤ j → j < mx w q 0 0 → mx w q 1 j = t → j = r10 := fun j j0 j1 e => absurd e (f49b (by omega) j j0 j1)
        refine r_aload_n (pc := 58) dX12_moveKey_58 rfl ?_
        refine c_X12_146 (pc := 59) rfl dX12_moveKey_59 (by first | assumption | rfl) (by omega) (Nat.le_of_ble_eq_true rfl) ?_
        refine m_X12_changes (d - 1) (by omega) (by assumption) hp (fun w59 c59 hw59 => ?_)
        obtain ⟨C59, F59⟩ := MOG_rec hG hC c59
        have X59 : mx w59 q = mx w q := by unfold mx; rw [F59 386 (by omega) (by omega)]
        have FL59 : FRH w w59 := fun p e => F59 p (by omega) (by omega)
        refine r_aload_n (pc := 62) dX12_moveKey_62 rfl ?_
        refine h_X12_7 (pc := 63) rfl dX12_moveKey_63 ?_
        refine r_iload_n (pc := 66) dX12_moveKey_66 rfl ?_
        refine r_bipush (pc := 67) (n := 28) dX12_moveKey_67 (by decide) ?_
        refine r_iload (pc := 69) dX12_moveKey_69 rfl ?_
        refine c_X12_70 (pc := 71) rfl dX12_moveKey_71 (by omega) (Nat.le_of_ble_eq_true rfl) ?_
        refine m_X12_at (d - 1) (by omega) (by assumption) (fun r71 e71 => ?_)
        refine f_iald (pc := 74) dX12_moveKey_74 (n := 660) (by assumption) (by first | assumption | rfl) (by omega) (by omega) (by omega) (fun h74 => ?_)
        rw [mxR2 (w := w59) (q := q) (j := r10) (i := r71) (by omega)] at h74 ⊢
        rw [X59]
        have P0 := I0.2.1 r10 (by omega) (by omega)
        refine r_istore5 (pc := 75) dX12_moveKey_75 rfl ?_
        refine r_aload_n (pc := 77) dX12_moveKey_77 rfl ?_
        refine h_X12_7 (pc := 78) rfl dX12_moveKey_78 ?_
        refine r_iload_n (pc := 81) dX12_moveKey_81 rfl ?_
        refine r_bipush (pc := 82) (n := 52) dX12_moveKey_82 (by decide) ?_
        refine r_iload (pc := 84) dX12_moveKey_84 rfl ?_
        refine c_X12_70 (pc := 86) rfl dX12_moveKey_86 (by omega) (Nat.le_of_ble_eq_true rfl) ?_
        refine m_X12_at (d - 1) (by omega) (by assumption) (fun r86 e86 => ?_)
        refine f_iald (pc := 89) dX12_moveKey_89 (n := 660) (by assumption) (by first | assumption | rfl) (by omega) (by omega) (by omega) (fun h89 => ?_)
        rw [mxR3 (w := w59) (q := q) (j := r10) (i := r86) (by omega)] at h89 ⊢
        rw [X59]
        refine r_istore6 (pc := 90) dX12_moveKey_90 rfl ?_
        refine r_aload_n (pc := 92) dX12_moveKey_92 rfl ?_
        refine h_X12_7 (pc := 93) rfl dX12_moveKey_93 ?_
        refine r_iload_n (pc := 96) dX12_moveKey_96 rfl ?_
        refine r_bipush (pc := 97) (n := 76) dX12_moveKey_97 (by decide) ?_
        refine r_iload (pc := 99) dX12_moveKey_99 rfl ?_
        refine c_X12_70 (pc := 101) rfl dX12_moveKey_101 (by omega) (Nat.le_of_ble_eq_true rfl) ?_
        refine m_X12_at (d - 1) (by omega) (by assumption) (fun r101 e101 => ?_)
        refine f_iald (pc := 104) dX12_moveKey_104 (n := 660) (by assumption) (by first | assumption | rfl) (by omega) (by omega) (by omega) (fun h104 => ?_)
        rw [mxR4 (w := w59) (q := q) (j := r10) (i := r101) (by omega)] at h104 ⊢
        rw [X59]
        refine r_istore7 (pc := 105) dX12_moveKey_105 rfl ?_
        refine r_aload_n (pc := 107) dX12_moveKey_107 rfl ?_
        refine h_X12_7 (pc := 108) rfl dX12_moveKey_108 ?_
        refine r_iload_n (pc := 111) dX12_moveKey_111 rfl ?_
        refine r_bipush (pc := 112) (n := 100) dX12_moveKey_112 (by decide) ?_
        refine r_iload (pc := 114) dX12_moveKey_114 rfl ?_
        refine c_X12_70 (pc := 116) rfl dX12_moveKey_116 (by omega) (Nat.le_of_ble_eq_true rfl) ?_
        refine m_X12_at (d - 1) (by omega) (by assumption) (fun r116 e116 => ?_)
        refine f_iald (pc := 119) dX12_moveKey_119 (n := 660) (by assumption) (by first | assumption | rfl) (by omega) (by omega) (by omega) (fun h119 => ?_)
        rw [mxR5 (w := w59) (q := q) (j := r10) (i := r116) (by omega)] at h119 ⊢
        rw [X59]
        refine r_istore8 (pc := 120) dX12_moveKey_120 rfl ?_
        refine r_aload_n (pc := 122) dX12_moveKey_122 rfl ?_
        refine r_iload_n (pc := 123) dX12_moveKey_123 rfl ?_
        refine r_iload (pc := 124) dX12_moveKey_124 rfl ?_
        refine c_X12_153 (pc := 126) rfl dX12_moveKey_126 (by first | assumption | rfl) (by omega) (Nat.le_of_ble_eq_true rfl) ?_
        refine m_X12_removes (d - 1) (by omega) (by assumption) hq (by rw [X59]; omega) (by rw [X59]; omega) (fun w126 f126 e126 hw126 => ?_)
        rw [X59] at e126
        have n126 : mx w126 q 0 0 = mx w q 0 0 - 1 := e126.1
        have ID := (CI_del I0 (k := r10) (by omega)).eq e126.sy
        refine r_aload_n (pc := 129) dX12_moveKey_129 rfl ?_
        refine r_iload_n (pc := 130) dX12_moveKey_130 rfl ?_
        refine r_iload_n (pc := 131) dX12_moveKey_131 rfl ?_
        refine r_iload (pc := 132) dX12_moveKey_132 rfl ?_
        refine r_iload (pc := 134) dX12_moveKey_134 rfl ?_
        refine r_iload (pc := 136) dX12_moveKey_136 rfl ?_
        refine r_iload (pc := 138) dX12_moveKey_138 rfl ?_
        refine c_X12_149 (pc := 140) rfl dX12_moveKey_140 (by first | assumption | rfl) (by omega) (Nat.le_of_ble_eq_true rfl) ?_
        have o : o_moveKey G q f t = (kbX (delX (G.now.c q) r10) t, setC (recG G) q (movX (G.now.c q) r10 t)) := by
          unfold o_moveKey
          rw [if_neg (fun z => z iq), if_neg (by omega), if_neg (by omega), if_neg (by omega), ← e10]
        refine m_X12_inserts (d - 1) (by omega) (by assumption) hq ID (by omega) (fun j j0 j1 e => ?_) (by omega) (by omega) (by omega) (by omega) (by omega) (fun k140 w140 b140 f140 e140 hw140 => ?_)
        · rw [e126.row (by omega) (by omega) j0 j1] at e
          rcases Int.lt_or_le j r10 with z | z
          · rw [delX_lt (by omega) z] at e
            have := NE j j0 (by omega) e
            omega
          · rw [delX_ge (by omega) z] at e
            have := NE (j + 1) (by omega) (by omega) e
            omega
        have kk := kbX_of ID.1.1 b140
        rw [kbX_cg e126.v] at kk
        have e2 : CEQ (mx w140 q) (movX (mx w q) r10 t) := by
          refine e140.tr ?_
          rw [kk]
          unfold movX
          exact insX_cg e126 _ ⟨by rw [← kk]; exact b140.1, by rw [← kk]; exact b140.2.1⟩
        rw [← kbX_cg (delX_cv CV (by omega))] at kk
        have C140 := MOG_fq hG2 hq C59 (f126.tr f140) (X := movX (G.now.c q) r10 t) ((CV.mov (by omega)).tr e2.sy.v) ((CI_mov I0 (by omega) (by omega) NE).eq e2.sy)
        exact f_iret (pc := 143) dX12_moveKey_143 rfl (by assumption) (hQ _ _ (fst_m o kk) (snd_m o C140) (FL59.tr (fun p e => (f126.tr f140).1 p (by omega))) (by assumption))
      have o : o_moveKey G q f t = (-1000000004, G) := by
        unfold o_moveKey
        rw [if_neg (fun z => z iq), if_neg (by omega), if_neg (by omega), if_pos (by omega)]
      refine r_ldc (pc := 55) (n := -1000000004) dX12_moveKey_55 kw_X12_157 rfl ?_
      exact f_iret (pc := 57) dX12_moveKey_57 rfl (by assumption) (hQ _ _ (fst_m o (by omega)) (snd_m o hC) (FRH.rf w) (by assumption))
    have o : o_moveKey G q f t = (-1000000002, G) := by
      unfold o_moveKey
      rw [if_neg (fun z => z iq), if_neg (by omega), if_pos (by omega)]
    refine r_ldc (pc := 38) (n := -1000000002) dX12_moveKey_38 kw_X12_132 rfl ?_
    exact f_iret (pc := 40) dX12_moveKey_40 rfl (by assumption) (hQ _ _ (fst_m o (by omega)) (snd_m o hC) (FRH.rf w) (by assumption))
  have o : o_moveKey G q f t = (-1000000001, G) := by
    unfold o_moveKey
    rw [if_neg (fun z => z iq), if_pos (by omega)]
  refine r_ldc (pc := 24) (n := -1000000001) dX12_moveKey_24 kw_X12_131 rfl ?_
  exact f_iret (pc := 26) dX12_moveKey_26 rfl (by assumption) (hQ _ _ (fst_m o (by omega)) (snd_m o hC) (FRH.rf w) (by assumption))
set_option maxRecDepth 8000 in
theorem y_setMode {Q : Option AV → Wd → Prop} {w : Wd} (d : Nat) {G : GS} {q f m : Int} (hd : 8 ≤ d) (hw : WR w) (hG : GOK G) (hC : MOG G w) (rq : R32 q) (rf : R32 f) (rm : R32 m) (hQ : ∀ r w2, r = (o_setMode G q f m).1 → MOG (o_setMode G q f m).2 w2 → FRH w w2 → WR w2 → Q (some (vI r)) w2) : M mX12_setMode (Rm d) [vR (some 385), vI q, vI f, vI m] (fl w) (lQ Q) := by
  have hp := MOG.hp hG hC
  have hG2 := GOK_rec hG
  refine f_mofv (L0 := [some (vR (some 385)), some (vI q), some (vI f), some (vI m), none, none]) rfl (Nat.le_of_ble_eq_true rfl) rfl ?_
  refine r_iload_n (pc := 0) dX12_setMode_0 rfl ?_
  refine c_X12_74 (pc := 1) rfl dX12_setMode_1 (by omega) (Nat.le_of_ble_eq_true rfl) ?_
  refine m_X12_isCurve (d - 1) (by omega) (by assumption) (by omega) (fun r1 e1 b1 => ?_)
  have i1 := b2i_i e1
  refine r_ifeq (pc := 4) (tgt := 16) dX12_setMode_4 rfl (by omega) (fun h4 => ?_) (fun h4 => ?_)
  · have o : o_setMode G q f m = (-1000000001, G) := by
      unfold o_setMode
      exact if_pos (fun z => by have z : 0 ≤ q ∧ q ≤ 3 := z; omega)
    refine r_iconst (pc := 16) (n := (-1)) dX12_setMode_16 ?_
    refine r_istore4 (pc := 17) dX12_setMode_17 rfl ?_
    refine r_iload (pc := 19) dX12_setMode_19 rfl ?_
    refine r_ifge (pc := 21) (tgt := 27) dX12_setMode_21 rfl (by omega) (fun h21 => ?_) (fun h21 => ?_)
    · omega
      --stop
    refine r_ldc (pc := 24) (n := -1000000001) dX12_setMode_24 kw_X12_131 rfl ?_
    exact f_iret (pc := 26) dX12_setMode_26 rfl (by assumption) (hQ _ _ (fst_m o (by omega)) (snd_m o hC) (FRH.rf w) (by assumption))
    --stop
  have hq : 0 ≤ q ∧ q ≤ 3 := by omega
  have iq : inC q := hq
  have CV := hC.cv hq
  have I0 := hC.ci hq
  have hn : 0 ≤ mx w q 0 0 ∧ mx w q 0 0 ≤ 24 := I0.1
  have eN : G.now.c q 0 0 = mx w q 0 0 := CV.1
  refine r_aload_n (pc := 7) dX12_setMode_7 rfl ?_
  refine r_iload_n (pc := 8) dX12_setMode_8 rfl ?_
  refine r_iload_n (pc := 9) dX12_setMode_9 rfl ?_
  refine c_X12_142 (pc := 10) rfl dX12_setMode_10 (by first | assumption | rfl) (by omega) (Nat.le_of_ble_eq_true rfl) ?_
  refine m_X12_find (d - 1) (by omega) (by assumption) hq I0 (by omega) (fun r10 e10 a10 c10 => ?_)
  have f10a := fin_in I0 e10
  have f10n : 0 ≤ r10 → r10 < mx w q 0 0 := fun z => (f10a z).1
  have f10b := fin_no I0 e10
  rw [← fin_cg CV (by omega)] at e10
  refine r_goto (pc := 13) (tgt := 17) dX12_setMode_13 rfl ?_
  refine r_istore4 (pc := 17) dX12_setMode_17 rfl ?_
  refine r_iload (pc := 19) dX12_setMode_19 rfl ?_
  refine r_ifge (pc := 21) (tgt := 27) dX12_setMode_21 rfl (by omega) (fun h21 => ?_) (fun h21 => ?_)
  · refine r_iload_n (pc := 27) dX12_setMode_27 rfl ?_
    refine r_iconst (pc := 28) (n := 0) dX12_setMode_28 ?_
    refine r_bipush (pc := 29) (n := 6) dX12_setMode_29 (by decide) ?_
    refine c_X12_66 (pc := 31) rfl dX12_setMode_31 (by omega) (Nat.le_of_ble_eq_true rfl) ?_
    refine m_X12_in (d - 1) (by omega) (by assumption) (by omega) (by omega) (by omega) (fun r31 e31 b31 => ?_)
    have i31 := b2i_i e31
    refine r_ifne (pc := 34) (tgt := 40) dX12_setMode_34 rfl (by omega) (fun h34 => ?_) (fun h34 => ?_)
    · refine r_aload_n (pc := 40) dX12_setMode_40 rfl ?_
      refine c_X12_146 (pc := 41) rfl dX12_setMode_41 (by first | assumption | rfl) (by omega) (Nat.le_of_ble_eq_true rfl) ?_
      refine m_X12_changes (d - 1) (by omega) (by assumption) hp (fun w41 c41 hw41 => ?_)
      obtain ⟨C41, F41⟩ := MOG_rec hG hC c41
      have X41 : mx w41 q = mx w q := by unfold mx; rw [F41 386 (by omega) (by omega)]
      have FL41 : FRH w w41 := fun p e => F41 p (by omega) (by omega)
      refine r_aload_n (pc := 44) dX12_setMode_44 rfl ?_
      refine h_X12_7 (pc := 45) rfl dX12_setMode_45 ?_
      refine r_iload_n (pc := 48) dX12_setMode_48 rfl ?_
      refine r_bipush (pc := 49) (n := 52) dX12_setMode_49 (by decide) ?_
      refine r_iload (pc := 51) dX12_setMode_51 rfl ?_
      refine c_X12_70 (pc := 53) rfl dX12_setMode_53 (by omega) (Nat.le_of_ble_eq_true rfl) ?_
      refine m_X12_at (d - 1) (by omega) (by assumption) (fun r53 e53 => ?_)
      refine f_iald (pc := 56) dX12_setMode_56 (n := 660) (by assumption) (by first | assumption | rfl) (by omega) (by omega) (by omega) (fun h56 => ?_)
      rw [mxR3 (w := w41) (q := q) (j := r10) (i := r53) (by omega)] at h56 ⊢
      rw [X41]
      have m10 := CV.row (r := 3) (j := r10) (by omega) (by omega) (by omega) (by omega)
      have o : o_setMode G q f m = (G.now.c q 3 r10, setC (recG G) q (chmX (G.now.c q) r10 m)) := by
        unfold o_setMode
        rw [if_neg (fun z => z iq), if_neg (by omega), if_neg (by omega), ← e10]
      refine r_istore5 (pc := 57) dX12_setMode_57 rfl ?_
      refine r_iload_n (pc := 59) dX12_setMode_59 rfl ?_
      refine r_ifne (pc := 60) (tgt := 70) dX12_setMode_60 rfl (by omega) (fun h60 => ?_) (fun h60 => ?_)
      · have M2 : CEQ (mx (up w41 386 (128 * q + 52 + r10) m) q) (chmX (mx w q) r10 m) := by
          have M := mx_up (w := w41) (q := q) (r := 3) (k := r10) (i := 128 * q + 52 + r10) (x := m) (by omega) (by omega) (by omega)
          rw [X41] at M
          have z : chmX (mx w q) r10 m = stX (mx w q) 3 r10 m := if_neg (fun y => h60 y.1)
          rw [z]
          exact M.ceq (by have e := M 0 0 (by omega); rw [e, stX_r (by omega)]; omega)
        have C83 := MOG_fq hG2 hq C41 (FQ_up (q := q) (i := 128 * q + 52 + r10) (x := m) (by omega)) (X := chmX (G.now.c q) r10 m) ((CV.chm (by omega)).tr M2.sy.v) ((CI_chm I0 (by omega)).eq M2.sy)
        have FL83 : FRH w41 (up w41 386 (128 * q + 52 + r10) m) := fun p e => up_ne (by omega)
        refine r_aload_n (pc := 70) dX12_setMode_70 rfl ?_
        refine h_X12_7 (pc := 71) rfl dX12_setMode_71 ?_
        refine r_iload_n (pc := 74) dX12_setMode_74 rfl ?_
        refine r_bipush (pc := 75) (n := 52) dX12_setMode_75 (by decide) ?_
        refine r_iload (pc := 77) dX12_setMode_77 rfl ?_
        refine c_X12_70 (pc := 79) rfl dX12_setMode_79 (by omega) (Nat.le_of_ble_eq_true rfl) ?_
        refine m_X12_at (d - 1) (by omega) (by assumption) (fun r79 e79 => ?_)
        subst e79
        refine r_iload_n (pc := 82) dX12_setMode_82 rfl ?_
        refine f_iast (pc := 83) dX12_setMode_83 (n := 660) (by assumption) (by first | assumption | rfl) (by omega) (by omega) (by omega) (by omega) (fun hw83 => ?_)
        refine r_iload (pc := 84) dX12_setMode_84 rfl ?_
        exact f_iret (pc := 86) dX12_setMode_86 rfl (by assumption) (hQ _ _ (fst_m o m10.symm) (snd_m o C83) (FL41.tr FL83) (by assumption))
      refine r_aload_n (pc := 63) dX12_setMode_63 rfl ?_
      refine r_iload_n (pc := 64) dX12_setMode_64 rfl ?_
      refine r_iload (pc := 65) dX12_setMode_65 rfl ?_
      refine c_X12_158 (pc := 67) rfl dX12_setMode_67 (by first | assumption | rfl) (by omega) (Nat.le_of_ble_eq_true rfl) ?_
      refine m_X12_frees (d - 1) (by omega) (by assumption) hq (by rw [X41]; exact I0) (by rw [X41]; omega) (fun w67 f67 e67 hw67 => ?_)
      rw [X41] at e67
      have M2 : CEQ (mx (up w67 386 (128 * q + 52 + r10) m) q) (chmX (mx w q) r10 m) := by
        have M := mx_up (w := w67) (q := q) (r := 3) (k := r10) (i := 128 * q + 52 + r10) (x := m) (by omega) (by omega) (by omega)
        have n67 : mx w67 q 0 0 ≤ 24 := by rw [e67.1]; show stX _ _ _ _ _ _ ≤ 24; rw [stX_r (by omega), stX_r (by omega), stX_r (by omega)]; omega
        refine (M.ceq (by have e := M 0 0 (by omega); rw [e, stX_r (by omega)]; exact n67)).tr ?_
        have z := stX_cg e67 (r := 3) (j := r10) (x := m) (by omega)
        have m0 : m = 0 := by omega
        subst m0
        refine z.tr ?_
        have y : stX (frX (mx w q) r10) 3 r10 0 = frX (mx w q) r10 := stX_2
        rw [y]
        exact frX_chm I0 (by omega)
      have C83 := MOG_fq hG2 hq C41 (f67.tr (FQ_up (q := q) (i := 128 * q + 52 + r10) (x := m) (by omega))) (X := chmX (G.now.c q) r10 m) ((CV.chm (by omega)).tr M2.sy.v) ((CI_chm I0 (by omega)).eq M2.sy)
      have FL83 : FRH w41 (up w67 386 (128 * q + 52 + r10) m) := fun p e => by rw [up_ne (by omega)]; exact f67.1 p (by omega)
      refine r_aload_n (pc := 70) dX12_setMode_70 rfl ?_
      refine h_X12_7 (pc := 71) rfl dX12_setMode_71 ?_
      refine r_iload_n (pc := 74) dX12_setMode_74 rfl ?_
      refine r_bipush (pc := 75) (n := 52) dX12_setMode_75 (by decide) ?_
      refine r_iload (pc := 77) dX12_setMode_77 rfl ?_
      refine c_X12_70 (pc := 79) rfl dX12_setMode_79 (by omega) (Nat.le_of_ble_eq_true rfl) ?_
      refine m_X12_at (d - 1) (by omega) (by assumption) (fun r79 e79 => ?_)
      subst e79
      refine r_iload_n (pc := 82) dX12_setMode_82 rfl ?_
      refine f_iast (pc := 83) dX12_setMode_83 (n := 660) (by assumption) (by first | assumption | rfl) (by omega) (by omega) (by omega) (by omega) (fun hw83 => ?_)
      refine r_iload (pc := 84) dX12_setMode_84 rfl ?_
      exact f_iret (pc := 86) dX12_setMode_86 rfl (by assumption) (hQ _ _ (fst_m o m10.symm) (snd_m o C83) (FL41.tr FL83) (by assumption))
    have o : o_setMode G q f m = (-1000000002, G) := by
      unfold o_setMode
      rw [if_neg (fun z => z iq), if_neg (by omega), if_pos (by omega)]
    refine r_ldc (pc := 37) (n := -1000000002) dX12_setMode_37 kw_X12_132 rfl ?_
    exact f_iret (pc := 39) dX12_setMode_39 rfl (by assumption) (hQ _ _ (fst_m o (by omega)) (snd_m o hC) (FRH.rf w) (by assumption))
  have o : o_setMode G q f m = (-1000000001, G) := by
    unfold o_setMode
    rw [if_neg (fun z => z iq), if_pos (by omega)]
  refine r_ldc (pc := 24) (n := -1000000001) dX12_setMode_24 kw_X12_131 rfl ?_
  exact f_iret (pc := 26) dX12_setMode_26 rfl (by assumption) (hQ _ _ (fst_m o (by omega)) (snd_m o hC) (FRH.rf w) (by assumption))
set_option maxRecDepth 8000 in
theorem y_setSlopes {Q : Option AV → Wd → Prop} {w : Wd} (d : Nat) {G : GS} {q f a b : Int} (hd : 6 ≤ d) (hw : WR w) (hG : GOK G) (hC : MOG G w) (rq : R32 q) (rf : R32 f) (ra : R32 a) (rb : R32 b) (hQ : ∀ r w2, r = (o_setSlopes G q f a b).1 → MOG (o_setSlopes G q f a b).2 w2 → FRH w w2 → WR w2 → Q (some (vI r)) w2) : M mX12_setSlopes (Rm d) [vR (some 385), vI q, vI f, vI a, vI b] (fl w) (lQ Q) := by
  have hp := MOG.hp hG hC
  have hG2 := GOK_rec hG
  refine f_mofv (L0 := [some (vR (some 385)), some (vI q), some (vI f), some (vI a), some (vI b), none, none]) rfl (Nat.le_of_ble_eq_true rfl) rfl ?_
  refine r_iload_n (pc := 0) dX12_setSlopes_0 rfl ?_
  refine c_X12_74 (pc := 1) rfl dX12_setSlopes_1 (by omega) (Nat.le_of_ble_eq_true rfl) ?_
  refine m_X12_isCurve (d - 1) (by omega) (by assumption) (by omega) (fun r1 e1 b1 => ?_)
  have i1 := b2i_i e1
  refine r_ifeq (pc := 4) (tgt := 16) dX12_setSlopes_4 rfl (by omega) (fun h4 => ?_) (fun h4 => ?_)
  · have o : o_setSlopes G q f a b = (-1000000001, G) := by
      unfold o_setSlopes
      exact if_pos (fun z => by have z : 0 ≤ q ∧ q ≤ 3 := z; omega)
    refine r_iconst (pc := 16) (n := (-1)) dX12_setSlopes_16 ?_
    refine r_istore5 (pc := 17) dX12_setSlopes_17 rfl ?_
    refine r_iload (pc := 19) dX12_setSlopes_19 rfl ?_
    refine r_ifge (pc := 21) (tgt := 27) dX12_setSlopes_21 rfl (by omega) (fun h21 => ?_) (fun h21 => ?_)
    · omega
      --stop
    refine r_ldc (pc := 24) (n := -1000000001) dX12_setSlopes_24 kw_X12_131 rfl ?_
    exact f_iret (pc := 26) dX12_setSlopes_26 rfl (by assumption) (hQ _ _ (fst_m o (by omega)) (snd_m o hC) (FRH.rf w) (by assumption))
    --stop
  have hq : 0 ≤ q ∧ q ≤ 3 := by omega
  have iq : inC q := hq
  have CV := hC.cv hq
  have I0 := hC.ci hq
  have hn : 0 ≤ mx w q 0 0 ∧ mx w q 0 0 ≤ 24 := I0.1
  have eN : G.now.c q 0 0 = mx w q 0 0 := CV.1
  refine r_aload_n (pc := 7) dX12_setSlopes_7 rfl ?_
  refine r_iload_n (pc := 8) dX12_setSlopes_8 rfl ?_
  refine r_iload_n (pc := 9) dX12_setSlopes_9 rfl ?_
  refine c_X12_142 (pc := 10) rfl dX12_setSlopes_10 (by first | assumption | rfl) (by omega) (Nat.le_of_ble_eq_true rfl) ?_
  refine m_X12_find (d - 1) (by omega) (by assumption) hq I0 (by omega) (fun r10 e10 a10 c10 => ?_)
  have f10a := fin_in I0 e10
  have f10n : 0 ≤ r10 → r10 < mx w q 0 0 := fun z => (f10a z).1
  have f10b := fin_no I0 e10
  rw [← fin_cg CV (by omega)] at e10
  refine r_goto (pc := 13) (tgt := 17) dX12_setSlopes_13 rfl ?_
  refine r_istore5 (pc := 17) dX12_setSlopes_17 rfl ?_
  refine r_iload (pc := 19) dX12_setSlopes_19 rfl ?_
  refine r_ifge (pc := 21) (tgt := 27) dX12_setSlopes_21 rfl (by omega) (fun h21 => ?_) (fun h21 => ?_)
  · refine r_iload_n (pc := 27) dX12_setSlopes_27 rfl ?_
    refine r_sipush (pc := 28) (n := (-9999)) dX12_setSlopes_28 (by decide) ?_
    refine r_sipush (pc := 31) (n := 9999) dX12_setSlopes_31 (by decide) ?_
    refine c_X12_66 (pc := 34) rfl dX12_setSlopes_34 (by omega) (Nat.le_of_ble_eq_true rfl) ?_
    refine m_X12_in (d - 1) (by omega) (by assumption) (by omega) (by omega) (by omega) (fun r34 e34 b34 => ?_)
    have i34 := b2i_i e34
    refine r_ifeq (pc := 37) (tgt := 54) dX12_setSlopes_37 rfl (by omega) (fun h37 => ?_) (fun h37 => ?_)
    · have o : o_setSlopes G q f a b = (-1000000002, G) := by
        unfold o_setSlopes
        rw [if_neg (fun z => z iq), if_neg (by omega), if_pos (by omega)]
      refine r_ldc (pc := 54) (n := -1000000002) dX12_setSlopes_54 kw_X12_132 rfl ?_
      exact f_iret (pc := 56) dX12_setSlopes_56 rfl (by assumption) (hQ _ _ (fst_m o (by omega)) (snd_m o hC) (FRH.rf w) (by assumption))
    refine r_iload (pc := 40) dX12_setSlopes_40 rfl ?_
    refine r_sipush (pc := 42) (n := (-9999)) dX12_setSlopes_42 (by decide) ?_
    refine r_sipush (pc := 45) (n := 9999) dX12_setSlopes_45 (by decide) ?_
    refine c_X12_66 (pc := 48) rfl dX12_setSlopes_48 (by omega) (Nat.le_of_ble_eq_true rfl) ?_
    refine m_X12_in (d - 1) (by omega) (by assumption) (by omega) (by omega) (by omega) (fun r48 e48 b48 => ?_)
    have i48 := b2i_i e48
    refine r_ifne (pc := 51) (tgt := 57) dX12_setSlopes_51 rfl (by omega) (fun h51 => ?_) (fun h51 => ?_)
    · refine r_aload_n (pc := 57) dX12_setSlopes_57 rfl ?_
      refine c_X12_146 (pc := 58) rfl dX12_setSlopes_58 (by first | assumption | rfl) (by omega) (Nat.le_of_ble_eq_true rfl) ?_
      refine m_X12_changes (d - 1) (by omega) (by assumption) hp (fun w58 c58 hw58 => ?_)
      obtain ⟨C58, F58⟩ := MOG_rec hG hC c58
      have X58 : mx w58 q = mx w q := by unfold mx; rw [F58 386 (by omega) (by omega)]
      have FL58 : FRH w w58 := fun p e => F58 p (by omega) (by omega)
      refine r_aload_n (pc := 61) dX12_setSlopes_61 rfl ?_
      refine h_X12_7 (pc := 62) rfl dX12_setSlopes_62 ?_
      refine r_iload_n (pc := 65) dX12_setSlopes_65 rfl ?_
      refine r_bipush (pc := 66) (n := 52) dX12_setSlopes_66 (by decide) ?_
      refine r_iload (pc := 68) dX12_setSlopes_68 rfl ?_
      refine c_X12_70 (pc := 70) rfl dX12_setSlopes_70 (by omega) (Nat.le_of_ble_eq_true rfl) ?_
      refine m_X12_at (d - 1) (by omega) (by assumption) (fun r70 e70 => ?_)
      refine f_iald (pc := 73) dX12_setSlopes_73 (n := 660) (by assumption) (by first | assumption | rfl) (by omega) (by omega) (by omega) (fun h73 => ?_)
      rw [mxR3 (w := w58) (q := q) (j := r10) (i := r70) (by omega)] at h73 ⊢
      rw [X58]
      have m10 := CV.row (r := 3) (j := r10) (by omega) (by omega) (by omega) (by omega)
      have o : o_setSlopes G q f a b = (G.now.c q 3 r10, setC (recG G) q (stX (stX (stX (G.now.c q) 4 r10 a) 5 r10 b) 3 r10 0)) := by
        unfold o_setSlopes
        rw [if_neg (fun z => z iq), if_neg (by omega), if_neg (by omega), ← e10]
      refine r_istore6 (pc := 74) dX12_setSlopes_74 rfl ?_
      refine r_aload_n (pc := 76) dX12_setSlopes_76 rfl ?_
      refine h_X12_7 (pc := 77) rfl dX12_setSlopes_77 ?_
      refine r_iload_n (pc := 80) dX12_setSlopes_80 rfl ?_
      refine r_bipush (pc := 81) (n := 52) dX12_setSlopes_81 (by decide) ?_
      refine r_iload (pc := 83) dX12_setSlopes_83 rfl ?_
      refine c_X12_70 (pc := 85) rfl dX12_setSlopes_85 (by omega) (Nat.le_of_ble_eq_true rfl) ?_
      refine m_X12_at (d - 1) (by omega) (by assumption) (fun r85 e85 => ?_)
      subst e85
      refine r_iconst (pc := 88) (n := 0) dX12_setSlopes_88 ?_
      refine f_iast (pc := 89) dX12_setSlopes_89 (n := 660) (by assumption) (by first | assumption | rfl) (by omega) (by omega) (by omega) (by omega) (fun hw89 => ?_)
      refine r_aload_n (pc := 90) dX12_setSlopes_90 rfl ?_
      refine h_X12_7 (pc := 91) rfl dX12_setSlopes_91 ?_
      refine r_iload_n (pc := 94) dX12_setSlopes_94 rfl ?_
      refine r_bipush (pc := 95) (n := 76) dX12_setSlopes_95 (by decide) ?_
      refine r_iload (pc := 97) dX12_setSlopes_97 rfl ?_
      refine c_X12_70 (pc := 99) rfl dX12_setSlopes_99 (by omega) (Nat.le_of_ble_eq_true rfl) ?_
      refine m_X12_at (d - 1) (by omega) (by assumption) (fun r99 e99 => ?_)
      subst e99
      refine r_iload_n (pc := 102) dX12_setSlopes_102 rfl ?_
      refine f_iast (pc := 103) dX12_setSlopes_103 (n := 660) (by assumption) (by first | assumption | rfl) (by omega) (by omega) (by omega) (by omega) (fun hw103 => ?_)
      refine r_aload_n (pc := 104) dX12_setSlopes_104 rfl ?_
      refine h_X12_7 (pc := 105) rfl dX12_setSlopes_105 ?_
      refine r_iload_n (pc := 108) dX12_setSlopes_108 rfl ?_
      refine r_bipush (pc := 109) (n := 100) dX12_setSlopes_109 (by decide) ?_
      refine r_iload (pc := 111) dX12_setSlopes_111 rfl ?_
      refine c_X12_70 (pc := 113) rfl dX12_setSlopes_113 (by omega) (Nat.le_of_ble_eq_true rfl) ?_
      refine m_X12_at (d - 1) (by omega) (by assumption) (fun r113 e113 => ?_)
      subst e113
      refine r_iload (pc := 116) dX12_setSlopes_116 rfl ?_
      refine f_iast (pc := 118) dX12_setSlopes_118 (n := 660) (by assumption) (by first | assumption | rfl) (by omega) (by omega) (by omega) (by omega) (fun hw118 => ?_)
      have M1 := mx_up (w := w58) (q := q) (r := 3) (k := r10) (i := 128 * q + 52 + r10) (x := 0) (by omega) (by omega) (by omega)
      have M2 := mx_up (w := up w58 386 (128 * q + 52 + r10) 0) (q := q) (r := 4) (k := r10) (i := 128 * q + 76 + r10) (x := a) (by omega) (by omega) (by omega)
      have M3 := mx_up (w := up (up w58 386 (128 * q + 52 + r10) 0) 386 (128 * q + 76 + r10) a) (q := q) (r := 5) (k := r10) (i := 128 * q + 100 + r10) (x := b) (by omega) (by omega) (by omega)
      have M4 := M3.tr ((M2.tr (M1.st 4 r10 a)).st 5 r10 b)
      rw [stX_com, X58] at M4
      have M5 := M4.ceq (by have e := M4 0 0 (by omega); rw [e, stX_r (by omega), stX_r (by omega), stX_r (by omega)]; omega)
      have C118 := MOG_fq hG2 hq C58 (((FQ_up (q := q) (w := w58) (i := 128 * q + 52 + r10) (x := 0) (by omega)).tr (FQ_up (q := q) (i := 128 * q + 76 + r10) (x := a) (by omega))).tr (FQ_up (q := q) (i := 128 * q + 100 + r10) (x := b) (by omega))) (X := stX (stX (stX (G.now.c q) 4 r10 a) 5 r10 b) 3 r10 0) ((((CV.st r10 a (by omega) (by omega)).st r10 b (by omega) (by omega)).st3 (fun _ => ⟨by rw [stX_r (by omega), stX_y, stX_r (by omega), stX_y], by rw [stX_y, stX_y]⟩)).tr M5.sy.v) ((CI_st345 (CI_st345 (CI_st345 I0 (Or.inr ⟨Or.inl rfl, by omega⟩)) (Or.inr ⟨Or.inr rfl, by omega⟩)) (Or.inl ⟨rfl, by omega⟩)).eq M5.sy)
      refine r_iload (pc := 119) dX12_setSlopes_119 rfl ?_
      exact f_iret (pc := 121) dX12_setSlopes_121 rfl (by assumption) (hQ _ _ (fst_m o m10.symm) (snd_m o C118) (FL58.tr (fun p e => by rw [up_ne (by omega), up_ne (by omega), up_ne (by omega)])) (by assumption))
    have o : o_setSlopes G q f a b = (-1000000002, G) := by
      unfold o_setSlopes
      rw [if_neg (fun z => z iq), if_neg (by omega), if_pos (by omega)]
    refine r_ldc (pc := 54) (n := -1000000002) dX12_setSlopes_54 kw_X12_132 rfl ?_
    exact f_iret (pc := 56) dX12_setSlopes_56 rfl (by assumption) (hQ _ _ (fst_m o (by omega)) (snd_m o hC) (FRH.rf w) (by assumption))
  have o : o_setSlopes G q f a b = (-1000000001, G) := by
    unfold o_setSlopes
    rw [if_neg (fun z => z iq), if_pos (by omega)]
  refine r_ldc (pc := 24) (n := -1000000001) dX12_setSlopes_24 kw_X12_131 rfl ?_
  exact f_iret (pc := 26) dX12_setSlopes_26 rfl (by assumption) (hQ _ _ (fst_m o (by omega)) (snd_m o hC) (FRH.rf w) (by assumption))
set_option maxRecDepth 8000 in
theorem y_clear {Q : Option AV → Wd → Prop} {w : Wd} (d : Nat) {G : GS} {q : Int} (hd : 3 ≤ d) (hw : WR w) (hG : GOK G) (hC : MOG G w) (rq : R32 q) (hQ : ∀ r w2, r = (o_clear G q).1 → MOG (o_clear G q).2 w2 → FRH w w2 → WR w2 → Q (some (vI r)) w2) : M mX12_clear (Rm d) [vR (some 385), vI q] (fl w) (lQ Q) := by
  have hp := MOG.hp hG hC
  have hG2 := GOK_rec hG
  refine f_mofv (L0 := [some (vR (some 385)), some (vI q), none]) rfl (Nat.le_of_ble_eq_true rfl) rfl ?_
  refine r_iload_n (pc := 0) dX12_clear_0 rfl ?_
  refine c_X12_74 (pc := 1) rfl dX12_clear_1 (by omega) (Nat.le_of_ble_eq_true rfl) ?_
  refine m_X12_isCurve (d - 1) (by omega) (by assumption) (by omega) (fun r1 e1 b1 => ?_)
  have i1 := b2i_i e1
  refine r_ifne (pc := 4) (tgt := 10) dX12_clear_4 rfl (by omega) (fun h4 => ?_) (fun h4 => ?_)
  · have hq : 0 ≤ q ∧ q ≤ 3 := by omega
    have iq : inC q := hq
    have CV := hC.cv hq
    have I0 := hC.ci hq
    have hn : 0 ≤ mx w q 0 0 ∧ mx w q 0 0 ≤ 24 := I0.1
    have eN : G.now.c q 0 0 = mx w q 0 0 := CV.1
    refine r_aload_n (pc := 10) dX12_clear_10 rfl ?_
    refine c_X12_146 (pc := 11) rfl dX12_clear_11 (by first | assumption | rfl) (by omega) (Nat.le_of_ble_eq_true rfl) ?_
    refine m_X12_changes (d - 1) (by omega) (by assumption) hp (fun w11 c11 hw11 => ?_)
    obtain ⟨C11, F11⟩ := MOG_rec hG hC c11
    have X11 : mx w11 q = mx w q := by unfold mx; rw [F11 386 (by omega) (by omega)]
    have FL11 : FRH w w11 := fun p e => F11 p (by omega) (by omega)
    refine r_aload_n (pc := 14) dX12_clear_14 rfl ?_
    refine r_iload_n (pc := 15) dX12_clear_15 rfl ?_
    refine c_X12_78 (pc := 16) rfl dX12_clear_16 (by first | assumption | rfl) (by omega) (Nat.le_of_ble_eq_true rfl) ?_
    refine m_X12_many (d - 1) (by omega) (by assumption) hq (fun r16 e16 b16 => ?_)
    rw [X11] at e16
    refine r_istore2 (pc := 19) dX12_clear_19 rfl ?_
    refine r_aload_n (pc := 20) dX12_clear_20 rfl ?_
    refine h_X12_7 (pc := 21) rfl dX12_clear_21 ?_
    refine r_iload_n (pc := 24) dX12_clear_24 rfl ?_
    refine r_iconst (pc := 25) (n := 0) dX12_clear_25 ?_
    refine r_iconst (pc := 26) (n := 0) dX12_clear_26 ?_
    refine c_X12_70 (pc := 27) rfl dX12_clear_27 (by omega) (Nat.le_of_ble_eq_true rfl) ?_
    refine m_X12_at (d - 1) (by omega) (by assumption) (fun r27 e27 => ?_)
    subst e27
    refine r_iconst (pc := 30) (n := 0) dX12_clear_30 ?_
    refine f_iast (pc := 31) dX12_clear_31 (n := 660) (by assumption) (by first | assumption | rfl) (by omega) (by omega) (by omega) (by omega) (fun hw31 => ?_)
    refine r_aload_n (pc := 32) dX12_clear_32 rfl ?_
    refine h_X12_7 (pc := 33) rfl dX12_clear_33 ?_
    refine r_iload_n (pc := 36) dX12_clear_36 rfl ?_
    refine r_iconst (pc := 37) (n := 1) dX12_clear_37 ?_
    refine r_iconst (pc := 38) (n := 0) dX12_clear_38 ?_
    refine c_X12_70 (pc := 39) rfl dX12_clear_39 (by omega) (Nat.le_of_ble_eq_true rfl) ?_
    refine m_X12_at (d - 1) (by omega) (by assumption) (fun r39 e39 => ?_)
    subst e39
    refine r_iconst (pc := 42) (n := 0) dX12_clear_42 ?_
    refine f_iast (pc := 43) dX12_clear_43 (n := 660) (by assumption) (by first | assumption | rfl) (by omega) (by omega) (by omega) (by omega) (fun hw43 => ?_)
    refine r_aload_n (pc := 44) dX12_clear_44 rfl ?_
    refine h_X12_7 (pc := 45) rfl dX12_clear_45 ?_
    refine r_iload_n (pc := 48) dX12_clear_48 rfl ?_
    refine r_iconst (pc := 49) (n := 2) dX12_clear_49 ?_
    refine r_iconst (pc := 50) (n := 0) dX12_clear_50 ?_
    refine c_X12_70 (pc := 51) rfl dX12_clear_51 (by omega) (Nat.le_of_ble_eq_true rfl) ?_
    refine m_X12_at (d - 1) (by omega) (by assumption) (fun r51 e51 => ?_)
    subst e51
    refine r_iconst (pc := 54) (n := 0) dX12_clear_54 ?_
    refine f_iast (pc := 55) dX12_clear_55 (n := 660) (by assumption) (by first | assumption | rfl) (by omega) (by omega) (by omega) (by omega) (fun hw55 => ?_)
    have o : o_clear G q = (G.now.c q 0 0, setC (recG G) q (stX (stX (stX (G.now.c q) 0 0 0) 0 1 0) 0 2 0)) := by
      unfold o_clear
      rw [if_neg (fun z => z iq)]
    have M1 := mx_up0 (w := w11) (q := q) (k := 0) (i := 128 * q + 0 + 0) (x := 0) (by omega) (by omega)
    have M2 := mx_up0 (w := up w11 386 (128 * q + 0 + 0) 0) (q := q) (k := 1) (i := 128 * q + 1 + 0) (x := 0) (by omega) (by omega)
    have M3 := mx_up0 (w := up (up w11 386 (128 * q + 0 + 0) 0) 386 (128 * q + 1 + 0) 0) (q := q) (k := 2) (i := 128 * q + 2 + 0) (x := 0) (by omega) (by omega)
    have M4 := M3.tr ((M2.tr (M1.st 0 1 0)).st 0 2 0)
    rw [X11] at M4
    have M5 := M4.ceq (by have e := M4 0 0 (by omega); rw [e, stX_j (by omega), stX_j (by omega), stX_y]; omega)
    have C55 := MOG_fq hG2 hq C11 (((FQ_up (q := q) (w := w11) (i := 128 * q + 0 + 0) (x := 0) (by omega)).tr (FQ_up (q := q) (i := 128 * q + 1 + 0) (x := 0) (by omega))).tr (FQ_up (q := q) (i := 128 * q + 2 + 0) (x := 0) (by omega))) (X := stX (stX (stX (G.now.c q) 0 0 0) 0 1 0) 0 2 0) (((CV.clr.st0 0 (by omega)).st0 0 (by omega)).tr M5.sy.v) ((CI_clr _).eq M5.sy)
    refine r_iload_n (pc := 56) dX12_clear_56 rfl ?_
    exact f_iret (pc := 57) dX12_clear_57 rfl (by assumption) (hQ _ _ (fst_m o (by omega)) (snd_m o C55) (FL11.tr (fun p e => by rw [up_ne (by omega), up_ne (by omega), up_ne (by omega)])) (by assumption))
  have o : o_clear G q = (-1000000001, G) := by
    unfold o_clear
    exact if_pos (fun z => by have z : 0 ≤ q ∧ q ≤ 3 := z; omega)
  refine r_ldc (pc := 7) (n := -1000000001) dX12_clear_7 kw_X12_131 rfl ?_
  exact f_iret (pc := 9) dX12_clear_9 rfl (by assumption) (hQ _ _ (fst_m o (by omega)) (snd_m o hC) (FRH.rf w) (by assumption))
set_option maxRecDepth 8000 in
theorem y_setExtrapolation {Q : Option AV → Wd → Prop} {w : Wd} (d : Nat) {G : GS} {q a b : Int} (hd : 3 ≤ d) (hw : WR w) (hG : GOK G) (hC : MOG G w) (rq : R32 q) (ra : R32 a) (rb : R32 b) (hQ : ∀ r w2, r = (o_setExtrapolation G q a b).1 → MOG (o_setExtrapolation G q a b).2 w2 → FRH w w2 → WR w2 → Q (some (vI r)) w2) : M mX12_setExtrapolation (Rm d) [vR (some 385), vI q, vI a, vI b] (fl w) (lQ Q) := by
  have hp := MOG.hp hG hC
  have hG2 := GOK_rec hG
  refine f_mofv (L0 := [some (vR (some 385)), some (vI q), some (vI a), some (vI b), none]) rfl (Nat.le_of_ble_eq_true rfl) rfl ?_
  refine r_iload_n (pc := 0) dX12_setExtrapolation_0 rfl ?_
  refine c_X12_74 (pc := 1) rfl dX12_setExtrapolation_1 (by omega) (Nat.le_of_ble_eq_true rfl) ?_
  refine m_X12_isCurve (d - 1) (by omega) (by assumption) (by omega) (fun r1 e1 b1 => ?_)
  have i1 := b2i_i e1
  refine r_ifne (pc := 4) (tgt := 10) dX12_setExtrapolation_4 rfl (by omega) (fun h4 => ?_) (fun h4 => ?_)
  · have hq : 0 ≤ q ∧ q ≤ 3 := by omega
    have iq : inC q := hq
    have CV := hC.cv hq
    have I0 := hC.ci hq
    have hn : 0 ≤ mx w q 0 0 ∧ mx w q 0 0 ≤ 24 := I0.1
    have eN : G.now.c q 0 0 = mx w q 0 0 := CV.1
    refine r_iload_n (pc := 10) dX12_setExtrapolation_10 rfl ?_
    refine r_iconst (pc := 11) (n := 0) dX12_setExtrapolation_11 ?_
    refine r_iconst (pc := 12) (n := 4) dX12_setExtrapolation_12 ?_
    refine c_X12_66 (pc := 13) rfl dX12_setExtrapolation_13 (by omega) (Nat.le_of_ble_eq_true rfl) ?_
    refine m_X12_in (d - 1) (by omega) (by assumption) (by omega) (by omega) (by omega) (fun r13 e13 b13 => ?_)
    have i13 := b2i_i e13
    refine r_ifeq (pc := 16) (tgt := 28) dX12_setExtrapolation_16 rfl (by omega) (fun h16 => ?_) (fun h16 => ?_)
    · have o : o_setExtrapolation G q a b = (-1000000002, G) := by
        unfold o_setExtrapolation
        rw [if_neg (fun z => z iq), if_pos (by omega)]
      refine r_ldc (pc := 28) (n := -1000000002) dX12_setExtrapolation_28 kw_X12_132 rfl ?_
      exact f_iret (pc := 30) dX12_setExtrapolation_30 rfl (by assumption) (hQ _ _ (fst_m o (by omega)) (snd_m o hC) (FRH.rf w) (by assumption))
    refine r_iload_n (pc := 19) dX12_setExtrapolation_19 rfl ?_
    refine r_iconst (pc := 20) (n := 0) dX12_setExtrapolation_20 ?_
    refine r_iconst (pc := 21) (n := 4) dX12_setExtrapolation_21 ?_
    refine c_X12_66 (pc := 22) rfl dX12_setExtrapolation_22 (by omega) (Nat.le_of_ble_eq_true rfl) ?_
    refine m_X12_in (d - 1) (by omega) (by assumption) (by omega) (by omega) (by omega) (fun r22 e22 b22 => ?_)
    have i22 := b2i_i e22
    refine r_ifne (pc := 25) (tgt := 31) dX12_setExtrapolation_25 rfl (by omega) (fun h25 => ?_) (fun h25 => ?_)
    · refine r_aload_n (pc := 31) dX12_setExtrapolation_31 rfl ?_
      refine c_X12_146 (pc := 32) rfl dX12_setExtrapolation_32 (by first | assumption | rfl) (by omega) (Nat.le_of_ble_eq_true rfl) ?_
      refine m_X12_changes (d - 1) (by omega) (by assumption) hp (fun w32 c32 hw32 => ?_)
      obtain ⟨C32, F32⟩ := MOG_rec hG hC c32
      have X32 : mx w32 q = mx w q := by unfold mx; rw [F32 386 (by omega) (by omega)]
      have FL32 : FRH w w32 := fun p e => F32 p (by omega) (by omega)
      refine r_bipush (pc := 35) (n := 10) dX12_setExtrapolation_35 (by decide) ?_
      refine r_aload_n (pc := 37) dX12_setExtrapolation_37 rfl ?_
      refine h_X12_7 (pc := 38) rfl dX12_setExtrapolation_38 ?_
      refine r_iload_n (pc := 41) dX12_setExtrapolation_41 rfl ?_
      refine r_iconst (pc := 42) (n := 1) dX12_setExtrapolation_42 ?_
      refine r_iconst (pc := 43) (n := 0) dX12_setExtrapolation_43 ?_
      refine c_X12_70 (pc := 44) rfl dX12_setExtrapolation_44 (by omega) (Nat.le_of_ble_eq_true rfl) ?_
      refine m_X12_at (d - 1) (by omega) (by assumption) (fun r44 e44 => ?_)
      refine f_iald (pc := 47) dX12_setExtrapolation_47 (n := 660) (by assumption) (by first | assumption | rfl) (by omega) (by omega) (by omega) (fun h47 => ?_)
      rw [mxR0 (w := w32) (q := q) (j := 1) (i := r44) (by omega)] at h47 ⊢
      rw [X32]
      refine r_imul (pc := 48) dX12_setExtrapolation_48 ?_
      refine r_aload_n (pc := 49) dX12_setExtrapolation_49 rfl ?_
      refine h_X12_7 (pc := 50) rfl dX12_setExtrapolation_50 ?_
      refine r_iload_n (pc := 53) dX12_setExtrapolation_53 rfl ?_
      refine r_iconst (pc := 54) (n := 2) dX12_setExtrapolation_54 ?_
      refine r_iconst (pc := 55) (n := 0) dX12_setExtrapolation_55 ?_
      refine c_X12_70 (pc := 56) rfl dX12_setExtrapolation_56 (by omega) (Nat.le_of_ble_eq_true rfl) ?_
      refine m_X12_at (d - 1) (by omega) (by assumption) (fun r56 e56 => ?_)
      refine f_iald (pc := 59) dX12_setExtrapolation_59 (n := 660) (by assumption) (by first | assumption | rfl) (by omega) (by omega) (by omega) (fun h59 => ?_)
      rw [mxR0 (w := w32) (q := q) (j := 2) (i := r56) (by omega)] at h59 ⊢
      rw [X32]
      have E1 : G.now.c q 0 1 = mx w q 0 1 := CV.2.1
      have E2 : G.now.c q 0 2 = mx w q 0 2 := CV.2.2.1
      have B0 := I0.2.2.2
      refine r_iadd (pc := 60) dX12_setExtrapolation_60 ?_
      refine r_istore4 (pc := 61) dX12_setExtrapolation_61 rfl ?_
      refine r_aload_n (pc := 63) dX12_setExtrapolation_63 rfl ?_
      refine h_X12_7 (pc := 64) rfl dX12_setExtrapolation_64 ?_
      refine r_iload_n (pc := 67) dX12_setExtrapolation_67 rfl ?_
      refine r_iconst (pc := 68) (n := 1) dX12_setExtrapolation_68 ?_
      refine r_iconst (pc := 69) (n := 0) dX12_setExtrapolation_69 ?_
      refine c_X12_70 (pc := 70) rfl dX12_setExtrapolation_70 (by omega) (Nat.le_of_ble_eq_true rfl) ?_
      refine m_X12_at (d - 1) (by omega) (by assumption) (fun r70 e70 => ?_)
      subst e70
      refine r_iload_n (pc := 73) dX12_setExtrapolation_73 rfl ?_
      refine f_iast (pc := 74) dX12_setExtrapolation_74 (n := 660) (by assumption) (by first | assumption | rfl) (by omega) (by omega) (by omega) (by omega) (fun hw74 => ?_)
      refine r_aload_n (pc := 75) dX12_setExtrapolation_75 rfl ?_
      refine h_X12_7 (pc := 76) rfl dX12_setExtrapolation_76 ?_
      refine r_iload_n (pc := 79) dX12_setExtrapolation_79 rfl ?_
      refine r_iconst (pc := 80) (n := 2) dX12_setExtrapolation_80 ?_
      refine r_iconst (pc := 81) (n := 0) dX12_setExtrapolation_81 ?_
      refine c_X12_70 (pc := 82) rfl dX12_setExtrapolation_82 (by omega) (Nat.le_of_ble_eq_true rfl) ?_
      refine m_X12_at (d - 1) (by omega) (by assumption) (fun r82 e82 => ?_)
      subst e82
      refine r_iload_n (pc := 85) dX12_setExtrapolation_85 rfl ?_
      refine f_iast (pc := 86) dX12_setExtrapolation_86 (n := 660) (by assumption) (by first | assumption | rfl) (by omega) (by omega) (by omega) (by omega) (fun hw86 => ?_)
      have o : o_setExtrapolation G q a b = (10 * G.now.c q 0 1 + G.now.c q 0 2, setC (recG G) q (stX (stX (G.now.c q) 0 1 a) 0 2 b)) := by
        unfold o_setExtrapolation
        rw [if_neg (fun z => z iq), if_neg (by omega)]
      have M1 := mx_up0 (w := w32) (q := q) (k := 1) (i := 128 * q + 1 + 0) (x := a) (by omega) (by omega)
      have M2 := mx_up0 (w := up w32 386 (128 * q + 1 + 0) a) (q := q) (k := 2) (i := 128 * q + 2 + 0) (x := b) (by omega) (by omega)
      have M4 := M2.tr (M1.st 0 2 b)
      rw [X32] at M4
      have M5 := M4.ceq (by have e := M4 0 0 (by omega); rw [e, stX_j (by omega), stX_j (by omega)]; omega)
      have C86 := MOG_fq hG2 hq C32 ((FQ_up (q := q) (w := w32) (i := 128 * q + 1 + 0) (x := a) (by omega)).tr (FQ_up (q := q) (i := 128 * q + 2 + 0) (x := b) (by omega))) (X := stX (stX (G.now.c q) 0 1 a) 0 2 b) (((CV.st0 a (by omega)).st0 b (by omega)).tr M5.sy.v) ((CI_ext I0 (by omega) (by omega)).eq M5.sy)
      refine r_iload (pc := 87) dX12_setExtrapolation_87 rfl ?_
      exact f_iret (pc := 89) dX12_setExtrapolation_89 rfl (by assumption) (hQ _ _ (fst_m o (by omega)) (snd_m o C86) (FL32.tr (fun p e => by rw [up_ne (by omega), up_ne (by omega)])) (by assumption))
    have o : o_setExtrapolation G q a b = (-1000000002, G) := by
      unfold o_setExtrapolation
      rw [if_neg (fun z => z iq), if_pos (by omega)]
    refine r_ldc (pc := 28) (n := -1000000002) dX12_setExtrapolation_28 kw_X12_132 rfl ?_
    exact f_iret (pc := 30) dX12_setExtrapolation_30 rfl (by assumption) (hQ _ _ (fst_m o (by omega)) (snd_m o hC) (FRH.rf w) (by assumption))
  have o : o_setExtrapolation G q a b = (-1000000001, G) := by
    unfold o_setExtrapolation
    exact if_pos (fun z => by have z : 0 ≤ q ∧ q ≤ 3 := z; omega)
  refine r_ldc (pc := 7) (n := -1000000001) dX12_setExtrapolation_7 kw_X12_131 rfl ?_
  exact f_iret (pc := 9) dX12_setExtrapolation_9 rfl (by assumption) (hQ _ _ (fst_m o (by omega)) (snd_m o hC) (FRH.rf w) (by assumption))
set_option maxRecDepth 8000 in
theorem y_keys {Q : Option AV → Wd → Prop} {w : Wd} (d : Nat) {G : GS} {q : Int} (hd : 3 ≤ d) (hw : WR w) (hG : GOK G) (hC : MOG G w) (rq : R32 q) (hQ : ∀ r, r = o_keys G q → Q (some (vI r)) w) : M mX12_keys (Rm d) [vR (some 385), vI q] (fl w) (lQ Q) := by
  have hp := MOG.hp hG hC
  have hG2 := GOK_rec hG
  refine f_mofv (L0 := [some (vR (some 385)), some (vI q)]) rfl (Nat.le_of_ble_eq_true rfl) rfl ?_
  refine r_iload_n (pc := 0) dX12_keys_0 rfl ?_
  refine c_X12_74 (pc := 1) rfl dX12_keys_1 (by omega) (Nat.le_of_ble_eq_true rfl) ?_
  refine m_X12_isCurve (d - 1) (by omega) (by assumption) (by omega) (fun r1 e1 b1 => ?_)
  have i1 := b2i_i e1
  refine r_ifeq (pc := 4) (tgt := 15) dX12_keys_4 rfl (by omega) (fun h4 => ?_) (fun h4 => ?_)
  · refine r_ldc (pc := 15) (n := -1000000001) dX12_keys_15 kw_X12_131 rfl ?_
    exact f_iret (pc := 17) dX12_keys_17 rfl (by assumption) (hQ _ (by unfold o_keys; rw [if_pos (fun z => by have z : 0 ≤ q ∧ q ≤ 3 := z; omega)]))
  have hq : 0 ≤ q ∧ q ≤ 3 := by omega
  have iq : inC q := hq
  have CV := hC.cv hq
  have I0 := hC.ci hq
  have hn : 0 ≤ mx w q 0 0 ∧ mx w q 0 0 ≤ 24 := I0.1
  have eN : G.now.c q 0 0 = mx w q 0 0 := CV.1
  refine r_aload_n (pc := 7) dX12_keys_7 rfl ?_
  refine r_iload_n (pc := 8) dX12_keys_8 rfl ?_
  refine c_X12_78 (pc := 9) rfl dX12_keys_9 (by first | assumption | rfl) (by omega) (Nat.le_of_ble_eq_true rfl) ?_
  refine m_X12_many (d - 1) (by omega) (by assumption) hq (fun r9 e9 b9 => ?_)
  refine r_goto (pc := 12) (tgt := 17) dX12_keys_12 rfl ?_
  exact f_iret (pc := 17) dX12_keys_17 rfl (by assumption) (hQ _ (by unfold o_keys; rw [if_neg (fun z => z iq)]; omega))
set_option maxRecDepth 8000 in
theorem y_frameOf {Q : Option AV → Wd → Prop} {w : Wd} (d : Nat) {G : GS} {q k : Int} (hd : 4 ≤ d) (hw : WR w) (hG : GOK G) (hC : MOG G w) (rq : R32 q) (rk : R32 k) (hQ : ∀ r, r = o_rowOf 1 G q k → Q (some (vI r)) w) : M mX12_frameOf (Rm d) [vR (some 385), vI q, vI k] (fl w) (lQ Q) := by
  have hp := MOG.hp hG hC
  have hG2 := GOK_rec hG
  refine f_mofv (L0 := [some (vR (some 385)), some (vI q), some (vI k)]) rfl (Nat.le_of_ble_eq_true rfl) rfl ?_
  refine r_aload_n (pc := 0) dX12_frameOf_0 rfl ?_
  refine r_iload_n (pc := 1) dX12_frameOf_1 rfl ?_
  refine r_iload_n (pc := 2) dX12_frameOf_2 rfl ?_
  refine c_X12_165 (pc := 3) rfl dX12_frameOf_3 (by first | assumption | rfl) (by omega) (Nat.le_of_ble_eq_true rfl) ?_
  refine m_X12_isKey (d - 1) (by omega) (by assumption) (by omega) (by omega) (fun h => hC.ci h) (fun r3 e3 b3 => ?_)
  have i3 := b2i_i e3
  refine r_ifeq (pc := 6) (tgt := 18) dX12_frameOf_6 rfl (by omega) (fun h6 => ?_) (fun h6 => ?_)
  · refine r_ldc (pc := 18) (n := -1000000001) dX12_frameOf_18 kw_X12_131 rfl ?_
    exact f_iret (pc := 20) dX12_frameOf_20 rfl (by assumption) (hQ _ (rowOf_n 1 hC (by omega)))
  have hk : (0 ≤ q ∧ q ≤ 3) ∧ 0 ≤ k ∧ k < mx w q 0 0 := by omega
  have hq := hk.1
  have I0 := hC.ci hq
  have hn : 0 ≤ mx w q 0 0 ∧ mx w q 0 0 ≤ 24 := I0.1
  refine r_aload_n (pc := 9) dX12_frameOf_9 rfl ?_
  refine r_iload_n (pc := 10) dX12_frameOf_10 rfl ?_
  refine r_iload_n (pc := 11) dX12_frameOf_11 rfl ?_
  refine c_X12_82 (pc := 12) rfl dX12_frameOf_12 (by first | assumption | rfl) (by omega) (Nat.le_of_ble_eq_true rfl) ?_
  refine m_X12_frame (d - 1) (by omega) (by assumption) hq (by omega) (fun r12 e12 b12 => ?_)
  refine r_goto (pc := 15) (tgt := 20) dX12_frameOf_15 rfl ?_
  exact f_iret (pc := 20) dX12_frameOf_20 rfl (by assumption) (hQ _ (rowOf_y (by omega) hC hk e12))
set_option maxRecDepth 8000 in
theorem y_valueOf {Q : Option AV → Wd → Prop} {w : Wd} (d : Nat) {G : GS} {q k : Int} (hd : 4 ≤ d) (hw : WR w) (hG : GOK G) (hC : MOG G w) (rq : R32 q) (rk : R32 k) (hQ : ∀ r, r = o_rowOf 2 G q k → Q (some (vI r)) w) : M mX12_valueOf (Rm d) [vR (some 385), vI q, vI k] (fl w) (lQ Q) := by
  have hp := MOG.hp hG hC
  have hG2 := GOK_rec hG
  refine f_mofv (L0 := [some (vR (some 385)), some (vI q), some (vI k)]) rfl (Nat.le_of_ble_eq_true rfl) rfl ?_
  refine r_aload_n (pc := 0) dX12_valueOf_0 rfl ?_
  refine r_iload_n (pc := 1) dX12_valueOf_1 rfl ?_
  refine r_iload_n (pc := 2) dX12_valueOf_2 rfl ?_
  refine c_X12_165 (pc := 3) rfl dX12_valueOf_3 (by first | assumption | rfl) (by omega) (Nat.le_of_ble_eq_true rfl) ?_
  refine m_X12_isKey (d - 1) (by omega) (by assumption) (by omega) (by omega) (fun h => hC.ci h) (fun r3 e3 b3 => ?_)
  have i3 := b2i_i e3
  refine r_ifeq (pc := 6) (tgt := 24) dX12_valueOf_6 rfl (by omega) (fun h6 => ?_) (fun h6 => ?_)
  · refine r_ldc (pc := 24) (n := -1000000001) dX12_valueOf_24 kw_X12_131 rfl ?_
    exact f_iret (pc := 26) dX12_valueOf_26 rfl (by assumption) (hQ _ (rowOf_n 2 hC (by omega)))
  have hk : (0 ≤ q ∧ q ≤ 3) ∧ 0 ≤ k ∧ k < mx w q 0 0 := by omega
  have hq := hk.1
  have I0 := hC.ci hq
  have hn : 0 ≤ mx w q 0 0 ∧ mx w q 0 0 ≤ 24 := I0.1
  refine r_aload_n (pc := 9) dX12_valueOf_9 rfl ?_
  refine h_X12_7 (pc := 10) rfl dX12_valueOf_10 ?_
  refine r_iload_n (pc := 13) dX12_valueOf_13 rfl ?_
  refine r_bipush (pc := 14) (n := 28) dX12_valueOf_14 (by decide) ?_
  refine r_iload_n (pc := 16) dX12_valueOf_16 rfl ?_
  refine c_X12_70 (pc := 17) rfl dX12_valueOf_17 (by omega) (Nat.le_of_ble_eq_true rfl) ?_
  refine m_X12_at (d - 1) (by omega) (by assumption) (fun r17 e17 => ?_)
  refine f_iald (pc := 20) dX12_valueOf_20 (n := 660) (by assumption) (by first | assumption | rfl) (by omega) (by omega) (by omega) (fun h20 => ?_)
  rw [mxR2 (w := w) (q := q) (j := k) (i := r17) (by omega)] at h20 ⊢
  refine r_goto (pc := 21) (tgt := 26) dX12_valueOf_21 rfl ?_
  exact f_iret (pc := 26) dX12_valueOf_26 rfl (by assumption) (hQ _ (rowOf_y (by omega) hC hk rfl))
set_option maxRecDepth 8000 in
theorem y_modeOf {Q : Option AV → Wd → Prop} {w : Wd} (d : Nat) {G : GS} {q k : Int} (hd : 4 ≤ d) (hw : WR w) (hG : GOK G) (hC : MOG G w) (rq : R32 q) (rk : R32 k) (hQ : ∀ r, r = o_rowOf 3 G q k → Q (some (vI r)) w) : M mX12_modeOf (Rm d) [vR (some 385), vI q, vI k] (fl w) (lQ Q) := by
  have hp := MOG.hp hG hC
  have hG2 := GOK_rec hG
  refine f_mofv (L0 := [some (vR (some 385)), some (vI q), some (vI k)]) rfl (Nat.le_of_ble_eq_true rfl) rfl ?_
  refine r_aload_n (pc := 0) dX12_modeOf_0 rfl ?_
  refine r_iload_n (pc := 1) dX12_modeOf_1 rfl ?_
  refine r_iload_n (pc := 2) dX12_modeOf_2 rfl ?_
  refine c_X12_165 (pc := 3) rfl dX12_modeOf_3 (by first | assumption | rfl) (by omega) (Nat.le_of_ble_eq_true rfl) ?_
  refine m_X12_isKey (d - 1) (by omega) (by assumption) (by omega) (by omega) (fun h => hC.ci h) (fun r3 e3 b3 => ?_)
  have i3 := b2i_i e3
  refine r_ifeq (pc := 6) (tgt := 24) dX12_modeOf_6 rfl (by omega) (fun h6 => ?_) (fun h6 => ?_)
  · refine r_ldc (pc := 24) (n := -1000000001) dX12_modeOf_24 kw_X12_131 rfl ?_
    exact f_iret (pc := 26) dX12_modeOf_26 rfl (by assumption) (hQ _ (rowOf_n 3 hC (by omega)))
  have hk : (0 ≤ q ∧ q ≤ 3) ∧ 0 ≤ k ∧ k < mx w q 0 0 := by omega
  have hq := hk.1
  have I0 := hC.ci hq
  have hn : 0 ≤ mx w q 0 0 ∧ mx w q 0 0 ≤ 24 := I0.1
  refine r_aload_n (pc := 9) dX12_modeOf_9 rfl ?_
  refine h_X12_7 (pc := 10) rfl dX12_modeOf_10 ?_
  refine r_iload_n (pc := 13) dX12_modeOf_13 rfl ?_
  refine r_bipush (pc := 14) (n := 52) dX12_modeOf_14 (by decide) ?_
  refine r_iload_n (pc := 16) dX12_modeOf_16 rfl ?_
  refine c_X12_70 (pc := 17) rfl dX12_modeOf_17 (by omega) (Nat.le_of_ble_eq_true rfl) ?_
  refine m_X12_at (d - 1) (by omega) (by assumption) (fun r17 e17 => ?_)
  refine f_iald (pc := 20) dX12_modeOf_20 (n := 660) (by assumption) (by first | assumption | rfl) (by omega) (by omega) (by omega) (fun h20 => ?_)
  rw [mxR3 (w := w) (q := q) (j := k) (i := r17) (by omega)] at h20 ⊢
  refine r_goto (pc := 21) (tgt := 26) dX12_modeOf_21 rfl ?_
  exact f_iret (pc := 26) dX12_modeOf_26 rfl (by assumption) (hQ _ (rowOf_y (by omega) hC hk rfl))
set_option maxRecDepth 8000 in
theorem y_slope {Q : Option AV → Wd → Prop} {w : Wd} (d : Nat) {G : GS} {q k o : Int} (hd : 7 ≤ d) (hw : WR w) (hG : GOK G) (hC : MOG G w) (rq : R32 q) (rk : R32 k) (ro : R32 o) (ho : o = 0 ∨ o = 1) (hQ : ∀ r, r = o_slope G q k o → Q (some (vI r)) w) : M mX12_slope (Rm d) [vR (some 385), vI q, vI k, vI o] (fl w) (lQ Q) := by
  have hp := MOG.hp hG hC
  have hG2 := GOK_rec hG
  refine f_mofv (L0 := [some (vR (some 385)), some (vI q), some (vI k), some (vI o)]) rfl (Nat.le_of_ble_eq_true rfl) rfl ?_
  refine r_aload_n (pc := 0) dX12_slope_0 rfl ?_
  refine r_iload_n (pc := 1) dX12_slope_1 rfl ?_
  refine r_iload_n (pc := 2) dX12_slope_2 rfl ?_
  refine c_X12_165 (pc := 3) rfl dX12_slope_3 (by first | assumption | rfl) (by omega) (Nat.le_of_ble_eq_true rfl) ?_
  refine m_X12_isKey (d - 1) (by omega) (by assumption) (by omega) (by omega) (fun h => hC.ci h) (fun r3 e3 b3 => ?_)
  have i3 := b2i_i e3
  refine r_ifeq (pc := 6) (tgt := 19) dX12_slope_6 rfl (by omega) (fun h6 => ?_) (fun h6 => ?_)
  · refine r_ldc (pc := 19) (n := -1000000001) dX12_slope_19 kw_X12_131 rfl ?_
    exact f_iret (pc := 21) dX12_slope_21 rfl (by assumption) (hQ _ (slope_n hC (by omega)))
  have hk : (0 ≤ q ∧ q ≤ 3) ∧ 0 ≤ k ∧ k < mx w q 0 0 := by omega
  have hq := hk.1
  have I0 := hC.ci hq
  have hn : 0 ≤ mx w q 0 0 ∧ mx w q 0 0 ≤ 24 := I0.1
  refine r_aload_n (pc := 9) dX12_slope_9 rfl ?_
  refine r_iload_n (pc := 10) dX12_slope_10 rfl ?_
  refine r_iload_n (pc := 11) dX12_slope_11 rfl ?_
  refine r_iload_n (pc := 12) dX12_slope_12 rfl ?_
  refine c_X12_122 (pc := 13) rfl dX12_slope_13 (by first | assumption | rfl) (by omega) (Nat.le_of_ble_eq_true rfl) ?_
  refine m_X12_slopeOf (d - 1) (by omega) (by assumption) hq I0 (by omega) ho (fun r13 e13 b13 => ?_)
  refine r_goto (pc := 16) (tgt := 21) dX12_slope_16 rfl ?_
  exact f_iret (pc := 21) dX12_slope_21 rfl (by assumption) (hQ _ (by
        have CV := hC.cv hq
        have eN : G.now.c q 0 0 = mx w q 0 0 := CV.1
        unfold o_slope
        rw [if_neg (fun z => z hq), if_neg (by omega), e13]
        exact (slp_cg CV (by omega)).symm))
set_option maxRecDepth 8000 in
theorem y_value {Q : Option AV → Wd → Prop} {w : Wd} (d : Nat) {G : GS} {q f : Int} (hd : 9 ≤ d) (hw : WR w) (hG : GOK G) (hC : MOG G w) (rq : R32 q) (rf : R32 f) (hQ : ∀ r, r = o_value G q f → Q (some (vI r)) w) : M mX12_value (Rm d) [vR (some 385), vI q, vI f] (fl w) (lQ Q) := by
  have hp := MOG.hp hG hC
  have hG2 := GOK_rec hG
  refine f_mofv (L0 := [some (vR (some 385)), some (vI q), some (vI f)]) rfl (Nat.le_of_ble_eq_true rfl) rfl ?_
  refine r_iload_n (pc := 0) dX12_value_0 rfl ?_
  refine c_X12_74 (pc := 1) rfl dX12_value_1 (by omega) (Nat.le_of_ble_eq_true rfl) ?_
  refine m_X12_isCurve (d - 1) (by omega) (by assumption) (by omega) (fun r1 e1 b1 => ?_)
  have i1 := b2i_i e1
  refine r_ifne (pc := 4) (tgt := 10) dX12_value_4 rfl (by omega) (fun h4 => ?_) (fun h4 => ?_)
  · have hq : 0 ≤ q ∧ q ≤ 3 := by omega
    have iq : inC q := hq
    have CV := hC.cv hq
    have I0 := hC.ci hq
    have hn : 0 ≤ mx w q 0 0 ∧ mx w q 0 0 ≤ 24 := I0.1
    have eN : G.now.c q 0 0 = mx w q 0 0 := CV.1
    refine r_iload_n (pc := 10) dX12_value_10 rfl ?_
    refine r_iconst (pc := 11) (n := 0) dX12_value_11 ?_
    refine r_sipush (pc := 12) (n := 960) dX12_value_12 (by decide) ?_
    refine c_X12_66 (pc := 15) rfl dX12_value_15 (by omega) (Nat.le_of_ble_eq_true rfl) ?_
    refine m_X12_in (d - 1) (by omega) (by assumption) (by omega) (by omega) (by omega) (fun r15 e15 b15 => ?_)
    have i15 := b2i_i e15
    refine r_ifne (pc := 18) (tgt := 24) dX12_value_18 rfl (by omega) (fun h18 => ?_) (fun h18 => ?_)
    · refine r_aload_n (pc := 24) dX12_value_24 rfl ?_
      refine r_iload_n (pc := 25) dX12_value_25 rfl ?_
      refine c_X12_78 (pc := 26) rfl dX12_value_26 (by first | assumption | rfl) (by omega) (Nat.le_of_ble_eq_true rfl) ?_
      refine m_X12_many (d - 1) (by omega) (by assumption) hq (fun r26 e26 b26 => ?_)
      refine r_ifne (pc := 29) (tgt := 37) dX12_value_29 rfl (by omega) (fun h29 => ?_) (fun h29 => ?_)
      · refine r_aload_n (pc := 37) dX12_value_37 rfl ?_
        refine r_iload_n (pc := 38) dX12_value_38 rfl ?_
        refine r_iload_n (pc := 39) dX12_value_39 rfl ?_
        refine c_X12_133 (pc := 40) rfl dX12_value_40 (by first | assumption | rfl) (by omega) (Nat.le_of_ble_eq_true rfl) ?_
        refine m_X12_valueAt (d - 1) (by omega) (by assumption) hq I0 (by omega) (by omega) (fun r40 e40 b40 => ?_)
        exact f_iret (pc := 43) dX12_value_43 rfl (by assumption) (hQ _ (by unfold o_value; rw [if_neg (fun z => z iq), if_neg (by omega), if_neg (by omega), e40]; exact valS_cg I0 CV.sy _))
      refine r_ldc (pc := 32) (n := -1000000005) dX12_value_32 kw_X12_90 rfl ?_
      refine r_goto (pc := 34) (tgt := 43) dX12_value_34 rfl ?_
      exact f_iret (pc := 43) dX12_value_43 rfl (by assumption) (hQ _ (by unfold o_value; rw [if_neg (fun z => z iq), if_neg (by omega), if_pos (by omega)]))
    refine r_ldc (pc := 21) (n := -1000000002) dX12_value_21 kw_X12_132 rfl ?_
    exact f_iret (pc := 23) dX12_value_23 rfl (by assumption) (hQ _ (by unfold o_value; rw [if_neg (fun z => z iq), if_pos (by omega)]))
  refine r_ldc (pc := 7) (n := -1000000001) dX12_value_7 kw_X12_131 rfl ?_
  exact f_iret (pc := 9) dX12_value_9 rfl (by assumption) (hQ _ (by unfold o_value; rw [if_pos (fun z => by have z : 0 ≤ q ∧ q ≤ 3 := z; omega)]))
set_option maxRecDepth 8000 in
theorem y_undo {Q : Option AV → Wd → Prop} {w : Wd} (d : Nat) {G : GS} (hd : 2 ≤ d) (hw : WR w) (hG : GOK G) (hC : MOG G w) (hQ : ∀ r w2, r = (o_undo G).1 → MOG (o_undo G).2 w2 → FRH w w2 → WR w2 → Q (some (vI r)) w2) : M mX12_undo (Rm d) [vR (some 385)] (fl w) (lQ Q) := by
  have hp := MOG.hp hG hC
  have hG2 := GOK_rec hG
  have k0 := hG.2.1
  have ek := hC.2.1
  refine f_mofv (L0 := [some (vR (some 385)), none]) rfl (Nat.le_of_ble_eq_true rfl) rfl ?_
  have loop22 : ∀ n0 : Nat, ∀ (i : Nat) (w1 : Wd), 660 - i = n0 → i ≤ 660 → G.k ≠ 0 → (∀ p, p ≠ 385 → p ≠ 386 → w1 p = w p) → (∀ j, j ≠ 2 → w1 385 j = w 385 j) → w1 385 2 = w 385 2 - 1 → (∀ j : Int, 0 ≤ j → j < i → w1 386 j = w 387 (660 * (w 385 2 - 1) + j)) → WR w1 → V mX12_undo (Rm d) 0 0 22 [some (vR (some 385)), some (vI i)] [] (fl w1) (lQ Q) := by
    refine ind_lt ?_
    intro n0 ih i w1 hm hi hk f1 f2 h2 hv hw1
    have o : o_undo G = (G.k - 1, undG G) := if_neg (by omega)
    refine r_iload_n (pc := 22) dX12_undo_22 rfl ?_
    refine r_sipush (pc := 23) (n := 660) dX12_undo_23 (by decide) ?_
    refine r_icmpge (pc := 26) (tgt := 56) dX12_undo_26 rfl (by omega) (by omega) (fun h26 => ?_) (fun h26 => ?_)
    · refine r_aload_n (pc := 56) dX12_undo_56 rfl ?_
      refine h_X12_86 (pc := 57) rfl dX12_undo_57 (by assumption) (fun h57 => ?_)
      exact f_iret (pc := 60) dX12_undo_60 rfl (by assumption) (hQ _ _ (fst_m o (by omega)) (snd_m o (MOG_und hG hk hC f1 f2 h2 (fun k a b => hv k a (by omega)))) (fun p e => f1 p (by omega) (by omega)) (by assumption))
    refine r_aload_n (pc := 29) dX12_undo_29 rfl ?_
    refine h_X12_7 (pc := 30) rfl dX12_undo_30 ?_
    refine r_iload_n (pc := 33) dX12_undo_33 rfl ?_
    refine r_aload_n (pc := 34) dX12_undo_34 rfl ?_
    refine h_X12_13 (pc := 35) rfl dX12_undo_35 ?_
    refine r_sipush (pc := 38) (n := 660) dX12_undo_38 (by decide) ?_
    refine r_aload_n (pc := 41) dX12_undo_41 rfl ?_
    refine h_X12_86 (pc := 42) rfl dX12_undo_42 (by assumption) (fun h42 => ?_)
    refine r_imul (pc := 45) dX12_undo_45 ?_
    refine r_iload_n (pc := 46) dX12_undo_46 rfl ?_
    refine r_iadd (pc := 47) dX12_undo_47 ?_
    refine f_iald (pc := 48) dX12_undo_48 (n := 6600) (by assumption) (by first | assumption | rfl) (by omega) (by omega) (by omega) (fun h48 => ?_)
    refine f_iast (pc := 49) dX12_undo_49 (n := 660) (by assumption) (by first | assumption | rfl) (by omega) (by omega) (by omega) (by omega) (fun hw49 => ?_)
    refine r_iinc1 (pc := 50) dX12_undo_50 rfl ?_
    refine r_goto (pc := 53) (tgt := 22) dX12_undo_53 rfl ?_
    exact ih _ (by omega) (i + 1) _ rfl (by omega) hk (fun p a b => by rw [up_ne b]; exact f1 p a b) (fun j a => by rw [up_ne (by omega)]; exact f2 j a) (by rw [up_ne (by omega)]; exact h2) (fun j a b => by
      by_cases z : j = i
      · rw [z, up_hit, f1 387 (by omega) (by omega), h2]
      · rw [up_off (by omega)]; exact hv j a (by omega)) (by assumption)
  refine r_aload_n (pc := 0) dX12_undo_0 rfl ?_
  refine h_X12_86 (pc := 1) rfl dX12_undo_1 (by assumption) (fun h1 => ?_)
  refine r_ifne (pc := 4) (tgt := 10) dX12_undo_4 rfl (by omega) (fun h4 => ?_) (fun h4 => ?_)
  · have o : o_undo G = (G.k - 1, undG G) := if_neg (by omega)
    refine r_aload_n (pc := 10) dX12_undo_10 rfl ?_
    refine r_dup (pc := 11) dX12_undo_11 rfl ?_
    refine h_X12_86 (pc := 12) rfl dX12_undo_12 (by assumption) (fun h12 => ?_)
    refine r_iconst (pc := 15) (n := 1) dX12_undo_15 ?_
    refine r_isub (pc := 16) dX12_undo_16 ?_
    refine ph_X12_86 (pc := 17) rfl dX12_undo_17 (by assumption) (by omega) (fun hw17 => ?_)
    refine r_iconst (pc := 20) (n := 0) dX12_undo_20 ?_
    refine r_istore1 (pc := 21) dX12_undo_21 rfl ?_
    exact loop22 _ 0 _ rfl (by omega) (by omega) (fun p a b => up_ne a) (fun j a => up_off (by omega)) up_hit (fun j a b => by omega) (by assumption)
  have o : o_undo G = (-1000000005, G) := if_pos (by omega)
  refine r_ldc (pc := 7) (n := -1000000005) dX12_undo_7 kw_X12_90 rfl ?_
  exact f_iret (pc := 9) dX12_undo_9 rfl (by assumption) (hQ _ _ (fst_m o (by omega)) (snd_m o hC) (FRH.rf w) (by assumption))
