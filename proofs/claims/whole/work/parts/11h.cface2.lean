/-! the class's calls, on -/
theorem CLG.mi {G : GS} {w : Wd} (hG : GOK G) (h : CLG G w) : MI (w 3 0) (w 4) (w 5) := by
  rw [show w 3 0 = G.now.n from h.1.2.1]
  exact MI_cg hG.1.1 h.1.2.2.1
theorem CLG.sn {G : GS} {w : Wd} (hG : GOK G) (h : CLG G w) (f : Int) : sndS (w 3 0) (w 4) (w 5) f = snF G f := by
  rw [show w 3 0 = G.now.n from h.1.2.1]
  exact sndS_cg hG.1.1.1 h.1.2.2.1
theorem CLG_map {G : GS} {w w2 : Wd} {n : Int} {s g : Int → Int} (h : CLG G w) (f : ∀ p, p ≠ 3 → p ≠ 4 → p ≠ 5 → w2 p = w p) (e : w2 3 0 = n) (e2 : ∀ j, 0 ≤ j → j < n → w2 4 j = s j ∧ w2 5 j = g j) : CLG (setM G n s g) w2 := by
  obtain ⟨⟨a1, a2, a3, a4⟩, h2, h3, h4, h5, h6, h7⟩ := h
  have f34 := f 34 (by omega) (by omega) (by omega)
  refine ⟨⟨fun q hq => ?_, e, e2, ⟨by rw [f _ (by omega) (by omega) (by omega)]; exact a4.1, fun i x hx => by rw [f (2 + 4 + 1) (by omega) (by omega) (by omega), f (2 + 4 + 2) (by omega) (by omega) (by omega)]; exact a4.2 i x hx⟩⟩, by rw [f34]; exact h2, by rw [f34]; exact h3, fun i q a b c z => ?_, fun q hq => SN_kp (h5 q hq) (fun p a b => f p (by omega) (by omega) (by omega)), by rw [f 356 (by omega) (by omega) (by omega)]; exact h6, by rw [f 357 (by omega) (by omega) (by omega)]; exact h7⟩
  · have E : CEQ (cx w (2 + 8 + 6 * q)) (cx w2 (2 + 8 + 6 * q)) := CEQ.of_eq fun r hr j => by
      unfold cx
      rw [f _ (by omega) (by omega) (by omega)]
    exact ⟨(a1 q hq).1.tr E.v, (a1 q hq).2.eq E⟩
  · rw [f34] at z
    exact SCL_kp (h4 i q a b c z) (fun p a b => f p (by omega) (by omega) (by omega))
theorem CEV.ret {X Y : CP} (e : CEV X Y) {S : SS} (hM : MI S.n S.s S.g) {n : Int} {s g G : Int → Int} (hn : n = S.n) (h : ∀ j, 0 ≤ j → j < S.n → s j = S.s j ∧ g j = S.g j) (hG : ∀ j, 0 ≤ j → j < X 0 0 → G j = sndS S.n S.s S.g (X 1 j)) : CEV (rtX X S) (retX Y n s g G (Y 0 0)) := by
  obtain ⟨e0, e1, e2, e3⟩ := e
  subst hn
  refine ⟨?_, ?_, ?_, fun j a b => ?_⟩
  · show rtX X S 0 0 = _
    unfold rtX retX
    rw [if_neg (show ¬ (0 : Nat) = 1 by omega), if_neg (show ¬ ((0 : Nat) = 4 ∧ X 3 0 = 0) by omega), if_neg (show ¬ ((0 : Nat) = 5 ∧ X 3 0 = 0) by omega), if_neg (show ¬ (0 : Nat) = 1 by omega), if_neg (show ¬ ((0 : Nat) = 4 ∧ Y 3 0 = 0) by omega), if_neg (show ¬ ((0 : Nat) = 5 ∧ Y 3 0 = 0) by omega)]
    split <;> split <;> exact e0
  · unfold rtX retX
    rw [if_neg (show ¬ (0 : Nat) = 1 by omega), if_neg (show ¬ ((0 : Nat) = 4 ∧ X 3 1 = 0) by omega), if_neg (show ¬ ((0 : Nat) = 5 ∧ X 3 1 = 0) by omega), if_neg (show ¬ (0 : Nat) = 1 by omega), if_neg (show ¬ ((0 : Nat) = 4 ∧ Y 3 1 = 0) by omega), if_neg (show ¬ ((0 : Nat) = 5 ∧ Y 3 1 = 0) by omega)]
    split <;> split <;> exact e1
  · unfold rtX retX
    rw [if_neg (show ¬ (0 : Nat) = 1 by omega), if_neg (show ¬ ((0 : Nat) = 4 ∧ X 3 2 = 0) by omega), if_neg (show ¬ ((0 : Nat) = 5 ∧ X 3 2 = 0) by omega), if_neg (show ¬ (0 : Nat) = 1 by omega), if_neg (show ¬ ((0 : Nat) = 4 ∧ Y 3 2 = 0) by omega), if_neg (show ¬ ((0 : Nat) = 5 ∧ Y 3 2 = 0) by omega)]
    split <;> split <;> exact e2
  · have n0 : rtX X S 0 0 = X 0 0 := by
      unfold rtX retX
      rw [if_neg (show ¬ (0 : Nat) = 1 by omega), if_neg (show ¬ ((0 : Nat) = 4 ∧ X 3 0 = 0) by omega), if_neg (show ¬ ((0 : Nat) = 5 ∧ X 3 0 = 0) by omega)]
      split <;> rfl
    rw [n0] at b
    have E := e3 j a b
    have px : 0 ≤ j ∧ j < X 0 0 := ⟨a, b⟩
    have py : 0 ≤ j ∧ j < Y 0 0 := ⟨a, by omega⟩
    have R : ∀ (Z : CP) (t u v : Int → Int) (r : Nat), 0 ≤ j ∧ j < Z 0 0 → retX Z S.n t u v (Z 0 0) r j = if r = 1 then v j else if r = 4 ∧ Z 3 j = 0 then strS S.n t u (Z 4 j) (Z 1 j) 0 else if r = 5 ∧ Z 3 j = 0 then strS S.n t u (Z 5 j) (Z 1 j) 1 else Z r j := fun Z t u v r z => if_pos z
    unfold rtX
    rw [R X _ _ _ 1 px, R X _ _ _ 2 px, R X _ _ _ 3 px, R X _ _ _ 4 px, R X _ _ _ 5 px, R Y _ _ _ 1 py, R Y _ _ _ 2 py, R Y _ _ _ 3 py, R Y _ _ _ 4 py, R Y _ _ _ 5 py]
    refine ⟨(hG j a b).symm, E.2.1, E.2.2.1, fun z => ?_⟩
    have z : X 3 j = 0 := z
    have z2 : Y 3 j = 0 := E.2.2.1.symm.trans z
    have w4 := (E.2.2.2 z).1
    have w5 := (E.2.2.2 z).2
    refine ⟨?_, ?_⟩
    · rw [if_neg (by omega), if_pos ⟨rfl, z⟩, if_neg (by omega), if_pos ⟨rfl, z2⟩, w4, E.1]
      exact (strS_cg hM.1 h).symm
    · rw [if_neg (by omega), if_neg (by omega), if_pos ⟨rfl, z⟩, if_neg (by omega), if_neg (by omega), if_pos ⟨rfl, z2⟩, w5, E.1]
      exact (strS_cg hM.1 h).symm
theorem CI_ret {Y : CP} (hI : CI Y) {n : Int} {s g G : Int → Int} (hG : ∀ j, 0 ≤ j → j < Y 0 0 → 0 ≤ G j ∧ G j ≤ 480) (hO : ∀ j, 0 < j → j < Y 0 0 → G (j - 1) < G j) : CI (retX Y n s g G (Y 0 0)) := by
  obtain ⟨h1, h2, h3, h4⟩ := hI
  have R0 : ∀ i : Int, retX Y n s g G (Y 0 0) 0 i = Y 0 i := fun i => by
    unfold retX
    rw [if_neg (show ¬ (0 : Nat) = 1 by omega), if_neg (show ¬ ((0 : Nat) = 4 ∧ Y 3 i = 0) by omega), if_neg (show ¬ ((0 : Nat) = 5 ∧ Y 3 i = 0) by omega)]
    split <;> rfl
  have R : ∀ (r : Nat) (j : Int), 0 ≤ j ∧ j < Y 0 0 → retX Y n s g G (Y 0 0) r j = if r = 1 then G j else if r = 4 ∧ Y 3 j = 0 then strS n s g (Y 4 j) (Y 1 j) 0 else if r = 5 ∧ Y 3 j = 0 then strS n s g (Y 5 j) (Y 1 j) 1 else Y r j := fun r j z => if_pos z
  have O : ∀ (m : Nat) (i : Int), 0 ≤ i → i + m + 1 < Y 0 0 → G i < G (i + m + 1) := fun m => by
    induction m with
    | zero => intro i a b; have := hO (i + 1) (by omega) (by omega); rw [show i + 1 - 1 = i by omega] at this; simpa using this
    | succ m ih => intro i a b; have := ih i a (by omega); have z := hO (i + (m + 1 : Nat) + 1) (by omega) (by omega); rw [show i + ((m + 1 : Nat) : Int) + 1 - 1 = i + m + 1 by omega] at z; omega
  refine ⟨by rw [R0]; exact h1, fun j a b => ?_, fun i j a b c => ?_, by rw [R0, R0]; exact h4⟩
  · rw [R0] at b
    have P := h2 j a b
    rw [R 1 j ⟨a, b⟩, R 2 j ⟨a, b⟩, R 3 j ⟨a, b⟩, R 4 j ⟨a, b⟩, R 5 j ⟨a, b⟩]
    refine ⟨(hG j a b).1, (hG j a b).2, P.2.2.1, P.2.2.2.1, P.2.2.2.2.1, P.2.2.2.2.2.1, ?_⟩
    have B4 := strS_bd (n := n) (f := Y 1 j) (o := 0) (s := s) (t := g) (x := Y 4 j) ⟨P.2.2.2.2.2.2.1, P.2.2.2.2.2.2.2.1⟩
    have B5 := strS_bd (n := n) (f := Y 1 j) (o := 1) (s := s) (t := g) (x := Y 5 j) P.2.2.2.2.2.2.2.2
    by_cases z : Y 3 j = 0
    · rw [if_neg (by omega), if_pos ⟨rfl, z⟩, if_neg (by omega), if_neg (by omega), if_pos ⟨rfl, z⟩]
      exact ⟨B4.1, B4.2, B5.1, B5.2⟩
    · rw [if_neg (by omega), if_neg (by omega), if_neg (by omega), if_neg (by omega), if_neg (by omega), if_neg (by omega)]
      exact P.2.2.2.2.2.2
  · rw [R0] at c
    rw [R 1 i ⟨a, by omega⟩, R 1 j ⟨by omega, c⟩, if_pos rfl, if_pos rfl]
    have z := O (j - i - 1).toNat i a (by omega)
    rw [show i + ((j - i - 1).toNat : Int) + 1 = j by omega] at z
    exact z
theorem kw_X11_162 : Jvm.Cond.constantFloat RX11 162 (1115684864 : UInt32) ∈ gW := gw_t 509 (by decide +kernel) (by decide +kernel)
theorem kw_X11_166 : Jvm.Cond.constantDouble RX11 166 (4634204016564240384 : UInt64) ∈ gW := gw_t 517 (by decide +kernel) (by decide +kernel)
set_option maxRecDepth 8000 in
theorem x_extreme_k {Q : Option AV → Wd → Prop} {w : Wd} (d : Nat) {G : GS} {q : Nat} {a b o : Int} (hd : 8 ≤ d) (hw : WR w) (hG : GOK G) (hC : CLG G w) (hq4 : q < 4) (ra : R32 a) (rb : R32 b) (ro : R32 o) (ho : o = 0 ∨ o = 1) (hQ : ∀ r, r = o_extreme G q a b o → Q (some (vI r)) w) : M mX11_extreme (Rm d) [vR (some 1), vI q, vI a, vI b, vI o] (fl w) (lQ Q) := by
  have hr34 := CLG.hr hG hC
  have CV := hC.cv hq4
  have I0 := hC.ci hq4
  have sq0 : sh (2 + 8 + 6 * q) = 0 := (sh_sta (c := 2) rfl).2.2.2 q hq4
  obtain ⟨s1, s2, s3, s4, s5⟩ := sh_curve sq0
  have hn : 0 ≤ w (2 + 8 + 6 * q) 0 ∧ w (2 + 8 + 6 * q) 0 ≤ 24 := I0.1
  have eN : G.now.c q 0 0 = w (2 + 8 + 6 * q) 0 := CV.1
  have iq : inC (q : Int) := ⟨by omega, by omega⟩
  refine f_mofv (L0 := [some (vR (some 1)), some (vI q), some (vI a), some (vI b), some (vI o), none, none, none, none, none]) rfl (Nat.le_of_ble_eq_true rfl) rfl ?_
  have loop59 : (0 ≤ a ∧ a ≤ b ∧ b ≤ 960) → w (2 + 8 + 6 * q) 0 ≠ 0 → ∀ n0 : Nat, ∀ m : Nat, (b - a - m).toNat = n0 → a + m ≤ b → ∀ (x y i : Int) (o9 : Option AV), x = (exA (cx w (2 + 8 + 6 * q)) a o m).1 → y = (exA (cx w (2 + 8 + 6 * q)) a o m).2 → R32 x → R32 y → i = a + m + 1 → V mX11_extreme (Rm d) 0 0 59 [some (vR (some 1)), some (vI q), some (vI a), some (vI b), some (vI o), some (vR (some (2 + 8 + 6 * q))), some (vI x), some (vI y), some (vI i), o9] [] (fl w) (lQ Q) := by
    intro hab hz
    refine ind_lt ?_
    intro n0 ih m hm hmb x y i o9 hx hy rx ry hi
    refine r_iload (pc := 59) dX11_extreme_59 rfl ?_
    refine r_iload_n (pc := 61) dX11_extreme_61 rfl ?_
    refine r_icmpgt (pc := 62) (tgt := 110) dX11_extreme_62 rfl (by omega) (by omega) (fun h62 => ?_) (fun h62 => ?_)
    · refine r_iload (pc := 110) dX11_extreme_110 rfl ?_
      exact f_iret (pc := 112) dX11_extreme_112 rfl (by assumption) (hQ _ (by unfold o_extreme; rw [if_neg (fun z => z iq), if_neg (by omega), if_neg (by omega), hx, show (b - a).toNat = m by omega, exA_cg I0 CV.sy]))
    refine r_aload (pc := 65) dX11_extreme_65 rfl ?_
    refine r_iload (pc := 67) dX11_extreme_67 rfl ?_
    refine c_X11_159 (pc := 69) rfl dX11_extreme_69 (by first | assumption | rfl) (by omega) (Nat.le_of_ble_eq_true rfl) ?_
    refine m_X0_partsAt (d - 1) (by omega) (by assumption) sq0 I0 (by omega) (fun r69 e69 b69 => ?_)
    have e69 : r69 = valS (cx w (2 + 8 + 6 * q)) (a + m + 1) := by rw [e69, hi]
    have ES : exA (cx w (2 + 8 + 6 * q)) a o (m + 1) = if (o = 0 ∧ valS (cx w (2 + 8 + 6 * q)) (a + m + 1) < (exA (cx w (2 + 8 + 6 * q)) a o m).2) ∨ (o ≠ 0 ∧ (exA (cx w (2 + 8 + 6 * q)) a o m).2 < valS (cx w (2 + 8 + 6 * q)) (a + m + 1)) then (a + m + 1, valS (cx w (2 + 8 + 6 * q)) (a + m + 1)) else exA (cx w (2 + 8 + 6 * q)) a o m := rfl
    refine r_istore9 (pc := 72) dX11_extreme_72 rfl ?_
    refine r_iload (pc := 74) dX11_extreme_74 rfl ?_
    refine r_ifeq (pc := 76) (tgt := 89) dX11_extreme_76 rfl (by omega) (fun h76 => ?_) (fun h76 => ?_)
    · refine r_iload (pc := 89) dX11_extreme_89 rfl ?_
      refine r_iload (pc := 91) dX11_extreme_91 rfl ?_
      refine r_icmpge (pc := 93) (tgt := 104) dX11_extreme_93 rfl (by omega) (by omega) (fun h93 => ?_) (fun h93 => ?_)
      · have E := ES.trans (if_neg (by omega))
        refine r_iinc8 (pc := 104) dX11_extreme_104 rfl ?_
        refine r_goto (pc := 107) (tgt := 59) dX11_extreme_107 rfl ?_
        first
        | exact ih _ (by omega) (m + 1) rfl (by omega) x y _ _ (by rw [E]; exact hx) (by rw [E]; exact hy) (by omega) (by omega) (by omega)
        | exact ih _ (by omega) (m + 1) rfl (by omega) i r69 _ _ (by rw [E]; exact hi) (by rw [E]; exact e69) (by omega) (by omega) (by omega)
      have E := ES.trans (if_pos (by omega))
      refine r_iload (pc := 96) dX11_extreme_96 rfl ?_
      refine r_istore6 (pc := 98) dX11_extreme_98 rfl ?_
      refine r_iload (pc := 100) dX11_extreme_100 rfl ?_
      refine r_istore7 (pc := 102) dX11_extreme_102 rfl ?_
      refine r_iinc8 (pc := 104) dX11_extreme_104 rfl ?_
      refine r_goto (pc := 107) (tgt := 59) dX11_extreme_107 rfl ?_
      first
      | exact ih _ (by omega) (m + 1) rfl (by omega) x y _ _ (by rw [E]; exact hx) (by rw [E]; exact hy) (by omega) (by omega) (by omega)
      | exact ih _ (by omega) (m + 1) rfl (by omega) i r69 _ _ (by rw [E]; exact hi) (by rw [E]; exact e69) (by omega) (by omega) (by omega)
    refine r_iload (pc := 79) dX11_extreme_79 rfl ?_
    refine r_iload (pc := 81) dX11_extreme_81 rfl ?_
    refine r_icmple (pc := 83) (tgt := 104) dX11_extreme_83 rfl (by omega) (by omega) (fun h83 => ?_) (fun h83 => ?_)
    · have E := ES.trans (if_neg (by omega))
      refine r_iinc8 (pc := 104) dX11_extreme_104 rfl ?_
      refine r_goto (pc := 107) (tgt := 59) dX11_extreme_107 rfl ?_
      first
      | exact ih _ (by omega) (m + 1) rfl (by omega) x y _ _ (by rw [E]; exact hx) (by rw [E]; exact hy) (by omega) (by omega) (by omega)
      | exact ih _ (by omega) (m + 1) rfl (by omega) i r69 _ _ (by rw [E]; exact hi) (by rw [E]; exact e69) (by omega) (by omega) (by omega)
    have E := ES.trans (if_pos (by omega))
    refine r_goto (pc := 86) (tgt := 96) dX11_extreme_86 rfl ?_
    refine r_iload (pc := 96) dX11_extreme_96 rfl ?_
    refine r_istore6 (pc := 98) dX11_extreme_98 rfl ?_
    refine r_iload (pc := 100) dX11_extreme_100 rfl ?_
    refine r_istore7 (pc := 102) dX11_extreme_102 rfl ?_
    refine r_iinc8 (pc := 104) dX11_extreme_104 rfl ?_
    refine r_goto (pc := 107) (tgt := 59) dX11_extreme_107 rfl ?_
    first
    | exact ih _ (by omega) (m + 1) rfl (by omega) x y _ _ (by rw [E]; exact hx) (by rw [E]; exact hy) (by omega) (by omega) (by omega)
    | exact ih _ (by omega) (m + 1) rfl (by omega) i r69 _ _ (by rw [E]; exact hi) (by rw [E]; exact e69) (by omega) (by omega) (by omega)
  refine r_aload_n (pc := 0) dX11_extreme_0 rfl ?_
  refine h_X11_10 (pc := 1) rfl dX11_extreme_1 ?_
  refine r_iload_n (pc := 4) dX11_extreme_4 rfl ?_
  refine c_X11_69 (pc := 5) rfl dX11_extreme_5 (by first | assumption | rfl) (by omega) (Nat.le_of_ble_eq_true rfl) ?_
  refine m_X8_curveAt (q := q) (d - 1) (by omega) (by assumption) (show sh 2 = 8 from rfl) hq4 rfl ?_
  refine r_astore5 (pc := 8) dX11_extreme_8 rfl ?_
  refine r_aload (pc := 10) dX11_extreme_10 rfl ?_
  refine r_ifnonnull_s (pc := 12) (tgt := 18) dX11_extreme_12 rfl ?_
  refine r_iload_n (pc := 18) dX11_extreme_18 rfl ?_
  refine r_iload_n (pc := 19) dX11_extreme_19 rfl ?_
  refine r_sipush (pc := 20) (n := 960) dX11_extreme_20 (by decide) ?_
  refine c_X11_163 (pc := 23) rfl dX11_extreme_23 (by omega) (Nat.le_of_ble_eq_true rfl) ?_
  refine m_X11_isRange (d - 1) (by omega) (by assumption) (by omega) (by omega) (by omega) (fun r23 e23 b23 => ?_)
  have i23 := b2i_i e23
  refine r_ifne (pc := 26) (tgt := 32) dX11_extreme_26 rfl (by omega) (fun h26 => ?_) (fun h26 => ?_)
  · refine r_aload (pc := 32) dX11_extreme_32 rfl ?_
    refine g_X11_85 (pc := 34) rfl dX11_extreme_34 (by assumption) (by first | assumption | rfl) (fun h34 => ?_)
    refine r_ifne (pc := 37) (tgt := 43) dX11_extreme_37 rfl (by omega) (fun h37 => ?_) (fun h37 => ?_)
    · refine r_iload_n (pc := 43) dX11_extreme_43 rfl ?_
      refine r_istore6 (pc := 44) dX11_extreme_44 rfl ?_
      refine r_aload (pc := 46) dX11_extreme_46 rfl ?_
      refine r_iload_n (pc := 48) dX11_extreme_48 rfl ?_
      refine c_X11_159 (pc := 49) rfl dX11_extreme_49 (by first | assumption | rfl) (by omega) (Nat.le_of_ble_eq_true rfl) ?_
      refine m_X0_partsAt (d - 1) (by omega) (by assumption) sq0 I0 (by omega) (fun r49 e49 b49 => ?_)
      refine r_istore7 (pc := 52) dX11_extreme_52 rfl ?_
      refine r_iload_n (pc := 54) dX11_extreme_54 rfl ?_
      refine r_iconst (pc := 55) (n := 1) dX11_extreme_55 ?_
      refine r_iadd (pc := 56) dX11_extreme_56 ?_
      refine r_istore8 (pc := 57) dX11_extreme_57 rfl ?_
      exact loop59 (by omega) (by omega) _ 0 rfl (by omega) _ _ _ _ rfl e49 (by omega) (by omega) (by omega)
    refine r_ldc (pc := 40) (n := -1000000005) dX11_extreme_40 kw_X11_158 rfl ?_
    exact f_iret (pc := 42) dX11_extreme_42 rfl (by assumption) (hQ _ (by unfold o_extreme; rw [if_neg (fun z => z iq), if_neg (by omega), if_pos (by omega)]))
  refine r_ldc (pc := 29) (n := -1000000002) dX11_extreme_29 kw_X11_78 rfl ?_
  exact f_iret (pc := 31) dX11_extreme_31 rfl (by assumption) (hQ _ (by unfold o_extreme; rw [if_neg (fun z => z iq), if_pos (by omega)]))
set_option maxRecDepth 8000 in
theorem x_extreme_b {Q : Option AV → Wd → Prop} {w : Wd} (d : Nat) {q : Int} {a b o : Int} (hd : 8 ≤ d) (hw : WR w) (hq : ¬ inC q) (rq : R32 q) (ra : R32 a) (rb : R32 b) (ro : R32 o) (ho : o = 0 ∨ o = 1) (hQ : Q (some (vI (-1000000001))) w) : M mX11_extreme (Rm d) [vR (some 1), vI q, vI a, vI b, vI o] (fl w) (lQ Q) := by
  have hq : ¬ (0 ≤ q ∧ q ≤ 3) := hq
  refine f_mofv (L0 := [some (vR (some 1)), some (vI q), some (vI a), some (vI b), some (vI o), none, none, none, none, none]) rfl (Nat.le_of_ble_eq_true rfl) rfl ?_
  refine r_aload_n (pc := 0) dX11_extreme_0 rfl ?_
  refine h_X11_10 (pc := 1) rfl dX11_extreme_1 ?_
  refine r_iload_n (pc := 4) dX11_extreme_4 rfl ?_
  refine c_X11_69 (pc := 5) rfl dX11_extreme_5 (by first | assumption | rfl) (by omega) (Nat.le_of_ble_eq_true rfl) ?_
  refine m_X8_curveAtN (d - 1) (by omega) (by assumption) (show sh 2 = 8 from rfl) (by omega) (by omega) ?_
  refine r_astoreN5 (pc := 8) dX11_extreme_8 rfl ?_
  refine r_aloadN (pc := 10) dX11_extreme_10 rfl ?_
  refine r_ifnonnull_n (pc := 12) dX11_extreme_12 ?_
  refine r_ldc (pc := 15) (n := -1000000001) dX11_extreme_15 kw_X11_73 rfl ?_
  exact f_iret (pc := 17) dX11_extreme_17 rfl (by assumption) hQ
theorem x_extreme {Q : Option AV → Wd → Prop} {w : Wd} (d : Nat) {G : GS} {q : Int} {a b o : Int} (hd : 8 ≤ d) (hw : WR w) (hG : GOK G) (hC : CLG G w) (rq : R32 q) (ra : R32 a) (rb : R32 b) (ro : R32 o) (ho : o = 0 ∨ o = 1) (hQ : ∀ r, r = o_extreme G q a b o → Q (some (vI r)) w) : M mX11_extreme (Rm d) [vR (some 1), vI q, vI a, vI b, vI o] (fl w) (lQ Q) := by
  by_cases hq : inC q
  · obtain ⟨p, rfl⟩ : ∃ p : Nat, q = p := ⟨q.toNat, by have h : 0 ≤ q ∧ q ≤ 3 := hq; omega⟩
    have h : 0 ≤ (p : Int) ∧ (p : Int) ≤ 3 := hq
    exact x_extreme_k d hd hw hG hC (by omega) ra rb ro ho hQ
  · exact x_extreme_b d hd hw hq rq ra rb ro ho (hQ _ (by
      unfold o_extreme
      exact (if_pos hq).symm))
set_option maxRecDepth 8000 in
theorem x_crossings_k {Q : Option AV → Wd → Prop} {w : Wd} (d : Nat) {G : GS} {q : Nat} {a b l : Int} (hd : 8 ≤ d) (hw : WR w) (hG : GOK G) (hC : CLG G w) (hq4 : q < 4) (ra : R32 a) (rb : R32 b) (rl : R32 l) (hQ : ∀ r, r = o_crossings G q a b l → Q (some (vI r)) w) : M mX11_crossings (Rm d) [vR (some 1), vI q, vI a, vI b, vI l] (fl w) (lQ Q) := by
  have hr34 := CLG.hr hG hC
  have CV := hC.cv hq4
  have I0 := hC.ci hq4
  have sq0 : sh (2 + 8 + 6 * q) = 0 := (sh_sta (c := 2) rfl).2.2.2 q hq4
  obtain ⟨s1, s2, s3, s4, s5⟩ := sh_curve sq0
  have hn : 0 ≤ w (2 + 8 + 6 * q) 0 ∧ w (2 + 8 + 6 * q) 0 ≤ 24 := I0.1
  have eN : G.now.c q 0 0 = w (2 + 8 + 6 * q) 0 := CV.1
  have iq : inC (q : Int) := ⟨by omega, by omega⟩
  refine f_mofv (L0 := [some (vR (some 1)), some (vI q), some (vI a), some (vI b), some (vI l), none, none, none, none, none]) rfl (Nat.le_of_ble_eq_true rfl) rfl ?_
  have cut112 : (0 ≤ a ∧ a ≤ b ∧ b ≤ 960) → (-999 ≤ l ∧ l ≤ 999) → w (2 + 8 + 6 * q) 0 ≠ 0 → ∀ n0 m : Nat, (∀ n1 : Nat, n1 < n0 → ∀ m : Nat, (b - a - m).toNat = n1 → a + m ≤ b → ∀ (x h i : Int) (o9 : Option AV), x = csA (cx w (2 + 8 + 6 * q)) l a m → ((h = 1 ∧ valS (cx w (2 + 8 + 6 * q)) (a + m) < 64 * l) ∨ (h = 0 ∧ ¬ valS (cx w (2 + 8 + 6 * q)) (a + m) < 64 * l)) → i = a + m + 1 → V mX11_crossings (Rm d) 0 0 86 [some (vR (some 1)), some (vI q), some (vI a), some (vI b), some (vI l), some (vR (some (2 + 8 + 6 * q))), some (vI x), some (vI h), some (vI i), o9] [] (fl w) (lQ Q)) → (b - a - m).toNat = n0 → a + m + 1 ≤ b → ∀ (x h g i : Int) (o9 : Option AV), x = csA (cx w (2 + 8 + 6 * q)) l a m → ((h = 1 ∧ valS (cx w (2 + 8 + 6 * q)) (a + m) < 64 * l) ∨ (h = 0 ∧ ¬ valS (cx w (2 + 8 + 6 * q)) (a + m) < 64 * l)) → ((g = 1 ∧ valS (cx w (2 + 8 + 6 * q)) (a + m + 1) < 64 * l) ∨ (g = 0 ∧ ¬ valS (cx w (2 + 8 + 6 * q)) (a + m + 1) < 64 * l)) → i = a + m + 1 → V mX11_crossings (Rm d) 0 0 112 [some (vR (some 1)), some (vI q), some (vI a), some (vI b), some (vI l), some (vR (some (2 + 8 + 6 * q))), some (vI x), some (vI h), some (vI i), o9] [vI g] (fl w) (lQ Q) := by
    intro hab hl hz n0 m ih hm hmb x h g i o9 hx hh hg hi
    refine r_istore9 (pc := 112) dX11_crossings_112 rfl ?_
    refine r_iload (pc := 114) dX11_crossings_114 rfl ?_
    refine r_iload (pc := 116) dX11_crossings_116 rfl ?_
    refine r_icmpeq (pc := 118) (tgt := 124) dX11_crossings_118 rfl (by omega) (by omega) (fun h118 => ?_) (fun h118 => ?_)
    · have E : x = csA (cx w (2 + 8 + 6 * q)) l a (m + 1) := by
        unfold csA
        rw [if_neg (by omega)]
        omega
      refine r_iload (pc := 124) dX11_crossings_124 rfl ?_
      refine r_istore7 (pc := 126) dX11_crossings_126 rfl ?_
      refine r_iinc8 (pc := 128) dX11_crossings_128 rfl ?_
      refine r_goto (pc := 131) (tgt := 86) dX11_crossings_131 rfl ?_
      exact ih _ (by omega) (m + 1) rfl (by omega) _ _ _ _ E (by rw [show a + ((m + 1 : Nat) : Int) = a + m + 1 by omega]; exact hg) (by omega)
    have E : x + 1 = csA (cx w (2 + 8 + 6 * q)) l a (m + 1) := by
      unfold csA
      rw [if_pos (by omega)]
      omega
    refine r_iinc6 (pc := 121) dX11_crossings_121 rfl ?_
    refine r_iload (pc := 124) dX11_crossings_124 rfl ?_
    refine r_istore7 (pc := 126) dX11_crossings_126 rfl ?_
    refine r_iinc8 (pc := 128) dX11_crossings_128 rfl ?_
    refine r_goto (pc := 131) (tgt := 86) dX11_crossings_131 rfl ?_
    exact ih _ (by omega) (m + 1) rfl (by omega) _ _ _ _ E (by rw [show a + ((m + 1 : Nat) : Int) = a + m + 1 by omega]; exact hg) (by omega)
  have loop86 : (0 ≤ a ∧ a ≤ b ∧ b ≤ 960) → (-999 ≤ l ∧ l ≤ 999) → w (2 + 8 + 6 * q) 0 ≠ 0 → ∀ n0 : Nat, ∀ m : Nat, (b - a - m).toNat = n0 → a + m ≤ b → ∀ (x h i : Int) (o9 : Option AV), x = csA (cx w (2 + 8 + 6 * q)) l a m → ((h = 1 ∧ valS (cx w (2 + 8 + 6 * q)) (a + m) < 64 * l) ∨ (h = 0 ∧ ¬ valS (cx w (2 + 8 + 6 * q)) (a + m) < 64 * l)) → i = a + m + 1 → V mX11_crossings (Rm d) 0 0 86 [some (vR (some 1)), some (vI q), some (vI a), some (vI b), some (vI l), some (vR (some (2 + 8 + 6 * q))), some (vI x), some (vI h), some (vI i), o9] [] (fl w) (lQ Q) := by
    intro hab hl hz
    refine ind_lt ?_
    intro n0 ih m hm hmb x h i o9 hx hh hi
    refine r_iload (pc := 86) dX11_crossings_86 rfl ?_
    refine r_iload_n (pc := 88) dX11_crossings_88 rfl ?_
    refine r_icmpgt (pc := 89) (tgt := 134) dX11_crossings_89 rfl (by omega) (by omega) (fun h89 => ?_) (fun h89 => ?_)
    · refine r_iload (pc := 134) dX11_crossings_134 rfl ?_
      exact f_iret (pc := 136) dX11_crossings_136 rfl (by assumption) (hQ _ (by unfold o_crossings; rw [if_neg (fun z => z iq), if_neg (by omega), if_neg (by omega), hx, show (b - a).toNat = m by omega, csA_cg I0 CV.sy]))
    refine r_aload (pc := 92) dX11_crossings_92 rfl ?_
    refine r_iload (pc := 94) dX11_crossings_94 rfl ?_
    refine c_X11_159 (pc := 96) rfl dX11_crossings_96 (by first | assumption | rfl) (by omega) (Nat.le_of_ble_eq_true rfl) ?_
    refine m_X0_partsAt (d - 1) (by omega) (by assumption) sq0 I0 (by omega) (fun r96 e96 b96 => ?_)
    have e96 : r96 = valS (cx w (2 + 8 + 6 * q)) (a + m + 1) := by rw [e96, hi]
    refine r_bipush (pc := 99) (n := 64) dX11_crossings_99 (by decide) ?_
    refine r_iload (pc := 101) dX11_crossings_101 rfl ?_
    refine r_imul (pc := 103) dX11_crossings_103 ?_
    refine r_icmpge (pc := 104) (tgt := 111) dX11_crossings_104 rfl (by omega) (by omega) (fun h104 => ?_) (fun h104 => ?_)
    · refine r_iconst (pc := 111) (n := 0) dX11_crossings_111 ?_
      exact cut112 hab hl hz n0 m ih hm (by omega) x h 0 i _ hx hh (Or.inr ⟨rfl, by omega⟩) hi
    refine r_iconst (pc := 107) (n := 1) dX11_crossings_107 ?_
    refine r_goto (pc := 108) (tgt := 112) dX11_crossings_108 rfl ?_
    exact cut112 hab hl hz n0 m ih hm (by omega) x h 1 i _ hx hh (Or.inl ⟨rfl, by omega⟩) hi
  have cut79 : (0 ≤ a ∧ a ≤ b ∧ b ≤ 960) → (-999 ≤ l ∧ l ≤ 999) → w (2 + 8 + 6 * q) 0 ≠ 0 → ∀ (h : Int) (o7 o8 o9 : Option AV), (h = 1 ∧ valS (cx w (2 + 8 + 6 * q)) a < 64 * l) ∨ (h = 0 ∧ ¬ valS (cx w (2 + 8 + 6 * q)) a < 64 * l) → V mX11_crossings (Rm d) 0 0 79 [some (vR (some 1)), some (vI q), some (vI a), some (vI b), some (vI l), some (vR (some (2 + 8 + 6 * q))), some (vI 0), o7, o8, o9] [vI h] (fl w) (lQ Q) := by
    intro hab hl hz h o7 o8 o9 hh
    refine r_istore7 (pc := 79) dX11_crossings_79 rfl ?_
    refine r_iload_n (pc := 81) dX11_crossings_81 rfl ?_
    refine r_iconst (pc := 82) (n := 1) dX11_crossings_82 ?_
    refine r_iadd (pc := 83) dX11_crossings_83 ?_
    refine r_istore8 (pc := 84) dX11_crossings_84 rfl ?_
    exact loop86 hab hl hz _ 0 rfl (by omega) _ _ _ _ rfl (by rw [show a + ((0 : Nat) : Int) = a by omega]; exact hh) (by omega)
  refine r_aload_n (pc := 0) dX11_crossings_0 rfl ?_
  refine h_X11_10 (pc := 1) rfl dX11_crossings_1 ?_
  refine r_iload_n (pc := 4) dX11_crossings_4 rfl ?_
  refine c_X11_69 (pc := 5) rfl dX11_crossings_5 (by first | assumption | rfl) (by omega) (Nat.le_of_ble_eq_true rfl) ?_
  refine m_X8_curveAt (q := q) (d - 1) (by omega) (by assumption) (show sh 2 = 8 from rfl) hq4 rfl ?_
  refine r_astore5 (pc := 8) dX11_crossings_8 rfl ?_
  refine r_aload (pc := 10) dX11_crossings_10 rfl ?_
  refine r_ifnonnull_s (pc := 12) (tgt := 18) dX11_crossings_12 rfl ?_
  refine r_iload_n (pc := 18) dX11_crossings_18 rfl ?_
  refine r_iload_n (pc := 19) dX11_crossings_19 rfl ?_
  refine r_sipush (pc := 20) (n := 960) dX11_crossings_20 (by decide) ?_
  refine c_X11_163 (pc := 23) rfl dX11_crossings_23 (by omega) (Nat.le_of_ble_eq_true rfl) ?_
  refine m_X11_isRange (d - 1) (by omega) (by assumption) (by omega) (by omega) (by omega) (fun r23 e23 b23 => ?_)
  have i23 := b2i_i e23
  refine r_ifeq (pc := 26) (tgt := 43) dX11_crossings_26 rfl (by omega) (fun h26 => ?_) (fun h26 => ?_)
  · refine r_ldc (pc := 43) (n := -1000000002) dX11_crossings_43 kw_X11_78 rfl ?_
    exact f_iret (pc := 45) dX11_crossings_45 rfl (by assumption) (hQ _ (by unfold o_crossings; rw [if_neg (fun z => z iq), if_pos (by omega)]))
  refine r_iload (pc := 29) dX11_crossings_29 rfl ?_
  refine r_sipush (pc := 31) (n := (-999)) dX11_crossings_31 (by decide) ?_
  refine r_sipush (pc := 34) (n := 999) dX11_crossings_34 (by decide) ?_
  refine c_X11_74 (pc := 37) rfl dX11_crossings_37 (by omega) (Nat.le_of_ble_eq_true rfl) ?_
  refine m_X11_within (d - 1) (by omega) (by assumption) (by omega) (by omega) (by omega) (fun r37 e37 b37 => ?_)
  have i37 := b2i_i e37
  refine r_ifne (pc := 40) (tgt := 46) dX11_crossings_40 rfl (by omega) (fun h40 => ?_) (fun h40 => ?_)
  · refine r_aload (pc := 46) dX11_crossings_46 rfl ?_
    refine g_X11_85 (pc := 48) rfl dX11_crossings_48 (by assumption) (by first | assumption | rfl) (fun h48 => ?_)
    refine r_ifne (pc := 51) (tgt := 57) dX11_crossings_51 rfl (by omega) (fun h51 => ?_) (fun h51 => ?_)
    · refine r_iconst (pc := 57) (n := 0) dX11_crossings_57 ?_
      refine r_istore6 (pc := 58) dX11_crossings_58 rfl ?_
      refine r_aload (pc := 60) dX11_crossings_60 rfl ?_
      refine r_iload_n (pc := 62) dX11_crossings_62 rfl ?_
      refine c_X11_159 (pc := 63) rfl dX11_crossings_63 (by first | assumption | rfl) (by omega) (Nat.le_of_ble_eq_true rfl) ?_
      refine m_X0_partsAt (d - 1) (by omega) (by assumption) sq0 I0 (by omega) (fun r63 e63 b63 => ?_)
      refine r_bipush (pc := 66) (n := 64) dX11_crossings_66 (by decide) ?_
      refine r_iload (pc := 68) dX11_crossings_68 rfl ?_
      refine r_imul (pc := 70) dX11_crossings_70 ?_
      refine r_icmpge (pc := 71) (tgt := 78) dX11_crossings_71 rfl (by omega) (by omega) (fun h71 => ?_) (fun h71 => ?_)
      · refine r_iconst (pc := 78) (n := 0) dX11_crossings_78 ?_
        exact cut79 (by omega) (by omega) (by omega) 0 _ _ _ (Or.inr ⟨rfl, by omega⟩)
      refine r_iconst (pc := 74) (n := 1) dX11_crossings_74 ?_
      refine r_goto (pc := 75) (tgt := 79) dX11_crossings_75 rfl ?_
      exact cut79 (by omega) (by omega) (by omega) 1 _ _ _ (Or.inl ⟨rfl, by omega⟩)
    refine r_ldc (pc := 54) (n := -1000000005) dX11_crossings_54 kw_X11_158 rfl ?_
    exact f_iret (pc := 56) dX11_crossings_56 rfl (by assumption) (hQ _ (by unfold o_crossings; rw [if_neg (fun z => z iq), if_neg (by omega), if_pos (by omega)]))
  refine r_ldc (pc := 43) (n := -1000000002) dX11_crossings_43 kw_X11_78 rfl ?_
  exact f_iret (pc := 45) dX11_crossings_45 rfl (by assumption) (hQ _ (by unfold o_crossings; rw [if_neg (fun z => z iq), if_pos (by omega)]))
set_option maxRecDepth 8000 in
theorem x_crossings_b {Q : Option AV → Wd → Prop} {w : Wd} (d : Nat) {q : Int} {a b l : Int} (hd : 8 ≤ d) (hw : WR w) (hq : ¬ inC q) (rq : R32 q) (ra : R32 a) (rb : R32 b) (rl : R32 l) (hQ : Q (some (vI (-1000000001))) w) : M mX11_crossings (Rm d) [vR (some 1), vI q, vI a, vI b, vI l] (fl w) (lQ Q) := by
  have hq : ¬ (0 ≤ q ∧ q ≤ 3) := hq
  refine f_mofv (L0 := [some (vR (some 1)), some (vI q), some (vI a), some (vI b), some (vI l), none, none, none, none, none]) rfl (Nat.le_of_ble_eq_true rfl) rfl ?_
  refine r_aload_n (pc := 0) dX11_crossings_0 rfl ?_
  refine h_X11_10 (pc := 1) rfl dX11_crossings_1 ?_
  refine r_iload_n (pc := 4) dX11_crossings_4 rfl ?_
  refine c_X11_69 (pc := 5) rfl dX11_crossings_5 (by first | assumption | rfl) (by omega) (Nat.le_of_ble_eq_true rfl) ?_
  refine m_X8_curveAtN (d - 1) (by omega) (by assumption) (show sh 2 = 8 from rfl) (by omega) (by omega) ?_
  refine r_astoreN5 (pc := 8) dX11_crossings_8 rfl ?_
  refine r_aloadN (pc := 10) dX11_crossings_10 rfl ?_
  refine r_ifnonnull_n (pc := 12) dX11_crossings_12 ?_
  refine r_ldc (pc := 15) (n := -1000000001) dX11_crossings_15 kw_X11_73 rfl ?_
  exact f_iret (pc := 17) dX11_crossings_17 rfl (by assumption) hQ
theorem x_crossings {Q : Option AV → Wd → Prop} {w : Wd} (d : Nat) {G : GS} {q : Int} {a b l : Int} (hd : 8 ≤ d) (hw : WR w) (hG : GOK G) (hC : CLG G w) (rq : R32 q) (ra : R32 a) (rb : R32 b) (rl : R32 l) (hQ : ∀ r, r = o_crossings G q a b l → Q (some (vI r)) w) : M mX11_crossings (Rm d) [vR (some 1), vI q, vI a, vI b, vI l] (fl w) (lQ Q) := by
  by_cases hq : inC q
  · obtain ⟨p, rfl⟩ : ∃ p : Nat, q = p := ⟨q.toNat, by have h : 0 ≤ q ∧ q ≤ 3 := hq; omega⟩
    have h : 0 ≤ (p : Int) ∧ (p : Int) ≤ 3 := hq
    exact x_crossings_k d hd hw hG hC (by omega) ra rb rl hQ
  · exact x_crossings_b d hd hw hq rq ra rb rl (hQ _ (by
      unfold o_crossings
      exact (if_pos hq).symm))
set_option maxRecDepth 8000 in
theorem x_units_k {Q : Option AV → Wd → Prop} {w : Wd} (d : Nat) {G : GS} {q : Nat} {f : Int} (hd : 8 ≤ d) (hw : WR w) (hG : GOK G) (hC : CLG G w) (hq4 : q < 4) (rf : R32 f) (hQ : ∀ r, alike32 r (o_units G q f) = true → Q (some (vF r)) w) : M mX11_units (Rm d) [vR (some 1), vI q, vI f] (fl w) (lQ Q) := by
  have hr34 := CLG.hr hG hC
  have CV := hC.cv hq4
  have I0 := hC.ci hq4
  have sq0 : sh (2 + 8 + 6 * q) = 0 := (sh_sta (c := 2) rfl).2.2.2 q hq4
  obtain ⟨s1, s2, s3, s4, s5⟩ := sh_curve sq0
  have hn : 0 ≤ w (2 + 8 + 6 * q) 0 ∧ w (2 + 8 + 6 * q) 0 ≤ 24 := I0.1
  have eN : G.now.c q 0 0 = w (2 + 8 + 6 * q) 0 := CV.1
  have iq : inC (q : Int) := ⟨by omega, by omega⟩
  refine f_mofv (L0 := [some (vR (some 1)), some (vI q), some (vI f), none]) rfl (Nat.le_of_ble_eq_true rfl) rfl ?_
  refine r_aload_n (pc := 0) dX11_units_0 rfl ?_
  refine h_X11_10 (pc := 1) rfl dX11_units_1 ?_
  refine r_iload_n (pc := 4) dX11_units_4 rfl ?_
  refine c_X11_69 (pc := 5) rfl dX11_units_5 (by first | assumption | rfl) (by omega) (Nat.le_of_ble_eq_true rfl) ?_
  refine m_X8_curveAt (q := q) (d - 1) (by omega) (by assumption) (show sh 2 = 8 from rfl) hq4 rfl ?_
  refine r_astore3 (pc := 8) dX11_units_8 rfl ?_
  refine r_aload_n (pc := 9) dX11_units_9 rfl ?_
  refine r_ifnull_s (pc := 10) dX11_units_10 ?_
  refine r_iload_n (pc := 13) dX11_units_13 rfl ?_
  refine r_iconst (pc := 14) (n := 0) dX11_units_14 ?_
  refine r_sipush (pc := 15) (n := 960) dX11_units_15 (by decide) ?_
  refine c_X11_74 (pc := 18) rfl dX11_units_18 (by omega) (Nat.le_of_ble_eq_true rfl) ?_
  refine m_X11_within (d - 1) (by omega) (by assumption) (by omega) (by omega) (by omega) (fun r18 e18 b18 => ?_)
  have i18 := b2i_i e18
  refine r_ifeq (pc := 21) (tgt := 31) dX11_units_21 rfl (by omega) (fun h21 => ?_) (fun h21 => ?_)
  · refine r_fconst0 (pc := 31) dX11_units_31 ?_
    exact f_fret (pc := 32) dX11_units_32 rfl (by assumption) (hQ _ (by unfold o_units; rw [if_neg (fun z => by have y := z.2.1; have y2 := z.2.2; omega)]; exact alike32_refl _))
  refine r_aload_n (pc := 24) dX11_units_24 rfl ?_
  refine g_X11_85 (pc := 25) rfl dX11_units_25 (by assumption) (by first | assumption | rfl) (fun h25 => ?_)
  refine r_ifne (pc := 28) (tgt := 33) dX11_units_28 rfl (by omega) (fun h28 => ?_) (fun h28 => ?_)
  · refine r_aload_n (pc := 33) dX11_units_33 rfl ?_
    refine r_iload_n (pc := 34) dX11_units_34 rfl ?_
    refine c_X11_159 (pc := 35) rfl dX11_units_35 (by first | assumption | rfl) (by omega) (Nat.le_of_ble_eq_true rfl) ?_
    refine m_X0_partsAt (d - 1) (by omega) (by assumption) sq0 I0 (by omega) (fun r35 e35 b35 => ?_)
    refine r_i2f (pc := 38) dX11_units_38 ?_
    refine r_ldcf (pc := 39) dX11_units_39 kw_X11_162 ?_
    refine r_fdiv (pc := 41) dX11_units_41 (fun r41 a41 => ?_)
    exact f_fret (pc := 42) dX11_units_42 rfl (by assumption) (hQ _ (by
          unfold o_units
          rw [if_pos ⟨iq, by omega, by omega⟩, ← valS_cg I0 CV.sy, ← e35]
          exact a41))
  refine r_fconst0 (pc := 31) dX11_units_31 ?_
  exact f_fret (pc := 32) dX11_units_32 rfl (by assumption) (hQ _ (by unfold o_units; rw [if_neg (fun z => by have y := z.2.1; have y2 := z.2.2; omega)]; exact alike32_refl _))
set_option maxRecDepth 8000 in
theorem x_units_b {Q : Option AV → Wd → Prop} {w : Wd} (d : Nat) {q : Int} {f : Int} (hd : 8 ≤ d) (hw : WR w) (hq : ¬ inC q) (rq : R32 q) (rf : R32 f) (hQ : Q (some (vF FP.fconst0)) w) : M mX11_units (Rm d) [vR (some 1), vI q, vI f] (fl w) (lQ Q) := by
  have hq : ¬ (0 ≤ q ∧ q ≤ 3) := hq
  refine f_mofv (L0 := [some (vR (some 1)), some (vI q), some (vI f), none]) rfl (Nat.le_of_ble_eq_true rfl) rfl ?_
  refine r_aload_n (pc := 0) dX11_units_0 rfl ?_
  refine h_X11_10 (pc := 1) rfl dX11_units_1 ?_
  refine r_iload_n (pc := 4) dX11_units_4 rfl ?_
  refine c_X11_69 (pc := 5) rfl dX11_units_5 (by first | assumption | rfl) (by omega) (Nat.le_of_ble_eq_true rfl) ?_
  refine m_X8_curveAtN (d - 1) (by omega) (by assumption) (show sh 2 = 8 from rfl) (by omega) (by omega) ?_
  refine r_astoreN3 (pc := 8) dX11_units_8 rfl ?_
  refine r_aload_nN (pc := 9) dX11_units_9 rfl ?_
  refine r_ifnull_n (pc := 10) (tgt := 31) dX11_units_10 rfl ?_
  refine r_fconst0 (pc := 31) dX11_units_31 ?_
  exact f_fret (pc := 32) dX11_units_32 rfl (by assumption) hQ
theorem x_units {Q : Option AV → Wd → Prop} {w : Wd} (d : Nat) {G : GS} {q : Int} {f : Int} (hd : 8 ≤ d) (hw : WR w) (hG : GOK G) (hC : CLG G w) (rq : R32 q) (rf : R32 f) (hQ : ∀ r, alike32 r (o_units G q f) = true → Q (some (vF r)) w) : M mX11_units (Rm d) [vR (some 1), vI q, vI f] (fl w) (lQ Q) := by
  by_cases hq : inC q
  · obtain ⟨p, rfl⟩ : ∃ p : Nat, q = p := ⟨q.toNat, by have h : 0 ≤ q ∧ q ≤ 3 := hq; omega⟩
    have h : 0 ≤ (p : Int) ∧ (p : Int) ≤ 3 := hq
    exact x_units_k d hd hw hG hC (by omega) rf hQ
  · exact x_units_b d hd hw hq rq rf (hQ _ (by unfold o_units; rw [if_neg (fun z => hq z.1)]; exact alike32_refl _))
set_option maxRecDepth 8000 in
theorem x_mean_k {Q : Option AV → Wd → Prop} {w : Wd} (d : Nat) {G : GS} {q : Nat} {a b : Int} (hd : 8 ≤ d) (hw : WR w) (hG : GOK G) (hC : CLG G w) (hq4 : q < 4) (ra : R32 a) (rb : R32 b) (hQ : ∀ r, alike64 r (o_mean G q a b) = true → Q (some (vD r)) w) : M mX11_mean (Rm d) [vR (some 1), vI q, vI a, vI b] (fl w) (lQ Q) := by
  have hr34 := CLG.hr hG hC
  have CV := hC.cv hq4
  have I0 := hC.ci hq4
  have sq0 : sh (2 + 8 + 6 * q) = 0 := (sh_sta (c := 2) rfl).2.2.2 q hq4
  obtain ⟨s1, s2, s3, s4, s5⟩ := sh_curve sq0
  have hn : 0 ≤ w (2 + 8 + 6 * q) 0 ∧ w (2 + 8 + 6 * q) 0 ≤ 24 := I0.1
  have eN : G.now.c q 0 0 = w (2 + 8 + 6 * q) 0 := CV.1
  have iq : inC (q : Int) := ⟨by omega, by omega⟩
  refine f_mofv (L0 := [some (vR (some 1)), some (vI q), some (vI a), some (vI b), none, none, none, none]) rfl (Nat.le_of_ble_eq_true rfl) rfl ?_
  have loop42 : (0 ≤ a ∧ a ≤ b ∧ b ≤ 960) → w (2 + 8 + 6 * q) 0 ≠ 0 → ∀ n0 : Nat, ∀ m : Nat, (b - a + 1 - m).toNat = n0 → (m : Int) ≤ b - a + 1 → ∀ (x i : Int), x = meA (cx w (2 + 8 + 6 * q)) a m → i = a + m → V mX11_mean (Rm d) 0 0 42 [some (vR (some 1)), some (vI q), some (vI a), some (vI b), some (vR (some (2 + 8 + 6 * q))), some (vL x), none, some (vI i)] [] (fl w) (lQ Q) := by
    intro hab hz
    refine ind_lt ?_
    intro n0 ih m hm hmb x i hx hi
    refine r_iload (pc := 42) dX11_mean_42 rfl ?_
    refine r_iload_n (pc := 44) dX11_mean_44 rfl ?_
    refine r_icmpgt (pc := 45) (tgt := 67) dX11_mean_45 rfl (by omega) (by omega) (fun h45 => ?_) (fun h45 => ?_)
    · refine r_lload (pc := 67) dX11_mean_67 rfl ?_
      refine r_l2d (pc := 69) dX11_mean_69 ?_
      refine r_ldc2d (pc := 70) dX11_mean_70 kw_X11_166 ?_
      refine r_iload_n (pc := 73) dX11_mean_73 rfl ?_
      refine r_iload_n (pc := 74) dX11_mean_74 rfl ?_
      refine r_isub (pc := 75) dX11_mean_75 ?_
      refine r_iconst (pc := 76) (n := 1) dX11_mean_76 ?_
      refine r_iadd (pc := 77) dX11_mean_77 ?_
      refine r_i2d (pc := 78) dX11_mean_78 ?_
      refine r_dmul (pc := 79) dX11_mean_79 (fun r79 a79 => ?_)
      refine r_ddiv (pc := 80) dX11_mean_80 (fun r80 a80 => ?_)
      exact f_dret (pc := 81) dX11_mean_81 rfl (by assumption) (hQ _ (by
            unfold o_mean
            rw [if_pos ⟨iq, by omega, by omega⟩, ← meA_cg I0 CV.sy, show (b - a + 1).toNat = m by omega, ← hx]
            exact alike64_ddr a79 a80))
    refine r_lload (pc := 48) dX11_mean_48 rfl ?_
    refine r_aload (pc := 50) dX11_mean_50 rfl ?_
    refine r_iload (pc := 52) dX11_mean_52 rfl ?_
    refine c_X11_159 (pc := 54) rfl dX11_mean_54 (by first | assumption | rfl) (by omega) (Nat.le_of_ble_eq_true rfl) ?_
    refine m_X0_partsAt (d - 1) (by omega) (by assumption) sq0 I0 (by omega) (fun r54 e54 b54 => ?_)
    refine r_i2l (pc := 57) dX11_mean_57 (by first | assumption | omega) ?_
    refine r_ladd (pc := 58) dX11_mean_58 ?_
    refine r_lstore5 (pc := 59) dX11_mean_59 rfl ?_
    refine r_iinc7 (pc := 61) dX11_mean_61 rfl ?_
    refine r_goto (pc := 64) (tgt := 42) dX11_mean_64 rfl ?_
    exact ih _ (by omega) (m + 1) rfl (by omega) _ _ (by rw [hx, e54, hi]; rfl) (by omega)
  refine r_aload_n (pc := 0) dX11_mean_0 rfl ?_
  refine h_X11_10 (pc := 1) rfl dX11_mean_1 ?_
  refine r_iload_n (pc := 4) dX11_mean_4 rfl ?_
  refine c_X11_69 (pc := 5) rfl dX11_mean_5 (by first | assumption | rfl) (by omega) (Nat.le_of_ble_eq_true rfl) ?_
  refine m_X8_curveAt (q := q) (d - 1) (by omega) (by assumption) (show sh 2 = 8 from rfl) hq4 rfl ?_
  refine r_astore4 (pc := 8) dX11_mean_8 rfl ?_
  refine r_aload (pc := 10) dX11_mean_10 rfl ?_
  refine r_ifnull_s (pc := 12) dX11_mean_12 ?_
  refine r_iload_n (pc := 15) dX11_mean_15 rfl ?_
  refine r_iload_n (pc := 16) dX11_mean_16 rfl ?_
  refine r_sipush (pc := 17) (n := 960) dX11_mean_17 (by decide) ?_
  refine c_X11_163 (pc := 20) rfl dX11_mean_20 (by omega) (Nat.le_of_ble_eq_true rfl) ?_
  refine m_X11_isRange (d - 1) (by omega) (by assumption) (by omega) (by omega) (by omega) (fun r20 e20 b20 => ?_)
  have i20 := b2i_i e20
  refine r_ifeq (pc := 23) (tgt := 34) dX11_mean_23 rfl (by omega) (fun h23 => ?_) (fun h23 => ?_)
  · refine r_dconst0 (pc := 34) dX11_mean_34 ?_
    exact f_dret (pc := 35) dX11_mean_35 rfl (by assumption) (hQ _ (by unfold o_mean; rw [if_neg (fun z => by have y := z.2.1; have y2 := z.2.2; omega)]; exact alike64_refl _))
  refine r_aload (pc := 26) dX11_mean_26 rfl ?_
  refine g_X11_85 (pc := 28) rfl dX11_mean_28 (by assumption) (by first | assumption | rfl) (fun h28 => ?_)
  refine r_ifne (pc := 31) (tgt := 36) dX11_mean_31 rfl (by omega) (fun h31 => ?_) (fun h31 => ?_)
  · refine r_lconst0 (pc := 36) dX11_mean_36 ?_
    refine r_lstore5 (pc := 37) dX11_mean_37 rfl ?_
    refine r_iload_n (pc := 39) dX11_mean_39 rfl ?_
    refine r_istore7 (pc := 40) dX11_mean_40 rfl ?_
    exact loop42 (by omega) (by omega) _ 0 rfl (by omega) _ _ rfl (by omega)
  refine r_dconst0 (pc := 34) dX11_mean_34 ?_
  exact f_dret (pc := 35) dX11_mean_35 rfl (by assumption) (hQ _ (by unfold o_mean; rw [if_neg (fun z => by have y := z.2.1; have y2 := z.2.2; omega)]; exact alike64_refl _))
set_option maxRecDepth 8000 in
theorem x_mean_b {Q : Option AV → Wd → Prop} {w : Wd} (d : Nat) {q : Int} {a b : Int} (hd : 8 ≤ d) (hw : WR w) (hq : ¬ inC q) (rq : R32 q) (ra : R32 a) (rb : R32 b) (hQ : Q (some (vD FP.dconst0)) w) : M mX11_mean (Rm d) [vR (some 1), vI q, vI a, vI b] (fl w) (lQ Q) := by
  have hq : ¬ (0 ≤ q ∧ q ≤ 3) := hq
  refine f_mofv (L0 := [some (vR (some 1)), some (vI q), some (vI a), some (vI b), none, none, none, none]) rfl (Nat.le_of_ble_eq_true rfl) rfl ?_
  refine r_aload_n (pc := 0) dX11_mean_0 rfl ?_
  refine h_X11_10 (pc := 1) rfl dX11_mean_1 ?_
  refine r_iload_n (pc := 4) dX11_mean_4 rfl ?_
  refine c_X11_69 (pc := 5) rfl dX11_mean_5 (by first | assumption | rfl) (by omega) (Nat.le_of_ble_eq_true rfl) ?_
  refine m_X8_curveAtN (d - 1) (by omega) (by assumption) (show sh 2 = 8 from rfl) (by omega) (by omega) ?_
  refine r_astoreN4 (pc := 8) dX11_mean_8 rfl ?_
  refine r_aloadN (pc := 10) dX11_mean_10 rfl ?_
  refine r_ifnull_n (pc := 12) (tgt := 34) dX11_mean_12 rfl ?_
  refine r_dconst0 (pc := 34) dX11_mean_34 ?_
  exact f_dret (pc := 35) dX11_mean_35 rfl (by assumption) hQ
theorem x_mean {Q : Option AV → Wd → Prop} {w : Wd} (d : Nat) {G : GS} {q : Int} {a b : Int} (hd : 8 ≤ d) (hw : WR w) (hG : GOK G) (hC : CLG G w) (rq : R32 q) (ra : R32 a) (rb : R32 b) (hQ : ∀ r, alike64 r (o_mean G q a b) = true → Q (some (vD r)) w) : M mX11_mean (Rm d) [vR (some 1), vI q, vI a, vI b] (fl w) (lQ Q) := by
  by_cases hq : inC q
  · obtain ⟨p, rfl⟩ : ∃ p : Nat, q = p := ⟨q.toNat, by have h : 0 ≤ q ∧ q ≤ 3 := hq; omega⟩
    have h : 0 ≤ (p : Int) ∧ (p : Int) ≤ 3 := hq
    exact x_mean_k d hd hw hG hC (by omega) ra rb hQ
  · exact x_mean_b d hd hw hq rq ra rb (hQ _ (by unfold o_mean; rw [if_neg (fun z => hq z.1)]; exact alike64_refl _))
