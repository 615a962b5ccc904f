/-! the model's polyline and what removes keys -/
theorem lin_up {w : Wd} {a x y z : Int} : (up (up (up w 391 a x) 392 a y) 393 a z) 391 a = x ∧ (up (up (up w 391 a x) 392 a y) 393 a z) 392 a = y ∧ (up (up (up w 391 a x) 392 a y) 393 a z) 393 a = z ∧ (∀ p, p < 391 ∨ 393 < p → (up (up (up w 391 a x) 392 a y) 393 a z) p = w p) ∧ ∀ j, j ≠ a → (up (up (up w 391 a x) 392 a y) 393 a z) 391 j = w 391 j ∧ (up (up (up w 391 a x) 392 a y) 393 a z) 392 j = w 392 j ∧ (up (up (up w 391 a x) 392 a y) 393 a z) 393 j = w 393 j := by
  refine ⟨?_, ?_, ?_, fun p h => ?_, fun j h => ⟨?_, ?_, ?_⟩⟩
  · rw [up_ne (by omega), up_ne (by omega), up_hit]
  · rw [up_ne (by omega), up_hit]
  · rw [up_hit]
  · rw [up_ne (by omega), up_ne (by omega), up_ne (by omega)]
  · rw [up_ne (by omega), up_ne (by omega), up_off (by omega)]
  · rw [up_ne (by omega), up_off (by omega), up_ne (by omega)]
  · rw [up_off (by omega), up_ne (by omega), up_ne (by omega)]
theorem del_back {X : CP} (h : CI X) {k j : Int} (hk : 0 ≤ k ∧ k < X 0 0) (hj : KB (delX X k 0 0) (delX X k 1) (X 1 k) j) : CEQ (insX (delX X k) j (v5 (X 1 k) (X 2 k) (X 3 k) (X 4 k) (X 5 k))) X := by
  have a1 : (1 : Nat) ≤ 1 := by omega
  have e : j = k := KB_one hj ⟨hk.1, by rw [delX_n]; omega, fun i i0 i1 => by
    rw [delX_lt a1 i1]; exact h.2.2.1 i k i0 i1 hk.2, fun z => by
    rw [delX_n] at z
    rw [delX_ge a1 (Int.le_refl k)]
    have := h.2.2.1 k (k + 1) hk.1 (by omega) (by omega)
    omega⟩
  subst e
  refine ⟨by rw [insX_n, delX_n]; omega, by rw [insX_0 (by omega), delX_0 (by omega)], by rw [insX_0 (by omega), delX_0 (by omega)], fun r r1 r5 i i0 i1 => ?_⟩
  rcases Int.lt_trichotomy i j with z | z | z
  · rw [insX_lt r1 z, delX_lt r1 z]
  · subst z
    rw [insX_eq r1]
    rcases (show r = 1 ∨ r = 2 ∨ r = 3 ∨ r = 4 ∨ r = 5 by omega) with e | e | e | e | e <;> subst e <;> rfl
  · rw [insX_gt r1 z, delX_ge r1 (by omega), show i - 1 + 1 = i by omega]
def FQA (q : Int) (w w2 : Wd) : Prop := (∀ i, i ≠ 386 → i ≠ 394 → w2 i = w i) ∧ ∀ j, (j < 128 * q ∨ 128 * q + 128 ≤ j) → w2 386 j = w 386 j
theorem FQA.tr {q : Int} {w w1 w2 : Wd} (h : FQA q w w1) (g : FQA q w1 w2) : FQA q w w2 := ⟨fun i e z => (g.1 i e z).trans (h.1 i e z), fun j e => (g.2 j e).trans (h.2 j e)⟩
theorem FQ.a {q : Int} {w w2 : Wd} (h : FQ q w w2) : FQA q w w2 := ⟨fun i e _ => h.1 i e, h.2⟩
theorem KB_cg2 {X Y : CP} {t k : Int} (e : CEQ X Y) (h : KB (X 0 0) (X 1) t k) : KB (Y 0 0) (Y 1) t k := by
  obtain ⟨h1, h2, h3, h4⟩ := h
  have n := e.1
  exact ⟨h1, by omega, fun j j0 j1 => by rw [← e.row (by omega) (by omega) j0 (by omega)]; exact h3 j j0 j1, fun z => by rw [← e.row (by omega) (by omega) h1 (by omega)]; exact h4 (by omega)⟩
theorem kw_X12_187 : Jvm.Cond.constantLong RX12 187 (-1 : Int64) ∈ gW := gw_t 1199 (by decide +kernel) (by decide +kernel)
set_option maxRecDepth 8000 in
theorem m_X12_apart {Q : Option AV → Wd → Prop} {w : Wd} (d : Nat) {s : Int → Int} {a b t n : Int} (hd : 3 ≤ d) (hw : WR w) (hs : ∀ j, 0 ≤ j → j ≤ n → w 390 j = s j ∧ -200000000 ≤ s j ∧ s j ≤ 200000000) (hn : n ≤ 40) (ht : 0 ≤ t ∧ t ≤ 9999) (hab : 0 ≤ a ∧ a < b ∧ b ≤ n) (hQ : ∀ r, r = mfS s t a b → -1 ≤ r → r ≤ 410000 → Q (some (vL r)) w) : M mX12_apart (Rm d) [vR (some 385), vI a, vI b, vI t] (fl w) (lQ Q) := by
  have Sa := hs a (by omega) (by omega)
  have Sb := hs b (by omega) (by omega)
  have MB := mfA_bd (s := s) (a := a) (b := b) ht (b - a - 1).toNat
  refine f_mofv (L0 := [some (vR (some 385)), some (vI a), some (vI b), some (vI t), none, none, none, none, none]) rfl (Nat.le_of_ble_eq_true rfl) rfl ?_
  have loop8 : ∀ n0 : Nat, ∀ m : Nat, (b - a - 1 - m).toNat = n0 → a + 1 + m ≤ b → 0 ≤ mfA s t a b m → ∀ (x i : Int) (o7 o8 : Option AV), x = mfA s t a b m → i = a + 1 + m → V mX12_apart (Rm d) 0 0 8 [some (vR (some 385)), some (vI a), some (vI b), some (vI t), some (vL x), none, some (vI i), o7, o8] [] (fl w) (lQ Q) := by
    refine ind_lt ?_
    intro n0 ih m hm hmb h0 x i o7 o8 hx hi
    have MM := mfA_bd (s := s) (a := a) (b := b) ht m
    refine r_iload (pc := 8) dX12_apart_8 rfl ?_
    refine r_iload_n (pc := 10) dX12_apart_10 rfl ?_
    refine r_icmpge (pc := 11) (tgt := 90) dX12_apart_11 rfl (by omega) (by omega) (fun h11 => ?_) (fun h11 => ?_)
    · refine r_lload (pc := 90) dX12_apart_90 rfl ?_
      exact f_lret (pc := 92) dX12_apart_92 rfl (by assumption) (hQ _ (by rw [hx, show m = (b - a - 1).toNat by omega]; rfl) (by omega) (by omega))
    refine r_aload_n (pc := 14) dX12_apart_14 rfl ?_
    refine h_X12_22 (pc := 15) rfl dX12_apart_15 ?_
    refine r_iload_n (pc := 18) dX12_apart_18 rfl ?_
    refine f_iald (pc := 19) dX12_apart_19 (n := 41) (by assumption) (by first | assumption | rfl) (by omega) (by omega) (by omega) (fun h19 => ?_)
    rw [Sa.1]
    refine r_aload_n (pc := 20) dX12_apart_20 rfl ?_
    refine h_X12_22 (pc := 21) rfl dX12_apart_21 ?_
    refine r_iload_n (pc := 24) dX12_apart_24 rfl ?_
    refine f_iald (pc := 25) dX12_apart_25 (n := 41) (by assumption) (by first | assumption | rfl) (by omega) (by omega) (by omega) (fun h25 => ?_)
    rw [Sb.1]
    refine r_aload_n (pc := 26) dX12_apart_26 rfl ?_
    refine h_X12_22 (pc := 27) rfl dX12_apart_27 ?_
    refine r_iload_n (pc := 30) dX12_apart_30 rfl ?_
    refine f_iald (pc := 31) dX12_apart_31 (n := 41) (by assumption) (by first | assumption | rfl) (by omega) (by omega) (by omega) (fun h31 => ?_)
    rw [Sa.1]
    refine r_isub (pc := 32) dX12_apart_32 ?_
    refine r_i2l (pc := 33) dX12_apart_33 (by first | assumption | omega) ?_
    refine r_iload (pc := 34) dX12_apart_34 rfl ?_
    refine r_iload_n (pc := 36) dX12_apart_36 rfl ?_
    refine r_isub (pc := 37) dX12_apart_37 ?_
    refine r_i2l (pc := 38) dX12_apart_38 (by first | assumption | omega) ?_
    refine r_lmul (pc := 39) dX12_apart_39 ?_
    refine r_iload_n (pc := 40) dX12_apart_40 rfl ?_
    refine r_iload_n (pc := 41) dX12_apart_41 rfl ?_
    refine r_isub (pc := 42) dX12_apart_42 ?_
    refine r_i2l (pc := 43) dX12_apart_43 (by first | assumption | omega) ?_
    refine c_X12_93 (pc := 44) rfl dX12_apart_44 (by omega) (Nat.le_of_ble_eq_true rfl) ?_
    refine m_X12_round (d - 1) (by omega) (by assumption) (by omega) (fun r44 e44 => ?_)
    have LB := line_bd (R := s b - s a) (x := i - a) (d := b - a) (by omega) (by omega) (by omega)
    rw [← e44] at LB
    refine r_l2i (pc := 47) dX12_apart_47 ?_
    refine r_iadd (pc := 48) dX12_apart_48 ?_
    refine r_istore7 (pc := 49) dX12_apart_49 rfl ?_
    have Si := hs i (by omega) (by omega)
    refine r_iload (pc := 51) dX12_apart_51 rfl ?_
    refine r_aload_n (pc := 53) dX12_apart_53 rfl ?_
    refine h_X12_22 (pc := 54) rfl dX12_apart_54 ?_
    refine r_iload (pc := 57) dX12_apart_57 rfl ?_
    refine f_iald (pc := 59) dX12_apart_59 (n := 41) (by assumption) (by first | assumption | rfl) (by omega) (by omega) (by omega) (fun h59 => ?_)
    rw [Si.1]
    refine r_isub (pc := 60) dX12_apart_60 ?_
    refine c_X12_102 (pc := 61) rfl dX12_apart_61 (by omega) (Nat.le_of_ble_eq_true rfl) ?_
    refine m_X12_size (d - 1) (by omega) (by assumption) (by omega) (fun r61 e61 b61 => ?_)
    have E61 : r61 = dfS s a b (a + m + 1) := by rw [e61, e44, show i = a + m + 1 by omega]; rfl
    refine r_istore8 (pc := 64) dX12_apart_64 rfl ?_
    refine r_iload (pc := 66) dX12_apart_66 rfl ?_
    refine r_iload_n (pc := 68) dX12_apart_68 rfl ?_
    refine r_icmple (pc := 69) (tgt := 76) dX12_apart_69 rfl (by omega) (by omega) (fun h69 => ?_) (fun h69 => ?_)
    · have ng : ¬ dfS s a b (a + m + 1) > t := by omega
      refine r_lload (pc := 76) dX12_apart_76 rfl ?_
      refine r_iload (pc := 78) dX12_apart_78 rfl ?_
      refine r_i2l (pc := 80) dX12_apart_80 (by first | assumption | omega) ?_
      refine r_ladd (pc := 81) dX12_apart_81 ?_
      refine r_lstore4 (pc := 82) dX12_apart_82 rfl ?_
      refine r_iinc6 (pc := 84) dX12_apart_84 rfl ?_
      refine r_goto (pc := 87) (tgt := 8) dX12_apart_87 rfl ?_
      exact ih _ (by omega) (m + 1) rfl (by omega) (by rw [mfA_s h0, if_neg ng]; omega) _ _ _ _ (by rw [mfA_s h0, if_neg ng, hx, E61]) (by omega)
    refine r_ldc2 (pc := 72) (n := -1) dX12_apart_72 kw_X12_187 rfl ?_
    exact f_lret (pc := 75) dX12_apart_75 rfl (by assumption) (hQ _ (mf_stop (m := m) (by omega) h0 (by omega)).symm (by omega) (by omega))
  refine r_lconst0 (pc := 0) dX12_apart_0 ?_
  refine r_lstore4 (pc := 1) dX12_apart_1 rfl ?_
  refine r_iload_n (pc := 3) dX12_apart_3 rfl ?_
  refine r_iconst (pc := 4) (n := 1) dX12_apart_4 ?_
  refine r_iadd (pc := 5) dX12_apart_5 ?_
  refine r_istore6 (pc := 6) dX12_apart_6 rfl ?_
  exact loop8 _ 0 rfl (by omega) (Int.le_refl 0) _ _ _ _ rfl (by omega)
set_option maxRecDepth 8000 in
theorem m_X12_lines {Q : Option AV → Wd → Prop} {w : Wd} (d : Nat) {s : Int → Int} {n t : Int} (hd : 4 ≤ d) (hw : WR w) (hs : ∀ j, 0 ≤ j → j ≤ n → w 390 j = s j ∧ -200000000 ≤ s j ∧ s j ≤ 200000000) (hn : n ≤ 40) (ht : 0 ≤ t ∧ t ≤ 9999) (hn0 : 0 ≤ n) (hQ : ∀ w2, PLK w2 391 392 393 s t n n.toNat → (∀ p, p < 391 ∨ 393 < p → w2 p = w p) → WR w2 → Q none w2) : M mX12_lines (Rm d) [vR (some 385), vI n, vI t] (fl w) (lQ Q) := by
  refine f_mofv (L0 := [some (vR (some 385)), some (vI n), some (vI t), none, none, none, none, none]) rfl (Nat.le_of_ble_eq_true rfl) rfl ?_
  have loop35 : ∀ (n0 k : Nat) (w1 : Wd) (a : Int), (∀ n1 : Nat, n1 < n0 → ∀ k : Nat, (n - k).toNat = n1 → (k : Int) ≤ n → ∀ (w1 : Wd) (a : Int) (o4 o5 o6 o7 : Option AV), a = n - k - 1 → PLK w1 391 392 393 s t n k → (∀ p, p < 391 ∨ 393 < p → w1 p = w p) → WR w1 → V mX12_lines (Rm d) 0 0 18 [some (vR (some 385)), some (vI n), some (vI t), some (vI a), o4, o5, o6, o7] [] (fl w1) (lQ Q)) → (n - k).toNat = n0 → (k : Int) ≤ n → a = n - k - 1 → 0 ≤ a → PLK w1 391 392 393 s t n k → (∀ p, p < 391 ∨ 393 < p → w1 p = w p) → ∀ n1 : Nat, ∀ m : Nat, (n - a - m).toNat = n1 → a + m ≤ n → ∀ (w2 : Wd) (i : Int) (o5 o6 o7 : Option AV), CNJ (plT s t n k).1 (plT s t n k).2.1 s t a m (w2 391 a) (w2 392 a) (w2 393 a) → i = a + 1 + m → (∀ p, p < 391 ∨ 393 < p → w2 p = w p) → (∀ j, j ≠ a → w2 391 j = w1 391 j ∧ w2 392 j = w1 392 j ∧ w2 393 j = w1 393 j) → WR w2 → V mX12_lines (Rm d) 0 0 35 [some (vR (some 385)), some (vI n), some (vI t), some (vI a), some (vI i), o5, o6, o7] [] (fl w2) (lQ Q) := by
    intro n0 k w1 a ih hk hkn ha ha0 hP hf1
    have TB := plT_bd (s := s) ht ⟨hn0, hn⟩ k (by omega)
    have CB := cnA_bd (s := s) (a := a) (F := (plT s t n k).1) (G := (plT s t n k).2.1) ht ha0 hn (by rw [show a + 1 = n - k by omega]; exact TB.1)
    refine ind_lt ?_
    intro n1 ih2 m hm hmn w2 i o5 o6 o7 hc hi hf2 hg2 hw2
    refine r_iload (pc := 35) dX12_lines_35 rfl ?_
    refine r_iload_n (pc := 37) dX12_lines_37 rfl ?_
    refine r_icmpgt (pc := 38) (tgt := 149) dX12_lines_38 rfl (by omega) (by omega) (fun h38 => ?_) (fun h38 => ?_)
    · refine r_iinc3 (pc := 149) dX12_lines_149 rfl ?_
      refine r_goto (pc := 152) (tgt := 18) dX12_lines_152 rfl ?_
      exact ih _ (by omega) (k + 1) rfl (by omega) w2 _ _ _ _ _ (by omega) (by
        rcases hc with ⟨c1, c2⟩ | ⟨c1, c2⟩
        · omega
        obtain ⟨m1, rfl⟩ : ∃ m1, m = m1 + 1 := ⟨m - 1, by omega⟩
        obtain ⟨d1, d2, d3⟩ := c2
        have em : m1 = k := by omega
        subst em
        exact PLK_s hP a ha d1 d2 d3 (fun j hj => (hg2 j hj).1) (fun j hj => (hg2 j hj).2.1) (fun j hj => (hg2 j hj).2.2)) hf2 (by assumption)
    refine r_aload_n (pc := 41) dX12_lines_41 rfl ?_
    refine r_iload_n (pc := 42) dX12_lines_42 rfl ?_
    refine r_iload (pc := 43) dX12_lines_43 rfl ?_
    refine r_iload_n (pc := 45) dX12_lines_45 rfl ?_
    refine c_X12_189 (pc := 46) rfl dX12_lines_46 (by first | assumption | rfl) (by omega) (Nat.le_of_ble_eq_true rfl) ?_
    refine m_X12_apart (s := s) (n := n) (d - 1) (by omega) (by assumption) (fun j j0 j1 => by rw [hf2 390 (by omega)]; exact hs j j0 j1) hn ht ⟨by omega, by omega, by omega⟩ (fun r46 e46 b46 c46 => ?_)
    have Ti := TB.1 i (by omega) (by omega)
    have Pi := hP i (by omega) (by omega)
    have Gi := hg2 i (by omega)
    have P1 : w2 391 i = (plT s t n k).1 i := Gi.1.trans Pi.1
    have P2 : w2 392 i = (plT s t n k).2.1 i := Gi.2.1.trans Pi.2.1
    have mf1 : m = 0 → r46 = 0 := fun z => by rw [e46, show i = a + 1 by omega, mf_1]
    have hcx : m = 0 → w2 391 a = 100 := fun z => by
      rcases hc with ⟨c1, c2⟩ | ⟨c1, c2⟩
      · exact c2
      · exact absurd z c1
    refine r_lstore5 (pc := 49) dX12_lines_49 rfl ?_
    refine r_aload_n (pc := 51) dX12_lines_51 rfl ?_
    refine h_X12_25 (pc := 52) rfl dX12_lines_52 ?_
    refine r_iload (pc := 55) dX12_lines_55 rfl ?_
    refine f_iald (pc := 57) dX12_lines_57 (n := 41) (by assumption) (by first | assumption | rfl) (by omega) (by omega) (by omega) (fun h57 => ?_)
    rw [P1]
    refine r_iconst (pc := 58) (n := 1) dX12_lines_58 ?_
    refine r_iadd (pc := 59) dX12_lines_59 ?_
    refine r_istore7 (pc := 60) dX12_lines_60 rfl ?_
    refine r_lload (pc := 62) dX12_lines_62 rfl ?_
    refine r_lconst0 (pc := 64) dX12_lines_64 ?_
    refine r_lcmp (pc := 65) dX12_lines_65 (by omega) (by omega) ?_
    refine r_iflt (pc := 66) (tgt := 143) dX12_lines_66 rfl (cmpZ_r _ _) (fun h66 => ?_) (fun h66 => ?_)
    · rw [cmpZ_lt] at h66
      have CN2 := CJ_n (x := w2 391 a) (y := w2 392 a) (z := w2 393 a) hc hi (fun z => by have := mf1 z; omega) (Or.inl (by omega))
      refine r_iinc4 (pc := 143) dX12_lines_143 rfl ?_
      refine r_goto (pc := 146) (tgt := 35) dX12_lines_146 rfl ?_
      first
      | exact ih2 _ (by omega) (m + 1) rfl (by omega) w2 _ _ _ _ CN2 (by omega) hf2 hg2 (by assumption)
      | (obtain ⟨u1, u2, u3, u4, u5⟩ := lin_up (w := w2) (a := a) (x := (plT s t n k).1 i + 1) (y := r46 + (plT s t n k).2.1 i) (z := i); exact ih2 _ (by omega) (m + 1) rfl (by omega) _ _ _ _ _ (by rw [u1, u2, u3]; exact CN2) (by omega) (fun p hp => (u4 p hp).trans (hf2 p hp)) (fun j hj => ⟨(u5 j hj).1.trans (hg2 j hj).1, (u5 j hj).2.1.trans (hg2 j hj).2.1, (u5 j hj).2.2.trans (hg2 j hj).2.2⟩) (by assumption))
    rw [cmpZ_lt] at h66
    refine r_iload (pc := 69) dX12_lines_69 rfl ?_
    refine r_aload_n (pc := 71) dX12_lines_71 rfl ?_
    refine h_X12_25 (pc := 72) rfl dX12_lines_72 ?_
    refine r_iload_n (pc := 75) dX12_lines_75 rfl ?_
    refine f_iald (pc := 76) dX12_lines_76 (n := 41) (by assumption) (by first | assumption | rfl) (by omega) (by omega) (by omega) (fun h76 => ?_)
    refine r_icmplt (pc := 77) (tgt := 111) dX12_lines_77 rfl (by omega) (by omega) (fun h77 => ?_) (fun h77 => ?_)
    · have CN2 : CNJ (plT s t n k).1 (plT s t n k).2.1 s t a (m + 1) ((plT s t n k).1 i + 1) (r46 + (plT s t n k).2.1 i) i := CJ_y hc hi e46 (by omega) (by omega) rfl
      refine r_aload_n (pc := 111) dX12_lines_111 rfl ?_
      refine h_X12_25 (pc := 112) rfl dX12_lines_112 ?_
      refine r_iload_n (pc := 115) dX12_lines_115 rfl ?_
      refine r_iload (pc := 116) dX12_lines_116 rfl ?_
      refine f_iast (pc := 118) dX12_lines_118 (n := 41) (by assumption) (by first | assumption | rfl) (by omega) (by omega) (by omega) (by omega) (fun hw118 => ?_)
      refine r_aload_n (pc := 119) dX12_lines_119 rfl ?_
      refine h_X12_28 (pc := 120) rfl dX12_lines_120 ?_
      refine r_iload_n (pc := 123) dX12_lines_123 rfl ?_
      refine r_lload (pc := 124) dX12_lines_124 rfl ?_
      refine r_aload_n (pc := 126) dX12_lines_126 rfl ?_
      refine h_X12_28 (pc := 127) rfl dX12_lines_127 ?_
      refine r_iload (pc := 130) dX12_lines_130 rfl ?_
      refine f_lald (pc := 132) dX12_lines_132 (n := 41) (by assumption) (by first | assumption | rfl) (by omega) (by omega) (by omega) (fun h132 => ?_)
      rw [up_ne (by omega), P2]
      refine r_ladd (pc := 133) dX12_lines_133 ?_
      refine f_last (pc := 134) dX12_lines_134 (n := 41) (by assumption) (by first | assumption | rfl) (by omega) (by omega) (by omega) (by omega) (fun hw134 => ?_)
      refine r_aload_n (pc := 135) dX12_lines_135 rfl ?_
      refine h_X12_32 (pc := 136) rfl dX12_lines_136 ?_
      refine r_iload_n (pc := 139) dX12_lines_139 rfl ?_
      refine r_iload (pc := 140) dX12_lines_140 rfl ?_
      refine f_iast (pc := 142) dX12_lines_142 (n := 41) (by assumption) (by first | assumption | rfl) (by omega) (by omega) (by omega) (by omega) (fun hw142 => ?_)
      refine r_iinc4 (pc := 143) dX12_lines_143 rfl ?_
      refine r_goto (pc := 146) (tgt := 35) dX12_lines_146 rfl ?_
      first
      | exact ih2 _ (by omega) (m + 1) rfl (by omega) w2 _ _ _ _ CN2 (by omega) hf2 hg2 (by assumption)
      | (obtain ⟨u1, u2, u3, u4, u5⟩ := lin_up (w := w2) (a := a) (x := (plT s t n k).1 i + 1) (y := r46 + (plT s t n k).2.1 i) (z := i); exact ih2 _ (by omega) (m + 1) rfl (by omega) _ _ _ _ _ (by rw [u1, u2, u3]; exact CN2) (by omega) (fun p hp => (u4 p hp).trans (hf2 p hp)) (fun j hj => ⟨(u5 j hj).1.trans (hg2 j hj).1, (u5 j hj).2.1.trans (hg2 j hj).2.1, (u5 j hj).2.2.trans (hg2 j hj).2.2⟩) (by assumption))
    refine r_iload (pc := 80) dX12_lines_80 rfl ?_
    refine r_aload_n (pc := 82) dX12_lines_82 rfl ?_
    refine h_X12_25 (pc := 83) rfl dX12_lines_83 ?_
    refine r_iload_n (pc := 86) dX12_lines_86 rfl ?_
    refine f_iald (pc := 87) dX12_lines_87 (n := 41) (by assumption) (by first | assumption | rfl) (by omega) (by omega) (by omega) (fun h87 => ?_)
    refine r_icmpne (pc := 88) (tgt := 143) dX12_lines_88 rfl (by omega) (by omega) (fun h88 => ?_) (fun h88 => ?_)
    · have CN2 := CJ_n (x := w2 391 a) (y := w2 392 a) (z := w2 393 a) hc hi (fun z => by have := hcx z; omega) (Or.inr ⟨by omega, fun z => by omega⟩)
      refine r_iinc4 (pc := 143) dX12_lines_143 rfl ?_
      refine r_goto (pc := 146) (tgt := 35) dX12_lines_146 rfl ?_
      first
      | exact ih2 _ (by omega) (m + 1) rfl (by omega) w2 _ _ _ _ CN2 (by omega) hf2 hg2 (by assumption)
      | (obtain ⟨u1, u2, u3, u4, u5⟩ := lin_up (w := w2) (a := a) (x := (plT s t n k).1 i + 1) (y := r46 + (plT s t n k).2.1 i) (z := i); exact ih2 _ (by omega) (m + 1) rfl (by omega) _ _ _ _ _ (by rw [u1, u2, u3]; exact CN2) (by omega) (fun p hp => (u4 p hp).trans (hf2 p hp)) (fun j hj => ⟨(u5 j hj).1.trans (hg2 j hj).1, (u5 j hj).2.1.trans (hg2 j hj).2.1, (u5 j hj).2.2.trans (hg2 j hj).2.2⟩) (by assumption))
    refine r_lload (pc := 91) dX12_lines_91 rfl ?_
    refine r_aload_n (pc := 93) dX12_lines_93 rfl ?_
    refine h_X12_28 (pc := 94) rfl dX12_lines_94 ?_
    refine r_iload (pc := 97) dX12_lines_97 rfl ?_
    refine f_lald (pc := 99) dX12_lines_99 (n := 41) (by assumption) (by first | assumption | rfl) (by omega) (by omega) (by omega) (fun h99 => ?_)
    rw [P2]
    refine r_ladd (pc := 100) dX12_lines_100 ?_
    refine r_aload_n (pc := 101) dX12_lines_101 rfl ?_
    refine h_X12_28 (pc := 102) rfl dX12_lines_102 ?_
    refine r_iload_n (pc := 105) dX12_lines_105 rfl ?_
    refine f_lald (pc := 106) dX12_lines_106 (n := 41) (by assumption) (by first | assumption | rfl) (by omega) (by omega) (by omega) (fun h106 => ?_)
    refine r_lcmp (pc := 107) dX12_lines_107 (by omega) (by omega) ?_
    refine r_ifge (pc := 108) (tgt := 143) dX12_lines_108 rfl (cmpZ_r _ _) (fun h108 => ?_) (fun h108 => ?_)
    · rw [cmpZ_lt] at h108
      have CN2 := CJ_n (x := w2 391 a) (y := w2 392 a) (z := w2 393 a) hc hi (fun z => by have := hcx z; omega) (Or.inr ⟨by omega, fun z => by omega⟩)
      refine r_iinc4 (pc := 143) dX12_lines_143 rfl ?_
      refine r_goto (pc := 146) (tgt := 35) dX12_lines_146 rfl ?_
      first
      | exact ih2 _ (by omega) (m + 1) rfl (by omega) w2 _ _ _ _ CN2 (by omega) hf2 hg2 (by assumption)
      | (obtain ⟨u1, u2, u3, u4, u5⟩ := lin_up (w := w2) (a := a) (x := (plT s t n k).1 i + 1) (y := r46 + (plT s t n k).2.1 i) (z := i); exact ih2 _ (by omega) (m + 1) rfl (by omega) _ _ _ _ _ (by rw [u1, u2, u3]; exact CN2) (by omega) (fun p hp => (u4 p hp).trans (hf2 p hp)) (fun j hj => ⟨(u5 j hj).1.trans (hg2 j hj).1, (u5 j hj).2.1.trans (hg2 j hj).2.1, (u5 j hj).2.2.trans (hg2 j hj).2.2⟩) (by assumption))
    rw [cmpZ_lt] at h108
    have CN2 : CNJ (plT s t n k).1 (plT s t n k).2.1 s t a (m + 1) ((plT s t n k).1 i + 1) (r46 + (plT s t n k).2.1 i) i := CJ_y hc hi e46 (by omega) (by omega) rfl
    refine r_aload_n (pc := 111) dX12_lines_111 rfl ?_
    refine h_X12_25 (pc := 112) rfl dX12_lines_112 ?_
    refine r_iload_n (pc := 115) dX12_lines_115 rfl ?_
    refine r_iload (pc := 116) dX12_lines_116 rfl ?_
    refine f_iast (pc := 118) dX12_lines_118 (n := 41) (by assumption) (by first | assumption | rfl) (by omega) (by omega) (by omega) (by omega) (fun hw118 => ?_)
    refine r_aload_n (pc := 119) dX12_lines_119 rfl ?_
    refine h_X12_28 (pc := 120) rfl dX12_lines_120 ?_
    refine r_iload_n (pc := 123) dX12_lines_123 rfl ?_
    refine r_lload (pc := 124) dX12_lines_124 rfl ?_
    refine r_aload_n (pc := 126) dX12_lines_126 rfl ?_
    refine h_X12_28 (pc := 127) rfl dX12_lines_127 ?_
    refine r_iload (pc := 130) dX12_lines_130 rfl ?_
    refine f_lald (pc := 132) dX12_lines_132 (n := 41) (by assumption) (by first | assumption | rfl) (by omega) (by omega) (by omega) (fun h132 => ?_)
    rw [up_ne (by omega), P2]
    refine r_ladd (pc := 133) dX12_lines_133 ?_
    refine f_last (pc := 134) dX12_lines_134 (n := 41) (by assumption) (by first | assumption | rfl) (by omega) (by omega) (by omega) (by omega) (fun hw134 => ?_)
    refine r_aload_n (pc := 135) dX12_lines_135 rfl ?_
    refine h_X12_32 (pc := 136) rfl dX12_lines_136 ?_
    refine r_iload_n (pc := 139) dX12_lines_139 rfl ?_
    refine r_iload (pc := 140) dX12_lines_140 rfl ?_
    refine f_iast (pc := 142) dX12_lines_142 (n := 41) (by assumption) (by first | assumption | rfl) (by omega) (by omega) (by omega) (by omega) (fun hw142 => ?_)
    refine r_iinc4 (pc := 143) dX12_lines_143 rfl ?_
    refine r_goto (pc := 146) (tgt := 35) dX12_lines_146 rfl ?_
    first
    | exact ih2 _ (by omega) (m + 1) rfl (by omega) w2 _ _ _ _ CN2 (by omega) hf2 hg2 (by assumption)
    | (obtain ⟨u1, u2, u3, u4, u5⟩ := lin_up (w := w2) (a := a) (x := (plT s t n k).1 i + 1) (y := r46 + (plT s t n k).2.1 i) (z := i); exact ih2 _ (by omega) (m + 1) rfl (by omega) _ _ _ _ _ (by rw [u1, u2, u3]; exact CN2) (by omega) (fun p hp => (u4 p hp).trans (hf2 p hp)) (fun j hj => ⟨(u5 j hj).1.trans (hg2 j hj).1, (u5 j hj).2.1.trans (hg2 j hj).2.1, (u5 j hj).2.2.trans (hg2 j hj).2.2⟩) (by assumption))
  have loop18 : ∀ n0 : Nat, ∀ k : Nat, (n - k).toNat = n0 → (k : Int) ≤ n → ∀ (w1 : Wd) (a : Int) (o4 o5 o6 o7 : Option AV), a = n - k - 1 → PLK w1 391 392 393 s t n k → (∀ p, p < 391 ∨ 393 < p → w1 p = w p) → WR w1 → V mX12_lines (Rm d) 0 0 18 [some (vR (some 385)), some (vI n), some (vI t), some (vI a), o4, o5, o6, o7] [] (fl w1) (lQ Q) := by
    refine ind_lt ?_
    intro n0 ih k hk hkn w1 a o4 o5 o6 o7 ha hP hf1 hw1
    refine r_iload_n (pc := 18) dX12_lines_18 rfl ?_
    refine r_iflt (pc := 19) (tgt := 155) dX12_lines_19 rfl (by omega) (fun h19 => ?_) (fun h19 => ?_)
    · exact f_vret (pc := 155) dX12_lines_155 rfl (by assumption) (hQ _ (by rw [show n.toNat = k by omega]; exact hP) hf1 (by assumption))
    refine r_aload_n (pc := 22) dX12_lines_22 rfl ?_
    refine h_X12_25 (pc := 23) rfl dX12_lines_23 ?_
    refine r_iload_n (pc := 26) dX12_lines_26 rfl ?_
    refine r_bipush (pc := 27) (n := 100) dX12_lines_27 (by decide) ?_
    refine f_iast (pc := 29) dX12_lines_29 (n := 41) (by assumption) (by first | assumption | rfl) (by omega) (by omega) (by omega) (by omega) (fun hw29 => ?_)
    refine r_iload_n (pc := 30) dX12_lines_30 rfl ?_
    refine r_iconst (pc := 31) (n := 1) dX12_lines_31 ?_
    refine r_iadd (pc := 32) dX12_lines_32 ?_
    refine r_istore4 (pc := 33) dX12_lines_33 rfl ?_
    exact loop35 n0 k w1 a ih hk hkn ha (by omega) hP hf1 _ 0 rfl (by omega) (up w1 391 a 100) _ _ _ _ (Or.inl ⟨rfl, up_hit⟩) (by omega) (fun p hp => by rw [up_ne (by omega)]; exact hf1 p hp) (fun j hj => ⟨up_off (by omega), congrFun (up_ne (by omega)) j, congrFun (up_ne (by omega)) j⟩) (by assumption)
  refine r_aload_n (pc := 0) dX12_lines_0 rfl ?_
  refine h_X12_25 (pc := 1) rfl dX12_lines_1 ?_
  refine r_iload_n (pc := 4) dX12_lines_4 rfl ?_
  refine r_iconst (pc := 5) (n := 1) dX12_lines_5 ?_
  refine f_iast (pc := 6) dX12_lines_6 (n := 41) (by assumption) (by first | assumption | rfl) (by omega) (by omega) (by omega) (by omega) (fun hw6 => ?_)
  refine r_aload_n (pc := 7) dX12_lines_7 rfl ?_
  refine h_X12_28 (pc := 8) rfl dX12_lines_8 ?_
  refine r_iload_n (pc := 11) dX12_lines_11 rfl ?_
  refine r_lconst0 (pc := 12) dX12_lines_12 ?_
  refine f_last (pc := 13) dX12_lines_13 (n := 41) (by assumption) (by first | assumption | rfl) (by omega) (by omega) (by omega) (by omega) (fun hw13 => ?_)
  refine r_iload_n (pc := 14) dX12_lines_14 rfl ?_
  refine r_iconst (pc := 15) (n := 1) dX12_lines_15 ?_
  refine r_isub (pc := 16) dX12_lines_16 ?_
  refine r_istore3 (pc := 17) dX12_lines_17 rfl ?_
  exact loop18 _ 0 rfl (by omega) _ _ _ _ _ _ (by omega) (PLK_0 (by rw [up_ne (by omega), up_hit]) (by rw [up_hit])) (fun p hp => by rw [up_ne (by omega), up_ne (by omega)]) (by assumption)
set_option maxRecDepth 8000 in
theorem m_X12_error {Q : Option AV → Wd → Prop} {w : Wd} (d : Nat) {q a b : Int} {s : Int → Int} (hd : 8 ≤ d) (hw : WR w) (hq : 0 ≤ q ∧ q ≤ 3) (hI : CI (mx w q)) (h1 : 1 ≤ mx w q 0 0) (hab : 0 ≤ a ∧ a ≤ 480 ∧ b ≤ 480 ∧ a ≤ b) (hs : ∀ f, a ≤ f → f ≤ b → w 389 (f - a) = s f ∧ -200000000 ≤ s f ∧ s f ≤ 200000000) (hQ : ∀ r, r = erS (mx w q) s a b → 0 ≤ r → R32 r → Q (some (vI r)) w) : M mX12_error (Rm d) [vR (some 385), vI q, vI a, vI b] (fl w) (lQ Q) := by
  refine f_mofv (L0 := [some (vR (some 385)), some (vI q), some (vI a), some (vI b), none, none]) rfl (Nat.le_of_ble_eq_true rfl) rfl ?_
  have loop6 : ∀ n0 : Nat, ∀ m : Nat, (b - a + 1 - m).toNat = n0 → (m : Int) ≤ b - a + 1 → ∀ x i : Int, x = mxA (erG (mx w q) s) a m → x ≤ 400000000 → i = a + m → V mX12_error (Rm d) 0 0 6 [some (vR (some 385)), some (vI q), some (vI a), some (vI b), some (vI x), some (vI i)] [] (fl w) (lQ Q) := by
    refine ind_lt ?_
    intro n0 ih m hm hmb x i hx hx4 hi
    have M0 := mxA_0 (g := erG (mx w q) s) (a := a) m
    refine r_iload (pc := 6) dX12_error_6 rfl ?_
    refine r_iload_n (pc := 8) dX12_error_8 rfl ?_
    refine r_icmpgt (pc := 9) (tgt := 45) dX12_error_9 rfl (by omega) (by omega) (fun h9 => ?_) (fun h9 => ?_)
    · refine r_iload (pc := 45) dX12_error_45 rfl ?_
      exact f_iret (pc := 47) dX12_error_47 rfl (by assumption) (hQ _ (by rw [hx, show m = (b - a + 1).toNat by omega]; rfl) (by omega) (by omega))
    refine r_iload (pc := 12) dX12_error_12 rfl ?_
    refine r_aload_n (pc := 14) dX12_error_14 rfl ?_
    refine r_iload_n (pc := 15) dX12_error_15 rfl ?_
    refine r_iload (pc := 16) dX12_error_16 rfl ?_
    refine c_X12_133 (pc := 18) rfl dX12_error_18 (by first | assumption | rfl) (by omega) (Nat.le_of_ble_eq_true rfl) ?_
    have Si := hs i (by omega) (by omega)
    have VB := valS_bd hI (f := i) (by omega)
    refine m_X12_valueAt (d - 1) (by omega) (by assumption) (by assumption) (by assumption) (by omega) (by omega) (fun r18 e18 b18 => ?_)
    refine r_aload_n (pc := 21) dX12_error_21 rfl ?_
    refine h_X12_19 (pc := 22) rfl dX12_error_22 ?_
    refine r_iload (pc := 25) dX12_error_25 rfl ?_
    refine r_iload_n (pc := 27) dX12_error_27 rfl ?_
    refine r_isub (pc := 28) dX12_error_28 ?_
    refine f_iald (pc := 29) dX12_error_29 (n := 481) (by assumption) (by first | assumption | rfl) (by omega) (by omega) (by omega) (fun h29 => ?_)
    rw [Si.1]
    refine r_isub (pc := 30) dX12_error_30 ?_
    refine c_X12_102 (pc := 31) rfl dX12_error_31 (by omega) (Nat.le_of_ble_eq_true rfl) ?_
    refine m_X12_size (d - 1) (by omega) (by assumption) (by omega) (fun r31 e31 b31 => ?_)
    refine c_X12_112 (pc := 34) rfl dX12_error_34 (by omega) (Nat.le_of_ble_eq_true rfl) ?_
    refine m_X12_most (d - 1) (by omega) (by assumption) (by omega) (by omega) (fun r34 e34 b34 => ?_)
    have E34 : r34 = mxA (erG (mx w q) s) a (m + 1) := by
      rw [e34, hx, e31, e18, hi]; rfl
    refine r_istore4 (pc := 37) dX12_error_37 rfl ?_
    refine r_iinc5 (pc := 39) dX12_error_39 rfl ?_
    refine r_goto (pc := 42) (tgt := 6) dX12_error_42 rfl ?_
    exact ih _ (by omega) (m + 1) rfl (by omega) _ _ E34 (by omega) (by omega)
  refine r_iconst (pc := 0) (n := 0) dX12_error_0 ?_
  refine r_istore4 (pc := 1) dX12_error_1 rfl ?_
  refine r_iload_n (pc := 3) dX12_error_3 rfl ?_
  refine r_istore5 (pc := 4) dX12_error_4 rfl ?_
  exact loop6 _ 0 rfl (by omega) _ _ rfl (by omega) (by omega)
set_option maxRecDepth 8000 in
theorem m_X12_takes {Q : Option AV → Wd → Prop} {w : Wd} (d : Nat) {q k : Int} (hd : 3 ≤ d) (hw : WR w) (hq : 0 ≤ q ∧ q ≤ 3) (hn : 0 ≤ mx w q 0 0 ∧ mx w q 0 0 ≤ 24) (hk : 0 ≤ k ∧ k < mx w q 0 0) (hQ : ∀ w2, FQA q w w2 → w2 394 0 = mx w q 1 k → w2 394 1 = mx w q 2 k → w2 394 2 = mx w q 3 k → w2 394 3 = mx w q 4 k → w2 394 4 = mx w q 5 k → CEQ (mx w2 q) (delX (mx w q) k) → WR w2 → Q none w2) : M mX12_takes (Rm d) [vR (some 385), vI q, vI k] (fl w) (lQ Q) := by
  refine f_mofv (L0 := [some (vR (some 385)), some (vI q), some (vI k), none]) rfl (Nat.le_of_ble_eq_true rfl) rfl ?_
  have loop2 : ∀ n0 : Nat, ∀ (i : Nat) (w1 : Wd), 5 - i = n0 → i ≤ 5 → (∀ p, p ≠ 394 → w1 p = w p) → (∀ j : Int, 0 ≤ j → j < i → w1 394 j = w 386 (128 * q + (4 + 24 * j) + k)) → WR w1 → V mX12_takes (Rm d) 0 0 2 [some (vR (some 385)), some (vI q), some (vI k), some (vI i)] [] (fl w1) (lQ Q) := by
    refine ind_lt ?_
    intro n0 ih i w1 hm hi hf hv hw1
    refine r_iload_n (pc := 2) dX12_takes_2 rfl ?_
    refine r_iconst (pc := 3) (n := 5) dX12_takes_3 ?_
    refine r_icmpge (pc := 4) (tgt := 35) dX12_takes_4 rfl (by omega) (by omega) (fun h4 => ?_) (fun h4 => ?_)
    · refine r_aload_n (pc := 35) dX12_takes_35 rfl ?_
      refine r_iload_n (pc := 36) dX12_takes_36 rfl ?_
      refine r_iload_n (pc := 37) dX12_takes_37 rfl ?_
      refine c_X12_153 (pc := 38) rfl dX12_takes_38 (by first | assumption | rfl) (by omega) (Nat.le_of_ble_eq_true rfl) ?_
      have X1 : mx w1 q = mx w q := by unfold mx; rw [hf 386 (by omega)]
      refine m_X12_removes (d - 1) (by omega) (by assumption) hq (by rw [X1]; exact hn) (by rw [X1]; exact hk) (fun w38 f38 e38 hw38 => ?_)
      rw [X1] at e38
      have V5 : ∀ j : Int, 0 ≤ j → j < 5 → w38 394 j = w 386 (128 * q + (4 + 24 * j) + k) := fun j j0 j1 => by rw [f38.1 394 (by omega)]; exact hv j j0 (by omega)
      exact f_vret (pc := 41) dX12_takes_41 rfl (by assumption) (hQ _ ⟨fun p a b => (f38.1 p a).trans (hf p b), fun j e => by rw [f38.2 j e, hf 386 (by omega)]⟩ (by rw [V5 0 (by omega) (by omega)]; unfold mx; rw [if_neg (by omega)]; congr 1 <;> omega) (by rw [V5 1 (by omega) (by omega)]; unfold mx; rw [if_neg (by omega)]; congr 1 <;> omega) (by rw [V5 2 (by omega) (by omega)]; unfold mx; rw [if_neg (by omega)]; congr 1 <;> omega) (by rw [V5 3 (by omega) (by omega)]; unfold mx; rw [if_neg (by omega)]; congr 1 <;> omega) (by rw [V5 4 (by omega) (by omega)]; unfold mx; rw [if_neg (by omega)]; congr 1 <;> omega) e38 (by assumption))
    refine r_aload_n (pc := 7) dX12_takes_7 rfl ?_
    refine h_X12_35 (pc := 8) rfl dX12_takes_8 ?_
    refine r_iload_n (pc := 11) dX12_takes_11 rfl ?_
    refine r_aload_n (pc := 12) dX12_takes_12 rfl ?_
    refine h_X12_7 (pc := 13) rfl dX12_takes_13 ?_
    refine r_iload_n (pc := 16) dX12_takes_16 rfl ?_
    refine r_iconst (pc := 17) (n := 4) dX12_takes_17 ?_
    refine r_bipush (pc := 18) (n := 24) dX12_takes_18 (by decide) ?_
    refine r_iload_n (pc := 20) dX12_takes_20 rfl ?_
    refine r_imul (pc := 21) dX12_takes_21 ?_
    refine r_iadd (pc := 22) dX12_takes_22 ?_
    refine r_iload_n (pc := 23) dX12_takes_23 rfl ?_
    refine c_X12_70 (pc := 24) rfl dX12_takes_24 (by omega) (Nat.le_of_ble_eq_true rfl) ?_
    refine m_X12_at (d - 1) (by omega) (by assumption)  (fun r24 e24 => ?_)
    subst e24
    refine f_iald (pc := 27) dX12_takes_27 (n := 660) (by assumption) (by first | assumption | rfl) (by omega) (by omega) (by omega) (fun h27 => ?_)
    rw [hf 386 (by omega)]
    have RR : R32 (w 386 (128 * q + (4 + 24 * i) + k)) := hw _ _
    refine f_iast (pc := 28) dX12_takes_28 (n := 5) (by assumption) (by first | assumption | rfl) (by omega) (by omega) (by omega) (by omega) (fun hw28 => ?_)
    refine r_iinc3 (pc := 29) dX12_takes_29 rfl ?_
    refine r_goto (pc := 32) (tgt := 2) dX12_takes_32 rfl ?_
    exact ih _ (by omega) (i + 1) _ rfl (by omega) (fun p hp => by rw [up_ne hp]; exact hf p hp) (fun j j0 j1 => by
      by_cases z : j = i
      · rw [z, up_hit]
      · rw [up_off (by omega)]; exact hv j j0 (by omega)) (by assumption)
  refine r_iconst (pc := 0) (n := 0) dX12_takes_0 ?_
  refine r_istore3 (pc := 1) dX12_takes_1 rfl ?_
  exact loop2 _ 0 w rfl (by omega) (fun _ _ => rfl) (fun j j0 j1 => by omega) (by assumption)
set_option maxRecDepth 8000 in
theorem m_X12_gives {Q : Option AV → Wd → Prop} {w : Wd} (d : Nat) {q k : Int} {X : CP} (hd : 3 ≤ d) (hw : WR w) (hq : 0 ≤ q ∧ q ≤ 3) (hI : CI X) (hk : 0 ≤ k ∧ k < X 0 0) (hX : CEQ (mx w q) (delX X k)) (a0 : w 394 0 = X 1 k) (a1 : w 394 1 = X 2 k) (a2 : w 394 2 = X 3 k) (a3 : w 394 3 = X 4 k) (a4 : w 394 4 = X 5 k) (hQ : ∀ w2, FQ q w w2 → CEQ (mx w2 q) X → WR w2 → Q none w2) : M mX12_gives (Rm d) [vR (some 385), vI q] (fl w) (lQ Q) := by
  have P := hI.2.1 k hk.1 hk.2
  have CD := (CI_del hI hk).eq hX.sy
  have nX := hX.1
  rw [delX_n] at nX
  have hn := hI.1
  refine f_mofv (L0 := [some (vR (some 385)), some (vI q), none]) rfl (Nat.le_of_ble_eq_true rfl) rfl ?_
  refine r_aload_n (pc := 0) dX12_gives_0 rfl ?_
  refine r_iload_n (pc := 1) dX12_gives_1 rfl ?_
  refine r_aload_n (pc := 2) dX12_gives_2 rfl ?_
  refine h_X12_35 (pc := 3) rfl dX12_gives_3 ?_
  refine r_iconst (pc := 6) (n := 0) dX12_gives_6 ?_
  refine f_iald (pc := 7) dX12_gives_7 (n := 5) (by assumption) (by first | assumption | rfl) (by omega) (by omega) (by omega) (fun h7 => ?_)
  rw [a0]
  refine r_aload_n (pc := 8) dX12_gives_8 rfl ?_
  refine h_X12_35 (pc := 9) rfl dX12_gives_9 ?_
  refine r_iconst (pc := 12) (n := 1) dX12_gives_12 ?_
  refine f_iald (pc := 13) dX12_gives_13 (n := 5) (by assumption) (by first | assumption | rfl) (by omega) (by omega) (by omega) (fun h13 => ?_)
  rw [a1]
  refine r_aload_n (pc := 14) dX12_gives_14 rfl ?_
  refine h_X12_35 (pc := 15) rfl dX12_gives_15 ?_
  refine r_iconst (pc := 18) (n := 2) dX12_gives_18 ?_
  refine f_iald (pc := 19) dX12_gives_19 (n := 5) (by assumption) (by first | assumption | rfl) (by omega) (by omega) (by omega) (fun h19 => ?_)
  rw [a2]
  refine r_aload_n (pc := 20) dX12_gives_20 rfl ?_
  refine h_X12_35 (pc := 21) rfl dX12_gives_21 ?_
  refine r_iconst (pc := 24) (n := 3) dX12_gives_24 ?_
  refine f_iald (pc := 25) dX12_gives_25 (n := 5) (by assumption) (by first | assumption | rfl) (by omega) (by omega) (by omega) (fun h25 => ?_)
  rw [a3]
  refine r_aload_n (pc := 26) dX12_gives_26 rfl ?_
  refine h_X12_35 (pc := 27) rfl dX12_gives_27 ?_
  refine r_iconst (pc := 30) (n := 4) dX12_gives_30 ?_
  refine f_iald (pc := 31) dX12_gives_31 (n := 5) (by assumption) (by first | assumption | rfl) (by omega) (by omega) (by omega) (fun h31 => ?_)
  rw [a4]
  refine c_X12_149 (pc := 32) rfl dX12_gives_32 (by first | assumption | rfl) (by omega) (Nat.le_of_ble_eq_true rfl) ?_
  refine m_X12_inserts (d - 1) (by omega) (by assumption) hq CD (by omega) (fun j j0 j1 e => ?_) (by omega) (by omega) (by omega) (by omega) (by omega) (fun k32 w32 b32 f32 e32 hw32 => ?_)
  · rw [hX.row (by omega) (by omega) j0 j1] at e
    rcases Int.lt_or_le j k with z | z
    · rw [delX_lt (by omega) z] at e
      have := hI.2.2.1 j k j0 z hk.2
      omega
    · rw [delX_ge (by omega) z] at e
      have := hI.2.2.1 k (j + 1) hk.1 (by omega) (by omega)
      omega
  refine r_istore2 (pc := 35) dX12_gives_35 rfl ?_
  exact f_vret (pc := 36) dX12_gives_36 rfl (by assumption) (hQ _ f32 (e32.tr ((insX_cg hX _ ⟨b32.1, b32.2.1⟩).tr (del_back hI hk (KB_cg2 hX b32)))) (by assumption))
