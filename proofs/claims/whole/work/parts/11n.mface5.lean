/-! the model's calls, on: polylines, texts -/
theorem MOG_txt {G : GS} {w w2 : Wd} {len : Int} {T : Int → Int} (h : MOG G w) (f : w2 386 = w 386) (f2 : w2 387 = w 387) (e : w2 385 2 = w 385 2) (e2 : w2 385 4 = len) (e3 : ∀ j, 0 ≤ j → j < len → w2 388 j = T j) : MOG (setT G len T) w2 := by
  obtain ⟨h1, h2, h3, h4, h5⟩ := h
  exact ⟨by rw [f]; exact h1, e.trans h2, by rw [f2]; exact h3, e2, e3⟩
theorem FRF.mo {G : GS} {w w2 : Wd} (h : MOG G w) (f : FRF w w2) : MOG G w2 := MOG_kp h (f.1 _ (by omega) (by omega)) (f.1 _ (by omega) (by omega)) (f.1 _ (by omega) (by omega)) (f.2 2 (by omega) (by omega) (by omega) (by omega)) (f.2 4 (by omega) (by omega) (by omega) (by omega))
theorem MOG_frm {G : GS} {w w2 : Wd} {T : Int → Int} {len q : Int} {e : EE} (h : MOG G w) (f : ∀ p, p ≠ 386 → w2 p = w p) (f2 : ∀ j, j < 530 → w2 386 j = w 386 j) (hp : prsS T len = .inr (q, e)) (hl : 0 ≤ len ∧ len ≤ 120) (e1 : w2 386 530 = len) (e2 : ∀ j, 0 ≤ j → j < len → w2 386 (531 + j) = T j) (hG : GOK G) : MOG (setF G e) w2 := by
  obtain ⟨⟨h1, g2, g3, -⟩, h2, h3, h4, h5⟩ := h
  have n8 := hG.1.1.2.1
  refine ⟨⟨fun q a b => ?_, by rw [f2 _ (by omega)]; exact g2, fun j a b => ?_, T, len, q, hp, e1, hl, e2⟩, by rw [f 385 (by omega)]; exact h2, by rw [f 387 (by omega)]; exact h3, by rw [f 385 (by omega)]; exact h4, by rw [f 388 (by omega)]; exact h5⟩
  · have E := (mx_kp (w := w) (w2 := w2) (q := q) (fun j u v => f2 j (by omega))).ceq (h1 q a b).2.1.2
    exact ⟨(h1 q a b).1.tr E.v, (h1 q a b).2.eq E⟩
  · have b : j < G.now.n := b
    rw [f2 _ (by omega), f2 _ (by omega)]
    exact g3 j a b
theorem rd_take {L : List K3} {k : Nat} {x : K3} (h : L[k]? = some x) : L.take (k + 1) = L.take k ++ [x] := by
  rw [List.take_succ, h]; rfl
theorem rd_takeg {L : List K3} {k i : Nat} (h : i < k) : (L.take k)[i]? = L[i]? := by
  rw [List.getElem?_take, if_pos h]
theorem rd_step {X Y : CP} {L : List K3} {k : Nat} {x : K3} {kk : Int} (e : CEQ (rdX X (L.take k)) Y) (hk : k < L.length) (hx : L[k]? = some x) (ok : okL L) (hb : KB (Y 0 0) (Y 1) x.1 kk) : CEQ (rdX X (L.take (k + 1))) (insX Y kk (v5 x.1 x.2.1 x.2.2 0 0)) := by
  have lt : (L.take k).length = k := by rw [List.length_take]; omega
  have n : Y 0 0 = k := by
    have := e.1
    rw [rdX_n, lt] at this
    omega
  have R : ∀ (i : Nat) (y : K3), i < k → L[i]? = some y → Y 1 i = y.1 ∧ Y 2 i = y.2.1 ∧ Y 3 i = y.2.2 ∧ Y 4 i = 0 ∧ Y 5 i = 0 := fun i y hi hy => by
    have g : (L.take k)[i]? = some y := (rd_takeg hi).trans hy
    have q := fun r (h : 1 ≤ r) (h5 : r ≤ 5) => (e.row (r := r) (j := (i : Int)) h h5 (by omega) (by rw [rdX_n, lt]; omega)).symm.trans (rdX_r h g)
    exact ⟨q 1 (by omega) (by omega), q 2 (by omega) (by omega), q 3 (by omega) (by omega), q 4 (by omega) (by omega), q 5 (by omega) (by omega)⟩
  have ek : kk = k := by
    refine KB_one hb ⟨by omega, by omega, fun j j0 j1 => ?_, fun z => by omega⟩
    obtain ⟨y, hy⟩ := rd_get (L := L) (j := j) j0 (by omega)
    have r := (R j.toNat y (by omega) hy).1
    rw [show ((j.toNat : Nat) : Int) = j by omega] at r
    rw [r]
    exact ok.2 _ _ _ _ (by omega) hy hx
  subst ek
  rw [rd_take hx]
  refine rd_ceq (by rw [insX_n, List.length_append, lt, n]; simp) (by rw [insX_0 (by omega), ← e.2.1, rdX_e (by omega)]) (by rw [insX_0 (by omega), ← e.2.2.1, rdX_e (by omega)]) (fun i y hy => ?_)
  rcases Nat.lt_trichotomy i k with z | z | z
  · have g : L[i]? = some y := by
      rw [List.getElem?_append_left (by omega), rd_takeg z] at hy
      exact hy
    rw [insX_lt (by omega) (by omega), insX_lt (by omega) (by omega), insX_lt (by omega) (by omega), insX_lt (by omega) (by omega), insX_lt (by omega) (by omega)]
    exact R i y z g
  · subst z
    rw [List.getElem?_append_right (by omega), lt, Nat.sub_self] at hy
    have hy : x = y := by simpa using hy
    subst hy
    rw [insX_eq (by omega), insX_eq (by omega), insX_eq (by omega), insX_eq (by omega), insX_eq (by omega)]
    exact ⟨rfl, rfl, rfl, rfl, rfl⟩
  · rw [List.getElem?_eq_none (by rw [List.length_append, lt]; simp; omega)] at hy
    cases hy
theorem okL_take {L : List K3} (h : okL L) (k : Nat) : okL (L.take k) := by
  have g : ∀ (i : Nat) (x : K3), (L.take k)[i]? = some x → L[i]? = some x ∧ i < k := fun i x hx => by
    by_cases z : i < k
    · rw [rd_takeg z] at hx; exact ⟨hx, z⟩
    · rw [List.getElem?_take, if_neg z] at hx; cases hx
  refine ⟨fun i x hx => ?_, fun i j x y hij hx hy => h.2 i j x y hij (g i x hx).1 (g j y hy).1⟩
  have b := h.1 i x (g i x hx).1
  refine ⟨b.1, b.2.1, b.2.2.1, b.2.2.2.1, b.2.2.2.2.1, b.2.2.2.2.2.1, ?_⟩
  have li : i < (L.take k).length := by
    rcases Nat.lt_or_ge i (L.take k).length with z | z
    · exact z
    · rw [List.getElem?_eq_none z] at hx; cases hx
  obtain ⟨y, hy⟩ : ∃ y, (L.take k)[(L.take k).length - 1]? = some y := ⟨(L.take k)[(L.take k).length - 1]'(by omega), List.getElem?_eq_getElem (by omega)⟩
  rw [lastF_i hy (by omega)]
  by_cases z : i = (L.take k).length - 1
  · rw [z, hy] at hx
    have := Option.some.inj hx
    rw [this]; exact Int.le_refl _
  · have := h.2 i _ x y (show i < (L.take k).length - 1 by omega) (g i x hx).1 (g _ y hy).1
    omega
set_option maxRecDepth 8000 in
theorem y_polyline {Q : Option AV → Wd → Prop} {w : Wd} (d : Nat) {G : GS} {q a b t i : Int} (hd : 10 ≤ d) (hw : WR w) (hG : GOK G) (hC : MOG G w) (rq : R32 q) (ra : R32 a) (rb : R32 b) (rt : R32 t) (ri : R32 i) (hQ : ∀ r w2, r = o_polyline G q a b t i → MOG G w2 → FRH w w2 → WR w2 → Q (some (vI r)) w2) : M mX12_polyline (Rm d) [vR (some 385), vI q, vI a, vI b, vI t, vI i] (fl w) (lQ Q) := by
  have hp := MOG.hp hG hC
  have hG2 := GOK_rec hG
  refine f_mofv (L0 := [some (vR (some 385)), some (vI q), some (vI a), some (vI b), some (vI t), some (vI i), none, none]) rfl (Nat.le_of_ble_eq_true rfl) rfl ?_
  have loop145 : (0 ≤ q ∧ q ≤ 3) → CI (mx w q) → ((0 ≤ a ∧ a ≤ 960) ∧ (a + 1 ≤ b ∧ b ≤ a + 40 ∧ b ≤ 960) ∧ (0 ≤ t ∧ t ≤ 9999) ∧ -1 ≤ i) → mx w q 0 0 ≠ 0 → ∀ w2 : Wd, PLK w2 391 392 393 (fun j => valS (mx w q) (a + j)) t (b - a) (b - a).toNat → (∀ p, (p < 390 ∨ 393 < p) → w2 p = w p) → WR w2 → 0 ≤ i → i < (plT (fun j => valS (mx w q) (a + j)) t (b - a) (b - a).toNat).1 0 → ∀ n0 : Nat, ∀ k : Nat, (i - k).toNat = n0 → (k : Int) ≤ i → ∀ y : Int, y = itN (plT (fun j => valS (mx w q) (a + j)) t (b - a) (b - a).toNat).2.2 k → V mX12_polyline (Rm d) 0 0 145 [some (vR (some 385)), some (vI q), some (vI a), some (vI b), some (vI t), some (vI i), some (vI y), some (vI k)] [] (fl w2) (lQ Q) := by
    intro hq I0 hab hz
    have CV := hC.cv hq
    have iq : inC q := hq
    have eN : G.now.c q 0 0 = mx w q 0 0 := CV.1
    have hn : 0 ≤ mx w q 0 0 ∧ mx w q 0 0 ≤ 24 := I0.1
    intro w2 P2 F2 hw2 i0 iF
    have PO : o_polyline G q a b t i = plS (fun j => valS (mx w q) (a + j)) t (b - a) i a := by
      unfold o_polyline
      rw [if_neg (fun z => z iq), if_neg (by omega), if_neg (by omega)]
      exact (plS_cg I0 CV.sy a t (b - a) i).symm
    have TB := plT_bd (s := (fun j => valS (mx w q) (a + j))) (t := t) (n := b - a) (by omega) (by omega) (b - a).toNat (by omega)
    have IT := itN_in (s := (fun j => valS (mx w q) (a + j))) (t := t) (n := b - a) (by omega) (by omega)
    refine ind_lt ?_
    intro n0 ih k hm hk y hy
    refine r_iload (pc := 145) dX12_polyline_145 rfl ?_
    refine r_iload (pc := 147) dX12_polyline_147 rfl ?_
    refine r_icmpge (pc := 149) (tgt := 167) dX12_polyline_149 rfl (by omega) (by omega) (fun h149 => ?_) (fun h149 => ?_)
    · refine r_iload_n (pc := 167) dX12_polyline_167 rfl ?_
      refine r_iload (pc := 168) dX12_polyline_168 rfl ?_
      refine r_iadd (pc := 170) dX12_polyline_170 ?_
      exact f_iret (pc := 171) dX12_polyline_171 rfl (by assumption) (hQ _ _ (by rw [PO, hy]; unfold plS; rw [if_neg (by omega), if_neg (by omega), show k = i.toNat by omega]) (MOG_kp hC (F2 _ (by omega)) (F2 _ (by omega)) (F2 _ (by omega)) (by rw [F2 _ (by omega)]) (by rw [F2 _ (by omega)])) (fun p e => F2 p (by omega)) (by assumption))
    refine r_aload_n (pc := 152) dX12_polyline_152 rfl ?_
    refine h_X12_32 (pc := 153) rfl dX12_polyline_153 ?_
    refine r_iload (pc := 156) dX12_polyline_156 rfl ?_
    have Ii := IT k (by omega)
    have yl : y < b - a := by
      rcases Int.lt_or_le y (b - a) with z | z
      · exact z
      · rw [← hy, show y = b - a by omega, TB.2.2] at Ii
        omega
    have Pz := P2 y (by omega) (by omega)
    refine f_iald (pc := 158) dX12_polyline_158 (n := 41) (by assumption) (by first | assumption | rfl) (by omega) (by omega) (by omega) (fun h158 => ?_)
    refine r_istore6 (pc := 159) dX12_polyline_159 rfl ?_
    refine r_iinc7 (pc := 161) dX12_polyline_161 rfl ?_
    refine r_goto (pc := 164) (tgt := 145) dX12_polyline_164 rfl ?_
    exact ih _ (by omega) (k + 1) rfl (by omega) _ (by rw [Pz.2.2 yl]; rw [hy]; rfl)
  have loop76 : (0 ≤ q ∧ q ≤ 3) → CI (mx w q) → ((0 ≤ a ∧ a ≤ 960) ∧ (a + 1 ≤ b ∧ b ≤ a + 40 ∧ b ≤ 960) ∧ (0 ≤ t ∧ t ≤ 9999) ∧ -1 ≤ i) → mx w q 0 0 ≠ 0 → ∀ n0 : Nat, ∀ m : Nat, (b - a + 1 - m).toNat = n0 → (m : Int) ≤ b - a + 1 → ∀ (w1 : Wd) (f : Int) (o7 : Option AV), f = a + m → (∀ j : Int, 0 ≤ j → j < m → w1 390 j = valS (mx w q) (a + j)) → (∀ p, p ≠ 390 → w1 p = w p) → WR w1 → V mX12_polyline (Rm d) 0 0 76 [some (vR (some 385)), some (vI q), some (vI a), some (vI b), some (vI t), some (vI i), some (vI f), o7] [] (fl w1) (lQ Q) := by
    intro hq I0 hab hz
    have CV := hC.cv hq
    have iq : inC q := hq
    have eN : G.now.c q 0 0 = mx w q 0 0 := CV.1
    have hn : 0 ≤ mx w q 0 0 ∧ mx w q 0 0 ≤ 24 := I0.1
    refine ind_lt ?_
    intro n0 ih m hm hmb w1 f o7 hf hv hf1 hw1
    have X1 : mx w1 q = mx w q := by unfold mx; rw [hf1 386 (by omega)]
    have PO : o_polyline G q a b t i = plS (fun j => valS (mx w q) (a + j)) t (b - a) i a := by
      unfold o_polyline
      rw [if_neg (fun z => z iq), if_neg (by omega), if_neg (by omega)]
      exact (plS_cg I0 CV.sy a t (b - a) i).symm
    refine r_iload (pc := 76) dX12_polyline_76 rfl ?_
    refine r_iload_n (pc := 78) dX12_polyline_78 rfl ?_
    refine r_icmpgt (pc := 79) (tgt := 104) dX12_polyline_79 rfl (by omega) (by omega) (fun h79 => ?_) (fun h79 => ?_)
    · refine r_aload_n (pc := 104) dX12_polyline_104 rfl ?_
      refine r_iload_n (pc := 105) dX12_polyline_105 rfl ?_
      refine r_iload_n (pc := 106) dX12_polyline_106 rfl ?_
      refine r_isub (pc := 107) dX12_polyline_107 ?_
      refine r_iload (pc := 108) dX12_polyline_108 rfl ?_
      refine c_X12_193 (pc := 110) rfl dX12_polyline_110 (by first | assumption | rfl) (by omega) (Nat.le_of_ble_eq_true rfl) ?_
      refine m_X12_lines (s := (fun j => valS (mx w q) (a + j))) (d - 1) (by omega) (by assumption) (fun j j0 j1 => ⟨hv j j0 (by omega), valS_bd I0 (by omega)⟩) (by omega) (by omega) (by omega) (fun w110 P110 f110 hw110 => ?_)
      have F110 : ∀ p, (p < 390 ∨ 393 < p) → w110 p = w p := fun p e => by rw [f110 p (by omega)]; exact hf1 p (by omega)
      have C110 : MOG G w110 := MOG_kp hC (F110 _ (by omega)) (F110 _ (by omega)) (F110 _ (by omega)) (by rw [F110 _ (by omega)]) (by rw [F110 _ (by omega)])
      have FL110 : FRH w w110 := fun p e => F110 p (by omega)
      have S110 := (P110 0 (by omega) (by omega)).1
      refine r_iload (pc := 113) dX12_polyline_113 rfl ?_
      refine r_ifge (pc := 115) (tgt := 125) dX12_polyline_115 rfl (by omega) (fun h115 => ?_) (fun h115 => ?_)
      · refine r_iload (pc := 125) dX12_polyline_125 rfl ?_
        refine r_aload_n (pc := 127) dX12_polyline_127 rfl ?_
        refine h_X12_25 (pc := 128) rfl dX12_polyline_128 ?_
        refine r_iconst (pc := 131) (n := 0) dX12_polyline_131 ?_
        refine f_iald (pc := 132) dX12_polyline_132 (n := 41) (by assumption) (by first | assumption | rfl) (by omega) (by omega) (by omega) (fun h132 => ?_)
        rw [S110] at h132 ⊢
        refine r_icmplt (pc := 133) (tgt := 139) dX12_polyline_133 rfl (by omega) (by omega) (fun h133 => ?_) (fun h133 => ?_)
        · refine r_iconst (pc := 139) (n := 0) dX12_polyline_139 ?_
          refine r_istore6 (pc := 140) dX12_polyline_140 rfl ?_
          refine r_iconst (pc := 142) (n := 0) dX12_polyline_142 ?_
          refine r_istore7 (pc := 143) dX12_polyline_143 rfl ?_
          exact loop145 hq I0 hab hz w110 P110 F110 (by assumption) (by omega) (by omega) _ 0 rfl (by omega) _ rfl
        refine r_ldc (pc := 136) (n := -1000000005) dX12_polyline_136 kw_X12_90 rfl ?_
        exact f_iret (pc := 138) dX12_polyline_138 rfl (by assumption) (hQ _ _ (by rw [PO]; unfold plS; rw [if_neg (by omega), if_pos (by omega)]) C110 FL110 (by assumption))
      refine r_aload_n (pc := 118) dX12_polyline_118 rfl ?_
      refine h_X12_25 (pc := 119) rfl dX12_polyline_119 ?_
      refine r_iconst (pc := 122) (n := 0) dX12_polyline_122 ?_
      refine f_iald (pc := 123) dX12_polyline_123 (n := 41) (by assumption) (by first | assumption | rfl) (by omega) (by omega) (by omega) (fun h123 => ?_)
      rw [S110]
      exact f_iret (pc := 124) dX12_polyline_124 rfl (by assumption) (hQ _ _ (by rw [PO]; unfold plS; rw [if_pos (by omega)]) C110 FL110 (by assumption))
    refine r_aload_n (pc := 82) dX12_polyline_82 rfl ?_
    refine h_X12_22 (pc := 83) rfl dX12_polyline_83 ?_
    refine r_iload (pc := 86) dX12_polyline_86 rfl ?_
    refine r_iload_n (pc := 88) dX12_polyline_88 rfl ?_
    refine r_isub (pc := 89) dX12_polyline_89 ?_
    refine r_aload_n (pc := 90) dX12_polyline_90 rfl ?_
    refine r_iload_n (pc := 91) dX12_polyline_91 rfl ?_
    refine r_iload (pc := 92) dX12_polyline_92 rfl ?_
    refine c_X12_133 (pc := 94) rfl dX12_polyline_94 (by first | assumption | rfl) (by omega) (Nat.le_of_ble_eq_true rfl) ?_
    refine m_X12_valueAt (d - 1) (by omega) (by assumption) hq (by rw [X1]; exact I0) (by rw [X1]; omega) (by omega) (fun r94 e94 b94 => ?_)
    rw [X1] at e94
    refine f_iast (pc := 97) dX12_polyline_97 (n := 41) (by assumption) (by first | assumption | rfl) (by omega) (by omega) (by omega) (by omega) (fun hw97 => ?_)
    refine r_iinc6 (pc := 98) dX12_polyline_98 rfl ?_
    refine r_goto (pc := 101) (tgt := 76) dX12_polyline_101 rfl ?_
    exact ih _ (by omega) (m + 1) rfl (by omega) _ _ _ (by omega) (fun j j0 j1 => by
      by_cases z : j = m
      · rw [z, show (m : Int) = f - a by omega, up_hit, e94, show a + (f - a) = f by omega]
      · rw [up_off (by omega)]; exact hv j j0 (by omega)) (fun p e => by rw [up_ne e]; exact hf1 p e) (by assumption)
  refine r_iload_n (pc := 0) dX12_polyline_0 rfl ?_
  refine c_X12_74 (pc := 1) rfl dX12_polyline_1 (by omega) (Nat.le_of_ble_eq_true rfl) ?_
  refine m_X12_isCurve (d - 1) (by omega) (by assumption) (by omega) (fun r1 e1 b1 => ?_)
  have i1 := b2i_i e1
  refine r_ifne (pc := 4) (tgt := 10) dX12_polyline_4 rfl (by omega) (fun h4 => ?_) (fun h4 => ?_)
  · have hq : 0 ≤ q ∧ q ≤ 3 := by omega
    have iq : inC q := hq
    have CV := hC.cv hq
    have I0 := hC.ci hq
    have hn : 0 ≤ mx w q 0 0 ∧ mx w q 0 0 ≤ 24 := I0.1
    have eN : G.now.c q 0 0 = mx w q 0 0 := CV.1
    refine r_iload_n (pc := 10) dX12_polyline_10 rfl ?_
    refine r_iconst (pc := 11) (n := 0) dX12_polyline_11 ?_
    refine r_sipush (pc := 12) (n := 960) dX12_polyline_12 (by decide) ?_
    refine c_X12_66 (pc := 15) rfl dX12_polyline_15 (by omega) (Nat.le_of_ble_eq_true rfl) ?_
    refine m_X12_in (d - 1) (by omega) (by assumption) (by omega) (by omega) (by omega) (fun r15 e15 b15 => ?_)
    have i15 := b2i_i e15
    refine r_ifeq (pc := 18) (tgt := 59) dX12_polyline_18 rfl (by omega) (fun h18 => ?_) (fun h18 => ?_)
    · refine r_ldc (pc := 59) (n := -1000000002) dX12_polyline_59 kw_X12_132 rfl ?_
      exact f_iret (pc := 61) dX12_polyline_61 rfl (by assumption) (hQ _ w (by unfold o_polyline; rw [if_neg (fun z => z iq), if_pos (by omega)]) hC (FRH.rf w) (by assumption))
    refine r_iload_n (pc := 21) dX12_polyline_21 rfl ?_
    refine r_iload_n (pc := 22) dX12_polyline_22 rfl ?_
    refine r_iconst (pc := 23) (n := 1) dX12_polyline_23 ?_
    refine r_iadd (pc := 24) dX12_polyline_24 ?_
    refine r_iload_n (pc := 25) dX12_polyline_25 rfl ?_
    refine r_bipush (pc := 26) (n := 40) dX12_polyline_26 (by decide) ?_
    refine r_iadd (pc := 28) dX12_polyline_28 ?_
    refine r_sipush (pc := 29) (n := 960) dX12_polyline_29 (by decide) ?_
    refine c_X12_105 (pc := 32) rfl dX12_polyline_32 (by omega) (Nat.le_of_ble_eq_true rfl) ?_
    refine m_X12_least (d - 1) (by omega) (by assumption) (by omega) (by omega) (fun r32 e32 b32 => ?_)
    refine c_X12_66 (pc := 35) rfl dX12_polyline_35 (by omega) (Nat.le_of_ble_eq_true rfl) ?_
    refine m_X12_in (d - 1) (by omega) (by assumption) (by omega) (by omega) (by omega) (fun r35 e35 b35 => ?_)
    have i35 := b2i_i e35
    refine r_ifeq (pc := 38) (tgt := 59) dX12_polyline_38 rfl (by omega) (fun h38 => ?_) (fun h38 => ?_)
    · refine r_ldc (pc := 59) (n := -1000000002) dX12_polyline_59 kw_X12_132 rfl ?_
      exact f_iret (pc := 61) dX12_polyline_61 rfl (by assumption) (hQ _ w (by unfold o_polyline; rw [if_neg (fun z => z iq), if_pos (by omega)]) hC (FRH.rf w) (by assumption))
    refine r_iload (pc := 41) dX12_polyline_41 rfl ?_
    refine r_iconst (pc := 43) (n := 0) dX12_polyline_43 ?_
    refine r_sipush (pc := 44) (n := 9999) dX12_polyline_44 (by decide) ?_
    refine c_X12_66 (pc := 47) rfl dX12_polyline_47 (by omega) (Nat.le_of_ble_eq_true rfl) ?_
    refine m_X12_in (d - 1) (by omega) (by assumption) (by omega) (by omega) (by omega) (fun r47 e47 b47 => ?_)
    have i47 := b2i_i e47
    refine r_ifeq (pc := 50) (tgt := 59) dX12_polyline_50 rfl (by omega) (fun h50 => ?_) (fun h50 => ?_)
    · refine r_ldc (pc := 59) (n := -1000000002) dX12_polyline_59 kw_X12_132 rfl ?_
      exact f_iret (pc := 61) dX12_polyline_61 rfl (by assumption) (hQ _ w (by unfold o_polyline; rw [if_neg (fun z => z iq), if_pos (by omega)]) hC (FRH.rf w) (by assumption))
    refine r_iload (pc := 53) dX12_polyline_53 rfl ?_
    refine r_iconst (pc := 55) (n := (-1)) dX12_polyline_55 ?_
    refine r_icmpge (pc := 56) (tgt := 62) dX12_polyline_56 rfl (by omega) (by omega) (fun h56 => ?_) (fun h56 => ?_)
    · refine r_aload_n (pc := 62) dX12_polyline_62 rfl ?_
      refine r_iload_n (pc := 63) dX12_polyline_63 rfl ?_
      refine c_X12_78 (pc := 64) rfl dX12_polyline_64 (by first | assumption | rfl) (by omega) (Nat.le_of_ble_eq_true rfl) ?_
      refine m_X12_many (d - 1) (by omega) (by assumption) hq (fun r64 e64 b64 => ?_)
      subst e64
      refine r_ifne (pc := 67) (tgt := 73) dX12_polyline_67 rfl (by omega) (fun h67 => ?_) (fun h67 => ?_)
      · refine r_iload_n (pc := 73) dX12_polyline_73 rfl ?_
        refine r_istore6 (pc := 74) dX12_polyline_74 rfl ?_
        exact loop76 hq I0 (by omega) (by omega) _ 0 rfl (by omega) w _ _ (by omega) (fun j a b => by omega) (fun _ _ => rfl) (by assumption)
      refine r_ldc (pc := 70) (n := -1000000004) dX12_polyline_70 kw_X12_157 rfl ?_
      exact f_iret (pc := 72) dX12_polyline_72 rfl (by assumption) (hQ _ w (by unfold o_polyline; rw [if_neg (fun z => z iq), if_neg (by omega), if_pos (by omega)]) hC (FRH.rf w) (by assumption))
    refine r_ldc (pc := 59) (n := -1000000002) dX12_polyline_59 kw_X12_132 rfl ?_
    exact f_iret (pc := 61) dX12_polyline_61 rfl (by assumption) (hQ _ w (by unfold o_polyline; rw [if_neg (fun z => z iq), if_pos (by omega)]) hC (FRH.rf w) (by assumption))
  refine r_ldc (pc := 7) (n := -1000000001) dX12_polyline_7 kw_X12_131 rfl ?_
  exact f_iret (pc := 9) dX12_polyline_9 rfl (by assumption) (hQ _ w (by unfold o_polyline; rw [if_pos (fun z => by have z : 0 ≤ q ∧ q ≤ 3 := z; omega)]) hC (FRH.rf w) (by assumption))
set_option maxRecDepth 8000 in
theorem y_append {Q : Option AV → Wd → Prop} {w : Wd} (d : Nat) {G : GS} {l : Int} (hd : 3 ≤ d) (hw : WR w) (hG : GOK G) (hC : MOG G w) (rl : R32 l) (hQ : ∀ r w2, r = (o_append G l).1 → MOG (o_append G l).2 w2 → FRH w w2 → WR w2 → Q (some (vI r)) w2) : M mX12_append (Rm d) [vR (some 385), vI l] (fl w) (lQ Q) := by
  have hp := MOG.hp hG hC
  have hG2 := GOK_rec hG
  have el : w 385 4 = G.len := hC.2.2.2.1
  have eT := hC.2.2.2.2
  have bl := hG.2.2.2
  refine f_mofv (L0 := [some (vR (some 385)), some (vI l)]) rfl (Nat.le_of_ble_eq_true rfl) rfl ?_
  refine r_iload_n (pc := 0) dX12_append_0 rfl ?_
  refine r_iconst (pc := 1) (n := 0) dX12_append_1 ?_
  refine r_bipush (pc := 2) (n := 127) dX12_append_2 (by decide) ?_
  refine c_X12_66 (pc := 4) rfl dX12_append_4 (by omega) (Nat.le_of_ble_eq_true rfl) ?_
  refine m_X12_in (d - 1) (by omega) (by assumption) (by omega) (by omega) (by omega) (fun r4 e4 b4 => ?_)
  have i4 := b2i_i e4
  refine r_ifne (pc := 7) (tgt := 13) dX12_append_7 rfl (by omega) (fun h7 => ?_) (fun h7 => ?_)
  · refine r_aload_n (pc := 13) dX12_append_13 rfl ?_
    refine h_X12_206 (pc := 14) rfl dX12_append_14 (by assumption) (fun h14 => ?_)
    refine r_bipush (pc := 17) (n := 120) dX12_append_17 (by decide) ?_
    refine r_icmpne (pc := 19) (tgt := 25) dX12_append_19 rfl (by omega) (by omega) (fun h19 => ?_) (fun h19 => ?_)
    · refine r_aload_n (pc := 25) dX12_append_25 rfl ?_
      refine h_X12_16 (pc := 26) rfl dX12_append_26 ?_
      refine r_aload_n (pc := 29) dX12_append_29 rfl ?_
      refine h_X12_206 (pc := 30) rfl dX12_append_30 (by assumption) (fun h30 => ?_)
      refine r_iload_n (pc := 33) dX12_append_33 rfl ?_
      refine f_iast (pc := 34) dX12_append_34 (n := 120) (by assumption) (by first | assumption | rfl) (by omega) (by omega) (by omega) (by omega) (fun hw34 => ?_)
      refine r_aload_n (pc := 35) dX12_append_35 rfl ?_
      refine r_dup (pc := 36) dX12_append_36 rfl ?_
      refine h_X12_206 (pc := 37) rfl dX12_append_37 (by assumption) (fun h37 => ?_)
      refine r_iconst (pc := 40) (n := 1) dX12_append_40 ?_
      refine r_iadd (pc := 41) dX12_append_41 ?_
      have n37 : (up w 388 (w 385 4) l) 385 4 = G.len := by rw [up_ne (by omega)]; exact el
      refine ph_X12_206 (pc := 42) rfl dX12_append_42 (by assumption) (by omega) (fun hw42 => ?_)
      refine r_aload_n (pc := 45) dX12_append_45 rfl ?_
      refine h_X12_206 (pc := 46) rfl dX12_append_46 (by assumption) (fun h46 => ?_)
      have o : o_append G l = (G.len + 1, setT G (G.len + 1) (updI G.T G.len l)) := by
        unfold o_append
        rw [if_neg (by omega), if_neg (by omega)]
      have C49 : MOG (setT G (G.len + 1) (updI G.T G.len l)) (up (up w 388 (w 385 4) l) 385 4 ((up w 388 (w 385 4) l) 385 4 + 1)) := MOG_txt hC (by rw [up_ne (by omega), up_ne (by omega)]) (by rw [up_ne (by omega), up_ne (by omega)]) (by rw [up_off (by omega), up_ne (by omega)]) (by rw [up_hit, n37]) (fun j j0 j1 => by
        rw [up_ne (by omega), el]
        unfold updI
        by_cases z : j = G.len
        · rw [if_pos z, z, up_hit]
        · rw [if_neg z, up_off (by omega)]; exact eT j j0 (by omega))
      exact f_iret (pc := 49) dX12_append_49 rfl (by assumption) (hQ _ _ (fst_m o (by rw [up_hit, n37])) (snd_m o C49) (fun p e => by rw [up_ne (by omega), up_ne (by omega)]) (by assumption))
    have o : o_append G l = (-1000000003, G) := by
      unfold o_append
      rw [if_neg (by omega), if_pos (by omega)]
    refine r_ldc (pc := 22) (n := -1000000003) dX12_append_22 kw_X12_145 rfl ?_
    exact f_iret (pc := 24) dX12_append_24 rfl (by assumption) (hQ _ _ (fst_m o (by omega)) (snd_m o hC) (FRH.rf w) (by assumption))
  have o : o_append G l = (-1000000002, G) := by
    unfold o_append
    rw [if_pos (by omega)]
  refine r_ldc (pc := 10) (n := -1000000002) dX12_append_10 kw_X12_132 rfl ?_
  exact f_iret (pc := 12) dX12_append_12 rfl (by assumption) (hQ _ _ (fst_m o (by omega)) (snd_m o hC) (FRH.rf w) (by assumption))
set_option maxRecDepth 8000 in
theorem y_clearText {Q : Option AV → Wd → Prop} {w : Wd} (d : Nat) {G : GS} (hd : 2 ≤ d) (hw : WR w) (hG : GOK G) (hC : MOG G w) (hQ : ∀ r w2, r = (o_clearText G).1 → MOG (o_clearText G).2 w2 → FRH w w2 → WR w2 → Q (some (vI r)) w2) : M mX12_clearText (Rm d) [vR (some 385)] (fl w) (lQ Q) := by
  have hp := MOG.hp hG hC
  have hG2 := GOK_rec hG
  have el : w 385 4 = G.len := hC.2.2.2.1
  have eT := hC.2.2.2.2
  have bl := hG.2.2.2
  refine f_mofv (L0 := [some (vR (some 385)), none]) rfl (Nat.le_of_ble_eq_true rfl) rfl ?_
  refine r_aload_n (pc := 0) dX12_clearText_0 rfl ?_
  refine h_X12_206 (pc := 1) rfl dX12_clearText_1 (by assumption) (fun h1 => ?_)
  refine r_istore1 (pc := 4) dX12_clearText_4 rfl ?_
  refine r_aload_n (pc := 5) dX12_clearText_5 rfl ?_
  refine r_iconst (pc := 6) (n := 0) dX12_clearText_6 ?_
  refine ph_X12_206 (pc := 7) rfl dX12_clearText_7 (by assumption) (by omega) (fun hw7 => ?_)
  refine r_iload_n (pc := 10) dX12_clearText_10 rfl ?_
  exact f_iret (pc := 11) dX12_clearText_11 rfl (by assumption) (hQ _ _ el (show MOG (setT G 0 G.T) _ from MOG_txt hC (up_ne (by omega)) (up_ne (by omega)) (up_off (by omega)) up_hit (fun j a b => by omega)) (fun p e => up_ne (by omega)) (by assumption))
set_option maxRecDepth 8000 in
theorem y_faultPosition {Q : Option AV → Wd → Prop} {w : Wd} (d : Nat) {G : GS} {o : Int} (hd : 13 ≤ d) (hw : WR w) (hG : GOK G) (hC : MOG G w) (ro : R32 o) (ho : o = 0 ∨ o = 1) (hQ : ∀ r w2, r = o_fault G o → MOG G w2 → FRH w w2 → WR w2 → Q (some (vI r)) w2) : M mX12_faultPosition (Rm d) [vR (some 385), vI o] (fl w) (lQ Q) := by
  have hp := MOG.hp hG hC
  have hG2 := GOK_rec hG
  have el : w 385 4 = G.len := hC.2.2.2.1
  have eT := hC.2.2.2.2
  have bl := hG.2.2.2
  refine f_mofv (L0 := [some (vR (some 385)), some (vI o), none]) rfl (Nat.le_of_ble_eq_true rfl) rfl ?_
  have cut15 : ∀ (r x : Int) (w2 : Wd) (o2 : Option AV), o_fault G o = x → ((r = x ∧ 0 ≤ r ∧ r ≤ 120) ∨ (r = -1 ∧ x = -1000000005)) → MOG G w2 → FRH w w2 → WR w2 → V mX12_faultPosition (Rm d) 0 0 15 [some (vR (some 385)), some (vI o), o2] [vI r] (fl w2) (lQ Q) := by
    intro r x w2 o2 hx hr C2 FL2 hw2
    refine r_istore2 (pc := 15) dX12_faultPosition_15 rfl ?_
    refine r_iload_n (pc := 16) dX12_faultPosition_16 rfl ?_
    refine r_ifge (pc := 17) (tgt := 25) dX12_faultPosition_17 rfl (by omega) (fun h17 => ?_) (fun h17 => ?_)
    · refine r_iload_n (pc := 25) dX12_faultPosition_25 rfl ?_
      exact f_iret (pc := 26) dX12_faultPosition_26 rfl (by assumption) (hQ _ _ (by omega) C2 FL2 (by assumption))
    refine r_ldc (pc := 20) (n := -1000000005) dX12_faultPosition_20 kw_X12_90 rfl ?_
    refine r_goto (pc := 22) (tgt := 26) dX12_faultPosition_22 rfl ?_
    exact f_iret (pc := 26) dX12_faultPosition_26 rfl (by assumption) (hQ _ _ (by omega) C2 FL2 (by assumption))
  refine r_iload_n (pc := 0) dX12_faultPosition_0 rfl ?_
  refine r_ifeq (pc := 1) (tgt := 11) dX12_faultPosition_1 rfl (by omega) (fun h1 => ?_) (fun h1 => ?_)
  · refine r_aload_n (pc := 11) dX12_faultPosition_11 rfl ?_
    refine c_X12_289 (pc := 12) rfl dX12_faultPosition_12 (by first | assumption | rfl) (by omega) (Nat.le_of_ble_eq_true rfl) ?_
    refine m_X12_curveFault (d - 1) (by omega) (by assumption) el eT bl (fun r12 w12 f12 rd12 hw12 => ?_)
    have C12 := FRF.mo hC f12
    have FL12 : FRH w w12 := fun p e => f12.1 p (by omega) (by omega)
    have rr12 : R32 r12 := by
      rcases rd12 with ⟨p, -, a, b, c⟩ | ⟨L, -, a, -⟩
      · omega
      · omega
    exact cut15 r12 (fltC (crS G.T G.len)) w12 _ (by unfold o_fault; rw [if_pos (by omega)]) (by
      rcases rd12 with ⟨p, a, b, c⟩ | ⟨L, a, b, -⟩
      · rw [a]; exact Or.inl ⟨b, by omega, by omega⟩
      · rw [a]; exact Or.inr ⟨b, rfl⟩) C12 FL12 (by assumption)
  refine r_aload_n (pc := 4) dX12_faultPosition_4 rfl ?_
  refine c_X12_286 (pc := 5) rfl dX12_faultPosition_5 (by first | assumption | rfl) (by omega) (Nat.le_of_ble_eq_true rfl) ?_
  refine m_X12_formulaFault (d - 1) (by omega) (by assumption) el eT bl (fun p a b => hC.ci ⟨a, b⟩) (fun r5 w5 f5 rd5 hw5 => ?_)
  have C5 := FRF.mo hC f5
  have FL5 : FRH w w5 := fun p e => f5.1 p (by omega) (by omega)
  have rr5 : R32 r5 := by
    rcases rd5 with ⟨p, -, a, b, c⟩ | ⟨p, e, -, a, -⟩
    · omega
    · omega
  refine r_goto (pc := 8) (tgt := 15) dX12_faultPosition_8 rfl ?_
  exact cut15 r5 (fltS (prsS G.T G.len)) w5 _ (by unfold o_fault; rw [if_neg (by omega)]) (by
    rcases rd5 with ⟨p, a, b, c⟩ | ⟨p, e, a, b, -⟩
    · rw [a]; exact Or.inl ⟨b, by omega, by omega⟩
    · rw [a]; exact Or.inr ⟨b, rfl⟩) C5 FL5 (by assumption)
set_option maxRecDepth 8000 in
theorem y_mix {Q : Option AV → Wd → Prop} {w : Wd} (d : Nat) {G : GS} {f : Int} (hd : 13 ≤ d) (hw : WR w) (hG : GOK G) (hC : MOG G w) (rf : R32 f) (hQ : ∀ r w2, r = o_mix G f → MOG G w2 → FRH w w2 → WR w2 → Q (some (vI r)) w2) : M mX12_mix (Rm d) [vR (some 385), vI f] (fl w) (lQ Q) := by
  have hp := MOG.hp hG hC
  have hG2 := GOK_rec hG
  refine f_mofv (L0 := [some (vR (some 385)), some (vI f)]) rfl (Nat.le_of_ble_eq_true rfl) rfl ?_
  refine r_iload_n (pc := 0) dX12_mix_0 rfl ?_
  refine r_iconst (pc := 1) (n := 0) dX12_mix_1 ?_
  refine r_sipush (pc := 2) (n := 960) dX12_mix_2 (by decide) ?_
  refine c_X12_66 (pc := 5) rfl dX12_mix_5 (by omega) (Nat.le_of_ble_eq_true rfl) ?_
  refine m_X12_in (d - 1) (by omega) (by assumption) (by omega) (by omega) (by omega) (fun r5 e5 b5 => ?_)
  have i5 := b2i_i e5
  refine r_ifeq (pc := 8) (tgt := 19) dX12_mix_8 rfl (by omega) (fun h8 => ?_) (fun h8 => ?_)
  · refine r_ldc (pc := 19) (n := -1000000002) dX12_mix_19 kw_X12_132 rfl ?_
    exact f_iret (pc := 21) dX12_mix_21 rfl (by assumption) (hQ _ w (by unfold o_mix; rw [if_neg (by omega)]) hC (FRH.rf w) (by assumption))
  refine r_aload_n (pc := 11) dX12_mix_11 rfl ?_
  refine r_iload_n (pc := 12) dX12_mix_12 rfl ?_
  refine c_X12_184 (pc := 13) rfl dX12_mix_13 (by first | assumption | rfl) (by omega) (Nat.le_of_ble_eq_true rfl) ?_
  obtain ⟨Tm, lm, pm, tm1, tm2, tm3, tm4⟩ := hC.1.2.2.2
  refine m_X12_mixed (T := Tm) (len := lm) (q := pm) (e := G.now.f) (d - 1) (by omega) (by assumption) tm2 tm4 tm3 (fun p a b => hC.ci ⟨a, b⟩) (by omega) tm1 (fun r13 w13 f13 e13 b13 hw13 => ?_)
  have e13 : r13 = mixS G f := e13.trans (MOG.mx hG hC f)
  refine r_goto (pc := 16) (tgt := 21) dX12_mix_16 rfl ?_
  exact f_iret (pc := 21) dX12_mix_21 rfl (by assumption) (hQ _ _ (by unfold o_mix; rw [if_pos (by omega)]; exact e13) (FRF.mo hC f13) (fun p e => f13.1 p (by omega) (by omega)) (by assumption))
set_option maxRecDepth 8000 in
theorem y_readFormula {Q : Option AV → Wd → Prop} {w : Wd} (d : Nat) {G : GS} (hd : 13 ≤ d) (hw : WR w) (hG : GOK G) (hC : MOG G w) (hQ : ∀ r w2, r = (o_readFormula G).1 → MOG (o_readFormula G).2 w2 → FRH w w2 → WR w2 → Q (some (vI r)) w2) : M mX12_readFormula (Rm d) [vR (some 385)] (fl w) (lQ Q) := by
  have hp := MOG.hp hG hC
  have hG2 := GOK_rec hG
  have el : w 385 4 = G.len := hC.2.2.2.1
  have eT := hC.2.2.2.2
  have bl := hG.2.2.2
  refine f_mofv (L0 := [some (vR (some 385)), none, none]) rfl (Nat.le_of_ble_eq_true rfl) rfl ?_
  have loop33 : ∀ (p1 : Int) (e1 : EE), prsS G.T G.len = .inr (p1, e1) → o_readFormula G = (lfs e1.1, setF (recG G) e1) → ∀ w16 : Wd, MOG (recG G) w16 → FRH w w16 → ∀ n0 : Nat, ∀ k : Nat, (G.len - k).toNat = n0 → (k : Int) ≤ G.len → ∀ w2 : Wd, (∀ p, p ≠ 386 → w2 p = w16 p) → (∀ j, j < 530 → w2 386 j = w16 386 j) → w2 386 530 = G.len → (∀ j : Int, 0 ≤ j → j < k → w2 386 (531 + j) = G.T j) → WR w2 → V mX12_readFormula (Rm d) 0 0 33 [some (vR (some 385)), some (vI (lfs e1.1)), some (vI k)] [] (fl w2) (lQ Q) := by
    intro p1 e1 pe1 o w16 C16 FL16
    have l16 : w16 385 4 = G.len := C16.2.2.2.1
    have T16 : ∀ j, 0 ≤ j → j < G.len → w16 388 j = G.T j := C16.2.2.2.2
    refine ind_lt ?_
    intro n0 ih k hm hk w2 f1 f2 e530 hv hw2
    have l2 : w2 385 4 = G.len := by rw [f1 385 (by omega)]; exact l16
    refine r_iload_n (pc := 33) dX12_readFormula_33 rfl ?_
    refine r_aload_n (pc := 34) dX12_readFormula_34 rfl ?_
    refine h_X12_206 (pc := 35) rfl dX12_readFormula_35 (by assumption) (fun h35 => ?_)
    refine r_icmpge (pc := 38) (tgt := 63) dX12_readFormula_38 rfl (by omega) (by omega) (fun h38 => ?_) (fun h38 => ?_)
    · refine r_iload_n (pc := 63) dX12_readFormula_63 rfl ?_
      exact f_iret (pc := 64) dX12_readFormula_64 rfl (by assumption) (hQ _ _ (fst_m o rfl) (snd_m o (MOG_frm C16 f1 f2 pe1 bl e530 (fun j a b => hv j a (by omega)) hG2)) (FL16.tr (fun p e => f1 p (by omega))) (by assumption))
    refine r_aload_n (pc := 41) dX12_readFormula_41 rfl ?_
    refine h_X12_7 (pc := 42) rfl dX12_readFormula_42 ?_
    refine r_sipush (pc := 45) (n := 531) dX12_readFormula_45 (by decide) ?_
    refine r_iload_n (pc := 48) dX12_readFormula_48 rfl ?_
    refine r_iadd (pc := 49) dX12_readFormula_49 ?_
    refine r_aload_n (pc := 50) dX12_readFormula_50 rfl ?_
    refine h_X12_16 (pc := 51) rfl dX12_readFormula_51 ?_
    refine r_iload_n (pc := 54) dX12_readFormula_54 rfl ?_
    refine f_iald (pc := 55) dX12_readFormula_55 (n := 120) (by assumption) (by first | assumption | rfl) (by omega) (by omega) (by omega) (fun h55 => ?_)
    rw [show w2 388 (k : Int) = G.T k by rw [f1 388 (by omega)]; exact T16 k (by omega) (by omega)] at h55 ⊢
    refine f_iast (pc := 56) dX12_readFormula_56 (n := 660) (by assumption) (by first | assumption | rfl) (by omega) (by omega) (by omega) (by omega) (fun hw56 => ?_)
    refine r_iinc2 (pc := 57) dX12_readFormula_57 rfl ?_
    refine r_goto (pc := 60) (tgt := 33) dX12_readFormula_60 rfl ?_
    exact ih _ (by omega) (k + 1) rfl (by omega) _ (fun p e => by rw [up_ne e]; exact f1 p e) (fun j e => by rw [up_off (by omega)]; exact f2 j e) (by rw [up_off (by omega)]; exact e530) (fun j j0 j1 => by
      by_cases z : j = k
      · rw [z, up_hit]
      · rw [up_off (by omega)]; exact hv j j0 (by omega)) (by assumption)
  refine r_aload_n (pc := 0) dX12_readFormula_0 rfl ?_
  refine c_X12_286 (pc := 1) rfl dX12_readFormula_1 (by first | assumption | rfl) (by omega) (Nat.le_of_ble_eq_true rfl) ?_
  refine m_X12_formulaFault (d - 1) (by omega) (by assumption) el eT bl (fun p a b => hC.ci ⟨a, b⟩) (fun r1 w1 f1 rd1 hw1 => ?_)
  have C1 := FRF.mo hC f1
  have FL1 : FRH w w1 := fun p e => f1.1 p (by omega) (by omega)
  have rr1 : R32 r1 := by
    rcases rd1 with ⟨p, -, a, b, c⟩ | ⟨p, e, -, a, -⟩
    · omega
    · omega
  refine r_iflt (pc := 4) (tgt := 10) dX12_readFormula_4 rfl (by omega) (fun h4 => ?_) (fun h4 => ?_)
  · obtain ⟨p1, e1, pe1, -, lf1⟩ : ∃ q e, prsS G.T G.len = .inr (q, e) ∧ r1 = -1 ∧ w1 385 15 = lfs e.1 := by
      rcases rd1 with ⟨p, -, a, b, c⟩ | h
      · exfalso; omega
      · exact h
    have o : o_readFormula G = (lfs e1.1, setF (recG G) e1) := by
      unfold o_readFormula
      rw [pe1]; rfl
    refine r_aload_n (pc := 10) dX12_readFormula_10 rfl ?_
    refine h_X12_232 (pc := 11) rfl dX12_readFormula_11 (by assumption) (fun h11 => ?_)
    rw [lf1]
    refine r_istore1 (pc := 14) dX12_readFormula_14 rfl ?_
    refine r_aload_n (pc := 15) dX12_readFormula_15 rfl ?_
    refine c_X12_146 (pc := 16) rfl dX12_readFormula_16 (by first | assumption | rfl) (by omega) (Nat.le_of_ble_eq_true rfl) ?_
    have hp1 := MOG.hp hG C1
    refine m_X12_changes (d - 1) (by omega) (by assumption) hp1 (fun w16 c16 hw16 => ?_)
    obtain ⟨C16, F16⟩ := MOG_rec hG C1 c16
    have FL16 : FRH w w16 := FL1.tr (fun p e => F16 p (by omega) (by omega))
    have l16 : w16 385 4 = G.len := C16.2.2.2.1
    refine r_aload_n (pc := 19) dX12_readFormula_19 rfl ?_
    refine h_X12_7 (pc := 20) rfl dX12_readFormula_20 ?_
    refine r_sipush (pc := 23) (n := 530) dX12_readFormula_23 (by decide) ?_
    refine r_aload_n (pc := 26) dX12_readFormula_26 rfl ?_
    refine h_X12_206 (pc := 27) rfl dX12_readFormula_27 (by assumption) (fun h27 => ?_)
    refine f_iast (pc := 30) dX12_readFormula_30 (n := 660) (by assumption) (by first | assumption | rfl) (by omega) (by omega) (by omega) (by omega) (fun hw30 => ?_)
    refine r_iconst (pc := 31) (n := 0) dX12_readFormula_31 ?_
    refine r_istore2 (pc := 32) dX12_readFormula_32 rfl ?_
    exact loop33 p1 e1 pe1 o w16 C16 FL16 _ 0 rfl (by omega) _ (fun p e => up_ne e) (fun j e => up_off (by omega)) (by rw [up_hit]; exact C16.2.2.2.1) (fun j a b => by omega) (by assumption)
  have o : o_readFormula G = (-1000000002, G) := by
    rcases rd1 with ⟨p, a, -⟩ | ⟨p, e, -, a, -⟩
    · unfold o_readFormula
      rw [a]; rfl
    · exfalso; omega
  refine r_ldc (pc := 7) (n := -1000000002) dX12_readFormula_7 kw_X12_132 rfl ?_
  exact f_iret (pc := 9) dX12_readFormula_9 rfl (by assumption) (hQ _ _ (fst_m o (by omega)) (snd_m o C1) FL1 (by assumption))
set_option maxRecDepth 8000 in
theorem y_readCurve {Q : Option AV → Wd → Prop} {w : Wd} (d : Nat) {G : GS} {q : Int} (hd : 7 ≤ d) (hw : WR w) (hG : GOK G) (hC : MOG G w) (rq : R32 q) (hQ : ∀ r w2, r = (o_readCurve G q).1 → MOG (o_readCurve G q).2 w2 → FRH w w2 → WR w2 → Q (some (vI r)) w2) : M mX12_readCurve (Rm d) [vR (some 385), vI q] (fl w) (lQ Q) := by
  have hp := MOG.hp hG hC
  have hG2 := GOK_rec hG
  have el : w 385 4 = G.len := hC.2.2.2.1
  have eT := hC.2.2.2.2
  have bl := hG.2.2.2
  refine f_mofv (L0 := [some (vR (some 385)), some (vI q), none, none]) rfl (Nat.le_of_ble_eq_true rfl) rfl ?_
  have loop38 : (0 ≤ q ∧ q ≤ 3) → ∀ L : List K3, L.length ≤ 24 → okL L → o_readCurve G q = ((L.length : Int), setC (recG G) q (rdX (G.now.c q) L)) → ∀ w21 : Wd, MOG (recG G) w21 → FRH w w21 → CI (mx w21 q) → CEV (G.now.c q) (mx w21 q) → w21 385 26 = L.length → (∀ (i : Nat) (x : K3), L[i]? = some x → w21 401 (3 * i) = x.1 ∧ w21 401 (3 * i + 1) = x.2.1 ∧ w21 401 (3 * i + 2) = x.2.2) → ∀ n0 : Nat, ∀ k : Nat, L.length - k = n0 → k ≤ L.length → ∀ (w2 : Wd) (o3 : Option AV), FQ q w21 w2 → CEQ (rdX (mx w21 q) (L.take k)) (mx w2 q) → WR w2 → V mX12_readCurve (Rm d) 0 0 38 [some (vR (some 385)), some (vI q), some (vI k), o3] [] (fl w2) (lQ Q) := by
    intro hq L l24 ok o w21 C21 FL21 I21 V21 n26 rows
    refine ind_lt ?_
    intro n0 ih k hm hk w2 o3 f2 e2 hw2
    have n2 : w2 385 26 = L.length := by rw [f2.1 385 (by omega)]; exact n26
    have lt : (L.take k).length = k := by rw [List.length_take]; omega
    have m2 : mx w2 q 0 0 = k := by have := e2.1; rw [rdX_n, lt] at this; omega
    refine r_iload_n (pc := 38) dX12_readCurve_38 rfl ?_
    refine r_aload_n (pc := 39) dX12_readCurve_39 rfl ?_
    refine h_X12_277 (pc := 40) rfl dX12_readCurve_40 (by assumption) (fun h40 => ?_)
    refine r_icmpge (pc := 43) (tgt := 88) dX12_readCurve_43 rfl (by omega) (by omega) (fun h43 => ?_) (fun h43 => ?_)
    · refine r_aload_n (pc := 88) dX12_readCurve_88 rfl ?_
      refine h_X12_277 (pc := 89) rfl dX12_readCurve_89 (by assumption) (fun h89 => ?_)
      exact f_iret (pc := 92) dX12_readCurve_92 rfl (by assumption) (hQ _ _ (fst_m o (by omega)) (snd_m o (MOG_fq hG2 hq C21 f2 (X := rdX (G.now.c q) L) ((V21.rd L).tr (by have e := e2; rw [List.take_of_length_le (by omega)] at e; exact e.v)) (by have e := e2; rw [List.take_of_length_le (by omega)] at e; exact (CI_rd I21 l24 ok).eq e))) (FL21.tr (fun p e => f2.1 p (by omega))) (by assumption))
    have hk2 : k < L.length := by omega
    obtain ⟨x, hx⟩ : ∃ x, L[k]? = some x := ⟨L[k]'hk2, List.getElem?_eq_getElem hk2⟩
    have rw3 := rows k x hx
    rw [← f2.1 401 (by omega)] at rw3
    have kx := ok.1 _ _ hx
    have okk : okL (L.take k) := okL_take ok k
    refine r_aload_n (pc := 46) dX12_readCurve_46 rfl ?_
    refine r_iload_n (pc := 47) dX12_readCurve_47 rfl ?_
    refine r_aload_n (pc := 48) dX12_readCurve_48 rfl ?_
    refine h_X12_57 (pc := 49) rfl dX12_readCurve_49 ?_
    refine r_iconst (pc := 52) (n := 3) dX12_readCurve_52 ?_
    refine r_iload_n (pc := 53) dX12_readCurve_53 rfl ?_
    refine r_imul (pc := 54) dX12_readCurve_54 ?_
    refine f_iald (pc := 55) dX12_readCurve_55 (n := 75) (by assumption) (by first | assumption | rfl) (by omega) (by omega) (by omega) (fun h55 => ?_)
    rw [rw3.1] at h55 ⊢
    refine r_aload_n (pc := 56) dX12_readCurve_56 rfl ?_
    refine h_X12_57 (pc := 57) rfl dX12_readCurve_57 ?_
    refine r_iconst (pc := 60) (n := 3) dX12_readCurve_60 ?_
    refine r_iload_n (pc := 61) dX12_readCurve_61 rfl ?_
    refine r_imul (pc := 62) dX12_readCurve_62 ?_
    refine r_iconst (pc := 63) (n := 1) dX12_readCurve_63 ?_
    refine r_iadd (pc := 64) dX12_readCurve_64 ?_
    refine f_iald (pc := 65) dX12_readCurve_65 (n := 75) (by assumption) (by first | assumption | rfl) (by omega) (by omega) (by omega) (fun h65 => ?_)
    rw [rw3.2.1] at h65 ⊢
    refine r_aload_n (pc := 66) dX12_readCurve_66 rfl ?_
    refine h_X12_57 (pc := 67) rfl dX12_readCurve_67 ?_
    refine r_iconst (pc := 70) (n := 3) dX12_readCurve_70 ?_
    refine r_iload_n (pc := 71) dX12_readCurve_71 rfl ?_
    refine r_imul (pc := 72) dX12_readCurve_72 ?_
    refine r_iconst (pc := 73) (n := 2) dX12_readCurve_73 ?_
    refine r_iadd (pc := 74) dX12_readCurve_74 ?_
    refine f_iald (pc := 75) dX12_readCurve_75 (n := 75) (by assumption) (by first | assumption | rfl) (by omega) (by omega) (by omega) (fun h75 => ?_)
    rw [rw3.2.2] at h75 ⊢
    refine r_iconst (pc := 76) (n := 0) dX12_readCurve_76 ?_
    refine r_iconst (pc := 77) (n := 0) dX12_readCurve_77 ?_
    refine c_X12_149 (pc := 78) rfl dX12_readCurve_78 (by first | assumption | rfl) (by omega) (Nat.le_of_ble_eq_true rfl) ?_
    have Ix : CI (mx w2 q) := (CI_rd I21 (L := L.take k) (by omega) okk).eq e2
    refine m_X12_inserts (d - 1) (by omega) (by assumption) hq Ix (by omega) (fun j j0 j1 e => ?_) (by omega) (by omega) (by omega) (by omega) (by omega) (fun k78 w78 b78 f78 e78 hw78 => ?_)
    · obtain ⟨y, hy⟩ := rd_get (L := L) (j := j) j0 (by omega)
      have r := (e2.row (r := 1) (j := ((j.toNat : Nat) : Int)) (by omega) (by omega) (by omega) (by rw [rdX_n, lt]; omega)).symm.trans (rdX_r (by omega) ((rd_takeg (by omega)).trans hy))
      rw [show ((j.toNat : Nat) : Int) = j by omega] at r
      have r : mx w2 q 1 j = y.1 := r
      have := ok.2 _ _ _ _ (show j.toNat < k by omega) hy hx
      omega
    refine r_istore3 (pc := 81) dX12_readCurve_81 rfl ?_
    refine r_iinc2 (pc := 82) dX12_readCurve_82 rfl ?_
    refine r_goto (pc := 85) (tgt := 38) dX12_readCurve_85 rfl ?_
    exact ih _ (by omega) (k + 1) rfl (by omega) _ _ (f2.tr f78) ((rd_step e2 hk2 hx ok b78).tr e78.sy) (by assumption)
  refine r_iload_n (pc := 0) dX12_readCurve_0 rfl ?_
  refine c_X12_74 (pc := 1) rfl dX12_readCurve_1 (by omega) (Nat.le_of_ble_eq_true rfl) ?_
  refine m_X12_isCurve (d - 1) (by omega) (by assumption) (by omega) (fun r1 e1 b1 => ?_)
  have i1 := b2i_i e1
  refine r_ifne (pc := 4) (tgt := 10) dX12_readCurve_4 rfl (by omega) (fun h4 => ?_) (fun h4 => ?_)
  · have hq : 0 ≤ q ∧ q ≤ 3 := by omega
    have iq : inC q := hq
    have CV := hC.cv hq
    have I0 := hC.ci hq
    have hn : 0 ≤ mx w q 0 0 ∧ mx w q 0 0 ≤ 24 := I0.1
    have eN : G.now.c q 0 0 = mx w q 0 0 := CV.1
    refine r_aload_n (pc := 10) dX12_readCurve_10 rfl ?_
    refine c_X12_289 (pc := 11) rfl dX12_readCurve_11 (by first | assumption | rfl) (by omega) (Nat.le_of_ble_eq_true rfl) ?_
    refine m_X12_curveFault (d - 1) (by omega) (by assumption) el eT bl (fun r11 w11 f11 rd11 hw11 => ?_)
    have C11 := FRF.mo hC f11
    have FL11 : FRH w w11 := fun p e => f11.1 p (by omega) (by omega)
    have rr11 : R32 r11 := by
      rcases rd11 with ⟨p, -, a, b, c⟩ | ⟨L, -, a, -⟩
      · omega
      · omega
    have I11 := C11.ci hq
    have V11 := C11.cv hq
    refine r_iflt (pc := 14) (tgt := 20) dX12_readCurve_14 rfl (by omega) (fun h14 => ?_) (fun h14 => ?_)
    · obtain ⟨L, cl, -, n11, l11, ok11, rows11⟩ : ∃ L, crS G.T G.len = .inr L ∧ r11 = -1 ∧ w11 385 26 = L.length ∧ L.length ≤ 24 ∧ okL L ∧ ∀ (i : Nat) (x : K3), L[i]? = some x → w11 401 (3 * i) = x.1 ∧ w11 401 (3 * i + 1) = x.2.1 ∧ w11 401 (3 * i + 2) = x.2.2 := by
        rcases rd11 with ⟨p, -, a, b, c⟩ | h
        · exfalso; omega
        · exact h
      have o : o_readCurve G q = ((L.length : Int), setC (recG G) q (rdX (G.now.c q) L)) := by
        unfold o_readCurve
        rw [if_neg (fun z => z iq), cl]; rfl
      refine r_aload_n (pc := 20) dX12_readCurve_20 rfl ?_
      refine c_X12_146 (pc := 21) rfl dX12_readCurve_21 (by first | assumption | rfl) (by omega) (Nat.le_of_ble_eq_true rfl) ?_
      have hp1 := MOG.hp hG C11
      refine m_X12_changes (d - 1) (by omega) (by assumption) hp1 (fun w21 c21 hw21 => ?_)
      have L21 : w21 385 26 = w11 385 26 := c21.2.1 26 (by omega)
      obtain ⟨C21, F21⟩ := MOG_rec hG C11 c21
      have X21 : mx w21 q = mx w11 q := by unfold mx; rw [F21 386 (by omega) (by omega)]
      have FL21 : FRH w w21 := FL11.tr (fun p e => F21 p (by omega) (by omega))
      refine r_aload_n (pc := 24) dX12_readCurve_24 rfl ?_
      refine h_X12_7 (pc := 25) rfl dX12_readCurve_25 ?_
      refine r_iload_n (pc := 28) dX12_readCurve_28 rfl ?_
      refine r_iconst (pc := 29) (n := 0) dX12_readCurve_29 ?_
      refine r_iconst (pc := 30) (n := 0) dX12_readCurve_30 ?_
      refine c_X12_70 (pc := 31) rfl dX12_readCurve_31 (by omega) (Nat.le_of_ble_eq_true rfl) ?_
      refine m_X12_at (d - 1) (by omega) (by assumption) (fun r31 e31 => ?_)
      subst e31
      refine r_iconst (pc := 34) (n := 0) dX12_readCurve_34 ?_
      refine f_iast (pc := 35) dX12_readCurve_35 (n := 660) (by assumption) (by first | assumption | rfl) (by omega) (by omega) (by omega) (by omega) (fun hw35 => ?_)
      refine r_iconst (pc := 36) (n := 0) dX12_readCurve_36 ?_
      refine r_istore2 (pc := 37) dX12_readCurve_37 rfl ?_
      exact loop38 hq L l11 ok11 o w21 C21 FL21 (by rw [X21]; exact I11) (by rw [X21]; exact V11) (by rw [L21]; exact n11) (fun i x hx => by rw [F21 401 (by omega) (by omega)]; exact rows11 i x hx) _ 0 rfl (by omega) _ _ (FQ_up (q := q) (i := 128 * q + 0 + 0) (x := 0) (by omega)) (by
        have M0 := mx_up0 (w := w21) (q := q) (k := 0) (i := 128 * q + 0 + 0) (x := 0) (by omega) (by omega)
        exact rd_ceq (by rw [M0 0 0 (by omega), stX_y]; rfl) (by rw [M0 0 1 (by omega), stX_j (by omega)]) (by rw [M0 0 2 (by omega), stX_j (by omega)]) (fun i x hx => by simp at hx)) (by assumption)
    have o : o_readCurve G q = (-1000000002, G) := by
      rcases rd11 with ⟨p, a, -⟩ | ⟨L, -, a, -⟩
      · unfold o_readCurve
        rw [if_neg (fun z => z iq), a]; rfl
      · exfalso; omega
    refine r_ldc (pc := 17) (n := -1000000002) dX12_readCurve_17 kw_X12_132 rfl ?_
    exact f_iret (pc := 19) dX12_readCurve_19 rfl (by assumption) (hQ _ _ (fst_m o (by omega)) (snd_m o C11) FL11 (by assumption))
  have o : o_readCurve G q = (-1000000001, G) := by
    unfold o_readCurve
    exact if_pos (fun z => by have z : 0 ≤ q ∧ q ≤ 3 := z; omega)
  refine r_ldc (pc := 7) (n := -1000000001) dX12_readCurve_7 kw_X12_131 rfl ?_
  exact f_iret (pc := 9) dX12_readCurve_9 rfl (by assumption) (hQ _ _ (fst_m o (by omega)) (snd_m o hC) (FRH.rf w) (by assumption))
