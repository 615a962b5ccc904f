/-! the model's calls, on: decimation, the checksum -/
def DRL (g : Int → Int) (t : Int) (m : Nat) (x y : Int) : Prop := (m = 0 ∧ x = -1) ∨ (m ≠ 0 ∧ 1 ≤ x ∧ x ≤ m ∧ 0 ≤ y ∧ ((y ≤ t ∧ chS g t m = (x, y)) ∨ (t < y ∧ chS g t m = (-1, t + 1))))
theorem DR_y {g : Int → Int} {t x y z : Int} {m : Nat} (h : DRL g t m x y) (hz : z = g (m + 1)) (z0 : 0 ≤ z) (c : x < 0 ∨ z < y) : DRL g t (m + 1) (m + 1) z := by
  refine Or.inr ⟨by omega, by omega, by omega, z0, ?_⟩
  have k : (chS g t m).2 = t + 1 ∨ ((chS g t m).2 = y ∧ z < y ∧ y ≤ t) := by
    rcases h with ⟨a, b⟩ | ⟨a, b, b2, e, f | f⟩
    · subst a; exact Or.inl rfl
    · exact Or.inr ⟨by rw [f.2], by omega, f.1⟩
    · exact Or.inl (by rw [f.2])
  have e1 : (chS g t m).1 = -1 ∨ z ≤ t := by
    rcases h with ⟨a, b⟩ | ⟨a, b, b2, e, f | f⟩
    · subst a; exact Or.inl rfl
    · exact Or.inr (by omega)
    · exact Or.inl (by rw [f.2])
  by_cases q : z ≤ t
  · exact Or.inl ⟨q, by rw [chS_y (by omega), ← hz]⟩
  · refine Or.inr ⟨by omega, ?_⟩
    rw [chS_n (by omega)]
    have p : (chS g t m).1 = -1 := by omega
    have p2 : (chS g t m).2 = t + 1 := by omega
    exact Prod.ext p p2
theorem DR_n {g : Int → Int} {t x y z : Int} {m : Nat} (h : DRL g t m x y) (hz : z = g (m + 1)) (c : ¬ (x < 0 ∨ z < y)) : DRL g t (m + 1) x y := by
  rcases h with ⟨a, b⟩ | ⟨a, b, b2, e, f⟩
  · omega
  · refine Or.inr ⟨by omega, b, by omega, e, ?_⟩
    rcases f with f | f
    · exact Or.inl ⟨f.1, by rw [chS_n (by rw [f.2]; show ¬ g (m + 1) < y; omega)]; exact f.2⟩
    · exact Or.inr ⟨f.1, by rw [chS_n (by rw [f.2]; show ¬ g (m + 1) < t + 1; omega)]; exact f.2⟩
theorem DR_d {g : Int → Int} {t x y : Int} {m : Nat} (h : DRL g t m x y) : (0 < x ∧ y ≤ t → (chS g t m).1 = x) ∧ (¬ (0 < x ∧ y ≤ t) → ¬ 0 < (chS g t m).1) := by
  rcases h with ⟨a, b⟩ | ⟨a, b, b2, e, f | f⟩
  · subst a
    exact ⟨fun z => by omega, fun _ => by show ¬ (0 : Int) < -1; omega⟩
  · rw [f.2]
    exact ⟨fun _ => rfl, fun z => by show ¬ 0 < x; omega⟩
  · rw [f.2]
    exact ⟨fun z => by omega, fun _ => by show ¬ (0 : Int) < -1; omega⟩
theorem dcS_few {Y : CP} {s : Int → Int} {t a b : Int} (h : Y 0 0 < 3) : ¬ 0 < dcS Y s t a b := by
  have := chS_in (g := fun k => erS (delX Y k) s a b) (t := t) (Y 0 0 - 2).toNat
  unfold dcS
  omega
set_option maxRecDepth 8000 in
theorem y_decimate {Q : Option AV → Wd → Prop} {w : Wd} (d : Nat) {G : GS} {q t : Int} (hd : 9 ≤ d) (hw : WR w) (hG : GOK G) (hC : MOG G w) (rq : R32 q) (rt : R32 t) (hQ : ∀ r w2, r = (o_decimate G q t).1 → MOG (o_decimate G q t).2 w2 → FRH w w2 → WR w2 → Q (some (vI r)) w2) : M mX12_decimate (Rm d) [vR (some 385), vI q, vI t] (fl w) (lQ Q) := by
  have hp := MOG.hp hG hC
  have hG2 := GOK_rec hG
  refine f_mofv (L0 := [some (vR (some 385)), some (vI q), some (vI t), none, none, none, none, none, none, none, none]) rfl (Nat.le_of_ble_eq_true rfl) rfl ?_
  have loop110 : (0 ≤ q ∧ q ≤ 3) → (0 ≤ t ∧ t ≤ 9999) → CI (mx w q) → ∀ (a b : Int) (s : Int → Int), a = mx w q 1 0 → b = mx w q 1 (mx w q 0 0 - 1) → s = valS (mx w q) → (0 ≤ a ∧ a ≤ b ∧ b ≤ 480) → ∀ (nn : Int) (w25 : Wd), nn = G.now.c q 0 0 → MOG (recG G) w25 → FRH w w25 → ∀ n0 : Nat, (∀ n1 : Nat, n1 < n0 → ∀ (m0 : Nat) (g : Int) (Y : CP) (w1 : Wd) (o7 o8 o9 o10 : Option AV), 2 * m0 + g.toNat = n1 → (g = 0 ∨ g = 1) → (g = 1 → decS s t a b m0 Y = decX (mx w q) t ∧ Y 0 0 ≤ m0) → (g = 0 → Y = decX (mx w q) t) → CI Y → CEQ Y (mx w1 q) → (∀ p, p ≠ 386 → p ≠ 394 → p ≠ 389 → w1 p = w25 p) → (∀ j, (j < 128 * q ∨ 128 * q + 128 ≤ j) → w1 386 j = w25 386 j) → (∀ f, a ≤ f → f ≤ b → w1 389 (f - a) = s f) → WR w1 → V mX12_decimate (Rm d) 0 0 96 [some (vR (some 385)), some (vI q), some (vI t), some (vI nn), some (vI a), some (vI b), some (vI g), o7, o8, o9, o10] [] (fl w1) (lQ Q)) → ∀ (m0 : Nat) (Y : CP) (w1 : Wd), 2 * m0 + 1 = n0 → decS s t a b m0 Y = decX (mx w q) t → Y 0 0 ≤ m0 → CI Y → CEQ Y (mx w1 q) → (∀ p, p ≠ 386 → p ≠ 394 → p ≠ 389 → w1 p = w25 p) → (∀ j, (j < 128 * q ∨ 128 * q + 128 ≤ j) → w1 386 j = w25 386 j) → (∀ f, a ≤ f → f ≤ b → w1 389 (f - a) = s f) → WR w1 → ∀ n1 : Nat, ∀ m : Nat, (Y 0 0 - m).toNat = n1 → (m = 0 ∨ (m : Int) ≤ Y 0 0 - 2) → ∀ (w2 : Wd) (x y k : Int) (o10 : Option AV), DRL (fun k => erS (delX Y k) s a b) t m x y → R32 x → R32 y → k = m + 1 → FQA q w1 w2 → CEQ Y (mx w2 q) → WR w2 → V mX12_decimate (Rm d) 0 0 110 [some (vR (some 385)), some (vI q), some (vI t), some (vI nn), some (vI a), some (vI b), some (vI 1), some (vI x), some (vI y), some (vI k), o10] [] (fl w2) (lQ Q) := by
    intro hq ht I0 a b s ha hb hs hab nn w25 hnn C25 FL25
    have CV := hC.cv hq
    have iq : inC q := hq
    have eN : G.now.c q 0 0 = mx w q 0 0 := CV.1
    have hn : 0 ≤ mx w q 0 0 ∧ mx w q 0 0 ≤ 24 := I0.1
    have SB : ∀ f, a ≤ f → f ≤ b → -200000000 ≤ s f ∧ s f ≤ 200000000 := fun f f0 f1 => by rw [hs]; exact valS_bd I0 (by omega)
    intro n0 ih m0 Y w1 hm0 hd1 ym0 IY EY f1 f2 hv hw1
    have yn := IY.1
    refine ind_lt ?_
    intro n1 ih2 m hm hmy w2 x y k o10 dr rx ry hk f3 E3 hw2
    have n2 : mx w2 q 0 0 = Y 0 0 := E3.1.symm
    have I2 := IY.eq E3
    refine r_iload (pc := 110) dX12_decimate_110 rfl ?_
    refine r_aload_n (pc := 112) dX12_decimate_112 rfl ?_
    refine r_iload_n (pc := 113) dX12_decimate_113 rfl ?_
    refine c_X12_78 (pc := 114) rfl dX12_decimate_114 (by first | assumption | rfl) (by omega) (Nat.le_of_ble_eq_true rfl) ?_
    refine m_X12_many (d - 1) (by omega) (by assumption) hq (fun r114 e114 b114 => ?_)
    rw [n2] at e114
    subst e114
    refine r_iconst (pc := 117) (n := 1) dX12_decimate_117 ?_
    refine r_isub (pc := 118) dX12_decimate_118 ?_
    refine r_icmpge (pc := 119) (tgt := 171) dX12_decimate_119 rfl (by omega) (by omega) (fun h119 => ?_) (fun h119 => ?_)
    · have db : (m = 0 ∧ x = -1) ∨ (m ≠ 0 ∧ 1 ≤ x ∧ x ≤ m) := by
        rcases dr with h | h
        · exact Or.inl h
        · exact Or.inr ⟨h.1, h.2.1, h.2.2.1⟩
      have em : m = (Y 0 0 - 2).toNat := by omega
      have ED : dcS Y s t a b = (chS (fun k => erS (delX Y k) s a b) t m).1 := by rw [em]; rfl
      have DD := DR_d dr
      refine r_iload (pc := 171) dX12_decimate_171 rfl ?_
      refine r_ifle (pc := 173) (tgt := 186) dX12_decimate_173 rfl (by omega) (fun h173 => ?_) (fun h173 => ?_)
      · refine r_iconst (pc := 186) (n := 0) dX12_decimate_186 ?_
        refine r_istore6 (pc := 187) dX12_decimate_187 rfl ?_
        refine r_iload (pc := 189) dX12_decimate_189 rfl ?_
        refine r_ifeq (pc := 191) (tgt := 201) dX12_decimate_191 rfl (by omega) (fun h191 => ?_) (fun h191 => ?_)
        · refine r_goto (pc := 201) (tgt := 96) dX12_decimate_201 rfl ?_
          first
          | exact ih _ (by omega) (m0 - 1) 1 (delX Y x) w198 _ _ _ _ rfl (Or.inr rfl) (fun _ => ⟨by rw [← decS_y (m := m0 - 1) (k := x) (by rw [ED]; exact (DD.1 (by omega)).symm) (by omega), show m0 - 1 + 1 = m0 by omega]; exact hd1, by rw [delX_n]; omega⟩) (fun z => by omega) (CI_del IY (by omega)) T198 (fun p e e2 e3 => by rw [f198.1 p e]; exact (f3.1 p e e2).trans (f1 p e e2 e3)) (fun j e => by rw [f198.2 j e, f3.2 j e]; exact f2 j e) (fun f f0 f9 => by rw [f198.1 389 (by omega), f3.1 389 (by omega) (by omega)]; exact hv f f0 f9) (by assumption)
          | exact ih _ (by omega) m0 0 Y w2 _ _ _ _ rfl (Or.inl rfl) (fun z => by omega) (fun _ => by rw [← hd1]; exact (decS_n rfl (by rw [ED]; exact DD.2 (by omega)) m0).symm) IY E3 (fun p e e2 e3 => (f3.1 p e e2).trans (f1 p e e2 e3)) (fun j e => by rw [f3.2 j e]; exact f2 j e) (fun f f0 f9 => by rw [f3.1 389 (by omega) (by omega)]; exact hv f f0 f9) (by assumption)
          | (exfalso; omega)
        refine r_aload_n (pc := 194) dX12_decimate_194 rfl ?_
        refine r_iload_n (pc := 195) dX12_decimate_195 rfl ?_
        refine r_iload (pc := 196) dX12_decimate_196 rfl ?_
        refine c_X12_153 (pc := 198) rfl dX12_decimate_198 (by first | assumption | rfl) (by omega) (Nat.le_of_ble_eq_true rfl) ?_
        refine m_X12_removes (d - 1) (by omega) (by assumption) hq (by omega) (by omega) (fun w198 f198 e198 hw198 => ?_)
        have T198 : CEQ (delX Y x) (mx w198 q) := (e198.tr (delX_cg E3.sy (by omega))).sy
        refine r_goto (pc := 201) (tgt := 96) dX12_decimate_201 rfl ?_
        first
        | exact ih _ (by omega) (m0 - 1) 1 (delX Y x) w198 _ _ _ _ rfl (Or.inr rfl) (fun _ => ⟨by rw [← decS_y (m := m0 - 1) (k := x) (by rw [ED]; exact (DD.1 (by omega)).symm) (by omega), show m0 - 1 + 1 = m0 by omega]; exact hd1, by rw [delX_n]; omega⟩) (fun z => by omega) (CI_del IY (by omega)) T198 (fun p e e2 e3 => by rw [f198.1 p e]; exact (f3.1 p e e2).trans (f1 p e e2 e3)) (fun j e => by rw [f198.2 j e, f3.2 j e]; exact f2 j e) (fun f f0 f9 => by rw [f198.1 389 (by omega), f3.1 389 (by omega) (by omega)]; exact hv f f0 f9) (by assumption)
        | exact ih _ (by omega) m0 0 Y w2 _ _ _ _ rfl (Or.inl rfl) (fun z => by omega) (fun _ => by rw [← hd1]; exact (decS_n rfl (by rw [ED]; exact DD.2 (by omega)) m0).symm) IY E3 (fun p e e2 e3 => (f3.1 p e e2).trans (f1 p e e2 e3)) (fun j e => by rw [f3.2 j e]; exact f2 j e) (fun f f0 f9 => by rw [f3.1 389 (by omega) (by omega)]; exact hv f f0 f9) (by assumption)
        | (exfalso; omega)
      refine r_iload (pc := 176) dX12_decimate_176 rfl ?_
      refine r_iload_n (pc := 178) dX12_decimate_178 rfl ?_
      refine r_icmpgt (pc := 179) (tgt := 186) dX12_decimate_179 rfl (by omega) (by omega) (fun h179 => ?_) (fun h179 => ?_)
      · refine r_iconst (pc := 186) (n := 0) dX12_decimate_186 ?_
        refine r_istore6 (pc := 187) dX12_decimate_187 rfl ?_
        refine r_iload (pc := 189) dX12_decimate_189 rfl ?_
        refine r_ifeq (pc := 191) (tgt := 201) dX12_decimate_191 rfl (by omega) (fun h191 => ?_) (fun h191 => ?_)
        · refine r_goto (pc := 201) (tgt := 96) dX12_decimate_201 rfl ?_
          first
          | exact ih _ (by omega) (m0 - 1) 1 (delX Y x) w198 _ _ _ _ rfl (Or.inr rfl) (fun _ => ⟨by rw [← decS_y (m := m0 - 1) (k := x) (by rw [ED]; exact (DD.1 (by omega)).symm) (by omega), show m0 - 1 + 1 = m0 by omega]; exact hd1, by rw [delX_n]; omega⟩) (fun z => by omega) (CI_del IY (by omega)) T198 (fun p e e2 e3 => by rw [f198.1 p e]; exact (f3.1 p e e2).trans (f1 p e e2 e3)) (fun j e => by rw [f198.2 j e, f3.2 j e]; exact f2 j e) (fun f f0 f9 => by rw [f198.1 389 (by omega), f3.1 389 (by omega) (by omega)]; exact hv f f0 f9) (by assumption)
          | exact ih _ (by omega) m0 0 Y w2 _ _ _ _ rfl (Or.inl rfl) (fun z => by omega) (fun _ => by rw [← hd1]; exact (decS_n rfl (by rw [ED]; exact DD.2 (by omega)) m0).symm) IY E3 (fun p e e2 e3 => (f3.1 p e e2).trans (f1 p e e2 e3)) (fun j e => by rw [f3.2 j e]; exact f2 j e) (fun f f0 f9 => by rw [f3.1 389 (by omega) (by omega)]; exact hv f f0 f9) (by assumption)
          | (exfalso; omega)
        refine r_aload_n (pc := 194) dX12_decimate_194 rfl ?_
        refine r_iload_n (pc := 195) dX12_decimate_195 rfl ?_
        refine r_iload (pc := 196) dX12_decimate_196 rfl ?_
        refine c_X12_153 (pc := 198) rfl dX12_decimate_198 (by first | assumption | rfl) (by omega) (Nat.le_of_ble_eq_true rfl) ?_
        refine m_X12_removes (d - 1) (by omega) (by assumption) hq (by omega) (by omega) (fun w198 f198 e198 hw198 => ?_)
        have T198 : CEQ (delX Y x) (mx w198 q) := (e198.tr (delX_cg E3.sy (by omega))).sy
        refine r_goto (pc := 201) (tgt := 96) dX12_decimate_201 rfl ?_
        first
        | exact ih _ (by omega) (m0 - 1) 1 (delX Y x) w198 _ _ _ _ rfl (Or.inr rfl) (fun _ => ⟨by rw [← decS_y (m := m0 - 1) (k := x) (by rw [ED]; exact (DD.1 (by omega)).symm) (by omega), show m0 - 1 + 1 = m0 by omega]; exact hd1, by rw [delX_n]; omega⟩) (fun z => by omega) (CI_del IY (by omega)) T198 (fun p e e2 e3 => by rw [f198.1 p e]; exact (f3.1 p e e2).trans (f1 p e e2 e3)) (fun j e => by rw [f198.2 j e, f3.2 j e]; exact f2 j e) (fun f f0 f9 => by rw [f198.1 389 (by omega), f3.1 389 (by omega) (by omega)]; exact hv f f0 f9) (by assumption)
        | exact ih _ (by omega) m0 0 Y w2 _ _ _ _ rfl (Or.inl rfl) (fun z => by omega) (fun _ => by rw [← hd1]; exact (decS_n rfl (by rw [ED]; exact DD.2 (by omega)) m0).symm) IY E3 (fun p e e2 e3 => (f3.1 p e e2).trans (f1 p e e2 e3)) (fun j e => by rw [f3.2 j e]; exact f2 j e) (fun f f0 f9 => by rw [f3.1 389 (by omega) (by omega)]; exact hv f f0 f9) (by assumption)
        | (exfalso; omega)
      refine r_iconst (pc := 182) (n := 1) dX12_decimate_182 ?_
      refine r_goto (pc := 183) (tgt := 187) dX12_decimate_183 rfl ?_
      refine r_istore6 (pc := 187) dX12_decimate_187 rfl ?_
      refine r_iload (pc := 189) dX12_decimate_189 rfl ?_
      refine r_ifeq (pc := 191) (tgt := 201) dX12_decimate_191 rfl (by omega) (fun h191 => ?_) (fun h191 => ?_)
      · refine r_goto (pc := 201) (tgt := 96) dX12_decimate_201 rfl ?_
        first
        | exact ih _ (by omega) (m0 - 1) 1 (delX Y x) w198 _ _ _ _ rfl (Or.inr rfl) (fun _ => ⟨by rw [← decS_y (m := m0 - 1) (k := x) (by rw [ED]; exact (DD.1 (by omega)).symm) (by omega), show m0 - 1 + 1 = m0 by omega]; exact hd1, by rw [delX_n]; omega⟩) (fun z => by omega) (CI_del IY (by omega)) T198 (fun p e e2 e3 => by rw [f198.1 p e]; exact (f3.1 p e e2).trans (f1 p e e2 e3)) (fun j e => by rw [f198.2 j e, f3.2 j e]; exact f2 j e) (fun f f0 f9 => by rw [f198.1 389 (by omega), f3.1 389 (by omega) (by omega)]; exact hv f f0 f9) (by assumption)
        | exact ih _ (by omega) m0 0 Y w2 _ _ _ _ rfl (Or.inl rfl) (fun z => by omega) (fun _ => by rw [← hd1]; exact (decS_n rfl (by rw [ED]; exact DD.2 (by omega)) m0).symm) IY E3 (fun p e e2 e3 => (f3.1 p e e2).trans (f1 p e e2 e3)) (fun j e => by rw [f3.2 j e]; exact f2 j e) (fun f f0 f9 => by rw [f3.1 389 (by omega) (by omega)]; exact hv f f0 f9) (by assumption)
        | (exfalso; omega)
      refine r_aload_n (pc := 194) dX12_decimate_194 rfl ?_
      refine r_iload_n (pc := 195) dX12_decimate_195 rfl ?_
      refine r_iload (pc := 196) dX12_decimate_196 rfl ?_
      refine c_X12_153 (pc := 198) rfl dX12_decimate_198 (by first | assumption | rfl) (by omega) (Nat.le_of_ble_eq_true rfl) ?_
      refine m_X12_removes (d - 1) (by omega) (by assumption) hq (by omega) (by omega) (fun w198 f198 e198 hw198 => ?_)
      have T198 : CEQ (delX Y x) (mx w198 q) := (e198.tr (delX_cg E3.sy (by omega))).sy
      refine r_goto (pc := 201) (tgt := 96) dX12_decimate_201 rfl ?_
      first
      | exact ih _ (by omega) (m0 - 1) 1 (delX Y x) w198 _ _ _ _ rfl (Or.inr rfl) (fun _ => ⟨by rw [← decS_y (m := m0 - 1) (k := x) (by rw [ED]; exact (DD.1 (by omega)).symm) (by omega), show m0 - 1 + 1 = m0 by omega]; exact hd1, by rw [delX_n]; omega⟩) (fun z => by omega) (CI_del IY (by omega)) T198 (fun p e e2 e3 => by rw [f198.1 p e]; exact (f3.1 p e e2).trans (f1 p e e2 e3)) (fun j e => by rw [f198.2 j e, f3.2 j e]; exact f2 j e) (fun f f0 f9 => by rw [f198.1 389 (by omega), f3.1 389 (by omega) (by omega)]; exact hv f f0 f9) (by assumption)
      | exact ih _ (by omega) m0 0 Y w2 _ _ _ _ rfl (Or.inl rfl) (fun z => by omega) (fun _ => by rw [← hd1]; exact (decS_n rfl (by rw [ED]; exact DD.2 (by omega)) m0).symm) IY E3 (fun p e e2 e3 => (f3.1 p e e2).trans (f1 p e e2 e3)) (fun j e => by rw [f3.2 j e]; exact f2 j e) (fun f f0 f9 => by rw [f3.1 389 (by omega) (by omega)]; exact hv f f0 f9) (by assumption)
      | (exfalso; omega)
    refine r_aload_n (pc := 122) dX12_decimate_122 rfl ?_
    refine r_iload_n (pc := 123) dX12_decimate_123 rfl ?_
    refine r_iload (pc := 124) dX12_decimate_124 rfl ?_
    refine c_X12_196 (pc := 126) rfl dX12_decimate_126 (by first | assumption | rfl) (by omega) (Nat.le_of_ble_eq_true rfl) ?_
    have yk : 0 ≤ k ∧ k < Y 0 0 := by omega
    refine m_X12_takes (d - 1) (by omega) (by assumption) hq (by omega) (by omega) (fun w126 f126 a0 a1 a2 a3 a4 e126 hw126 => ?_)
    rw [← E3.row (by omega) (by omega) yk.1 yk.2] at a0 a1 a2 a3 a4
    have T126 : CEQ (mx w126 q) (delX Y k) := e126.tr (delX_cg E3.sy yk.1)
    have ID := CI_del IY yk
    have I126 := ID.eq T126.sy
    have n126 := T126.1
    rw [delX_n] at n126
    refine r_aload_n (pc := 129) dX12_decimate_129 rfl ?_
    refine r_iload_n (pc := 130) dX12_decimate_130 rfl ?_
    refine r_iload (pc := 131) dX12_decimate_131 rfl ?_
    refine r_iload (pc := 133) dX12_decimate_133 rfl ?_
    refine c_X12_199 (pc := 135) rfl dX12_decimate_135 (by first | assumption | rfl) (by omega) (Nat.le_of_ble_eq_true rfl) ?_
    refine m_X12_error (s := s) (d - 1) (by omega) (by assumption) hq I126 (by omega) (by omega) (fun f f0 f9 => ⟨by rw [f126.1 389 (by omega) (by omega), f3.1 389 (by omega) (by omega)]; exact hv f f0 f9, SB f f0 f9⟩) (fun r135 e135 b135 c135 => ?_)
    have e135 : r135 = (fun k => erS (delX Y k) s a b) ((m : Int) + 1) := by
      rw [e135, ← hk]
      exact (erS_cg ID T126.sy.v s a b).symm
    refine r_istore10 (pc := 138) dX12_decimate_138 rfl ?_
    refine r_aload_n (pc := 140) dX12_decimate_140 rfl ?_
    refine r_iload_n (pc := 141) dX12_decimate_141 rfl ?_
    refine c_X12_202 (pc := 142) rfl dX12_decimate_142 (by first | assumption | rfl) (by omega) (Nat.le_of_ble_eq_true rfl) ?_
    refine m_X12_gives (X := Y) (k := k) (d - 1) (by omega) (by assumption) hq IY yk T126 a0 a1 a2 a3 a4 (fun w142 f142 e142 hw142 => ?_)
    refine r_iload (pc := 145) dX12_decimate_145 rfl ?_
    refine r_iflt (pc := 147) (tgt := 157) dX12_decimate_147 rfl (by omega) (fun h147 => ?_) (fun h147 => ?_)
    · have DN := DR_y dr e135 (by omega) (Or.inl (by omega))
      refine r_iload (pc := 157) dX12_decimate_157 rfl ?_
      refine r_istore7 (pc := 159) dX12_decimate_159 rfl ?_
      refine r_iload (pc := 161) dX12_decimate_161 rfl ?_
      refine r_istore8 (pc := 163) dX12_decimate_163 rfl ?_
      refine r_iinc9 (pc := 165) dX12_decimate_165 rfl ?_
      refine r_goto (pc := 168) (tgt := 110) dX12_decimate_168 rfl ?_
      first
      | exact ih2 _ (by omega) (m + 1) rfl (Or.inr (by omega)) w142 x y _ _ DN rx ry (by omega) ((f3.tr f126).tr f142.a) e142.sy (by assumption)
      | exact ih2 _ (by omega) (m + 1) rfl (Or.inr (by omega)) w142 k r135 _ _ (by rw [hk]; exact DN) (by omega) (by omega) (by omega) ((f3.tr f126).tr f142.a) e142.sy (by assumption)
    refine r_iload (pc := 150) dX12_decimate_150 rfl ?_
    refine r_iload (pc := 152) dX12_decimate_152 rfl ?_
    refine r_icmpge (pc := 154) (tgt := 165) dX12_decimate_154 rfl (by omega) (by omega) (fun h154 => ?_) (fun h154 => ?_)
    · have DN := DR_n dr e135 (by omega)
      refine r_iinc9 (pc := 165) dX12_decimate_165 rfl ?_
      refine r_goto (pc := 168) (tgt := 110) dX12_decimate_168 rfl ?_
      first
      | exact ih2 _ (by omega) (m + 1) rfl (Or.inr (by omega)) w142 x y _ _ DN rx ry (by omega) ((f3.tr f126).tr f142.a) e142.sy (by assumption)
      | exact ih2 _ (by omega) (m + 1) rfl (Or.inr (by omega)) w142 k r135 _ _ (by rw [hk]; exact DN) (by omega) (by omega) (by omega) ((f3.tr f126).tr f142.a) e142.sy (by assumption)
    have DN := DR_y dr e135 (by omega) (Or.inr (by omega))
    refine r_iload (pc := 157) dX12_decimate_157 rfl ?_
    refine r_istore7 (pc := 159) dX12_decimate_159 rfl ?_
    refine r_iload (pc := 161) dX12_decimate_161 rfl ?_
    refine r_istore8 (pc := 163) dX12_decimate_163 rfl ?_
    refine r_iinc9 (pc := 165) dX12_decimate_165 rfl ?_
    refine r_goto (pc := 168) (tgt := 110) dX12_decimate_168 rfl ?_
    first
    | exact ih2 _ (by omega) (m + 1) rfl (Or.inr (by omega)) w142 x y _ _ DN rx ry (by omega) ((f3.tr f126).tr f142.a) e142.sy (by assumption)
    | exact ih2 _ (by omega) (m + 1) rfl (Or.inr (by omega)) w142 k r135 _ _ (by rw [hk]; exact DN) (by omega) (by omega) (by omega) ((f3.tr f126).tr f142.a) e142.sy (by assumption)
  have loop96 : (0 ≤ q ∧ q ≤ 3) → (0 ≤ t ∧ t ≤ 9999) → CI (mx w q) → ∀ (a b : Int) (s : Int → Int), a = mx w q 1 0 → b = mx w q 1 (mx w q 0 0 - 1) → s = valS (mx w q) → (0 ≤ a ∧ a ≤ b ∧ b ≤ 480) → ∀ (nn : Int) (w25 : Wd), nn = G.now.c q 0 0 → MOG (recG G) w25 → FRH w w25 → ∀ n0 : Nat, ∀ (m0 : Nat) (g : Int) (Y : CP) (w1 : Wd) (o7 o8 o9 o10 : Option AV), 2 * m0 + g.toNat = n0 → (g = 0 ∨ g = 1) → (g = 1 → decS s t a b m0 Y = decX (mx w q) t ∧ Y 0 0 ≤ m0) → (g = 0 → Y = decX (mx w q) t) → CI Y → CEQ Y (mx w1 q) → (∀ p, p ≠ 386 → p ≠ 394 → p ≠ 389 → w1 p = w25 p) → (∀ j, (j < 128 * q ∨ 128 * q + 128 ≤ j) → w1 386 j = w25 386 j) → (∀ f, a ≤ f → f ≤ b → w1 389 (f - a) = s f) → WR w1 → V mX12_decimate (Rm d) 0 0 96 [some (vR (some 385)), some (vI q), some (vI t), some (vI nn), some (vI a), some (vI b), some (vI g), o7, o8, o9, o10] [] (fl w1) (lQ Q) := by
    intro hq ht I0 a b s ha hb hs hab nn w25 hnn C25 FL25
    have CV := hC.cv hq
    have iq : inC q := hq
    have eN : G.now.c q 0 0 = mx w q 0 0 := CV.1
    have hn : 0 ≤ mx w q 0 0 ∧ mx w q 0 0 ≤ 24 := I0.1
    have SB : ∀ f, a ≤ f → f ≤ b → -200000000 ≤ s f ∧ s f ≤ 200000000 := fun f f0 f1 => by rw [hs]; exact valS_bd I0 (by omega)
    refine ind_lt ?_
    intro n0 ih m0 g Y w1 o7 o8 o9 o10 hm hg g1 g0 IY EY f1 f2 hv hw1
    refine r_iload (pc := 96) dX12_decimate_96 rfl ?_
    refine r_ifeq (pc := 98) (tgt := 204) dX12_decimate_98 rfl (by omega) (fun h98 => ?_) (fun h98 => ?_)
    · have EX := g0 (by omega)
      have o : o_decimate G q t = (G.now.c q 0 0 - decX (G.now.c q) t 0 0, setC (recG G) q (decX (G.now.c q) t)) := by
        unfold o_decimate
        rw [if_neg (fun z => z iq), if_neg (by omega)]
      have KX := CV.dec2 I0 t
      have KX0 := KX.1
      have C1 := MOG_cur (w2 := w1) (X := decX (G.now.c q) t) hG2 hq C25 (fun i e => f1 i (by omega) (by omega) (by omega)) f2 (by rw [EX] at EY; exact KX.tr EY.v) (IY.eq EY)
      refine r_iload_n (pc := 204) dX12_decimate_204 rfl ?_
      refine r_aload_n (pc := 205) dX12_decimate_205 rfl ?_
      refine r_iload_n (pc := 206) dX12_decimate_206 rfl ?_
      refine c_X12_78 (pc := 207) rfl dX12_decimate_207 (by first | assumption | rfl) (by omega) (Nat.le_of_ble_eq_true rfl) ?_
      refine m_X12_many (d - 1) (by omega) (by assumption) hq (fun r207 e207 b207 => ?_)
      rw [← EY.1, g0 (by omega)] at e207
      refine r_isub (pc := 210) dX12_decimate_210 ?_
      exact f_iret (pc := 211) dX12_decimate_211 rfl (by assumption) (hQ _ _ (fst_m o (by omega)) (snd_m o C1) (FL25.tr (fun p e => f1 p (by omega) (by omega) (by omega))) (by assumption))
    have gg : g = 1 := by omega
    subst gg
    refine r_iconst (pc := 101) (n := (-1)) dX12_decimate_101 ?_
    refine r_istore7 (pc := 102) dX12_decimate_102 rfl ?_
    refine r_iconst (pc := 104) (n := 0) dX12_decimate_104 ?_
    refine r_istore8 (pc := 105) dX12_decimate_105 rfl ?_
    refine r_iconst (pc := 107) (n := 1) dX12_decimate_107 ?_
    refine r_istore9 (pc := 108) dX12_decimate_108 rfl ?_
    exact loop110 hq ht I0 a b s ha hb hs hab nn w25 hnn C25 FL25 n0 ih m0 Y w1 (by rw [← hm]; rfl) (g1 (by omega)).1 (g1 (by omega)).2 IY EY f1 f2 hv hw1 _ 0 rfl (Or.inl rfl) w1 (-1) 0 1 _ (Or.inl ⟨rfl, rfl⟩) (by omega) (by omega) (by omega) ⟨fun _ _ _ => rfl, fun _ _ => rfl⟩ EY (by assumption)
  have loop63 : (0 ≤ q ∧ q ≤ 3) → (0 ≤ t ∧ t ≤ 9999) → CI (mx w q) → ∀ (a b : Int) (s : Int → Int), a = mx w q 1 0 → b = mx w q 1 (mx w q 0 0 - 1) → s = valS (mx w q) → (0 ≤ a ∧ a ≤ b ∧ b ≤ 480) → ∀ (nn : Int) (w25 : Wd), nn = G.now.c q 0 0 → MOG (recG G) w25 → FRH w w25 → 2 < mx w q 0 0 → mx w25 q = mx w q → ∀ n0 : Nat, ∀ m : Nat, (b - a + 1 - m).toNat = n0 → (m : Int) ≤ b - a + 1 → ∀ (w1 : Wd) (f : Int) (o7 o8 o9 o10 : Option AV), f = a + m → (∀ j : Int, 0 ≤ j → j < m → w1 389 j = s (a + j)) → (∀ p, p ≠ 389 → w1 p = w25 p) → WR w1 → V mX12_decimate (Rm d) 0 0 63 [some (vR (some 385)), some (vI q), some (vI t), some (vI nn), some (vI a), some (vI b), some (vI f), o7, o8, o9, o10] [] (fl w1) (lQ Q) := by
    intro hq ht I0 a b s ha hb hs hab nn w25 hnn C25 FL25
    have CV := hC.cv hq
    have iq : inC q := hq
    have eN : G.now.c q 0 0 = mx w q 0 0 := CV.1
    have hn : 0 ≤ mx w q 0 0 ∧ mx w q 0 0 ≤ 24 := I0.1
    have SB : ∀ f, a ≤ f → f ≤ b → -200000000 ≤ s f ∧ s f ≤ 200000000 := fun f f0 f1 => by rw [hs]; exact valS_bd I0 (by omega)
    intro n2 X25
    refine ind_lt ?_
    intro n0 ih m hm hmb w1 f o7 o8 o9 o10 hf hv hf1 hw1
    have X1 : mx w1 q = mx w q := by rw [← X25]; unfold mx; rw [hf1 386 (by omega)]
    refine r_iload (pc := 63) dX12_decimate_63 rfl ?_
    refine r_iload (pc := 65) dX12_decimate_65 rfl ?_
    refine r_icmpgt (pc := 67) (tgt := 93) dX12_decimate_67 rfl (by omega) (by omega) (fun h67 => ?_) (fun h67 => ?_)
    · refine r_iconst (pc := 93) (n := 1) dX12_decimate_93 ?_
      refine r_istore6 (pc := 94) dX12_decimate_94 rfl ?_
      exact loop96 hq ht I0 a b s ha hb hs hab nn w25 hnn C25 FL25 _ 24 1 (mx w q) w1 _ _ _ _ rfl (Or.inr rfl) (fun _ => ⟨by rw [hs, ha, hb]; rfl, by omega⟩) (fun z => by omega) I0 (by rw [X1]; exact CEQ.rf _) (fun p e e2 e3 => hf1 p e3) (fun j e => by rw [hf1 386 (by omega)]) (fun f f0 f9 => by rw [hv (f - a) (by omega) (by omega)]; congr 1; omega) (by assumption)
    refine r_aload_n (pc := 70) dX12_decimate_70 rfl ?_
    refine h_X12_19 (pc := 71) rfl dX12_decimate_71 ?_
    refine r_iload (pc := 74) dX12_decimate_74 rfl ?_
    refine r_iload (pc := 76) dX12_decimate_76 rfl ?_
    refine r_isub (pc := 78) dX12_decimate_78 ?_
    refine r_aload_n (pc := 79) dX12_decimate_79 rfl ?_
    refine r_iload_n (pc := 80) dX12_decimate_80 rfl ?_
    refine r_iload (pc := 81) dX12_decimate_81 rfl ?_
    refine c_X12_133 (pc := 83) rfl dX12_decimate_83 (by first | assumption | rfl) (by omega) (Nat.le_of_ble_eq_true rfl) ?_
    refine m_X12_valueAt (d - 1) (by omega) (by assumption) hq (by rw [X1]; exact I0) (by rw [X1]; omega) (by omega) (fun r83 e83 b83 => ?_)
    rw [X1] at e83
    refine f_iast (pc := 86) dX12_decimate_86 (n := 481) (by assumption) (by first | assumption | rfl) (by omega) (by omega) (by omega) (by omega) (fun hw86 => ?_)
    refine r_iinc6 (pc := 87) dX12_decimate_87 rfl ?_
    refine r_goto (pc := 90) (tgt := 63) dX12_decimate_90 rfl ?_
    exact ih _ (by omega) (m + 1) rfl (by omega) _ _ _ _ _ _ (by omega) (fun j j0 j1 => by
      by_cases z : j = m
      · rw [z, show (m : Int) = f - a by omega, up_hit, e83, hs, show a + (f - a) = f by omega]
      · rw [up_off (by omega)]; exact hv j j0 (by omega)) (fun p e => by rw [up_ne e]; exact hf1 p e) (by assumption)
  refine r_iload_n (pc := 0) dX12_decimate_0 rfl ?_
  refine c_X12_74 (pc := 1) rfl dX12_decimate_1 (by omega) (Nat.le_of_ble_eq_true rfl) ?_
  refine m_X12_isCurve (d - 1) (by omega) (by assumption) (by omega) (fun r1 e1 b1 => ?_)
  have i1 := b2i_i e1
  refine r_ifne (pc := 4) (tgt := 10) dX12_decimate_4 rfl (by omega) (fun h4 => ?_) (fun h4 => ?_)
  · have hq : 0 ≤ q ∧ q ≤ 3 := by omega
    have iq : inC q := hq
    have CV := hC.cv hq
    have I0 := hC.ci hq
    have hn : 0 ≤ mx w q 0 0 ∧ mx w q 0 0 ≤ 24 := I0.1
    have eN : G.now.c q 0 0 = mx w q 0 0 := CV.1
    refine r_iload_n (pc := 10) dX12_decimate_10 rfl ?_
    refine r_iconst (pc := 11) (n := 0) dX12_decimate_11 ?_
    refine r_sipush (pc := 12) (n := 9999) dX12_decimate_12 (by decide) ?_
    refine c_X12_66 (pc := 15) rfl dX12_decimate_15 (by omega) (Nat.le_of_ble_eq_true rfl) ?_
    refine m_X12_in (d - 1) (by omega) (by assumption) (by omega) (by omega) (by omega) (fun r15 e15 b15 => ?_)
    have i15 := b2i_i e15
    refine r_ifne (pc := 18) (tgt := 24) dX12_decimate_18 rfl (by omega) (fun h18 => ?_) (fun h18 => ?_)
    · refine r_aload_n (pc := 24) dX12_decimate_24 rfl ?_
      refine c_X12_146 (pc := 25) rfl dX12_decimate_25 (by first | assumption | rfl) (by omega) (Nat.le_of_ble_eq_true rfl) ?_
      refine m_X12_changes (d - 1) (by omega) (by assumption) hp (fun w25 c25 hw25 => ?_)
      obtain ⟨C25, F25⟩ := MOG_rec hG hC c25
      have X25 : mx w25 q = mx w q := by unfold mx; rw [F25 386 (by omega) (by omega)]
      have FL25 : FRH w w25 := fun p e => F25 p (by omega) (by omega)
      have o : o_decimate G q t = (G.now.c q 0 0 - decX (G.now.c q) t 0 0, setC (recG G) q (decX (G.now.c q) t)) := by
        unfold o_decimate
        rw [if_neg (fun z => z iq), if_neg (by omega)]
      refine r_aload_n (pc := 28) dX12_decimate_28 rfl ?_
      refine r_iload_n (pc := 29) dX12_decimate_29 rfl ?_
      refine c_X12_78 (pc := 30) rfl dX12_decimate_30 (by first | assumption | rfl) (by omega) (Nat.le_of_ble_eq_true rfl) ?_
      refine m_X12_many (d - 1) (by omega) (by assumption) hq (fun r30 e30 b30 => ?_)
      rw [X25] at e30
      subst e30
      refine r_istore3 (pc := 33) dX12_decimate_33 rfl ?_
      refine r_iload_n (pc := 34) dX12_decimate_34 rfl ?_
      refine r_iconst (pc := 35) (n := 3) dX12_decimate_35 ?_
      refine r_icmpge (pc := 36) (tgt := 41) dX12_decimate_36 rfl (by omega) (by omega) (fun h36 => ?_) (fun h36 => ?_)
      · refine r_aload_n (pc := 41) dX12_decimate_41 rfl ?_
        refine r_iload_n (pc := 42) dX12_decimate_42 rfl ?_
        refine r_iconst (pc := 43) (n := 0) dX12_decimate_43 ?_
        refine c_X12_82 (pc := 44) rfl dX12_decimate_44 (by first | assumption | rfl) (by omega) (Nat.le_of_ble_eq_true rfl) ?_
        refine m_X12_frame (d - 1) (by omega) (by assumption) hq (by omega) (fun r44 e44 b44 => ?_)
        rw [X25] at e44
        refine r_istore4 (pc := 47) dX12_decimate_47 rfl ?_
        refine r_aload_n (pc := 49) dX12_decimate_49 rfl ?_
        refine r_iload_n (pc := 50) dX12_decimate_50 rfl ?_
        refine r_iload_n (pc := 51) dX12_decimate_51 rfl ?_
        refine r_iconst (pc := 52) (n := 1) dX12_decimate_52 ?_
        refine r_isub (pc := 53) dX12_decimate_53 ?_
        refine c_X12_82 (pc := 54) rfl dX12_decimate_54 (by first | assumption | rfl) (by omega) (Nat.le_of_ble_eq_true rfl) ?_
        refine m_X12_frame (d - 1) (by omega) (by assumption) hq (by omega) (fun r54 e54 b54 => ?_)
        rw [X25] at e54
        have P0 := I0.2.1 0 (by omega) (by omega)
        have P9 := I0.2.1 (mx w q 0 0 - 1) (by omega) (by omega)
        have P1 := I0.2.2.1 0 (mx w q 0 0 - 1) (by omega) (by omega) (by omega)
        have hab : 0 ≤ r44 ∧ r44 ≤ r54 ∧ r54 ≤ 480 := by omega
        refine r_istore5 (pc := 57) dX12_decimate_57 rfl ?_
        refine r_iload (pc := 59) dX12_decimate_59 rfl ?_
        refine r_istore6 (pc := 61) dX12_decimate_61 rfl ?_
        exact loop63 hq (by omega) I0 _ _ _ e44 e54 rfl hab _ w25 (by omega) C25 FL25 (by omega) X25 _ 0 rfl (by omega) w25 _ _ _ _ _ (by omega) (fun j a b => by omega) (fun _ _ => rfl) (by assumption)
      have dz : decX (G.now.c q) t = G.now.c q := decS_n rfl (dcS_few (by omega)) 24
      have C40 := MOG_cur (w2 := w25) (X := decX (G.now.c q) t) hG2 hq C25 (fun _ _ => rfl) (fun _ _ => rfl) (by rw [X25, dz]; exact CV) (by rw [X25]; exact I0)
      refine r_iconst (pc := 39) (n := 0) dX12_decimate_39 ?_
      exact f_iret (pc := 40) dX12_decimate_40 rfl (by assumption) (hQ _ _ (fst_m o (by rw [dz]; omega)) (snd_m o C40) FL25 (by assumption))
    have o : o_decimate G q t = (-1000000002, G) := by
      unfold o_decimate
      rw [if_neg (fun z => z iq), if_pos (by omega)]
    refine r_ldc (pc := 21) (n := -1000000002) dX12_decimate_21 kw_X12_132 rfl ?_
    exact f_iret (pc := 23) dX12_decimate_23 rfl (by assumption) (hQ _ _ (fst_m o (by omega)) (snd_m o hC) (FRH.rf w) (by assumption))
  have o : o_decimate G q t = (-1000000001, G) := by
    unfold o_decimate
    exact if_pos (fun z => by have z : 0 ≤ q ∧ q ≤ 3 := z; omega)
  refine r_ldc (pc := 7) (n := -1000000001) dX12_decimate_7 kw_X12_131 rfl ?_
  exact f_iret (pc := 9) dX12_decimate_9 rfl (by assumption) (hQ _ _ (fst_m o (by omega)) (snd_m o hC) (FRH.rf w) (by assumption))
