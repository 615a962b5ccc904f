/-! every call keeps the state good -/
theorem G_setKey {G : GS} (h : GOK G) (q f v : Int) : GOK (o_setKey G q f v).2 := by
  unfold o_setKey
  split
  · exact h
  split
  · exact h
  split
  · exact h
  split
  · exact GOK_rec h
  · exact GOK_rec h
theorem G_removeKey {G : GS} (h : GOK G) (q f : Int) : GOK (o_removeKey G q f).2 := by
  unfold o_removeKey
  split
  · exact h
  split
  · exact h
  · exact GOK_rec h
theorem G_moveKey {G : GS} (h : GOK G) (q f t : Int) : GOK (o_moveKey G q f t).2 := by
  unfold o_moveKey
  split
  · exact h
  split
  · exact h
  split
  · exact h
  split
  · exact h
  · exact GOK_rec h
theorem G_setMode {G : GS} (h : GOK G) (q f m : Int) : GOK (o_setMode G q f m).2 := by
  unfold o_setMode
  split
  · exact h
  split
  · exact h
  split
  · exact h
  · exact GOK_rec h
theorem G_setSlopes {G : GS} (h : GOK G) (q f a b : Int) : GOK (o_setSlopes G q f a b).2 := by
  unfold o_setSlopes
  split
  · exact h
  split
  · exact h
  split
  · exact h
  · exact GOK_rec h
theorem G_split {G : GS} (h : GOK G) (q f : Int) : GOK (o_split G q f).2 := by
  unfold o_split
  split
  · exact h
  split
  · exact h
  split
  · exact h
  · exact GOK_rec h
theorem G_clear {G : GS} (h : GOK G) (q : Int) : GOK (o_clear G q).2 := by
  unfold o_clear
  split
  · exact h
  · exact GOK_rec h
theorem G_setExtrapolation {G : GS} (h : GOK G) (q a b : Int) : GOK (o_setExtrapolation G q a b).2 := by
  unfold o_setExtrapolation
  split
  · exact h
  split
  · exact h
  · exact GOK_rec h
theorem G_undo {G : GS} (h : GOK G) : GOK (o_undo G).2 := by
  unfold o_undo
  split
  · exact h
  · exact GOK_und h (by assumption)
theorem GOK_map {G : GS} (h : GOK G) {n : Int} {s g : Int → Int} (hM : MI n s g) : GOK (setM G n s g) := ⟨⟨hM, h.1.2⟩, h.2⟩
theorem G_addPoint {G : GS} (h : GOK G) (a b : Int) : GOK (o_addPoint G a b).2 := by
  unfold o_addPoint
  split
  · exact h
  split
  · exact h
  · rename_i c1 c2
    have M := h.1.1
    obtain ⟨n0, n8, P, O⟩ := M
    have c : (0 ≤ a ∧ a ≤ 480) ∧ (0 ≤ b ∧ b ≤ 480) ∧ (G.now.n = 0 ∨ (a > G.now.s (G.now.n - 1) ∧ b > G.now.g (G.now.n - 1))) := by omega
    refine GOK_map (GOK_rec h) ⟨by omega, by omega, fun j j0 j1 => ?_, fun i j i0 ij j1 => ?_⟩
    · unfold updI
      by_cases z : j = G.now.n
      · rw [if_pos z, if_pos z]; omega
      · rw [if_neg z, if_neg z]; exact P j j0 (by omega)
    · unfold updI
      have ni : ¬ i = G.now.n := by omega
      rw [if_neg ni, if_neg ni]
      by_cases z : j = G.now.n
      · rw [if_pos z, if_pos z]
        rcases c.2.2 with e | e
        · omega
        · by_cases y : i = G.now.n - 1
          · rw [y]; exact e
          · have := O i (G.now.n - 1) i0 (by omega) (by omega)
            omega
      · rw [if_neg z, if_neg z]; exact O i j i0 ij (by omega)
theorem G_clearMap {G : GS} (h : GOK G) : GOK (o_clearMap G).2 := GOK_map (GOK_rec h) ⟨Int.le_refl 0, by omega, fun j a b => by omega, fun i j a b c => by omega⟩
theorem G_retime {G : GS} (h : GOK G) (q : Int) : GOK (o_retime G q).2 := by
  unfold o_retime
  split
  · exact h
  split
  · exact h
  · exact GOK_rec h
theorem G_bake {G : GS} (h : GOK G) (q a b e : Int) : GOK (o_bake G q a b e).2 := by
  unfold o_bake
  split
  · exact h
  split
  · exact h
  split
  · exact h
  split
  · exact h
  · exact GOK_rec h
theorem G_bakeFormula {G : GS} (h : GOK G) (q a b e : Int) : GOK (o_bakeFormula G q a b e).2 := by
  unfold o_bakeFormula
  split
  · exact h
  split
  · exact h
  split
  · exact h
  · exact GOK_rec h
theorem G_decimate {G : GS} (h : GOK G) (q t : Int) : GOK (o_decimate G q t).2 := by
  unfold o_decimate
  split
  · exact h
  split
  · exact h
  · exact GOK_rec h
theorem G_append {G : GS} (h : GOK G) (l : Int) : GOK (o_append G l).2 := by
  unfold o_append
  split
  · exact h
  split
  · exact h
  · rename_i c
    have b := h.2.2.2
    exact ⟨h.1, h.2.1, h.2.2.1, by show 0 ≤ G.len + 1; omega, by show G.len + 1 ≤ 120; omega⟩
theorem G_clearText {G : GS} (h : GOK G) : GOK (o_clearText G).2 := ⟨h.1, h.2.1, h.2.2.1, Int.le_refl 0, by show (0 : Int) ≤ 120; omega⟩
theorem G_readCurve {G : GS} (h : GOK G) (q : Int) : GOK (o_readCurve G q).2 := by
  unfold o_readCurve
  split
  · exact h
  · cases crS G.T G.len with
    | inl _ => exact h
    | inr L => exact GOK_rec h
theorem prs_good {T : Int → Int} {len q : Int} {e : EE} (h0 : 0 ≤ len) (h : prsS T len = .inr (q, e)) : GE e ∧ (e.1.length : Int) ≤ len := by
  have g := GP_sum (T := T) (len := len) (f := facS T len 8) (GP_fac 8) (p := 0) h0
  unfold prsS at h
  cases hs : sumS T len (facS T len 8) 0 with
  | inl x => rw [hs] at h; cases h
  | inr p =>
    obtain ⟨q2, e2⟩ := p
    rw [hs] at g h
    have h : (if q2 < len then (Sum.inl q2 : PR) else .inr (q2, e2)) = .inr (q, e) := h
    obtain ⟨g1, g2, g3, g4⟩ := g
    by_cases z : q2 < len
    · rw [if_pos z] at h; cases h
    · rw [if_neg z] at h
      have h := Sum.inr.inj h
      have e1 : e2 = e := (Prod.mk.inj h).2
      rw [← e1]
      exact ⟨g3, by omega⟩
theorem G_readFormula {G : GS} (h : GOK G) : GOK (o_readFormula G).2 := by
  unfold o_readFormula
  cases hp : prsS G.T G.len with
  | inl _ => exact h
  | inr p =>
    obtain ⟨q, e⟩ := p
    have g := prs_good h.2.2.2.1 hp
    have b := h.2.2.2.2
    have k := GOK_rec h
    exact ⟨⟨k.1.1, g.1, by show e.1.length ≤ 120; omega⟩, k.2⟩
