/-! how the model holds the whole state -/
def mv (v : Int → Int) (q : Int) : CP := fun r j => v (128 * q + (if r = 0 then 0 else 24 * (r : Int) - 20) + j)
def SMO (S : SS) (v : Int → Int) : Prop := (∀ q, 0 ≤ q → q ≤ 3 → CEV (S.c q) (mv v q) ∧ CI (mv v q)) ∧ v 512 = S.n ∧ (∀ j, 0 ≤ j → j < S.n → v (513 + j) = S.s j ∧ v (521 + j) = S.g j) ∧ ∃ (T : Int → Int) (len q : Int), prsS T len = .inr (q, S.f) ∧ v 530 = len ∧ (0 ≤ len ∧ len ≤ 120) ∧ ∀ j, 0 ≤ j → j < len → v (531 + j) = T j
def MOG (G : GS) (w : Wd) : Prop := SMO G.now (w 386) ∧ w 385 2 = G.k ∧ (∀ i, 0 ≤ i → i < G.k → SMO (G.past i) (fun j => w 387 (660 * i + j))) ∧ w 385 4 = G.len ∧ ∀ j, 0 ≤ j → j < G.len → w 388 j = G.T j
def FRH (w w2 : Wd) : Prop := ∀ p, (p < 385 ∨ 401 < p) → w2 p = w p
theorem FRH.rf (w : Wd) : FRH w w := fun _ _ => rfl
theorem FRH.tr {w w1 w2 : Wd} (h : FRH w w1) (g : FRH w1 w2) : FRH w w2 := fun p e => (g p e).trans (h p e)
theorem mv_mx (w : Wd) (q : Int) : mv (w 386) q = mx w q := rfl
theorem mv_eq {v v2 : Int → Int} {q : Int} (h0 : 0 ≤ q) (h1 : q ≤ 3) (e : ∀ k, 0 ≤ k → k < 512 → v2 k = v k) : EQ24 (mv v q) (mv v2 q) := fun r j h => by
  unfold mv
  rcases h with h | h
  · rw [if_pos h.1, e _ (by omega) (by omega)]
  · rw [if_neg (by omega), e _ (by omega) (by omega)]
theorem SMO_cg {S : SS} {v v2 : Int → Int} (hS : MI S.n S.s S.g) (e : ∀ k, 0 ≤ k → k < 660 → v2 k = v k) (h : SMO S v) : SMO S v2 := by
  obtain ⟨h1, h2, h3, T, len, q, h4, h5, h6, h7⟩ := h
  have n0 := hS.1
  have n8 := hS.2.1
  refine ⟨fun q a b => ?_, by rw [e _ (by omega) (by omega)]; exact h2, fun j a b => by rw [e _ (by omega) (by omega), e _ (by omega) (by omega)]; exact h3 j a b, T, len, q, h4, by rw [e _ (by omega) (by omega)]; exact h5, h6, fun j a b => by rw [e _ (by omega) (by omega)]; exact h7 j a b⟩
  have E := (mv_eq a b (fun k u v => e k u (by omega))).ceq (h1 q a b).2.1.2
  exact ⟨(h1 q a b).1.tr E.v, (h1 q a b).2.eq E⟩
theorem MOG.cv {G : GS} {w : Wd} (h : MOG G w) {q : Int} (hq : 0 ≤ q ∧ q ≤ 3) : CEV (G.now.c q) (mx w q) := (h.1.1 q hq.1 hq.2).1
theorem MOG.ci {G : GS} {w : Wd} (h : MOG G w) {q : Int} (hq : 0 ≤ q ∧ q ≤ 3) : CI (mx w q) := (h.1.1 q hq.1 hq.2).2
theorem MOG.hp {G : GS} {w : Wd} (hG : GOK G) (h : MOG G w) : 0 ≤ w 385 2 ∧ w 385 2 ≤ 10 := by rw [h.2.1]; exact hG.2.1
theorem MOG_rec {G : GS} {w w2 : Wd} (hG : GOK G) (h : MOG G w) (c : CHG w w2) : MOG (recG G) w2 ∧ ∀ i, i ≠ 385 → i ≠ 387 → w2 i = w i := by
  obtain ⟨h1, h2, h3, h4, h5⟩ := h
  obtain ⟨c1, c2, c3, c4, c5⟩ := c
  obtain ⟨k0, k1⟩ := hG.2.1
  unfold chP at c3 c4 c5
  unfold chO at c4
  rw [h2] at c3 c4 c5
  refine ⟨⟨?_, c3, fun i a b => ?_, by rw [c2 4 (by omega)]; exact h4, by rw [c1 388 (by omega) (by omega)]; exact h5⟩, c1⟩
  · rw [c1 386 (by omega) (by omega)]; exact h1
  · have b : i < (if G.k = 10 then 9 else G.k) + 1 := b
    show SMO (if i = (if G.k = 10 then 9 else G.k) then G.now else G.past (i + (if G.k = 10 then 1 else 0))) (fun j => w2 387 (660 * i + j))
    by_cases z : i = (if G.k = 10 then 9 else G.k)
    · rw [if_pos z]
      refine SMO_cg hG.1.1 (fun k u v => ?_) h1
      rw [z]
      exact c5 k u v
    · rw [if_neg z]
      have i1 : 0 ≤ i + (if G.k = 10 then 1 else 0) := by split <;> omega
      have i2 : i + (if G.k = 10 then 1 else 0) < G.k := by split <;> split at b <;> split at z <;> omega
      refine SMO_cg (hG.2.2.1 _ i1 i2).1 (fun k u v => ?_) (h3 _ i1 i2)
      show w2 387 (660 * i + k) = w 387 (660 * (i + (if G.k = 10 then 1 else 0)) + k)
      rw [c4 _ (by omega) (by split <;> split at b <;> split at z <;> omega)]
      congr 1
      split <;> omega
theorem MOG_und {G : GS} {w w2 : Wd} (hG : GOK G) (hk : G.k ≠ 0) (h : MOG G w) (f : ∀ i, i ≠ 385 → i ≠ 386 → w2 i = w i) (f2 : ∀ j, j ≠ 2 → w2 385 j = w 385 j) (e : w2 385 2 = w 385 2 - 1) (e2 : ∀ k, 0 ≤ k → k < 660 → w2 386 k = w 387 (660 * (w 385 2 - 1) + k)) : MOG (undG G) w2 := by
  obtain ⟨h1, h2, h3, h4, h5⟩ := h
  obtain ⟨k0, k1⟩ := hG.2.1
  rw [h2] at e e2
  refine ⟨SMO_cg (hG.2.2.1 _ (by omega) (by omega)).1 e2 (h3 (G.k - 1) (by omega) (by omega)), e, fun i a b => ?_, by rw [f2 4 (by omega)]; exact h4, by rw [f 388 (by omega) (by omega)]; exact h5⟩
  have b : i < G.k - 1 := b
  rw [f 387 (by omega) (by omega)]
  exact h3 i a (by omega)
theorem MOG_kp {G : GS} {w w2 : Wd} (h : MOG G w) (f : w2 386 = w 386) (f2 : w2 387 = w 387) (f3 : w2 388 = w 388) (e : w2 385 2 = w 385 2) (e2 : w2 385 4 = w 385 4) : MOG G w2 := by
  obtain ⟨h1, h2, h3, h4, h5⟩ := h
  exact ⟨by rw [f]; exact h1, e.trans h2, by rw [f2]; exact h3, e2.trans h4, by rw [f3]; exact h5⟩
theorem MOG_cur {G : GS} {w w2 : Wd} {q : Int} {X : CP} (hG : GOK G) (hq : 0 ≤ q ∧ q ≤ 3) (h : MOG G w) (f : ∀ i, i = 385 ∨ i = 387 ∨ i = 388 → w2 i = w i) (f2 : ∀ j, (j < 128 * q ∨ 128 * q + 128 ≤ j) → w2 386 j = w 386 j) (e : CEV X (mx w2 q)) (hI : CI (mx w2 q)) : MOG (setC G q X) w2 := by
  obtain ⟨⟨h1, g2, g3, T, len, p, g4, g5, g6, g7⟩, h2, h3, h4, h5⟩ := h
  have n0 := hG.1.1.1
  refine ⟨⟨fun p a b => ?_, by rw [f2 _ (by omega)]; exact g2, fun j a b => ?_, T, len, p, g4, by rw [f2 _ (by omega)]; exact g5, g6, fun j a b => by rw [f2 _ (by omega)]; exact g7 j a b⟩, by rw [f 385 (by omega)]; exact h2, by rw [f 387 (by omega)]; exact h3, by rw [f 385 (by omega)]; exact h4, by rw [f 388 (by omega)]; exact h5⟩
  · show CEV (if p = q then X else G.now.c p) (mx w2 p) ∧ CI (mx w2 p)
    by_cases z : p = q
    · rw [if_pos z, z]; exact ⟨e, hI⟩
    · rw [if_neg z]
      have E := (mx_kp (w := w) (w2 := w2) (q := p) (fun j u v => f2 j (by omega))).ceq (h1 p a b).2.1.2
      exact ⟨(h1 p a b).1.tr E.v, (h1 p a b).2.eq E⟩
  · have a : 0 ≤ j := a
    rw [f2 _ (by omega), f2 _ (by omega)]
    exact g3 j a b
theorem MOG_fq {G : GS} {w w2 : Wd} {q : Int} {X : CP} (hG : GOK G) (hq : 0 ≤ q ∧ q ≤ 3) (h : MOG G w) (f : FQ q w w2) (e : CEV X (mx w2 q)) (hI : CI (mx w2 q)) : MOG (setC G q X) w2 := MOG_cur hG hq h (fun i z => f.1 i (by omega)) f.2 e hI
theorem fst_m {a b : Int} {G : GS} {o : Int × GS} (h : o = (b, G)) (e : a = b) : a = o.1 := by rw [h]; exact e
theorem snd_m {G : GS} {b : Int} {w : Wd} {o : Int × GS} (h : o = (b, G)) (e : MOG G w) : MOG o.2 w := by rw [h]; exact e
