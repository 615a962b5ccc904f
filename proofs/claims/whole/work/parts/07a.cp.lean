/-! pictures of curves: what follows from equal places -/
theorem CEQ.rf (X : CP) : CEQ X X := ⟨rfl, rfl, rfl, fun _ _ _ _ _ _ => rfl⟩
theorem CEQ.sy {X Y : CP} (h : CEQ X Y) : CEQ Y X := by
  obtain ⟨h0, h1, h2, h3⟩ := h
  exact ⟨h0.symm, h1.symm, h2.symm, fun r a b j c d => (h3 r a b j c (by omega)).symm⟩
theorem CEQ.tr {X Y Z : CP} (h : CEQ X Y) (g : CEQ Y Z) : CEQ X Z := by
  obtain ⟨h0, h1, h2, h3⟩ := h
  obtain ⟨g0, g1, g2, g3⟩ := g
  exact ⟨h0.trans g0, h1.trans g1, h2.trans g2, fun r a b j c d => (h3 r a b j c d).trans (g3 r a b j c (by omega))⟩
theorem CEQ.row {X Y : CP} (h : CEQ X Y) {r : Nat} {j : Int} (h1 : 1 ≤ r) (h5 : r ≤ 5) (hj : 0 ≤ j) (hn : j < X 0 0) : X r j = Y r j := h.2.2.2 r h1 h5 j hj hn
theorem CI.eq {X Y : CP} (h : CI X) (e : CEQ X Y) : CI Y := by
  obtain ⟨hn, P, O, b⟩ := h
  have r := fun r j h1 h5 h0 hj => (CEQ.row e (r := r) (j := j) h1 h5 h0 hj)
  obtain ⟨e0, e1, e2, -⟩ := e
  refine ⟨by omega, fun j h0 hj => ?_, fun i j h0 hij hj => ?_, by omega⟩
  · have p := P j h0 (by omega)
    rw [r 1 j (by omega) (by omega) h0 (by omega), r 2 j (by omega) (by omega) h0 (by omega), r 3 j (by omega) (by omega) h0 (by omega), r 4 j (by omega) (by omega) h0 (by omega), r 5 j (by omega) (by omega) h0 (by omega)] at p
    exact p
  · have p := O i j h0 hij (by omega)
    rw [r 1 j (by omega) (by omega) (by omega) (by omega), r 1 i (by omega) (by omega) h0 (by omega)] at p
    exact p
/-- equal but for the slopes of keys that are not free: those are seen by nobody -/
def CEV (X Y : CP) : Prop := X 0 0 = Y 0 0 ∧ X 0 1 = Y 0 1 ∧ X 0 2 = Y 0 2 ∧ ∀ j, 0 ≤ j → j < X 0 0 → X 1 j = Y 1 j ∧ X 2 j = Y 2 j ∧ X 3 j = Y 3 j ∧ (X 3 j = 0 → X 4 j = Y 4 j ∧ X 5 j = Y 5 j)
theorem CEQ.v {X Y : CP} (h : CEQ X Y) : CEV X Y := ⟨h.1, h.2.1, h.2.2.1, fun j h0 hj => ⟨h.row (by omega) (by omega) h0 hj, h.row (by omega) (by omega) h0 hj, h.row (by omega) (by omega) h0 hj, fun _ => ⟨h.row (by omega) (by omega) h0 hj, h.row (by omega) (by omega) h0 hj⟩⟩⟩
theorem CEV.sy {X Y : CP} (h : CEV X Y) : CEV Y X := by
  obtain ⟨h0, h1, h2, h3⟩ := h
  refine ⟨h0.symm, h1.symm, h2.symm, fun j a b => ?_⟩
  obtain ⟨a1, a2, a3, a4⟩ := h3 j a (by omega)
  exact ⟨a1.symm, a2.symm, a3.symm, fun z => ⟨(a4 (a3.trans z)).1.symm, (a4 (a3.trans z)).2.symm⟩⟩
theorem CEV.tr {X Y Z : CP} (h : CEV X Y) (g : CEV Y Z) : CEV X Z := by
  obtain ⟨h0, h1, h2, h3⟩ := h
  obtain ⟨g0, g1, g2, g3⟩ := g
  refine ⟨h0.trans g0, h1.trans g1, h2.trans g2, fun j a b => ?_⟩
  obtain ⟨a1, a2, a3, a4⟩ := h3 j a b
  obtain ⟨b1, b2, b3, b4⟩ := g3 j a (by omega)
  exact ⟨a1.trans b1, a2.trans b2, a3.trans b3, fun z => ⟨(a4 z).1.trans (b4 (a3.symm.trans z)).1, (a4 z).2.trans (b4 (a3.symm.trans z)).2⟩⟩
theorem CEV.row {X Y : CP} (h : CEV X Y) {r : Nat} {j : Int} (h1 : 1 ≤ r) (h5 : r ≤ 3) (hj : 0 ≤ j) (hn : j < X 0 0) : X r j = Y r j := by
  have g := h.2.2.2 j hj hn
  rcases (show r = 1 ∨ r = 2 ∨ r = 3 by omega) with e | e | e
  · rw [e]; exact g.1
  · rw [e]; exact g.2.1
  · rw [e]; exact g.2.2.1
theorem kb_cg {f g : Int → Int} {t : Int} : ∀ {n : Nat}, (∀ j : Int, 0 ≤ j → j < n → f j = g j) → kb f t n = kb g t n
  | 0, _ => rfl
  | n + 1, h => by
    unfold kb
    rw [kb_cg (n := n) (fun j h0 h1 => h j h0 (by omega)), h n (by omega) (by omega)]
def kbX (X : CP) (t : Int) : Int := kb (X 1) t (X 0 0).toNat
theorem kbX_KB {X : CP} (hn : 0 ≤ X 0 0) (t : Int) : KB (X 0 0) (X 1) t (kbX X t) := by
  have h := kb_KB (X 1) t (X 0 0).toNat
  rwa [show (((X 0 0).toNat : Nat) : Int) = X 0 0 by omega] at h
theorem kbX_of {X : CP} {t r : Int} (hn : 0 ≤ X 0 0) (h : KB (X 0 0) (X 1) t r) : r = kbX X t := KB_one h (kbX_KB hn t)
theorem kX_kb (X : CP) (t : Int) : kX X t = kbX X (t + 1) - 1 := rfl
theorem kbX_cg {X Y : CP} (e : CEV X Y) (t : Int) : kbX X t = kbX Y t := by
  unfold kbX
  rw [← e.1]
  exact kb_cg fun j h0 h1 => e.row (by omega) (by omega) (by omega) (by omega)
theorem kX_cg {X Y : CP} (e : CEV X Y) (t : Int) : kX X t = kX Y t := by rw [kX_kb, kX_kb, kbX_cg e]
theorem kX_in {X : CP} (h : CI X) {f : Int} (h1 : 1 ≤ X 0 0) (hf : X 1 0 ≤ f) : 0 ≤ kX X f ∧ kX X f < X 0 0 ∧ X 1 (kX X f) ≤ f ∧ (kX X f + 1 < X 0 0 → f < X 1 (kX X f + 1)) := by
  obtain ⟨q1, q2, q3, q4⟩ := kbX_KB h.1.1 (f + 1)
  rw [kX_kb]
  have z : 1 ≤ kbX X (f + 1) := by
    rcases Int.lt_or_le 0 (kbX X (f + 1)) with z | z
    · omega
    · have e : kbX X (f + 1) = 0 := by omega
      rw [e] at q4
      have := q4 (by omega)
      omega
  refine ⟨by omega, by omega, ?_, fun h2 => ?_⟩
  · have := q3 (kbX X (f + 1) - 1) (by omega) (by omega)
    omega
  · rw [show kbX X (f + 1) - 1 + 1 = kbX X (f + 1) by omega] at h2 ⊢
    have := q4 h2
    omega
theorem sec2_cg {X Y : CP} (e : CEV X Y) {i j : Int} (h1 : 0 ≤ i ∧ i < X 0 0) (h2 : 0 ≤ j ∧ j < X 0 0) : sec2 X i j = sec2 Y i j := by
  unfold sec2
  rw [e.row (r := 2) (by omega) (by omega) h1.1 h1.2, e.row (r := 2) (by omega) (by omega) h2.1 h2.2, e.row (r := 1) (by omega) (by omega) h1.1 h1.2, e.row (r := 1) (by omega) (by omega) h2.1 h2.2]
theorem autX_cg {X Y : CP} (e : CEV X Y) {k : Int} (h1 : 0 ≤ k ∧ k < X 0 0) : autX X k = autX Y k := by
  unfold autX
  rw [← e.1]
  refine sec2_cg e ?_ ?_
  · split <;> omega
  · split <;> omega
theorem slp_cg {X Y : CP} (e : CEV X Y) {k o : Int} (h1 : 0 ≤ k ∧ k < X 0 0) : slp X k o = slp Y k o := by
  unfold slp
  rw [← e.1, ← e.row (r := 2) (by omega) (by omega) h1.1 h1.2, ← e.row (r := 3) (by omega) (by omega) h1.1 h1.2, autX_cg e h1]
  by_cases m0 : X 3 k = 0
  · have z := (e.2.2.2 k h1.1 h1.2).2.2.2 m0
    rw [if_pos m0, if_pos m0, z.1, z.2]
  rw [if_neg m0, if_neg m0]
  by_cases m1 : X 0 0 < 2 ∨ X 3 k = 1 ∨ X 3 k = 6
  · rw [if_pos m1, if_pos m1]
  rw [if_neg m1, if_neg m1]
  by_cases m2 : X 3 k = 2
  · rw [if_pos m2, if_pos m2]
    by_cases m3 : k = 0 ∨ o ≠ 0 ∧ k ≠ X 0 0 - 1
    · rw [if_pos m3, if_pos m3, sec2_cg e h1 (by omega)]
    · rw [if_neg m3, if_neg m3, sec2_cg e (by omega) h1]
  rw [if_neg m2, if_neg m2]
  by_cases m3 : X 3 k = 3
  · rw [if_pos m3, if_pos m3]
  rw [if_neg m3, if_neg m3]
  by_cases m4 : k = 0 ∨ k = X 0 0 - 1
  · rw [if_pos m4, if_pos m4]
  rw [if_neg m4, if_neg m4, e.row (r := 2) (j := k - 1) (by omega) (by omega) (by omega) (by omega), e.row (r := 2) (j := k + 1) (by omega) (by omega) (by omega) (by omega), sec2_cg e (i := k - 1) (by omega) h1, sec2_cg e (j := k + 1) h1 (by omega)]
theorem insd_cg {X Y : CP} (h : CI X) (e : CEV X Y) {f : Int} (h1 : 1 ≤ X 0 0) (hf : X 1 0 ≤ f) (hl : f ≤ X 1 (X 0 0 - 1)) : insd X f = insd Y f := by
  obtain ⟨k0, k1, k2, k3⟩ := kX_in h h1 hf
  have kl : X 1 (kX X f) ≠ f → kX X f + 1 < X 0 0 := fun z => by
    rcases Int.lt_or_le (kX X f + 1) (X 0 0) with q | q
    · exact q
    · have q2 : kX X f = X 0 0 - 1 := by omega
      rw [q2] at z k2
      omega
  have g := fun r h1 h5 => e.row (r := r) (j := kX X f) h1 h5 k0 k1
  unfold insd
  rw [← kX_cg e f, ← g 1 (by omega) (by omega), ← g 2 (by omega) (by omega)]
  by_cases z : X 1 (kX X f) = f
  · rw [if_pos z, if_pos z]
  · have kl := kl z
    rw [if_neg z, if_neg z]
    unfold btw
    rw [g 3 (by omega) (by omega), g 2 (by omega) (by omega), g 1 (by omega) (by omega), e.row (r := 2) (j := kX X f + 1) (by omega) (by omega) (by omega) kl, e.row (r := 1) (j := kX X f + 1) (by omega) (by omega) (by omega) kl, slp_cg e ⟨k0, k1⟩, slp_cg e (k := kX X f + 1) ⟨by omega, kl⟩]
theorem knd_cg {X Y : CP} (e : CEV X Y) (h1 : 1 ≤ X 0 0) (f : Int) : knd X f = knd Y f := by
  unfold knd
  rw [← e.1, ← e.2.1, ← e.2.2.1, e.row (r := 1) (j := 0) (by omega) (by omega) (by omega) (by omega), e.row (r := 1) (j := X 0 0 - 1) (by omega) (by omega) (by omega) (by omega)]
theorem inn_cg {X Y : CP} (e : CEV X Y) (h1 : 1 ≤ X 0 0) (f : Int) : inn X f = inn Y f := by
  unfold inn
  rw [knd_cg e h1, ← e.1, e.row (r := 1) (j := 0) (by omega) (by omega) (by omega) (by omega), e.row (r := 1) (j := X 0 0 - 1) (by omega) (by omega) (by omega) (by omega)]
theorem valS_cg {X Y : CP} (h : CI X) (e : CEV X Y) (f : Int) : valS X f = valS Y f := by
  unfold valS
  rw [← e.1]
  by_cases h1 : X 0 0 < 1
  · rw [if_pos h1, if_pos h1]
  have h1 : 1 ≤ X 0 0 := by omega
  have le := frs_le h (Int.le_refl 0) (show 0 ≤ X 0 0 - 1 by omega) (by omega)
  have ib : X 1 0 ≤ inn X f ∧ inn X f ≤ X 1 (X 0 0 - 1) := foldS_bd le
  obtain ⟨k0, k1, k2, k3⟩ := kX_in h h1 ib.1
  rw [if_neg (show ¬ X 0 0 < 1 by omega), if_neg (show ¬ X 0 0 < 1 by omega), ← inn_cg e h1, ← knd_cg e h1, insd_cg h e h1 ib.1 ib.2, ← kX_cg e, slp_cg e ⟨k0, k1⟩, e.row (r := 1) (j := 0) (by omega) (by omega) (by omega) (by omega), e.row (r := 1) (j := X 0 0 - 1) (by omega) (by omega) (by omega) (by omega), e.row (r := 2) (j := 0) (by omega) (by omega) (by omega) (by omega), e.row (r := 2) (j := X 0 0 - 1) (by omega) (by omega) (by omega) (by omega)]
/-- a place of a row gets a number -/
def stX (X : CP) (r : Nat) (j x : Int) : CP := fun p i => if p = r ∧ i = j then x else X p i
theorem cx_up {w : Wd} {c r : Nat} {j x : Int} : cx (up w (c + r) j x) c = stX (cx w c) r j x := by
  funext p i
  unfold cx up stX
  by_cases h : p = r ∧ i = j
  · rw [if_pos ⟨by omega, h.2⟩, if_pos h]
  · rw [if_neg (fun z => h ⟨by omega, z.2⟩), if_neg h]
theorem cx_up0 {w : Wd} {c : Nat} {j x : Int} : cx (up w c j x) c = stX (cx w c) 0 j x := cx_up (r := 0)
theorem FRM_up {w : Wd} {c r : Nat} {j x : Int} (hr : r ≤ 5) : FRM c w (up w (c + r) j x) := fun i hi => by
  funext q
  unfold up
  rw [if_neg (by omega)]
theorem FRM.tr {c : Nat} {w w1 w2 : Wd} (h : FRM c w w1) (g : FRM c w1 w2) : FRM c w w2 := fun i hi => (g i hi).trans (h i hi)
theorem FRM.rf (c : Nat) (w : Wd) : FRM c w w := fun _ _ => rfl
theorem stX_hit {X : CP} {r : Nat} {j x : Int} : stX X r j x r j = x := if_pos ⟨rfl, rfl⟩
theorem stX_off {X : CP} {r p : Nat} {i j x : Int} (h : ¬ (p = r ∧ i = j)) : stX X r j x p i = X p i := if_neg h
theorem stX_0 {X : CP} {r : Nat} {i j x : Int} (h : 1 ≤ r) : stX X r j x 0 i = X 0 i := if_neg (by omega)
theorem insX_n {X : CP} {k : Int} {v : Nat → Int} : insX X k v 0 0 = X 0 0 + 1 := rfl
theorem insX_0 {X : CP} {k j : Int} {v : Nat → Int} (h : j ≠ 0) : insX X k v 0 j = X 0 j := by
  unfold insX
  rw [if_pos rfl, if_neg h]
theorem insX_lt {X : CP} {k j : Int} {r : Nat} {v : Nat → Int} (h : 1 ≤ r) (h1 : j < k) : insX X k v r j = X r j := by
  unfold insX
  rw [if_neg (show ¬ r = 0 by omega), if_pos h1]
theorem insX_eq {X : CP} {k : Int} {r : Nat} {v : Nat → Int} (h : 1 ≤ r) : insX X k v r k = v r := by
  unfold insX
  rw [if_neg (show ¬ r = 0 by omega), if_neg (Int.lt_irrefl k), if_pos rfl]
theorem insX_gt {X : CP} {k j : Int} {r : Nat} {v : Nat → Int} (h : 1 ≤ r) (h1 : k < j) : insX X k v r j = X r (j - 1) := by
  unfold insX
  rw [if_neg (show ¬ r = 0 by omega), if_neg (show ¬ j < k by omega), if_neg (show ¬ j = k by omega)]
theorem delX_n {X : CP} {k : Int} : delX X k 0 0 = X 0 0 - 1 := rfl
theorem delX_0 {X : CP} {k j : Int} (h : j ≠ 0) : delX X k 0 j = X 0 j := by
  unfold delX
  rw [if_pos rfl, if_neg h]
theorem delX_lt {X : CP} {k j : Int} {r : Nat} (h : 1 ≤ r) (h1 : j < k) : delX X k r j = X r j := by
  unfold delX
  rw [if_neg (show ¬ r = 0 by omega), if_pos h1]
theorem delX_ge {X : CP} {k j : Int} {r : Nat} (h : 1 ≤ r) (h1 : k ≤ j) : delX X k r j = X r (j + 1) := by
  unfold delX
  rw [if_neg (show ¬ r = 0 by omega), if_neg (show ¬ j < k by omega)]
theorem stX_cg {X Y : CP} (e : CEQ X Y) {r : Nat} {j x : Int} (h1 : 1 ≤ r) : CEQ (stX X r j x) (stX Y r j x) := by
  obtain ⟨e0, e1, e2, e3⟩ := e
  refine ⟨by rw [stX_0 h1, stX_0 h1]; exact e0, by rw [stX_0 h1, stX_0 h1]; exact e1, by rw [stX_0 h1, stX_0 h1]; exact e2, fun p a b i c d => ?_⟩
  rw [stX_0 h1] at d
  by_cases h : p = r ∧ i = j
  · rw [h.1, h.2, stX_hit, stX_hit]
  · rw [stX_off h, stX_off h]; exact e3 p a b i c d
theorem insX_cg {X Y : CP} (e : CEQ X Y) {k : Int} (v : Nat → Int) (hk : 0 ≤ k ∧ k ≤ X 0 0) : CEQ (insX X k v) (insX Y k v) := by
  obtain ⟨e0, e1, e2, e3⟩ := e
  refine ⟨by rw [insX_n, insX_n, e0], by rw [insX_0 (by omega), insX_0 (by omega), e1], by rw [insX_0 (by omega), insX_0 (by omega), e2], fun p a b i c d => ?_⟩
  rw [insX_n] at d
  rcases Int.lt_trichotomy i k with h | h | h
  · rw [insX_lt a h, insX_lt a h]
    exact e3 p a b i c (by omega)
  · rw [h, insX_eq a, insX_eq a]
  · rw [insX_gt a h, insX_gt a h]; exact e3 p a b (i - 1) (by omega) (by omega)
theorem delX_cg {X Y : CP} (e : CEQ X Y) {k : Int} (hk : 0 ≤ k) : CEQ (delX X k) (delX Y k) := by
  obtain ⟨e0, e1, e2, e3⟩ := e
  refine ⟨by rw [delX_n, delX_n, e0], by rw [delX_0 (by omega), delX_0 (by omega), e1], by rw [delX_0 (by omega), delX_0 (by omega), e2], fun p a b i c d => ?_⟩
  rw [delX_n] at d
  rcases Int.lt_or_le i k with h | h
  · rw [delX_lt a h, delX_lt a h]; exact e3 p a b i c (by omega)
  · rw [delX_ge a h, delX_ge a h]; exact e3 p a b (i + 1) (by omega) (by omega)
theorem insX_cv {X Y : CP} (e : CEV X Y) {k : Int} {v u : Nat → Int} (hk : 0 ≤ k ∧ k ≤ X 0 0) (h1 : v 1 = u 1) (h2 : v 2 = u 2) (h3 : v 3 = u 3) (h4 : v 3 = 0 → v 4 = u 4 ∧ v 5 = u 5) : CEV (insX X k v) (insX Y k u) := by
  obtain ⟨e0, e1, e2, e3⟩ := e
  refine ⟨by rw [insX_n, insX_n, e0], by rw [insX_0 (by omega), insX_0 (by omega), e1], by rw [insX_0 (by omega), insX_0 (by omega), e2], fun i c d => ?_⟩
  rw [insX_n] at d
  have a1 : (1 : Nat) ≤ 1 := by omega
  have a2 : (1 : Nat) ≤ 2 := by omega
  have a3 : (1 : Nat) ≤ 3 := by omega
  have a4 : (1 : Nat) ≤ 4 := by omega
  have a5 : (1 : Nat) ≤ 5 := by omega
  rcases Int.lt_trichotomy i k with h | h | h
  · rw [insX_lt a1 h, insX_lt a1 h, insX_lt a2 h, insX_lt a2 h, insX_lt a3 h, insX_lt a3 h, insX_lt a4 h, insX_lt a4 h, insX_lt a5 h, insX_lt a5 h]
    exact e3 i c (by omega)
  · rw [h, insX_eq a1, insX_eq a1, insX_eq a2, insX_eq a2, insX_eq a3, insX_eq a3, insX_eq a4, insX_eq a4, insX_eq a5, insX_eq a5]
    exact ⟨h1, h2, h3, h4⟩
  · rw [insX_gt a1 h, insX_gt a1 h, insX_gt a2 h, insX_gt a2 h, insX_gt a3 h, insX_gt a3 h, insX_gt a4 h, insX_gt a4 h, insX_gt a5 h, insX_gt a5 h]
    exact e3 (i - 1) (by omega) (by omega)
theorem delX_cv {X Y : CP} (e : CEV X Y) {k : Int} (hk : 0 ≤ k) : CEV (delX X k) (delX Y k) := by
  obtain ⟨e0, e1, e2, e3⟩ := e
  refine ⟨by rw [delX_n, delX_n, e0], by rw [delX_0 (by omega), delX_0 (by omega), e1], by rw [delX_0 (by omega), delX_0 (by omega), e2], fun i c d => ?_⟩
  rw [delX_n] at d
  have a1 : (1 : Nat) ≤ 1 := by omega
  have a2 : (1 : Nat) ≤ 2 := by omega
  have a3 : (1 : Nat) ≤ 3 := by omega
  have a4 : (1 : Nat) ≤ 4 := by omega
  have a5 : (1 : Nat) ≤ 5 := by omega
  rcases Int.lt_or_le i k with h | h
  · rw [delX_lt a1 h, delX_lt a1 h, delX_lt a2 h, delX_lt a2 h, delX_lt a3 h, delX_lt a3 h, delX_lt a4 h, delX_lt a4 h, delX_lt a5 h, delX_lt a5 h]
    exact e3 i c (by omega)
  · rw [delX_ge a1 h, delX_ge a1 h, delX_ge a2 h, delX_ge a2 h, delX_ge a3 h, delX_ge a3 h, delX_ge a4 h, delX_ge a4 h, delX_ge a5 h, delX_ge a5 h]
    exact e3 (i + 1) (by omega) (by omega)
/-! what is done to curves, as pictures -/
theorem v5_1 {a b c d e : Int} : v5 a b c d e 1 = a := rfl
theorem v5_2 {a b c d e : Int} : v5 a b c d e 2 = b := rfl
theorem v5_3 {a b c d e : Int} : v5 a b c d e 3 = c := rfl
theorem v5_4 {a b c d e : Int} : v5 a b c d e 4 = d := rfl
theorem v5_5 {a b c d e : Int} : v5 a b c d e 5 = e := rfl
def cpK (X Y : CP) : CP := fun r j => if r = 0 then (if j = 0 then Y 0 0 else X 0 j) else Y r j
def chmX (X : CP) (k m : Int) : CP := if m = 0 ∧ X 3 k ≠ 0 then stX (stX (stX X 4 k (lim (slp X k 0) 9999)) 5 k (lim (slp X k 1) 9999)) 3 k m else stX X 3 k m
def freX (X : CP) (k : Int) : CP := if X 3 k = 6 then X else chmX X k 0
def movX (X : CP) (k t : Int) : CP := insX (delX X k) (kbX (delX X k) t) (v5 t (X 2 k) (X 3 k) (X 4 k) (X 5 k))
def spH (X : CP) (f b : Int) : Int := if X 3 (b - 1) = 6 then X 2 (b - 1) else lim (rndW (valS X f) 64) 999
def spS (X : CP) (f : Int) : Int := lim (rndW (valS X (f + 1) - valS X (f - 1)) 2) 9999
def spY (X : CP) (b : Int) : CP := freX (freX X (b - 1)) b
def spX (X : CP) (f b : Int) : CP := insX (spY X b) (kbX (spY X b) f) (v5 f (spH X f b) (if X 3 (b - 1) = 6 then 6 else 0) (spS X f) (spS X f))
/-- a picture keeps the invariant, key by key -/
def KI (a b c d e : Int) : Prop := 0 ≤ a ∧ a ≤ 480 ∧ -999 ≤ b ∧ b ≤ 999 ∧ 0 ≤ c ∧ c ≤ 6 ∧ -9999 ≤ d ∧ d ≤ 9999 ∧ -9999 ≤ e ∧ e ≤ 9999
theorem lim_bd (x : Int) {m : Int} (hm : 0 ≤ m) : -m ≤ lim x m ∧ lim x m ≤ m := by
  unfold lim
  split
  · omega
  · split <;> omega
theorem CI_st2 {X : CP} (h : CI X) {k x : Int} (hx : -999 ≤ x ∧ x ≤ 999) : CI (stX X 2 k x) := by
  obtain ⟨hn, P, O, b⟩ := h
  have n0 : ∀ i, stX X 2 k x 0 i = X 0 i := fun i => stX_0 (by omega)
  have r1 : ∀ r i, r ≠ 2 → stX X 2 k x r i = X r i := fun r i h => stX_off (by omega)
  refine ⟨by rw [n0]; exact hn, fun j h0 hj => ?_, fun i j h0 hij hj => ?_, by rw [n0, n0]; exact b⟩
  · rw [n0] at hj
    have p := P j h0 hj
    rw [r1 1 j (by omega), r1 3 j (by omega), r1 4 j (by omega), r1 5 j (by omega)]
    by_cases e : j = k
    · rw [e, stX_hit]; rw [e] at p; omega
    · rw [stX_off (by omega)]; exact p
  · rw [n0] at hj
    rw [r1 1 i (by omega), r1 1 j (by omega)]
    exact O i j h0 hij hj
theorem CI_st345 {X : CP} (h : CI X) {r : Nat} {k x : Int} (hr : r = 3 ∧ 0 ≤ x ∧ x ≤ 6 ∨ (r = 4 ∨ r = 5) ∧ -9999 ≤ x ∧ x ≤ 9999) : CI (stX X r k x) := by
  obtain ⟨hn, P, O, b⟩ := h
  have n0 : ∀ i, stX X r k x 0 i = X 0 i := fun i => stX_0 (by omega)
  refine ⟨by rw [n0]; exact hn, fun j h0 hj => ?_, fun i j h0 hij hj => ?_, by rw [n0, n0]; exact b⟩
  · rw [n0] at hj
    have p := P j h0 hj
    rw [stX_off (p := 1) (by omega), stX_off (p := 2) (by omega)]
    have g : ∀ p : Nat, ¬ (p = r ∧ j = k) → stX X r k x p j = X p j := fun p h => stX_off h
    by_cases e : j = k
    · subst e
      rcases hr with ⟨e, hr⟩ | ⟨e | e, hr⟩ <;> subst e <;> rw [stX_hit]
      · rw [g 4 (by omega), g 5 (by omega)]; omega
      · rw [g 3 (by omega), g 5 (by omega)]; omega
      · rw [g 3 (by omega), g 4 (by omega)]; omega
    · rw [g 3 (by omega), g 4 (by omega), g 5 (by omega)]; exact p
  · rw [n0] at hj
    rw [stX_off (by omega), stX_off (by omega)]
    exact O i j h0 hij hj
theorem CI_chm {X : CP} (h : CI X) {k m : Int} (hm : 0 ≤ m ∧ m ≤ 6) : CI (chmX X k m) := by
  unfold chmX
  split
  · exact CI_st345 (CI_st345 (CI_st345 h (Or.inr ⟨Or.inl rfl, lim_bd _ (by omega)⟩)) (Or.inr ⟨Or.inr rfl, lim_bd _ (by omega)⟩)) (Or.inl ⟨rfl, hm⟩)
  · exact CI_st345 h (Or.inl ⟨rfl, hm⟩)
theorem CI_fre {X : CP} (h : CI X) (k : Int) : CI (freX X k) := by
  unfold freX
  split
  · exact h
  · exact CI_chm h (by omega)
theorem CI_del {X : CP} (h : CI X) {k : Int} (hk : 0 ≤ k ∧ k < X 0 0) : CI (delX X k) := by
  obtain ⟨hn, P, O, b⟩ := h
  have a1 : (1 : Nat) ≤ 1 := by omega
  have a2 : (1 : Nat) ≤ 2 := by omega
  have a3 : (1 : Nat) ≤ 3 := by omega
  have a4 : (1 : Nat) ≤ 4 := by omega
  have a5 : (1 : Nat) ≤ 5 := by omega
  refine ⟨by rw [delX_n]; omega, fun j h0 hj => ?_, fun i j h0 hij hj => ?_, by rw [delX_0 (by omega), delX_0 (by omega)]; exact b⟩
  · rw [delX_n] at hj
    rcases Int.lt_or_le j k with q | q
    · rw [delX_lt a1 q, delX_lt a2 q, delX_lt a3 q, delX_lt a4 q, delX_lt a5 q]; exact P j h0 (by omega)
    · rw [delX_ge a1 q, delX_ge a2 q, delX_ge a3 q, delX_ge a4 q, delX_ge a5 q]; exact P (j + 1) (by omega) (by omega)
  · rw [delX_n] at hj
    rcases Int.lt_or_le j k with q | q
    · rw [delX_lt a1 q, delX_lt a1 (by omega)]; exact O i j h0 hij (by omega)
    · rw [delX_ge a1 q]
      rcases Int.lt_or_le i k with z | z
      · rw [delX_lt a1 z]; exact O i (j + 1) h0 (by omega) (by omega)
      · rw [delX_ge a1 z]; exact O (i + 1) (j + 1) (by omega) (by omega) (by omega)
theorem CI_ins {X : CP} (h : CI X) {k : Int} {v : Nat → Int} (hn2 : X 0 0 ≤ 23) (hk : KB (X 0 0) (X 1) (v 1) k) (hne : k < X 0 0 → X 1 k ≠ v 1) (hv : KI (v 1) (v 2) (v 3) (v 4) (v 5)) : CI (insX X k v) := by
  obtain ⟨hn, P, O, b⟩ := h
  obtain ⟨k1, k2, k3, k4⟩ := hk
  have a1 : (1 : Nat) ≤ 1 := by omega
  have a2 : (1 : Nat) ≤ 2 := by omega
  have a3 : (1 : Nat) ≤ 3 := by omega
  have a4 : (1 : Nat) ≤ 4 := by omega
  have a5 : (1 : Nat) ≤ 5 := by omega
  refine ⟨by rw [insX_n]; omega, fun j h0 hj => ?_, fun i j h0 hij hj => ?_, by rw [insX_0 (by omega), insX_0 (by omega)]; exact b⟩
  · rw [insX_n] at hj
    rcases Int.lt_trichotomy j k with q | q | q
    · rw [insX_lt a1 q, insX_lt a2 q, insX_lt a3 q, insX_lt a4 q, insX_lt a5 q]; exact P j h0 (by omega)
    · rw [q, insX_eq a1, insX_eq a2, insX_eq a3, insX_eq a4, insX_eq a5]; exact hv
    · rw [insX_gt a1 q, insX_gt a2 q, insX_gt a3 q, insX_gt a4 q, insX_gt a5 q]; exact P (j - 1) (by omega) (by omega)
  · rw [insX_n] at hj
    rcases Int.lt_trichotomy j k with q | q | q
    · rw [insX_lt a1 q, insX_lt a1 (by omega)]; exact O i j h0 hij (by omega)
    · rw [q, insX_eq a1, insX_lt a1 (by omega)]; exact k3 i h0 (by omega)
    · rw [insX_gt a1 q]
      rcases Int.lt_trichotomy i k with z | z | z
      · rw [insX_lt a1 z]
        exact O i (j - 1) h0 (by omega) (by omega)
      · rw [z, insX_eq a1]
        have z1 := k4 (by omega)
        have z2 := hne (by omega)
        rcases Int.lt_or_le k (j - 1) with y | y
        · have := O k (j - 1) k1 y (by omega)
          omega
        · rw [show j - 1 = k by omega]; omega
      · rw [insX_gt a1 z]; exact O (i - 1) (j - 1) (by omega) (by omega) (by omega)
theorem cpK_end {w w2 : Wd} {c e : Nat} (hce : e + 5 < c ∨ c + 5 < e) (hn : 0 ≤ w e 0 ∧ w e 0 ≤ 24) (h : w2 = upr (upr (upr (upr (upr (up w c 0 (w e 0)) (e + 1) (c + 1) 24) (e + 2) (c + 2) 24) (e + 3) (c + 3) 24) (e + 4) (c + 4) 24) (e + 5) (c + 5) 24) : FRM c w w2 ∧ CEQ (cx w2 c) (cpK (cx w c) (cx w e)) := by
  subst h
  refine ⟨fun i hi => ?_, ?_, ?_, ?_, ?_⟩
  · funext j
    unfold upr up
    grind
  · unfold cx cpK upr up; grind
  · unfold cx cpK upr up; grind
  · unfold cx cpK upr up; grind
  · intro r h1 h5 j h0 hj
    have hj2 : j < w e 0 := by
      have z : cx (upr (upr (upr (upr (upr (up w c 0 (w e 0)) (e + 1) (c + 1) 24) (e + 2) (c + 2) 24) (e + 3) (c + 3) 24) (e + 4) (c + 4) 24) (e + 5) (c + 5) 24) c 0 0 = w e 0 := by
        unfold cx upr up; grind
      rw [z] at hj; exact hj
    unfold cx cpK upr up
    grind
theorem CEQ.of_eq {X Y : CP} (h : ∀ r, r ≤ 5 → ∀ j, X r j = Y r j) : CEQ X Y := ⟨h 0 (by omega) _, h 0 (by omega) _, h 0 (by omega) _, fun r _ b j _ _ => h r b j⟩
