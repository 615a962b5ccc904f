/-! the model's curves -/
def mx (w : Wd) (q : Int) : CP := fun r j => w 386 (128 * q + (if r = 0 then 0 else 24 * (r : Int) - 20) + j)
theorem mxR0 {w : Wd} {q i j : Int} (h : i = 128 * q + j) : w 386 i = mx w q 0 j := by rw [h]; unfold mx; simp
theorem mxR1 {w : Wd} {q i j : Int} (h : i = 128 * q + 4 + j) : w 386 i = mx w q 1 j := by rw [h]; rfl
theorem mxR2 {w : Wd} {q i j : Int} (h : i = 128 * q + 28 + j) : w 386 i = mx w q 2 j := by rw [h]; rfl
theorem mxR3 {w : Wd} {q i j : Int} (h : i = 128 * q + 52 + j) : w 386 i = mx w q 3 j := by rw [h]; rfl
theorem mxR4 {w : Wd} {q i j : Int} (h : i = 128 * q + 76 + j) : w 386 i = mx w q 4 j := by rw [h]; rfl
theorem mxR5 {w : Wd} {q i j : Int} (h : i = 128 * q + 100 + j) : w 386 i = mx w q 5 j := by rw [h]; rfl
theorem kX_at {X : CP} (h : CI X) {k f : Int} (h1 : 0 ≤ k) (h2 : k < X 0 0) (h3 : X 1 k ≤ f) (h4 : k + 1 < X 0 0 → f < X 1 (k + 1)) : kX X f = k := by
  obtain ⟨hn, P, O, -⟩ := h
  have e := kX_of (X := X) (t := f) (r := k + 1) hn.1 ⟨by omega, by omega, fun j j1 j2 => by
    rcases Int.lt_or_le j k with z | z
    · have := O j k j1 z h2
      omega
    · rw [show j = k by omega]; omega, fun h => by have := h4 h; omega⟩
  omega
theorem kX_key {X : CP} (h : CI X) {k : Int} (h1 : 0 ≤ k) (h2 : k < X 0 0) : kX X (X 1 k) = k :=
  kX_at h h1 h2 (Int.le_refl _) (fun h3 => h.2.2.1 k (k + 1) h1 (by omega) h3)
theorem insd_key {X : CP} (h : CI X) {k : Int} (h1 : 0 ≤ k) (h2 : k < X 0 0) : insd X (X 1 k) = 64 * X 2 k := by
  unfold insd
  rw [kX_key h h1 h2, if_pos rfl]
theorem frs_le {X : CP} (h : CI X) {i j : Int} (h1 : 0 ≤ i) (h2 : i ≤ j) (h3 : j < X 0 0) : X 1 i ≤ X 1 j := by
  rcases Int.lt_or_le i j with z | z
  · exact Int.le_of_lt (h.2.2.1 i j h1 z h3)
  · rw [show i = j by omega]; exact Int.le_refl _
theorem ends_eq {X : CP} (h : CI X) (h1 : 1 ≤ X 0 0) : X 1 0 = X 1 (X 0 0 - 1) ↔ X 0 0 = 1 := by
  refine ⟨fun e => ?_, fun e => by rw [e]; rfl⟩
  rcases Int.lt_or_le 1 (X 0 0) with z | z
  · have := h.2.2.1 0 (X 0 0 - 1) (by omega) (by omega) (by omega)
    omega
  · omega
theorem herm_ring (p q m n d x : Int) : p * (2 * x * x * x - 3 * x * x * d + d * d * d) + q * (3 * x * x * d - 2 * x * x * x) + (d * m * (x * x * x - 2 * x * x * d + x * d * d) + d * n * (x * x * x - x * x * d)) = p * (d * d * d - (3 * (x * x) * d - 2 * (x * x * x))) + q * (3 * (x * x) * d - 2 * (x * x * x)) + d * m * (x * x * x - 2 * (x * x) * d + x * d * d) + d * n * (x * x * x - x * x * d) := by grind
theorem w32_add {x y : Int} : w32 (w32 x + y) = w32 (x + y) := by
  unfold w32
  exact Int.bmod_add_bmod
theorem mod_sub {x L : Int} : x - L * (x / L) = x % L := by
  have := Int.mul_ediv_add_emod x L
  omega
/-- the value where the curve has keys, by the kind that holds -/
theorem valS_in {X : CP} (h : CI X) {f : Int} (h1 : 1 ≤ X 0 0) (h2 : X 1 0 ≤ f) (h3 : f ≤ X 1 (X 0 0 - 1)) : valS X f = w32 (insd X f) := by
  have k0 : knd X f = 0 := if_pos (Or.inr ⟨h2, h3⟩)
  have i0 : inn X f = f := by
    unfold inn
    rw [k0]
    unfold foldS
    rw [if_pos (Or.inl rfl)]
    omega
  unfold valS
  rw [if_neg (by omega), i0, k0, if_neg (by omega), if_neg (by omega), Int.add_zero, Int.add_zero]
theorem knd_out {X : CP} (h : CI X) {f : Int} (h1 : 1 ≤ X 0 0) (h2 : ¬ (X 1 0 ≤ f ∧ f ≤ X 1 (X 0 0 - 1))) : knd X f = if X 0 0 = 1 then 0 else if f < X 1 0 then X 0 1 else X 0 2 := by
  unfold knd
  by_cases e : X 0 0 = 1
  · rw [if_pos (Or.inl ((ends_eq h h1).mpr e)), if_pos e]
  · rw [if_neg (fun q => q.elim (fun z => e ((ends_eq h h1).mp z)) h2), if_neg e]
def nea (X : CP) (f : Int) : Int := if f < X 1 0 then 0 else X 0 0 - 1
theorem inn_clamp {X : CP} (h : CI X) {f : Int} (h1 : 1 ≤ X 0 0) (h2 : ¬ (X 1 0 ≤ f ∧ f ≤ X 1 (X 0 0 - 1))) (hk : knd X f = 0 ∨ knd X f = 1) : inn X f = X 1 (nea X f) := by
  have hle := frs_le h (Int.le_refl 0) (show 0 ≤ X 0 0 - 1 by omega) (by omega)
  unfold inn foldS nea
  rw [if_pos (hk.elim Or.inl (fun q => Or.inr (Or.inl q)))]
  by_cases e : f < X 1 0
  · rw [if_pos e]; omega
  · rw [if_neg e]; omega
theorem nea_bd {X : CP} (f : Int) (h1 : 1 ≤ X 0 0) : 0 ≤ nea X f ∧ nea X f < X 0 0 := by
  unfold nea
  split <;> omega
theorem valS_0 {X : CP} (h : CI X) {f : Int} (h1 : 1 ≤ X 0 0) (h2 : ¬ (X 1 0 ≤ f ∧ f ≤ X 1 (X 0 0 - 1))) (hk : knd X f = 0) : valS X f = w32 (64 * X 2 (nea X f)) := by
  have hb := nea_bd (X := X) f h1
  unfold valS
  rw [if_neg (by omega), inn_clamp h h1 h2 (Or.inl hk), insd_key h hb.1 hb.2, hk, if_neg (by omega), if_neg (by omega), Int.add_zero, Int.add_zero]
theorem valS_1 {X : CP} (h : CI X) {f : Int} (h1 : 1 ≤ X 0 0) (h2 : ¬ (X 1 0 ≤ f ∧ f ≤ X 1 (X 0 0 - 1))) (hk : knd X f = 1) : valS X f = w32 (64 * X 2 (nea X f) + slp X (nea X f) (if f > X 1 (X 0 0 - 1) then 1 else 0) * (f - X 1 (nea X f))) := by
  have hb := nea_bd (X := X) f h1
  unfold valS
  rw [if_neg (by omega), inn_clamp h h1 h2 (Or.inr hk), insd_key h hb.1 hb.2, kX_key h hb.1 hb.2, hk, if_pos rfl, if_neg (show ¬ ((1 : Int) = 4 ∧ X 1 (X 0 0 - 1) > X 1 0) by omega), Int.add_zero]
theorem inn_2 {X : CP} {f : Int} (hk : knd X f = 2 ∨ knd X f = 4) (hL : 1 ≤ X 1 (X 0 0 - 1) - X 1 0) : inn X f = X 1 0 + (f - X 1 0) % (X 1 (X 0 0 - 1) - X 1 0) := by
  unfold inn foldS
  rw [if_neg (by omega), if_pos (by omega)]
theorem inn_3 {X : CP} {f : Int} (hk : knd X f = 3) (hL : 1 ≤ X 1 (X 0 0 - 1) - X 1 0) : inn X f = if (f - X 1 0) % (2 * (X 1 (X 0 0 - 1) - X 1 0)) ≤ X 1 (X 0 0 - 1) - X 1 0 then X 1 0 + (f - X 1 0) % (2 * (X 1 (X 0 0 - 1) - X 1 0)) else X 1 0 + 2 * (X 1 (X 0 0 - 1) - X 1 0) - (f - X 1 0) % (2 * (X 1 (X 0 0 - 1) - X 1 0)) := by
  unfold inn foldS
  rw [if_neg (by omega), if_neg (by omega)]
theorem valS_23 {X : CP} {f : Int} (h1 : 1 ≤ X 0 0) (hk : knd X f = 2 ∨ knd X f = 3) : valS X f = w32 (insd X (inn X f)) := by
  unfold valS
  rw [if_neg (by omega), if_neg (by omega), if_neg (by omega), Int.add_zero, Int.add_zero]
theorem valS_4 {X : CP} {f : Int} (h1 : 1 ≤ X 0 0) (hk : knd X f = 4) (hL : 1 ≤ X 1 (X 0 0 - 1) - X 1 0) : valS X f = w32 (insd X (inn X f) + (f - X 1 0) / (X 1 (X 0 0 - 1) - X 1 0) * 64 * (X 2 (X 0 0 - 1) - X 2 0)) := by
  unfold valS
  rw [if_neg (by omega), if_neg (by omega), if_pos ⟨hk, by omega⟩, Int.add_zero]
