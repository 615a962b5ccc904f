/-! evaluation of a curve, as numbers -/
def CI (X : CP) : Prop := (0 ≤ X 0 0 ∧ X 0 0 ≤ 24) ∧ (∀ j, 0 ≤ j → j < X 0 0 → 0 ≤ X 1 j ∧ X 1 j ≤ 480 ∧ -999 ≤ X 2 j ∧ X 2 j ≤ 999 ∧ 0 ≤ X 3 j ∧ X 3 j ≤ 6 ∧ -9999 ≤ X 4 j ∧ X 4 j ≤ 9999 ∧ -9999 ≤ X 5 j ∧ X 5 j ≤ 9999) ∧ (∀ i j, 0 ≤ i → i < j → j < X 0 0 → X 1 i < X 1 j) ∧ 0 ≤ X 0 1 ∧ X 0 1 ≤ 4 ∧ 0 ≤ X 0 2 ∧ X 0 2 ≤ 4
theorem CIw {w : Wd} {c : Nat} (h : CI (cx w c)) : (0 ≤ w c 0 ∧ w c 0 ≤ 24) ∧ (∀ j, 0 ≤ j → j < w c 0 → 0 ≤ w (c + 1) j ∧ w (c + 1) j ≤ 480 ∧ -999 ≤ w (c + 2) j ∧ w (c + 2) j ≤ 999 ∧ 0 ≤ w (c + 3) j ∧ w (c + 3) j ≤ 6 ∧ -9999 ≤ w (c + 4) j ∧ w (c + 4) j ≤ 9999 ∧ -9999 ≤ w (c + 5) j ∧ w (c + 5) j ≤ 9999) ∧ (∀ i j, 0 ≤ i → i < j → j < w c 0 → w (c + 1) i < w (c + 1) j) ∧ 0 ≤ w c 1 ∧ w c 1 ≤ 4 ∧ 0 ≤ w c 2 ∧ w c 2 ≤ 4 := h
theorem cxr {w : Wd} {c r : Nat} {j : Int} : cx w c r j = w (c + r) j := rfl
theorem rndW_eq {n d : Int} (hd : 0 < d) (h : R64 (2 * n + d)) : rndW n d = (2 * n + d) / (2 * d) := by
  unfold rndW
  rw [if_pos hd, w64_id h]
theorem rnd_bd {n d B : Int} (hd : 0 < d) (hB : 0 ≤ B) (h1 : -B ≤ n) (h2 : n ≤ B) : -B ≤ (2 * n + d) / (2 * d) ∧ (2 * n + d) / (2 * d) ≤ B := by
  have g1 : B * 1 ≤ B * d := Int.mul_le_mul_of_nonneg_left (by omega) hB
  have e1 : -B * (2 * d) = -(2 * (B * d)) := by rw [Int.neg_mul, Int.mul_left_comm]
  have e2 : (B + 1) * (2 * d) = 2 * (B * d) + 2 * d := by rw [Int.add_mul, Int.one_mul, Int.mul_left_comm]
  refine ⟨(Int.le_ediv_iff_mul_le (by omega)).mpr (by rw [e1]; omega), ?_⟩
  have := (Int.ediv_lt_iff_lt_mul (a := 2 * n + d) (b := B + 1) (show 0 < 2 * d by omega)).mpr (by rw [e2]; omega)
  omega
theorem rdi_eq {n d B : Int} (hd : 0 < d) (hd2 : d ≤ 1000000000) (hB : 0 ≤ B) (hB2 : B ≤ 1000000000) (h1 : -B ≤ n) (h2 : n ≤ B) : rdi n d = (2 * n + d) / (2 * d) := by
  unfold rdi
  rw [rndW_eq hd ⟨by omega, by omega⟩]
  have := rnd_bd hd hB h1 h2
  exact w32_id ⟨by omega, by omega⟩
theorem rdi_bd {n d B : Int} (hd : 0 < d) (hd2 : d ≤ 1000000000) (hB : 0 ≤ B) (hB2 : B ≤ 1000000000) (h1 : -B ≤ n) (h2 : n ≤ B) : -B ≤ rdi n d ∧ rdi n d ≤ B := by
  rw [rdi_eq hd hd2 hB hB2 h1 h2]
  exact rnd_bd hd hB h1 h2
def sec2 (X : CP) (i j : Int) : Int := rdi (64 * (X 2 j - X 2 i)) (X 1 j - X 1 i)
def autX (X : CP) (k : Int) : Int := sec2 X (if k = 0 then k else k - 1) (if k = X 0 0 - 1 then k else k + 1)
def btwX (X : CP) (k : Int) : Prop := (X 2 k > X 2 (k - 1) ∧ X 2 k < X 2 (k + 1)) ∨ (X 2 k < X 2 (k - 1) ∧ X 2 k > X 2 (k + 1))
def monS (a l r : Int) : Int := if (l > 0 ∧ r > 0) ∨ (l < 0 ∧ r < 0) then lim a (3 * min (l.natAbs : Int) (r.natAbs : Int)) else 0
def slp (X : CP) (k o : Int) : Int :=
  if X 3 k = 0 then (if o = 0 then X 4 k else X 5 k)
  else if X 0 0 < 2 ∨ X 3 k = 1 ∨ X 3 k = 6 then 0
  else if X 3 k = 2 then (if k = 0 ∨ (o ≠ 0 ∧ k ≠ X 0 0 - 1) then sec2 X k (k + 1) else sec2 X (k - 1) k)
  else if X 3 k = 3 then autX X k
  else if k = 0 ∨ k = X 0 0 - 1 then 0
  else if X 3 k = 4 then (if (X 2 k > X 2 (k - 1) ∧ X 2 k < X 2 (k + 1)) ∨ (X 2 k < X 2 (k - 1) ∧ X 2 k > X 2 (k + 1)) then autX X k else 0)
  else monS (autX X k) (sec2 X (k - 1) k) (sec2 X k (k + 1))
theorem sec2_bd {X : CP} (h : CI X) {i j : Int} (h1 : 0 ≤ i) (h2 : i < j) (h3 : j < X 0 0) : -127872 ≤ sec2 X i j ∧ sec2 X i j ≤ 127872 := by
  obtain ⟨hn, P, O, -⟩ := h
  have a1 := P i h1 (by omega)
  have a2 := P j (by omega) h3
  have a3 := O i j h1 h2 h3
  exact rdi_bd (by omega) (by omega) (by omega) (by omega) (by omega) (by omega)
def herm (p q m n d x : Int) : Int := w32 (rndW (p * (d * d * d - (3 * (x * x) * d - 2 * (x * x * x))) + q * (3 * (x * x) * d - 2 * (x * x * x)) + d * m * (x * x * x - 2 * (x * x) * d + x * d * d) + d * n * (x * x * x - x * x * d)) (d * d * d))
def btw (X : CP) (k f : Int) : Int := if X 3 k = 6 then 64 * X 2 k else herm (64 * X 2 k) (64 * X 2 (k + 1)) (slp X k 1) (slp X (k + 1) 0) (X 1 (k + 1) - X 1 k) (f - X 1 k)
theorem d3_bd {d : Int} (h1 : 0 < d) (h2 : d ≤ 480) : 0 < d * d * d ∧ d * d * d ≤ 110592000 := by
  have a1 : 0 < d * d := Int.mul_pos h1 h1
  have a2 : d * d ≤ 480 * 480 := Int.mul_le_mul h2 h2 (by omega) (by omega)
  have a3 : d * d * d ≤ 230400 * 480 := Int.mul_le_mul (by omega) h2 (by omega) (by omega)
  exact ⟨Int.mul_pos a1 h1, by omega⟩
def kb (f : Int → Int) (t : Int) : Nat → Int
  | 0 => 0
  | m + 1 => if kb f t m = m ∧ f m < t then (m : Int) + 1 else kb f t m
theorem kb_KB (f : Int → Int) (t : Int) : ∀ m : Nat, KB m f t (kb f t m)
  | 0 => ⟨by simp [kb], by simp [kb], fun j h1 h2 => by simp [kb] at h2; omega, fun h => by simp [kb] at h⟩
  | m + 1 => by
    obtain ⟨a1, a2, a3, a4⟩ := kb_KB f t m
    unfold kb
    by_cases h : kb f t m = m ∧ f m < t
    · rw [if_pos h]
      refine ⟨by omega, by omega, fun j h1 h2 => ?_, fun h2 => by omega⟩
      rcases Int.lt_or_le j m with q | q
      · exact a3 j h1 (by omega)
      · rw [show j = (m : Int) by omega]; exact h.2
    · rw [if_neg h]
      refine ⟨a1, by omega, a3, fun h2 => ?_⟩
      rcases Int.lt_or_le (kb f t m) m with q | q
      · exact a4 q
      · have e : kb f t m = m := by omega
        rw [e]
        rcases Int.lt_or_le (f m) t with z | z
        · exact absurd ⟨e, z⟩ h
        · exact z
def kX (X : CP) (t : Int) : Int := kb (X 1) (t + 1) (X 0 0).toNat - 1
theorem kX_of {X : CP} {t r : Int} (hn : 0 ≤ X 0 0) (h : KB (X 0 0) (X 1) (t + 1) r) : kX X t = r - 1 := by
  have h2 := kb_KB (X 1) (t + 1) (X 0 0).toNat
  rw [show (((X 0 0).toNat : Nat) : Int) = X 0 0 by omega] at h2
  unfold kX
  rw [KB_one h2 h]
def insd (X : CP) (f : Int) : Int := if X 1 (kX X f) = f then 64 * X 2 (kX X f) else btw X (kX X f) f
def knd (X : CP) (f : Int) : Int := if X 1 0 = X 1 (X 0 0 - 1) ∨ (X 1 0 ≤ f ∧ f ≤ X 1 (X 0 0 - 1)) then 0 else if f < X 1 0 then X 0 1 else X 0 2
def foldS (kd f a b : Int) : Int := if kd = 0 ∨ kd = 1 ∨ b - a < 1 then max a (min b f) else if kd ≠ 3 then a + (f - a) % (b - a) else if (f - a) % (2 * (b - a)) ≤ b - a then a + (f - a) % (2 * (b - a)) else a + 2 * (b - a) - (f - a) % (2 * (b - a))
theorem foldS_bd {kd f a b : Int} (h : a ≤ b) : a ≤ foldS kd f a b ∧ foldS kd f a b ≤ b := by
  unfold foldS
  split
  · omega
  · rename_i h1
    have h2 : 0 < b - a := by omega
    have e1 := Int.emod_nonneg (f - a) (show b - a ≠ 0 by omega)
    have e2 := Int.emod_lt_of_pos (f - a) h2
    have e3 := Int.emod_nonneg (f - a) (show 2 * (b - a) ≠ 0 by omega)
    have e4 := Int.emod_lt_of_pos (f - a) (show 0 < 2 * (b - a) by omega)
    split
    · omega
    · split <;> omega
def inn (X : CP) (f : Int) : Int := foldS (knd X f) f (X 1 0) (X 1 (X 0 0 - 1))
def valS (X : CP) (f : Int) : Int := if X 0 0 < 1 then 0 else
  w32 (insd X (inn X f) + (if knd X f = 1 then slp X (kX X (inn X f)) (if f > X 1 (X 0 0 - 1) then 1 else 0) * (f - inn X f) else 0) + (if knd X f = 4 ∧ X 1 (X 0 0 - 1) > X 1 0 then (f - X 1 0) / (X 1 (X 0 0 - 1) - X 1 0) * 64 * (X 2 (X 0 0 - 1) - X 2 0) else 0))
theorem valS_r (X : CP) (f : Int) : R32 (valS X f) := by
  unfold valS
  split
  · constructor <;> omega
  · exact w32_r _
