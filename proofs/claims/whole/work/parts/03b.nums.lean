/-! numbers: an int is any whole number that stands for it -/
theorem zi_add (x y : Int) : Int32.ofInt x + Int32.ofInt y = Int32.ofInt (x + y) := (Int32.ofInt_add x y).symm
theorem zi_mul (x y : Int) : Int32.ofInt x * Int32.ofInt y = Int32.ofInt (x * y) := (Int32.ofInt_mul x y).symm
theorem zi_neg (x : Int) : -Int32.ofInt x = Int32.ofInt (-x) := (Int32.ofInt_neg x).symm
theorem zi_sub (x y : Int) : Int32.ofInt x - Int32.ofInt y = Int32.ofInt (x - y) := (Int32.ofInt_sub x y).symm
theorem zl_add (x y : Int) : Int64.ofInt x + Int64.ofInt y = Int64.ofInt (x + y) := (Int64.ofInt_add x y).symm
theorem zl_mul (x y : Int) : Int64.ofInt x * Int64.ofInt y = Int64.ofInt (x * y) := (Int64.ofInt_mul x y).symm
theorem zl_neg (x : Int) : -Int64.ofInt x = Int64.ofInt (-x) := (Int64.ofInt_neg x).symm
theorem zl_sub (x y : Int) : Int64.ofInt x - Int64.ofInt y = Int64.ofInt (x - y) := (Int64.ofInt_sub x y).symm
theorem zi_bm {z : Int} (h : R32 z) : z.bmod (2 ^ 32) = z := by
  obtain ⟨h1, h2⟩ := h
  unfold Int.bmod
  simp only [show ((2 ^ 32 : Nat) : Int) = 4294967296 from rfl]
  split <;> omega
theorem zl_bm {z : Int} (h : R64 z) : z.bmod (2 ^ 64) = z := by
  obtain ⟨h1, h2⟩ := h
  unfold Int.bmod
  simp only [show ((2 ^ 64 : Nat) : Int) = 18446744073709551616 from rfl]
  split <;> omega
theorem zi_ti {x : Int} (h : R32 x) : (Int32.ofInt x).toInt = x := by rw [Int32.toInt_ofInt]; exact zi_bm h
theorem zl_ti {x : Int} (h : R64 x) : (Int64.ofInt x).toInt = x := by rw [Int64.toInt_ofInt]; exact zl_bm h
theorem zi_of (x : Int32) : Int32.ofInt x.toInt = x := Int32.ofInt_toInt x
theorem zl_of (x : Int64) : Int64.ofInt x.toInt = x := Int64.ofInt_toInt x
theorem zi_rng (x : Int32) : R32 x.toInt := by
  have h1 := Int32.le_toInt x
  have h2 := Int32.toInt_lt x
  constructor <;> omega
theorem zl_rng (x : Int64) : R64 x.toInt := by
  have h1 := Int64.le_toInt x
  have h2 := Int64.toInt_lt x
  constructor <;> omega
theorem zi_lt {x y : Int} (hx : R32 x) (hy : R32 y) : Int32.ofInt x < Int32.ofInt y ↔ x < y := by rw [Int32.lt_iff_toInt_lt, zi_ti hx, zi_ti hy]
theorem zi_le {x y : Int} (hx : R32 x) (hy : R32 y) : Int32.ofInt x ≤ Int32.ofInt y ↔ x ≤ y := by rw [Int32.le_iff_toInt_le, zi_ti hx, zi_ti hy]
theorem zi_eq {x y : Int} (hx : R32 x) (hy : R32 y) : Int32.ofInt x = Int32.ofInt y ↔ x = y := by rw [← Int32.toInt_inj, zi_ti hx, zi_ti hy]
theorem zl_lt {x y : Int} (hx : R64 x) (hy : R64 y) : Int64.ofInt x < Int64.ofInt y ↔ x < y := by rw [Int64.lt_iff_toInt_lt, zl_ti hx, zl_ti hy]
theorem zl_eq {x y : Int} (hx : R64 x) (hy : R64 y) : Int64.ofInt x = Int64.ofInt y ↔ x = y := by rw [← Int64.toInt_inj, zl_ti hx, zl_ti hy]
theorem zi_0 : (0 : Int32) = Int32.ofInt 0 := rfl
theorem z0r : R32 0 := by constructor <;> omega
theorem zi_tn {x : Int} (h : R32 x) : (Int32.ofInt x).toNatClampNeg = x.toNat := by
  show (Int32.ofInt x).toInt.toNat = x.toNat
  rw [zi_ti h]
theorem zi_in {x : Int} {n : Nat} (h : R32 x) : vp_in (Int32.ofInt x) n ↔ 0 ≤ x ∧ x < n := by rw [vp_in_iff, zi_ti h]
theorem zi_w {x y : Int} (h : x.bmod (2 ^ 32) = y.bmod (2 ^ 32)) : Int32.ofInt x = Int32.ofInt y := by
  rw [← Int32.toInt_inj, Int32.toInt_ofInt, Int32.toInt_ofInt]; exact h
theorem zl_w {x y : Int} (h : x.bmod (2 ^ 64) = y.bmod (2 ^ 64)) : Int64.ofInt x = Int64.ofInt y := by
  rw [← Int64.toInt_inj, Int64.toInt_ofInt, Int64.toInt_ofInt]; exact h
theorem zi_bb (x : Int) : Int32.ofInt (x.bmod (2 ^ 32)) = Int32.ofInt x := zi_w (by simp)
theorem zl_bb (x : Int) : Int64.ofInt (x.bmod (2 ^ 64)) = Int64.ofInt x := zl_w (by simp)
theorem zi_div {x y : Int} (hx : R32 x) (hy : R32 y) : Int32.ofInt x / Int32.ofInt y = Int32.ofInt (x.tdiv y) := by
  rw [← Int32.toInt_inj, Int32.toInt_div, zi_ti hx, zi_ti hy, Int32.toInt_ofInt]
theorem zl_div {x y : Int} (hx : R64 x) (hy : R64 y) : Int64.ofInt x / Int64.ofInt y = Int64.ofInt (x.tdiv y) := by
  rw [← Int64.toInt_inj, Int64.toInt_div, zl_ti hx, zl_ti hy, Int64.toInt_ofInt]
theorem zi_rem {x y : Int} (hx : R32 x) (hy : R32 y) : Int32.ofInt x - Int32.ofInt x / Int32.ofInt y * Int32.ofInt y = Int32.ofInt (x.tmod y) := by
  rw [zi_div hx hy, zi_mul, zi_sub]
  rw [Int.tmod_def, Int.mul_comm]
theorem zl_rem {x y : Int} (hx : R64 x) (hy : R64 y) : Int64.ofInt x - Int64.ofInt x / Int64.ofInt y * Int64.ofInt y = Int64.ofInt (x.tmod y) := by
  rw [zl_div hx hy, zl_mul, zl_sub]
  rw [Int.tmod_def, Int.mul_comm]
theorem zi_l {x : Int} (hx : R32 x) : (Int32.ofInt x).toInt64 = Int64.ofInt x := by
  rw [← Int64.toInt_inj, Int32.toInt_toInt64, zi_ti hx, zl_ti ⟨by have := hx.1; omega, by have := hx.2; omega⟩]
theorem zl_i (x : Int) : (Int64.ofInt x).toInt32 = Int32.ofInt x := by
  rw [← Int32.toInt_inj, Int64.toInt_toInt32, Int64.toInt_ofInt, Int32.toInt_ofInt]
  exact Int.bmod_bmod_of_dvd (by decide)
def cmpZ (x y : Int) : Int := if x < y then -1 else if x = y then 0 else 1
theorem zl_cmp {x y : Int} (hx : R64 x) (hy : R64 y) : lg_cmp (Int64.ofInt x) (Int64.ofInt y) = Int32.ofInt (cmpZ x y) := by
  unfold lg_cmp cmpZ
  by_cases h1 : x < y
  · have h2 : ¬ y < x := by omega
    have h3 : ¬ x = y := by omega
    simp [zl_lt hy hx, zl_eq hx hy, h1, h2, h3]
  · by_cases h2 : x = y
    · subst h2
      have h3 : ¬ x < x := by omega
      simp
    · have h3 : y < x := by omega
      simp [zl_lt hy hx, zl_eq hx hy, h1, h2, h3]
def xorI (x y : Int) : Int := (Int32.ofInt x ^^^ Int32.ofInt y).toInt
def andI (x y : Int) : Int := (Int32.ofInt x &&& Int32.ofInt y).toInt
def xorL (x y : Int) : Int := (Int64.ofInt x ^^^ Int64.ofInt y).toInt
