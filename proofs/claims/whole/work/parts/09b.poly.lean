/-! how large values of curves are -/
theorem mul_bd {a b P R : Int} (h1 : -P ≤ a) (h2 : a ≤ P) (h3 : -R ≤ b) (h4 : b ≤ R) : -(P * R) ≤ a * b ∧ a * b ≤ P * R := by
  have hP : 0 ≤ P := by omega
  have u3 : P * b ≤ P * R := Int.mul_le_mul_of_nonneg_left h4 hP
  have u4 : P * (-R) ≤ P * b := Int.mul_le_mul_of_nonneg_left h3 hP
  rw [Int.mul_neg] at u4
  rcases Int.le_total 0 b with hb | hb
  · have u1 : a * b ≤ P * b := Int.mul_le_mul_of_nonneg_right h2 hb
    have u2 : -P * b ≤ a * b := Int.mul_le_mul_of_nonneg_right h1 hb
    rw [Int.neg_mul] at u2
    omega
  · have u1 : a * b ≤ -P * b := Int.mul_le_mul_of_nonpos_right h1 hb
    have u2 : P * b ≤ a * b := Int.mul_le_mul_of_nonpos_right h2 hb
    rw [Int.neg_mul] at u1
    omega
theorem mul_bn {a u P : Int} (h1 : -P ≤ a) (h2 : a ≤ P) (hu : 0 ≤ u) : -(P * u) ≤ a * u ∧ a * u ≤ P * u := mul_bd h1 h2 (by omega) (Int.le_refl u)
theorem rnd_bd2 {n d B : Int} (hd : 0 < d) (h1 : -(B * d) ≤ n) (h2 : n ≤ B * d) : -B ≤ (2 * n + d) / (2 * d) ∧ (2 * n + d) / (2 * d) ≤ B := by
  have e1 : -B * (2 * d) = -(2 * (B * d)) := by rw [Int.neg_mul, Int.mul_left_comm]
  have e2 : (B + 1) * (2 * d) = 2 * (B * d) + 2 * d := by rw [Int.add_mul, Int.one_mul, Int.mul_left_comm]
  refine ⟨(Int.le_ediv_iff_mul_le (by omega)).mpr (by rw [e1]; omega), ?_⟩
  have := (Int.ediv_lt_iff_lt_mul (a := 2 * n + d) (b := B + 1) (show 0 < 2 * d by omega)).mpr (by rw [e2]; omega)
  omega
theorem autX_bd {X : CP} (h : CI X) {k : Int} (h2 : 2 ≤ X 0 0) (hk : 0 ≤ k ∧ k < X 0 0) : -127872 ≤ autX X k ∧ autX X k ≤ 127872 := by
  unfold autX
  split <;> split <;> exact sec2_bd h (by omega) (by omega) (by omega)
theorem lim_ab (x : Int) {m B : Int} (hm : 0 ≤ m) (h1 : -B ≤ x) (h2 : x ≤ B) : -B ≤ lim x m ∧ lim x m ≤ B := by
  unfold lim
  split
  · omega
  · split <;> omega
theorem slp_bd {X : CP} (h : CI X) {k : Int} (o : Int) (hk : 0 ≤ k ∧ k < X 0 0) : -127872 ≤ slp X k o ∧ slp X k o ≤ 127872 := by
  have P := h.2.1 k hk.1 hk.2
  unfold slp
  split
  · split <;> omega
  split
  · omega
  rename_i h0 h1
  have h2 : 2 ≤ X 0 0 := by omega
  split
  · split
    · exact sec2_bd h (by omega) (by omega) (by omega)
    · exact sec2_bd h (by omega) (by omega) (by omega)
  split
  · exact autX_bd h h2 hk
  split
  · omega
  split
  · split
    · exact autX_bd h h2 hk
    · omega
  · unfold monS
    split
    · have a := autX_bd h h2 hk
      exact lim_ab _ (by omega) a.1 a.2
    · omega
theorem herm_bd {p q m n d x : Int} (hp : -63936 ≤ p ∧ p ≤ 63936) (hq : -63936 ≤ q ∧ q ≤ 63936) (hm : -127872 ≤ m ∧ m ≤ 127872) (hn : -127872 ≤ n ∧ n ≤ 127872) (hd : 0 < d ∧ d ≤ 480) (hx : 0 ≤ x ∧ x ≤ d) : -61442496 ≤ herm p q m n d x ∧ herm p q m n d x ≤ 61442496 := by
  have D3 := d3_bd hd.1 hd.2
  obtain ⟨y, hy⟩ : ∃ y, y = d - x := ⟨_, rfl⟩
  have y0 : 0 ≤ y := by omega
  have A0 : 0 ≤ x * x * x := Int.mul_nonneg (Int.mul_nonneg hx.1 hx.1) hx.1
  have B0 : 0 ≤ x * x * y := Int.mul_nonneg (Int.mul_nonneg hx.1 hx.1) y0
  have C0 : 0 ≤ x * y * y := Int.mul_nonneg (Int.mul_nonneg hx.1 y0) y0
  have E0 : 0 ≤ y * y * y := Int.mul_nonneg (Int.mul_nonneg y0 y0) y0
  have eD : d * d * d = x * x * x + 3 * (x * x * y) + 3 * (x * y * y) + y * y * y := by
    rw [show d = x + y by omega]; grind
  have eS : p * (d * d * d - (3 * (x * x) * d - 2 * (x * x * x))) + q * (3 * (x * x) * d - 2 * (x * x * x)) + d * m * (x * x * x - 2 * (x * x) * d + x * d * d) + d * n * (x * x * x - x * x * d) = p * (3 * (x * y * y) + y * y * y) + q * (x * x * x + 3 * (x * x * y)) + d * m * (x * y * y) - d * n * (x * x * y) := by
    rw [show d = x + y by omega]; grind
  have dm := mul_bd (a := d) (b := m) (P := 480) (R := 127872) (by omega) (by omega) (by omega) (by omega)
  have dn := mul_bd (a := d) (b := n) (P := 480) (R := 127872) (by omega) (by omega) (by omega) (by omega)
  have b1 := mul_bn hp.1 hp.2 (show 0 ≤ 3 * (x * y * y) + y * y * y by omega)
  have b2 := mul_bn hq.1 hq.2 (show 0 ≤ x * x * x + 3 * (x * x * y) by omega)
  have b3 := mul_bn (a := d * m) (P := 61378560) (by omega) (by omega) C0
  have b4 := mul_bn (a := d * n) (P := 61378560) (by omega) (by omega) B0
  unfold herm
  rw [eS]
  obtain ⟨S, hS⟩ : ∃ S, S = p * (3 * (x * y * y) + y * y * y) + q * (x * x * x + 3 * (x * x * y)) + d * m * (x * y * y) - d * n * (x * x * y) := ⟨_, rfl⟩
  rw [← hS]
  have s1 : -(61442496 * (d * d * d)) ≤ S ∧ S ≤ 61442496 * (d * d * d) := by omega
  rw [rndW_eq D3.1 ⟨by omega, by omega⟩]
  have r := rnd_bd2 (n := S) (B := 61442496) D3.1 s1.1 s1.2
  rw [w32_id ⟨by omega, by omega⟩]
  exact r
theorem insd_bd {X : CP} (h : CI X) {f : Int} (h1 : 1 ≤ X 0 0) (hf : X 1 0 ≤ f) (hl : f ≤ X 1 (X 0 0 - 1)) : -61442496 ≤ insd X f ∧ insd X f ≤ 61442496 := by
  obtain ⟨k0, k1, k2, k3⟩ := kX_in h h1 hf
  have P := h.2.1 _ k0 k1
  unfold insd
  by_cases e : X 1 (kX X f) = f
  · rw [if_pos e]; omega
  · rw [if_neg e]
    have kl : kX X f + 1 < X 0 0 := by
      rcases Int.lt_or_le (kX X f + 1) (X 0 0) with z | z
      · exact z
      · rw [show X 0 0 - 1 = kX X f by omega] at hl
        omega
    have P2 := h.2.1 (kX X f + 1) (by omega) kl
    have O := h.2.2.1 (kX X f) (kX X f + 1) k0 (by omega) kl
    have k4 := k3 kl
    unfold btw
    split
    · omega
    · exact herm_bd (by omega) (by omega) (slp_bd h 1 ⟨k0, k1⟩) (slp_bd h 0 ⟨by omega, kl⟩) (by omega) (by omega)
theorem valS_bd {X : CP} (h : CI X) {f : Int} (hf : 0 ≤ f ∧ f ≤ 1000) : -200000000 ≤ valS X f ∧ valS X f ≤ 200000000 := by
  unfold valS
  split
  · omega
  have h1 : 1 ≤ X 0 0 := by omega
  have le := frs_le h (Int.le_refl 0) (show 0 ≤ X 0 0 - 1 by omega) (by omega)
  have ib : X 1 0 ≤ inn X f ∧ inn X f ≤ X 1 (X 0 0 - 1) := foldS_bd le
  obtain ⟨k0, k1, k2, k3⟩ := kX_in h h1 ib.1
  have P0 := h.2.1 0 (by omega) (by omega)
  have Pl := h.2.1 (X 0 0 - 1) (by omega) (by omega)
  have i0 := insd_bd h h1 ib.1 ib.2
  have sb := mul_bd (a := slp X (kX X (inn X f)) (if f > X 1 (X 0 0 - 1) then 1 else 0)) (b := f - inn X f) (P := 127872) (R := 1000) (slp_bd h _ ⟨k0, k1⟩).1 (slp_bd h _ ⟨k0, k1⟩).2 (by omega) (by omega)
  have ob : X 1 (X 0 0 - 1) > X 1 0 → -127872000 ≤ (f - X 1 0) / (X 1 (X 0 0 - 1) - X 1 0) * 64 * (X 2 (X 0 0 - 1) - X 2 0) ∧ (f - X 1 0) / (X 1 (X 0 0 - 1) - X 1 0) * 64 * (X 2 (X 0 0 - 1) - X 2 0) ≤ 127872000 := fun z => by
    have a := ediv_bd (x := f - X 1 0) (y := X 1 (X 0 0 - 1) - X 1 0) (B := 1000) (by omega) (by omega) (by omega) (by omega)
    have b := mul_bd (a := (f - X 1 0) / (X 1 (X 0 0 - 1) - X 1 0) * 64) (b := X 2 (X 0 0 - 1) - X 2 0) (P := 64000) (R := 1998) (by omega) (by omega) (by omega) (by omega)
    omega
  by_cases e1 : knd X f = 1
  · rw [if_pos e1, if_neg (show ¬ (knd X f = 4 ∧ X 1 (X 0 0 - 1) > X 1 0) by omega), w32_id ⟨by omega, by omega⟩]
    omega
  · rw [if_neg e1]
    by_cases e2 : knd X f = 4 ∧ X 1 (X 0 0 - 1) > X 1 0
    · have o := ob e2.2
      rw [if_pos e2, w32_id ⟨by omega, by omega⟩]
      omega
    · rw [if_neg e2, w32_id ⟨by omega, by omega⟩]
      omega
/-! polylines -/
theorem line_bd {R x d : Int} (hR : -400000000 ≤ R ∧ R ≤ 400000000) (hx : 0 ≤ x ∧ x ≤ d) (hd : 1 ≤ d ∧ d ≤ 100) : -400000000 ≤ rndW (R * x) d ∧ rndW (R * x) d ≤ 400000000 := by
  have m := mul_bd (a := R) (b := x) (P := 400000000) (R := d) hR.1 hR.2 (by omega) hx.2
  rw [rndW_eq (by omega) ⟨by omega, by omega⟩]
  exact rnd_bd2 (by omega) m.1 m.2
def dfS (s : Int → Int) (a b i : Int) : Int := ((s a + rndW ((s b - s a) * (i - a)) (b - a) - s i).natAbs : Int)
def mfA (s : Int → Int) (t a b : Int) : Nat → Int
  | 0 => 0
  | m + 1 => if mfA s t a b m < 0 then -1 else if dfS s a b (a + m + 1) > t then -1 else mfA s t a b m + dfS s a b (a + m + 1)
def mfS (s : Int → Int) (t a b : Int) : Int := mfA s t a b (b - a - 1).toNat
theorem mfA_neg {s : Int → Int} {t a b : Int} : ∀ m : Nat, mfA s t a b m < 0 → mfA s t a b m = -1
  | 0, h => by simp [mfA] at h
  | m + 1, h => by
    unfold mfA at h ⊢
    split
    · rfl
    · rename_i h1
      rw [if_neg h1] at h
      split
      · rfl
      · rename_i h2
        rw [if_neg h2] at h
        have : 0 ≤ dfS s a b (a + m + 1) := Int.natCast_nonneg _
        omega
theorem mfA_stop {s : Int → Int} {t a b : Int} {m : Nat} (h : mfA s t a b m < 0) : ∀ k : Nat, mfA s t a b (m + k) = -1
  | 0 => mfA_neg _ h
  | k + 1 => by
    show mfA s t a b (m + k + 1) = -1
    unfold mfA
    rw [if_pos (by rw [mfA_stop h k]; omega)]
theorem mfA_s {s : Int → Int} {t a b : Int} {m : Nat} (h : 0 ≤ mfA s t a b m) : mfA s t a b (m + 1) = if dfS s a b (a + m + 1) > t then -1 else mfA s t a b m + dfS s a b (a + m + 1) := by
  rw [mfA, if_neg (by omega)]
theorem mfA_bd {s : Int → Int} {t a b : Int} (ht : 0 ≤ t ∧ t ≤ 9999) : ∀ m : Nat, -1 ≤ mfA s t a b m ∧ mfA s t a b m ≤ 10000 * m
  | 0 => by simp [mfA]
  | m + 1 => by
    have ih := mfA_bd ht m (s := s) (a := a) (b := b)
    have : 0 ≤ dfS s a b (a + m + 1) := Int.natCast_nonneg _
    unfold mfA
    split
    · omega
    · split <;> omega
theorem mf_stop {s : Int → Int} {t a b : Int} {m : Nat} (hm : a + 1 + m < b) (h0 : 0 ≤ mfA s t a b m) (h : dfS s a b (a + m + 1) > t) : mfS s t a b = -1 := by
  have e : mfA s t a b (m + 1) = -1 := by rw [mfA_s h0, if_pos h]
  unfold mfS
  rw [show (b - a - 1).toNat = m + 1 + ((b - a - 1).toNat - (m + 1)) by omega]
  exact mfA_stop (by omega) _
def cnA (F G s : Int → Int) (t a : Int) : Nat → Int × Int × Int
  | 0 => (F (a + 1) + 1, G (a + 1), a + 1)
  | m + 1 => if 0 ≤ mfS s t a (a + m + 2) ∧ (F (a + m + 2) + 1 < (cnA F G s t a m).1 ∨ (F (a + m + 2) + 1 = (cnA F G s t a m).1 ∧ mfS s t a (a + m + 2) + G (a + m + 2) < (cnA F G s t a m).2.1)) then (F (a + m + 2) + 1, mfS s t a (a + m + 2) + G (a + m + 2), a + m + 2) else cnA F G s t a m
abbrev TB3 : Type := (Int → Int) × (Int → Int) × (Int → Int)
def updI (f : Int → Int) (a x : Int) : Int → Int := fun j => if j = a then x else f j
def plT (s : Int → Int) (t n : Int) : Nat → TB3
  | 0 => (fun _ => 1, fun _ => 0, fun _ => 0)
  | k + 1 => (updI (plT s t n k).1 (n - k - 1) (cnA (plT s t n k).1 (plT s t n k).2.1 s t (n - k - 1) k).1, updI (plT s t n k).2.1 (n - k - 1) (cnA (plT s t n k).1 (plT s t n k).2.1 s t (n - k - 1) k).2.1, updI (plT s t n k).2.2 (n - k - 1) (cnA (plT s t n k).1 (plT s t n k).2.1 s t (n - k - 1) k).2.2)
theorem plT_s (s : Int → Int) (t n : Int) (k : Nat) : plT s t n (k + 1) = (updI (plT s t n k).1 (n - k - 1) (cnA (plT s t n k).1 (plT s t n k).2.1 s t (n - k - 1) k).1, updI (plT s t n k).2.1 (n - k - 1) (cnA (plT s t n k).1 (plT s t n k).2.1 s t (n - k - 1) k).2.1, updI (plT s t n k).2.2 (n - k - 1) (cnA (plT s t n k).1 (plT s t n k).2.1 s t (n - k - 1) k).2.2) := rfl
def itN (N : Int → Int) : Nat → Int
  | 0 => 0
  | i + 1 => N (itN N i)
def plS (s : Int → Int) (t n x fr : Int) : Int := if x = -1 then (plT s t n n.toNat).1 0 else if x ≥ (plT s t n n.toNat).1 0 then -1000000005 else fr + itN (plT s t n n.toNat).2.2 x.toNat
/-- what the tables keep -/
def TBd (n lo : Int) (F G : Int → Int) : Prop := ∀ j, lo ≤ j → j ≤ n → 1 ≤ F j ∧ F j ≤ n - j + 1 ∧ 0 ≤ G j ∧ G j ≤ (n - j) * 400000
theorem cnA_bd {F G s : Int → Int} {t a n : Int} (ht : 0 ≤ t ∧ t ≤ 9999) (h0 : 0 ≤ a) (hn : n ≤ 40) (h : TBd n (a + 1) F G) : ∀ m : Nat, a + m + 1 ≤ n → (1 ≤ (cnA F G s t a m).1 ∧ (cnA F G s t a m).1 ≤ n - a + 1 ∧ 0 ≤ (cnA F G s t a m).2.1 ∧ (cnA F G s t a m).2.1 ≤ (n - a) * 400000) ∧ a < (cnA F G s t a m).2.2 ∧ (cnA F G s t a m).2.2 ≤ n ∧ (cnA F G s t a m).1 = F (cnA F G s t a m).2.2 + 1
  | 0, hm => by
    have e := h (a + 1) (by omega) (by omega)
    unfold cnA
    exact ⟨⟨by show 1 ≤ F (a + 1) + 1; omega, by show F (a + 1) + 1 ≤ n - a + 1; omega, e.2.2.1, by show G (a + 1) ≤ _; omega⟩, by show a < a + 1; omega, by show a + 1 ≤ n; omega, rfl⟩
  | m + 1, hm => by
    have ih := cnA_bd (s := s) ht h0 hn h m (by omega)
    have e := h (a + m + 2) (by omega) (by omega)
    have b := mfA_bd (s := s) (a := a) (b := a + m + 2) ht (a + m + 2 - a - 1).toNat
    unfold cnA
    split
    · rename_i z
      unfold mfS at z ⊢
      refine ⟨⟨by show 1 ≤ F (a + m + 2) + 1; omega, by show F (a + m + 2) + 1 ≤ n - a + 1; omega, ?_, ?_⟩, by show a < a + m + 2; omega, by show a + m + 2 ≤ n; omega, rfl⟩
      · show 0 ≤ mfA s t a (a + m + 2) _ + G (a + m + 2)
        omega
      · show mfA s t a (a + m + 2) _ + G (a + m + 2) ≤ (n - a) * 400000
        omega
    · exact ih
theorem updI_y {f : Int → Int} {a x : Int} : updI f a x a = x := if_pos rfl
theorem updI_n {f : Int → Int} {a x j : Int} (h : j ≠ a) : updI f a x j = f j := if_neg h
theorem plT_bd {s : Int → Int} {t n : Int} (ht : 0 ≤ t ∧ t ≤ 9999) (hn : 0 ≤ n ∧ n ≤ 40) : ∀ k : Nat, (k : Int) ≤ n → TBd n (n - k) (plT s t n k).1 (plT s t n k).2.1 ∧ (∀ j, n - k ≤ j → j < n → j < (plT s t n k).2.2 j ∧ (plT s t n k).2.2 j ≤ n ∧ (plT s t n k).1 j = (plT s t n k).1 ((plT s t n k).2.2 j) + 1) ∧ (plT s t n k).1 n = 1
  | 0, _ => ⟨fun j h1 h2 => by
      unfold plT
      show 1 ≤ (1 : Int) ∧ (1 : Int) ≤ _ ∧ 0 ≤ (0 : Int) ∧ (0 : Int) ≤ _
      omega, fun j h1 h2 => by omega, rfl⟩
  | k + 1, hk => by
    obtain ⟨i1, i2, i3⟩ := plT_bd (s := s) ht hn k (by omega)
    have c := cnA_bd (s := s) (a := n - k - 1) ht (by omega) hn.2 (by rw [show n - k - 1 + 1 = n - k by omega]; exact i1) k (by omega)
    rw [plT_s]
    revert i1 i2 i3 c
    dsimp only
    generalize plT s t n k = T
    generalize cnA T.1 T.2.1 s t (n - k - 1) k = c
    intro i1 i2 i3 c
    obtain ⟨⟨c1, c2, c3, c4⟩, c5, c6, c7⟩ := c
    refine ⟨fun j h1 h2 => ?_, fun j h1 h2 => ?_, ?_⟩
    · by_cases e : j = n - k - 1
      · subst e
        rw [updI_y, updI_y]
        exact ⟨c1, c2, c3, c4⟩
      · rw [updI_n e, updI_n e]
        exact i1 j (by omega) h2
    · by_cases e : j = n - k - 1
      · subst e
        rw [updI_y, updI_y, updI_n (by omega)]
        exact ⟨c5, c6, c7⟩
      · rw [updI_n e, updI_n e]
        have q := i2 j (by omega) h2
        rw [updI_n (by omega)]
        exact q
    · rw [updI_n (by omega)]; exact i3
theorem itN_in {s : Int → Int} {t n : Int} (ht : 0 ≤ t ∧ t ≤ 9999) (hn : 0 ≤ n ∧ n ≤ 40) : ∀ i : Nat, (i : Int) < (plT s t n n.toNat).1 0 → 0 ≤ itN (plT s t n n.toNat).2.2 i ∧ itN (plT s t n n.toNat).2.2 i ≤ n ∧ (plT s t n n.toNat).1 (itN (plT s t n n.toNat).2.2 i) = (plT s t n n.toNat).1 0 - i
  | 0, _ => ⟨Int.le_refl 0, hn.1, by show _ = _ - ((0 : Nat) : Int); rw [show itN (plT s t n n.toNat).2.2 0 = 0 from rfl]; omega⟩
  | i + 1, h => by
    obtain ⟨h1, h2, h3⟩ := itN_in (s := s) ht hn i (by omega)
    obtain ⟨b1, b2, b3⟩ := plT_bd (s := s) ht hn n.toNat (by omega)
    show 0 ≤ (plT s t n n.toNat).2.2 (itN _ i) ∧ (plT s t n n.toNat).2.2 (itN _ i) ≤ n ∧ (plT s t n n.toNat).1 ((plT s t n n.toNat).2.2 (itN _ i)) = _
    have l : itN (plT s t n n.toNat).2.2 i < n := by
      rcases Int.lt_or_le (itN (plT s t n n.toNat).2.2 i) n with z | z
      · exact z
      · rw [show itN (plT s t n n.toNat).2.2 i = n by omega, b3] at h3
        omega
    have q := b2 _ (by omega) l
    omega
/-- after k frames from the end: what the rows hold -/
def PLK (w : Wd) (oF oG oN : Nat) (s : Int → Int) (t n : Int) (k : Nat) : Prop := ∀ j, n - k ≤ j → j ≤ n → w oF j = (plT s t n k).1 j ∧ w oG j = (plT s t n k).2.1 j ∧ (j < n → w oN j = (plT s t n k).2.2 j)
theorem PLK_0 {w : Wd} {oF oG oN : Nat} {s : Int → Int} {t n : Int} (h1 : w oF n = 1) (h2 : w oG n = 0) : PLK w oF oG oN s t n 0 := fun j a b => by
  have e : j = n := by omega
  subst e
  exact ⟨h1, h2, fun z => by omega⟩
theorem PLK_s {w w2 : Wd} {oF oG oN : Nat} {s : Int → Int} {t n : Int} {k : Nat} (h : PLK w oF oG oN s t n k) (a : Int) (ha : a = n - k - 1) (f1 : w2 oF a = (cnA (plT s t n k).1 (plT s t n k).2.1 s t a k).1) (f2 : w2 oG a = (cnA (plT s t n k).1 (plT s t n k).2.1 s t a k).2.1) (f3 : w2 oN a = (cnA (plT s t n k).1 (plT s t n k).2.1 s t a k).2.2) (g1 : ∀ j, j ≠ a → w2 oF j = w oF j) (g2 : ∀ j, j ≠ a → w2 oG j = w oG j) (g3 : ∀ j, j ≠ a → w2 oN j = w oN j) : PLK w2 oF oG oN s t n (k + 1) := fun j h1 h2 => by
  subst ha
  rw [plT_s]
  dsimp only
  by_cases e : j = n - k - 1
  · subst e
    rw [updI_y, updI_y, updI_y]
    exact ⟨f1, f2, fun _ => f3⟩
  · rw [updI_n e, updI_n e, updI_n e, g1 j e, g2 j e, g3 j e]
    exact h j (by omega) h2
/-- the choice of a next frame after m ends: what is best so far -/
def CNI (F G s : Int → Int) (t a : Int) (m : Nat) (x y z : Int) : Prop := match m with
  | 0 => x = 2147483647 ∧ y = 2147483647
  | k + 1 => x = (cnA F G s t a k).1 ∧ y = (cnA F G s t a k).2.1 ∧ z = (cnA F G s t a k).2.2
theorem mf_1 {s : Int → Int} {t a : Int} : mfS s t a (a + 1) = 0 := by
  unfold mfS
  rw [show (a + 1 - a - 1).toNat = 0 by omega]
  rfl
theorem CN_y {F G s : Int → Int} {t a : Int} {m : Nat} {x y z e f g : Int} (h : CNI F G s t a m x y z) (he : e = a + 1 + m) (hf : f = mfS s t a e) (h0 : 0 ≤ f) (hx : F e + 1 < x ∨ (F e + 1 = x ∧ f + G e < y) ∨ (m = 0)) (hg : g = f + G e) : CNI F G s t a (m + 1) (F e + 1) g e := by
  subst he
  subst hg
  cases m with
  | zero =>
    rw [show a + 1 + ((0 : Nat) : Int) = a + 1 by omega] at *
    rw [mf_1] at hf
    subst hf
    exact ⟨rfl, by show 0 + G (a + 1) = G (a + 1); omega, rfl⟩
  | succ k =>
    obtain ⟨h1, h2, h3⟩ := h
    rw [show a + 1 + ((k + 1 : Nat) : Int) = a + k + 2 by omega] at *
    have c : 0 ≤ mfS s t a (a + k + 2) ∧ (F (a + k + 2) + 1 < (cnA F G s t a k).1 ∨ (F (a + k + 2) + 1 = (cnA F G s t a k).1 ∧ mfS s t a (a + k + 2) + G (a + k + 2) < (cnA F G s t a k).2.1)) := by omega
    have q : cnA F G s t a (k + 1) = (F (a + k + 2) + 1, mfS s t a (a + k + 2) + G (a + k + 2), a + k + 2) := by
      rw [cnA, if_pos c]
    show _ = (cnA F G s t a (k + 1)).1 ∧ _ = (cnA F G s t a (k + 1)).2.1 ∧ _ = (cnA F G s t a (k + 1)).2.2
    rw [q, hf]
    exact ⟨rfl, rfl, rfl⟩
theorem CN_n {F G s : Int → Int} {t a : Int} {m : Nat} {x y z e : Int} (h : CNI F G s t a m x y z) (he : e = a + 1 + m) (hm : m ≠ 0) (hx : mfS s t a e < 0 ∨ (x ≤ F e + 1 ∧ (F e + 1 = x → y ≤ mfS s t a e + G e))) : CNI F G s t a (m + 1) x y z := by
  subst he
  cases m with
  | zero => exact absurd rfl hm
  | succ k =>
    obtain ⟨h1, h2, h3⟩ := h
    rw [show a + 1 + ((k + 1 : Nat) : Int) = a + k + 2 by omega] at hx
    have c : ¬ (0 ≤ mfS s t a (a + k + 2) ∧ (F (a + k + 2) + 1 < (cnA F G s t a k).1 ∨ (F (a + k + 2) + 1 = (cnA F G s t a k).1 ∧ mfS s t a (a + k + 2) + G (a + k + 2) < (cnA F G s t a k).2.1))) := by omega
    have q : cnA F G s t a (k + 1) = cnA F G s t a k := by
      rw [cnA, if_neg c]
    show x = (cnA F G s t a (k + 1)).1 ∧ y = (cnA F G s t a (k + 1)).2.1 ∧ z = (cnA F G s t a (k + 1)).2.2
    rw [q]
    exact ⟨h1, h2, h3⟩
theorem kw_X7_44 : Jvm.Cond.constant RX7 44 (2147483647 : Int32) ∈ gW := gw_t 630 (by decide +kernel) (by decide +kernel)
theorem kw_X7_67 : Jvm.Cond.constant RX7 67 (-1000000005 : Int32) ∈ gW := gw_t 649 (by decide +kernel) (by decide +kernel)
set_option maxRecDepth 8000 in
theorem m_X7_misfit {Q : Option AV → Wd → Prop} {w : Wd} (d : Nat) {s : Int → Int} {a b t n : Int} (hd : 3 ≤ d) (hw : WR w) (hs : ∀ j, 0 ≤ j → j ≤ n → w 372 j = s j ∧ -200000000 ≤ s j ∧ s j ≤ 200000000) (hn : n ≤ 40) (ht : 0 ≤ t ∧ t ≤ 9999) (hab : 0 ≤ a ∧ a < b ∧ b ≤ n) (hQ : ∀ r, r = mfS s t a b → -1 ≤ r → r ≤ 410000 → Q (some (vI r)) w) : M mX7_misfit (Rm d) [vR (some 371), vI a, vI b, vI t] (fl w) (lQ Q) := by
  have Sa := hs a (by omega) (by omega)
  have Sb := hs b (by omega) (by omega)
  have MB := mfA_bd (s := s) (a := a) (b := b) ht (b - a - 1).toNat
  refine f_mofv (L0 := [some (vR (some 371)), some (vI a), some (vI b), some (vI t), none, none, none, none, none, none, none, none]) rfl (Nat.le_of_ble_eq_true rfl) rfl ?_
  have loop33 : ∀ n0 : Nat, ∀ m : Nat, (b - a - 1 - m).toNat = n0 → a + 1 + m ≤ b → 0 ≤ mfA s t a b m → ∀ (x i : Int) (o10 o11 : Option AV), x = mfA s t a b m → i = a + 1 + m → V mX7_misfit (Rm d) 0 0 33 [some (vR (some 371)), some (vI a), some (vI b), some (vI t), some (vL (s a)), none, some (vL (s b - s a)), none, some (vI x), some (vI i), o10, o11] [] (fl w) (lQ Q) := by
    refine ind_lt ?_
    intro n0 ih m hm hmb h0 x i o10 o11 hx hi
    have MM := mfA_bd (s := s) (a := a) (b := b) ht m
    refine r_iload (pc := 33) dX7_misfit_33 rfl ?_
    refine r_iload_n (pc := 35) dX7_misfit_35 rfl ?_
    refine r_icmpge (pc := 36) (tgt := 97) dX7_misfit_36 rfl (by omega) (by omega) (fun h36 => ?_) (fun h36 => ?_)
    · refine r_iload (pc := 97) dX7_misfit_97 rfl ?_
      exact f_iret (pc := 99) dX7_misfit_99 rfl (by assumption) (hQ _ (by rw [hx, show m = (b - a - 1).toNat by omega]; rfl) (by omega) (by omega))
    refine r_lload (pc := 39) dX7_misfit_39 rfl ?_
    refine r_lload (pc := 41) dX7_misfit_41 rfl ?_
    refine r_iload (pc := 43) dX7_misfit_43 rfl ?_
    refine r_iload_n (pc := 45) dX7_misfit_45 rfl ?_
    refine r_isub (pc := 46) dX7_misfit_46 ?_
    refine r_i2l (pc := 47) dX7_misfit_47 (by first | assumption | omega) ?_
    refine r_lmul (pc := 48) dX7_misfit_48 ?_
    refine r_iload_n (pc := 49) dX7_misfit_49 rfl ?_
    refine r_iload_n (pc := 50) dX7_misfit_50 rfl ?_
    refine r_isub (pc := 51) dX7_misfit_51 ?_
    refine r_i2l (pc := 52) dX7_misfit_52 (by first | assumption | omega) ?_
    refine c_X7_53 (pc := 53) rfl dX7_misfit_53 (by omega) (Nat.le_of_ble_eq_true rfl) ?_
    refine m_X11_round (d - 1) (by omega) (by assumption) (by omega) (fun r53 e53 => ?_)
    have LB := line_bd (R := s b - s a) (x := i - a) (d := b - a) (by omega) (by omega) (by omega)
    rw [← e53] at LB
    refine r_ladd (pc := 56) dX7_misfit_56 ?_
    refine r_aload_n (pc := 57) dX7_misfit_57 rfl ?_
    refine h_X7_9 (pc := 58) rfl dX7_misfit_58 ?_
    refine r_iload (pc := 61) dX7_misfit_61 rfl ?_
    refine c_X7_45 (pc := 63) rfl dX7_misfit_63 (by omega) (Nat.le_of_ble_eq_true rfl) ?_
    have Si := hs i (by omega) (by omega)
    refine m_X11_at (d - 1) (by omega) (by assumption) (n := 41) (show sh 372 = 1000 + 41 from rfl) (by omega) (by omega) (fun r63 e63 b63 => ?_)
    rw [gA_in (by omega) (by omega)] at e63
    rw [Si.1] at e63
    subst e63
    refine r_i2l (pc := 66) dX7_misfit_66 (by first | assumption | omega) ?_
    refine r_lsub (pc := 67) dX7_misfit_67 ?_
    refine c_X7_57 (pc := 68) rfl dX7_misfit_68 (by omega) (Nat.le_of_ble_eq_true rfl) ?_
    refine m_J9_abs_067f4 (d - 1) (by omega) (by assumption) (by omega) (fun r68 e68 b68 => ?_)
    have E68 : r68 = dfS s a b (a + m + 1) := by rw [e68, e53, show i = a + m + 1 by omega]; rfl
    refine r_lstore10 (pc := 71) dX7_misfit_71 rfl ?_
    refine r_lload (pc := 73) dX7_misfit_73 rfl ?_
    refine r_iload_n (pc := 75) dX7_misfit_75 rfl ?_
    refine r_i2l (pc := 76) dX7_misfit_76 (by first | assumption | omega) ?_
    refine r_lcmp (pc := 77) dX7_misfit_77 (by omega) (by omega) ?_
    refine r_ifle (pc := 78) (tgt := 83) dX7_misfit_78 rfl (cmpZ_r _ _) (fun h78 => ?_) (fun h78 => ?_)
    · rw [cmpZ_gt] at h78
      have ng : ¬ dfS s a b (a + m + 1) > t := by omega
      refine r_iload (pc := 83) dX7_misfit_83 rfl ?_
      refine r_lload (pc := 85) dX7_misfit_85 rfl ?_
      refine r_l2i (pc := 87) dX7_misfit_87 ?_
      refine r_iadd (pc := 88) dX7_misfit_88 ?_
      refine r_istore8 (pc := 89) dX7_misfit_89 rfl ?_
      refine r_iinc9 (pc := 91) dX7_misfit_91 rfl ?_
      refine r_goto (pc := 94) (tgt := 33) dX7_misfit_94 rfl ?_
      exact ih _ (by omega) (m + 1) rfl (by omega) (by rw [mfA_s h0, if_neg ng]; omega) _ _ _ _ (by rw [mfA_s h0, if_neg ng, hx, E68]) (by omega)
    rw [cmpZ_gt] at h78
    refine r_iconst (pc := 81) (n := (-1)) dX7_misfit_81 ?_
    exact f_iret (pc := 82) dX7_misfit_82 rfl (by assumption) (hQ _ (mf_stop (m := m) (by omega) h0 (by omega)).symm (by omega) (by omega))
  refine r_aload_n (pc := 0) dX7_misfit_0 rfl ?_
  refine h_X7_9 (pc := 1) rfl dX7_misfit_1 ?_
  refine r_iload_n (pc := 4) dX7_misfit_4 rfl ?_
  refine c_X7_45 (pc := 5) rfl dX7_misfit_5 (by omega) (Nat.le_of_ble_eq_true rfl) ?_
  refine m_X11_at (d - 1) (by omega) (by assumption) (n := 41) (show sh 372 = 1000 + 41 from rfl) (by omega) (by omega) (fun r5 e5 b5 => ?_)
  rw [gA_in (by omega) (by omega)] at e5
  rw [Sa.1] at e5
  subst e5
  refine r_i2l (pc := 8) dX7_misfit_8 (by first | assumption | omega) ?_
  refine r_lstore4 (pc := 9) dX7_misfit_9 rfl ?_
  refine r_aload_n (pc := 11) dX7_misfit_11 rfl ?_
  refine h_X7_9 (pc := 12) rfl dX7_misfit_12 ?_
  refine r_iload_n (pc := 15) dX7_misfit_15 rfl ?_
  refine c_X7_45 (pc := 16) rfl dX7_misfit_16 (by omega) (Nat.le_of_ble_eq_true rfl) ?_
  refine m_X11_at (d - 1) (by omega) (by assumption) (n := 41) (show sh 372 = 1000 + 41 from rfl) (by omega) (by omega) (fun r16 e16 b16 => ?_)
  rw [gA_in (by omega) (by omega)] at e16
  rw [Sb.1] at e16
  subst e16
  refine r_i2l (pc := 19) dX7_misfit_19 (by first | assumption | omega) ?_
  refine r_lload (pc := 20) dX7_misfit_20 rfl ?_
  refine r_lsub (pc := 22) dX7_misfit_22 ?_
  refine r_lstore6 (pc := 23) dX7_misfit_23 rfl ?_
  refine r_iconst (pc := 25) (n := 0) dX7_misfit_25 ?_
  refine r_istore8 (pc := 26) dX7_misfit_26 rfl ?_
  refine r_iload_n (pc := 28) dX7_misfit_28 rfl ?_
  refine r_iconst (pc := 29) (n := 1) dX7_misfit_29 ?_
  refine r_iadd (pc := 30) dX7_misfit_30 ?_
  refine r_istore9 (pc := 31) dX7_misfit_31 rfl ?_
  exact loop33 _ 0 rfl (by omega) (Int.le_refl 0) _ _ _ _ rfl (by omega)
set_option maxRecDepth 8000 in
theorem m_X7_chooseNext {Q : Option AV → Wd → Prop} {w : Wd} (d : Nat) {s : Int → Int} {a t n : Int} {k : Nat} (hd : 4 ≤ d) (hw : WR w) (hs : ∀ j, 0 ≤ j → j ≤ n → w 372 j = s j ∧ -200000000 ≤ s j ∧ s j ≤ 200000000) (hn : n ≤ 40) (ht : 0 ≤ t ∧ t ≤ 9999) (hn0 : 0 ≤ n) (hl : w 371 0 = n) (ha : a = n - k - 1) (ha0 : 0 ≤ a) (hP : PLK w 373 374 375 s t n k) (hQ : ∀ w2, PLK w2 373 374 375 s t n (k + 1) → (∀ p, p < 373 ∨ 375 < p → w2 p = w p) → WR w2 → Q none w2) : M mX7_chooseNext (Rm d) [vR (some 371), vI a, vI t] (fl w) (lQ Q) := by
  have TB := plT_bd (s := s) ht ⟨hn0, hn⟩ k (by omega)
  have CB := cnA_bd (s := s) (a := a) (F := (plT s t n k).1) (G := (plT s t n k).2.1) ht ha0 hn (by rw [show a + 1 = n - k by omega]; exact TB.1)
  refine f_mofv (L0 := [some (vR (some 371)), some (vI a), some (vI t), none, none, none, none, none, none]) rfl (Nat.le_of_ble_eq_true rfl) rfl ?_
  have cut103 : ∀ n0 m : Nat, (∀ n1 : Nat, n1 < n0 → ∀ m : Nat, (n - a - m).toNat = n1 → a + m ≤ n → ∀ (x y i : Int) (w1 : Wd) (o6 o7 o8 : Option AV), CNI (plT s t n k).1 (plT s t n k).2.1 s t a m x y (w1 375 a) → R32 x → R32 y → i = a + 1 + m → (∀ p, p ≠ 375 → w1 p = w p) → (∀ j, j ≠ a → w1 375 j = w 375 j) → WR w1 → V mX7_chooseNext (Rm d) 0 0 12 [some (vR (some 371)), some (vI a), some (vI t), some (vI x), some (vI y), some (vI i), o6, o7, o8] [] (fl w1) (lQ Q)) → (n - a - m).toNat = n0 → a + 1 + m ≤ n → ∀ (x2 y2 i : Int) (w2 : Wd) (o6 o7 o8 : Option AV), CNI (plT s t n k).1 (plT s t n k).2.1 s t a (m + 1) x2 y2 (w2 375 a) → R32 x2 → R32 y2 → i = a + 1 + m → (∀ p, p ≠ 375 → w2 p = w p) → (∀ j, j ≠ a → w2 375 j = w 375 j) → WR w2 → V mX7_chooseNext (Rm d) 0 0 103 [some (vR (some 371)), some (vI a), some (vI t), some (vI x2), some (vI y2), some (vI i), o6, o7, o8] [] (fl w2) (lQ Q) := by
    intro n0 m ih hm hmn x2 y2 i w2 o6 o7 o8 hc2 hx2 hy2 hi hf2 hg2 hw2
    refine r_iinc5 (pc := 103) dX7_chooseNext_103 rfl ?_
    refine r_goto (pc := 106) (tgt := 12) dX7_chooseNext_106 rfl ?_
    exact ih _ (by omega) (m + 1) rfl (by omega) _ _ _ w2 _ _ _ hc2 hx2 hy2 (by omega) hf2 hg2 hw2
  have cut52 : ∀ n0 m : Nat, (∀ n1 : Nat, n1 < n0 → ∀ m : Nat, (n - a - m).toNat = n1 → a + m ≤ n → ∀ (x y i : Int) (w1 : Wd) (o6 o7 o8 : Option AV), CNI (plT s t n k).1 (plT s t n k).2.1 s t a m x y (w1 375 a) → R32 x → R32 y → i = a + 1 + m → (∀ p, p ≠ 375 → w1 p = w p) → (∀ j, j ≠ a → w1 375 j = w 375 j) → WR w1 → V mX7_chooseNext (Rm d) 0 0 12 [some (vR (some 371)), some (vI a), some (vI t), some (vI x), some (vI y), some (vI i), o6, o7, o8] [] (fl w1) (lQ Q)) → (n - a - m).toNat = n0 → a + 1 + m ≤ n → ∀ (x y i z : Int) (w1 : Wd) (o7 o8 : Option AV), CNI (plT s t n k).1 (plT s t n k).2.1 s t a m x y (w1 375 a) → R32 x → R32 y → i = a + 1 + m → (∀ p, p ≠ 375 → w1 p = w p) → (∀ j, j ≠ a → w1 375 j = w 375 j) → WR w1 → (m = 0 → x = 2147483647) → z = (if (plT s t n k).1 i + 1 > x then -1 else mfS s t a i) → -1 ≤ z → z ≤ 410000 → V mX7_chooseNext (Rm d) 0 0 52 [some (vR (some 371)), some (vI a), some (vI t), some (vI x), some (vI y), some (vI i), some (vI ((plT s t n k).1 i + 1)), o7, o8] [vI z] (fl w1) (lQ Q) := by
    intro n0 m ih hm hmn x y i z w1 o7 o8 hc hx hy hi hf1 hg1 hw1 h0x hz z0 z1
    have Ti := TB.1 i (by omega) (by omega)
    have Pi := hP i (by omega) (by omega)
    have NZ : ¬ (0 ≤ z) ∨ ¬ ((plT s t n k).1 i + 1 < x ∨ z + (plT s t n k).2.1 i < y) → m ≠ 0 := fun q e => by
      have q1 := h0x e
      rw [if_neg (by omega), show i = a + 1 by omega, mf_1] at hz
      omega
    refine r_istore7 (pc := 52) dX7_chooseNext_52 rfl ?_
    refine r_aload_n (pc := 54) dX7_chooseNext_54 rfl ?_
    refine h_X7_18 (pc := 55) rfl dX7_chooseNext_55 ?_
    refine r_iload (pc := 58) dX7_chooseNext_58 rfl ?_
    refine c_X7_45 (pc := 60) rfl dX7_chooseNext_60 (by omega) (Nat.le_of_ble_eq_true rfl) ?_
    refine m_X11_at (d - 1) (by omega) (by assumption) (n := 41) (show sh 374 = 1000 + 41 from rfl) (by omega) (by omega) (fun r60 e60 b60 => ?_)
    rw [gA_in (by omega) (by omega)] at e60
    rw [hf1 374 (by omega), Pi.2.1] at e60
    subst e60
    refine r_iload (pc := 63) dX7_chooseNext_63 rfl ?_
    refine r_iadd (pc := 65) dX7_chooseNext_65 ?_
    refine r_istore8 (pc := 66) dX7_chooseNext_66 rfl ?_
    refine r_iload (pc := 68) dX7_chooseNext_68 rfl ?_
    refine r_iflt (pc := 70) (tgt := 103) dX7_chooseNext_70 rfl (by omega) (fun h70 => ?_) (fun h70 => ?_)
    · have NZ := NZ (Or.inl (by omega))
      exact cut103 n0 m ih hm (by omega) _ _ _ _ _ _ _ (CN_n hc hi NZ (by split at hz <;> omega)) hx hy hi hf1 hg1 (by assumption)
    refine r_iload (pc := 73) dX7_chooseNext_73 rfl ?_
    refine r_iload_n (pc := 75) dX7_chooseNext_75 rfl ?_
    refine r_icmplt (pc := 76) (tgt := 86) dX7_chooseNext_76 rfl (by omega) (by omega) (fun h76 => ?_) (fun h76 => ?_)
    · refine r_iload (pc := 86) dX7_chooseNext_86 rfl ?_
      refine r_istore3 (pc := 88) dX7_chooseNext_88 rfl ?_
      refine r_iload (pc := 89) dX7_chooseNext_89 rfl ?_
      refine r_istore4 (pc := 91) dX7_chooseNext_91 rfl ?_
      refine r_aload_n (pc := 93) dX7_chooseNext_93 rfl ?_
      refine h_X7_21 (pc := 94) rfl dX7_chooseNext_94 ?_
      refine r_iload_n (pc := 97) dX7_chooseNext_97 rfl ?_
      refine r_iload (pc := 98) dX7_chooseNext_98 rfl ?_
      refine c_X7_34 (pc := 100) rfl dX7_chooseNext_100 (by omega) (Nat.le_of_ble_eq_true rfl) ?_
      refine m_X11_put (d - 1) (by omega) (by assumption) (n := 41) (show sh 375 = 1000 + 41 from rfl) (by omega) (by omega) (by omega) (fun w100 e100 hw100 => ?_)
      rw [pA_in (by omega) (by omega)] at e100
      exact cut103 n0 m ih hm (by omega) _ _ _ _ _ _ _ (by rw [e100, up_hit]; exact CN_y hc hi (f := z) (by split at hz <;> omega) (by omega) (by rcases Nat.eq_zero_or_pos m with q | q <;> split at hz <;> omega) (by omega)) (by omega) (by omega) hi (fun p hp => by rw [e100, up_ne hp]; exact hf1 p hp) (fun j hj => by rw [e100, up_off (by omega)]; exact hg1 j hj) (by assumption)
    refine r_iload (pc := 79) dX7_chooseNext_79 rfl ?_
    refine r_iload (pc := 81) dX7_chooseNext_81 rfl ?_
    refine r_icmpge (pc := 83) (tgt := 103) dX7_chooseNext_83 rfl (by omega) (by omega) (fun h83 => ?_) (fun h83 => ?_)
    · have NZ := NZ (Or.inr (by omega))
      exact cut103 n0 m ih hm (by omega) _ _ _ _ _ _ _ (CN_n hc hi NZ (by split at hz <;> omega)) hx hy hi hf1 hg1 (by assumption)
    refine r_iload (pc := 86) dX7_chooseNext_86 rfl ?_
    refine r_istore3 (pc := 88) dX7_chooseNext_88 rfl ?_
    refine r_iload (pc := 89) dX7_chooseNext_89 rfl ?_
    refine r_istore4 (pc := 91) dX7_chooseNext_91 rfl ?_
    refine r_aload_n (pc := 93) dX7_chooseNext_93 rfl ?_
    refine h_X7_21 (pc := 94) rfl dX7_chooseNext_94 ?_
    refine r_iload_n (pc := 97) dX7_chooseNext_97 rfl ?_
    refine r_iload (pc := 98) dX7_chooseNext_98 rfl ?_
    refine c_X7_34 (pc := 100) rfl dX7_chooseNext_100 (by omega) (Nat.le_of_ble_eq_true rfl) ?_
    refine m_X11_put (d - 1) (by omega) (by assumption) (n := 41) (show sh 375 = 1000 + 41 from rfl) (by omega) (by omega) (by omega) (fun w100 e100 hw100 => ?_)
    rw [pA_in (by omega) (by omega)] at e100
    exact cut103 n0 m ih hm (by omega) _ _ _ _ _ _ _ (by rw [e100, up_hit]; exact CN_y hc hi (f := z) (by split at hz <;> omega) (by omega) (by rcases Nat.eq_zero_or_pos m with q | q <;> split at hz <;> omega) (by omega)) (by omega) (by omega) hi (fun p hp => by rw [e100, up_ne hp]; exact hf1 p hp) (fun j hj => by rw [e100, up_off (by omega)]; exact hg1 j hj) (by assumption)
  have loop12 : ∀ n0 : Nat, ∀ m : Nat, (n - a - m).toNat = n0 → a + m ≤ n → ∀ (x y i : Int) (w1 : Wd) (o6 o7 o8 : Option AV), CNI (plT s t n k).1 (plT s t n k).2.1 s t a m x y (w1 375 a) → R32 x → R32 y → i = a + 1 + m → (∀ p, p ≠ 375 → w1 p = w p) → (∀ j, j ≠ a → w1 375 j = w 375 j) → WR w1 → V mX7_chooseNext (Rm d) 0 0 12 [some (vR (some 371)), some (vI a), some (vI t), some (vI x), some (vI y), some (vI i), o6, o7, o8] [] (fl w1) (lQ Q) := by
    refine ind_lt ?_
    intro n0 ih m hm hmn x y i w1 o6 o7 o8 hc hx hy hi hf1 hg1 hw1
    have hl1 : w1 371 0 = n := by rw [hf1 371 (by omega)]; exact hl
    refine r_iload (pc := 12) dX7_chooseNext_12 rfl ?_
    refine r_aload_n (pc := 14) dX7_chooseNext_14 rfl ?_
    refine h_X7_24 (pc := 15) rfl dX7_chooseNext_15 (by assumption) (fun h15 => ?_)
    refine r_icmpgt (pc := 18) (tgt := 109) dX7_chooseNext_18 rfl (by omega) (by omega) (fun h18 => ?_) (fun h18 => ?_)
    · obtain ⟨m1, rfl⟩ : ∃ m1, m = m1 + 1 := ⟨m - 1, by omega⟩
      obtain ⟨c1, c2, c3⟩ := hc
      have em : m1 = k := by omega
      subst em
      have CBm := CB m1 (by omega)
      refine r_aload_n (pc := 109) dX7_chooseNext_109 rfl ?_
      refine h_X7_15 (pc := 110) rfl dX7_chooseNext_110 ?_
      refine r_iload_n (pc := 113) dX7_chooseNext_113 rfl ?_
      refine r_iload_n (pc := 114) dX7_chooseNext_114 rfl ?_
      refine c_X7_34 (pc := 115) rfl dX7_chooseNext_115 (by omega) (Nat.le_of_ble_eq_true rfl) ?_
      refine m_X11_put (d - 1) (by omega) (by assumption) (n := 41) (show sh 373 = 1000 + 41 from rfl) (by omega) (by omega) (by omega) (fun w115 e115 hw115 => ?_)
      rw [pA_in (by omega) (by omega)] at e115
      refine r_aload_n (pc := 118) dX7_chooseNext_118 rfl ?_
      refine h_X7_18 (pc := 119) rfl dX7_chooseNext_119 ?_
      refine r_iload_n (pc := 122) dX7_chooseNext_122 rfl ?_
      refine r_iload (pc := 123) dX7_chooseNext_123 rfl ?_
      refine c_X7_34 (pc := 125) rfl dX7_chooseNext_125 (by omega) (Nat.le_of_ble_eq_true rfl) ?_
      refine m_X11_put (d - 1) (by omega) (by assumption) (n := 41) (show sh 374 = 1000 + 41 from rfl) (by omega) (by omega) (by omega) (fun w125 e125 hw125 => ?_)
      rw [pA_in (by omega) (by omega)] at e125
      exact f_vret (pc := 128) dX7_chooseNext_128 rfl (by assumption) (hQ _ (PLK_s hP a ha (by rw [e125, up_off (by omega), e115, up_hit]; exact c1) (by rw [e125, up_hit]; exact c2) (by rw [e125, up_off (by omega), e115, up_off (by omega)]; exact c3) (fun j hj => by rw [e125, up_off (by omega), e115, up_off (by omega), hf1 373 (by omega)]) (fun j hj => by rw [e125, up_off (by omega), e115, up_off (by omega), hf1 374 (by omega)]) (fun j hj => by rw [e125, up_off (by omega), e115, up_off (by omega)]; exact hg1 j hj)) (fun p hp => by rw [e125, up_ne (by omega), e115, up_ne (by omega)]; exact hf1 p (by omega)) (by assumption))
    refine r_aload_n (pc := 21) dX7_chooseNext_21 rfl ?_
    refine h_X7_15 (pc := 22) rfl dX7_chooseNext_22 ?_
    refine r_iload (pc := 25) dX7_chooseNext_25 rfl ?_
    refine c_X7_45 (pc := 27) rfl dX7_chooseNext_27 (by omega) (Nat.le_of_ble_eq_true rfl) ?_
    have Ti := TB.1 i (by omega) (by omega)
    have Pi := hP i (by omega) (by omega)
    have h0x : m = 0 → x = 2147483647 := fun q => by subst q; exact hc.1
    refine m_X11_at (d - 1) (by omega) (by assumption) (n := 41) (show sh 373 = 1000 + 41 from rfl) (by omega) (by omega) (fun r27 e27 b27 => ?_)
    rw [gA_in (by omega) (by omega)] at e27
    rw [hf1 373 (by omega), Pi.1] at e27
    subst e27
    refine r_iconst (pc := 30) (n := 1) dX7_chooseNext_30 ?_
    refine r_iadd (pc := 31) dX7_chooseNext_31 ?_
    refine r_istore6 (pc := 32) dX7_chooseNext_32 rfl ?_
    refine r_iload (pc := 34) dX7_chooseNext_34 rfl ?_
    refine r_iload_n (pc := 36) dX7_chooseNext_36 rfl ?_
    refine r_icmple (pc := 37) (tgt := 44) dX7_chooseNext_37 rfl (by omega) (by omega) (fun h37 => ?_) (fun h37 => ?_)
    · refine r_aload_n (pc := 44) dX7_chooseNext_44 rfl ?_
      refine r_iload_n (pc := 45) dX7_chooseNext_45 rfl ?_
      refine r_iload (pc := 46) dX7_chooseNext_46 rfl ?_
      refine r_iload_n (pc := 48) dX7_chooseNext_48 rfl ?_
      refine c_X7_49 (pc := 49) rfl dX7_chooseNext_49 (by first | assumption | rfl) (by omega) (Nat.le_of_ble_eq_true rfl) ?_
      refine m_X7_misfit (s := s) (n := n) (d - 1) (by omega) (by assumption) (fun j j0 j1 => by rw [hf1 372 (by omega)]; exact hs j j0 j1) hn ht ⟨by omega, by omega, by omega⟩ (fun r49 e49 b49 c49 => ?_)
      exact cut52 n0 m ih hm (by omega) x y i _ w1 _ _ hc hx hy hi hf1 hg1 (by assumption) h0x (by rw [if_neg (by omega)]; exact e49) (by omega) (by omega)
    refine r_iconst (pc := 40) (n := (-1)) dX7_chooseNext_40 ?_
    refine r_goto (pc := 41) (tgt := 52) dX7_chooseNext_41 rfl ?_
    exact cut52 n0 m ih hm (by omega) x y i _ w1 _ _ hc hx hy hi hf1 hg1 (by assumption) h0x (if_pos (by omega)).symm (by omega) (by omega)
  refine r_ldc (pc := 0) (n := 2147483647) dX7_chooseNext_0 kw_X7_44 rfl ?_
  refine r_istore3 (pc := 2) dX7_chooseNext_2 rfl ?_
  refine r_ldc (pc := 3) (n := 2147483647) dX7_chooseNext_3 kw_X7_44 rfl ?_
  refine r_istore4 (pc := 5) dX7_chooseNext_5 rfl ?_
  refine r_iload_n (pc := 7) dX7_chooseNext_7 rfl ?_
  refine r_iconst (pc := 8) (n := 1) dX7_chooseNext_8 ?_
  refine r_iadd (pc := 9) dX7_chooseNext_9 ?_
  refine r_istore5 (pc := 10) dX7_chooseNext_10 rfl ?_
  exact loop12 _ 0 rfl (by omega) _ _ _ _ _ _ _ (show CNI _ _ s t a 0 _ _ _ from ⟨rfl, rfl⟩) (by omega) (by omega) (by omega) (fun _ _ => rfl) (fun _ _ => rfl) (by assumption)
set_option maxRecDepth 8000 in
theorem m_X7_solve {Q : Option AV → Wd → Prop} {w : Wd} (d : Nat) {c : Nat} {a b t : Int} (hd : 8 ≤ d) (hw : WR w) (hs : sh c = 0) (hI : CI (cx w c)) (hc : c + 5 < 371) (ha : 0 ≤ a ∧ a < b ∧ b ≤ a + 40 ∧ b ≤ 960) (ht : 0 ≤ t ∧ t ≤ 9999) (hQ : ∀ w2, PLK w2 373 374 375 (fun j => valS (cx w c) (a + j)) t (b - a) (b - a).toNat → (∀ p, p < 371 ∨ 375 < p → w2 p = w p) → WR w2 → Q none w2) : M mX7_solve (Rm d) [vR (some 371), vR (some c), vI a, vI b, vI t] (fl w) (lQ Q) := by
  obtain ⟨s, hss⟩ : ∃ s : Int → Int, s = (fun j => valS (cx w c) (a + j)) := ⟨_, rfl⟩
  rw [← hss] at hQ
  have SBd : ∀ j, 0 ≤ j → j ≤ b - a → -200000000 ≤ s j ∧ s j ≤ 200000000 := fun j j0 j1 => by rw [hss]; exact valS_bd hI (by omega)
  refine f_mofv (L0 := [some (vR (some 371)), some (vR (some c)), some (vI a), some (vI b), some (vI t), none]) rfl (Nat.le_of_ble_eq_true rfl) rfl ?_
  have loop74 : ∀ n0 : Nat, ∀ k : Nat, (b - a - k).toNat = n0 → (k : Int) ≤ b - a → ∀ (w1 : Wd) (i : Int), i = b - a - k - 1 → w1 371 0 = b - a → (∀ j, 0 ≤ j → j ≤ b - a → w1 372 j = s j) → PLK w1 373 374 375 s t (b - a) k → (∀ p, p < 371 ∨ 375 < p → w1 p = w p) → WR w1 → V mX7_solve (Rm d) 0 0 74 [some (vR (some 371)), some (vR (some c)), some (vI a), some (vI b), some (vI t), some (vI i)] [] (fl w1) (lQ Q) := by
    refine ind_lt ?_
    intro n0 ih k hm hk w1 i hi hl1 hs1 hP1 hf1 hw1
    refine r_iload (pc := 74) dX7_solve_74 rfl ?_
    refine r_iflt (pc := 76) (tgt := 93) dX7_solve_76 rfl (by omega) (fun h76 => ?_) (fun h76 => ?_)
    · exact f_vret (pc := 93) dX7_solve_93 rfl (by assumption) (hQ _ (by rw [show (b - a).toNat = k by omega]; exact hP1) hf1 (by assumption))
    refine r_aload_n (pc := 79) dX7_solve_79 rfl ?_
    refine r_iload (pc := 80) dX7_solve_80 rfl ?_
    refine r_iload (pc := 82) dX7_solve_82 rfl ?_
    refine c_X7_38 (pc := 84) rfl dX7_solve_84 (by first | assumption | rfl) (by omega) (Nat.le_of_ble_eq_true rfl) ?_
    refine m_X7_chooseNext (s := s) (n := b - a) (k := k) (d - 1) (by omega) (by assumption) (fun j j0 j1 => ⟨hs1 j j0 j1, SBd j j0 j1⟩) (by omega) ht (by omega) hl1 hi (by omega) hP1 (fun w84 p84 f84 hw84 => ?_)
    refine r_iinc5 (pc := 87) dX7_solve_87 rfl ?_
    refine r_goto (pc := 90) (tgt := 74) dX7_solve_90 rfl ?_
    exact ih _ (by omega) (k + 1) rfl (by omega) _ _ (by omega) (by rw [f84 371 (by omega)]; exact hl1) (fun j j0 j1 => by rw [f84 372 (by omega)]; exact hs1 j j0 j1) p84 (fun p hp => by rw [f84 p (by omega)]; exact hf1 p hp) (by assumption)
  have loop10 : ∀ n0 : Nat, ∀ i : Nat, (b - a + 1 - i).toNat = n0 → (i : Int) ≤ b - a + 1 → ∀ w1 : Wd, w1 371 0 = b - a → (∀ j : Int, 0 ≤ j → j < i → w1 372 j = s j) → (∀ p, p < 371 ∨ 375 < p → w1 p = w p) → WR w1 → V mX7_solve (Rm d) 0 0 10 [some (vR (some 371)), some (vR (some c)), some (vI a), some (vI b), some (vI t), some (vI i)] [] (fl w1) (lQ Q) := by
    refine ind_lt ?_
    intro n0 ih i hm hi w1 hl1 hs1 hf1 hw1
    refine r_iload (pc := 10) dX7_solve_10 rfl ?_
    refine r_aload_n (pc := 12) dX7_solve_12 rfl ?_
    refine h_X7_24 (pc := 13) rfl dX7_solve_13 (by assumption) (fun h13 => ?_)
    refine r_icmpgt (pc := 16) (tgt := 42) dX7_solve_16 rfl (by omega) (by omega) (fun h16 => ?_) (fun h16 => ?_)
    · refine r_aload_n (pc := 42) dX7_solve_42 rfl ?_
      refine h_X7_15 (pc := 43) rfl dX7_solve_43 ?_
      refine r_aload_n (pc := 46) dX7_solve_46 rfl ?_
      refine h_X7_24 (pc := 47) rfl dX7_solve_47 (by assumption) (fun h47 => ?_)
      refine r_iconst (pc := 50) (n := 1) dX7_solve_50 ?_
      refine c_X7_34 (pc := 51) rfl dX7_solve_51 (by omega) (Nat.le_of_ble_eq_true rfl) ?_
      refine m_X11_put (d - 1) (by omega) (by assumption) (n := 41) (show sh 373 = 1000 + 41 from rfl) (by omega) (by omega) (by omega) (fun w51 e51 hw51 => ?_)
      rw [pA_in (by omega) (by omega)] at e51
      rw [hl1] at e51
      have l51 : w51 371 0 = b - a := by rw [e51, up_ne (by omega)]; exact hl1
      refine r_aload_n (pc := 54) dX7_solve_54 rfl ?_
      refine h_X7_18 (pc := 55) rfl dX7_solve_55 ?_
      refine r_aload_n (pc := 58) dX7_solve_58 rfl ?_
      refine h_X7_24 (pc := 59) rfl dX7_solve_59 (by assumption) (fun h59 => ?_)
      refine r_iconst (pc := 62) (n := 0) dX7_solve_62 ?_
      refine c_X7_34 (pc := 63) rfl dX7_solve_63 (by omega) (Nat.le_of_ble_eq_true rfl) ?_
      refine m_X11_put (d - 1) (by omega) (by assumption) (n := 41) (show sh 374 = 1000 + 41 from rfl) (by omega) (by omega) (by omega) (fun w63 e63 hw63 => ?_)
      rw [pA_in (by omega) (by omega)] at e63
      rw [l51] at e63
      have l63 : w63 371 0 = b - a := by rw [e63, up_ne (by omega)]; exact l51
      have F63 : ∀ p : Nat, p ≠ 373 → p ≠ 374 → w63 p = w1 p := fun p q1 q2 => by rw [e63, up_ne q2, e51, up_ne q1]
      refine r_aload_n (pc := 66) dX7_solve_66 rfl ?_
      refine h_X7_24 (pc := 67) rfl dX7_solve_67 (by assumption) (fun h67 => ?_)
      refine r_iconst (pc := 70) (n := 1) dX7_solve_70 ?_
      refine r_isub (pc := 71) dX7_solve_71 ?_
      refine r_istore5 (pc := 72) dX7_solve_72 rfl ?_
      exact loop74 _ 0 rfl (by omega) w63 _ (by omega) (by rw [F63 371 (by omega) (by omega)]; exact hl1) (fun j j0 j1 => by rw [F63 372 (by omega) (by omega)]; exact hs1 j j0 (by omega)) (PLK_0 (by rw [e63, up_ne (by omega), e51, up_hit]) (by rw [e63, up_hit])) (fun p hp => by rw [F63 p (by omega) (by omega)]; exact hf1 p hp) (by assumption)
    refine r_aload_n (pc := 19) dX7_solve_19 rfl ?_
    refine h_X7_9 (pc := 20) rfl dX7_solve_20 ?_
    refine r_iload (pc := 23) dX7_solve_23 rfl ?_
    refine r_aload_n (pc := 25) dX7_solve_25 rfl ?_
    refine r_iload_n (pc := 26) dX7_solve_26 rfl ?_
    refine r_iload (pc := 27) dX7_solve_27 rfl ?_
    refine r_iadd (pc := 29) dX7_solve_29 ?_
    refine c_X7_28 (pc := 30) rfl dX7_solve_30 (by first | assumption | rfl) (by omega) (Nat.le_of_ble_eq_true rfl) ?_
    have C1 : CEQ (cx w c) (cx w1 c) := cx_kp (fun p a b => hf1 p (by omega))
    have I1 := hI.eq C1
    refine m_X0_partsAt (d - 1) (by omega) (by assumption) hs I1 (by omega) (fun r30 e30 b30 => ?_)
    have E30 : r30 = s i := by rw [e30, ← valS_cg hI C1.v, hss]
    refine c_X7_34 (pc := 33) rfl dX7_solve_33 (by omega) (Nat.le_of_ble_eq_true rfl) ?_
    refine m_X11_put (d - 1) (by omega) (by assumption) (n := 41) (show sh 372 = 1000 + 41 from rfl) (by omega) (by omega) (by omega) (fun w33 e33 hw33 => ?_)
    rw [pA_in (by omega) (by omega)] at e33
    refine r_iinc5 (pc := 36) dX7_solve_36 rfl ?_
    refine r_goto (pc := 39) (tgt := 10) dX7_solve_39 rfl ?_
    exact ih _ (by omega) (i + 1) rfl (by omega) _ (by rw [e33, up_ne (by omega)]; exact hl1) (fun j j0 j1 => by
      rw [e33]
      by_cases q : j = i
      · rw [q, up_hit]; exact E30
      · rw [up_off (by omega)]; exact hs1 j j0 (by omega)) (fun p hp => by rw [e33, up_ne (by omega)]; exact hf1 p hp) (by assumption)
  refine r_aload_n (pc := 0) dX7_solve_0 rfl ?_
  refine r_iload_n (pc := 1) dX7_solve_1 rfl ?_
  refine r_iload_n (pc := 2) dX7_solve_2 rfl ?_
  refine r_isub (pc := 3) dX7_solve_3 ?_
  refine ph_X7_24 (pc := 4) rfl dX7_solve_4 (by assumption) (by omega) (fun hw4 => ?_)
  refine r_iconst (pc := 7) (n := 0) dX7_solve_7 ?_
  refine r_istore5 (pc := 8) dX7_solve_8 rfl ?_
  exact loop10 _ 0 rfl (by omega) _ up_hit (fun j j0 j1 => by omega) (fun p hp => up_ne (by omega)) (by assumption)
set_option maxRecDepth 8000 in
theorem m_X7_size {Q : Option AV → Wd → Prop} {w : Wd} (d : Nat) (hd : 1 ≤ d) (hw : WR w) (hQ : ∀ r, r = w 373 0 → R32 r → Q (some (vI r)) w) : M mX7_size (Rm d) [vR (some 371)] (fl w) (lQ Q) := by
  refine f_mofv (L0 := [some (vR (some 371))]) rfl (Nat.le_of_ble_eq_true rfl) rfl ?_
  refine r_aload_n (pc := 0) dX7_size_0 rfl ?_
  refine h_X7_15 (pc := 1) rfl dX7_size_1 ?_
  refine r_iconst (pc := 4) (n := 0) dX7_size_4 ?_
  refine c_X7_45 (pc := 5) rfl dX7_size_5 (by omega) (Nat.le_of_ble_eq_true rfl) ?_
  refine m_X11_at (d - 1) (by omega) (by assumption) (n := 41) (show sh 373 = 1000 + 41 from rfl) (by omega) (by omega) (fun r5 e5 b5 => ?_)
  rw [gA_in (by omega) (by omega)] at e5
  exact f_iret (pc := 8) dX7_size_8 rfl (by assumption) (hQ _ e5 b5)
set_option maxRecDepth 8000 in
theorem m_X7_frameAt {Q : Option AV → Wd → Prop} {w : Wd} (d : Nat) {s : Int → Int} {a x t n : Int} (hd : 2 ≤ d) (hw : WR w) (hn : 0 ≤ n ∧ n ≤ 40) (ht : 0 ≤ t ∧ t ≤ 9999) (hP : PLK w 373 374 375 s t n n.toNat) (ha : 0 ≤ a ∧ a ≤ 1000) (hx : 0 ≤ x ∧ x < 2147483648) (hQ : ∀ r, r = plS s t n x a → Q (some (vI r)) w) : M mX7_frameAt (Rm d) [vR (some 371), vI a, vI x] (fl w) (lQ Q) := by
  have P0 := hP 0 (by omega) (by omega)
  have TB := plT_bd (s := s) ht hn n.toNat (by omega)
  have T0 := TB.1 0 (by omega) (by omega)
  have IT := itN_in (s := s) ht hn
  refine f_mofv (L0 := [some (vR (some 371)), some (vI a), some (vI x), none, none]) rfl (Nat.le_of_ble_eq_true rfl) rfl ?_
  have loop20 : ∀ n0 : Nat, ∀ i : Nat, (x - i).toNat = n0 → (i : Int) ≤ x → x < (plT s t n n.toNat).1 0 → ∀ (y z : Int), y = itN (plT s t n n.toNat).2.2 i → z = i → V mX7_frameAt (Rm d) 0 0 20 [some (vR (some 371)), some (vI a), some (vI x), some (vI y), some (vI z)] [] (fl w) (lQ Q) := by
    refine ind_lt ?_
    intro n0 ih i hm hi hxF y z hy hz
    have Ii := IT i (by omega)
    refine r_iload (pc := 20) dX7_frameAt_20 rfl ?_
    refine r_iload_n (pc := 22) dX7_frameAt_22 rfl ?_
    refine r_icmpge (pc := 23) (tgt := 41) dX7_frameAt_23 rfl (by omega) (by omega) (fun h23 => ?_) (fun h23 => ?_)
    · refine r_iload_n (pc := 41) dX7_frameAt_41 rfl ?_
      refine r_iload_n (pc := 42) dX7_frameAt_42 rfl ?_
      refine r_iadd (pc := 43) dX7_frameAt_43 ?_
      exact f_iret (pc := 44) dX7_frameAt_44 rfl (by assumption) (hQ _ (by unfold plS; rw [if_neg (by omega), if_neg (by omega), hy, show i = x.toNat by omega]))
    refine r_aload_n (pc := 26) dX7_frameAt_26 rfl ?_
    refine h_X7_21 (pc := 27) rfl dX7_frameAt_27 ?_
    refine r_iload_n (pc := 30) dX7_frameAt_30 rfl ?_
    refine c_X7_45 (pc := 31) rfl dX7_frameAt_31 (by omega) (Nat.le_of_ble_eq_true rfl) ?_
    have yl : y < n := by
      rcases Int.lt_or_le y n with q | q
      · exact q
      · rw [← hy, show y = n by omega, TB.2.2] at Ii
        omega
    have Pz := hP y (by omega) (by omega)
    refine m_X11_at (d - 1) (by omega) (by assumption) (n := 41) (show sh 375 = 1000 + 41 from rfl) (by omega) (by omega) (fun r31 e31 b31 => ?_)
    rw [gA_in (by omega) (by omega)] at e31
    refine r_istore3 (pc := 34) dX7_frameAt_34 rfl ?_
    refine r_iinc4 (pc := 35) dX7_frameAt_35 rfl ?_
    refine r_goto (pc := 38) (tgt := 20) dX7_frameAt_38 rfl ?_
    exact ih _ (by omega) (i + 1) rfl (by omega) hxF _ _ (by rw [e31, Pz.2.2 yl]; rw [hy]; rfl) (by omega)
  refine r_iload_n (pc := 0) dX7_frameAt_0 rfl ?_
  refine r_iflt (pc := 1) (tgt := 12) dX7_frameAt_1 rfl (by omega) (fun h1 => ?_) (fun h1 => ?_)
  · omega
    --stop
  refine r_iload_n (pc := 4) dX7_frameAt_4 rfl ?_
  refine r_aload_n (pc := 5) dX7_frameAt_5 rfl ?_
  refine c_X7_63 (pc := 6) rfl dX7_frameAt_6 (by first | assumption | rfl) (by omega) (Nat.le_of_ble_eq_true rfl) ?_
  refine m_X7_size (d - 1) (by omega) (by assumption)  (fun r6 e6 b6 => ?_)
  refine r_icmplt (pc := 9) (tgt := 15) dX7_frameAt_9 rfl (by omega) (by omega) (fun h9 => ?_) (fun h9 => ?_)
  · refine r_iconst (pc := 15) (n := 0) dX7_frameAt_15 ?_
    refine r_istore3 (pc := 16) dX7_frameAt_16 rfl ?_
    refine r_iconst (pc := 17) (n := 0) dX7_frameAt_17 ?_
    refine r_istore4 (pc := 18) dX7_frameAt_18 rfl ?_
    exact loop20 _ 0 rfl (by omega) (by omega) _ _ rfl rfl
  refine r_ldc (pc := 12) (n := -1000000005) dX7_frameAt_12 kw_X7_67 rfl ?_
  exact f_iret (pc := 14) dX7_frameAt_14 rfl (by assumption) (hQ _ (by unfold plS; rw [if_neg (by omega), if_pos (by omega)]))
