/-! numbers that are none -/
theorem nan_link (x : UInt64) : isNaN64 x = true ↔ FP.Core.dIsNaN x = true := by
  have e : x.toNat &&& 9223372036854775807 = x.toNat % 2 ^ 63 := Nat.and_two_pow_sub_one_eq_mod x.toNat 63
  constructor
  · intro h
    have h := isNaN64_iff.mp h
    exact (FP.Core.isNaN_bits x).mpr (by rw [← e]; exact h)
  · intro h
    have h := (FP.Core.isNaN_bits x).mp h
    rw [← e] at h
    exact isNaN64_iff.mpr h
theorem alike64_or {x y : UInt64} (h : alike64 x y = true) : x = y ∨ (isNaN64 x = true ∧ isNaN64 y = true) := by
  unfold alike64 at h
  rcases (Bool.or_eq_true_iff.mp h) with a | a
  · exact Or.inl (of_decide_eq_true a)
  · exact Or.inr (Bool.and_eq_true_iff.mp a)
theorem alike64_nn {x y : UInt64} (h : isNaN64 x = true) (g : isNaN64 y = true) : alike64 x y = true := by
  unfold alike64
  rw [h, g]
  exact Bool.or_true _
theorem alike64_ddr {x y z r : UInt64} (h : alike64 y z = true) (g : alike64 r (FP.ddiv x y) = true) : alike64 r (FP.ddiv x z) = true := by
  rcases alike64_or h with e | ⟨h1, h2⟩
  · rw [← e]; exact g
  · have n : ∀ u, isNaN64 u = true → isNaN64 (FP.ddiv x u) = true := fun u hu => (nan_link _).mpr ((FP.Core.ddiv_nan_iff x u).mpr (Or.inr (Or.inl ((FP.Core.dIsNaN_iff u).mp ((nan_link u).mp hu)))))
    refine alike64_nn ?_ (n z h2)
    rcases alike64_or g with e | ⟨e, -⟩
    · rw [e]; exact n y h1
    · exact e
