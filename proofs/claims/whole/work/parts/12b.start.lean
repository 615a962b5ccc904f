/-! the state at the start -/
def W0 (s : Int → Int) (n : Int) : Wd := fun i j => if i = 0 then s j else if i = 999 then n else if sh i = 3 ∧ j = 0 then 1 else if i = 356 ∧ j = 2 then -1 else if i = 386 ∧ j = 530 then 1 else if i = 386 ∧ j = 531 then 48 else 0
def Z0 : CP := fun _ _ => 0
def S0 : SS := (fun _ => Z0, 0, fun _ => 0, fun _ => 0, eN 0)
def G0 : GS := (S0, 0, fun _ => S0, 0, fun _ => 0)
theorem W0_z {s : Int → Int} {n : Int} {i : Nat} {j : Int} (h0 : i ≠ 0) (h9 : i ≠ 999) (h3 : sh i ≠ 3 ∨ j ≠ 0) (h5 : i ≠ 356 ∨ j ≠ 2) (h6 : i ≠ 386 ∨ (j ≠ 530 ∧ j ≠ 531)) : W0 s n i j = 0 := by
  unfold W0
  rw [if_neg h0, if_neg h9, if_neg (fun z => by rcases h3 with h | h; exact h z.1; exact h z.2), if_neg (by omega), if_neg (by omega), if_neg (by omega)]
theorem W0_wr {s : Int → Int} {n : Int} (hs : ∀ j, R32 (s j)) (hn : R32 n) : WR (W0 s n) := fun i j => by
  unfold W0
  split
  · exact hs j
  split
  · exact hn
  split
  · omega
  split
  · omega
  split
  · omega
  split
  · omega
  · omega
theorem CI_Z0 : CI Z0 := ⟨⟨Int.le_refl 0, by show (0 : Int) ≤ 24; omega⟩, fun j a b => absurd (Int.lt_of_le_of_lt a b) (Int.lt_irrefl 0), fun i j a b c => absurd (Int.lt_trans (Int.lt_of_le_of_lt a b) c) (Int.lt_irrefl 0), Int.le_refl 0, by show (0 : Int) ≤ 4; omega, Int.le_refl 0, by show (0 : Int) ≤ 4; omega⟩
theorem GE_0 : GE (eN 0) := ⟨fun V st => rfl, fun x hx => by
  have e : x = (0, 0) := List.mem_singleton.mp hx
  subst e
  exact Or.inl ⟨rfl, Int.le_refl 0, by show (0 : Int) ≤ 999; omega⟩⟩
theorem GOK_0 : GOK G0 := ⟨⟨⟨Int.le_refl 0, by show (0 : Int) ≤ 8; omega, fun j a b => absurd (Int.lt_of_le_of_lt a b) (Int.lt_irrefl 0), fun i j a b c => absurd (Int.lt_trans (Int.lt_of_le_of_lt a b) c) (Int.lt_irrefl 0)⟩, GE_0, by decide⟩, ⟨Int.le_refl 0, by show (0 : Int) ≤ 10; omega⟩, fun i a b => absurd (Int.lt_of_le_of_lt a b) (Int.lt_irrefl 0), Int.le_refl 0, by show (0 : Int) ≤ 120; omega⟩
theorem sh_cur0 : ∀ q, q < 4 → ∀ r, r < 6 → sh (2 + 8 + 6 * q + r) ≠ 3 := by decide +kernel
theorem sh_cnt0 : ∀ q, q < 10 → ∀ p, p < 4 → sh (36 + 32 * q + 8 + 6 * p) ≠ 3 := by decide +kernel
theorem CLG_0 (s : Int → Int) (n : Int) : CLG G0 (W0 s n) := by
  refine ⟨⟨fun q hq => ?_, ?_, fun j a b => absurd (Int.lt_of_le_of_lt a b) (Int.lt_irrefl 0), ?_, fun i x hx => ?_⟩, ?_, ⟨?_, ?_⟩, fun i q a b => absurd (Int.lt_of_le_of_lt a b) (Int.lt_irrefl 0), fun q hq p hp => ?_, ?_, ?_⟩
  · have e : CEQ Z0 (cx (W0 s n) (2 + 8 + 6 * q)) := CEQ.of_eq fun r hr j => (W0_z (by omega) (by omega) (Or.inl (sh_cur0 q hq r (by omega))) (by omega) (by omega)).symm
    exact ⟨e.v, CI_Z0.eq e⟩
  · exact W0_z (by omega) (by omega) (Or.inl (by decide)) (by omega) (by omega)
  · unfold W0
    rw [if_neg (by omega), if_neg (by omega), if_pos ⟨by decide, rfl⟩]
    rfl
  · have i0 : i = 0 := by
      rcases Nat.eq_zero_or_pos i with z | z
      · exact z
      · rw [List.getElem?_eq_none (by show 1 ≤ i; omega)] at hx; cases hx
    subst i0
    have e : (0, 0) = x := Option.some.inj hx
    subst e
    exact ⟨W0_z (by omega) (by omega) (Or.inl (by decide)) (by omega) (by omega), W0_z (by omega) (by omega) (Or.inl (by decide)) (by omega) (by omega)⟩
  · exact W0_z (by omega) (by omega) (Or.inl (by decide)) (by omega) (by omega)
  · rw [W0_z (by omega) (by omega) (Or.inl (by decide)) (by omega) (by omega)]; omega
  · rw [W0_z (by omega) (by omega) (Or.inl (by decide)) (by omega) (by omega)]; omega
  · rw [W0_z (by omega) (by omega) (Or.inl (sh_cnt0 q hq p hp)) (by omega) (by omega)]; omega
  · exact W0_z (by omega) (by omega) (Or.inl (by decide)) (by omega) (by omega)
  · funext j
    exact W0_z (by omega) (by omega) (Or.inl (by decide)) (by omega) (by omega)
theorem prs_0 : prsS (fun _ => 48) 1 = .inr (1, eN 0) := by rfl
theorem MOG_0 (s : Int → Int) (n : Int) : MOG G0 (W0 s n) := by
  have z : ∀ j : Int, j ≠ 530 → j ≠ 531 → W0 s n 386 j = 0 := fun j a b => W0_z (by omega) (by omega) (Or.inl (by decide)) (by omega) (by omega)
  refine ⟨⟨fun q a b => ?_, z _ (by omega) (by omega), fun j a b => absurd (Int.lt_of_le_of_lt a b) (Int.lt_irrefl 0), fun _ => 48, 1, 1, prs_0, ?_, ⟨by omega, by omega⟩, fun j a b => ?_⟩, ?_, fun i a b => absurd (Int.lt_of_le_of_lt a b) (Int.lt_irrefl 0), ?_, fun j a b => absurd (Int.lt_of_le_of_lt a b) (Int.lt_irrefl 0)⟩
  · have e : EQ24 Z0 (mx (W0 s n) q) := fun r j h => by
      unfold mx
      rcases h with h | h
      · rw [if_pos h.1, z _ (by omega) (by omega)]; rfl
      · rw [if_neg (by omega), z _ (by omega) (by omega)]; rfl
    have c := e.ceq (show (0 : Int) ≤ 24 by omega)
    exact ⟨c.v, CI_Z0.eq c⟩
  · unfold W0
    rw [if_neg (by omega), if_neg (by omega), if_neg (fun h => absurd h.1 (by decide)), if_neg (by omega), if_pos (by omega)]
  · rw [show j = 0 by omega]
    unfold W0
    rw [if_neg (by omega), if_neg (by omega), if_neg (fun h => absurd h.1 (by decide)), if_neg (by omega), if_neg (by omega), if_pos (by omega)]
  · exact W0_z (by omega) (by omega) (Or.inl (by decide)) (by omega) (by omega)
  · exact W0_z (by omega) (by omega) (Or.inl (by decide)) (by omega) (by omega)
