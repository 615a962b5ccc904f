/-! constructors: objects of numbers and rows of ints -/
def Rk (f c s : Nat) : Room := { frames := f, cells := c, slots := s, locals := 41 * f }
theorem ob_row {s : Int → Int} {n : Int} {i m : Nat} (h : sh i = 1000 + m) (hm : m < 19000) (h0 : i ≠ 0) (h9 : i ≠ 999) (hi : i ≠ 386) : ob (W0 s n) i = .inr (0, m, .inl fun _ => 0) := by
  unfold ob
  rw [if_neg h0, if_neg (by omega), if_pos (by omega), h, show 1000 + m - 1000 = m by omega]
  congr 3
  refine congrArg Sum.inl (funext fun q => ?_)
  exact W0_z h0 h9 (Or.inl (by omega)) (by
    by_cases z : i = 356
    · rw [z, show sh 356 = 9 from rfl] at h; omega
    · exact Or.inl z) (Or.inl hi)
theorem W0_3 {s : Int → Int} {n : Int} {i : Nat} (h : sh i = 3) (h0 : i ≠ 0) (h9 : i ≠ 999) : W0 s n i 0 = 1 := by
  unfold W0
  rw [if_neg h0, if_neg h9, if_pos ⟨h, rfl⟩]
theorem sh_tx9 : ∀ c, c < 402 → sh c = 9 → (c = 356 ∧ sh (c + 1) = 1000 + 120) := by decide +kernel
theorem W0_9 {s : Int → Int} {n : Int} {i : Nat} (h : i = 356) : W0 s n i 2 = -1 := by
  subst h
  unfold W0
  rw [if_neg (by omega), if_neg (by omega), if_neg (fun z => absurd z.1 (by decide)), if_pos ⟨rfl, rfl⟩]
theorem sh_mx6 : ∀ c, c < 402 → sh c = 6 → sh (c + 1) = 1000 + 120 := by decide +kernel
theorem sh_pl7 : ∀ c, c < 402 → sh c = 7 → (sh (c + 1) = 1000 + 41 ∧ sh (c + 2) = 1000 + 41 ∧ sh (c + 3) = 1000 + 41 ∧ sh (c + 4) = 1000 + 41) := by decide +kernel
set_option maxRecDepth 8000 in
theorem i_X0 {Q : Option AV → GW → Prop} {u : GW} {b : Nat} {s : Int → Int} {n : Int} (d : Nat) (hd : 1 ≤ d) (hs : sh b = 0) (hb1 : 1 ≤ b) (hu1 : u.1 = b) (hub : u.2 b = .inl (0, [vI 0, vI 0, vI 0, vR none, vR none, vR none, vR none, vR none])) (hex : ∃ n f, u.2 0 = .inr (0, n, .inl f)) (hQ : ∀ v : GW, v.1 = b + 5 → (∀ i, i < b → v.2 i = u.2 i) → (∀ i, b ≤ i → i ≤ b + 5 → v.2 i = ob (W0 s n) i) → Q none v) : M mX0_init (Rk d 5 120) [vR (some b)] u Q := by
  refine M_of_V (by decide +kernel) (Nat.le_of_ble_eq_true rfl) ?_
  show V mX0_init (Rk d 5 120) 0 0 0 [some (vR (some b))] [] u Q
  have t0 := hex
  have g0 : u.1 = b := hu1
  have p0 : u.2 b = .inl (0, [vI 0, vI 0, vI 0, vR none, vR none, vR none, vR none, vR none]) := hub
  have l0 : ∀ i, i < b → u.2 i = u.2 i := fun _ _ => rfl
  refine r_aload_n (pc := 0) dX0_init_0 rfl ?_
  refine r_objInit (pc := 1) dX0_init_1 (gw_t 74 (by decide +kernel) (by decide +kernel)) (gw_t 22 (by decide +kernel) (by decide +kernel)) (gw_t 23 (by decide +kernel) (by decide +kernel)) (Nat.le_of_ble_eq_true rfl) (show 1 ≤ d by omega) (show 20 ≤ 41 * d by omega) hb1 ?_
  refine r_aload_n (pc := 4) dX0_init_4 rfl ?_
  refine r_iconst (pc := 5) (n := 0) dX0_init_5 ?_
  refine s_put (pc := 6) (C := RX0) (T := TX0) (N := 8) (ci := 0) (kf := 1) tyX0 dX0_init_6 rfl uin_X0 tyX0_ok nmX0 (by decide) rfl rfl (gw_t 79 (by decide +kernel) (by decide +kernel)) (ty := _) rfl (fun _ => rfl) (fun _ => rfl) hb1 (by rw [g0]; omega) p0 (by simp) (fun v1 A1 B1 C1 => ?_)
  have g1 := A1.trans g0
  have t1 : ∃ n f, v1.2 0 = .inr (0, n, .inl f) := by rw [C1 0 (by omega)]; exact t0
  have p1 : v1.2 b = .inl (0, [vI 0, vI 0, vI 0, vR none, vR none, vR none, vR none, vR none]) := B1
  have l1 : ∀ i, i < b → v1.2 i = u.2 i := fun i h => (C1 i (by omega)).trans (l0 i h)
  refine r_aload_n (pc := 9) dX0_init_9 rfl ?_
  refine r_iconst (pc := 10) (n := 0) dX0_init_10 ?_
  refine s_put (pc := 11) (C := RX0) (T := TX0) (N := 8) (ci := 0) (kf := 2) tyX0 dX0_init_11 rfl uin_X0 tyX0_ok nmX0 (by decide) rfl rfl (gw_t 81 (by decide +kernel) (by decide +kernel)) (ty := _) rfl (fun _ => rfl) (fun _ => rfl) hb1 (by rw [g1]; omega) p1 (by simp) (fun v2 A2 B2 C2 => ?_)
  have g2 := A2.trans g1
  have t2 : ∃ n f, v2.2 0 = .inr (0, n, .inl f) := by rw [C2 0 (by omega)]; exact t1
  have p2 : v2.2 b = .inl (0, [vI 0, vI 0, vI 0, vR none, vR none, vR none, vR none, vR none]) := B2
  have l2 : ∀ i, i < b → v2.2 i = u.2 i := fun i h => (C2 i (by omega)).trans (l1 i h)
  refine r_aload_n (pc := 14) dX0_init_14 rfl ?_
  refine r_bipush (pc := 15) (n := 24) dX0_init_15 (by decide) ?_
  refine s_newI (pc := 17) (N := 24) dX0_init_17 (by omega) (by omega) rfl (by omega) t2 (show 0 + 1 ≤ 5 by omega) (show 0 + 24 ≤ 120 by omega) (fun v3 A3 B3 C3 => ?_)
  rw [g2] at A3 B3 C3 ⊢
  have g3 : v3.1 = b + 1 := A3
  have t3 : ∃ n f, v3.2 0 = .inr (0, n, .inl f) := by rw [C3 0 (by omega)]; exact t2
  have p3 := (C3 b (by omega)).trans p2
  have l3 : ∀ i, i < b → v3.2 i = u.2 i := fun i h => (C3 i (by omega)).trans (l2 i h)
  have r1_3 : v3.2 (b + 1) = .inr (0, 24, .inl fun _ => 0) := B3
  refine s_putF (pc := 19) (C := RX0) (T := TX0) (N := 8) (ci := 0) (kf := 3) tyX0 dX0_init_19 rfl uin_X0 tyX0_ok nmX0 (by decide) rfl rfl rfl rfl (gw_t 83 (by decide +kernel) (by decide +kernel)) (ty := _) rfl (fun _ => rfl) (fun _ => rfl) hb1 (by rw [g3]; omega) p3 (by simp) (fun v4 A4 B4 C4 => ?_)
  have g4 := A4.trans g3
  have t4 : ∃ n f, v4.2 0 = .inr (0, n, .inl f) := by rw [C4 0 (by omega)]; exact t3
  have p4 : v4.2 b = .inl (0, [vI 0, vI 0, vI 0, vR (some (b + 1)), vR none, vR none, vR none, vR none]) := B4
  have l4 : ∀ i, i < b → v4.2 i = u.2 i := fun i h => (C4 i (by omega)).trans (l3 i h)
  have r1_4 := (C4 (b + 1) (by omega)).trans r1_3
  refine r_aload_n (pc := 22) dX0_init_22 rfl ?_
  refine r_bipush (pc := 23) (n := 24) dX0_init_23 (by decide) ?_
  refine s_newI (pc := 25) (N := 24) dX0_init_25 (by omega) (by omega) rfl (by omega) t4 (show 1 + 1 ≤ 5 by omega) (show 24 + 24 ≤ 120 by omega) (fun v5 A5 B5 C5 => ?_)
  rw [g4] at A5 B5 C5 ⊢
  have g5 : v5.1 = b + 2 := A5
  have t5 : ∃ n f, v5.2 0 = .inr (0, n, .inl f) := by rw [C5 0 (by omega)]; exact t4
  have p5 := (C5 b (by omega)).trans p4
  have l5 : ∀ i, i < b → v5.2 i = u.2 i := fun i h => (C5 i (by omega)).trans (l4 i h)
  have r1_5 := (C5 (b + 1) (by omega)).trans r1_4
  have r2_5 : v5.2 (b + 2) = .inr (0, 24, .inl fun _ => 0) := B5
  refine s_putF (pc := 27) (C := RX0) (T := TX0) (N := 8) (ci := 0) (kf := 4) tyX0 dX0_init_27 rfl uin_X0 tyX0_ok nmX0 (by decide) rfl rfl rfl rfl (gw_t 87 (by decide +kernel) (by decide +kernel)) (ty := _) rfl (fun _ => rfl) (fun _ => rfl) hb1 (by rw [g5]; omega) p5 (by simp) (fun v6 A6 B6 C6 => ?_)
  have g6 := A6.trans g5
  have t6 : ∃ n f, v6.2 0 = .inr (0, n, .inl f) := by rw [C6 0 (by omega)]; exact t5
  have p6 : v6.2 b = .inl (0, [vI 0, vI 0, vI 0, vR (some (b + 1)), vR (some (b + 2)), vR none, vR none, vR none]) := B6
  have l6 : ∀ i, i < b → v6.2 i = u.2 i := fun i h => (C6 i (by omega)).trans (l5 i h)
  have r1_6 := (C6 (b + 1) (by omega)).trans r1_5
  have r2_6 := (C6 (b + 2) (by omega)).trans r2_5
  refine r_aload_n (pc := 30) dX0_init_30 rfl ?_
  refine r_bipush (pc := 31) (n := 24) dX0_init_31 (by decide) ?_
  refine s_newI (pc := 33) (N := 24) dX0_init_33 (by omega) (by omega) rfl (by omega) t6 (show 2 + 1 ≤ 5 by omega) (show 48 + 24 ≤ 120 by omega) (fun v7 A7 B7 C7 => ?_)
  rw [g6] at A7 B7 C7 ⊢
  have g7 : v7.1 = b + 3 := A7
  have t7 : ∃ n f, v7.2 0 = .inr (0, n, .inl f) := by rw [C7 0 (by omega)]; exact t6
  have p7 := (C7 b (by omega)).trans p6
  have l7 : ∀ i, i < b → v7.2 i = u.2 i := fun i h => (C7 i (by omega)).trans (l6 i h)
  have r1_7 := (C7 (b + 1) (by omega)).trans r1_6
  have r2_7 := (C7 (b + 2) (by omega)).trans r2_6
  have r3_7 : v7.2 (b + 3) = .inr (0, 24, .inl fun _ => 0) := B7
  refine s_putF (pc := 35) (C := RX0) (T := TX0) (N := 8) (ci := 0) (kf := 5) tyX0 dX0_init_35 rfl uin_X0 tyX0_ok nmX0 (by decide) rfl rfl rfl rfl (gw_t 89 (by decide +kernel) (by decide +kernel)) (ty := _) rfl (fun _ => rfl) (fun _ => rfl) hb1 (by rw [g7]; omega) p7 (by simp) (fun v8 A8 B8 C8 => ?_)
  have g8 := A8.trans g7
  have t8 : ∃ n f, v8.2 0 = .inr (0, n, .inl f) := by rw [C8 0 (by omega)]; exact t7
  have p8 : v8.2 b = .inl (0, [vI 0, vI 0, vI 0, vR (some (b + 1)), vR (some (b + 2)), vR (some (b + 3)), vR none, vR none]) := B8
  have l8 : ∀ i, i < b → v8.2 i = u.2 i := fun i h => (C8 i (by omega)).trans (l7 i h)
  have r1_8 := (C8 (b + 1) (by omega)).trans r1_7
  have r2_8 := (C8 (b + 2) (by omega)).trans r2_7
  have r3_8 := (C8 (b + 3) (by omega)).trans r3_7
  refine r_aload_n (pc := 38) dX0_init_38 rfl ?_
  refine r_bipush (pc := 39) (n := 24) dX0_init_39 (by decide) ?_
  refine s_newI (pc := 41) (N := 24) dX0_init_41 (by omega) (by omega) rfl (by omega) t8 (show 3 + 1 ≤ 5 by omega) (show 72 + 24 ≤ 120 by omega) (fun v9 A9 B9 C9 => ?_)
  rw [g8] at A9 B9 C9 ⊢
  have g9 : v9.1 = b + 4 := A9
  have t9 : ∃ n f, v9.2 0 = .inr (0, n, .inl f) := by rw [C9 0 (by omega)]; exact t8
  have p9 := (C9 b (by omega)).trans p8
  have l9 : ∀ i, i < b → v9.2 i = u.2 i := fun i h => (C9 i (by omega)).trans (l8 i h)
  have r1_9 := (C9 (b + 1) (by omega)).trans r1_8
  have r2_9 := (C9 (b + 2) (by omega)).trans r2_8
  have r3_9 := (C9 (b + 3) (by omega)).trans r3_8
  have r4_9 : v9.2 (b + 4) = .inr (0, 24, .inl fun _ => 0) := B9
  refine s_putF (pc := 43) (C := RX0) (T := TX0) (N := 8) (ci := 0) (kf := 6) tyX0 dX0_init_43 rfl uin_X0 tyX0_ok nmX0 (by decide) rfl rfl rfl rfl (gw_t 91 (by decide +kernel) (by decide +kernel)) (ty := _) rfl (fun _ => rfl) (fun _ => rfl) hb1 (by rw [g9]; omega) p9 (by simp) (fun v10 A10 B10 C10 => ?_)
  have g10 := A10.trans g9
  have t10 : ∃ n f, v10.2 0 = .inr (0, n, .inl f) := by rw [C10 0 (by omega)]; exact t9
  have p10 : v10.2 b = .inl (0, [vI 0, vI 0, vI 0, vR (some (b + 1)), vR (some (b + 2)), vR (some (b + 3)), vR (some (b + 4)), vR none]) := B10
  have l10 : ∀ i, i < b → v10.2 i = u.2 i := fun i h => (C10 i (by omega)).trans (l9 i h)
  have r1_10 := (C10 (b + 1) (by omega)).trans r1_9
  have r2_10 := (C10 (b + 2) (by omega)).trans r2_9
  have r3_10 := (C10 (b + 3) (by omega)).trans r3_9
  have r4_10 := (C10 (b + 4) (by omega)).trans r4_9
  refine r_aload_n (pc := 46) dX0_init_46 rfl ?_
  refine r_bipush (pc := 47) (n := 24) dX0_init_47 (by decide) ?_
  refine s_newI (pc := 49) (N := 24) dX0_init_49 (by omega) (by omega) rfl (by omega) t10 (show 4 + 1 ≤ 5 by omega) (show 96 + 24 ≤ 120 by omega) (fun v11 A11 B11 C11 => ?_)
  rw [g10] at A11 B11 C11 ⊢
  have g11 : v11.1 = b + 5 := A11
  have t11 : ∃ n f, v11.2 0 = .inr (0, n, .inl f) := by rw [C11 0 (by omega)]; exact t10
  have p11 := (C11 b (by omega)).trans p10
  have l11 : ∀ i, i < b → v11.2 i = u.2 i := fun i h => (C11 i (by omega)).trans (l10 i h)
  have r1_11 := (C11 (b + 1) (by omega)).trans r1_10
  have r2_11 := (C11 (b + 2) (by omega)).trans r2_10
  have r3_11 := (C11 (b + 3) (by omega)).trans r3_10
  have r4_11 := (C11 (b + 4) (by omega)).trans r4_10
  have r5_11 : v11.2 (b + 5) = .inr (0, 24, .inl fun _ => 0) := B11
  refine s_putF (pc := 51) (C := RX0) (T := TX0) (N := 8) (ci := 0) (kf := 7) tyX0 dX0_init_51 rfl uin_X0 tyX0_ok nmX0 (by decide) rfl rfl rfl rfl (gw_t 93 (by decide +kernel) (by decide +kernel)) (ty := _) rfl (fun _ => rfl) (fun _ => rfl) hb1 (by rw [g11]; omega) p11 (by simp) (fun v12 A12 B12 C12 => ?_)
  have g12 := A12.trans g11
  have t12 : ∃ n f, v12.2 0 = .inr (0, n, .inl f) := by rw [C12 0 (by omega)]; exact t11
  have p12 : v12.2 b = .inl (0, [vI 0, vI 0, vI 0, vR (some (b + 1)), vR (some (b + 2)), vR (some (b + 3)), vR (some (b + 4)), vR (some (b + 5))]) := B12
  have l12 : ∀ i, i < b → v12.2 i = u.2 i := fun i h => (C12 i (by omega)).trans (l11 i h)
  have r1_12 := (C12 (b + 1) (by omega)).trans r1_11
  have r2_12 := (C12 (b + 2) (by omega)).trans r2_11
  have r3_12 := (C12 (b + 3) (by omega)).trans r3_11
  have r4_12 := (C12 (b + 4) (by omega)).trans r4_11
  have r5_12 := (C12 (b + 5) (by omega)).trans r5_11
  refine r_vret (pc := 54) dX0_init_54 rfl (Nat.le_refl _) (Nat.le_refl _) (hQ _ g12 l12 (fun i h1 h2 => ?_))
  have bb := sh_in hs (by decide) (by decide)
  obtain ⟨s1, s2, s3, s4, s5⟩ := sh_curve hs
  rcases (show i = b ∨ i = b + 1 ∨ i = b + 2 ∨ i = b + 3 ∨ i = b + 4 ∨ i = b + 5 by omega) with h | h | h | h | h | h
  · rw [h]
    refine (p12.trans ?_).trans (show (.inl (0, [vI (W0 s n b 0), vI (W0 s n b 1), vI (W0 s n b 2), vR (some (b + 1)), vR (some (b + 2)), vR (some (b + 3)), vR (some (b + 4)), vR (some (b + 5))]) : Ob) = ob (W0 s n) b from (fl_obj hs (by decide)).symm)
    rw [W0_z (j := 0) (by omega) (by omega) (Or.inl (by omega)) (Or.inl (fun z => by rw [z] at hs; exact absurd hs (by decide))) (Or.inl (fun z => by rw [z] at hs; exact absurd hs (by decide)))]
    rw [W0_z (j := 1) (by omega) (by omega) (Or.inl (by omega)) (Or.inl (fun z => by rw [z] at hs; exact absurd hs (by decide))) (Or.inl (fun z => by rw [z] at hs; exact absurd hs (by decide)))]
    rw [W0_z (j := 2) (by omega) (by omega) (Or.inl (by omega)) (Or.inl (fun z => by rw [z] at hs; exact absurd hs (by decide))) (Or.inl (fun z => by rw [z] at hs; exact absurd hs (by decide)))]
  · rw [h]
    exact r1_12.trans (ob_row s1 (by omega) (by omega) (by omega) (fun z => by rw [z] at s1; exact absurd s1 (by decide))).symm
  · rw [h]
    exact r2_12.trans (ob_row s2 (by omega) (by omega) (by omega) (fun z => by rw [z] at s2; exact absurd s2 (by decide))).symm
  · rw [h]
    exact r3_12.trans (ob_row s3 (by omega) (by omega) (by omega) (fun z => by rw [z] at s3; exact absurd s3 (by decide))).symm
  · rw [h]
    exact r4_12.trans (ob_row s4 (by omega) (by omega) (by omega) (fun z => by rw [z] at s4; exact absurd s4 (by decide))).symm
  · rw [h]
    exact r5_12.trans (ob_row s5 (by omega) (by omega) (by omega) (fun z => by rw [z] at s5; exact absurd s5 (by decide))).symm
set_option maxRecDepth 8000 in
theorem i_X10 {Q : Option AV → GW → Prop} {u : GW} {b : Nat} {s : Int → Int} {n : Int} (d : Nat) (hd : 1 ≤ d) (hs : sh b = 10) (hb1 : 1 ≤ b) (hu1 : u.1 = b) (hub : u.2 b = .inl (10, [vI 0, vR none, vR none])) (hex : ∃ n f, u.2 0 = .inr (0, n, .inl f)) (hQ : ∀ v : GW, v.1 = b + 2 → (∀ i, i < b → v.2 i = u.2 i) → (∀ i, b ≤ i → i ≤ b + 2 → v.2 i = ob (W0 s n) i) → Q none v) : M mX10_init (Rk d 2 16) [vR (some b)] u Q := by
  refine M_of_V (by decide +kernel) (Nat.le_of_ble_eq_true rfl) ?_
  show V mX10_init (Rk d 2 16) 0 0 0 [some (vR (some b))] [] u Q
  have t0 := hex
  have g0 : u.1 = b := hu1
  have p0 : u.2 b = .inl (10, [vI 0, vR none, vR none]) := hub
  have l0 : ∀ i, i < b → u.2 i = u.2 i := fun _ _ => rfl
  refine r_aload_n (pc := 0) dX10_init_0 rfl ?_
  refine r_objInit (pc := 1) dX10_init_1 (gw_t 35 (by decide +kernel) (by decide +kernel)) (gw_t 22 (by decide +kernel) (by decide +kernel)) (gw_t 23 (by decide +kernel) (by decide +kernel)) (Nat.le_of_ble_eq_true rfl) (show 1 ≤ d by omega) (show 20 ≤ 41 * d by omega) hb1 ?_
  refine r_aload_n (pc := 4) dX10_init_4 rfl ?_
  refine r_bipush (pc := 5) (n := 8) dX10_init_5 (by decide) ?_
  refine s_newI (pc := 7) (N := 8) dX10_init_7 (by omega) (by omega) rfl (by omega) t0 (show 0 + 1 ≤ 2 by omega) (show 0 + 8 ≤ 16 by omega) (fun v1 A1 B1 C1 => ?_)
  rw [g0] at A1 B1 C1 ⊢
  have g1 : v1.1 = b + 1 := A1
  have t1 : ∃ n f, v1.2 0 = .inr (0, n, .inl f) := by rw [C1 0 (by omega)]; exact t0
  have p1 := (C1 b (by omega)).trans p0
  have l1 : ∀ i, i < b → v1.2 i = u.2 i := fun i h => (C1 i (by omega)).trans (l0 i h)
  have r1_1 : v1.2 (b + 1) = .inr (0, 8, .inl fun _ => 0) := B1
  refine s_putF (pc := 9) (C := RX10) (T := TX10) (N := 3) (ci := 10) (kf := 1) tyX10 dX10_init_9 rfl uin_X10 tyX10_ok nmX10 (by decide) rfl rfl rfl rfl (gw_t 38 (by decide +kernel) (by decide +kernel)) (ty := _) rfl (fun _ => rfl) (fun _ => rfl) hb1 (by rw [g1]; omega) p1 (by simp) (fun v2 A2 B2 C2 => ?_)
  have g2 := A2.trans g1
  have t2 : ∃ n f, v2.2 0 = .inr (0, n, .inl f) := by rw [C2 0 (by omega)]; exact t1
  have p2 : v2.2 b = .inl (10, [vI 0, vR (some (b + 1)), vR none]) := B2
  have l2 : ∀ i, i < b → v2.2 i = u.2 i := fun i h => (C2 i (by omega)).trans (l1 i h)
  have r1_2 := (C2 (b + 1) (by omega)).trans r1_1
  refine r_aload_n (pc := 12) dX10_init_12 rfl ?_
  refine r_bipush (pc := 13) (n := 8) dX10_init_13 (by decide) ?_
  refine s_newI (pc := 15) (N := 8) dX10_init_15 (by omega) (by omega) rfl (by omega) t2 (show 1 + 1 ≤ 2 by omega) (show 8 + 8 ≤ 16 by omega) (fun v3 A3 B3 C3 => ?_)
  rw [g2] at A3 B3 C3 ⊢
  have g3 : v3.1 = b + 2 := A3
  have t3 : ∃ n f, v3.2 0 = .inr (0, n, .inl f) := by rw [C3 0 (by omega)]; exact t2
  have p3 := (C3 b (by omega)).trans p2
  have l3 : ∀ i, i < b → v3.2 i = u.2 i := fun i h => (C3 i (by omega)).trans (l2 i h)
  have r1_3 := (C3 (b + 1) (by omega)).trans r1_2
  have r2_3 : v3.2 (b + 2) = .inr (0, 8, .inl fun _ => 0) := B3
  refine s_putF (pc := 17) (C := RX10) (T := TX10) (N := 3) (ci := 10) (kf := 2) tyX10 dX10_init_17 rfl uin_X10 tyX10_ok nmX10 (by decide) rfl rfl rfl rfl (gw_t 39 (by decide +kernel) (by decide +kernel)) (ty := _) rfl (fun _ => rfl) (fun _ => rfl) hb1 (by rw [g3]; omega) p3 (by simp) (fun v4 A4 B4 C4 => ?_)
  have g4 := A4.trans g3
  have t4 : ∃ n f, v4.2 0 = .inr (0, n, .inl f) := by rw [C4 0 (by omega)]; exact t3
  have p4 : v4.2 b = .inl (10, [vI 0, vR (some (b + 1)), vR (some (b + 2))]) := B4
  have l4 : ∀ i, i < b → v4.2 i = u.2 i := fun i h => (C4 i (by omega)).trans (l3 i h)
  have r1_4 := (C4 (b + 1) (by omega)).trans r1_3
  have r2_4 := (C4 (b + 2) (by omega)).trans r2_3
  refine r_vret (pc := 20) dX10_init_20 rfl (Nat.le_refl _) (Nat.le_refl _) (hQ _ g4 l4 (fun i h1 h2 => ?_))
  have bb := sh_in hs (by decide) (by decide)
  obtain ⟨s1, s2⟩ := sh_map hs
  rcases (show i = b ∨ i = b + 1 ∨ i = b + 2 by omega) with h | h | h
  · rw [h]
    refine (p4.trans ?_).trans (show (.inl (10, [vI (W0 s n b 0), vR (some (b + 1)), vR (some (b + 2))]) : Ob) = ob (W0 s n) b from (fl_obj hs (by decide)).symm)
    rw [W0_z (j := 0) (by omega) (by omega) (Or.inl (by omega)) (Or.inl (fun z => by rw [z] at hs; exact absurd hs (by decide))) (Or.inl (fun z => by rw [z] at hs; exact absurd hs (by decide)))]
  · rw [h]
    exact r1_4.trans (ob_row s1 (by omega) (by omega) (by omega) (fun z => by rw [z] at s1; exact absurd s1 (by decide))).symm
  · rw [h]
    exact r2_4.trans (ob_row s2 (by omega) (by omega) (by omega) (fun z => by rw [z] at s2; exact absurd s2 (by decide))).symm
set_option maxRecDepth 8000 in
theorem i_X3 {Q : Option AV → GW → Prop} {u : GW} {b : Nat} {s : Int → Int} {n : Int} (d : Nat) (hd : 1 ≤ d) (hs : sh b = 3) (hb1 : 1 ≤ b) (hu1 : u.1 = b) (hub : u.2 b = .inl (3, [vI 0, vR none, vR none])) (hex : ∃ n f, u.2 0 = .inr (0, n, .inl f)) (hQ : ∀ v : GW, v.1 = b + 2 → (∀ i, i < b → v.2 i = u.2 i) → (∀ i, b ≤ i → i ≤ b + 2 → v.2 i = ob (W0 s n) i) → Q none v) : M mX3_init (Rk d 2 240) [vR (some b)] u Q := by
  refine M_of_V (by decide +kernel) (Nat.le_of_ble_eq_true rfl) ?_
  show V mX3_init (Rk d 2 240) 0 0 0 [some (vR (some b))] [] u Q
  have t0 := hex
  have g0 : u.1 = b := hu1
  have p0 : u.2 b = .inl (3, [vI 0, vR none, vR none]) := hub
  have l0 : ∀ i, i < b → u.2 i = u.2 i := fun _ _ => rfl
  refine r_aload_n (pc := 0) dX3_init_0 rfl ?_
  refine r_objInit (pc := 1) dX3_init_1 (gw_t 53 (by decide +kernel) (by decide +kernel)) (gw_t 22 (by decide +kernel) (by decide +kernel)) (gw_t 23 (by decide +kernel) (by decide +kernel)) (Nat.le_of_ble_eq_true rfl) (show 1 ≤ d by omega) (show 20 ≤ 41 * d by omega) hb1 ?_
  refine r_aload_n (pc := 4) dX3_init_4 rfl ?_
  refine r_iconst (pc := 5) (n := 1) dX3_init_5 ?_
  refine s_put (pc := 6) (C := RX3) (T := TX3) (N := 3) (ci := 3) (kf := 0) tyX3 dX3_init_6 rfl uin_X3 tyX3_ok nmX3 (by decide) rfl rfl (gw_t 54 (by decide +kernel) (by decide +kernel)) (ty := _) rfl (fun _ => rfl) (fun _ => rfl) hb1 (by rw [g0]; omega) p0 (by simp) (fun v1 A1 B1 C1 => ?_)
  have g1 := A1.trans g0
  have t1 : ∃ n f, v1.2 0 = .inr (0, n, .inl f) := by rw [C1 0 (by omega)]; exact t0
  have p1 : v1.2 b = .inl (3, [vI 1, vR none, vR none]) := B1
  have l1 : ∀ i, i < b → v1.2 i = u.2 i := fun i h => (C1 i (by omega)).trans (l0 i h)
  refine r_aload_n (pc := 9) dX3_init_9 rfl ?_
  refine r_bipush (pc := 10) (n := 120) dX3_init_10 (by decide) ?_
  refine s_newI (pc := 12) (N := 120) dX3_init_12 (by omega) (by omega) rfl (by omega) t1 (show 0 + 1 ≤ 2 by omega) (show 0 + 120 ≤ 240 by omega) (fun v2 A2 B2 C2 => ?_)
  rw [g1] at A2 B2 C2 ⊢
  have g2 : v2.1 = b + 1 := A2
  have t2 : ∃ n f, v2.2 0 = .inr (0, n, .inl f) := by rw [C2 0 (by omega)]; exact t1
  have p2 := (C2 b (by omega)).trans p1
  have l2 : ∀ i, i < b → v2.2 i = u.2 i := fun i h => (C2 i (by omega)).trans (l1 i h)
  have r1_2 : v2.2 (b + 1) = .inr (0, 120, .inl fun _ => 0) := B2
  refine s_putF (pc := 14) (C := RX3) (T := TX3) (N := 3) (ci := 3) (kf := 1) tyX3 dX3_init_14 rfl uin_X3 tyX3_ok nmX3 (by decide) rfl rfl rfl rfl (gw_t 57 (by decide +kernel) (by decide +kernel)) (ty := _) rfl (fun _ => rfl) (fun _ => rfl) hb1 (by rw [g2]; omega) p2 (by simp) (fun v3 A3 B3 C3 => ?_)
  have g3 := A3.trans g2
  have t3 : ∃ n f, v3.2 0 = .inr (0, n, .inl f) := by rw [C3 0 (by omega)]; exact t2
  have p3 : v3.2 b = .inl (3, [vI 1, vR (some (b + 1)), vR none]) := B3
  have l3 : ∀ i, i < b → v3.2 i = u.2 i := fun i h => (C3 i (by omega)).trans (l2 i h)
  have r1_3 := (C3 (b + 1) (by omega)).trans r1_2
  refine r_aload_n (pc := 17) dX3_init_17 rfl ?_
  refine r_bipush (pc := 18) (n := 120) dX3_init_18 (by decide) ?_
  refine s_newI (pc := 20) (N := 120) dX3_init_20 (by omega) (by omega) rfl (by omega) t3 (show 1 + 1 ≤ 2 by omega) (show 120 + 120 ≤ 240 by omega) (fun v4 A4 B4 C4 => ?_)
  rw [g3] at A4 B4 C4 ⊢
  have g4 : v4.1 = b + 2 := A4
  have t4 : ∃ n f, v4.2 0 = .inr (0, n, .inl f) := by rw [C4 0 (by omega)]; exact t3
  have p4 := (C4 b (by omega)).trans p3
  have l4 : ∀ i, i < b → v4.2 i = u.2 i := fun i h => (C4 i (by omega)).trans (l3 i h)
  have r1_4 := (C4 (b + 1) (by omega)).trans r1_3
  have r2_4 : v4.2 (b + 2) = .inr (0, 120, .inl fun _ => 0) := B4
  refine s_putF (pc := 22) (C := RX3) (T := TX3) (N := 3) (ci := 3) (kf := 2) tyX3 dX3_init_22 rfl uin_X3 tyX3_ok nmX3 (by decide) rfl rfl rfl rfl (gw_t 59 (by decide +kernel) (by decide +kernel)) (ty := _) rfl (fun _ => rfl) (fun _ => rfl) hb1 (by rw [g4]; omega) p4 (by simp) (fun v5 A5 B5 C5 => ?_)
  have g5 := A5.trans g4
  have t5 : ∃ n f, v5.2 0 = .inr (0, n, .inl f) := by rw [C5 0 (by omega)]; exact t4
  have p5 : v5.2 b = .inl (3, [vI 1, vR (some (b + 1)), vR (some (b + 2))]) := B5
  have l5 : ∀ i, i < b → v5.2 i = u.2 i := fun i h => (C5 i (by omega)).trans (l4 i h)
  have r1_5 := (C5 (b + 1) (by omega)).trans r1_4
  have r2_5 := (C5 (b + 2) (by omega)).trans r2_4
  refine r_vret (pc := 25) dX3_init_25 rfl (Nat.le_refl _) (Nat.le_refl _) (hQ _ g5 l5 (fun i h1 h2 => ?_))
  have bb := sh_in hs (by decide) (by decide)
  obtain ⟨s1, s2⟩ := sh_form hs
  rcases (show i = b ∨ i = b + 1 ∨ i = b + 2 by omega) with h | h | h
  · rw [h]
    refine (p5.trans ?_).trans (show (.inl (3, [vI (W0 s n b 0), vR (some (b + 1)), vR (some (b + 2))]) : Ob) = ob (W0 s n) b from (fl_obj hs (by decide)).symm)
    rw [W0_3 hs (by omega) (by omega)]
  · rw [h]
    exact r1_5.trans (ob_row s1 (by omega) (by omega) (by omega) (fun z => by rw [z] at s1; exact absurd s1 (by decide))).symm
  · rw [h]
    exact r2_5.trans (ob_row s2 (by omega) (by omega) (by omega) (fun z => by rw [z] at s2; exact absurd s2 (by decide))).symm
set_option maxRecDepth 8000 in
theorem i_X6 {Q : Option AV → GW → Prop} {u : GW} {b : Nat} {s : Int → Int} {n : Int} (d : Nat) (hd : 1 ≤ d) (hs : sh b = 6) (hb1 : 1 ≤ b) (hu1 : u.1 = b) (hub : u.2 b = .inl (6, [vR none])) (hex : ∃ n f, u.2 0 = .inr (0, n, .inl f)) (hQ : ∀ v : GW, v.1 = b + 1 → (∀ i, i < b → v.2 i = u.2 i) → (∀ i, b ≤ i → i ≤ b + 1 → v.2 i = ob (W0 s n) i) → Q none v) : M mX6_init (Rk d 1 120) [vR (some b)] u Q := by
  refine M_of_V (by decide +kernel) (Nat.le_of_ble_eq_true rfl) ?_
  show V mX6_init (Rk d 1 120) 0 0 0 [some (vR (some b))] [] u Q
  have t0 := hex
  have g0 : u.1 = b := hu1
  have p0 : u.2 b = .inl (6, [vR none]) := hub
  have l0 : ∀ i, i < b → u.2 i = u.2 i := fun _ _ => rfl
  refine r_aload_n (pc := 0) dX6_init_0 rfl ?_
  refine r_objInit (pc := 1) dX6_init_1 (gw_t 197 (by decide +kernel) (by decide +kernel)) (gw_t 22 (by decide +kernel) (by decide +kernel)) (gw_t 23 (by decide +kernel) (by decide +kernel)) (Nat.le_of_ble_eq_true rfl) (show 1 ≤ d by omega) (show 20 ≤ 41 * d by omega) hb1 ?_
  refine r_aload_n (pc := 4) dX6_init_4 rfl ?_
  refine r_bipush (pc := 5) (n := 120) dX6_init_5 (by decide) ?_
  refine s_newI (pc := 7) (N := 120) dX6_init_7 (by omega) (by omega) rfl (by omega) t0 (show 0 + 1 ≤ 1 by omega) (show 0 + 120 ≤ 120 by omega) (fun v1 A1 B1 C1 => ?_)
  rw [g0] at A1 B1 C1 ⊢
  have g1 : v1.1 = b + 1 := A1
  have t1 : ∃ n f, v1.2 0 = .inr (0, n, .inl f) := by rw [C1 0 (by omega)]; exact t0
  have p1 := (C1 b (by omega)).trans p0
  have l1 : ∀ i, i < b → v1.2 i = u.2 i := fun i h => (C1 i (by omega)).trans (l0 i h)
  have r1_1 : v1.2 (b + 1) = .inr (0, 120, .inl fun _ => 0) := B1
  refine s_putF (pc := 9) (C := RX6) (T := TX6) (N := 1) (ci := 6) (kf := 0) tyX6 dX6_init_9 rfl uin_X6 tyX6_ok nmX6 (by decide) rfl rfl rfl rfl (gw_t 198 (by decide +kernel) (by decide +kernel)) (ty := _) rfl (fun _ => rfl) (fun _ => rfl) hb1 (by rw [g1]; omega) p1 (by simp) (fun v2 A2 B2 C2 => ?_)
  have g2 := A2.trans g1
  have t2 : ∃ n f, v2.2 0 = .inr (0, n, .inl f) := by rw [C2 0 (by omega)]; exact t1
  have p2 : v2.2 b = .inl (6, [vR (some (b + 1))]) := B2
  have l2 : ∀ i, i < b → v2.2 i = u.2 i := fun i h => (C2 i (by omega)).trans (l1 i h)
  have r1_2 := (C2 (b + 1) (by omega)).trans r1_1
  refine r_vret (pc := 12) dX6_init_12 rfl (Nat.le_refl _) (Nat.le_refl _) (hQ _ g2 l2 (fun i h1 h2 => ?_))
  have bb := sh_in hs (by decide) (by decide)
  have s1 := sh_mx6 b (by omega) hs
  rcases (show i = b ∨ i = b + 1 by omega) with h | h
  · rw [h]
    refine (p2.trans ?_).trans (show (.inl (6, [vR (some (b + 1))]) : Ob) = ob (W0 s n) b from (fl_obj hs (by decide)).symm)
    rfl
  · rw [h]
    exact r1_2.trans (ob_row s1 (by omega) (by omega) (by omega) (fun z => by rw [z] at s1; exact absurd s1 (by decide))).symm
set_option maxRecDepth 8000 in
theorem i_X7 {Q : Option AV → GW → Prop} {u : GW} {b : Nat} {s : Int → Int} {n : Int} (d : Nat) (hd : 1 ≤ d) (hs : sh b = 7) (hb1 : 1 ≤ b) (hu1 : u.1 = b) (hub : u.2 b = .inl (7, [vI 0, vR none, vR none, vR none, vR none])) (hex : ∃ n f, u.2 0 = .inr (0, n, .inl f)) (hQ : ∀ v : GW, v.1 = b + 4 → (∀ i, i < b → v.2 i = u.2 i) → (∀ i, b ≤ i → i ≤ b + 4 → v.2 i = ob (W0 s n) i) → Q none v) : M mX7_init (Rk d 4 164) [vR (some b)] u Q := by
  refine M_of_V (by decide +kernel) (Nat.le_of_ble_eq_true rfl) ?_
  show V mX7_init (Rk d 4 164) 0 0 0 [some (vR (some b))] [] u Q
  have t0 := hex
  have g0 : u.1 = b := hu1
  have p0 : u.2 b = .inl (7, [vI 0, vR none, vR none, vR none, vR none]) := hub
  have l0 : ∀ i, i < b → u.2 i = u.2 i := fun _ _ => rfl
  refine r_aload_n (pc := 0) dX7_init_0 rfl ?_
  refine r_objInit (pc := 1) dX7_init_1 (gw_t 207 (by decide +kernel) (by decide +kernel)) (gw_t 22 (by decide +kernel) (by decide +kernel)) (gw_t 23 (by decide +kernel) (by decide +kernel)) (Nat.le_of_ble_eq_true rfl) (show 1 ≤ d by omega) (show 20 ≤ 41 * d by omega) hb1 ?_
  refine r_aload_n (pc := 4) dX7_init_4 rfl ?_
  refine r_bipush (pc := 5) (n := 41) dX7_init_5 (by decide) ?_
  refine s_newI (pc := 7) (N := 41) dX7_init_7 (by omega) (by omega) rfl (by omega) t0 (show 0 + 1 ≤ 4 by omega) (show 0 + 41 ≤ 164 by omega) (fun v1 A1 B1 C1 => ?_)
  rw [g0] at A1 B1 C1 ⊢
  have g1 : v1.1 = b + 1 := A1
  have t1 : ∃ n f, v1.2 0 = .inr (0, n, .inl f) := by rw [C1 0 (by omega)]; exact t0
  have p1 := (C1 b (by omega)).trans p0
  have l1 : ∀ i, i < b → v1.2 i = u.2 i := fun i h => (C1 i (by omega)).trans (l0 i h)
  have r1_1 : v1.2 (b + 1) = .inr (0, 41, .inl fun _ => 0) := B1
  refine s_putF (pc := 9) (C := RX7) (T := TX7) (N := 5) (ci := 7) (kf := 1) tyX7 dX7_init_9 rfl uin_X7 tyX7_ok nmX7 (by decide) rfl rfl rfl rfl (gw_t 209 (by decide +kernel) (by decide +kernel)) (ty := _) rfl (fun _ => rfl) (fun _ => rfl) hb1 (by rw [g1]; omega) p1 (by simp) (fun v2 A2 B2 C2 => ?_)
  have g2 := A2.trans g1
  have t2 : ∃ n f, v2.2 0 = .inr (0, n, .inl f) := by rw [C2 0 (by omega)]; exact t1
  have p2 : v2.2 b = .inl (7, [vI 0, vR (some (b + 1)), vR none, vR none, vR none]) := B2
  have l2 : ∀ i, i < b → v2.2 i = u.2 i := fun i h => (C2 i (by omega)).trans (l1 i h)
  have r1_2 := (C2 (b + 1) (by omega)).trans r1_1
  refine r_aload_n (pc := 12) dX7_init_12 rfl ?_
  refine r_bipush (pc := 13) (n := 41) dX7_init_13 (by decide) ?_
  refine s_newI (pc := 15) (N := 41) dX7_init_15 (by omega) (by omega) rfl (by omega) t2 (show 1 + 1 ≤ 4 by omega) (show 41 + 41 ≤ 164 by omega) (fun v3 A3 B3 C3 => ?_)
  rw [g2] at A3 B3 C3 ⊢
  have g3 : v3.1 = b + 2 := A3
  have t3 : ∃ n f, v3.2 0 = .inr (0, n, .inl f) := by rw [C3 0 (by omega)]; exact t2
  have p3 := (C3 b (by omega)).trans p2
  have l3 : ∀ i, i < b → v3.2 i = u.2 i := fun i h => (C3 i (by omega)).trans (l2 i h)
  have r1_3 := (C3 (b + 1) (by omega)).trans r1_2
  have r2_3 : v3.2 (b + 2) = .inr (0, 41, .inl fun _ => 0) := B3
  refine s_putF (pc := 17) (C := RX7) (T := TX7) (N := 5) (ci := 7) (kf := 2) tyX7 dX7_init_17 rfl uin_X7 tyX7_ok nmX7 (by decide) rfl rfl rfl rfl (gw_t 210 (by decide +kernel) (by decide +kernel)) (ty := _) rfl (fun _ => rfl) (fun _ => rfl) hb1 (by rw [g3]; omega) p3 (by simp) (fun v4 A4 B4 C4 => ?_)
  have g4 := A4.trans g3
  have t4 : ∃ n f, v4.2 0 = .inr (0, n, .inl f) := by rw [C4 0 (by omega)]; exact t3
  have p4 : v4.2 b = .inl (7, [vI 0, vR (some (b + 1)), vR (some (b + 2)), vR none, vR none]) := B4
  have l4 : ∀ i, i < b → v4.2 i = u.2 i := fun i h => (C4 i (by omega)).trans (l3 i h)
  have r1_4 := (C4 (b + 1) (by omega)).trans r1_3
  have r2_4 := (C4 (b + 2) (by omega)).trans r2_3
  refine r_aload_n (pc := 20) dX7_init_20 rfl ?_
  refine r_bipush (pc := 21) (n := 41) dX7_init_21 (by decide) ?_
  refine s_newI (pc := 23) (N := 41) dX7_init_23 (by omega) (by omega) rfl (by omega) t4 (show 2 + 1 ≤ 4 by omega) (show 82 + 41 ≤ 164 by omega) (fun v5 A5 B5 C5 => ?_)
  rw [g4] at A5 B5 C5 ⊢
  have g5 : v5.1 = b + 3 := A5
  have t5 : ∃ n f, v5.2 0 = .inr (0, n, .inl f) := by rw [C5 0 (by omega)]; exact t4
  have p5 := (C5 b (by omega)).trans p4
  have l5 : ∀ i, i < b → v5.2 i = u.2 i := fun i h => (C5 i (by omega)).trans (l4 i h)
  have r1_5 := (C5 (b + 1) (by omega)).trans r1_4
  have r2_5 := (C5 (b + 2) (by omega)).trans r2_4
  have r3_5 : v5.2 (b + 3) = .inr (0, 41, .inl fun _ => 0) := B5
  refine s_putF (pc := 25) (C := RX7) (T := TX7) (N := 5) (ci := 7) (kf := 3) tyX7 dX7_init_25 rfl uin_X7 tyX7_ok nmX7 (by decide) rfl rfl rfl rfl (gw_t 211 (by decide +kernel) (by decide +kernel)) (ty := _) rfl (fun _ => rfl) (fun _ => rfl) hb1 (by rw [g5]; omega) p5 (by simp) (fun v6 A6 B6 C6 => ?_)
  have g6 := A6.trans g5
  have t6 : ∃ n f, v6.2 0 = .inr (0, n, .inl f) := by rw [C6 0 (by omega)]; exact t5
  have p6 : v6.2 b = .inl (7, [vI 0, vR (some (b + 1)), vR (some (b + 2)), vR (some (b + 3)), vR none]) := B6
  have l6 : ∀ i, i < b → v6.2 i = u.2 i := fun i h => (C6 i (by omega)).trans (l5 i h)
  have r1_6 := (C6 (b + 1) (by omega)).trans r1_5
  have r2_6 := (C6 (b + 2) (by omega)).trans r2_5
  have r3_6 := (C6 (b + 3) (by omega)).trans r3_5
  refine r_aload_n (pc := 28) dX7_init_28 rfl ?_
  refine r_bipush (pc := 29) (n := 41) dX7_init_29 (by decide) ?_
  refine s_newI (pc := 31) (N := 41) dX7_init_31 (by omega) (by omega) rfl (by omega) t6 (show 3 + 1 ≤ 4 by omega) (show 123 + 41 ≤ 164 by omega) (fun v7 A7 B7 C7 => ?_)
  rw [g6] at A7 B7 C7 ⊢
  have g7 : v7.1 = b + 4 := A7
  have t7 : ∃ n f, v7.2 0 = .inr (0, n, .inl f) := by rw [C7 0 (by omega)]; exact t6
  have p7 := (C7 b (by omega)).trans p6
  have l7 : ∀ i, i < b → v7.2 i = u.2 i := fun i h => (C7 i (by omega)).trans (l6 i h)
  have r1_7 := (C7 (b + 1) (by omega)).trans r1_6
  have r2_7 := (C7 (b + 2) (by omega)).trans r2_6
  have r3_7 := (C7 (b + 3) (by omega)).trans r3_6
  have r4_7 : v7.2 (b + 4) = .inr (0, 41, .inl fun _ => 0) := B7
  refine s_putF (pc := 33) (C := RX7) (T := TX7) (N := 5) (ci := 7) (kf := 4) tyX7 dX7_init_33 rfl uin_X7 tyX7_ok nmX7 (by decide) rfl rfl rfl rfl (gw_t 212 (by decide +kernel) (by decide +kernel)) (ty := _) rfl (fun _ => rfl) (fun _ => rfl) hb1 (by rw [g7]; omega) p7 (by simp) (fun v8 A8 B8 C8 => ?_)
  have g8 := A8.trans g7
  have t8 : ∃ n f, v8.2 0 = .inr (0, n, .inl f) := by rw [C8 0 (by omega)]; exact t7
  have p8 : v8.2 b = .inl (7, [vI 0, vR (some (b + 1)), vR (some (b + 2)), vR (some (b + 3)), vR (some (b + 4))]) := B8
  have l8 : ∀ i, i < b → v8.2 i = u.2 i := fun i h => (C8 i (by omega)).trans (l7 i h)
  have r1_8 := (C8 (b + 1) (by omega)).trans r1_7
  have r2_8 := (C8 (b + 2) (by omega)).trans r2_7
  have r3_8 := (C8 (b + 3) (by omega)).trans r3_7
  have r4_8 := (C8 (b + 4) (by omega)).trans r4_7
  refine r_vret (pc := 36) dX7_init_36 rfl (Nat.le_refl _) (Nat.le_refl _) (hQ _ g8 l8 (fun i h1 h2 => ?_))
  have bb := sh_in hs (by decide) (by decide)
  obtain ⟨s1, s2, s3, s4⟩ := sh_pl7 b (by omega) hs
  rcases (show i = b ∨ i = b + 1 ∨ i = b + 2 ∨ i = b + 3 ∨ i = b + 4 by omega) with h | h | h | h | h
  · rw [h]
    refine (p8.trans ?_).trans (show (.inl (7, [vI (W0 s n b 0), vR (some (b + 1)), vR (some (b + 2)), vR (some (b + 3)), vR (some (b + 4))]) : Ob) = ob (W0 s n) b from (fl_obj hs (by decide)).symm)
    rw [W0_z (j := 0) (by omega) (by omega) (Or.inl (by omega)) (Or.inl (fun z => by rw [z] at hs; exact absurd hs (by decide))) (Or.inl (fun z => by rw [z] at hs; exact absurd hs (by decide)))]
  · rw [h]
    exact r1_8.trans (ob_row s1 (by omega) (by omega) (by omega) (fun z => by rw [z] at s1; exact absurd s1 (by decide))).symm
  · rw [h]
    exact r2_8.trans (ob_row s2 (by omega) (by omega) (by omega) (fun z => by rw [z] at s2; exact absurd s2 (by decide))).symm
  · rw [h]
    exact r3_8.trans (ob_row s3 (by omega) (by omega) (by omega) (fun z => by rw [z] at s3; exact absurd s3 (by decide))).symm
  · rw [h]
    exact r4_8.trans (ob_row s4 (by omega) (by omega) (by omega) (fun z => by rw [z] at s4; exact absurd s4 (by decide))).symm
set_option maxRecDepth 8000 in
theorem i_X9 {Q : Option AV → GW → Prop} {u : GW} {b : Nat} {s : Int → Int} {n : Int} (d : Nat) (hd : 1 ≤ d) (hs : sh b = 9) (hb1 : 1 ≤ b) (hu1 : u.1 = b) (hub : u.2 b = .inl (9, [vI 0, vI 0, vI 0, vR none])) (hex : ∃ n f, u.2 0 = .inr (0, n, .inl f)) (hQ : ∀ v : GW, v.1 = b + 1 → (∀ i, i < b → v.2 i = u.2 i) → (∀ i, b ≤ i → i ≤ b + 1 → v.2 i = ob (W0 s n) i) → Q none v) : M mX9_init (Rk d 1 120) [vR (some b)] u Q := by
  refine M_of_V (by decide +kernel) (Nat.le_of_ble_eq_true rfl) ?_
  show V mX9_init (Rk d 1 120) 0 0 0 [some (vR (some b))] [] u Q
  have t0 := hex
  have g0 : u.1 = b := hu1
  have p0 : u.2 b = .inl (9, [vI 0, vI 0, vI 0, vR none]) := hub
  have l0 : ∀ i, i < b → u.2 i = u.2 i := fun _ _ => rfl
  refine r_aload_n (pc := 0) dX9_init_0 rfl ?_
  refine r_objInit (pc := 1) dX9_init_1 (gw_t 149 (by decide +kernel) (by decide +kernel)) (gw_t 22 (by decide +kernel) (by decide +kernel)) (gw_t 23 (by decide +kernel) (by decide +kernel)) (Nat.le_of_ble_eq_true rfl) (show 1 ≤ d by omega) (show 20 ≤ 41 * d by omega) hb1 ?_
  refine r_aload_n (pc := 4) dX9_init_4 rfl ?_
  refine r_iconst (pc := 5) (n := (-1)) dX9_init_5 ?_
  refine s_put (pc := 6) (C := RX9) (T := TX9) (N := 4) (ci := 9) (kf := 2) tyX9 dX9_init_6 rfl uin_X9 tyX9_ok nmX9 (by decide) rfl rfl (gw_t 155 (by decide +kernel) (by decide +kernel)) (ty := _) rfl (fun _ => rfl) (fun _ => rfl) hb1 (by rw [g0]; omega) p0 (by simp) (fun v1 A1 B1 C1 => ?_)
  have g1 := A1.trans g0
  have t1 : ∃ n f, v1.2 0 = .inr (0, n, .inl f) := by rw [C1 0 (by omega)]; exact t0
  have p1 : v1.2 b = .inl (9, [vI 0, vI 0, vI (-1), vR none]) := B1
  have l1 : ∀ i, i < b → v1.2 i = u.2 i := fun i h => (C1 i (by omega)).trans (l0 i h)
  refine r_aload_n (pc := 9) dX9_init_9 rfl ?_
  refine r_bipush (pc := 10) (n := 120) dX9_init_10 (by decide) ?_
  refine s_newI (pc := 12) (N := 120) dX9_init_12 (by omega) (by omega) rfl (by omega) t1 (show 0 + 1 ≤ 1 by omega) (show 0 + 120 ≤ 120 by omega) (fun v2 A2 B2 C2 => ?_)
  rw [g1] at A2 B2 C2 ⊢
  have g2 : v2.1 = b + 1 := A2
  have t2 : ∃ n f, v2.2 0 = .inr (0, n, .inl f) := by rw [C2 0 (by omega)]; exact t1
  have p2 := (C2 b (by omega)).trans p1
  have l2 : ∀ i, i < b → v2.2 i = u.2 i := fun i h => (C2 i (by omega)).trans (l1 i h)
  have r1_2 : v2.2 (b + 1) = .inr (0, 120, .inl fun _ => 0) := B2
  refine s_putF (pc := 14) (C := RX9) (T := TX9) (N := 4) (ci := 9) (kf := 3) tyX9 dX9_init_14 rfl uin_X9 tyX9_ok nmX9 (by decide) rfl rfl rfl rfl (gw_t 156 (by decide +kernel) (by decide +kernel)) (ty := _) rfl (fun _ => rfl) (fun _ => rfl) hb1 (by rw [g2]; omega) p2 (by simp) (fun v3 A3 B3 C3 => ?_)
  have g3 := A3.trans g2
  have t3 : ∃ n f, v3.2 0 = .inr (0, n, .inl f) := by rw [C3 0 (by omega)]; exact t2
  have p3 : v3.2 b = .inl (9, [vI 0, vI 0, vI (-1), vR (some (b + 1))]) := B3
  have l3 : ∀ i, i < b → v3.2 i = u.2 i := fun i h => (C3 i (by omega)).trans (l2 i h)
  have r1_3 := (C3 (b + 1) (by omega)).trans r1_2
  refine r_vret (pc := 17) dX9_init_17 rfl (Nat.le_refl _) (Nat.le_refl _) (hQ _ g3 l3 (fun i h1 h2 => ?_))
  have bb := sh_in hs (by decide) (by decide)
  obtain ⟨b9, s1⟩ := sh_tx9 b (by omega) hs
  rcases (show i = b ∨ i = b + 1 by omega) with h | h
  · rw [h]
    refine (p3.trans ?_).trans (show (.inl (9, [vI (W0 s n b 0), vI (W0 s n b 1), vI (W0 s n b 2), vR (some (b + 1))]) : Ob) = ob (W0 s n) b from (fl_obj hs (by decide)).symm)
    rw [W0_z (j := 0) (by omega) (by omega) (Or.inl (by omega)) (Or.inr (by omega)) (Or.inl (fun z => by rw [z] at hs; exact absurd hs (by decide)))]
    rw [W0_z (j := 1) (by omega) (by omega) (Or.inl (by omega)) (Or.inr (by omega)) (Or.inl (fun z => by rw [z] at hs; exact absurd hs (by decide)))]
    rw [W0_9 b9]
  · rw [h]
    exact r1_3.trans (ob_row s1 (by omega) (by omega) (by omega) (fun z => by rw [z] at s1; exact absurd s1 (by decide))).symm
