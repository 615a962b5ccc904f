theorem ob_rowJ {s : Int → Int} {n : Int} {i m : Nat} (h : sh i = 20000 + m) (hm : m < 10000) (h0 : i ≠ 0) (h9 : i ≠ 999) (h5 : i ≠ 356) (hi : i ≠ 386) : ob (W0 s n) i = .inr (1, m, .inl fun _ => 0) := by
  have e := fl_long (w := W0 s n) h hm
  refine e.trans ?_
  congr 3
  refine congrArg Sum.inl (funext fun q => ?_)
  exact W0_z h0 h9 (Or.inl (by omega)) (Or.inl h5) (Or.inl hi)
theorem ob_rowZ {s : Int → Int} {n : Int} {i m : Nat} (h : sh i = 30000 + m) (hm : m < 10000) (h0 : i ≠ 0) (h9 : i ≠ 999) (h5 : i ≠ 356) (hi : i ≠ 386) : ob (W0 s n) i = .inr (2, m, .inl fun _ => 0) := by
  have e := fl_bool (w := W0 s n) h hm
  refine e.trans ?_
  congr 3
  refine congrArg Sum.inl (funext fun q => ?_)
  exact W0_z h0 h9 (Or.inl (by omega)) (Or.inl h5) (Or.inl hi)
theorem sh_r1 : ∀ c, c < 402 → sh c = 1 → sh (c + 1) = 0 := by decide +kernel
theorem sh_r4 : ∀ c, c < 402 → sh c = 4 → sh (c + 1) = 3 := by decide +kernel
theorem sh_r2 : ∀ c, c < 402 → sh c = 2 → (sh (c + 1) = 1000 + 481 ∧ sh (c + 2) = 0) := by decide +kernel
theorem df_X0 : ∀ (a : AD) (j : Nat), j < 8 → defaultValue (tyX0 j) = vp_V (([vI 0, vI 0, vI 0, vR none, vR none, vR none, vR none, vR none] : List AV).map (dn a)) j := fun a j h => by
  rcases (show j = 0 ∨ j = 1 ∨ j = 2 ∨ j = 3 ∨ j = 4 ∨ j = 5 ∨ j = 6 ∨ j = 7 by omega) with rfl | rfl | rfl | rfl | rfl | rfl | rfl | rfl <;> rfl
theorem df_X10 : ∀ (a : AD) (j : Nat), j < 3 → defaultValue (tyX10 j) = vp_V (([vI 0, vR none, vR none] : List AV).map (dn a)) j := fun a j h => by
  rcases (show j = 0 ∨ j = 1 ∨ j = 2 by omega) with rfl | rfl | rfl <;> rfl
theorem df_X3 : ∀ (a : AD) (j : Nat), j < 3 → defaultValue (tyX3 j) = vp_V (([vI 0, vR none, vR none] : List AV).map (dn a)) j := fun a j h => by
  rcases (show j = 0 ∨ j = 1 ∨ j = 2 by omega) with rfl | rfl | rfl <;> rfl
theorem df_X6 : ∀ (a : AD) (j : Nat), j < 1 → defaultValue (tyX6 j) = vp_V (([vR none] : List AV).map (dn a)) j := fun a j h => by
  rcases (show j = 0 by omega) with rfl
  rfl
theorem df_X7 : ∀ (a : AD) (j : Nat), j < 5 → defaultValue (tyX7 j) = vp_V (([vI 0, vR none, vR none, vR none, vR none] : List AV).map (dn a)) j := fun a j h => by
  rcases (show j = 0 ∨ j = 1 ∨ j = 2 ∨ j = 3 ∨ j = 4 by omega) with rfl | rfl | rfl | rfl | rfl <;> rfl
theorem df_X9 : ∀ (a : AD) (j : Nat), j < 4 → defaultValue (tyX9 j) = vp_V (([vI 0, vI 0, vI 0, vR none] : List AV).map (dn a)) j := fun a j h => by
  rcases (show j = 0 ∨ j = 1 ∨ j = 2 ∨ j = 3 by omega) with rfl | rfl | rfl | rfl <;> rfl
set_option maxRecDepth 8000 in
theorem i_X1 {Q : Option AV → GW → Prop} {u : GW} {b : Nat} {s : Int → Int} {n : Int} (d : Nat) (hd : 2 ≤ d) (hs : sh b = 1) (hb1 : 1 ≤ b) (hu1 : u.1 = b) (hub : u.2 b = .inl (1, [vR none])) (hex : ∃ n f, u.2 0 = .inr (0, n, .inl f)) (hQ : ∀ v : GW, v.1 = b + 6 → (∀ i, i < b → v.2 i = u.2 i) → (∀ i, b ≤ i → i ≤ b + 6 → v.2 i = ob (W0 s n) i) → Q none v) : M mX1_init (Rk d 6 128) [vR (some b)] u Q := by
  refine M_of_V (by decide +kernel) (Nat.le_of_ble_eq_true rfl) ?_
  show V mX1_init (Rk d 6 128) 0 0 0 [some (vR (some b))] [] u Q
  have bb := sh_in hs (by decide) (by decide)
  have s1 := sh_r1 b (by omega) hs
  have h0 : CTM u u b 0 1 [vR none] (ob (W0 s n)) := CTM.here hu1 hex hub
  refine r_aload_n (pc := 0) dX1_init_0 rfl ?_
  refine r_objInit (pc := 1) dX1_init_1 (gw_t 184 (by decide +kernel) (by decide +kernel)) (gw_t 22 (by decide +kernel) (by decide +kernel)) (gw_t 23 (by decide +kernel) (by decide +kernel)) (Nat.le_of_ble_eq_true rfl) (show 1 ≤ d by omega) (show 20 ≤ 41 * d by omega) hb1 ?_
  refine r_aload_n (pc := 4) dX1_init_4 rfl ?_
  refine q_objN (host := "KeyframeCurves") (pc := 5) (c2 := 0) (kn := 5) (N := 8) (C := RX0) (T := TX0) (fs2 := [vI 0, vI 0, vI 0, vR none, vR none, vR none, vR none, vR none]) (k2 := mX0_init) (R2 := Rk (d - 1) 5 120) tyX0 dX1_init_5 dX1_init_8 dX1_init_9 rfl uin_X0 tyX0_ok (gw_t 185 (by decide +kernel) (by decide +kernel)) (gw_t 70 (by decide +kernel) (by decide +kernel)) (gw_t 5 (by decide +kernel) (by decide +kernel)) df_X0 (show 0 + 1 ≤ 6 by omega) (show 0 + 8 ≤ 128 by omega) rfl okX0_init (gw_t 72 (by decide +kernel) (by decide +kernel)) rfl (List.mem_of_getElem? (i := 7) (by decide +kernel)) (Nat.le_of_ble_eq_true rfl) ⟨by show d - 1 + 1 ≤ d; omega, by show 8 + (1 + 11) + 41 * (d - 1) ≤ 41 * d; omega, by show 0 + 1 + 5 ≤ 6; omega, by show 0 + 8 + 120 ≤ 128; omega⟩ hb1 h0 (fun x Q2 A B t hq => i_X0 (d - 1) (by omega) s1 (by omega) A B t hq) (fun v1 h1 => ?_)
  have h1 : CTM u v1 b 6 1 [vR none] (ob (W0 s n)) := h1
  show V mX1_init (Rk d 6 128) 6 128 12 _ (vR (some (b + 1)) :: [vR (some b)]) v1 Q
  refine q_putF (pc := 12) (C := RX1) (T := TX1) (N := 1) (kf := 0) tyX1 dX1_init_12 rfl uin_X1 tyX1_ok nmX1 (by decide) rfl rfl rfl rfl (gw_t 187 (by decide +kernel) (by decide +kernel)) (ty := _) rfl (fun _ => rfl) (fun _ => rfl) hb1 h1 (Nat.le_of_ble_eq_true rfl) (fun v2 h2 => ?_)
  have h2 : CTM u v2 b 6 1 [vR (some (b + 1))] (ob (W0 s n)) := h2
  refine r_vret (pc := 15) dX1_init_15 rfl (Nat.le_refl _) (Nat.le_refl _) (hQ _ h2.1 h2.2.2.2.1 (fun i i1 i2 => ?_))
  rcases Nat.lt_or_eq_of_le i1 with q | q
  · exact h2.2.2.2.2 i (by omega) i2
  · rw [← q]
    refine (h2.2.2.1.trans ?_).trans (show (.inl (1, [vR (some (b + 1))]) : Ob) = ob (W0 s n) b from (fl_obj hs (by decide)).symm)
    rfl
set_option maxRecDepth 8000 in
theorem i_X4 {Q : Option AV → GW → Prop} {u : GW} {b : Nat} {s : Int → Int} {n : Int} (d : Nat) (hd : 2 ≤ d) (hs : sh b = 4) (hb1 : 1 ≤ b) (hu1 : u.1 = b) (hub : u.2 b = .inl (4, [vR none])) (hex : ∃ n f, u.2 0 = .inr (0, n, .inl f)) (hQ : ∀ v : GW, v.1 = b + 3 → (∀ i, i < b → v.2 i = u.2 i) → (∀ i, b ≤ i → i ≤ b + 3 → v.2 i = ob (W0 s n) i) → Q none v) : M mX4_init (Rk d 3 243) [vR (some b)] u Q := by
  refine M_of_V (by decide +kernel) (Nat.le_of_ble_eq_true rfl) ?_
  show V mX4_init (Rk d 3 243) 0 0 0 [some (vR (some b))] [] u Q
  have bb := sh_in hs (by decide) (by decide)
  have s1 := sh_r4 b (by omega) hs
  have h0 : CTM u u b 0 4 [vR none] (ob (W0 s n)) := CTM.here hu1 hex hub
  refine r_aload_n (pc := 0) dX4_init_0 rfl ?_
  refine r_objInit (pc := 1) dX4_init_1 (gw_t 171 (by decide +kernel) (by decide +kernel)) (gw_t 22 (by decide +kernel) (by decide +kernel)) (gw_t 23 (by decide +kernel) (by decide +kernel)) (Nat.le_of_ble_eq_true rfl) (show 1 ≤ d by omega) (show 20 ≤ 41 * d by omega) hb1 ?_
  refine r_aload_n (pc := 4) dX4_init_4 rfl ?_
  refine q_objN (host := "KeyframeCurves") (pc := 5) (c2 := 3) (kn := 2) (N := 3) (C := RX3) (T := TX3) (fs2 := [vI 0, vR none, vR none]) (k2 := mX3_init) (R2 := Rk (d - 1) 2 240) tyX3 dX4_init_5 dX4_init_8 dX4_init_9 rfl uin_X3 tyX3_ok (gw_t 172 (by decide +kernel) (by decide +kernel)) (gw_t 49 (by decide +kernel) (by decide +kernel)) (gw_t 4 (by decide +kernel) (by decide +kernel)) df_X3 (show 0 + 1 ≤ 3 by omega) (show 0 + 3 ≤ 243 by omega) rfl okX3_init (gw_t 51 (by decide +kernel) (by decide +kernel)) rfl (List.mem_of_getElem? (i := 5) (by decide +kernel)) (Nat.le_of_ble_eq_true rfl) ⟨by show d - 1 + 1 ≤ d; omega, by show 8 + (1 + 11) + 41 * (d - 1) ≤ 41 * d; omega, by show 0 + 1 + 2 ≤ 3; omega, by show 0 + 3 + 240 ≤ 243; omega⟩ hb1 h0 (fun x Q2 A B t hq => i_X3 (d - 1) (by omega) s1 (by omega) A B t hq) (fun v1 h1 => ?_)
  have h1 : CTM u v1 b 3 4 [vR none] (ob (W0 s n)) := h1
  show V mX4_init (Rk d 3 243) 3 243 12 _ (vR (some (b + 1)) :: [vR (some b)]) v1 Q
  refine q_putF (pc := 12) (C := RX4) (T := TX4) (N := 1) (kf := 0) tyX4 dX4_init_12 rfl uin_X4 tyX4_ok nmX4 (by decide) rfl rfl rfl rfl (gw_t 174 (by decide +kernel) (by decide +kernel)) (ty := _) rfl (fun _ => rfl) (fun _ => rfl) hb1 h1 (Nat.le_of_ble_eq_true rfl) (fun v2 h2 => ?_)
  have h2 : CTM u v2 b 3 4 [vR (some (b + 1))] (ob (W0 s n)) := h2
  refine r_vret (pc := 15) dX4_init_15 rfl (Nat.le_refl _) (Nat.le_refl _) (hQ _ h2.1 h2.2.2.2.1 (fun i i1 i2 => ?_))
  rcases Nat.lt_or_eq_of_le i1 with q | q
  · exact h2.2.2.2.2 i (by omega) i2
  · rw [← q]
    refine (h2.2.2.1.trans ?_).trans (show (.inl (4, [vR (some (b + 1))]) : Ob) = ob (W0 s n) b from (fl_obj hs (by decide)).symm)
    rfl
set_option maxRecDepth 8000 in
theorem i_X2 {Q : Option AV → GW → Prop} {u : GW} {b : Nat} {s : Int → Int} {n : Int} (d : Nat) (hd : 2 ≤ d) (hs : sh b = 2) (hb1 : 1 ≤ b) (hu1 : u.1 = b) (hub : u.2 b = .inl (2, [vR none, vR none])) (hex : ∃ n f, u.2 0 = .inr (0, n, .inl f)) (hQ : ∀ v : GW, v.1 = b + 7 → (∀ i, i < b → v.2 i = u.2 i) → (∀ i, b ≤ i → i ≤ b + 7 → v.2 i = ob (W0 s n) i) → Q none v) : M mX2_init (Rk d 7 609) [vR (some b)] u Q := by
  refine M_of_V (by decide +kernel) (Nat.le_of_ble_eq_true rfl) ?_
  show V mX2_init (Rk d 7 609) 0 0 0 [some (vR (some b))] [] u Q
  have bb := sh_in hs (by decide) (by decide)
  obtain ⟨s1, s2⟩ := sh_r2 b (by omega) hs
  have h0 : CTM u u b 0 2 [vR none, vR none] (ob (W0 s n)) := CTM.here hu1 hex hub
  refine r_aload_n (pc := 0) dX2_init_0 rfl ?_
  refine r_objInit (pc := 1) dX2_init_1 (gw_t 229 (by decide +kernel) (by decide +kernel)) (gw_t 22 (by decide +kernel) (by decide +kernel)) (gw_t 23 (by decide +kernel) (by decide +kernel)) (Nat.le_of_ble_eq_true rfl) (show 1 ≤ d by omega) (show 20 ≤ 41 * d by omega) hb1 ?_
  refine r_aload_n (pc := 4) dX2_init_4 rfl ?_
  refine r_sipush (pc := 5) (n := 481) dX2_init_5 (by decide) ?_
  refine q_newI (pc := 8) (N := 481) dX2_init_8 (by omega) (by omega) rfl (by omega) (show 0 + 1 ≤ 7 by omega) (show 0 + 481 ≤ 609 by omega) hb1 h0 (ob_row s1 (by omega) (by omega) (by omega) (fun z => by rw [z] at s1; exact absurd s1 (by decide))) (fun v1 h1 => ?_)
  have h1 : CTM u v1 b 1 2 [vR none, vR none] (ob (W0 s n)) := h1
  show V mX2_init (Rk d 7 609) 1 481 10 _ (vR (some (b + 1)) :: [vR (some b)]) v1 Q
  refine q_putF (pc := 10) (C := RX2) (T := TX2) (N := 2) (kf := 0) tyX2 dX2_init_10 rfl uin_X2 tyX2_ok nmX2 (by decide) rfl rfl rfl rfl (gw_t 232 (by decide +kernel) (by decide +kernel)) (ty := _) rfl (fun _ => rfl) (fun _ => rfl) hb1 h1 (Nat.le_of_ble_eq_true rfl) (fun v2 h2 => ?_)
  have h2 : CTM u v2 b 1 2 [vR (some (b + 1)), vR none] (ob (W0 s n)) := h2
  refine r_aload_n (pc := 13) dX2_init_13 rfl ?_
  refine q_objN (host := "KeyframeCurves") (pc := 14) (c2 := 0) (kn := 5) (N := 8) (C := RX0) (T := TX0) (fs2 := [vI 0, vI 0, vI 0, vR none, vR none, vR none, vR none, vR none]) (k2 := mX0_init) (R2 := Rk (d - 1) 5 120) tyX0 dX2_init_14 dX2_init_17 dX2_init_18 rfl uin_X0 tyX0_ok (gw_t 230 (by decide +kernel) (by decide +kernel)) (gw_t 70 (by decide +kernel) (by decide +kernel)) (gw_t 5 (by decide +kernel) (by decide +kernel)) df_X0 (show 1 + 1 ≤ 7 by omega) (show 481 + 8 ≤ 609 by omega) rfl okX0_init (gw_t 72 (by decide +kernel) (by decide +kernel)) rfl (List.mem_of_getElem? (i := 11) (by decide +kernel)) (Nat.le_of_ble_eq_true rfl) ⟨by show d - 1 + 1 ≤ d; omega, by show 8 + (1 + 11) + 41 * (d - 1) ≤ 41 * d; omega, by show 1 + 1 + 5 ≤ 7; omega, by show 481 + 8 + 120 ≤ 609; omega⟩ hb1 h2 (fun x Q2 A B t hq => i_X0 (d - 1) (by omega) s2 (by omega) A B t hq) (fun v3 h3 => ?_)
  have h3 : CTM u v3 b 7 2 [vR (some (b + 1)), vR none] (ob (W0 s n)) := h3
  show V mX2_init (Rk d 7 609) 7 609 21 _ (vR (some (b + 2)) :: [vR (some b)]) v3 Q
  refine q_putF (pc := 21) (C := RX2) (T := TX2) (N := 2) (kf := 1) tyX2 dX2_init_21 rfl uin_X2 tyX2_ok nmX2 (by decide) rfl rfl rfl rfl (gw_t 233 (by decide +kernel) (by decide +kernel)) (ty := _) rfl (fun _ => rfl) (fun _ => rfl) hb1 h3 (Nat.le_of_ble_eq_true rfl) (fun v4 h4 => ?_)
  have h4 : CTM u v4 b 7 2 [vR (some (b + 1)), vR (some (b + 2))] (ob (W0 s n)) := h4
  refine r_vret (pc := 24) dX2_init_24 rfl (Nat.le_refl _) (Nat.le_refl _) (hQ _ h4.1 h4.2.2.2.1 (fun i i1 i2 => ?_))
  rcases Nat.lt_or_eq_of_le i1 with q | q
  · exact h4.2.2.2.2 i (by omega) i2
  · rw [← q]
    refine (h4.2.2.1.trans ?_).trans (show (.inl (2, [vR (some (b + 1)), vR (some (b + 2))]) : Ob) = ob (W0 s n) b from (fl_obj hs (by decide)).symm)
    rfl
theorem df_X1 : ∀ (a : AD) (j : Nat), j < 1 → defaultValue (tyX1 j) = vp_V (([vR none] : List AV).map (dn a)) j := fun a j h => by
  rcases (show j = 0 by omega) with rfl
  rfl
theorem df_X4 : ∀ (a : AD) (j : Nat), j < 1 → defaultValue (tyX4 j) = vp_V (([vR none] : List AV).map (dn a)) j := fun a j h => by
  rcases (show j = 0 by omega) with rfl
  rfl
theorem df_X2 : ∀ (a : AD) (j : Nat), j < 2 → defaultValue (tyX2 j) = vp_V (([vR none, vR none] : List AV).map (dn a)) j := fun a j h => by
  rcases (show j = 0 ∨ j = 1 by omega) with rfl | rfl <;> rfl
