/-- an array of objects under way: q of them stand -/
def FRW (w : Wd) (e t n step q : Nat) (i : Nat) : Ob := if i = e then .inr (t, n, .inr fun p => if p < q then some (e + 1 + step * p) else none) else ob w i
theorem FRW_ne {w : Wd} {e t n step q i : Nat} (h : i ≠ e) : FRW w e t n step q i = ob w i := if_neg h
theorem FRW_eq {w : Wd} {e t n step q : Nat} : FRW w e t n step q e = .inr (t, n, .inr fun p => if p < q then some (e + 1 + step * p) else none) := if_pos rfl
theorem FRW_zero {w : Wd} {e t n step : Nat} : FRW w e t n step 0 e = .inr (t, n, .inr fun _ => none) := by
  rw [FRW_eq]
  have e : (fun p : Nat => if p < 0 then some (e + 1 + step * p) else none) = fun _ => none := funext fun p => if_neg (Nat.not_lt_zero p)
  rw [e]
theorem FRW_succ {w : Wd} {e t n step q o : Nat} (ho : o = e + 1 + step * q) : FRW w e t n step (q + 1) e = .inr (t, n, .inr fun p => if p = ((q : Nat) : Int).toNat then some o else if p < q then some (e + 1 + step * p) else none) := by
  rw [FRW_eq]
  congr 3
  refine congrArg Sum.inr (funext fun p => ?_)
  rw [Int.toNat_natCast]
  by_cases h : p = q
  · subst h
    rw [if_pos (Nat.lt_succ_self p), if_pos rfl, ho]
  · rw [if_neg h]
    by_cases h2 : p < q
    · rw [if_pos h2, if_pos (by omega)]
    · rw [if_neg h2, if_neg (by omega)]
theorem sh_r8 : ∀ c, c < 402 → sh c = 8 → (sh (c + 1) = 10 ∧ sh (c + 4) = 3 ∧ sh (c + 7) = 40000 + 4 ∧ ∀ q, q < 4 → sh (c + 8 + 6 * q) = 0) := by decide +kernel
theorem sh_r5 : ∀ c, c < 402 → sh c = 5 → (c = 34 ∧ sh (c + 1) = 50000 + 10 ∧ ∀ q, q < 10 → sh (c + 2 + 32 * q) = 8) := by decide +kernel
set_option maxRecDepth 8000 in
theorem lp_X8 {Q : Option AV → GW → Prop} {u : GW} {b : Nat} {s : Int → Int} {n : Int} (d : Nat) (hd : 2 ≤ d) (hs : sh b = 8) (hb1 : 1 ≤ b) (hQ : ∀ v : GW, v.1 = b + 31 → (∀ i, i < b → v.2 i = u.2 i) → (∀ i, b ≤ i → i ≤ b + 31 → v.2 i = ob (W0 s n) i) → Q none v) : ∀ (k q : Nat) (v : GW), q + k = 4 → CTM u v b (7 + 6 * q) 8 [vR (some (b + 1)), vR (some (b + 4)), vR (some (b + 7))] (FRW (W0 s n) (b + 7) 3 4 6 q) → V mX8_init (Rk d 31 778) (7 + 6 * q) (266 + 128 * q) 36 [some (vR (some b)), some (vI q)] [] v Q := by
  have bb := sh_in hs (by decide) (by decide)
  obtain ⟨s1, s4, s7, sq⟩ := sh_r8 b (by omega) hs
  intro k
  induction k with
  | zero =>
    intro q v hq h
    have he : v.2 (b + 7) = .inr (3, 4, .inr fun p => if p < q then some (b + 7 + 1 + 6 * p) else none) := (h.2.2.2.2 (b + 7) (by omega) (by omega)).trans FRW_eq
    refine r_iload_n (pc := 36) dX8_init_36 rfl ?_
    refine r_aload_n (pc := 37) dX8_init_37 rfl ?_
    refine r_getG (pc := 38) (C := RX8) (T := TX8) (N := 3) (ci := 8) (kf := 2) dX8_init_38 rfl uin_X8 (by decide) rfl (gw_t 117 (by decide +kernel) (by decide +kernel)) hb1 (by rw [h.1]; omega) h.2.2.1 rfl ?_
    refine r_alenG (pc := 41) dX8_init_41 (by omega) (by omega) (by rw [h.1]; omega) he ?_
    refine r_icmpge (pc := 42) (tgt := 64) dX8_init_42 rfl ⟨by omega, by omega⟩ ⟨by omega, by omega⟩ (fun hx => ?_) (fun hx => ?_)
    · have q4 : q = 4 := by omega
      subst q4
      refine V_row (i := b + 7) (v2 := (v.1, uset v.2 (b + 7) (ob (W0 s n) (b + 7)))) rfl (by omega) he ((if_pos rfl).trans (fl_cur s7 (by omega))) (fun j hj => (if_pos hj).symm) (fun p hp => if_neg hp) ?_
      refine r_vret (pc := 64) dX8_init_64 rfl (Nat.le_refl _) (Nat.le_refl _) (hQ _ h.1 (fun i hi => (if_neg (by omega)).trans (h.2.2.2.1 i hi)) (fun i i1 i2 => ?_))
      by_cases hie : i = b + 7
      · rw [hie]; exact if_pos rfl
      refine (show uset v.2 (b + 7) _ i = v.2 i from if_neg hie).trans ?_
      rcases Nat.lt_or_eq_of_le i1 with q | q
      · exact (h.2.2.2.2 i (by omega) i2).trans (FRW_ne hie)
      · rw [← q]
        refine (h.2.2.1.trans ?_).trans (show (.inl (8, [vR (some (b + 1)), vR (some (b + 4)), vR (some (b + 7))]) : Ob) = ob (W0 s n) b from (fl_obj hs (by decide)).symm)
        rfl
    · exact absurd hx (by omega)
  | succ k ih =>
    intro q v hq h
    have he : v.2 (b + 7) = .inr (3, 4, .inr fun p => if p < q then some (b + 7 + 1 + 6 * p) else none) := (h.2.2.2.2 (b + 7) (by omega) (by omega)).trans FRW_eq
    refine r_iload_n (pc := 36) dX8_init_36 rfl ?_
    refine r_aload_n (pc := 37) dX8_init_37 rfl ?_
    refine r_getG (pc := 38) (C := RX8) (T := TX8) (N := 3) (ci := 8) (kf := 2) dX8_init_38 rfl uin_X8 (by decide) rfl (gw_t 117 (by decide +kernel) (by decide +kernel)) hb1 (by rw [h.1]; omega) h.2.2.1 rfl ?_
    refine r_alenG (pc := 41) dX8_init_41 (by omega) (by omega) (by rw [h.1]; omega) he ?_
    refine r_icmpge (pc := 42) (tgt := 64) dX8_init_42 rfl ⟨by omega, by omega⟩ ⟨by omega, by omega⟩ (fun hx => ?_) (fun hx => ?_)
    · exact absurd (show (q : Int) < (4 : Nat) by omega) hx
    have so : sh (b + (7 + 6 * q) + 1) = 0 := by rw [show b + (7 + 6 * q) + 1 = b + 8 + 6 * q by omega]; exact sq q (by omega)
    refine r_aload_n (pc := 45) dX8_init_45 rfl ?_
    refine r_getG (pc := 46) (C := RX8) (T := TX8) (N := 3) (ci := 8) (kf := 2) dX8_init_46 rfl uin_X8 (by decide) rfl (gw_t 117 (by decide +kernel) (by decide +kernel)) hb1 (by rw [h.1]; omega) h.2.2.1 rfl ?_
    refine r_iload_n (pc := 49) dX8_init_49 rfl ?_
    refine q_objN (host := "KeyframeCurves") (pc := 50) (c2 := 0) (kn := 5) (N := 8) (C := RX0) (T := TX0) (fs2 := [vI 0, vI 0, vI 0, vR none, vR none, vR none, vR none, vR none]) (k2 := mX0_init) (R2 := Rk (d - 1) 5 120) tyX0 dX8_init_50 dX8_init_53 dX8_init_54 rfl uin_X0 tyX0_ok (gw_t 68 (by decide +kernel) (by decide +kernel)) (gw_t 70 (by decide +kernel) (by decide +kernel)) (gw_t 5 (by decide +kernel) (by decide +kernel)) df_X0 (show 7 + 6 * q + 1 ≤ 31 by omega) (show 266 + 128 * q + 8 ≤ 778 by omega) rfl okX0_init (gw_t 72 (by decide +kernel) (by decide +kernel)) rfl (List.mem_of_getElem? (i := 2) (by decide +kernel)) (Nat.le_of_ble_eq_true rfl) ⟨by show d - 1 + 1 ≤ d; omega, by show 8 + (1 + 11) + 41 * (d - 1) ≤ 41 * d; omega, by show 7 + 6 * q + 1 + 5 ≤ 31; omega, by show 266 + 128 * q + 8 + 120 ≤ 778; omega⟩ hb1 h (ICM.congr (fun x Q2 A B t hq => i_X0 (d - 1) (by omega) so (by omega) A B t hq) (fun i i1 i2 => FRW_ne (by omega))) (fun v2 h2 => ?_)
    have he2 : v2.2 (b + 7) = .inr (3, 4, .inr fun p => if p < q then some (b + 7 + 1 + 6 * p) else none) := (h2.2.2.2.2 (b + 7) (by omega) (by omega)).trans FRW_eq
    have ho : v2.2 (b + (7 + 6 * q) + 1) = ob (W0 s n) (b + (7 + 6 * q) + 1) := (h2.2.2.2.2 _ (by omega) (by omega)).trans (FRW_ne (by omega))
    refine s_aast (pc := 57) (i := b + 7) (n := 4) (t := 3) (v := b + (7 + 6 * q) + 1) (ci := 0) (N := 8) (C := RX0) (T := TX0) (j := (q : Int)) dX8_init_57 (by omega) (by rw [h2.1]; omega) he2 (fun _ => rfl) (by omega) (by rw [h2.1]; omega) (ho.trans (fl_obj so (by decide))) rfl ⟨by omega, by omega⟩ (by omega) (by omega) (fun x A B C => ?_)
    have h3 : CTM u x b (7 + 6 * q + 1 + 5) 8 [vR (some (b + 1)), vR (some (b + 4)), vR (some (b + 7))] (FRW (W0 s n) (b + 7) 3 4 6 (q + 1)) := h2.ast hb1 (by omega) A B C (FRW_succ (by omega)) (fun i hi => (FRW_ne hi).trans (FRW_ne hi).symm)
    refine r_iinc1 (pc := 58) dX8_init_58 rfl ?_
    refine r_goto (pc := 61) (tgt := 36) dX8_init_61 rfl ?_
    show V mX8_init (Rk d 31 778) (7 + 6 * q + 1 + 5) (266 + 128 * q + 8 + 120) 36 [some (vR (some b)), some (vI ((q : Int) + 1))] [] x Q
    rw [show 7 + 6 * q + 1 + 5 = 7 + 6 * (q + 1) by omega] at h3
    rw [show 7 + 6 * q + 1 + 5 = 7 + 6 * (q + 1) by omega, show 266 + 128 * q + 8 + 120 = 266 + 128 * (q + 1) by omega, show (q : Int) + 1 = ((q + 1 : Nat) : Int) by omega]
    exact ih (q + 1) x (by omega) h3
set_option maxRecDepth 8000 in
theorem i_X8 {Q : Option AV → GW → Prop} {u : GW} {b : Nat} {s : Int → Int} {n : Int} (d : Nat) (hd : 2 ≤ d) (hs : sh b = 8) (hb1 : 1 ≤ b) (hu1 : u.1 = b) (hub : u.2 b = .inl (8, [vR none, vR none, vR none])) (hex : ∃ n f, u.2 0 = .inr (0, n, .inl f)) (hQ : ∀ v : GW, v.1 = b + 31 → (∀ i, i < b → v.2 i = u.2 i) → (∀ i, b ≤ i → i ≤ b + 31 → v.2 i = ob (W0 s n) i) → Q none v) : M mX8_init (Rk d 31 778) [vR (some b)] u Q := by
  refine M_of_V (by decide +kernel) (Nat.le_of_ble_eq_true rfl) ?_
  show V mX8_init (Rk d 31 778) 0 0 0 [some (vR (some b)), none] [] u Q
  have bb := sh_in hs (by decide) (by decide)
  obtain ⟨s1, s4, s7, sq⟩ := sh_r8 b (by omega) hs
  have h0 : CTM u u b 0 8 [vR none, vR none, vR none] (FRW (W0 s n) (b + 7) 3 4 6 0) := CTM.here hu1 hex hub
  refine r_aload_n (pc := 0) dX8_init_0 rfl ?_
  refine r_objInit (pc := 1) dX8_init_1 (gw_t 29 (by decide +kernel) (by decide +kernel)) (gw_t 22 (by decide +kernel) (by decide +kernel)) (gw_t 23 (by decide +kernel) (by decide +kernel)) (Nat.le_of_ble_eq_true rfl) (show 1 ≤ d by omega) (show 20 ≤ 41 * d by omega) hb1 ?_
  refine r_aload_n (pc := 4) dX8_init_4 rfl ?_
  refine q_objN (host := "KeyframeCurves") (pc := 5) (c2 := 10) (kn := 2) (N := 3) (C := RX10) (T := TX10) (fs2 := [vI 0, vR none, vR none]) (k2 := mX10_init) (R2 := Rk (d - 1) 2 16) tyX10 dX8_init_5 dX8_init_8 dX8_init_9 rfl uin_X10 tyX10_ok (gw_t 30 (by decide +kernel) (by decide +kernel)) (gw_t 31 (by decide +kernel) (by decide +kernel)) (gw_t 3 (by decide +kernel) (by decide +kernel)) df_X10 (show 0 + 1 ≤ 31 by omega) (show 0 + 3 ≤ 778 by omega) rfl okX10_init (gw_t 33 (by decide +kernel) (by decide +kernel)) rfl (List.mem_of_getElem? (i := 0) (by decide +kernel)) (Nat.le_of_ble_eq_true rfl) ⟨by show d - 1 + 1 ≤ d; omega, by show 8 + (1 + 11) + 41 * (d - 1) ≤ 41 * d; omega, by show 0 + 1 + 2 ≤ 31; omega, by show 0 + 3 + 16 ≤ 778; omega⟩ hb1 h0 (ICM.congr (fun x Q2 A B t hq => i_X10 (d - 1) (by omega) s1 (by omega) A B t hq) (fun i i1 i2 => FRW_ne (by omega))) (fun v1 h1 => ?_)
  have h1 : CTM u v1 b 3 8 [vR none, vR none, vR none] (FRW (W0 s n) (b + 7) 3 4 6 0) := h1
  show V mX8_init (Rk d 31 778) 3 19 12 _ (vR (some (b + 1)) :: [vR (some b)]) v1 Q
  refine q_putF (pc := 12) (C := RX8) (T := TX8) (N := 3) (kf := 0) tyX8 dX8_init_12 rfl uin_X8 tyX8_ok nmX8 (by decide) rfl rfl rfl rfl (gw_t 112 (by decide +kernel) (by decide +kernel)) (ty := _) rfl (fun _ => rfl) (fun _ => rfl) hb1 h1 (Nat.le_of_ble_eq_true rfl) (fun v2 h2 => ?_)
  have h2 : CTM u v2 b 3 8 [vR (some (b + 1)), vR none, vR none] (FRW (W0 s n) (b + 7) 3 4 6 0) := h2
  refine r_aload_n (pc := 15) dX8_init_15 rfl ?_
  refine q_objN (host := "KeyframeCurves") (pc := 16) (c2 := 3) (kn := 2) (N := 3) (C := RX3) (T := TX3) (fs2 := [vI 0, vR none, vR none]) (k2 := mX3_init) (R2 := Rk (d - 1) 2 240) tyX3 dX8_init_16 dX8_init_19 dX8_init_20 rfl uin_X3 tyX3_ok (gw_t 48 (by decide +kernel) (by decide +kernel)) (gw_t 49 (by decide +kernel) (by decide +kernel)) (gw_t 4 (by decide +kernel) (by decide +kernel)) df_X3 (show 3 + 1 ≤ 31 by omega) (show 19 + 3 ≤ 778 by omega) rfl okX3_init (gw_t 51 (by decide +kernel) (by decide +kernel)) rfl (List.mem_of_getElem? (i := 1) (by decide +kernel)) (Nat.le_of_ble_eq_true rfl) ⟨by show d - 1 + 1 ≤ d; omega, by show 8 + (1 + 11) + 41 * (d - 1) ≤ 41 * d; omega, by show 3 + 1 + 2 ≤ 31; omega, by show 19 + 3 + 240 ≤ 778; omega⟩ hb1 h2 (ICM.congr (fun x Q2 A B t hq => i_X3 (d - 1) (by omega) s4 (by omega) A B t hq) (fun i i1 i2 => FRW_ne (by omega))) (fun v3 h3 => ?_)
  have h3 : CTM u v3 b 6 8 [vR (some (b + 1)), vR none, vR none] (FRW (W0 s n) (b + 7) 3 4 6 0) := h3
  show V mX8_init (Rk d 31 778) 6 262 23 _ (vR (some (b + 4)) :: [vR (some b)]) v3 Q
  refine q_putF (pc := 23) (C := RX8) (T := TX8) (N := 3) (kf := 1) tyX8 dX8_init_23 rfl uin_X8 tyX8_ok nmX8 (by decide) rfl rfl rfl rfl (gw_t 114 (by decide +kernel) (by decide +kernel)) (ty := _) rfl (fun _ => rfl) (fun _ => rfl) hb1 h3 (Nat.le_of_ble_eq_true rfl) (fun v4 h4 => ?_)
  have h4 : CTM u v4 b 6 8 [vR (some (b + 1)), vR (some (b + 4)), vR none] (FRW (W0 s n) (b + 7) 3 4 6 0) := h4
  refine r_aload_n (pc := 26) dX8_init_26 rfl ?_
  refine r_iconst (pc := 27) (n := 4) dX8_init_27 ?_
  refine q_newq (pc := 28) (C := RX0) (t := 3) (N := 4) dX8_init_28 (gw_t 68 (by decide +kernel) (by decide +kernel)) (fun g U h => h.2.2.1) (fun _ => rfl) (by omega) (by omega) rfl (by omega) (show 6 + 1 ≤ 31 by omega) (show 262 + 4 ≤ 778 by omega) hb1 h4 (FRW_zero) (fun v5 h5 => ?_)
  have h5 : CTM u v5 b 7 8 [vR (some (b + 1)), vR (some (b + 4)), vR none] (FRW (W0 s n) (b + 7) 3 4 6 0) := h5
  show V mX8_init (Rk d 31 778) 7 266 31 _ (vR (some (b + 7)) :: [vR (some b)]) v5 Q
  refine q_putF (pc := 31) (C := RX8) (T := TX8) (N := 3) (kf := 2) tyX8 dX8_init_31 rfl uin_X8 tyX8_ok nmX8 (by decide) rfl rfl rfl rfl (gw_t 117 (by decide +kernel) (by decide +kernel)) (ty := _) rfl (fun _ => rfl) (fun _ => rfl) hb1 h5 (Nat.le_of_ble_eq_true rfl) (fun v6 h6 => ?_)
  have h6 : CTM u v6 b 7 8 [vR (some (b + 1)), vR (some (b + 4)), vR (some (b + 7))] (FRW (W0 s n) (b + 7) 3 4 6 0) := h6
  refine r_iconst (pc := 34) (n := 0) dX8_init_34 ?_
  refine r_istore1 (pc := 35) dX8_init_35 rfl ?_
  exact lp_X8 d hd hs hb1 hQ 4 0 v6 (by omega) h6
theorem df_X8 : ∀ (a : AD) (j : Nat), j < 3 → defaultValue (tyX8 j) = vp_V (([vR none, vR none, vR none] : List AV).map (dn a)) j := fun a j h => by
  rcases (show j = 0 ∨ j = 1 ∨ j = 2 by omega) with rfl | rfl | rfl <;> rfl
set_option maxRecDepth 8000 in
theorem lp_X5 {Q : Option AV → GW → Prop} {u : GW} {b : Nat} {s : Int → Int} {n : Int} (d : Nat) (hd : 3 ≤ d) (hs : sh b = 5) (hb1 : 1 ≤ b) (hQ : ∀ v : GW, v.1 = b + 321 → (∀ i, i < b → v.2 i = u.2 i) → (∀ i, b ≤ i → i ≤ b + 321 → v.2 i = ob (W0 s n) i) → Q none v) : ∀ (k q : Nat) (v : GW), q + k = 10 → CTM u v b (1 + 32 * q) 5 [vI 0, vI 0, vR (some (b + 1))] (FRW (W0 s n) (b + 1) 4 10 32 q) → V mX5_init (Rk d 321 7820) (1 + 32 * q) (10 + 781 * q) 15 [some (vR (some b)), some (vI q)] [] v Q := by
  have bb := sh_in hs (by decide) (by decide)
  obtain ⟨b34, s1, sq⟩ := sh_r5 b (by omega) hs
  intro k
  induction k with
  | zero =>
    intro q v hq h
    have he : v.2 (b + 1) = .inr (4, 10, .inr fun p => if p < q then some (b + 1 + 1 + 32 * p) else none) := (h.2.2.2.2 (b + 1) (by omega) (by omega)).trans FRW_eq
    refine r_iload_n (pc := 15) dX5_init_15 rfl ?_
    refine r_aload_n (pc := 16) dX5_init_16 rfl ?_
    refine r_getG (pc := 17) (C := RX5) (T := TX5) (N := 3) (ci := 5) (kf := 2) dX5_init_17 rfl uin_X5 (by decide) rfl (gw_t 136 (by decide +kernel) (by decide +kernel)) hb1 (by rw [h.1]; omega) h.2.2.1 rfl ?_
    refine r_alenG (pc := 20) dX5_init_20 (by omega) (by omega) (by rw [h.1]; omega) he ?_
    refine r_icmpge (pc := 21) (tgt := 43) dX5_init_21 rfl ⟨by omega, by omega⟩ ⟨by omega, by omega⟩ (fun hx => ?_) (fun hx => ?_)
    · have q4 : q = 10 := by omega
      subst q4
      refine V_row (i := b + 1) (v2 := (v.1, uset v.2 (b + 1) (ob (W0 s n) (b + 1)))) rfl (by omega) he ((if_pos rfl).trans (fl_sta s1)) (fun j hj => (if_pos hj).symm) (fun p hp => if_neg hp) ?_
      refine r_vret (pc := 43) dX5_init_43 rfl (Nat.le_refl _) (Nat.le_refl _) (hQ _ h.1 (fun i hi => (if_neg (by omega)).trans (h.2.2.2.1 i hi)) (fun i i1 i2 => ?_))
      by_cases hie : i = b + 1
      · rw [hie]; exact if_pos rfl
      refine (show uset v.2 (b + 1) _ i = v.2 i from if_neg hie).trans ?_
      rcases Nat.lt_or_eq_of_le i1 with q | q
      · exact (h.2.2.2.2 i (by omega) i2).trans (FRW_ne hie)
      · rw [← q]
        refine (h.2.2.1.trans ?_).trans (show (.inl (5, [vI (W0 s n b 0), vI (W0 s n b 1), vR (some (b + 1))]) : Ob) = ob (W0 s n) b from (fl_obj hs (by decide)).symm)
        rw [W0_z (j := 0) (by omega) (by omega) (Or.inl (by omega)) (Or.inl (fun z => by rw [z] at hs; exact absurd hs (by decide))) (Or.inl (fun z => by rw [z] at hs; exact absurd hs (by decide)))]
        rw [W0_z (j := 1) (by omega) (by omega) (Or.inl (by omega)) (Or.inl (fun z => by rw [z] at hs; exact absurd hs (by decide))) (Or.inl (fun z => by rw [z] at hs; exact absurd hs (by decide)))]
    · exact absurd hx (by omega)
  | succ k ih =>
    intro q v hq h
    have he : v.2 (b + 1) = .inr (4, 10, .inr fun p => if p < q then some (b + 1 + 1 + 32 * p) else none) := (h.2.2.2.2 (b + 1) (by omega) (by omega)).trans FRW_eq
    refine r_iload_n (pc := 15) dX5_init_15 rfl ?_
    refine r_aload_n (pc := 16) dX5_init_16 rfl ?_
    refine r_getG (pc := 17) (C := RX5) (T := TX5) (N := 3) (ci := 5) (kf := 2) dX5_init_17 rfl uin_X5 (by decide) rfl (gw_t 136 (by decide +kernel) (by decide +kernel)) hb1 (by rw [h.1]; omega) h.2.2.1 rfl ?_
    refine r_alenG (pc := 20) dX5_init_20 (by omega) (by omega) (by rw [h.1]; omega) he ?_
    refine r_icmpge (pc := 21) (tgt := 43) dX5_init_21 rfl ⟨by omega, by omega⟩ ⟨by omega, by omega⟩ (fun hx => ?_) (fun hx => ?_)
    · exact absurd (show (q : Int) < (10 : Nat) by omega) hx
    have so : sh (b + (1 + 32 * q) + 1) = 8 := by rw [show b + (1 + 32 * q) + 1 = b + 2 + 32 * q by omega]; exact sq q (by omega)
    refine r_aload_n (pc := 24) dX5_init_24 rfl ?_
    refine r_getG (pc := 25) (C := RX5) (T := TX5) (N := 3) (ci := 5) (kf := 2) dX5_init_25 rfl uin_X5 (by decide) rfl (gw_t 136 (by decide +kernel) (by decide +kernel)) hb1 (by rw [h.1]; omega) h.2.2.1 rfl ?_
    refine r_iload_n (pc := 28) dX5_init_28 rfl ?_
    refine q_obj (pc := 29) (c2 := 8) (kn := 31) (N := 3) (C := RX8) (T := TX8) (fs2 := [vR none, vR none, vR none]) (k2 := mX8_init) (R2 := Rk (d - 1) 31 778) tyX8 dX5_init_29 dX5_init_32 dX5_init_33 rfl uin_X8 tyX8_ok (gw_t 131 (by decide +kernel) (by decide +kernel)) (gw_t 25 (by decide +kernel) (by decide +kernel)) (gw_t 2 (by decide +kernel) (by decide +kernel)) df_X8 (show 1 + 32 * q + 1 ≤ 321 by omega) (show 10 + 781 * q + 3 ≤ 7820 by omega) rfl okX8_init (gw_t 27 (by decide +kernel) (by decide +kernel)) rfl (gw_t 133 (by decide +kernel) (by decide +kernel)) (Nat.le_of_ble_eq_true rfl) ⟨by show d - 1 + 1 ≤ d; omega, by show 8 + (2 + 11) + 41 * (d - 1) ≤ 41 * d; omega, by show 1 + 32 * q + 1 + 31 ≤ 321; omega, by show 10 + 781 * q + 3 + 778 ≤ 7820; omega⟩ hb1 h (ICM.congr (fun x Q2 A B t hq => i_X8 (d - 1) (by omega) so (by omega) A B t hq) (fun i i1 i2 => FRW_ne (by omega))) (fun v2 h2 => ?_)
    have he2 : v2.2 (b + 1) = .inr (4, 10, .inr fun p => if p < q then some (b + 1 + 1 + 32 * p) else none) := (h2.2.2.2.2 (b + 1) (by omega) (by omega)).trans FRW_eq
    have ho : v2.2 (b + (1 + 32 * q) + 1) = ob (W0 s n) (b + (1 + 32 * q) + 1) := (h2.2.2.2.2 _ (by omega) (by omega)).trans (FRW_ne (by omega))
    refine s_aast (pc := 36) (i := b + 1) (n := 10) (t := 4) (v := b + (1 + 32 * q) + 1) (ci := 8) (N := 3) (C := RX8) (T := TX8) (j := (q : Int)) dX5_init_36 (by omega) (by rw [h2.1]; omega) he2 (fun _ => rfl) (by omega) (by rw [h2.1]; omega) (ho.trans (fl_obj so (by decide))) rfl ⟨by omega, by omega⟩ (by omega) (by omega) (fun x A B C => ?_)
    have h3 : CTM u x b (1 + 32 * q + 1 + 31) 5 [vI 0, vI 0, vR (some (b + 1))] (FRW (W0 s n) (b + 1) 4 10 32 (q + 1)) := h2.ast hb1 (by omega) A B C (FRW_succ (by omega)) (fun i hi => (FRW_ne hi).trans (FRW_ne hi).symm)
    refine r_iinc1 (pc := 37) dX5_init_37 rfl ?_
    refine r_goto (pc := 40) (tgt := 15) dX5_init_40 rfl ?_
    show V mX5_init (Rk d 321 7820) (1 + 32 * q + 1 + 31) (10 + 781 * q + 3 + 778) 15 [some (vR (some b)), some (vI ((q : Int) + 1))] [] x Q
    rw [show 1 + 32 * q + 1 + 31 = 1 + 32 * (q + 1) by omega] at h3
    rw [show 1 + 32 * q + 1 + 31 = 1 + 32 * (q + 1) by omega, show 10 + 781 * q + 3 + 778 = 10 + 781 * (q + 1) by omega, show (q : Int) + 1 = ((q + 1 : Nat) : Int) by omega]
    exact ih (q + 1) x (by omega) h3
set_option maxRecDepth 8000 in
theorem i_X5 {Q : Option AV → GW → Prop} {u : GW} {b : Nat} {s : Int → Int} {n : Int} (d : Nat) (hd : 3 ≤ d) (hs : sh b = 5) (hb1 : 1 ≤ b) (hu1 : u.1 = b) (hub : u.2 b = .inl (5, [vI 0, vI 0, vR none])) (hex : ∃ n f, u.2 0 = .inr (0, n, .inl f)) (hQ : ∀ v : GW, v.1 = b + 321 → (∀ i, i < b → v.2 i = u.2 i) → (∀ i, b ≤ i → i ≤ b + 321 → v.2 i = ob (W0 s n) i) → Q none v) : M mX5_init (Rk d 321 7820) [vR (some b)] u Q := by
  refine M_of_V (by decide +kernel) (Nat.le_of_ble_eq_true rfl) ?_
  show V mX5_init (Rk d 321 7820) 0 0 0 [some (vR (some b)), none] [] u Q
  have bb := sh_in hs (by decide) (by decide)
  obtain ⟨b34, s1, sq⟩ := sh_r5 b (by omega) hs
  have h0 : CTM u u b 0 5 [vI 0, vI 0, vR none] (FRW (W0 s n) (b + 1) 4 10 32 0) := CTM.here hu1 hex hub
  refine r_aload_n (pc := 0) dX5_init_0 rfl ?_
  refine r_objInit (pc := 1) dX5_init_1 (gw_t 130 (by decide +kernel) (by decide +kernel)) (gw_t 22 (by decide +kernel) (by decide +kernel)) (gw_t 23 (by decide +kernel) (by decide +kernel)) (Nat.le_of_ble_eq_true rfl) (show 1 ≤ d by omega) (show 20 ≤ 41 * d by omega) hb1 ?_
  refine r_aload_n (pc := 4) dX5_init_4 rfl ?_
  refine r_bipush (pc := 5) (n := 10) dX5_init_5 (by decide) ?_
  refine q_newq (pc := 7) (C := RX8) (t := 4) (N := 10) dX5_init_7 (gw_t 131 (by decide +kernel) (by decide +kernel)) (fun g U h => h.2.2.2) (fun _ => rfl) (by omega) (by omega) rfl (by omega) (show 0 + 1 ≤ 321 by omega) (show 0 + 10 ≤ 7820 by omega) hb1 h0 (FRW_zero) (fun v1 h1 => ?_)
  have h1 : CTM u v1 b 1 5 [vI 0, vI 0, vR none] (FRW (W0 s n) (b + 1) 4 10 32 0) := h1
  show V mX5_init (Rk d 321 7820) 1 10 10 _ (vR (some (b + 1)) :: [vR (some b)]) v1 Q
  refine q_putF (pc := 10) (C := RX5) (T := TX5) (N := 3) (kf := 2) tyX5 dX5_init_10 rfl uin_X5 tyX5_ok nmX5 (by decide) rfl rfl rfl rfl (gw_t 136 (by decide +kernel) (by decide +kernel)) (ty := _) rfl (fun _ => rfl) (fun _ => rfl) hb1 h1 (Nat.le_of_ble_eq_true rfl) (fun v2 h2 => ?_)
  have h2 : CTM u v2 b 1 5 [vI 0, vI 0, vR (some (b + 1))] (FRW (W0 s n) (b + 1) 4 10 32 0) := h2
  refine r_iconst (pc := 13) (n := 0) dX5_init_13 ?_
  refine r_istore1 (pc := 14) dX5_init_14 rfl ?_
  exact lp_X5 d hd hs hb1 hQ 10 0 v2 (by omega) h2
theorem df_X5 : ∀ (a : AD) (j : Nat), j < 3 → defaultValue (tyX5 j) = vp_V (([vI 0, vI 0, vR none] : List AV).map (dn a)) j := fun a j h => by
  rcases (show j = 0 ∨ j = 1 ∨ j = 2 by omega) with rfl | rfl | rfl <;> rfl
