theorem cp_end {w w2 : Wd} {c e : Nat} (hce : e + 5 < c ∨ c + 5 < e) (f : FRM c w w2) (h : CEQ (cx w2 c) (cpK (cx w c) (cx w e))) : FRM c w (up (up w2 c 1 (w2 e 1)) c 2 (up w2 c 1 (w2 e 1) e 2)) ∧ CEQ (cx (up (up w2 c 1 (w2 e 1)) c 2 (up w2 c 1 (w2 e 1) e 2)) c) (cx w e) := by
  refine ⟨(f.tr (FRM_up (r := 0) (by omega))).tr (FRM_up (r := 0) (by omega)), ?_⟩
  have fe : w2 e = w e := f e (by omega)
  rw [up_ne (i := c) (j := e) (by omega), fe, cx_up0, cx_up0]
  obtain ⟨h0, h1, h2, h3⟩ := h
  refine ⟨?_, ?_, ?_, fun r a b j j0 jn => ?_⟩
  · rw [stX_off (by omega), stX_off (by omega)]; exact h0
  · rw [stX_off (by omega), stX_hit]; rfl
  · rw [stX_hit]; rfl
  · rw [stX_off (by omega), stX_off (by omega)] at jn
    rw [stX_off (by omega), stX_off (by omega), h3 r a b j j0 jn]
    unfold cpK
    rw [if_neg (by omega)]
theorem chmX_n {X : CP} {k m : Int} (i : Int) : chmX X k m 0 i = X 0 i := by
  unfold chmX
  split
  · rw [stX_0 (by omega), stX_0 (by omega), stX_0 (by omega)]
  · rw [stX_0 (by omega)]
theorem freX_n {X : CP} {k : Int} (i : Int) : freX X k 0 i = X 0 i := by
  unfold freX
  split
  · rfl
  · exact chmX_n i
theorem spY_n {X : CP} {b : Int} (i : Int) : spY X b 0 i = X 0 i := by
  unfold spY
  rw [freX_n, freX_n]
set_option maxRecDepth 8000 in
theorem m_X0_copyKeys {Q : Option AV → Wd → Prop} {w : Wd} (d : Nat) {c : Nat} {e : Nat} (hd : 2 ≤ d) (hw : WR w) (hs : sh c = 0) (hs2 : sh e = 0) (hce : e + 5 < c ∨ c + 5 < e) (hn : 0 ≤ w e 0 ∧ w e 0 ≤ 24) (hQ : ∀ w2, FRM c w w2 → CEQ (cx w2 c) (cpK (cx w c) (cx w e)) → WR w2 → Q none w2) : M mX0_copyKeys (Rm d) [vR (some c), vR (some e)] (fl w) (lQ Q) := by
  obtain ⟨s1, s2, s3, s4, s5⟩ := sh_curve hs
  obtain ⟨t1, t2, t3, t4, t5⟩ := sh_curve hs2
  refine f_mofv (L0 := [some (vR (some c)), some (vR (some e))]) rfl (Nat.le_of_ble_eq_true rfl) rfl ?_
  refine r_aload_n (pc := 0) dX0_copyKeys_0 rfl ?_
  refine r_aload_n (pc := 1) dX0_copyKeys_1 rfl ?_
  refine g_X0_38 (pc := 2) rfl dX0_copyKeys_2 (by assumption) (by first | assumption | rfl) (fun h2 => ?_)
  refine p_X0_38 (pc := 5) rfl dX0_copyKeys_5 (by assumption) (by first | assumption | rfl) (by omega) (fun hw5 => ?_)
  refine r_aload_n (pc := 8) dX0_copyKeys_8 rfl ?_
  refine g_X0_18 (pc := 9) rfl dX0_copyKeys_9 (by first | assumption | rfl) ?_
  refine r_aload_n (pc := 12) dX0_copyKeys_12 rfl ?_
  refine g_X0_18 (pc := 13) rfl dX0_copyKeys_13 (by first | assumption | rfl) ?_
  refine c_X0_41 (pc := 16) rfl dX0_copyKeys_16 (by omega) (Nat.le_of_ble_eq_true rfl) ?_
  refine m_X11_copyRow (d - 1) (by omega) (by assumption) (by assumption) (by assumption) (by omega) (fun w16 e16 hw16 => ?_)
  refine r_aload_n (pc := 19) dX0_copyKeys_19 rfl ?_
  refine g_X0_22 (pc := 20) rfl dX0_copyKeys_20 (by first | assumption | rfl) ?_
  refine r_aload_n (pc := 23) dX0_copyKeys_23 rfl ?_
  refine g_X0_22 (pc := 24) rfl dX0_copyKeys_24 (by first | assumption | rfl) ?_
  refine c_X0_41 (pc := 27) rfl dX0_copyKeys_27 (by omega) (Nat.le_of_ble_eq_true rfl) ?_
  refine m_X11_copyRow (d - 1) (by omega) (by assumption) (by assumption) (by assumption) (by omega) (fun w27 e27 hw27 => ?_)
  refine r_aload_n (pc := 30) dX0_copyKeys_30 rfl ?_
  refine g_X0_25 (pc := 31) rfl dX0_copyKeys_31 (by first | assumption | rfl) ?_
  refine r_aload_n (pc := 34) dX0_copyKeys_34 rfl ?_
  refine g_X0_25 (pc := 35) rfl dX0_copyKeys_35 (by first | assumption | rfl) ?_
  refine c_X0_41 (pc := 38) rfl dX0_copyKeys_38 (by omega) (Nat.le_of_ble_eq_true rfl) ?_
  refine m_X11_copyRow (d - 1) (by omega) (by assumption) (by assumption) (by assumption) (by omega) (fun w38 e38 hw38 => ?_)
  refine r_aload_n (pc := 41) dX0_copyKeys_41 rfl ?_
  refine g_X0_28 (pc := 42) rfl dX0_copyKeys_42 (by first | assumption | rfl) ?_
  refine r_aload_n (pc := 45) dX0_copyKeys_45 rfl ?_
  refine g_X0_28 (pc := 46) rfl dX0_copyKeys_46 (by first | assumption | rfl) ?_
  refine c_X0_41 (pc := 49) rfl dX0_copyKeys_49 (by omega) (Nat.le_of_ble_eq_true rfl) ?_
  refine m_X11_copyRow (d - 1) (by omega) (by assumption) (by assumption) (by assumption) (by omega) (fun w49 e49 hw49 => ?_)
  refine r_aload_n (pc := 52) dX0_copyKeys_52 rfl ?_
  refine g_X0_31 (pc := 53) rfl dX0_copyKeys_53 (by first | assumption | rfl) ?_
  refine r_aload_n (pc := 56) dX0_copyKeys_56 rfl ?_
  refine g_X0_31 (pc := 57) rfl dX0_copyKeys_57 (by first | assumption | rfl) ?_
  refine c_X0_41 (pc := 60) rfl dX0_copyKeys_60 (by omega) (Nat.le_of_ble_eq_true rfl) ?_
  refine m_X11_copyRow (d - 1) (by omega) (by assumption) (by assumption) (by assumption) (by omega) (fun w60 e60 hw60 => ?_)
  exact f_vret (pc := 63) dX0_copyKeys_63 rfl (by assumption) (by
      obtain ⟨g1, g2⟩ := cpK_end (w := w) (w2 := w60) hce hn (by rw [e60, e49, e38, e27, e16]; rfl)
      exact hQ _ g1 g2 (by assumption))
set_option maxRecDepth 8000 in
theorem m_X0_copy {Q : Option AV → Wd → Prop} {w : Wd} (d : Nat) {c : Nat} {e : Nat} (hd : 3 ≤ d) (hw : WR w) (hs : sh c = 0) (hs2 : sh e = 0) (hce : e + 5 < c ∨ c + 5 < e) (hn : 0 ≤ w e 0 ∧ w e 0 ≤ 24) (hQ : ∀ w2, FRM c w w2 → CEQ (cx w2 c) (cx w e) → WR w2 → Q none w2) : M mX0_copy (Rm d) [vR (some c), vR (some e)] (fl w) (lQ Q) := by
  obtain ⟨s1, s2, s3, s4, s5⟩ := sh_curve hs
  obtain ⟨t1, t2, t3, t4, t5⟩ := sh_curve hs2
  refine f_mofv (L0 := [some (vR (some c)), some (vR (some e))]) rfl (Nat.le_of_ble_eq_true rfl) rfl ?_
  refine r_aload_n (pc := 0) dX0_copy_0 rfl ?_
  refine r_aload_n (pc := 1) dX0_copy_1 rfl ?_
  refine c_X0_34 (pc := 2) rfl dX0_copy_2 (by first | assumption | rfl) (by omega) (Nat.le_of_ble_eq_true rfl) ?_
  refine m_X0_copyKeys (d - 1) (by omega) (by assumption) (by assumption) (by assumption) (by omega) (by omega) (fun w2 f2 e2 hw2 => ?_)
  refine r_aload_n (pc := 5) dX0_copy_5 rfl ?_
  refine r_aload_n (pc := 6) dX0_copy_6 rfl ?_
  have fe : w2 e = w e := f2 e (by omega)
  refine g_X0_9 (pc := 7) rfl dX0_copy_7 (by assumption) (by first | assumption | rfl) (fun h7 => ?_)
  refine p_X0_9 (pc := 10) rfl dX0_copy_10 (by assumption) (by first | assumption | rfl) (by omega) (fun hw10 => ?_)
  refine r_aload_n (pc := 13) dX0_copy_13 rfl ?_
  refine r_aload_n (pc := 14) dX0_copy_14 rfl ?_
  refine g_X0_15 (pc := 15) rfl dX0_copy_15 (by assumption) (by first | assumption | rfl) (fun h15 => ?_)
  refine p_X0_15 (pc := 18) rfl dX0_copy_18 (by assumption) (by first | assumption | rfl) (by omega) (fun hw18 => ?_)
  exact f_vret (pc := 21) dX0_copy_21 rfl (by assumption) (by
      obtain ⟨g1, g2⟩ := cp_end (w := w) (w2 := w2) hce f2 e2
      exact hQ _ g1 g2 (by assumption))
set_option maxRecDepth 8000 in
theorem m_X0_keysOutside {Q : Option AV → Wd → Prop} {w : Wd} (d : Nat) {c : Nat} {a b : Int} (hd : 2 ≤ d) (hw : WR w) (hs : sh c = 0) (hn : 0 ≤ w c 0 ∧ w c 0 ≤ 24) (ha : -1000 ≤ a ∧ a ≤ 1000) (hb : -1000 ≤ b ∧ b ≤ 1000) (hQ : ∀ r, r = w c 0 - (kbX (cx w c) (b + 1) - kbX (cx w c) a) → Q (some (vI r)) w) : M mX0_keysOutside (Rm d) [vR (some c), vI a, vI b] (fl w) (lQ Q) := by
  refine f_mofv (L0 := [some (vR (some c)), some (vI a), some (vI b)]) rfl (Nat.le_of_ble_eq_true rfl) rfl ?_
  refine r_aload_n (pc := 0) dX0_keysOutside_0 rfl ?_
  refine g_X0_38 (pc := 1) rfl dX0_keysOutside_1 (by assumption) (by first | assumption | rfl) (fun h1 => ?_)
  refine r_aload_n (pc := 4) dX0_keysOutside_4 rfl ?_
  refine r_iload_n (pc := 5) dX0_keysOutside_5 rfl ?_
  refine r_iconst (pc := 6) (n := 1) dX0_keysOutside_6 ?_
  refine r_iadd (pc := 7) dX0_keysOutside_7 ?_
  refine c_X0_45 (pc := 8) rfl dX0_keysOutside_8 (by first | assumption | rfl) (by omega) (Nat.le_of_ble_eq_true rfl) ?_
  refine m_X0_keysBefore (d - 1) (by omega) (by assumption) (by assumption) (by omega) (by omega) (fun r8 e8 => ?_)
  refine r_aload_n (pc := 11) dX0_keysOutside_11 rfl ?_
  refine r_iload_n (pc := 12) dX0_keysOutside_12 rfl ?_
  refine c_X0_45 (pc := 13) rfl dX0_keysOutside_13 (by first | assumption | rfl) (by omega) (Nat.le_of_ble_eq_true rfl) ?_
  refine m_X0_keysBefore (d - 1) (by omega) (by assumption) (by assumption) (by omega) (by omega) (fun r13 e13 => ?_)
  refine r_isub (pc := 16) dX0_keysOutside_16 ?_
  refine r_isub (pc := 17) dX0_keysOutside_17 ?_
  exact f_iret (pc := 18) dX0_keysOutside_18 rfl (by assumption) (hQ _ (by rw [kbX_of (X := cx w c) hn.1 e8, kbX_of (X := cx w c) hn.1 e13]))
set_option maxRecDepth 8000 in
theorem m_X0_move {Q : Option AV → Wd → Prop} {w : Wd} (d : Nat) {c : Nat} {k t : Int} (hd : 3 ≤ d) (hw : WR w) (hs : sh c = 0) (hn : 0 ≤ w c 0 ∧ w c 0 ≤ 24) (hk : 0 ≤ k ∧ k < w c 0) (ht : R32 t) (hQ : ∀ r w2, r = kbX (delX (cx w c) k) t → FRM c w w2 → CEQ (cx w2 c) (movX (cx w c) k t) → WR w2 → Q (some (vI r)) w2) : M mX0_move (Rm d) [vR (some c), vI k, vI t] (fl w) (lQ Q) := by
  obtain ⟨s1, s2, s3, s4, s5⟩ := sh_curve hs
  refine f_mofv (L0 := [some (vR (some c)), some (vI k), some (vI t), none, none, none, none]) rfl (Nat.le_of_ble_eq_true rfl) rfl ?_
  refine r_aload_n (pc := 0) dX0_move_0 rfl ?_
  refine g_X0_22 (pc := 1) rfl dX0_move_1 (by first | assumption | rfl) ?_
  refine r_iload_n (pc := 4) dX0_move_4 rfl ?_
  refine c_X0_53 (pc := 5) rfl dX0_move_5 (by omega) (Nat.le_of_ble_eq_true rfl) ?_
  refine m_X11_at (d - 1) (by omega) (by assumption) (n := 24) (by assumption) (by omega) (by omega) (fun r5 e5 b5 => ?_)
  rw [gA_in (by omega) (by omega)] at e5
  refine r_istore3 (pc := 8) dX0_move_8 rfl ?_
  refine r_aload_n (pc := 9) dX0_move_9 rfl ?_
  refine g_X0_25 (pc := 10) rfl dX0_move_10 (by first | assumption | rfl) ?_
  refine r_iload_n (pc := 13) dX0_move_13 rfl ?_
  refine c_X0_53 (pc := 14) rfl dX0_move_14 (by omega) (Nat.le_of_ble_eq_true rfl) ?_
  refine m_X11_at (d - 1) (by omega) (by assumption) (n := 24) (by assumption) (by omega) (by omega) (fun r14 e14 b14 => ?_)
  rw [gA_in (by omega) (by omega)] at e14
  refine r_istore4 (pc := 17) dX0_move_17 rfl ?_
  refine r_aload_n (pc := 19) dX0_move_19 rfl ?_
  refine g_X0_28 (pc := 20) rfl dX0_move_20 (by first | assumption | rfl) ?_
  refine r_iload_n (pc := 23) dX0_move_23 rfl ?_
  refine c_X0_53 (pc := 24) rfl dX0_move_24 (by omega) (Nat.le_of_ble_eq_true rfl) ?_
  refine m_X11_at (d - 1) (by omega) (by assumption) (n := 24) (by assumption) (by omega) (by omega) (fun r24 e24 b24 => ?_)
  rw [gA_in (by omega) (by omega)] at e24
  refine r_istore5 (pc := 27) dX0_move_27 rfl ?_
  refine r_aload_n (pc := 29) dX0_move_29 rfl ?_
  refine g_X0_31 (pc := 30) rfl dX0_move_30 (by first | assumption | rfl) ?_
  refine r_iload_n (pc := 33) dX0_move_33 rfl ?_
  refine c_X0_53 (pc := 34) rfl dX0_move_34 (by omega) (Nat.le_of_ble_eq_true rfl) ?_
  refine m_X11_at (d - 1) (by omega) (by assumption) (n := 24) (by assumption) (by omega) (by omega) (fun r34 e34 b34 => ?_)
  rw [gA_in (by omega) (by omega)] at e34
  refine r_istore6 (pc := 37) dX0_move_37 rfl ?_
  refine r_aload_n (pc := 39) dX0_move_39 rfl ?_
  refine r_iload_n (pc := 40) dX0_move_40 rfl ?_
  refine c_X0_65 (pc := 41) rfl dX0_move_41 (by first | assumption | rfl) (by omega) (Nat.le_of_ble_eq_true rfl) ?_
  refine m_X0_drop (d - 1) (by omega) (by assumption) (by assumption) (by omega) (by omega) (fun w41 f41 e41 hw41 => ?_)
  have n41 : w41 c 0 = w c 0 - 1 := e41.1
  refine r_aload_n (pc := 44) dX0_move_44 rfl ?_
  refine r_iload_n (pc := 45) dX0_move_45 rfl ?_
  refine r_iload_n (pc := 46) dX0_move_46 rfl ?_
  refine r_iload (pc := 47) dX0_move_47 rfl ?_
  refine r_iload (pc := 49) dX0_move_49 rfl ?_
  refine r_iload (pc := 51) dX0_move_51 rfl ?_
  refine c_X0_73 (pc := 53) rfl dX0_move_53 (by first | assumption | rfl) (by omega) (Nat.le_of_ble_eq_true rfl) ?_
  refine m_X0_insert (d - 1) (by omega) (by assumption) (by assumption) (by omega) (by omega) (by omega) (by omega) (by omega) (by omega) (fun k53 w53 b53 f53 e53 hw53 => ?_)
  exact f_iret (pc := 56) dX0_move_56 rfl (by assumption) (by
      have z := kbX_of (X := cx w41 c) (show 0 ≤ w41 c 0 by omega) b53
      rw [kbX_cg e41.v] at z
      have z0 := (kbX_KB (X := delX (cx w c) k) (show 0 ≤ w c 0 - 1 by omega) t)
      refine hQ _ _ z (f41.tr f53) (e53.tr ?_) (by assumption)
      rw [z, e5, e14, e24, e34]
      exact insX_cg e41 _ ⟨z0.1, by have := z0.2.1; have := e41.1; omega⟩)
set_option maxRecDepth 8000 in
theorem m_X0_changeMode {Q : Option AV → Wd → Prop} {w : Wd} (d : Nat) {c : Nat} {k m : Int} (hd : 5 ≤ d) (hw : WR w) (hs : sh c = 0) (hI : CI (cx w c)) (hk : 0 ≤ k ∧ k < w c 0) (hm : R32 m) (hQ : ∀ w2, FRM c w w2 → cx w2 c = chmX (cx w c) k m → WR w2 → Q none w2) : M mX0_changeMode (Rm d) [vR (some c), vI k, vI m] (fl w) (lQ Q) := by
  obtain ⟨s1, s2, s3, s4, s5⟩ := sh_curve hs
  obtain ⟨hn, P, O, b1, b2, b3, b4⟩ := CIw hI
  refine f_mofv (L0 := [some (vR (some c)), some (vI k), some (vI m), none, none]) rfl (Nat.le_of_ble_eq_true rfl) rfl ?_
  refine r_iload_n (pc := 0) dX0_changeMode_0 rfl ?_
  refine r_ifne (pc := 1) (tgt := 63) dX0_changeMode_1 rfl (by omega) (fun h1 => ?_) (fun h1 => ?_)
  · refine r_aload_n (pc := 63) dX0_changeMode_63 rfl ?_
    refine g_X0_25 (pc := 64) rfl dX0_changeMode_64 (by first | assumption | rfl) ?_
    refine r_iload_n (pc := 67) dX0_changeMode_67 rfl ?_
    refine r_iload_n (pc := 68) dX0_changeMode_68 rfl ?_
    refine c_X0_61 (pc := 69) rfl dX0_changeMode_69 (by omega) (Nat.le_of_ble_eq_true rfl) ?_
    refine m_X11_put (d - 1) (by omega) (by assumption) (n := 24) (by assumption) (by omega) (by omega) (by omega) (fun w69 e69 hw69 => ?_)
    rw [pA_in (by omega) (by omega)] at e69
    exact f_vret (pc := 72) dX0_changeMode_72 rfl (by assumption) (hQ _ (by rw [e69]; exact FRM_up (r := 3) (by omega)) (by rw [e69, cx_up]; exact (if_neg (show ¬ (m = 0 ∧ w (c + 3) k ≠ 0) by omega)).symm) (by assumption))
  refine r_aload_n (pc := 4) dX0_changeMode_4 rfl ?_
  refine g_X0_25 (pc := 5) rfl dX0_changeMode_5 (by first | assumption | rfl) ?_
  refine r_iload_n (pc := 8) dX0_changeMode_8 rfl ?_
  refine c_X0_53 (pc := 9) rfl dX0_changeMode_9 (by omega) (Nat.le_of_ble_eq_true rfl) ?_
  refine m_X11_at (d - 1) (by omega) (by assumption) (n := 24) (by assumption) (by omega) (by omega) (fun r9 e9 b9 => ?_)
  rw [gA_in (by omega) (by omega)] at e9
  refine r_ifeq (pc := 12) (tgt := 63) dX0_changeMode_12 rfl (by omega) (fun h12 => ?_) (fun h12 => ?_)
  · refine r_aload_n (pc := 63) dX0_changeMode_63 rfl ?_
    refine g_X0_25 (pc := 64) rfl dX0_changeMode_64 (by first | assumption | rfl) ?_
    refine r_iload_n (pc := 67) dX0_changeMode_67 rfl ?_
    refine r_iload_n (pc := 68) dX0_changeMode_68 rfl ?_
    refine c_X0_61 (pc := 69) rfl dX0_changeMode_69 (by omega) (Nat.le_of_ble_eq_true rfl) ?_
    refine m_X11_put (d - 1) (by omega) (by assumption) (n := 24) (by assumption) (by omega) (by omega) (by omega) (fun w69 e69 hw69 => ?_)
    rw [pA_in (by omega) (by omega)] at e69
    exact f_vret (pc := 72) dX0_changeMode_72 rfl (by assumption) (hQ _ (by rw [e69]; exact FRM_up (r := 3) (by omega)) (by rw [e69, cx_up]; exact (if_neg (show ¬ (m = 0 ∧ w (c + 3) k ≠ 0) by omega)).symm) (by assumption))
  refine r_aload_n (pc := 15) dX0_changeMode_15 rfl ?_
  refine r_iload_n (pc := 16) dX0_changeMode_16 rfl ?_
  refine r_iconst (pc := 17) (n := 0) dX0_changeMode_17 ?_
  refine c_X0_77 (pc := 18) rfl dX0_changeMode_18 (by first | assumption | rfl) (by omega) (Nat.le_of_ble_eq_true rfl) ?_
  refine m_X0_tangent (d - 1) (by omega) (by assumption) (by assumption) (by assumption) ⟨by omega, by omega⟩ (by omega) (fun r18 e18 b18 => ?_)
  refine r_istore3 (pc := 21) dX0_changeMode_21 rfl ?_
  refine r_aload_n (pc := 22) dX0_changeMode_22 rfl ?_
  refine r_iload_n (pc := 23) dX0_changeMode_23 rfl ?_
  refine r_iconst (pc := 24) (n := 1) dX0_changeMode_24 ?_
  refine c_X0_77 (pc := 25) rfl dX0_changeMode_25 (by first | assumption | rfl) (by omega) (Nat.le_of_ble_eq_true rfl) ?_
  refine m_X0_tangent (d - 1) (by omega) (by assumption) (by assumption) (by assumption) ⟨by omega, by omega⟩ (by omega) (fun r25 e25 b25 => ?_)
  refine r_istore4 (pc := 28) dX0_changeMode_28 rfl ?_
  refine r_aload_n (pc := 30) dX0_changeMode_30 rfl ?_
  refine g_X0_28 (pc := 31) rfl dX0_changeMode_31 (by first | assumption | rfl) ?_
  refine r_iload_n (pc := 34) dX0_changeMode_34 rfl ?_
  refine r_iload_n (pc := 35) dX0_changeMode_35 rfl ?_
  refine r_i2l (pc := 36) dX0_changeMode_36 (by first | assumption | omega) ?_
  refine r_sipush (pc := 37) (n := 9999) dX0_changeMode_37 (by decide) ?_
  refine c_X0_81 (pc := 40) rfl dX0_changeMode_40 (by omega) (Nat.le_of_ble_eq_true rfl) ?_
  refine m_X11_limited (d - 1) (by omega) (by assumption) (by omega) (by omega) (fun r40 e40 b40 => ?_)
  refine c_X0_61 (pc := 43) rfl dX0_changeMode_43 (by omega) (Nat.le_of_ble_eq_true rfl) ?_
  refine m_X11_put (d - 1) (by omega) (by assumption) (n := 24) (by assumption) (by omega) (by omega) (by omega) (fun w43 e43 hw43 => ?_)
  rw [pA_in (by omega) (by omega)] at e43
  refine r_aload_n (pc := 46) dX0_changeMode_46 rfl ?_
  refine g_X0_31 (pc := 47) rfl dX0_changeMode_47 (by first | assumption | rfl) ?_
  refine r_iload_n (pc := 50) dX0_changeMode_50 rfl ?_
  refine r_iload (pc := 51) dX0_changeMode_51 rfl ?_
  refine r_i2l (pc := 53) dX0_changeMode_53 (by first | assumption | omega) ?_
  refine r_sipush (pc := 54) (n := 9999) dX0_changeMode_54 (by decide) ?_
  refine c_X0_81 (pc := 57) rfl dX0_changeMode_57 (by omega) (Nat.le_of_ble_eq_true rfl) ?_
  refine m_X11_limited (d - 1) (by omega) (by assumption) (by omega) (by omega) (fun r57 e57 b57 => ?_)
  refine c_X0_61 (pc := 60) rfl dX0_changeMode_60 (by omega) (Nat.le_of_ble_eq_true rfl) ?_
  refine m_X11_put (d - 1) (by omega) (by assumption) (n := 24) (by assumption) (by omega) (by omega) (by omega) (fun w60 e60 hw60 => ?_)
  rw [pA_in (by omega) (by omega)] at e60
  refine r_aload_n (pc := 63) dX0_changeMode_63 rfl ?_
  refine g_X0_25 (pc := 64) rfl dX0_changeMode_64 (by first | assumption | rfl) ?_
  refine r_iload_n (pc := 67) dX0_changeMode_67 rfl ?_
  refine r_iload_n (pc := 68) dX0_changeMode_68 rfl ?_
  refine c_X0_61 (pc := 69) rfl dX0_changeMode_69 (by omega) (Nat.le_of_ble_eq_true rfl) ?_
  refine m_X11_put (d - 1) (by omega) (by assumption) (n := 24) (by assumption) (by omega) (by omega) (by omega) (fun w69 e69 hw69 => ?_)
  rw [pA_in (by omega) (by omega)] at e69
  exact f_vret (pc := 72) dX0_changeMode_72 rfl (by assumption) (hQ _ (by rw [e69, e60, e43]; exact ((FRM_up (r := 4) (by omega)).tr (FRM_up (r := 5) (by omega))).tr (FRM_up (r := 3) (by omega))) (by rw [e69, cx_up, e60, cx_up, e43, cx_up, e40, e57, e18, e25]; exact (if_pos (show m = 0 ∧ w (c + 3) k ≠ 0 by omega)).symm) (by assumption))
set_option maxRecDepth 8000 in
theorem m_X0_freeUnlessHold {Q : Option AV → Wd → Prop} {w : Wd} (d : Nat) {c : Nat} {k : Int} (hd : 6 ≤ d) (hw : WR w) (hs : sh c = 0) (hI : CI (cx w c)) (hk : 0 ≤ k ∧ k < w c 0) (hQ : ∀ w2, FRM c w w2 → cx w2 c = freX (cx w c) k → WR w2 → Q none w2) : M mX0_freeUnlessHold (Rm d) [vR (some c), vI k] (fl w) (lQ Q) := by
  obtain ⟨s1, s2, s3, s4, s5⟩ := sh_curve hs
  obtain ⟨hn, P, O, b1, b2, b3, b4⟩ := CIw hI
  refine f_mofv (L0 := [some (vR (some c)), some (vI k)]) rfl (Nat.le_of_ble_eq_true rfl) rfl ?_
  refine r_aload_n (pc := 0) dX0_freeUnlessHold_0 rfl ?_
  refine g_X0_25 (pc := 1) rfl dX0_freeUnlessHold_1 (by first | assumption | rfl) ?_
  refine r_iload_n (pc := 4) dX0_freeUnlessHold_4 rfl ?_
  refine c_X0_53 (pc := 5) rfl dX0_freeUnlessHold_5 (by omega) (Nat.le_of_ble_eq_true rfl) ?_
  refine m_X11_at (d - 1) (by omega) (by assumption) (n := 24) (by assumption) (by omega) (by omega) (fun r5 e5 b5 => ?_)
  rw [gA_in (by omega) (by omega)] at e5
  refine r_bipush (pc := 8) (n := 6) dX0_freeUnlessHold_8 (by decide) ?_
  refine r_icmpeq (pc := 10) (tgt := 19) dX0_freeUnlessHold_10 rfl (by omega) (by omega) (fun h10 => ?_) (fun h10 => ?_)
  · exact f_vret (pc := 19) dX0_freeUnlessHold_19 rfl (by assumption) (hQ _ (FRM.rf _ _) (if_pos (show w (c + 3) k = 6 by omega)).symm (by assumption))
  refine r_aload_n (pc := 13) dX0_freeUnlessHold_13 rfl ?_
  refine r_iload_n (pc := 14) dX0_freeUnlessHold_14 rfl ?_
  refine r_iconst (pc := 15) (n := 0) dX0_freeUnlessHold_15 ?_
  refine c_X0_100 (pc := 16) rfl dX0_freeUnlessHold_16 (by first | assumption | rfl) (by omega) (Nat.le_of_ble_eq_true rfl) ?_
  refine m_X0_changeMode (d - 1) (by omega) (by assumption) (by assumption) (by assumption) (by omega) (by omega) (fun w16 f16 e16 hw16 => ?_)
  exact f_vret (pc := 19) dX0_freeUnlessHold_19 rfl (by assumption) (hQ _ (by assumption) (by rw [e16]; exact (if_neg (show ¬ w (c + 3) k = 6 by omega)).symm) (by assumption))
set_option maxRecDepth 8000 in
theorem m_X0_divide {Q : Option AV → Wd → Prop} {w : Wd} (d : Nat) {c : Nat} {t b : Int} (hd : 8 ≤ d) (hw : WR w) (hs : sh c = 0) (hI : CI (cx w c)) (hb : 1 ≤ b ∧ b < w c 0) (hn : w c 0 ≤ 23) (ht : 0 ≤ t ∧ t ≤ 1000) (hQ : ∀ r w2, r = kbX (spY (cx w c) b) t → FRM c w w2 → CEQ (cx w2 c) (spX (cx w c) t b) → WR w2 → Q (some (vI r)) w2) : M mX0_divide (Rm d) [vR (some c), vI t, vI b] (fl w) (lQ Q) := by
  obtain ⟨s1, s2, s3, s4, s5⟩ := sh_curve hs
  obtain ⟨hn0, P, O, b1, b2, b3, b4⟩ := CIw hI
  have Pb := P (b - 1) (by omega) (by omega)
  refine f_mofv (L0 := [some (vR (some c)), some (vI t), some (vI b), none, none, none, none, none]) rfl (Nat.le_of_ble_eq_true rfl) rfl ?_
  have cut109 : ∀ (o5 : Option AV) (z h s : Int) (w3 : Wd), R32 h → R32 s → h = spH (cx w c) t b → s = spS (cx w c) t → FRM c w w3 → cx w3 c = spY (cx w c) b → WR w3 → ∀ m : Int, m = (if w (c + 3) (b - 1) = 6 then 6 else 0) → V mX0_divide (Rm d) 0 0 109 [some (vR (some c)), some (vI t), some (vI b), some (vI z), some (vI h), o5, none, some (vI s)] [vI m, vI h, vI t, vR (some c)] (fl w3) (lQ Q) := by
    intro o5 z h s w3 hh hs2 eh es f3 e3 hw3 m hm
    have hmb : R32 m := by
      rw [hm]
      split <;> constructor <;> omega
    have n3 : w3 c 0 = w c 0 := by
      have z : cx w3 c 0 0 = spY (cx w c) b 0 0 := by rw [e3]
      rw [spY_n] at z
      exact z
    refine r_iload (pc := 109) dX0_divide_109 rfl ?_
    refine r_iload (pc := 111) dX0_divide_111 rfl ?_
    refine c_X0_73 (pc := 113) rfl dX0_divide_113 (by first | assumption | rfl) (by omega) (Nat.le_of_ble_eq_true rfl) ?_
    refine m_X0_insert (d - 1) (by omega) (by assumption) (by assumption) (by omega) (by omega) (by omega) (by omega) (by omega) (by omega) (fun k113 w113 b113 f113 e113 hw113 => ?_)
    exact f_iret (pc := 116) dX0_divide_116 rfl (by assumption) (by
        have zz := kbX_of (X := cx w3 c) (show 0 ≤ w3 c 0 by omega) b113
        rw [e3] at zz e113
        refine hQ _ _ zz (f3.tr f113) (e113.tr ?_) (by assumption)
        rw [zz, eh, es, hm]
        exact CEQ.rf _)
  have cut46 : ∀ z h : Int, (z = 0 ∨ z = 1) → (z = 1 ↔ w (c + 3) (b - 1) = 6) → h = spH (cx w c) t b → V mX0_divide (Rm d) 0 0 46 [some (vR (some c)), some (vI t), some (vI b), some (vI z), none, none, none, none] [vI h] (fl w) (lQ Q) := by
    intro z h hz hz2 hh
    have hhb : R32 h := by
      rw [hh]
      unfold spH
      split
      · show R32 (w (c + 2) (b - 1))
        exact ⟨by omega, by omega⟩
      · have := lim_bd (rndW (valS (cx w c) t) 64) (show 0 ≤ (999 : Int) by omega)
        exact ⟨by omega, by omega⟩
    refine r_istore4 (pc := 46) dX0_divide_46 rfl ?_
    refine r_aload_n (pc := 48) dX0_divide_48 rfl ?_
    refine r_iload_n (pc := 49) dX0_divide_49 rfl ?_
    refine r_iconst (pc := 50) (n := 1) dX0_divide_50 ?_
    refine r_iadd (pc := 51) dX0_divide_51 ?_
    refine c_X0_85 (pc := 52) rfl dX0_divide_52 (by first | assumption | rfl) (by omega) (Nat.le_of_ble_eq_true rfl) ?_
    refine m_X0_partsAt (d - 1) (by omega) (by assumption) (by assumption) (by assumption) (by omega) (fun r52 e52 b52 => ?_)
    refine r_i2l (pc := 55) dX0_divide_55 (by first | assumption | omega) ?_
    refine r_aload_n (pc := 56) dX0_divide_56 rfl ?_
    refine r_iload_n (pc := 57) dX0_divide_57 rfl ?_
    refine r_iconst (pc := 58) (n := 1) dX0_divide_58 ?_
    refine r_isub (pc := 59) dX0_divide_59 ?_
    refine c_X0_85 (pc := 60) rfl dX0_divide_60 (by first | assumption | rfl) (by omega) (Nat.le_of_ble_eq_true rfl) ?_
    refine m_X0_partsAt (d - 1) (by omega) (by assumption) (by assumption) (by assumption) (by omega) (fun r60 e60 b60 => ?_)
    refine r_i2l (pc := 63) dX0_divide_63 (by first | assumption | omega) ?_
    refine r_lsub (pc := 64) dX0_divide_64 ?_
    refine r_lstore5 (pc := 65) dX0_divide_65 rfl ?_
    refine r_lload (pc := 67) dX0_divide_67 rfl ?_
    refine r_ldc2 (pc := 69) (n := 2) dX0_divide_69 kw_X0_91 rfl ?_
    refine c_X0_93 (pc := 72) rfl dX0_divide_72 (by omega) (Nat.le_of_ble_eq_true rfl) ?_
    refine m_X11_round (d - 1) (by omega) (by assumption) (by omega) (fun r72 e72 => ?_)
    refine r_sipush (pc := 75) (n := 9999) dX0_divide_75 (by decide) ?_
    refine c_X0_81 (pc := 78) rfl dX0_divide_78 (by omega) (Nat.le_of_ble_eq_true rfl) ?_
    have R72 : R64 r72 := by
      rw [e72]
      exact rndW_r _ _
    refine m_X11_limited (d - 1) (by omega) (by assumption) (by omega) (by omega) (fun r78 e78 b78 => ?_)
    refine r_istore7 (pc := 81) dX0_divide_81 rfl ?_
    have E78 : r78 = spS (cx w c) t := by
      rw [e78, e72, e52, e60]; rfl
    refine r_aload_n (pc := 83) dX0_divide_83 rfl ?_
    refine r_iload_n (pc := 84) dX0_divide_84 rfl ?_
    refine r_iconst (pc := 85) (n := 1) dX0_divide_85 ?_
    refine r_isub (pc := 86) dX0_divide_86 ?_
    refine c_X0_97 (pc := 87) rfl dX0_divide_87 (by first | assumption | rfl) (by omega) (Nat.le_of_ble_eq_true rfl) ?_
    refine m_X0_freeUnlessHold (d - 1) (by omega) (by assumption) (by assumption) (by assumption) (by omega) (fun w87 f87 e87 hw87 => ?_)
    have n87 : w87 c 0 = w c 0 := by
      have z : cx w87 c 0 0 = freX (cx w c) (b - 1) 0 0 := by rw [e87]
      rw [freX_n] at z
      exact z
    have hI87 : CI (cx w87 c) := by
      rw [e87]
      exact CI_fre hI _
    refine r_aload_n (pc := 90) dX0_divide_90 rfl ?_
    refine r_iload_n (pc := 91) dX0_divide_91 rfl ?_
    refine c_X0_97 (pc := 92) rfl dX0_divide_92 (by first | assumption | rfl) (by omega) (Nat.le_of_ble_eq_true rfl) ?_
    refine m_X0_freeUnlessHold (d - 1) (by omega) (by assumption) (by assumption) (by assumption) (by omega) (fun w92 f92 e92 hw92 => ?_)
    refine r_aload_n (pc := 95) dX0_divide_95 rfl ?_
    refine r_iload_n (pc := 96) dX0_divide_96 rfl ?_
    refine r_iload (pc := 97) dX0_divide_97 rfl ?_
    refine r_iload_n (pc := 99) dX0_divide_99 rfl ?_
    refine r_ifeq (pc := 100) (tgt := 108) dX0_divide_100 rfl (by omega) (fun h100 => ?_) (fun h100 => ?_)
    · refine r_iconst (pc := 108) (n := 0) dX0_divide_108 ?_
      exact cut109 _ _ _ _ _ (by assumption) (by omega) hh E78 (f87.tr f92) (by rw [e92, e87]; rfl) (by assumption) 0 (if_neg (show ¬ w (c + 3) (b - 1) = 6 by omega)).symm
    refine r_bipush (pc := 103) (n := 6) dX0_divide_103 (by decide) ?_
    refine r_goto (pc := 105) (tgt := 109) dX0_divide_105 rfl ?_
    exact cut109 _ _ _ _ _ (by assumption) (by omega) hh E78 (f87.tr f92) (by rw [e92, e87]; rfl) (by assumption) 6 (if_pos (show w (c + 3) (b - 1) = 6 by omega)).symm
  refine r_aload_n (pc := 0) dX0_divide_0 rfl ?_
  refine g_X0_25 (pc := 1) rfl dX0_divide_1 (by first | assumption | rfl) ?_
  refine r_iload_n (pc := 4) dX0_divide_4 rfl ?_
  refine r_iconst (pc := 5) (n := 1) dX0_divide_5 ?_
  refine r_isub (pc := 6) dX0_divide_6 ?_
  refine c_X0_53 (pc := 7) rfl dX0_divide_7 (by omega) (Nat.le_of_ble_eq_true rfl) ?_
  refine m_X11_at (d - 1) (by omega) (by assumption) (n := 24) (by assumption) (by omega) (by omega) (fun r7 e7 b7 => ?_)
  rw [gA_in (by omega) (by omega)] at e7
  refine r_bipush (pc := 10) (n := 6) dX0_divide_10 (by decide) ?_
  refine r_icmpne (pc := 12) (tgt := 19) dX0_divide_12 rfl (by omega) (by omega) (fun h12 => ?_) (fun h12 => ?_)
  · refine r_iconst (pc := 19) (n := 0) dX0_divide_19 ?_
    refine r_istore3 (pc := 20) dX0_divide_20 rfl ?_
    refine r_iload_n (pc := 21) dX0_divide_21 rfl ?_
    refine r_ifeq (pc := 22) (tgt := 38) dX0_divide_22 rfl (by omega) (fun h22 => ?_) (fun h22 => ?_)
    · refine r_aload_n (pc := 38) dX0_divide_38 rfl ?_
      refine r_iload_n (pc := 39) dX0_divide_39 rfl ?_
      refine c_X0_85 (pc := 40) rfl dX0_divide_40 (by first | assumption | rfl) (by omega) (Nat.le_of_ble_eq_true rfl) ?_
      refine m_X0_partsAt (d - 1) (by omega) (by assumption) (by assumption) (by assumption) (by omega) (fun r40 e40 b40 => ?_)
      refine c_X0_88 (pc := 43) rfl dX0_divide_43 (by omega) (Nat.le_of_ble_eq_true rfl) ?_
      refine m_X11_nearestValue (d - 1) (by omega) (by assumption) (by omega) (fun r43 e43 b43 => ?_)
      exact cut46 _ _ (by omega) (by omega) (by rw [e43, e40]; exact (if_neg (show ¬ w (c + 3) (b - 1) = 6 by omega)).symm)
    refine r_aload_n (pc := 25) dX0_divide_25 rfl ?_
    refine g_X0_22 (pc := 26) rfl dX0_divide_26 (by first | assumption | rfl) ?_
    refine r_iload_n (pc := 29) dX0_divide_29 rfl ?_
    refine r_iconst (pc := 30) (n := 1) dX0_divide_30 ?_
    refine r_isub (pc := 31) dX0_divide_31 ?_
    refine c_X0_53 (pc := 32) rfl dX0_divide_32 (by omega) (Nat.le_of_ble_eq_true rfl) ?_
    refine m_X11_at (d - 1) (by omega) (by assumption) (n := 24) (by assumption) (by omega) (by omega) (fun r32 e32 b32 => ?_)
    rw [gA_in (by omega) (by omega)] at e32
    refine r_goto (pc := 35) (tgt := 46) dX0_divide_35 rfl ?_
    exact cut46 _ _ (by omega) (by omega) (by rw [e32]; exact (if_pos (show w (c + 3) (b - 1) = 6 by omega)).symm)
  refine r_iconst (pc := 15) (n := 1) dX0_divide_15 ?_
  refine r_goto (pc := 16) (tgt := 20) dX0_divide_16 rfl ?_
  refine r_istore3 (pc := 20) dX0_divide_20 rfl ?_
  refine r_iload_n (pc := 21) dX0_divide_21 rfl ?_
  refine r_ifeq (pc := 22) (tgt := 38) dX0_divide_22 rfl (by omega) (fun h22 => ?_) (fun h22 => ?_)
  · refine r_aload_n (pc := 38) dX0_divide_38 rfl ?_
    refine r_iload_n (pc := 39) dX0_divide_39 rfl ?_
    refine c_X0_85 (pc := 40) rfl dX0_divide_40 (by first | assumption | rfl) (by omega) (Nat.le_of_ble_eq_true rfl) ?_
    refine m_X0_partsAt (d - 1) (by omega) (by assumption) (by assumption) (by assumption) (by omega) (fun r40 e40 b40 => ?_)
    refine c_X0_88 (pc := 43) rfl dX0_divide_43 (by omega) (Nat.le_of_ble_eq_true rfl) ?_
    refine m_X11_nearestValue (d - 1) (by omega) (by assumption) (by omega) (fun r43 e43 b43 => ?_)
    exact cut46 _ _ (by omega) (by omega) (by rw [e43, e40]; exact (if_neg (show ¬ w (c + 3) (b - 1) = 6 by omega)).symm)
  refine r_aload_n (pc := 25) dX0_divide_25 rfl ?_
  refine g_X0_22 (pc := 26) rfl dX0_divide_26 (by first | assumption | rfl) ?_
  refine r_iload_n (pc := 29) dX0_divide_29 rfl ?_
  refine r_iconst (pc := 30) (n := 1) dX0_divide_30 ?_
  refine r_isub (pc := 31) dX0_divide_31 ?_
  refine c_X0_53 (pc := 32) rfl dX0_divide_32 (by omega) (Nat.le_of_ble_eq_true rfl) ?_
  refine m_X11_at (d - 1) (by omega) (by assumption) (n := 24) (by assumption) (by omega) (by omega) (fun r32 e32 b32 => ?_)
  rw [gA_in (by omega) (by omega)] at e32
  refine r_goto (pc := 35) (tgt := 46) dX0_divide_35 rfl ?_
  exact cut46 _ _ (by omega) (by omega) (by rw [e32]; exact (if_pos (show w (c + 3) (b - 1) = 6 by omega)).symm)
