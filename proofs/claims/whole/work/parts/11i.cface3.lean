/-! the class's calls, on: the map, baking, reducing -/
theorem CEV.bk {X Y : CP} (e : CEV X Y) (h0 : 0 ≤ X 0 0) {g h : Int → Int} {a b d : Int} (hab : a ≤ b) (hg : ∀ j : Int, 0 ≤ j → j < (b - a) / d + 1 → g j = h j) : CEV (bkX X g a b d) (bkX Y h a b d) := by
  have m := kbX_mono h0 (show a ≤ b + 1 by omega)
  have K := kbX_KB h0 a
  have L := kbX_KB h0 (b + 1)
  have l0 := L.2.1
  have k0 := K.1
  have D : CEV (dlX X (kbX X (b + 1)) (kbX X (b + 1) - kbX X a)) (dlX Y (kbX Y (b + 1)) (kbX Y (b + 1) - kbX Y a)) := by
    rw [← kbX_cg e, ← kbX_cg e]
    exact e.dl (by omega)
  unfold bkX
  rw [inN_cg (g := g) (h := h) _ (fun j hj => hg j (by omega) (by omega))]
  exact (D.inn (by rw [dlX_n]; omega) _).1
theorem CI_bk {X : CP} (h : CI X) {g : Int → Int} {a b e : Int} (hab : 0 ≤ a ∧ a ≤ b ∧ b ≤ 480) (he : 1 ≤ e) (hf : ouN X a b + ((b - a) / e + 1) ≤ 24) (hg : ∀ j : Int, 0 ≤ j → j < (b - a) / e + 1 → -999 ≤ g j ∧ g j ≤ 999) : CI (bkX X g a b e) := by
  have m := kbX_mono h.1.1 (show a ≤ b + 1 by omega)
  have K := kbX_KB h.1.1 a
  have L := kbX_KB h.1.1 (b + 1)
  have l0 := L.2.1
  have k0 := K.1
  have s0 := steps_bd (a := a) (b := b) (e := e) hab.2.1 (by omega) he
  unfold ouN at hf
  refine (inN_ok (dlX_CI h (b := kbX X (b + 1)) (i := kbX X (b + 1) - kbX X a) (by omega) (by omega)) (dlX_sep h) hab.1 hab.2.2 he _ (by rw [dlX_n]; omega) (fun j hj => ⟨?_, hg j (by omega) (by omega)⟩)).1
  have := steps_mul (x := b - a) (i := j) he (by omega)
  omega
theorem bkX_n {X : CP} {g : Int → Int} {a b e : Int} (h : 0 ≤ (b - a) / e) : bkX X g a b e 0 0 = ouN X a b + ((b - a) / e + 1) := by
  unfold bkX ouN
  rw [inN_n, dlX_n]
  omega
theorem ouN_cg {X Y : CP} (e : CEV X Y) (a b : Int) : ouN X a b = ouN Y a b := by
  unfold ouN
  rw [e.1, kbX_cg e, kbX_cg e]
theorem CLG.mx {G : GS} {w : Wd} (hG : GOK G) (h : CLG G w) (f : Int) : G.now.f.2 (fun c b => valS (cx w (2 + 8 + 6 * c.toNat)) (max 0 (f - b))) = mixS G f := by
  refine GE_cg hG.1.2.1 (fun c b c0 c3 b0 => ?_)
  have e := (h.1.1 c.toNat (by omega)).1
  rw [show ((c.toNat : Nat) : Int) = c by omega] at e
  exact valS_cg (h.1.1 c.toNat (by omega)).2 e.sy _
theorem map_up4 {w : Wd} {n a b x j : Int} : (up (up (up w (3 + 1) n a) (3 + 2) n b) 3 0 x) 4 j = if j = n then a else w 4 j := by
  rw [up_ne (show (4 : Nat) ≠ 3 by omega), up_ne (show (4 : Nat) ≠ 3 + 2 by omega)]
  by_cases z : j = n
  · rw [z, if_pos rfl]; exact up_hit
  · rw [if_neg z]; exact up_off (by omega)
theorem map_up5 {w : Wd} {n a b x j : Int} : (up (up (up w (3 + 1) n a) (3 + 2) n b) 3 0 x) 5 j = if j = n then b else w 5 j := by
  rw [up_ne (show (5 : Nat) ≠ 3 by omega)]
  by_cases z : j = n
  · rw [z, if_pos rfl]; exact up_hit
  · rw [if_neg z, up_off (by omega), up_ne (by omega)]
theorem rnV_bd (x : Int) : -999 ≤ rnV x ∧ rnV x ≤ 999 := lim_bd _ (by omega)
theorem chC_s {X : CP} {F : Int → Int} {m : Nat} : chC X F (m + 1) = chC X F m + (if F (X 1 m) = X 1 m then 0 else 1) := rfl
theorem chC_cg {X Y : CP} (e : CEV X Y) (F : Int → Int) : ∀ k : Nat, (k : Int) ≤ X 0 0 → chC X F k = chC Y F k
  | 0, _ => rfl
  | k + 1, hk => by
    unfold chC
    rw [chC_cg e F k (by omega), e.row (r := 1) (j := k) (by omega) (by omega) (by omega) (by omega)]
theorem CEV.dec2 {X Y : CP} (e : CEV X Y) (h : CI Y) (t : Int) : CEV (decX X t) (decX Y t) := (CEV.dec h e.sy t).sy
set_option maxRecDepth 8000 in
theorem x_addPoint {Q : Option AV → Wd → Prop} {w : Wd} (d : Nat) {G : GS} {a b : Int} (hd : 6 ≤ d) (hw : WR w) (hG : GOK G) (hC : CLG G w) (ra : R32 a) (rb : R32 b) (hQ : ∀ r w2, r = (o_addPoint G a b).1 → CLG (o_addPoint G a b).2 w2 → FRL w w2 → WR w2 → Q (some (vI r)) w2) : M mX11_addPoint (Rm d) [vR (some 1), vI a, vI b] (fl w) (lQ Q) := by
  have hr34 := CLG.hr hG hC
  have MI3 := CLG.mi hG hC
  have e3 : w 3 0 = G.now.n := hC.1.2.1
  have P3 := hC.1.2.2.1
  have M0 := hG.1.1
  have n0 := M0.1
  have n8 := M0.2.1
  refine f_mofv (L0 := [some (vR (some 1)), some (vI a), some (vI b), none]) rfl (Nat.le_of_ble_eq_true rfl) rfl ?_
  refine r_aload_n (pc := 0) dX11_addPoint_0 rfl ?_
  refine h_X11_10 (pc := 1) rfl dX11_addPoint_1 ?_
  refine h_X11_168 (pc := 4) rfl dX11_addPoint_4 ?_
  refine r_astore3 (pc := 7) dX11_addPoint_7 rfl ?_
  refine r_iload_n (pc := 8) dX11_addPoint_8 rfl ?_
  refine r_iconst (pc := 9) (n := 0) dX11_addPoint_9 ?_
  refine r_sipush (pc := 10) (n := 480) dX11_addPoint_10 (by decide) ?_
  refine c_X11_74 (pc := 13) rfl dX11_addPoint_13 (by omega) (Nat.le_of_ble_eq_true rfl) ?_
  refine m_X11_within (d - 1) (by omega) (by assumption) (by omega) (by omega) (by omega) (fun r13 e13 b13 => ?_)
  have i13 := b2i_i e13
  refine r_ifeq (pc := 16) (tgt := 39) dX11_addPoint_16 rfl (by omega) (fun h16 => ?_) (fun h16 => ?_)
  · have o : o_addPoint G a b = (-1000000002, G) := by
      unfold o_addPoint
      rw [if_pos (by omega)]
    refine r_ldc (pc := 39) (n := -1000000002) dX11_addPoint_39 kw_X11_78 rfl ?_
    exact f_iret (pc := 41) dX11_addPoint_41 rfl (by assumption) (hQ _ _ (fst_e o (by omega)) (snd_e o hC) (FRL.rf w) (by assumption))
  refine r_iload_n (pc := 19) dX11_addPoint_19 rfl ?_
  refine r_iconst (pc := 20) (n := 0) dX11_addPoint_20 ?_
  refine r_sipush (pc := 21) (n := 480) dX11_addPoint_21 (by decide) ?_
  refine c_X11_74 (pc := 24) rfl dX11_addPoint_24 (by omega) (Nat.le_of_ble_eq_true rfl) ?_
  refine m_X11_within (d - 1) (by omega) (by assumption) (by omega) (by omega) (by omega) (fun r24 e24 b24 => ?_)
  have i24 := b2i_i e24
  refine r_ifeq (pc := 27) (tgt := 39) dX11_addPoint_27 rfl (by omega) (fun h27 => ?_) (fun h27 => ?_)
  · have o : o_addPoint G a b = (-1000000002, G) := by
      unfold o_addPoint
      rw [if_pos (by omega)]
    refine r_ldc (pc := 39) (n := -1000000002) dX11_addPoint_39 kw_X11_78 rfl ?_
    exact f_iret (pc := 41) dX11_addPoint_41 rfl (by assumption) (hQ _ _ (fst_e o (by omega)) (snd_e o hC) (FRL.rf w) (by assumption))
  refine r_aload_n (pc := 30) dX11_addPoint_30 rfl ?_
  refine r_iload_n (pc := 31) dX11_addPoint_31 rfl ?_
  refine r_iload_n (pc := 32) dX11_addPoint_32 rfl ?_
  refine c_X11_172 (pc := 33) rfl dX11_addPoint_33 (by first | assumption | rfl) (by omega) (Nat.le_of_ble_eq_true rfl) ?_
  refine m_X10_canFollow (c := 3) (d - 1) (by omega) (by assumption) (show sh 3 = 10 from rfl) MI3 (by omega) (by omega) (fun r33 e33 b33 => ?_)
  have i33 := b2i_i e33
  have PL : G.now.n ≠ 0 → w (3 + 1) (w 3 0 - 1) = G.now.s (G.now.n - 1) ∧ w (3 + 2) (w 3 0 - 1) = G.now.g (G.now.n - 1) := fun z => by rw [e3]; exact P3 _ (by omega) (by omega)
  have i33 : ((G.now.n = 0 ∨ (a > G.now.s (G.now.n - 1) ∧ b > G.now.g (G.now.n - 1))) ∧ r33 = 1) ∨ (¬ (G.now.n = 0 ∨ (a > G.now.s (G.now.n - 1) ∧ b > G.now.g (G.now.n - 1))) ∧ r33 = 0) := by
    by_cases z : G.now.n = 0
    · omega
    · have := PL z
      omega
  clear PL e33
  refine r_ifne (pc := 36) (tgt := 42) dX11_addPoint_36 rfl (by omega) (fun h36 => ?_) (fun h36 => ?_)
  · refine r_aload_n (pc := 42) dX11_addPoint_42 rfl ?_
    refine h_X11_178 (pc := 43) rfl dX11_addPoint_43 (by assumption) (fun h43 => ?_)
    refine r_bipush (pc := 46) (n := 8) dX11_addPoint_46 (by decide) ?_
    refine r_icmplt (pc := 48) (tgt := 54) dX11_addPoint_48 rfl (by omega) (by omega) (fun h48 => ?_) (fun h48 => ?_)
    · refine r_aload_n (pc := 54) dX11_addPoint_54 rfl ?_
      refine h_X11_19 (pc := 55) rfl dX11_addPoint_55 ?_
      refine r_aload_n (pc := 58) dX11_addPoint_58 rfl ?_
      refine h_X11_10 (pc := 59) rfl dX11_addPoint_59 ?_
      refine c_X11_90 (pc := 62) rfl dX11_addPoint_62 (by first | assumption | rfl) (by omega) (Nat.le_of_ble_eq_true rfl) ?_
      refine m_X5_record (d - 1) (by omega) (by assumption) hr34 (SCL.sn hC.1) (fun w62 rec62 hw62 => ?_)
      obtain ⟨C62, F62⟩ := CLG_rec hG hC rec62
      have FL62 : FRL w w62 := fun p e => F62 p (by omega) (by omega)
      have c3 : w62 3 0 = G.now.n := by rw [F62 3 (by omega) (by omega)]; exact e3
      refine r_aload_n (pc := 65) dX11_addPoint_65 rfl ?_
      refine r_iload_n (pc := 66) dX11_addPoint_66 rfl ?_
      refine r_iload_n (pc := 67) dX11_addPoint_67 rfl ?_
      refine c_X11_179 (pc := 68) rfl dX11_addPoint_68 (by first | assumption | rfl) (by omega) (Nat.le_of_ble_eq_true rfl) ?_
      refine m_X10_add (c := 3) (d - 1) (by omega) (by assumption) (show sh 3 = 10 from rfl) (by omega) (by omega) (by omega) (fun w68 e68 hw68 => ?_)
      rw [c3] at e68
      have o : o_addPoint G a b = (G.now.n + 1, setM (recG G) (G.now.n + 1) (updI G.now.s G.now.n a) (updI G.now.g G.now.n b)) := by
        unfold o_addPoint
        rw [if_neg (by omega), if_neg (by omega)]
      have C68 := CLG_map (w2 := w68) (n := G.now.n + 1) (s := updI G.now.s G.now.n a) (g := updI G.now.g G.now.n b) C62 (fun p a b c => by rw [e68]; exact (up_ne a).trans ((up_ne c).trans (up_ne b))) (by rw [e68, up_hit]) (fun j j0 j1 => by
        rw [e68, map_up4, map_up5]
        unfold updI
        by_cases z : j = G.now.n
        · rw [if_pos z, if_pos z, if_pos z, if_pos z]
          exact ⟨rfl, rfl⟩
        · rw [if_neg z, if_neg z, if_neg z, if_neg z, F62 4 (by omega) (by omega), F62 5 (by omega) (by omega)]
          exact P3 j j0 (by omega))
      refine r_aload_n (pc := 71) dX11_addPoint_71 rfl ?_
      refine h_X11_178 (pc := 72) rfl dX11_addPoint_72 (by assumption) (fun h72 => ?_)
      exact f_iret (pc := 75) dX11_addPoint_75 rfl (by assumption) (hQ _ _ (fst_e o (by rw [e68, up_hit])) (snd_e o C68) (FL62.tr (fun p e => by rw [e68, up_ne (by omega), up_ne (by omega), up_ne (by omega)])) (by assumption))
    have o : o_addPoint G a b = (-1000000003, G) := by
      unfold o_addPoint
      rw [if_neg (by omega), if_pos (by omega)]
    refine r_ldc (pc := 51) (n := -1000000003) dX11_addPoint_51 kw_X11_89 rfl ?_
    exact f_iret (pc := 53) dX11_addPoint_53 rfl (by assumption) (hQ _ _ (fst_e o (by omega)) (snd_e o hC) (FRL.rf w) (by assumption))
  have o : o_addPoint G a b = (-1000000002, G) := by
    unfold o_addPoint
    rw [if_pos (by omega)]
  refine r_ldc (pc := 39) (n := -1000000002) dX11_addPoint_39 kw_X11_78 rfl ?_
  exact f_iret (pc := 41) dX11_addPoint_41 rfl (by assumption) (hQ _ _ (fst_e o (by omega)) (snd_e o hC) (FRL.rf w) (by assumption))
set_option maxRecDepth 8000 in
theorem x_clearMap {Q : Option AV → Wd → Prop} {w : Wd} (d : Nat) {G : GS} (hd : 6 ≤ d) (hw : WR w) (hG : GOK G) (hC : CLG G w) (hQ : ∀ r w2, r = (o_clearMap G).1 → CLG (o_clearMap G).2 w2 → FRL w w2 → WR w2 → Q (some (vI r)) w2) : M mX11_clearMap (Rm d) [vR (some 1)] (fl w) (lQ Q) := by
  have hr34 := CLG.hr hG hC
  have MI3 := CLG.mi hG hC
  have e3 : w 3 0 = G.now.n := hC.1.2.1
  have P3 := hC.1.2.2.1
  have M0 := hG.1.1
  refine f_mofv (L0 := [some (vR (some 1)), none]) rfl (Nat.le_of_ble_eq_true rfl) rfl ?_
  refine r_aload_n (pc := 0) dX11_clearMap_0 rfl ?_
  refine h_X11_19 (pc := 1) rfl dX11_clearMap_1 ?_
  refine r_aload_n (pc := 4) dX11_clearMap_4 rfl ?_
  refine h_X11_10 (pc := 5) rfl dX11_clearMap_5 ?_
  refine c_X11_90 (pc := 8) rfl dX11_clearMap_8 (by first | assumption | rfl) (by omega) (Nat.le_of_ble_eq_true rfl) ?_
  refine m_X5_record (d - 1) (by omega) (by assumption) hr34 (SCL.sn hC.1) (fun w8 rec8 hw8 => ?_)
  obtain ⟨C8, F8⟩ := CLG_rec hG hC rec8
  have FL8 : FRL w w8 := fun p e => F8 p (by omega) (by omega)
  have c3 : w8 3 0 = G.now.n := by rw [F8 3 (by omega) (by omega)]; exact e3
  refine r_aload_n (pc := 11) dX11_clearMap_11 rfl ?_
  refine h_X11_10 (pc := 12) rfl dX11_clearMap_12 ?_
  refine h_X11_168 (pc := 15) rfl dX11_clearMap_15 ?_
  refine h_X11_178 (pc := 18) rfl dX11_clearMap_18 (by assumption) (fun h18 => ?_)
  refine r_istore1 (pc := 21) dX11_clearMap_21 rfl ?_
  refine r_aload_n (pc := 22) dX11_clearMap_22 rfl ?_
  refine h_X11_10 (pc := 23) rfl dX11_clearMap_23 ?_
  refine h_X11_168 (pc := 26) rfl dX11_clearMap_26 ?_
  refine r_iconst (pc := 29) (n := 0) dX11_clearMap_29 ?_
  refine ph_X11_178 (pc := 30) rfl dX11_clearMap_30 (by assumption) (by omega) (fun hw30 => ?_)
  refine r_iload_n (pc := 33) dX11_clearMap_33 rfl ?_
  exact f_iret (pc := 34) dX11_clearMap_34 rfl (by assumption) (hQ _ _ (show _ = G.now.n from c3) (show CLG (setM (recG G) 0 G.now.s G.now.g) _ from CLG_map C8 (fun p a b c => up_ne a) up_hit (fun j j0 j1 => by omega)) (FL8.tr (fun p e => up_ne (by omega))) (by assumption))
set_option maxRecDepth 8000 in
theorem x_mapped {Q : Option AV → Wd → Prop} {w : Wd} (d : Nat) {G : GS} {f : Int} (hd : 4 ≤ d) (hw : WR w) (hG : GOK G) (hC : CLG G w) (rf : R32 f) (hQ : ∀ r, r = o_mapped G f → Q (some (vI r)) w) : M mX11_mapped (Rm d) [vR (some 1), vI f] (fl w) (lQ Q) := by
  have hr34 := CLG.hr hG hC
  have MI3 := CLG.mi hG hC
  have e3 : w 3 0 = G.now.n := hC.1.2.1
  have P3 := hC.1.2.2.1
  have M0 := hG.1.1
  refine f_mofv (L0 := [some (vR (some 1)), some (vI f)]) rfl (Nat.le_of_ble_eq_true rfl) rfl ?_
  refine r_iload_n (pc := 0) dX11_mapped_0 rfl ?_
  refine r_iconst (pc := 1) (n := 0) dX11_mapped_1 ?_
  refine r_sipush (pc := 2) (n := 480) dX11_mapped_2 (by decide) ?_
  refine c_X11_74 (pc := 5) rfl dX11_mapped_5 (by omega) (Nat.le_of_ble_eq_true rfl) ?_
  refine m_X11_within (d - 1) (by omega) (by assumption) (by omega) (by omega) (by omega) (fun r5 e5 b5 => ?_)
  have i5 := b2i_i e5
  refine r_ifeq (pc := 8) (tgt := 25) dX11_mapped_8 rfl (by omega) (fun h8 => ?_) (fun h8 => ?_)
  · refine r_ldc (pc := 25) (n := -1000000002) dX11_mapped_25 kw_X11_78 rfl ?_
    exact f_iret (pc := 27) dX11_mapped_27 rfl (by assumption) (hQ _ (by unfold o_mapped; rw [if_neg (by omega)]))
  refine r_aload_n (pc := 11) dX11_mapped_11 rfl ?_
  refine h_X11_10 (pc := 12) rfl dX11_mapped_12 ?_
  refine h_X11_168 (pc := 15) rfl dX11_mapped_15 ?_
  refine r_iload_n (pc := 18) dX11_mapped_18 rfl ?_
  refine c_X11_182 (pc := 19) rfl dX11_mapped_19 (by first | assumption | rfl) (by omega) (Nat.le_of_ble_eq_true rfl) ?_
  refine m_X10_send (c := 3) (d - 1) (by omega) (by assumption) (show sh 3 = 10 from rfl) MI3 (by omega) (fun r19 e19 b19 => ?_)
  have e19 : r19 = snF G f := e19.trans (CLG.sn hG hC f)
  refine r_goto (pc := 22) (tgt := 27) dX11_mapped_22 rfl ?_
  exact f_iret (pc := 27) dX11_mapped_27 rfl (by assumption) (hQ _ (by unfold o_mapped; rw [if_pos (by omega)]; exact e19))
set_option maxRecDepth 8000 in
theorem x_retime_k {Q : Option AV → Wd → Prop} {w : Wd} (d : Nat) {G : GS} {q : Nat} (hd : 8 ≤ d) (hw : WR w) (hG : GOK G) (hC : CLG G w) (hq4 : q < 4) (hQ : ∀ r w2, r = (o_retime G q).1 → CLG (o_retime G q).2 w2 → FRL w w2 → WR w2 → Q (some (vI r)) w2) : M mX11_retime (Rm d) [vR (some 1), vI q] (fl w) (lQ Q) := by
  have hr34 := CLG.hr hG hC
  have CV := hC.cv hq4
  have I0 := hC.ci hq4
  have sq0 : sh (2 + 8 + 6 * q) = 0 := (sh_sta (c := 2) rfl).2.2.2 q hq4
  obtain ⟨s1, s2, s3, s4, s5⟩ := sh_curve sq0
  have hn : 0 ≤ w (2 + 8 + 6 * q) 0 ∧ w (2 + 8 + 6 * q) 0 ≤ 24 := I0.1
  have eN : G.now.c q 0 0 = w (2 + 8 + 6 * q) 0 := CV.1
  have iq : inC (q : Int) := ⟨by omega, by omega⟩
  have MI3 := CLG.mi hG hC
  have e3 : w 3 0 = G.now.n := hC.1.2.1
  have P3 := hC.1.2.2.1
  have M0 := hG.1.1
  refine f_mofv (L0 := [some (vR (some 1)), some (vI q), none, none, none, none, none, none]) rfl (Nat.le_of_ble_eq_true rfl) rfl ?_
  have loop24 : ∀ n0 : Nat, ∀ k : Nat, (w (2 + 8 + 6 * q) 0 - k).toNat = n0 → (k : Int) ≤ w (2 + 8 + 6 * q) 0 → ∀ (w1 : Wd) (x y : Int) (o6 o7 : Option AV), (∀ j : Nat, j < k → w1 384 j = snF G ((cx w (2 + 8 + 6 * q)) 1 j) ∧ (0 ≤ snF G ((cx w (2 + 8 + 6 * q)) 1 j) ∧ snF G ((cx w (2 + 8 + 6 * q)) 1 j) ≤ 480) ∧ (0 < j → snF G ((cx w (2 + 8 + 6 * q)) 1 ((j : Int) - 1)) < snF G ((cx w (2 + 8 + 6 * q)) 1 j))) → x = chC (cx w (2 + 8 + 6 * q)) (snF G) k → y = (if k = 0 then -1 else snF G ((cx w (2 + 8 + 6 * q)) 1 ((k : Int) - 1))) → R32 y → (∀ p, p ≠ 384 → w1 p = w p) → WR w1 → V mX11_retime (Rm d) 0 0 24 [some (vR (some 1)), some (vI q), some (vR (some (2 + 8 + 6 * q))), some (vI x), some (vI y), some (vI k), o6, o7] [] (fl w1) (lQ Q) := by
    refine ind_lt ?_
    intro n0 ih k hm hk w1 x y o6 o7 hp hx hy ry hf hw1
    have CC : CLG G w1 := CLG_all hC (fun p e => hf p (by omega))
    refine r_iload (pc := 24) dX11_retime_24 rfl ?_
    refine r_aload_n (pc := 26) dX11_retime_26 rfl ?_
    refine g_X11_85 (pc := 27) rfl dX11_retime_27 (by assumption) (by first | assumption | rfl) (fun h27 => ?_)
    rw [hf (2 + 8 + 6 * q) (by omega)] at h27 ⊢
    refine r_icmpge (pc := 30) (tgt := 116) dX11_retime_30 rfl (by omega) (by omega) (fun h30 => ?_) (fun h30 => ?_)
    · refine r_aload_n (pc := 116) dX11_retime_116 rfl ?_
      refine h_X11_19 (pc := 117) rfl dX11_retime_117 ?_
      refine r_aload_n (pc := 120) dX11_retime_120 rfl ?_
      refine h_X11_10 (pc := 121) rfl dX11_retime_121 ?_
      refine c_X11_90 (pc := 124) rfl dX11_retime_124 (by first | assumption | rfl) (by omega) (Nat.le_of_ble_eq_true rfl) ?_
      have RT : rtO (G.now.c q) (snF G) := fun j hj => by
        have h := hp j (by omega)
        have a1 := CV.row (r := 1) (j := j) (by omega) (by omega) (by omega) (by omega)
        rw [a1]
        refine ⟨h.2.1, fun j0 => ?_⟩
        rw [CV.row (r := 1) (j := (j : Int) - 1) (by omega) (by omega) (by omega) (by omega)]
        exact h.2.2 j0
      have hr341 := CLG.hr hG CC
      refine m_X5_record (d - 1) (by omega) (by assumption) hr341 (SCL.sn CC.1) (fun w124 rec124 hw124 => ?_)
      obtain ⟨C124, F124⟩ := CLG_rec hG CC rec124
      obtain ⟨E124, I124, V124⟩ := rec_cur hq4 CC F124
      refine r_aload_n (pc := 127) dX11_retime_127 rfl ?_
      refine r_aload_n (pc := 128) dX11_retime_128 rfl ?_
      refine h_X11_10 (pc := 129) rfl dX11_retime_129 ?_
      refine h_X11_168 (pc := 132) rfl dX11_retime_132 ?_
      refine r_aload_n (pc := 135) dX11_retime_135 rfl ?_
      refine h_X11_65 (pc := 136) rfl dX11_retime_136 ?_
      refine c_X11_185 (pc := 139) rfl dX11_retime_139 (by first | assumption | rfl) (by omega) (Nat.le_of_ble_eq_true rfl) ?_
      have M124 := CLG.mi (GOK_rec hG) C124
      refine m_X0_retimeKeys (m := 3) (p := 384) (d - 1) (by omega) (by assumption) sq0 (show sh 3 = 10 from rfl) (show sh 384 = 1000 + 24 from rfl) (by omega) (by omega) I124 M124 (fun w139 f139 e139 hw139 => ?_)
      have G124 : ∀ j, 0 ≤ j → j < G.now.c q 0 0 → w124 384 j = sndS G.now.n G.now.s G.now.g (G.now.c q 1 j) := fun j j0 j1 => by
        rw [F124 384 (by omega) (by omega), CV.row (r := 1) (j := j) (by omega) (by omega) j0 j1]
        have h := (hp j.toNat (by omega)).1
        rw [show ((j.toNat : Nat) : Int) = j by omega] at h
        exact h
      have R139 : CEV (rtX (G.now.c q) G.now) (cx w139 (2 + 8 + 6 * q)) := by
        rw [e139]
        exact V124.ret hG.1.1 C124.1.2.1 C124.1.2.2.1 G124
      have D139 : CI (cx w139 (2 + 8 + 6 * q)) := by
        rw [e139]
        have n124 : cx w124 (2 + 8 + 6 * q) 0 0 = G.now.c q 0 0 := V124.1.symm
        refine CI_ret I124 (fun j j0 j1 => ?_) (fun j j0 j1 => ?_)
        · have h := hp j.toNat (by omega)
          rw [show ((j.toNat : Nat) : Int) = j by omega] at h
          rw [F124 384 (by omega) (by omega), h.1]
          exact h.2.1
        · have h := hp j.toNat (by omega)
          have h2 := hp (j - 1).toNat (by omega)
          rw [show ((j.toNat : Nat) : Int) = j by omega] at h
          rw [show (((j - 1).toNat : Nat) : Int) = j - 1 by omega] at h2
          rw [F124 384 (by omega) (by omega), h.1, h2.1]
          exact h.2.2 (by omega)
      have C139 := CLG_cur (w2 := w139) (X := rtX (G.now.c q) G.now) hq4 C124 (fun p a b => f139 p (by omega)) R139 D139
      have o : o_retime G q = (chC (G.now.c q) (snF G) (G.now.c q 0 0).toNat, setC (recG G) q (rtX (G.now.c q) G.now)) := by
        unfold o_retime
        rw [if_neg (fun z => z iq), if_neg (fun z => z RT)]
      refine r_iload_n (pc := 142) dX11_retime_142 rfl ?_
      exact f_iret (pc := 143) dX11_retime_143 rfl (by assumption) (hQ _ _ (fst_e o (by rw [hx, show (G.now.c q 0 0).toNat = k by omega]; exact (chC_cg CV (snF G) k (by omega)).symm)) (snd_e o C139) (fun p e => by rw [f139 p (by omega), F124 p (by omega) (by omega), hf p (by omega)]) (by assumption))
    have hk2 : (k : Int) < cx w (2 + 8 + 6 * q) 0 0 := by show (k : Int) < w (2 + 8 + 6 * q) 0; omega
    refine r_aload_n (pc := 33) dX11_retime_33 rfl ?_
    refine g_X11_151 (pc := 34) rfl dX11_retime_34 (by first | assumption | rfl) ?_
    refine r_iload (pc := 37) dX11_retime_37 rfl ?_
    refine c_X11_117 (pc := 39) rfl dX11_retime_39 (by omega) (Nat.le_of_ble_eq_true rfl) ?_
    refine m_X11_at (d - 1) (by omega) (by assumption) (n := 24) s1 (by omega) (by omega) (fun r39 e39 b39 => ?_)
    rw [gA_in (by omega) (by omega), hf (2 + 8 + 6 * q + 1) (by omega)] at e39
    have P39 := I0.2.1 k (by omega) hk2
    have f39 : r39 = (cx w (2 + 8 + 6 * q)) 1 k := e39
    refine r_istore6 (pc := 42) dX11_retime_42 rfl ?_
    refine r_aload_n (pc := 44) dX11_retime_44 rfl ?_
    refine h_X11_10 (pc := 45) rfl dX11_retime_45 ?_
    refine h_X11_168 (pc := 48) rfl dX11_retime_48 ?_
    refine r_iload (pc := 51) dX11_retime_51 rfl ?_
    refine c_X11_182 (pc := 53) rfl dX11_retime_53 (by first | assumption | rfl) (by omega) (Nat.le_of_ble_eq_true rfl) ?_
    have MI1 := CLG.mi hG CC
    refine m_X10_send (c := 3) (d - 1) (by omega) (by assumption) (show sh 3 = 10 from rfl) MI1 (by omega) (fun r53 e53 b53 => ?_)
    have e53 := e53.trans (CLG.sn hG CC r39)
    rw [f39] at e53
    refine r_istore7 (pc := 56) dX11_retime_56 rfl ?_
    refine r_iload (pc := 58) dX11_retime_58 rfl ?_
    refine r_iconst (pc := 60) (n := 0) dX11_retime_60 ?_
    refine r_sipush (pc := 61) (n := 480) dX11_retime_61 (by decide) ?_
    refine c_X11_74 (pc := 64) rfl dX11_retime_64 (by omega) (Nat.le_of_ble_eq_true rfl) ?_
    refine m_X11_within (d - 1) (by omega) (by assumption) (by omega) (by omega) (by omega) (fun r64 e64 b64 => ?_)
    have i64 := b2i_i e64
    refine r_ifeq (pc := 67) (tgt := 77) dX11_retime_67 rfl (by omega) (fun h67 => ?_) (fun h67 => ?_)
    · have o : o_retime G q = (-1000000004, G) := by
        unfold o_retime
        rw [if_neg (fun z => z iq), if_pos (fun z => ?_)]
        have h := z k (by omega)
        rw [CV.row (r := 1) (j := k) (by omega) (by omega) (by omega) (by omega)] at h
        by_cases k0 : k = 0
        · rw [if_pos k0] at hy
          omega
        · have h2 := h.2 (by omega)
          rw [CV.row (r := 1) (j := (k : Int) - 1) (by omega) (by omega) (by omega) (by omega)] at h2
          rw [if_neg k0] at hy
          omega
      refine r_ldc (pc := 77) (n := -1000000004) dX11_retime_77 kw_X11_109 rfl ?_
      exact f_iret (pc := 79) dX11_retime_79 rfl (by assumption) (hQ _ _ (fst_e o (by omega)) (snd_e o CC) (fun p e => hf p (by omega)) (by assumption))
    refine r_iload (pc := 70) dX11_retime_70 rfl ?_
    refine r_iload (pc := 72) dX11_retime_72 rfl ?_
    refine r_icmpgt (pc := 74) (tgt := 80) dX11_retime_74 rfl (by omega) (by omega) (fun h74 => ?_) (fun h74 => ?_)
    · refine r_aload_n (pc := 80) dX11_retime_80 rfl ?_
      refine h_X11_65 (pc := 81) rfl dX11_retime_81 ?_
      refine r_iload (pc := 84) dX11_retime_84 rfl ?_
      refine r_iload (pc := 86) dX11_retime_86 rfl ?_
      refine c_X11_101 (pc := 88) rfl dX11_retime_88 (by omega) (Nat.le_of_ble_eq_true rfl) ?_
      refine m_X11_put (d - 1) (by omega) (by assumption) (n := 24) (show sh 384 = 1000 + 24 from rfl) (by omega) (by omega) (by omega) (fun w88 e88 hw88 => ?_)
      rw [pA_in (by omega) (by omega)] at e88
      refine r_iload_n (pc := 91) dX11_retime_91 rfl ?_
      refine r_iload (pc := 92) dX11_retime_92 rfl ?_
      refine r_iload (pc := 94) dX11_retime_94 rfl ?_
      refine r_icmpne (pc := 96) (tgt := 103) dX11_retime_96 rfl (by omega) (by omega) (fun h96 => ?_) (fun h96 => ?_)
      · refine r_iconst (pc := 103) (n := 1) dX11_retime_103 ?_
        refine r_iadd (pc := 104) dX11_retime_104 ?_
        refine r_istore3 (pc := 105) dX11_retime_105 rfl ?_
        refine r_iload (pc := 106) dX11_retime_106 rfl ?_
        refine r_istore4 (pc := 108) dX11_retime_108 rfl ?_
        refine r_iinc5 (pc := 110) dX11_retime_110 rfl ?_
        refine r_goto (pc := 113) (tgt := 24) dX11_retime_113 rfl ?_
        exact ih _ (by omega) (k + 1) rfl (by omega) w88 _ _ _ _ (fun j hj => by
          rw [e88]
          by_cases z : j = k
          · subst z
            refine ⟨up_hit.trans e53, ⟨by omega, by omega⟩, fun y0 => ?_⟩
            rw [if_neg (by omega)] at hy
            omega
          · have h := hp j (by omega)
            refine ⟨?_, h.2⟩
            rw [up_off (by omega)]
            exact h.1) (by
          rw [hx, chC_s]
          first
          | rw [if_pos (by omega)]
          | rw [if_neg (by omega)]) (by rw [if_neg (by omega), show ((k + 1 : Nat) : Int) - 1 = k by omega]; exact e53) (by omega) (fun p e => by rw [e88, up_ne e]; exact hf p e) (by assumption)
      refine r_iconst (pc := 99) (n := 0) dX11_retime_99 ?_
      refine r_goto (pc := 100) (tgt := 104) dX11_retime_100 rfl ?_
      refine r_iadd (pc := 104) dX11_retime_104 ?_
      refine r_istore3 (pc := 105) dX11_retime_105 rfl ?_
      refine r_iload (pc := 106) dX11_retime_106 rfl ?_
      refine r_istore4 (pc := 108) dX11_retime_108 rfl ?_
      refine r_iinc5 (pc := 110) dX11_retime_110 rfl ?_
      refine r_goto (pc := 113) (tgt := 24) dX11_retime_113 rfl ?_
      exact ih _ (by omega) (k + 1) rfl (by omega) w88 _ _ _ _ (fun j hj => by
        rw [e88]
        by_cases z : j = k
        · subst z
          refine ⟨up_hit.trans e53, ⟨by omega, by omega⟩, fun y0 => ?_⟩
          rw [if_neg (by omega)] at hy
          omega
        · have h := hp j (by omega)
          refine ⟨?_, h.2⟩
          rw [up_off (by omega)]
          exact h.1) (by
        rw [hx, chC_s]
        first
        | rw [if_pos (by omega)]
        | rw [if_neg (by omega)]) (by rw [if_neg (by omega), show ((k + 1 : Nat) : Int) - 1 = k by omega]; exact e53) (by omega) (fun p e => by rw [e88, up_ne e]; exact hf p e) (by assumption)
    have o : o_retime G q = (-1000000004, G) := by
      unfold o_retime
      rw [if_neg (fun z => z iq), if_pos (fun z => ?_)]
      have h := z k (by omega)
      rw [CV.row (r := 1) (j := k) (by omega) (by omega) (by omega) (by omega)] at h
      by_cases k0 : k = 0
      · rw [if_pos k0] at hy
        omega
      · have h2 := h.2 (by omega)
        rw [CV.row (r := 1) (j := (k : Int) - 1) (by omega) (by omega) (by omega) (by omega)] at h2
        rw [if_neg k0] at hy
        omega
    refine r_ldc (pc := 77) (n := -1000000004) dX11_retime_77 kw_X11_109 rfl ?_
    exact f_iret (pc := 79) dX11_retime_79 rfl (by assumption) (hQ _ _ (fst_e o (by omega)) (snd_e o CC) (fun p e => hf p (by omega)) (by assumption))
  refine r_aload_n (pc := 0) dX11_retime_0 rfl ?_
  refine h_X11_10 (pc := 1) rfl dX11_retime_1 ?_
  refine r_iload_n (pc := 4) dX11_retime_4 rfl ?_
  refine c_X11_69 (pc := 5) rfl dX11_retime_5 (by first | assumption | rfl) (by omega) (Nat.le_of_ble_eq_true rfl) ?_
  refine m_X8_curveAt (q := q) (d - 1) (by omega) (by assumption) (show sh 2 = 8 from rfl) hq4 rfl ?_
  refine r_astore2 (pc := 8) dX11_retime_8 rfl ?_
  refine r_aload_n (pc := 9) dX11_retime_9 rfl ?_
  refine r_ifnonnull_s (pc := 10) (tgt := 16) dX11_retime_10 rfl ?_
  refine r_iconst (pc := 16) (n := 0) dX11_retime_16 ?_
  refine r_istore3 (pc := 17) dX11_retime_17 rfl ?_
  refine r_iconst (pc := 18) (n := (-1)) dX11_retime_18 ?_
  refine r_istore4 (pc := 19) dX11_retime_19 rfl ?_
  refine r_iconst (pc := 21) (n := 0) dX11_retime_21 ?_
  refine r_istore5 (pc := 22) dX11_retime_22 rfl ?_
  exact loop24 _ 0 rfl (by omega) w _ _ _ _ (fun j hj => absurd hj (Nat.not_lt_zero j)) rfl rfl (by omega) (fun _ _ => rfl) (by assumption)
set_option maxRecDepth 8000 in
theorem x_retime_b {Q : Option AV → Wd → Prop} {w : Wd} (d : Nat) {q : Int} (hd : 8 ≤ d) (hw : WR w) (hq : ¬ inC q) (rq : R32 q) (hQ : Q (some (vI (-1000000001))) w) : M mX11_retime (Rm d) [vR (some 1), vI q] (fl w) (lQ Q) := by
  have hq : ¬ (0 ≤ q ∧ q ≤ 3) := hq
  refine f_mofv (L0 := [some (vR (some 1)), some (vI q), none, none, none, none, none, none]) rfl (Nat.le_of_ble_eq_true rfl) rfl ?_
  refine r_aload_n (pc := 0) dX11_retime_0 rfl ?_
  refine h_X11_10 (pc := 1) rfl dX11_retime_1 ?_
  refine r_iload_n (pc := 4) dX11_retime_4 rfl ?_
  refine c_X11_69 (pc := 5) rfl dX11_retime_5 (by first | assumption | rfl) (by omega) (Nat.le_of_ble_eq_true rfl) ?_
  refine m_X8_curveAtN (d - 1) (by omega) (by assumption) (show sh 2 = 8 from rfl) (by omega) (by omega) ?_
  refine r_astoreN2 (pc := 8) dX11_retime_8 rfl ?_
  refine r_aload_nN (pc := 9) dX11_retime_9 rfl ?_
  refine r_ifnonnull_n (pc := 10) dX11_retime_10 ?_
  refine r_ldc (pc := 13) (n := -1000000001) dX11_retime_13 kw_X11_73 rfl ?_
  exact f_iret (pc := 15) dX11_retime_15 rfl (by assumption) hQ
theorem x_retime {Q : Option AV → Wd → Prop} {w : Wd} (d : Nat) {G : GS} {q : Int} (hd : 8 ≤ d) (hw : WR w) (hG : GOK G) (hC : CLG G w) (rq : R32 q) (hQ : ∀ r w2, r = (o_retime G q).1 → CLG (o_retime G q).2 w2 → FRL w w2 → WR w2 → Q (some (vI r)) w2) : M mX11_retime (Rm d) [vR (some 1), vI q] (fl w) (lQ Q) := by
  by_cases hq : inC q
  · obtain ⟨p, rfl⟩ : ∃ p : Nat, q = p := ⟨q.toNat, by have h : 0 ≤ q ∧ q ≤ 3 := hq; omega⟩
    have h : 0 ≤ (p : Int) ∧ (p : Int) ≤ 3 := hq
    exact x_retime_k d hd hw hG hC (by omega) hQ
  · have o : o_retime G q = (-1000000001, G) := by
      unfold o_retime
      exact if_pos hq
    exact x_retime_b d hd hw hq rq (hQ _ w (by rw [o]) (by rw [o]; exact hC) (FRL.rf w) hw)
set_option maxRecDepth 8000 in
theorem x_bake_k {Q : Option AV → Wd → Prop} {w : Wd} (d : Nat) {G : GS} {q : Nat} {a b e : Int} (hd : 9 ≤ d) (hw : WR w) (hG : GOK G) (hC : CLG G w) (hq4 : q < 4) (ra : R32 a) (rb : R32 b) (re : R32 e) (hQ : ∀ r w2, r = (o_bake G q a b e).1 → CLG (o_bake G q a b e).2 w2 → FRL w w2 → WR w2 → Q (some (vI r)) w2) : M mX11_bake (Rm d) [vR (some 1), vI q, vI a, vI b, vI e] (fl w) (lQ Q) := by
  have hr34 := CLG.hr hG hC
  have CV := hC.cv hq4
  have I0 := hC.ci hq4
  have sq0 : sh (2 + 8 + 6 * q) = 0 := (sh_sta (c := 2) rfl).2.2.2 q hq4
  obtain ⟨s1, s2, s3, s4, s5⟩ := sh_curve sq0
  have hn : 0 ≤ w (2 + 8 + 6 * q) 0 ∧ w (2 + 8 + 6 * q) 0 ≤ 24 := I0.1
  have eN : G.now.c q 0 0 = w (2 + 8 + 6 * q) 0 := CV.1
  have iq : inC (q : Int) := ⟨by omega, by omega⟩
  refine f_mofv (L0 := [some (vR (some 1)), some (vI q), some (vI a), some (vI b), some (vI e), none, none, none]) rfl (Nat.le_of_ble_eq_true rfl) rfl ?_
  have loop85 : (0 ≤ a ∧ a ≤ b ∧ b ≤ 480) → (1 ≤ e ∧ e ≤ 480) → w (2 + 8 + 6 * q) 0 ≠ 0 → ouN (G.now.c q) a b + ((b - a) / e + 1) ≤ 24 → (0 ≤ (b - a) / e) → ∀ nn : Int, nn = (b - a) / e + 1 → nn ≤ 24 → ∀ n0 : Nat, ∀ i : Nat, (nn - i).toNat = n0 → (i : Int) ≤ nn → ∀ w1 : Wd, (∀ j : Int, 0 ≤ j → j < i → w1 384 j = rnV (valS (cx w (2 + 8 + 6 * q)) (a + j * e))) → (∀ p, p ≠ 384 → w1 p = w p) → WR w1 → V mX11_bake (Rm d) 0 0 85 [some (vR (some 1)), some (vI q), some (vI a), some (vI b), some (vI e), some (vR (some (2 + 8 + 6 * q))), some (vI nn), some (vI i)] [] (fl w1) (lQ Q) := by
    intro hab he hz hfit hdv nn hnn hn24
    refine ind_lt ?_
    intro n0 ih i hm hi w1 hp hf hw1
    have CC : CLG G w1 := CLG_all hC (fun p e => hf p (by omega))
    refine r_iload (pc := 85) dX11_bake_85 rfl ?_
    refine r_iload (pc := 87) dX11_bake_87 rfl ?_
    refine r_icmpge (pc := 89) (tgt := 122) dX11_bake_89 rfl (by omega) (by omega) (fun h89 => ?_) (fun h89 => ?_)
    · refine r_aload_n (pc := 122) dX11_bake_122 rfl ?_
      refine h_X11_19 (pc := 123) rfl dX11_bake_123 ?_
      refine r_aload_n (pc := 126) dX11_bake_126 rfl ?_
      refine h_X11_10 (pc := 127) rfl dX11_bake_127 ?_
      refine c_X11_90 (pc := 130) rfl dX11_bake_130 (by first | assumption | rfl) (by omega) (Nat.le_of_ble_eq_true rfl) ?_
      have hr341 := CLG.hr hG CC
      refine m_X5_record (d - 1) (by omega) (by assumption) hr341 (SCL.sn CC.1) (fun w130 rec130 hw130 => ?_)
      obtain ⟨C130, F130⟩ := CLG_rec hG CC rec130
      obtain ⟨E130, I130, V130⟩ := rec_cur hq4 CC F130
      have ou := ouN_cg V130 a b
      have hfit2 : w130 (2 + 8 + 6 * q) 0 - (kbX (cx w130 (2 + 8 + 6 * q)) (b + 1) - kbX (cx w130 (2 + 8 + 6 * q)) a) + ((b - a) / e + 1) ≤ 24 := by
        have z : ouN (cx w130 (2 + 8 + 6 * q)) a b = w130 (2 + 8 + 6 * q) 0 - (kbX (cx w130 (2 + 8 + 6 * q)) (b + 1) - kbX (cx w130 (2 + 8 + 6 * q)) a) := rfl
        omega
      refine r_aload (pc := 133) dX11_bake_133 rfl ?_
      refine r_iload_n (pc := 135) dX11_bake_135 rfl ?_
      refine r_iload_n (pc := 136) dX11_bake_136 rfl ?_
      refine r_iload (pc := 137) dX11_bake_137 rfl ?_
      refine r_aload_n (pc := 139) dX11_bake_139 rfl ?_
      refine h_X11_65 (pc := 140) rfl dX11_bake_140 ?_
      refine c_X11_199 (pc := 143) rfl dX11_bake_143 (by first | assumption | rfl) (by omega) (Nat.le_of_ble_eq_true rfl) ?_
      refine m_X0_replaceRange (p := 384) (d - 1) (by omega) (by assumption) sq0 (show sh 384 = 1000 + 24 from rfl) (by omega) I130.1 hab he hfit2 (fun w143 f143 e143 hw143 => ?_)
      have e143 : CEQ (cx w143 (2 + 8 + 6 * q)) (bkX (cx w130 (2 + 8 + 6 * q)) (w130 384) a b e) := e143
      have gv : ∀ j : Int, 0 ≤ j → j < (b - a) / e + 1 → rnV (valS (G.now.c q) (a + j * e)) = w130 384 j := fun j j0 j1 => by
        rw [F130 384 (by omega) (by omega), hp j j0 (by omega), valS_cg I0 CV.sy]
      have K143 : CEV (bkX (G.now.c q) (fun i => rnV (valS (G.now.c q) (a + i * e))) a b e) (cx w143 (2 + 8 + 6 * q)) := (V130.bk (by rw [eN]; omega) hab.2.1 gv).tr e143.sy.v
      have D143 : CI (cx w143 (2 + 8 + 6 * q)) := (CI_bk I130 hab he.1 hfit2 (fun j j0 j1 => by rw [← gv j j0 j1]; exact rnV_bd _)).eq e143.sy
      have C143 := CLG_cur (w2 := w143) (X := bkX (G.now.c q) (fun i => rnV (valS (G.now.c q) (a + i * e))) a b e) hq4 C130 (fun p a b => f143 p (by omega)) K143 D143
      have n143 : w143 (2 + 8 + 6 * q) 0 = ouN (G.now.c q) a b + ((b - a) / e + 1) := by
        rw [← bkX_n (X := G.now.c q) (g := fun i => rnV (valS (G.now.c q) (a + i * e))) hdv]
        exact K143.1.symm
      have o : o_bake G q a b e = (ouN (G.now.c q) a b + ((b - a) / e + 1), setC (recG G) q (bkX (G.now.c q) (fun i => rnV (valS (G.now.c q) (a + i * e))) a b e)) := by
        unfold o_bake
        rw [if_neg (fun z => z iq), if_neg (by omega), if_neg (by omega), if_neg (by omega)]
      refine r_aload (pc := 146) dX11_bake_146 rfl ?_
      refine g_X11_85 (pc := 148) rfl dX11_bake_148 (by assumption) (by first | assumption | rfl) (fun h148 => ?_)
      exact f_iret (pc := 151) dX11_bake_151 rfl (by assumption) (hQ _ _ (fst_e o n143) (snd_e o C143) (fun p e => by rw [f143 p (by omega), F130 p (by omega) (by omega), hf p (by omega)]) (by assumption))
    refine r_aload_n (pc := 92) dX11_bake_92 rfl ?_
    refine h_X11_65 (pc := 93) rfl dX11_bake_93 ?_
    refine r_iload (pc := 96) dX11_bake_96 rfl ?_
    refine r_aload (pc := 98) dX11_bake_98 rfl ?_
    refine r_iload_n (pc := 100) dX11_bake_100 rfl ?_
    refine r_iload (pc := 101) dX11_bake_101 rfl ?_
    refine r_iload (pc := 103) dX11_bake_103 rfl ?_
    refine r_imul (pc := 105) dX11_bake_105 ?_
    refine r_iadd (pc := 106) dX11_bake_106 ?_
    refine c_X11_159 (pc := 107) rfl dX11_bake_107 (by first | assumption | rfl) (by omega) (Nat.le_of_ble_eq_true rfl) ?_
    have sm := steps_mul (x := b - a) (i := i) he.1 (by omega)
    have s0 : 0 ≤ (i : Int) * e := Int.mul_nonneg (by omega) (by omega)
    have E1 : CEV (cx w1 (2 + 8 + 6 * q)) (cx w (2 + 8 + 6 * q)) := (CEQ.of_eq fun r hr j => by unfold cx; rw [hf _ (by omega)]).v
    have J1 : CI (cx w1 (2 + 8 + 6 * q)) := CC.ci hq4
    refine m_X0_partsAt (d - 1) (by omega) (by assumption) sq0 J1 (by omega) (fun r107 e107 b107 => ?_)
    refine c_X11_196 (pc := 110) rfl dX11_bake_110 (by omega) (Nat.le_of_ble_eq_true rfl) ?_
    refine m_X11_nearestValue (d - 1) (by omega) (by assumption) (by omega) (fun r110 e110 b110 => ?_)
    refine c_X11_101 (pc := 113) rfl dX11_bake_113 (by omega) (Nat.le_of_ble_eq_true rfl) ?_
    refine m_X11_put (d - 1) (by omega) (by assumption) (n := 24) (show sh 384 = 1000 + 24 from rfl) (by omega) (by omega) (by omega) (fun w113 e113 hw113 => ?_)
    rw [pA_in (by omega) (by omega)] at e113
    refine r_iinc7 (pc := 116) dX11_bake_116 rfl ?_
    refine r_goto (pc := 119) (tgt := 85) dX11_bake_119 rfl ?_
    exact ih _ (by omega) (i + 1) rfl (by omega) w113 (fun j j0 j1 => by
      rw [e113]
      by_cases z : j = i
      · rw [z, up_hit, e110, e107, valS_cg (X := cx w1 (2 + 8 + 6 * q)) (Y := cx w (2 + 8 + 6 * q)) J1 E1]; rfl
      · rw [up_off (by omega)]; exact hp j j0 (by omega)) (fun p e => by rw [e113, up_ne e]; exact hf p e) (by assumption)
  refine r_aload_n (pc := 0) dX11_bake_0 rfl ?_
  refine h_X11_10 (pc := 1) rfl dX11_bake_1 ?_
  refine r_iload_n (pc := 4) dX11_bake_4 rfl ?_
  refine c_X11_69 (pc := 5) rfl dX11_bake_5 (by first | assumption | rfl) (by omega) (Nat.le_of_ble_eq_true rfl) ?_
  refine m_X8_curveAt (q := q) (d - 1) (by omega) (by assumption) (show sh 2 = 8 from rfl) hq4 rfl ?_
  refine r_astore5 (pc := 8) dX11_bake_8 rfl ?_
  refine r_aload (pc := 10) dX11_bake_10 rfl ?_
  refine r_ifnonnull_s (pc := 12) (tgt := 18) dX11_bake_12 rfl ?_
  refine r_iload_n (pc := 18) dX11_bake_18 rfl ?_
  refine r_iload_n (pc := 19) dX11_bake_19 rfl ?_
  refine r_sipush (pc := 20) (n := 480) dX11_bake_20 (by decide) ?_
  refine c_X11_163 (pc := 23) rfl dX11_bake_23 (by omega) (Nat.le_of_ble_eq_true rfl) ?_
  refine m_X11_isRange (d - 1) (by omega) (by assumption) (by omega) (by omega) (by omega) (fun r23 e23 b23 => ?_)
  have i23 := b2i_i e23
  refine r_ifeq (pc := 26) (tgt := 41) dX11_bake_26 rfl (by omega) (fun h26 => ?_) (fun h26 => ?_)
  · have o : o_bake G q a b e = (-1000000002, G) := by
      unfold o_bake
      rw [if_neg (fun z => z iq), if_pos (by omega)]
    refine r_ldc (pc := 41) (n := -1000000002) dX11_bake_41 kw_X11_78 rfl ?_
    exact f_iret (pc := 43) dX11_bake_43 rfl (by assumption) (hQ _ _ (fst_e o (by omega)) (snd_e o hC) (FRL.rf w) (by assumption))
  refine r_iload (pc := 29) dX11_bake_29 rfl ?_
  refine r_iconst (pc := 31) (n := 1) dX11_bake_31 ?_
  refine r_sipush (pc := 32) (n := 480) dX11_bake_32 (by decide) ?_
  refine c_X11_74 (pc := 35) rfl dX11_bake_35 (by omega) (Nat.le_of_ble_eq_true rfl) ?_
  refine m_X11_within (d - 1) (by omega) (by assumption) (by omega) (by omega) (by omega) (fun r35 e35 b35 => ?_)
  have i35 := b2i_i e35
  refine r_ifne (pc := 38) (tgt := 44) dX11_bake_38 rfl (by omega) (fun h38 => ?_) (fun h38 => ?_)
  · refine r_aload (pc := 44) dX11_bake_44 rfl ?_
    refine g_X11_85 (pc := 46) rfl dX11_bake_46 (by assumption) (by first | assumption | rfl) (fun h46 => ?_)
    refine r_ifne (pc := 49) (tgt := 55) dX11_bake_49 rfl (by omega) (fun h49 => ?_) (fun h49 => ?_)
    · refine r_iload_n (pc := 55) dX11_bake_55 rfl ?_
      refine r_iload_n (pc := 56) dX11_bake_56 rfl ?_
      refine r_iload (pc := 57) dX11_bake_57 rfl ?_
      refine c_X11_189 (pc := 59) rfl dX11_bake_59 (by omega) (Nat.le_of_ble_eq_true rfl) ?_
      refine m_X11_stepsIn (d - 1) (by omega) (by assumption) (by omega) (by omega) (by omega) (fun r59 e59 b59 c59 => ?_)
      have dv0 : 0 ≤ (b - a) / e := Int.ediv_nonneg (by omega) (by omega)
      refine r_istore6 (pc := 62) dX11_bake_62 rfl ?_
      refine r_aload (pc := 64) dX11_bake_64 rfl ?_
      refine r_iload_n (pc := 66) dX11_bake_66 rfl ?_
      refine r_iload_n (pc := 67) dX11_bake_67 rfl ?_
      refine c_X11_193 (pc := 68) rfl dX11_bake_68 (by first | assumption | rfl) (by omega) (Nat.le_of_ble_eq_true rfl) ?_
      refine m_X0_keysOutside (d - 1) (by omega) (by assumption) sq0 (by omega) (by omega) (by omega) (fun r68 e68 => ?_)
      have e68 : r68 = ouN (G.now.c q) a b := e68.trans (ouN_cg CV a b).symm
      have ou0 := kbX_mono (X := G.now.c q) (by rw [eN]; omega) (show a ≤ b + 1 by omega)
      have ou1 := kbX_KB (X := G.now.c q) (by rw [eN]; omega) a
      have ou2 := kbX_KB (X := G.now.c q) (by rw [eN]; omega) (b + 1)
      have ou3 := ou1.1
      have ou4 := ou2.2.1
      have ou5 : 0 ≤ ouN (G.now.c q) a b ∧ ouN (G.now.c q) a b ≤ 24 := by unfold ouN; omega
      refine r_iload (pc := 71) dX11_bake_71 rfl ?_
      refine r_iadd (pc := 73) dX11_bake_73 ?_
      refine r_bipush (pc := 74) (n := 24) dX11_bake_74 (by decide) ?_
      refine r_icmple (pc := 76) (tgt := 82) dX11_bake_76 rfl (by omega) (by omega) (fun h76 => ?_) (fun h76 => ?_)
      · refine r_iconst (pc := 82) (n := 0) dX11_bake_82 ?_
        refine r_istore7 (pc := 83) dX11_bake_83 rfl ?_
        exact loop85 (by omega) (by omega) (by omega) (by omega) (by omega) _ e59 (by omega) _ 0 rfl (by omega) w (fun j a b => by omega) (fun _ _ => rfl) (by assumption)
      have o : o_bake G q a b e = (-1000000003, G) := by
        unfold o_bake
        rw [if_neg (fun z => z iq), if_neg (by omega), if_neg (by omega), if_pos (by omega)]
      refine r_ldc (pc := 79) (n := -1000000003) dX11_bake_79 kw_X11_89 rfl ?_
      exact f_iret (pc := 81) dX11_bake_81 rfl (by assumption) (hQ _ _ (fst_e o (by omega)) (snd_e o hC) (FRL.rf w) (by assumption))
    have o : o_bake G q a b e = (-1000000004, G) := by
      unfold o_bake
      rw [if_neg (fun z => z iq), if_neg (by omega), if_pos (by omega)]
    refine r_ldc (pc := 52) (n := -1000000004) dX11_bake_52 kw_X11_109 rfl ?_
    exact f_iret (pc := 54) dX11_bake_54 rfl (by assumption) (hQ _ _ (fst_e o (by omega)) (snd_e o hC) (FRL.rf w) (by assumption))
  have o : o_bake G q a b e = (-1000000002, G) := by
    unfold o_bake
    rw [if_neg (fun z => z iq), if_pos (by omega)]
  refine r_ldc (pc := 41) (n := -1000000002) dX11_bake_41 kw_X11_78 rfl ?_
  exact f_iret (pc := 43) dX11_bake_43 rfl (by assumption) (hQ _ _ (fst_e o (by omega)) (snd_e o hC) (FRL.rf w) (by assumption))
set_option maxRecDepth 8000 in
theorem x_bake_b {Q : Option AV → Wd → Prop} {w : Wd} (d : Nat) {q : Int} {a b e : Int} (hd : 9 ≤ d) (hw : WR w) (hq : ¬ inC q) (rq : R32 q) (ra : R32 a) (rb : R32 b) (re : R32 e) (hQ : Q (some (vI (-1000000001))) w) : M mX11_bake (Rm d) [vR (some 1), vI q, vI a, vI b, vI e] (fl w) (lQ Q) := by
  have hq : ¬ (0 ≤ q ∧ q ≤ 3) := hq
  refine f_mofv (L0 := [some (vR (some 1)), some (vI q), some (vI a), some (vI b), some (vI e), none, none, none]) rfl (Nat.le_of_ble_eq_true rfl) rfl ?_
  refine r_aload_n (pc := 0) dX11_bake_0 rfl ?_
  refine h_X11_10 (pc := 1) rfl dX11_bake_1 ?_
  refine r_iload_n (pc := 4) dX11_bake_4 rfl ?_
  refine c_X11_69 (pc := 5) rfl dX11_bake_5 (by first | assumption | rfl) (by omega) (Nat.le_of_ble_eq_true rfl) ?_
  refine m_X8_curveAtN (d - 1) (by omega) (by assumption) (show sh 2 = 8 from rfl) (by omega) (by omega) ?_
  refine r_astoreN5 (pc := 8) dX11_bake_8 rfl ?_
  refine r_aloadN (pc := 10) dX11_bake_10 rfl ?_
  refine r_ifnonnull_n (pc := 12) dX11_bake_12 ?_
  refine r_ldc (pc := 15) (n := -1000000001) dX11_bake_15 kw_X11_73 rfl ?_
  exact f_iret (pc := 17) dX11_bake_17 rfl (by assumption) hQ
theorem x_bake {Q : Option AV → Wd → Prop} {w : Wd} (d : Nat) {G : GS} {q : Int} {a b e : Int} (hd : 9 ≤ d) (hw : WR w) (hG : GOK G) (hC : CLG G w) (rq : R32 q) (ra : R32 a) (rb : R32 b) (re : R32 e) (hQ : ∀ r w2, r = (o_bake G q a b e).1 → CLG (o_bake G q a b e).2 w2 → FRL w w2 → WR w2 → Q (some (vI r)) w2) : M mX11_bake (Rm d) [vR (some 1), vI q, vI a, vI b, vI e] (fl w) (lQ Q) := by
  by_cases hq : inC q
  · obtain ⟨p, rfl⟩ : ∃ p : Nat, q = p := ⟨q.toNat, by have h : 0 ≤ q ∧ q ≤ 3 := hq; omega⟩
    have h : 0 ≤ (p : Int) ∧ (p : Int) ≤ 3 := hq
    exact x_bake_k d hd hw hG hC (by omega) ra rb re hQ
  · have o : o_bake G q a b e = (-1000000001, G) := by
      unfold o_bake
      exact if_pos hq
    exact x_bake_b d hd hw hq rq ra rb re (hQ _ w (by rw [o]) (by rw [o]; exact hC) (FRL.rf w) hw)
set_option maxRecDepth 8000 in
theorem x_bakeFormula_k {Q : Option AV → Wd → Prop} {w : Wd} (d : Nat) {G : GS} {q : Nat} {a b e : Int} (hd : 10 ≤ d) (hw : WR w) (hG : GOK G) (hC : CLG G w) (hq4 : q < 4) (ra : R32 a) (rb : R32 b) (re : R32 e) (hQ : ∀ r w2, r = (o_bakeFormula G q a b e).1 → CLG (o_bakeFormula G q a b e).2 w2 → FRL w w2 → WR w2 → Q (some (vI r)) w2) : M mX11_bakeFormula (Rm d) [vR (some 1), vI q, vI a, vI b, vI e] (fl w) (lQ Q) := by
  have hr34 := CLG.hr hG hC
  have CV := hC.cv hq4
  have I0 := hC.ci hq4
  have sq0 : sh (2 + 8 + 6 * q) = 0 := (sh_sta (c := 2) rfl).2.2.2 q hq4
  obtain ⟨s1, s2, s3, s4, s5⟩ := sh_curve sq0
  have hn : 0 ≤ w (2 + 8 + 6 * q) 0 ∧ w (2 + 8 + 6 * q) 0 ≤ 24 := I0.1
  have eN : G.now.c q 0 0 = w (2 + 8 + 6 * q) 0 := CV.1
  have iq : inC (q : Int) := ⟨by omega, by omega⟩
  refine f_mofv (L0 := [some (vR (some 1)), some (vI q), some (vI a), some (vI b), some (vI e), none, none, none]) rfl (Nat.le_of_ble_eq_true rfl) rfl ?_
  have loop74 : (0 ≤ a ∧ a ≤ b ∧ b ≤ 480) → (1 ≤ e ∧ e ≤ 480) → ouN (G.now.c q) a b + ((b - a) / e + 1) ≤ 24 → (0 ≤ (b - a) / e) → ∀ nn : Int, nn = (b - a) / e + 1 → nn ≤ 24 → ∀ n0 : Nat, ∀ i : Nat, (nn - i).toNat = n0 → (i : Int) ≤ nn → ∀ w1 : Wd, (∀ j : Int, 0 ≤ j → j < i → w1 384 j = rnV (mixS G (a + j * e))) → (∀ p, p ≠ 384 → p ≠ 370 → w1 p = w p) → WR w1 → V mX11_bakeFormula (Rm d) 0 0 74 [some (vR (some 1)), some (vI q), some (vI a), some (vI b), some (vI e), some (vR (some (2 + 8 + 6 * q))), some (vI nn), some (vI i)] [] (fl w1) (lQ Q) := by
    intro hab he hfit hdv nn hnn hn24
    refine ind_lt ?_
    intro n0 ih i hm hi w1 hp hf hw1
    have CC : CLG G w1 := CLG_all hC (fun p e => hf p (by omega) (by omega))
    refine r_iload (pc := 74) dX11_bakeFormula_74 rfl ?_
    refine r_iload (pc := 76) dX11_bakeFormula_76 rfl ?_
    refine r_icmpge (pc := 78) (tgt := 117) dX11_bakeFormula_78 rfl (by omega) (by omega) (fun h78 => ?_) (fun h78 => ?_)
    · refine r_aload_n (pc := 117) dX11_bakeFormula_117 rfl ?_
      refine h_X11_19 (pc := 118) rfl dX11_bakeFormula_118 ?_
      refine r_aload_n (pc := 121) dX11_bakeFormula_121 rfl ?_
      refine h_X11_10 (pc := 122) rfl dX11_bakeFormula_122 ?_
      refine c_X11_90 (pc := 125) rfl dX11_bakeFormula_125 (by first | assumption | rfl) (by omega) (Nat.le_of_ble_eq_true rfl) ?_
      have hr341 := CLG.hr hG CC
      refine m_X5_record (d - 1) (by omega) (by assumption) hr341 (SCL.sn CC.1) (fun w125 rec125 hw125 => ?_)
      obtain ⟨C125, F125⟩ := CLG_rec hG CC rec125
      obtain ⟨E125, I125, V125⟩ := rec_cur hq4 CC F125
      have ou := ouN_cg V125 a b
      have hfit2 : w125 (2 + 8 + 6 * q) 0 - (kbX (cx w125 (2 + 8 + 6 * q)) (b + 1) - kbX (cx w125 (2 + 8 + 6 * q)) a) + ((b - a) / e + 1) ≤ 24 := by
        have z : ouN (cx w125 (2 + 8 + 6 * q)) a b = w125 (2 + 8 + 6 * q) 0 - (kbX (cx w125 (2 + 8 + 6 * q)) (b + 1) - kbX (cx w125 (2 + 8 + 6 * q)) a) := rfl
        omega
      refine r_aload (pc := 128) dX11_bakeFormula_128 rfl ?_
      refine r_iload_n (pc := 130) dX11_bakeFormula_130 rfl ?_
      refine r_iload_n (pc := 131) dX11_bakeFormula_131 rfl ?_
      refine r_iload (pc := 132) dX11_bakeFormula_132 rfl ?_
      refine r_aload_n (pc := 134) dX11_bakeFormula_134 rfl ?_
      refine h_X11_65 (pc := 135) rfl dX11_bakeFormula_135 ?_
      refine c_X11_199 (pc := 138) rfl dX11_bakeFormula_138 (by first | assumption | rfl) (by omega) (Nat.le_of_ble_eq_true rfl) ?_
      refine m_X0_replaceRange (p := 384) (d - 1) (by omega) (by assumption) sq0 (show sh 384 = 1000 + 24 from rfl) (by omega) I125.1 hab he hfit2 (fun w138 f138 e138 hw138 => ?_)
      have e138 : CEQ (cx w138 (2 + 8 + 6 * q)) (bkX (cx w125 (2 + 8 + 6 * q)) (w125 384) a b e) := e138
      have gv : ∀ j : Int, 0 ≤ j → j < (b - a) / e + 1 → rnV (mixS G (a + j * e)) = w125 384 j := fun j j0 j1 => by
        rw [F125 384 (by omega) (by omega), hp j j0 (by omega)]
      have K138 : CEV (bkX (G.now.c q) (fun i => rnV (mixS G (a + i * e))) a b e) (cx w138 (2 + 8 + 6 * q)) := (V125.bk (by rw [eN]; omega) hab.2.1 gv).tr e138.sy.v
      have D138 : CI (cx w138 (2 + 8 + 6 * q)) := (CI_bk I125 hab he.1 hfit2 (fun j j0 j1 => by rw [← gv j j0 j1]; exact rnV_bd _)).eq e138.sy
      have C138 := CLG_cur (w2 := w138) (X := (bkX (G.now.c q) (fun i => rnV (mixS G (a + i * e))) a b e)) hq4 C125 (fun p a b => f138 p (by omega)) K138 D138
      have n138 : w138 (2 + 8 + 6 * q) 0 = ouN (G.now.c q) a b + ((b - a) / e + 1) := by
        rw [← bkX_n (X := G.now.c q) (g := fun i => rnV (mixS G (a + i * e))) hdv]
        exact K138.1.symm
      have o : o_bakeFormula G q a b e = (ouN (G.now.c q) a b + ((b - a) / e + 1), setC (recG G) q (bkX (G.now.c q) (fun i => rnV (mixS G (a + i * e))) a b e)) := by
        unfold o_bakeFormula
        rw [if_neg (fun z => z iq), if_neg (by omega), if_neg (by omega)]
      refine r_aload (pc := 141) dX11_bakeFormula_141 rfl ?_
      refine g_X11_85 (pc := 143) rfl dX11_bakeFormula_143 (by assumption) (by first | assumption | rfl) (fun h143 => ?_)
      exact f_iret (pc := 146) dX11_bakeFormula_146 rfl (by assumption) (hQ _ _ (fst_e o n138) (snd_e o C138) (fun p e => by rw [f138 p (by omega), F125 p (by omega) (by omega), hf p (by omega) (by omega)]) (by assumption))
    refine r_aload_n (pc := 81) dX11_bakeFormula_81 rfl ?_
    refine h_X11_65 (pc := 82) rfl dX11_bakeFormula_82 ?_
    refine r_iload (pc := 85) dX11_bakeFormula_85 rfl ?_
    refine r_aload_n (pc := 87) dX11_bakeFormula_87 rfl ?_
    refine h_X11_47 (pc := 88) rfl dX11_bakeFormula_88 ?_
    refine r_aload_n (pc := 91) dX11_bakeFormula_91 rfl ?_
    refine h_X11_10 (pc := 92) rfl dX11_bakeFormula_92 ?_
    refine r_iload_n (pc := 95) dX11_bakeFormula_95 rfl ?_
    refine r_iload (pc := 96) dX11_bakeFormula_96 rfl ?_
    refine r_iload (pc := 98) dX11_bakeFormula_98 rfl ?_
    refine r_imul (pc := 100) dX11_bakeFormula_100 ?_
    refine r_iadd (pc := 101) dX11_bakeFormula_101 ?_
    refine c_X11_203 (pc := 102) rfl dX11_bakeFormula_102 (by first | assumption | rfl) (by omega) (Nat.le_of_ble_eq_true rfl) ?_
    have sm := steps_mul (x := b - a) (i := i) he.1 (by omega)
    have s0 : 0 ≤ (i : Int) * e := Int.mul_nonneg (by omega) (by omega)
    refine m_X6_run (e := G.now.f) (d - 1) (by omega) (by assumption) (by omega) (fun p hp => CC.ci hp) hG.1.2.1 CC.1.2.2.2 hG.1.2.2 (fun r102 w102 e102 b102 f102 hw102 => ?_)
    refine c_X11_196 (pc := 105) rfl dX11_bakeFormula_105 (by omega) (Nat.le_of_ble_eq_true rfl) ?_
    refine m_X11_nearestValue (d - 1) (by omega) (by assumption) (by omega) (fun r105 e105 b105 => ?_)
    refine c_X11_101 (pc := 108) rfl dX11_bakeFormula_108 (by omega) (Nat.le_of_ble_eq_true rfl) ?_
    refine m_X11_put (d - 1) (by omega) (by assumption) (n := 24) (show sh 384 = 1000 + 24 from rfl) (by omega) (by omega) (by omega) (fun w108 e108 hw108 => ?_)
    rw [pA_in (by omega) (by omega)] at e108
    refine r_iinc7 (pc := 111) dX11_bakeFormula_111 rfl ?_
    refine r_goto (pc := 114) (tgt := 74) dX11_bakeFormula_114 rfl ?_
    exact ih _ (by omega) (i + 1) rfl (by omega) w108 (fun j j0 j1 => by
      rw [e108]
      by_cases z : j = i
      · rw [z, up_hit, e105, e102, CLG.mx hG CC]; rfl
      · rw [up_off (by omega), f102 384 (by omega)]; exact hp j j0 (by omega)) (fun p e e2 => by rw [e108, up_ne e, f102 p e2]; exact hf p e e2) (by assumption)
  refine r_aload_n (pc := 0) dX11_bakeFormula_0 rfl ?_
  refine h_X11_10 (pc := 1) rfl dX11_bakeFormula_1 ?_
  refine r_iload_n (pc := 4) dX11_bakeFormula_4 rfl ?_
  refine c_X11_69 (pc := 5) rfl dX11_bakeFormula_5 (by first | assumption | rfl) (by omega) (Nat.le_of_ble_eq_true rfl) ?_
  refine m_X8_curveAt (q := q) (d - 1) (by omega) (by assumption) (show sh 2 = 8 from rfl) hq4 rfl ?_
  refine r_astore5 (pc := 8) dX11_bakeFormula_8 rfl ?_
  refine r_aload (pc := 10) dX11_bakeFormula_10 rfl ?_
  refine r_ifnonnull_s (pc := 12) (tgt := 18) dX11_bakeFormula_12 rfl ?_
  refine r_iload_n (pc := 18) dX11_bakeFormula_18 rfl ?_
  refine r_iload_n (pc := 19) dX11_bakeFormula_19 rfl ?_
  refine r_sipush (pc := 20) (n := 480) dX11_bakeFormula_20 (by decide) ?_
  refine c_X11_163 (pc := 23) rfl dX11_bakeFormula_23 (by omega) (Nat.le_of_ble_eq_true rfl) ?_
  refine m_X11_isRange (d - 1) (by omega) (by assumption) (by omega) (by omega) (by omega) (fun r23 e23 b23 => ?_)
  have i23 := b2i_i e23
  refine r_ifeq (pc := 26) (tgt := 41) dX11_bakeFormula_26 rfl (by omega) (fun h26 => ?_) (fun h26 => ?_)
  · have o : o_bakeFormula G q a b e = (-1000000002, G) := by
      unfold o_bakeFormula
      rw [if_neg (fun z => z iq), if_pos (by omega)]
    refine r_ldc (pc := 41) (n := -1000000002) dX11_bakeFormula_41 kw_X11_78 rfl ?_
    exact f_iret (pc := 43) dX11_bakeFormula_43 rfl (by assumption) (hQ _ _ (fst_e o (by omega)) (snd_e o hC) (FRL.rf w) (by assumption))
  refine r_iload (pc := 29) dX11_bakeFormula_29 rfl ?_
  refine r_iconst (pc := 31) (n := 1) dX11_bakeFormula_31 ?_
  refine r_sipush (pc := 32) (n := 480) dX11_bakeFormula_32 (by decide) ?_
  refine c_X11_74 (pc := 35) rfl dX11_bakeFormula_35 (by omega) (Nat.le_of_ble_eq_true rfl) ?_
  refine m_X11_within (d - 1) (by omega) (by assumption) (by omega) (by omega) (by omega) (fun r35 e35 b35 => ?_)
  have i35 := b2i_i e35
  refine r_ifne (pc := 38) (tgt := 44) dX11_bakeFormula_38 rfl (by omega) (fun h38 => ?_) (fun h38 => ?_)
  · refine r_iload_n (pc := 44) dX11_bakeFormula_44 rfl ?_
    refine r_iload_n (pc := 45) dX11_bakeFormula_45 rfl ?_
    refine r_iload (pc := 46) dX11_bakeFormula_46 rfl ?_
    refine c_X11_189 (pc := 48) rfl dX11_bakeFormula_48 (by omega) (Nat.le_of_ble_eq_true rfl) ?_
    refine m_X11_stepsIn (d - 1) (by omega) (by assumption) (by omega) (by omega) (by omega) (fun r48 e48 b48 c48 => ?_)
    have dv0 : 0 ≤ (b - a) / e := Int.ediv_nonneg (by omega) (by omega)
    refine r_istore6 (pc := 51) dX11_bakeFormula_51 rfl ?_
    refine r_aload (pc := 53) dX11_bakeFormula_53 rfl ?_
    refine r_iload_n (pc := 55) dX11_bakeFormula_55 rfl ?_
    refine r_iload_n (pc := 56) dX11_bakeFormula_56 rfl ?_
    refine c_X11_193 (pc := 57) rfl dX11_bakeFormula_57 (by first | assumption | rfl) (by omega) (Nat.le_of_ble_eq_true rfl) ?_
    refine m_X0_keysOutside (d - 1) (by omega) (by assumption) sq0 (by omega) (by omega) (by omega) (fun r57 e57 => ?_)
    have e57 : r57 = ouN (G.now.c q) a b := e57.trans (ouN_cg CV a b).symm
    have ou0 := kbX_mono (X := G.now.c q) (by rw [eN]; omega) (show a ≤ b + 1 by omega)
    have ou1 := kbX_KB (X := G.now.c q) (by rw [eN]; omega) a
    have ou2 := kbX_KB (X := G.now.c q) (by rw [eN]; omega) (b + 1)
    have ou3 := ou1.1
    have ou4 := ou2.2.1
    have ou5 : 0 ≤ ouN (G.now.c q) a b ∧ ouN (G.now.c q) a b ≤ 24 := by unfold ouN; omega
    refine r_iload (pc := 60) dX11_bakeFormula_60 rfl ?_
    refine r_iadd (pc := 62) dX11_bakeFormula_62 ?_
    refine r_bipush (pc := 63) (n := 24) dX11_bakeFormula_63 (by decide) ?_
    refine r_icmple (pc := 65) (tgt := 71) dX11_bakeFormula_65 rfl (by omega) (by omega) (fun h65 => ?_) (fun h65 => ?_)
    · refine r_iconst (pc := 71) (n := 0) dX11_bakeFormula_71 ?_
      refine r_istore7 (pc := 72) dX11_bakeFormula_72 rfl ?_
      exact loop74 (by omega) (by omega) (by omega) (by omega) _ e48 (by omega) _ 0 rfl (by omega) w (fun j a b => by omega) (fun _ _ _ => rfl) (by assumption)
    have o : o_bakeFormula G q a b e = (-1000000003, G) := by
      unfold o_bakeFormula
      rw [if_neg (fun z => z iq), if_neg (by omega), if_pos (by omega)]
    refine r_ldc (pc := 68) (n := -1000000003) dX11_bakeFormula_68 kw_X11_89 rfl ?_
    exact f_iret (pc := 70) dX11_bakeFormula_70 rfl (by assumption) (hQ _ _ (fst_e o (by omega)) (snd_e o hC) (FRL.rf w) (by assumption))
  have o : o_bakeFormula G q a b e = (-1000000002, G) := by
    unfold o_bakeFormula
    rw [if_neg (fun z => z iq), if_pos (by omega)]
  refine r_ldc (pc := 41) (n := -1000000002) dX11_bakeFormula_41 kw_X11_78 rfl ?_
  exact f_iret (pc := 43) dX11_bakeFormula_43 rfl (by assumption) (hQ _ _ (fst_e o (by omega)) (snd_e o hC) (FRL.rf w) (by assumption))
set_option maxRecDepth 8000 in
theorem x_bakeFormula_b {Q : Option AV → Wd → Prop} {w : Wd} (d : Nat) {q : Int} {a b e : Int} (hd : 10 ≤ d) (hw : WR w) (hq : ¬ inC q) (rq : R32 q) (ra : R32 a) (rb : R32 b) (re : R32 e) (hQ : Q (some (vI (-1000000001))) w) : M mX11_bakeFormula (Rm d) [vR (some 1), vI q, vI a, vI b, vI e] (fl w) (lQ Q) := by
  have hq : ¬ (0 ≤ q ∧ q ≤ 3) := hq
  refine f_mofv (L0 := [some (vR (some 1)), some (vI q), some (vI a), some (vI b), some (vI e), none, none, none]) rfl (Nat.le_of_ble_eq_true rfl) rfl ?_
  refine r_aload_n (pc := 0) dX11_bakeFormula_0 rfl ?_
  refine h_X11_10 (pc := 1) rfl dX11_bakeFormula_1 ?_
  refine r_iload_n (pc := 4) dX11_bakeFormula_4 rfl ?_
  refine c_X11_69 (pc := 5) rfl dX11_bakeFormula_5 (by first | assumption | rfl) (by omega) (Nat.le_of_ble_eq_true rfl) ?_
  refine m_X8_curveAtN (d - 1) (by omega) (by assumption) (show sh 2 = 8 from rfl) (by omega) (by omega) ?_
  refine r_astoreN5 (pc := 8) dX11_bakeFormula_8 rfl ?_
  refine r_aloadN (pc := 10) dX11_bakeFormula_10 rfl ?_
  refine r_ifnonnull_n (pc := 12) dX11_bakeFormula_12 ?_
  refine r_ldc (pc := 15) (n := -1000000001) dX11_bakeFormula_15 kw_X11_73 rfl ?_
  exact f_iret (pc := 17) dX11_bakeFormula_17 rfl (by assumption) hQ
theorem x_bakeFormula {Q : Option AV → Wd → Prop} {w : Wd} (d : Nat) {G : GS} {q : Int} {a b e : Int} (hd : 10 ≤ d) (hw : WR w) (hG : GOK G) (hC : CLG G w) (rq : R32 q) (ra : R32 a) (rb : R32 b) (re : R32 e) (hQ : ∀ r w2, r = (o_bakeFormula G q a b e).1 → CLG (o_bakeFormula G q a b e).2 w2 → FRL w w2 → WR w2 → Q (some (vI r)) w2) : M mX11_bakeFormula (Rm d) [vR (some 1), vI q, vI a, vI b, vI e] (fl w) (lQ Q) := by
  by_cases hq : inC q
  · obtain ⟨p, rfl⟩ : ∃ p : Nat, q = p := ⟨q.toNat, by have h : 0 ≤ q ∧ q ≤ 3 := hq; omega⟩
    have h : 0 ≤ (p : Int) ∧ (p : Int) ≤ 3 := hq
    exact x_bakeFormula_k d hd hw hG hC (by omega) ra rb re hQ
  · have o : o_bakeFormula G q a b e = (-1000000001, G) := by
      unfold o_bakeFormula
      exact if_pos hq
    exact x_bakeFormula_b d hd hw hq rq ra rb re (hQ _ w (by rw [o]) (by rw [o]; exact hC) (FRL.rf w) hw)
set_option maxRecDepth 8000 in
theorem x_polyline_k {Q : Option AV → Wd → Prop} {w : Wd} (d : Nat) {G : GS} {q : Nat} {a b t i : Int} (hd : 9 ≤ d) (hw : WR w) (hG : GOK G) (hC : CLG G w) (hq4 : q < 4) (ra : R32 a) (rb : R32 b) (rt : R32 t) (ri : R32 i) (hQ : ∀ r w2, r = o_polyline G q a b t i → CLG G w2 → FRL w w2 → WR w2 → Q (some (vI r)) w2) : M mX11_polyline (Rm d) [vR (some 1), vI q, vI a, vI b, vI t, vI i] (fl w) (lQ Q) := by
  have hr34 := CLG.hr hG hC
  have CV := hC.cv hq4
  have I0 := hC.ci hq4
  have sq0 : sh (2 + 8 + 6 * q) = 0 := (sh_sta (c := 2) rfl).2.2.2 q hq4
  obtain ⟨s1, s2, s3, s4, s5⟩ := sh_curve sq0
  have hn : 0 ≤ w (2 + 8 + 6 * q) 0 ∧ w (2 + 8 + 6 * q) 0 ≤ 24 := I0.1
  have eN : G.now.c q 0 0 = w (2 + 8 + 6 * q) 0 := CV.1
  have iq : inC (q : Int) := ⟨by omega, by omega⟩
  refine f_mofv (L0 := [some (vR (some 1)), some (vI q), some (vI a), some (vI b), some (vI t), some (vI i), none]) rfl (Nat.le_of_ble_eq_true rfl) rfl ?_
  refine r_aload_n (pc := 0) dX11_polyline_0 rfl ?_
  refine h_X11_10 (pc := 1) rfl dX11_polyline_1 ?_
  refine r_iload_n (pc := 4) dX11_polyline_4 rfl ?_
  refine c_X11_69 (pc := 5) rfl dX11_polyline_5 (by first | assumption | rfl) (by omega) (Nat.le_of_ble_eq_true rfl) ?_
  refine m_X8_curveAt (q := q) (d - 1) (by omega) (by assumption) (show sh 2 = 8 from rfl) hq4 rfl ?_
  refine r_astore6 (pc := 8) dX11_polyline_8 rfl ?_
  refine r_aload (pc := 10) dX11_polyline_10 rfl ?_
  refine r_ifnonnull_s (pc := 12) (tgt := 18) dX11_polyline_12 rfl ?_
  refine r_iload_n (pc := 18) dX11_polyline_18 rfl ?_
  refine r_iconst (pc := 19) (n := 0) dX11_polyline_19 ?_
  refine r_sipush (pc := 20) (n := 960) dX11_polyline_20 (by decide) ?_
  refine c_X11_74 (pc := 23) rfl dX11_polyline_23 (by omega) (Nat.le_of_ble_eq_true rfl) ?_
  refine m_X11_within (d - 1) (by omega) (by assumption) (by omega) (by omega) (by omega) (fun r23 e23 b23 => ?_)
  have i23 := b2i_i e23
  refine r_ifeq (pc := 26) (tgt := 49) dX11_polyline_26 rfl (by omega) (fun h26 => ?_) (fun h26 => ?_)
  · refine r_ldc (pc := 49) (n := -1000000002) dX11_polyline_49 kw_X11_78 rfl ?_
    exact f_iret (pc := 51) dX11_polyline_51 rfl (by assumption) (hQ _ w (by unfold o_polyline; rw [if_neg (fun z => z iq), if_pos (by omega)]) hC (FRL.rf w) (by assumption))
  refine r_iload_n (pc := 29) dX11_polyline_29 rfl ?_
  refine r_iload_n (pc := 30) dX11_polyline_30 rfl ?_
  refine r_iconst (pc := 31) (n := 1) dX11_polyline_31 ?_
  refine r_iadd (pc := 32) dX11_polyline_32 ?_
  refine r_iload_n (pc := 33) dX11_polyline_33 rfl ?_
  refine r_bipush (pc := 34) (n := 40) dX11_polyline_34 (by decide) ?_
  refine r_iadd (pc := 36) dX11_polyline_36 ?_
  refine r_sipush (pc := 37) (n := 960) dX11_polyline_37 (by decide) ?_
  refine c_X11_207 (pc := 40) rfl dX11_polyline_40 (by omega) (Nat.le_of_ble_eq_true rfl) ?_
  refine m_J9_min_7cf53 (d - 1) (by omega) (by assumption) (by omega) (by omega) (fun r40 e40 b40 => ?_)
  refine c_X11_74 (pc := 43) rfl dX11_polyline_43 (by omega) (Nat.le_of_ble_eq_true rfl) ?_
  refine m_X11_within (d - 1) (by omega) (by assumption) (by omega) (by omega) (by omega) (fun r43 e43 b43 => ?_)
  have i43 := b2i_i e43
  refine r_ifne (pc := 46) (tgt := 52) dX11_polyline_46 rfl (by omega) (fun h46 => ?_) (fun h46 => ?_)
  · refine r_iload (pc := 52) dX11_polyline_52 rfl ?_
    refine r_iconst (pc := 54) (n := 0) dX11_polyline_54 ?_
    refine r_sipush (pc := 55) (n := 9999) dX11_polyline_55 (by decide) ?_
    refine c_X11_74 (pc := 58) rfl dX11_polyline_58 (by omega) (Nat.le_of_ble_eq_true rfl) ?_
    refine m_X11_within (d - 1) (by omega) (by assumption) (by omega) (by omega) (by omega) (fun r58 e58 b58 => ?_)
    have i58 := b2i_i e58
    refine r_ifeq (pc := 61) (tgt := 70) dX11_polyline_61 rfl (by omega) (fun h61 => ?_) (fun h61 => ?_)
    · refine r_ldc (pc := 70) (n := -1000000002) dX11_polyline_70 kw_X11_78 rfl ?_
      exact f_iret (pc := 72) dX11_polyline_72 rfl (by assumption) (hQ _ w (by unfold o_polyline; rw [if_neg (fun z => z iq), if_pos (by omega)]) hC (FRL.rf w) (by assumption))
    refine r_iload (pc := 64) dX11_polyline_64 rfl ?_
    refine r_iconst (pc := 66) (n := (-1)) dX11_polyline_66 ?_
    refine r_icmpge (pc := 67) (tgt := 73) dX11_polyline_67 rfl (by omega) (by omega) (fun h67 => ?_) (fun h67 => ?_)
    · refine r_aload (pc := 73) dX11_polyline_73 rfl ?_
      refine g_X11_85 (pc := 75) rfl dX11_polyline_75 (by assumption) (by first | assumption | rfl) (fun h75 => ?_)
      refine r_ifne (pc := 78) (tgt := 84) dX11_polyline_78 rfl (by omega) (fun h78 => ?_) (fun h78 => ?_)
      · refine r_aload_n (pc := 84) dX11_polyline_84 rfl ?_
        refine h_X11_54 (pc := 85) rfl dX11_polyline_85 ?_
        refine r_aload (pc := 88) dX11_polyline_88 rfl ?_
        refine r_iload_n (pc := 90) dX11_polyline_90 rfl ?_
        refine r_iload_n (pc := 91) dX11_polyline_91 rfl ?_
        refine r_iload (pc := 92) dX11_polyline_92 rfl ?_
        refine c_X11_212 (pc := 94) rfl dX11_polyline_94 (by first | assumption | rfl) (by omega) (Nat.le_of_ble_eq_true rfl) ?_
        refine m_X7_solve (t := t) (d - 1) (by omega) (by assumption) sq0 I0 (by omega) (by omega) (by omega) (fun w94 p94 f94 hw94 => ?_)
        have C94 : CLG G w94 := CLG_all hC (fun p e => f94 p (by omega))
        have FL94 : FRL w w94 := fun p e => f94 p (by omega)
        have PO : o_polyline G q a b t i = plS (fun j => valS (cx w (2 + 8 + 6 * q)) (a + j)) t (b - a) i a := by
          unfold o_polyline
          rw [if_neg (fun z => z iq), if_neg (by omega), if_neg (by omega)]
          exact (plS_cg I0 CV.sy a t (b - a) i).symm
        refine r_iload (pc := 97) dX11_polyline_97 rfl ?_
        refine r_iconst (pc := 99) (n := (-1)) dX11_polyline_99 ?_
        refine r_icmpne (pc := 100) (tgt := 113) dX11_polyline_100 rfl (by omega) (by omega) (fun h100 => ?_) (fun h100 => ?_)
        · refine r_aload_n (pc := 113) dX11_polyline_113 rfl ?_
          refine h_X11_54 (pc := 114) rfl dX11_polyline_114 ?_
          refine r_iload_n (pc := 117) dX11_polyline_117 rfl ?_
          refine r_iload (pc := 118) dX11_polyline_118 rfl ?_
          refine c_X11_219 (pc := 120) rfl dX11_polyline_120 (by first | assumption | rfl) (by omega) (Nat.le_of_ble_eq_true rfl) ?_
          refine m_X7_frameAt (n := b - a) (d - 1) (by omega) (by assumption) (by omega) (by omega) p94 (by omega) (by omega) (fun r120 e120 => ?_)
          exact f_iret (pc := 123) dX11_polyline_123 rfl (by assumption) (hQ _ _ (by rw [PO]; exact e120) C94 FL94 (by assumption))
        refine r_aload_n (pc := 103) dX11_polyline_103 rfl ?_
        refine h_X11_54 (pc := 104) rfl dX11_polyline_104 ?_
        refine c_X11_216 (pc := 107) rfl dX11_polyline_107 (by first | assumption | rfl) (by omega) (Nat.le_of_ble_eq_true rfl) ?_
        refine m_X7_size (d - 1) (by omega) (by assumption) (fun r107 e107 b107 => ?_)
        have S107 := (p94 0 (by omega) (by omega)).1
        refine r_goto (pc := 110) (tgt := 123) dX11_polyline_110 rfl ?_
        exact f_iret (pc := 123) dX11_polyline_123 rfl (by assumption) (hQ _ _ (by rw [PO, e107, S107]; unfold plS; rw [if_pos (by omega)]) C94 FL94 (by assumption))
      refine r_ldc (pc := 81) (n := -1000000004) dX11_polyline_81 kw_X11_109 rfl ?_
      exact f_iret (pc := 83) dX11_polyline_83 rfl (by assumption) (hQ _ w (by unfold o_polyline; rw [if_neg (fun z => z iq), if_neg (by omega), if_pos (by omega)]) hC (FRL.rf w) (by assumption))
    refine r_ldc (pc := 70) (n := -1000000002) dX11_polyline_70 kw_X11_78 rfl ?_
    exact f_iret (pc := 72) dX11_polyline_72 rfl (by assumption) (hQ _ w (by unfold o_polyline; rw [if_neg (fun z => z iq), if_pos (by omega)]) hC (FRL.rf w) (by assumption))
  refine r_ldc (pc := 49) (n := -1000000002) dX11_polyline_49 kw_X11_78 rfl ?_
  exact f_iret (pc := 51) dX11_polyline_51 rfl (by assumption) (hQ _ w (by unfold o_polyline; rw [if_neg (fun z => z iq), if_pos (by omega)]) hC (FRL.rf w) (by assumption))
set_option maxRecDepth 8000 in
theorem x_polyline_b {Q : Option AV → Wd → Prop} {w : Wd} (d : Nat) {q : Int} {a b t i : Int} (hd : 9 ≤ d) (hw : WR w) (hq : ¬ inC q) (rq : R32 q) (ra : R32 a) (rb : R32 b) (rt : R32 t) (ri : R32 i) (hQ : Q (some (vI (-1000000001))) w) : M mX11_polyline (Rm d) [vR (some 1), vI q, vI a, vI b, vI t, vI i] (fl w) (lQ Q) := by
  have hq : ¬ (0 ≤ q ∧ q ≤ 3) := hq
  refine f_mofv (L0 := [some (vR (some 1)), some (vI q), some (vI a), some (vI b), some (vI t), some (vI i), none]) rfl (Nat.le_of_ble_eq_true rfl) rfl ?_
  refine r_aload_n (pc := 0) dX11_polyline_0 rfl ?_
  refine h_X11_10 (pc := 1) rfl dX11_polyline_1 ?_
  refine r_iload_n (pc := 4) dX11_polyline_4 rfl ?_
  refine c_X11_69 (pc := 5) rfl dX11_polyline_5 (by first | assumption | rfl) (by omega) (Nat.le_of_ble_eq_true rfl) ?_
  refine m_X8_curveAtN (d - 1) (by omega) (by assumption) (show sh 2 = 8 from rfl) (by omega) (by omega) ?_
  refine r_astoreN6 (pc := 8) dX11_polyline_8 rfl ?_
  refine r_aloadN (pc := 10) dX11_polyline_10 rfl ?_
  refine r_ifnonnull_n (pc := 12) dX11_polyline_12 ?_
  refine r_ldc (pc := 15) (n := -1000000001) dX11_polyline_15 kw_X11_73 rfl ?_
  exact f_iret (pc := 17) dX11_polyline_17 rfl (by assumption) hQ
theorem x_polyline {Q : Option AV → Wd → Prop} {w : Wd} (d : Nat) {G : GS} {q : Int} {a b t i : Int} (hd : 9 ≤ d) (hw : WR w) (hG : GOK G) (hC : CLG G w) (rq : R32 q) (ra : R32 a) (rb : R32 b) (rt : R32 t) (ri : R32 i) (hQ : ∀ r w2, r = o_polyline G q a b t i → CLG G w2 → FRL w w2 → WR w2 → Q (some (vI r)) w2) : M mX11_polyline (Rm d) [vR (some 1), vI q, vI a, vI b, vI t, vI i] (fl w) (lQ Q) := by
  by_cases hq : inC q
  · obtain ⟨p, rfl⟩ : ∃ p : Nat, q = p := ⟨q.toNat, by have h : 0 ≤ q ∧ q ≤ 3 := hq; omega⟩
    have h : 0 ≤ (p : Int) ∧ (p : Int) ≤ 3 := hq
    exact x_polyline_k d hd hw hG hC (by omega) ra rb rt ri hQ
  · exact x_polyline_b d hd hw hq rq ra rb rt ri (hQ _ w (by unfold o_polyline; rw [if_pos hq]) hC (FRL.rf w) hw)
set_option maxRecDepth 8000 in
theorem x_decimate_k {Q : Option AV → Wd → Prop} {w : Wd} (d : Nat) {G : GS} {q : Nat} {t : Int} (hd : 9 ≤ d) (hw : WR w) (hG : GOK G) (hC : CLG G w) (hq4 : q < 4) (rt : R32 t) (hQ : ∀ r w2, r = (o_decimate G q t).1 → CLG (o_decimate G q t).2 w2 → FRL w w2 → WR w2 → Q (some (vI r)) w2) : M mX11_decimate (Rm d) [vR (some 1), vI q, vI t] (fl w) (lQ Q) := by
  have hr34 := CLG.hr hG hC
  have CV := hC.cv hq4
  have I0 := hC.ci hq4
  have sq0 : sh (2 + 8 + 6 * q) = 0 := (sh_sta (c := 2) rfl).2.2.2 q hq4
  obtain ⟨s1, s2, s3, s4, s5⟩ := sh_curve sq0
  have hn : 0 ≤ w (2 + 8 + 6 * q) 0 ∧ w (2 + 8 + 6 * q) 0 ≤ 24 := I0.1
  have eN : G.now.c q 0 0 = w (2 + 8 + 6 * q) 0 := CV.1
  have iq : inC (q : Int) := ⟨by omega, by omega⟩
  refine f_mofv (L0 := [some (vR (some 1)), some (vI q), some (vI t), none]) rfl (Nat.le_of_ble_eq_true rfl) rfl ?_
  refine r_aload_n (pc := 0) dX11_decimate_0 rfl ?_
  refine h_X11_10 (pc := 1) rfl dX11_decimate_1 ?_
  refine r_iload_n (pc := 4) dX11_decimate_4 rfl ?_
  refine c_X11_69 (pc := 5) rfl dX11_decimate_5 (by first | assumption | rfl) (by omega) (Nat.le_of_ble_eq_true rfl) ?_
  refine m_X8_curveAt (q := q) (d - 1) (by omega) (by assumption) (show sh 2 = 8 from rfl) hq4 rfl ?_
  refine r_astore3 (pc := 8) dX11_decimate_8 rfl ?_
  refine r_aload_n (pc := 9) dX11_decimate_9 rfl ?_
  refine r_ifnonnull_s (pc := 10) (tgt := 16) dX11_decimate_10 rfl ?_
  refine r_iload_n (pc := 16) dX11_decimate_16 rfl ?_
  refine r_iconst (pc := 17) (n := 0) dX11_decimate_17 ?_
  refine r_sipush (pc := 18) (n := 9999) dX11_decimate_18 (by decide) ?_
  refine c_X11_74 (pc := 21) rfl dX11_decimate_21 (by omega) (Nat.le_of_ble_eq_true rfl) ?_
  refine m_X11_within (d - 1) (by omega) (by assumption) (by omega) (by omega) (by omega) (fun r21 e21 b21 => ?_)
  have i21 := b2i_i e21
  refine r_ifne (pc := 24) (tgt := 30) dX11_decimate_24 rfl (by omega) (fun h24 => ?_) (fun h24 => ?_)
  · refine r_aload_n (pc := 30) dX11_decimate_30 rfl ?_
    refine h_X11_19 (pc := 31) rfl dX11_decimate_31 ?_
    refine r_aload_n (pc := 34) dX11_decimate_34 rfl ?_
    refine h_X11_10 (pc := 35) rfl dX11_decimate_35 ?_
    refine c_X11_90 (pc := 38) rfl dX11_decimate_38 (by first | assumption | rfl) (by omega) (Nat.le_of_ble_eq_true rfl) ?_
    refine m_X5_record (d - 1) (by omega) (by assumption) hr34 (SCL.sn hC.1) (fun w38 rec38 hw38 => ?_)
    obtain ⟨C38, F38⟩ := CLG_rec hG hC rec38
    obtain ⟨E38, I38, V38⟩ := rec_cur hq4 hC F38
    have N38 : w38 (2 + 8 + 6 * q) 0 = w (2 + 8 + 6 * q) 0 := by rw [F38 _ (by omega) (by omega)]
    have FL38 : FRL w w38 := fun p e => F38 p (by omega) (by omega)
    refine r_aload_n (pc := 41) dX11_decimate_41 rfl ?_
    refine h_X11_61 (pc := 42) rfl dX11_decimate_42 ?_
    refine r_aload_n (pc := 45) dX11_decimate_45 rfl ?_
    refine r_iload_n (pc := 46) dX11_decimate_46 rfl ?_
    refine c_X11_222 (pc := 47) rfl dX11_decimate_47 (by first | assumption | rfl) (by omega) (Nat.le_of_ble_eq_true rfl) ?_
    refine m_X2_reduce (d - 1) (by omega) (by assumption) sq0 (by omega) I38 (by omega) (fun r47 w47 e47 c47 f47 hw47 => ?_)
    have V47 := V38.dec2 I38 t
    have C47 := CLG_cur (w2 := w47) (X := decX (G.now.c q) t) hq4 C38 (fun p a b => f47 p (by omega) (by omega)) (V47.tr c47.sy.v) ((CI_dec I38 t).eq c47.sy)
    have n47 := V47.1
    have o : o_decimate G q t = (G.now.c q 0 0 - decX (G.now.c q) t 0 0, setC (recG G) q (decX (G.now.c q) t)) := by
      unfold o_decimate
      rw [if_neg (fun z => z iq), if_neg (by omega)]
    exact f_iret (pc := 50) dX11_decimate_50 rfl (by assumption) (hQ _ _ (fst_e o (by omega)) (snd_e o C47) (FL38.tr (fun p e => f47 p (by omega) (by omega))) (by assumption))
  have o : o_decimate G q t = (-1000000002, G) := by
    unfold o_decimate
    rw [if_neg (fun z => z iq), if_pos (by omega)]
  refine r_ldc (pc := 27) (n := -1000000002) dX11_decimate_27 kw_X11_78 rfl ?_
  exact f_iret (pc := 29) dX11_decimate_29 rfl (by assumption) (hQ _ _ (fst_e o (by omega)) (snd_e o hC) (FRL.rf w) (by assumption))
set_option maxRecDepth 8000 in
theorem x_decimate_b {Q : Option AV → Wd → Prop} {w : Wd} (d : Nat) {q : Int} {t : Int} (hd : 9 ≤ d) (hw : WR w) (hq : ¬ inC q) (rq : R32 q) (rt : R32 t) (hQ : Q (some (vI (-1000000001))) w) : M mX11_decimate (Rm d) [vR (some 1), vI q, vI t] (fl w) (lQ Q) := by
  have hq : ¬ (0 ≤ q ∧ q ≤ 3) := hq
  refine f_mofv (L0 := [some (vR (some 1)), some (vI q), some (vI t), none]) rfl (Nat.le_of_ble_eq_true rfl) rfl ?_
  refine r_aload_n (pc := 0) dX11_decimate_0 rfl ?_
  refine h_X11_10 (pc := 1) rfl dX11_decimate_1 ?_
  refine r_iload_n (pc := 4) dX11_decimate_4 rfl ?_
  refine c_X11_69 (pc := 5) rfl dX11_decimate_5 (by first | assumption | rfl) (by omega) (Nat.le_of_ble_eq_true rfl) ?_
  refine m_X8_curveAtN (d - 1) (by omega) (by assumption) (show sh 2 = 8 from rfl) (by omega) (by omega) ?_
  refine r_astoreN3 (pc := 8) dX11_decimate_8 rfl ?_
  refine r_aload_nN (pc := 9) dX11_decimate_9 rfl ?_
  refine r_ifnonnull_n (pc := 10) dX11_decimate_10 ?_
  refine r_ldc (pc := 13) (n := -1000000001) dX11_decimate_13 kw_X11_73 rfl ?_
  exact f_iret (pc := 15) dX11_decimate_15 rfl (by assumption) hQ
theorem x_decimate {Q : Option AV → Wd → Prop} {w : Wd} (d : Nat) {G : GS} {q : Int} {t : Int} (hd : 9 ≤ d) (hw : WR w) (hG : GOK G) (hC : CLG G w) (rq : R32 q) (rt : R32 t) (hQ : ∀ r w2, r = (o_decimate G q t).1 → CLG (o_decimate G q t).2 w2 → FRL w w2 → WR w2 → Q (some (vI r)) w2) : M mX11_decimate (Rm d) [vR (some 1), vI q, vI t] (fl w) (lQ Q) := by
  by_cases hq : inC q
  · obtain ⟨p, rfl⟩ : ∃ p : Nat, q = p := ⟨q.toNat, by have h : 0 ≤ q ∧ q ≤ 3 := hq; omega⟩
    have h : 0 ≤ (p : Int) ∧ (p : Int) ≤ 3 := hq
    exact x_decimate_k d hd hw hG hC (by omega) rt hQ
  · have o : o_decimate G q t = (-1000000001, G) := by
      unfold o_decimate
      exact if_pos hq
    exact x_decimate_b d hd hw hq rq rt (hQ _ w (by rw [o]) (by rw [o]; exact hC) (FRL.rf w) hw)
