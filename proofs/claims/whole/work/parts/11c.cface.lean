/-! the class's calls -/
theorem CLG.hr {G : GS} {w : Wd} (hG : GOK G) (h : CLG G w) : (0 ≤ w 34 0 ∧ w 34 0 < 10) ∧ 0 ≤ w 34 1 ∧ w 34 1 ≤ 10 := ⟨h.2.2.1, by rw [h.2.1]; exact hG.2.1.1, by rw [h.2.1]; exact hG.2.1.2⟩
theorem rec_cur {G : GS} {w w1 : Wd} {q : Nat} (hq4 : q < 4) (hC : CLG G w) (F : ∀ p, p ≠ 34 → (p < 36 ∨ 355 < p) → w1 p = w p) : CEQ (cx w (2 + 8 + 6 * q)) (cx w1 (2 + 8 + 6 * q)) ∧ CI (cx w1 (2 + 8 + 6 * q)) ∧ CEV (G.now.c q) (cx w1 (2 + 8 + 6 * q)) := by
  have E : CEQ (cx w (2 + 8 + 6 * q)) (cx w1 (2 + 8 + 6 * q)) := CEQ.of_eq fun r hr j => by
    unfold cx
    rw [F _ (by omega) (by omega)]
  exact ⟨E, (hC.ci hq4).eq E, (hC.cv hq4).tr E.v⟩
theorem fst_e {a b : Int} {G : GS} {o : Int × GS} (h : o = (b, G)) (e : a = b) : a = o.1 := by rw [h]; exact e
theorem snd_e {G : GS} {b : Int} {w : Wd} {o : Int × GS} (h : o = (b, G)) (e : CLG G w) : CLG o.2 w := by rw [h]; exact e
theorem stX_com {X : CP} {k z a b : Int} : stX (stX (stX X 3 k z) 4 k a) 5 k b = stX (stX (stX X 4 k a) 5 k b) 3 k z := by
  funext p i
  unfold stX
  grind
theorem CI_clr (X : CP) : CI (stX (stX (stX X 0 0 0) 0 1 0) 0 2 0) := by
  have e : stX (stX (stX X 0 0 0) 0 1 0) 0 2 0 0 0 = 0 := by rw [stX_j (by omega), stX_j (by omega), stX_y]
  have e1 : stX (stX (stX X 0 0 0) 0 1 0) 0 2 0 0 1 = 0 := by rw [stX_j (by omega), stX_y]
  have e2 : stX (stX (stX X 0 0 0) 0 1 0) 0 2 0 0 2 = 0 := stX_y
  refine ⟨by omega, fun j a b => by omega, fun i j a b c => by omega, by omega, by omega, by omega, by omega⟩
theorem CI_ext {X : CP} (h : CI X) {a b : Int} (ha : 0 ≤ a ∧ a ≤ 4) (hb : 0 ≤ b ∧ b ≤ 4) : CI (stX (stX X 0 1 a) 0 2 b) := by
  obtain ⟨h1, h2, h3, -⟩ := h
  have e : stX (stX X 0 1 a) 0 2 b 0 0 = X 0 0 := by rw [stX_j (by omega), stX_j (by omega)]
  have e1 : stX (stX X 0 1 a) 0 2 b 0 1 = a := by rw [stX_j (by omega), stX_y]
  have e2 : stX (stX X 0 1 a) 0 2 b 0 2 = b := stX_y
  have r : ∀ (r : Nat) (j : Int), r ≠ 0 → stX (stX X 0 1 a) 0 2 b r j = X r j := fun r j z => by rw [stX_r z, stX_r z]
  refine ⟨by omega, fun j u v => ?_, fun i j u v c => ?_, by omega, by omega, by omega, by omega⟩
  · rw [r 1 j (by omega), r 2 j (by omega), r 3 j (by omega), r 4 j (by omega), r 5 j (by omega)]
    exact h2 j u (by omega)
  · rw [r 1 i (by omega), r 1 j (by omega)]
    exact h3 i j u v (by omega)
theorem fin_one {X : CP} (h : CI X) {i j : Int} (hi0 : 0 ≤ i) (hi : i < X 0 0) (hj : j < X 0 0) (hj0 : 0 ≤ j) (e : X 1 i = X 1 j) : i = j := by
  rcases Int.lt_trichotomy i j with z | z | z
  · have := h.2.2.1 i j hi0 z hj; omega
  · exact z
  · have := h.2.2.1 j i hj0 z hi; omega
theorem CI_mov {X : CP} (h : CI X) {k t : Int} (hk : 0 ≤ k ∧ k < X 0 0) (ht : 0 ≤ t ∧ t ≤ 480) (ne : ∀ j, 0 ≤ j → j < X 0 0 → X 1 j = t → j = k) : CI (movX X k t) := by
  have D := CI_del h hk
  have K := kbX_KB (X := delX X k) D.1.1 t
  have P := h.2.1 k hk.1 hk.2
  have n := h.1
  have a1 : (1 : Nat) ≤ 1 := by omega
  refine CI_ins (v := v5 t (X 2 k) (X 3 k) (X 4 k) (X 5 k)) D (by rw [delX_n]; omega) K (fun z e => ?_) (by show KI t (X 2 k) (X 3 k) (X 4 k) (X 5 k); unfold KI; omega)
  have e : delX X k 1 (kbX (delX X k) t) = t := e
  rw [delX_n] at z
  rcases Int.lt_or_le (kbX (delX X k) t) k with y | y
  · rw [delX_lt a1 y] at e
    have := ne _ K.1 (by omega) e
    omega
  · rw [delX_ge a1 y] at e
    have := ne _ (by omega) (by omega) e
    omega
theorem chmX_r {X : CP} {k m : Int} {r : Nat} {j : Int} (h : r < 3) : chmX X k m r j = X r j := by
  unfold chmX
  split
  · rw [stX_r (by omega), stX_r (by omega), stX_r (by omega)]
  · rw [stX_r (by omega)]
theorem freX_r {X : CP} {k : Int} {r : Nat} {j : Int} (h : r < 3) : freX X k r j = X r j := by
  unfold freX
  split
  · rfl
  · exact chmX_r h
theorem spY_r {X : CP} {b : Int} {r : Nat} {j : Int} (h : r < 3) : spY X b r j = X r j := (freX_r h).trans (freX_r h)
theorem spY_cv {X Y : CP} (e : CEV X Y) {b : Int} (hb : 1 ≤ b ∧ b < X 0 0) : CEV (spY X b) (spY Y b) := (e.fre (k := b - 1) ⟨by omega, by omega⟩).fre ⟨by omega, by rw [freX_n]; omega⟩
theorem spH_bd {X : CP} (h : CI X) {f b : Int} (hb : 1 ≤ b ∧ b < X 0 0) : -999 ≤ spH X f b ∧ spH X f b ≤ 999 := by
  have P := h.2.1 (b - 1) (by omega) (by omega)
  unfold spH
  split
  · exact ⟨P.2.2.1, P.2.2.2.1⟩
  · exact lim_bd _ (by omega)
theorem spS_bd (X : CP) (f : Int) : -9999 ≤ spS X f ∧ spS X f ≤ 9999 := lim_bd _ (by omega)
theorem spM_bd {x : Int} : 0 ≤ (if x = 6 then (6 : Int) else 0) ∧ (if x = 6 then (6 : Int) else 0) ≤ 6 := by split <;> omega
theorem CI_in2 {Y : CP} (D : CI Y) {f a m s : Int} (hn : Y 0 0 ≤ 23) (hf : 0 ≤ f ∧ f ≤ 480) (ha : -999 ≤ a ∧ a ≤ 999) (hm : 0 ≤ m ∧ m ≤ 6) (hs : -9999 ≤ s ∧ s ≤ 9999) (ne : ∀ j, 0 ≤ j → j < Y 0 0 → Y 1 j ≠ f) : CI (insX Y (kbX Y f) (v5 f a m s s)) := by
  have K := kbX_KB (X := Y) D.1.1 f
  have KK : KI f a m s s := ⟨hf.1, hf.2, ha.1, ha.2, hm.1, hm.2, hs.1, hs.2, hs.1, hs.2⟩
  exact CI_ins (v := v5 f a m s s) D hn K (fun z => ne _ K.1 z) KK
theorem CI_spl {X : CP} (h : CI X) {f b : Int} (hb : 1 ≤ b ∧ b < X 0 0) (hn : X 0 0 ≤ 23) (hf : 0 ≤ f ∧ f ≤ 480) (ne : ∀ j, 0 ≤ j → j < X 0 0 → X 1 j ≠ f) : CI (spX X f b) := by
  unfold spX
  refine CI_in2 (CI_fre (CI_fre h _) _) ?_ hf (spH_bd h hb) spM_bd (spS_bd X f) (fun j j0 j1 => ?_)
  · show spY X b 0 0 ≤ 23
    rw [spY_r (by omega)]
    exact hn
  · have j1 : j < spY X b 0 0 := j1
    rw [spY_r (by omega)] at j1
    have e : spY X b 1 j = X 1 j := spY_r (by omega)
    exact fun z => ne j j0 j1 (e.symm.trans z)
theorem kw_X11_73 : Jvm.Cond.constant RX11 73 (-1000000001 : Int32) ∈ gW := gw_t 275 (by decide +kernel) (by decide +kernel)
theorem kw_X11_78 : Jvm.Cond.constant RX11 78 (-1000000002 : Int32) ∈ gW := gw_t 279 (by decide +kernel) (by decide +kernel)
theorem kw_X11_89 : Jvm.Cond.constant RX11 89 (-1000000003 : Int32) ∈ gW := gw_t 295 (by decide +kernel) (by decide +kernel)
theorem kw_X11_109 : Jvm.Cond.constant RX11 109 (-1000000004 : Int32) ∈ gW := gw_t 360 (by decide +kernel) (by decide +kernel)
theorem kw_X11_158 : Jvm.Cond.constant RX11 158 (-1000000005 : Int32) ∈ gW := gw_t 503 (by decide +kernel) (by decide +kernel)
set_option maxRecDepth 8000 in
theorem x_setKey_k {Q : Option AV → Wd → Prop} {w : Wd} (d : Nat) {G : GS} {q : Nat} {f v : Int} (hd : 6 ≤ d) (hw : WR w) (hG : GOK G) (hC : CLG G w) (hq4 : q < 4) (rf : R32 f) (rv : R32 v) (hQ : ∀ r w2, r = (o_setKey G q f v).1 → CLG (o_setKey G q f v).2 w2 → FRL w w2 → WR w2 → Q (some (vI r)) w2) : M mX11_setKey (Rm d) [vR (some 1), vI q, vI f, vI v] (fl w) (lQ Q) := by
  have hr34 := CLG.hr hG hC
  have CV := hC.cv hq4
  have I0 := hC.ci hq4
  have sq0 : sh (2 + 8 + 6 * q) = 0 := (sh_sta (c := 2) rfl).2.2.2 q hq4
  obtain ⟨s1, s2, s3, s4, s5⟩ := sh_curve sq0
  have hn : 0 ≤ w (2 + 8 + 6 * q) 0 ∧ w (2 + 8 + 6 * q) 0 ≤ 24 := I0.1
  have eN : G.now.c q 0 0 = w (2 + 8 + 6 * q) 0 := CV.1
  have iq : inC (q : Int) := ⟨by omega, by omega⟩
  refine f_mofv (L0 := [some (vR (some 1)), some (vI q), some (vI f), some (vI v), none, none]) rfl (Nat.le_of_ble_eq_true rfl) rfl ?_
  refine r_aload_n (pc := 0) dX11_setKey_0 rfl ?_
  refine h_X11_10 (pc := 1) rfl dX11_setKey_1 ?_
  refine r_iload_n (pc := 4) dX11_setKey_4 rfl ?_
  refine c_X11_69 (pc := 5) rfl dX11_setKey_5 (by first | assumption | rfl) (by omega) (Nat.le_of_ble_eq_true rfl) ?_
  refine m_X8_curveAt (q := q) (d - 1) (by omega) (by assumption) (show sh 2 = 8 from rfl) hq4 rfl ?_
  refine r_astore4 (pc := 8) dX11_setKey_8 rfl ?_
  refine r_aload (pc := 10) dX11_setKey_10 rfl ?_
  refine r_ifnonnull_s (pc := 12) (tgt := 18) dX11_setKey_12 rfl ?_
  refine r_iload_n (pc := 18) dX11_setKey_18 rfl ?_
  refine r_iconst (pc := 19) (n := 0) dX11_setKey_19 ?_
  refine r_sipush (pc := 20) (n := 480) dX11_setKey_20 (by decide) ?_
  refine c_X11_74 (pc := 23) rfl dX11_setKey_23 (by omega) (Nat.le_of_ble_eq_true rfl) ?_
  refine m_X11_within (d - 1) (by omega) (by assumption) (by omega) (by omega) (by omega) (fun r23 e23 b23 => ?_)
  have i23 := b2i_i e23
  refine r_ifeq (pc := 26) (tgt := 42) dX11_setKey_26 rfl (by omega) (fun h26 => ?_) (fun h26 => ?_)
  · have o : o_setKey G q f v = (-1000000002, G) := by
      unfold o_setKey
      rw [if_neg (fun z => z iq), if_pos (by omega)]
    refine r_ldc (pc := 42) (n := -1000000002) dX11_setKey_42 kw_X11_78 rfl ?_
    exact f_iret (pc := 44) dX11_setKey_44 rfl (by assumption) (hQ _ _ (fst_e o (by omega)) (snd_e o hC) (FRL.rf w) (by assumption))
  refine r_iload_n (pc := 29) dX11_setKey_29 rfl ?_
  refine r_sipush (pc := 30) (n := (-999)) dX11_setKey_30 (by decide) ?_
  refine r_sipush (pc := 33) (n := 999) dX11_setKey_33 (by decide) ?_
  refine c_X11_74 (pc := 36) rfl dX11_setKey_36 (by omega) (Nat.le_of_ble_eq_true rfl) ?_
  refine m_X11_within (d - 1) (by omega) (by assumption) (by omega) (by omega) (by omega) (fun r36 e36 b36 => ?_)
  have i36 := b2i_i e36
  refine r_ifne (pc := 39) (tgt := 45) dX11_setKey_39 rfl (by omega) (fun h39 => ?_) (fun h39 => ?_)
  · refine r_aload (pc := 45) dX11_setKey_45 rfl ?_
    refine r_iload_n (pc := 47) dX11_setKey_47 rfl ?_
    refine c_X11_79 (pc := 48) rfl dX11_setKey_48 (by first | assumption | rfl) (by omega) (Nat.le_of_ble_eq_true rfl) ?_
    refine m_X0_find (d - 1) (by omega) (by assumption) sq0 (by omega) (by omega) (fun r48 k48 b48 e48 => ?_)
    have e48 := fin_KB (X := cx w (2 + 8 + 6 * q)) I0.1.1 b48 e48
    have f48 := fin_b I0 e48
    have f48a := fin_in I0 e48
    have f48n : 0 ≤ r48 → r48 < w (2 + 8 + 6 * q) 0 := fun z => (f48a z).1
    have f48b := fin_no I0 e48
    rw [← fin_cg CV (by rw [eN]; omega)] at e48
    refine r_istore5 (pc := 51) dX11_setKey_51 rfl ?_
    refine r_iload (pc := 53) dX11_setKey_53 rfl ?_
    refine r_ifge (pc := 55) (tgt := 71) dX11_setKey_55 rfl (by omega) (fun h55 => ?_) (fun h55 => ?_)
    · refine r_aload_n (pc := 71) dX11_setKey_71 rfl ?_
      refine h_X11_19 (pc := 72) rfl dX11_setKey_72 ?_
      refine r_aload_n (pc := 75) dX11_setKey_75 rfl ?_
      refine h_X11_10 (pc := 76) rfl dX11_setKey_76 ?_
      refine c_X11_90 (pc := 79) rfl dX11_setKey_79 (by first | assumption | rfl) (by omega) (Nat.le_of_ble_eq_true rfl) ?_
      refine m_X5_record (d - 1) (by omega) (by assumption) hr34 (SCL.sn hC.1) (fun w79 rec79 hw79 => ?_)
      obtain ⟨C79, F79⟩ := CLG_rec hG hC rec79
      obtain ⟨E79, I79, V79⟩ := rec_cur hq4 hC F79
      have N79 : w79 (2 + 8 + 6 * q) 0 = w (2 + 8 + 6 * q) 0 := by rw [F79 _ (by omega) (by omega)]
      have FL79 : FRL w w79 := fun p e => F79 p (by omega) (by omega)
      refine r_iload (pc := 82) dX11_setKey_82 rfl ?_
      refine r_ifge (pc := 84) (tgt := 101) dX11_setKey_84 rfl (by omega) (fun h84 => ?_) (fun h84 => ?_)
      · have o : o_setKey G q f v = (G.now.c q 0 0, setC (recG G) q (stX (G.now.c q) 2 r48 v)) := by
          unfold o_setKey
          rw [if_neg (fun z => z iq), if_neg (by omega), if_neg (by omega), if_neg (by omega), ← e48]
        refine r_aload (pc := 101) dX11_setKey_101 rfl ?_
        refine g_X11_98 (pc := 103) rfl dX11_setKey_103 (by first | assumption | rfl) ?_
        refine r_iload (pc := 106) dX11_setKey_106 rfl ?_
        refine r_iload_n (pc := 108) dX11_setKey_108 rfl ?_
        refine c_X11_101 (pc := 109) rfl dX11_setKey_109 (by omega) (Nat.le_of_ble_eq_true rfl) ?_
        refine m_X11_put (d - 1) (by omega) (by assumption) (n := 24) s2 (by omega) (by omega) (by omega) (fun w109 e109 hw109 => ?_)
        rw [pA_in (by omega) (by omega)] at e109
        have c109 : cx w109 (2 + 8 + 6 * q) = stX (cx w79 (2 + 8 + 6 * q)) 2 r48 v := by rw [e109]; exact cx_up (r := 2)
        have C109 := CLG_cur (w2 := w109) (X := stX (G.now.c q) 2 r48 v) hq4 C79 (fun p a b => by rw [e109]; exact up_ne (by omega)) (by rw [c109]; exact V79.st r48 v (by omega) (by omega)) (by rw [c109]; exact CI_st2 I79 (by omega))
        refine r_aload (pc := 112) dX11_setKey_112 rfl ?_
        refine g_X11_85 (pc := 114) rfl dX11_setKey_114 (by assumption) (by first | assumption | rfl) (fun h114 => ?_)
        exact f_iret (pc := 117) dX11_setKey_117 rfl (by assumption) (hQ _ _ (fst_e o (by rw [e109, up_ne (by omega)]; omega)) (snd_e o C109) (FL79.tr (fun p e => by rw [e109]; exact up_ne (by omega))) (by assumption))
      have o : o_setKey G q f v = (G.now.c q 0 0 + 1, setC (recG G) q (insX (G.now.c q) (kbX (G.now.c q) f) (v5 f v 3 0 0))) := by
        unfold o_setKey
        rw [if_neg (fun z => z iq), if_neg (by omega), if_neg (by omega), if_pos (by omega)]
      refine r_aload (pc := 87) dX11_setKey_87 rfl ?_
      refine r_iload_n (pc := 89) dX11_setKey_89 rfl ?_
      refine r_iload_n (pc := 90) dX11_setKey_90 rfl ?_
      refine r_iconst (pc := 91) (n := 3) dX11_setKey_91 ?_
      refine r_iconst (pc := 92) (n := 0) dX11_setKey_92 ?_
      refine r_iconst (pc := 93) (n := 0) dX11_setKey_93 ?_
      refine c_X11_94 (pc := 94) rfl dX11_setKey_94 (by first | assumption | rfl) (by omega) (Nat.le_of_ble_eq_true rfl) ?_
      refine m_X0_insert (d - 1) (by omega) (by assumption) sq0 (by omega) (by omega) (by omega) (by omega) (by omega) (by omega) (fun k94 w94 b94 f94 e94 hw94 => ?_)
      have kk94 := kbX_of (X := cx w79 (2 + 8 + 6 * q)) I79.1.1 b94
      rw [← kbX_cg V79] at kk94
      have c94 : CI (cx w94 (2 + 8 + 6 * q)) := (CI_ins (v := v5 f v 3 0 0) I79 (by show w79 (2 + 8 + 6 * q) 0 ≤ 23; omega) b94 (fun z => by rw [← E79.row (by omega) (by omega) b94.1 (by rw [E79.1]; exact z)]; exact f48b (by omega) _ b94.1 (by rw [E79.1]; exact z)) (by show KI f v 3 0 0; unfold KI; omega)).eq e94.sy
      have C94 := CLG_cur (w2 := w94) (X := insX (G.now.c q) (kbX (G.now.c q) f) (v5 f v 3 0 0)) hq4 C79 (fun p a b => f94 p (by omega)) (by rw [← kk94]; exact (insX_cv V79 ⟨b94.1, by rw [V79.1]; exact b94.2.1⟩ rfl rfl rfl (fun _ => ⟨rfl, rfl⟩)).tr e94.sy.v) c94
      have n94 : w94 (2 + 8 + 6 * q) 0 = w79 (2 + 8 + 6 * q) 0 + 1 := e94.1
      refine r_pop (pc := 97) dX11_setKey_97 rfl ?_
      refine r_goto (pc := 98) (tgt := 112) dX11_setKey_98 rfl ?_
      refine r_aload (pc := 112) dX11_setKey_112 rfl ?_
      refine g_X11_85 (pc := 114) rfl dX11_setKey_114 (by assumption) (by first | assumption | rfl) (fun h114 => ?_)
      exact f_iret (pc := 117) dX11_setKey_117 rfl (by assumption) (by exfalso; omega)
    refine r_aload (pc := 58) dX11_setKey_58 rfl ?_
    refine g_X11_85 (pc := 60) rfl dX11_setKey_60 (by assumption) (by first | assumption | rfl) (fun h60 => ?_)
    refine r_bipush (pc := 63) (n := 24) dX11_setKey_63 (by decide) ?_
    refine r_icmplt (pc := 65) (tgt := 71) dX11_setKey_65 rfl (by omega) (by omega) (fun h65 => ?_) (fun h65 => ?_)
    · refine r_aload_n (pc := 71) dX11_setKey_71 rfl ?_
      refine h_X11_19 (pc := 72) rfl dX11_setKey_72 ?_
      refine r_aload_n (pc := 75) dX11_setKey_75 rfl ?_
      refine h_X11_10 (pc := 76) rfl dX11_setKey_76 ?_
      refine c_X11_90 (pc := 79) rfl dX11_setKey_79 (by first | assumption | rfl) (by omega) (Nat.le_of_ble_eq_true rfl) ?_
      refine m_X5_record (d - 1) (by omega) (by assumption) hr34 (SCL.sn hC.1) (fun w79 rec79 hw79 => ?_)
      obtain ⟨C79, F79⟩ := CLG_rec hG hC rec79
      obtain ⟨E79, I79, V79⟩ := rec_cur hq4 hC F79
      have N79 : w79 (2 + 8 + 6 * q) 0 = w (2 + 8 + 6 * q) 0 := by rw [F79 _ (by omega) (by omega)]
      have FL79 : FRL w w79 := fun p e => F79 p (by omega) (by omega)
      refine r_iload (pc := 82) dX11_setKey_82 rfl ?_
      refine r_ifge (pc := 84) (tgt := 101) dX11_setKey_84 rfl (by omega) (fun h84 => ?_) (fun h84 => ?_)
      · have o : o_setKey G q f v = (G.now.c q 0 0, setC (recG G) q (stX (G.now.c q) 2 r48 v)) := by
          unfold o_setKey
          rw [if_neg (fun z => z iq), if_neg (by omega), if_neg (by omega), if_neg (by omega), ← e48]
        refine r_aload (pc := 101) dX11_setKey_101 rfl ?_
        refine g_X11_98 (pc := 103) rfl dX11_setKey_103 (by first | assumption | rfl) ?_
        refine r_iload (pc := 106) dX11_setKey_106 rfl ?_
        refine r_iload_n (pc := 108) dX11_setKey_108 rfl ?_
        refine c_X11_101 (pc := 109) rfl dX11_setKey_109 (by omega) (Nat.le_of_ble_eq_true rfl) ?_
        refine m_X11_put (d - 1) (by omega) (by assumption) (n := 24) s2 (by omega) (by omega) (by omega) (fun w109 e109 hw109 => ?_)
        rw [pA_in (by omega) (by omega)] at e109
        have c109 : cx w109 (2 + 8 + 6 * q) = stX (cx w79 (2 + 8 + 6 * q)) 2 r48 v := by rw [e109]; exact cx_up (r := 2)
        have C109 := CLG_cur (w2 := w109) (X := stX (G.now.c q) 2 r48 v) hq4 C79 (fun p a b => by rw [e109]; exact up_ne (by omega)) (by rw [c109]; exact V79.st r48 v (by omega) (by omega)) (by rw [c109]; exact CI_st2 I79 (by omega))
        refine r_aload (pc := 112) dX11_setKey_112 rfl ?_
        refine g_X11_85 (pc := 114) rfl dX11_setKey_114 (by assumption) (by first | assumption | rfl) (fun h114 => ?_)
        exact f_iret (pc := 117) dX11_setKey_117 rfl (by assumption) (by exfalso; omega)
      have o : o_setKey G q f v = (G.now.c q 0 0 + 1, setC (recG G) q (insX (G.now.c q) (kbX (G.now.c q) f) (v5 f v 3 0 0))) := by
        unfold o_setKey
        rw [if_neg (fun z => z iq), if_neg (by omega), if_neg (by omega), if_pos (by omega)]
      refine r_aload (pc := 87) dX11_setKey_87 rfl ?_
      refine r_iload_n (pc := 89) dX11_setKey_89 rfl ?_
      refine r_iload_n (pc := 90) dX11_setKey_90 rfl ?_
      refine r_iconst (pc := 91) (n := 3) dX11_setKey_91 ?_
      refine r_iconst (pc := 92) (n := 0) dX11_setKey_92 ?_
      refine r_iconst (pc := 93) (n := 0) dX11_setKey_93 ?_
      refine c_X11_94 (pc := 94) rfl dX11_setKey_94 (by first | assumption | rfl) (by omega) (Nat.le_of_ble_eq_true rfl) ?_
      refine m_X0_insert (d - 1) (by omega) (by assumption) sq0 (by omega) (by omega) (by omega) (by omega) (by omega) (by omega) (fun k94 w94 b94 f94 e94 hw94 => ?_)
      have kk94 := kbX_of (X := cx w79 (2 + 8 + 6 * q)) I79.1.1 b94
      rw [← kbX_cg V79] at kk94
      have c94 : CI (cx w94 (2 + 8 + 6 * q)) := (CI_ins (v := v5 f v 3 0 0) I79 (by show w79 (2 + 8 + 6 * q) 0 ≤ 23; omega) b94 (fun z => by rw [← E79.row (by omega) (by omega) b94.1 (by rw [E79.1]; exact z)]; exact f48b (by omega) _ b94.1 (by rw [E79.1]; exact z)) (by show KI f v 3 0 0; unfold KI; omega)).eq e94.sy
      have C94 := CLG_cur (w2 := w94) (X := insX (G.now.c q) (kbX (G.now.c q) f) (v5 f v 3 0 0)) hq4 C79 (fun p a b => f94 p (by omega)) (by rw [← kk94]; exact (insX_cv V79 ⟨b94.1, by rw [V79.1]; exact b94.2.1⟩ rfl rfl rfl (fun _ => ⟨rfl, rfl⟩)).tr e94.sy.v) c94
      have n94 : w94 (2 + 8 + 6 * q) 0 = w79 (2 + 8 + 6 * q) 0 + 1 := e94.1
      refine r_pop (pc := 97) dX11_setKey_97 rfl ?_
      refine r_goto (pc := 98) (tgt := 112) dX11_setKey_98 rfl ?_
      refine r_aload (pc := 112) dX11_setKey_112 rfl ?_
      refine g_X11_85 (pc := 114) rfl dX11_setKey_114 (by assumption) (by first | assumption | rfl) (fun h114 => ?_)
      exact f_iret (pc := 117) dX11_setKey_117 rfl (by assumption) (hQ _ _ (fst_e o (by omega)) (snd_e o C94) (FL79.tr (fun p e => f94 p (by omega))) (by assumption))
    have o : o_setKey G q f v = (-1000000003, G) := by
      unfold o_setKey
      rw [if_neg (fun z => z iq), if_neg (by omega), if_pos (by omega)]
    refine r_ldc (pc := 68) (n := -1000000003) dX11_setKey_68 kw_X11_89 rfl ?_
    exact f_iret (pc := 70) dX11_setKey_70 rfl (by assumption) (hQ _ _ (fst_e o (by omega)) (snd_e o hC) (FRL.rf w) (by assumption))
  have o : o_setKey G q f v = (-1000000002, G) := by
    unfold o_setKey
    rw [if_neg (fun z => z iq), if_pos (by omega)]
  refine r_ldc (pc := 42) (n := -1000000002) dX11_setKey_42 kw_X11_78 rfl ?_
  exact f_iret (pc := 44) dX11_setKey_44 rfl (by assumption) (hQ _ _ (fst_e o (by omega)) (snd_e o hC) (FRL.rf w) (by assumption))
set_option maxRecDepth 8000 in
theorem x_setKey_b {Q : Option AV → Wd → Prop} {w : Wd} (d : Nat) {q : Int} {f v : Int} (hd : 6 ≤ d) (hw : WR w) (hq : ¬ inC q) (rq : R32 q) (rf : R32 f) (rv : R32 v) (hQ : Q (some (vI (-1000000001))) w) : M mX11_setKey (Rm d) [vR (some 1), vI q, vI f, vI v] (fl w) (lQ Q) := by
  have hq : ¬ (0 ≤ q ∧ q ≤ 3) := hq
  refine f_mofv (L0 := [some (vR (some 1)), some (vI q), some (vI f), some (vI v), none, none]) rfl (Nat.le_of_ble_eq_true rfl) rfl ?_
  refine r_aload_n (pc := 0) dX11_setKey_0 rfl ?_
  refine h_X11_10 (pc := 1) rfl dX11_setKey_1 ?_
  refine r_iload_n (pc := 4) dX11_setKey_4 rfl ?_
  refine c_X11_69 (pc := 5) rfl dX11_setKey_5 (by first | assumption | rfl) (by omega) (Nat.le_of_ble_eq_true rfl) ?_
  refine m_X8_curveAtN (d - 1) (by omega) (by assumption) (show sh 2 = 8 from rfl) (by omega) (by omega) ?_
  refine r_astoreN4 (pc := 8) dX11_setKey_8 rfl ?_
  refine r_aloadN (pc := 10) dX11_setKey_10 rfl ?_
  refine r_ifnonnull_n (pc := 12) dX11_setKey_12 ?_
  refine r_ldc (pc := 15) (n := -1000000001) dX11_setKey_15 kw_X11_73 rfl ?_
  exact f_iret (pc := 17) dX11_setKey_17 rfl (by assumption) hQ
theorem x_setKey {Q : Option AV → Wd → Prop} {w : Wd} (d : Nat) {G : GS} {q : Int} {f v : Int} (hd : 6 ≤ d) (hw : WR w) (hG : GOK G) (hC : CLG G w) (rq : R32 q) (rf : R32 f) (rv : R32 v) (hQ : ∀ r w2, r = (o_setKey G q f v).1 → CLG (o_setKey G q f v).2 w2 → FRL w w2 → WR w2 → Q (some (vI r)) w2) : M mX11_setKey (Rm d) [vR (some 1), vI q, vI f, vI v] (fl w) (lQ Q) := by
  by_cases hq : inC q
  · obtain ⟨p, rfl⟩ : ∃ p : Nat, q = p := ⟨q.toNat, by have h : 0 ≤ q ∧ q ≤ 3 := hq; omega⟩
    have h : 0 ≤ (p : Int) ∧ (p : Int) ≤ 3 := hq
    exact x_setKey_k d hd hw hG hC (by omega) rf rv hQ
  · have o : o_setKey G q f v = (-1000000001, G) := by
      unfold o_setKey
      exact if_pos hq
    exact x_setKey_b d hd hw hq rq rf rv (hQ _ w (by rw [o]) (by rw [o]; exact hC) (FRL.rf w) hw)
set_option maxRecDepth 8000 in
theorem x_removeKey_k {Q : Option AV → Wd → Prop} {w : Wd} (d : Nat) {G : GS} {q : Nat} {f : Int} (hd : 6 ≤ d) (hw : WR w) (hG : GOK G) (hC : CLG G w) (hq4 : q < 4) (rf : R32 f) (hQ : ∀ r w2, r = (o_removeKey G q f).1 → CLG (o_removeKey G q f).2 w2 → FRL w w2 → WR w2 → Q (some (vI r)) w2) : M mX11_removeKey (Rm d) [vR (some 1), vI q, vI f] (fl w) (lQ Q) := by
  have hr34 := CLG.hr hG hC
  have CV := hC.cv hq4
  have I0 := hC.ci hq4
  have sq0 : sh (2 + 8 + 6 * q) = 0 := (sh_sta (c := 2) rfl).2.2.2 q hq4
  obtain ⟨s1, s2, s3, s4, s5⟩ := sh_curve sq0
  have hn : 0 ≤ w (2 + 8 + 6 * q) 0 ∧ w (2 + 8 + 6 * q) 0 ≤ 24 := I0.1
  have eN : G.now.c q 0 0 = w (2 + 8 + 6 * q) 0 := CV.1
  have iq : inC (q : Int) := ⟨by omega, by omega⟩
  refine f_mofv (L0 := [some (vR (some 1)), some (vI q), some (vI f), none, none]) rfl (Nat.le_of_ble_eq_true rfl) rfl ?_
  refine r_aload_n (pc := 0) dX11_removeKey_0 rfl ?_
  refine h_X11_10 (pc := 1) rfl dX11_removeKey_1 ?_
  refine r_iload_n (pc := 4) dX11_removeKey_4 rfl ?_
  refine c_X11_69 (pc := 5) rfl dX11_removeKey_5 (by first | assumption | rfl) (by omega) (Nat.le_of_ble_eq_true rfl) ?_
  refine m_X8_curveAt (q := q) (d - 1) (by omega) (by assumption) (show sh 2 = 8 from rfl) hq4 rfl ?_
  refine r_astore3 (pc := 8) dX11_removeKey_8 rfl ?_
  refine r_aload_n (pc := 9) dX11_removeKey_9 rfl ?_
  refine r_ifnonnull_s (pc := 10) (tgt := 17) dX11_removeKey_10 rfl ?_
  refine r_aload_n (pc := 17) dX11_removeKey_17 rfl ?_
  refine r_iload_n (pc := 18) dX11_removeKey_18 rfl ?_
  refine c_X11_79 (pc := 19) rfl dX11_removeKey_19 (by first | assumption | rfl) (by omega) (Nat.le_of_ble_eq_true rfl) ?_
  refine m_X0_find (d - 1) (by omega) (by assumption) sq0 (by omega) (by omega) (fun r19 k19 b19 e19 => ?_)
  have e19 := fin_KB (X := cx w (2 + 8 + 6 * q)) I0.1.1 b19 e19
  have f19 := fin_b I0 e19
  have f19a := fin_in I0 e19
  have f19n : 0 ≤ r19 → r19 < w (2 + 8 + 6 * q) 0 := fun z => (f19a z).1
  have f19b := fin_no I0 e19
  rw [← fin_cg CV (by rw [eN]; omega)] at e19
  refine r_istore4 (pc := 22) dX11_removeKey_22 rfl ?_
  refine r_aload_n (pc := 24) dX11_removeKey_24 rfl ?_
  refine r_ifnull_s (pc := 25) dX11_removeKey_25 ?_
  refine r_iload (pc := 28) dX11_removeKey_28 rfl ?_
  refine r_ifge (pc := 30) (tgt := 36) dX11_removeKey_30 rfl (by omega) (fun h30 => ?_) (fun h30 => ?_)
  · have o : o_removeKey G q f = (G.now.c q 0 0 - 1, setC (recG G) q (delX (G.now.c q) r19)) := by
      unfold o_removeKey
      rw [if_neg (fun z => z iq), if_neg (by omega), ← e19]
    refine r_aload_n (pc := 36) dX11_removeKey_36 rfl ?_
    refine h_X11_19 (pc := 37) rfl dX11_removeKey_37 ?_
    refine r_aload_n (pc := 40) dX11_removeKey_40 rfl ?_
    refine h_X11_10 (pc := 41) rfl dX11_removeKey_41 ?_
    refine c_X11_90 (pc := 44) rfl dX11_removeKey_44 (by first | assumption | rfl) (by omega) (Nat.le_of_ble_eq_true rfl) ?_
    refine m_X5_record (d - 1) (by omega) (by assumption) hr34 (SCL.sn hC.1) (fun w44 rec44 hw44 => ?_)
    obtain ⟨C44, F44⟩ := CLG_rec hG hC rec44
    obtain ⟨E44, I44, V44⟩ := rec_cur hq4 hC F44
    have N44 : w44 (2 + 8 + 6 * q) 0 = w (2 + 8 + 6 * q) 0 := by rw [F44 _ (by omega) (by omega)]
    have FL44 : FRL w w44 := fun p e => F44 p (by omega) (by omega)
    refine r_aload_n (pc := 47) dX11_removeKey_47 rfl ?_
    refine r_iload (pc := 48) dX11_removeKey_48 rfl ?_
    refine c_X11_105 (pc := 50) rfl dX11_removeKey_50 (by first | assumption | rfl) (by omega) (Nat.le_of_ble_eq_true rfl) ?_
    refine m_X0_drop (d - 1) (by omega) (by assumption) sq0 (by omega) (by omega) (fun w50 f50 e50 hw50 => ?_)
    have C50 := CLG_cur (w2 := w50) (X := delX (G.now.c q) r19) hq4 C44 (fun p a b => f50 p (by omega)) ((delX_cv V44 (by omega)).tr e50.sy.v) ((CI_del I44 (show 0 ≤ r19 ∧ r19 < w44 (2 + 8 + 6 * q) 0 by omega)).eq e50.sy)
    have n50 : w50 (2 + 8 + 6 * q) 0 = w44 (2 + 8 + 6 * q) 0 - 1 := e50.1
    refine r_aload_n (pc := 53) dX11_removeKey_53 rfl ?_
    refine g_X11_85 (pc := 54) rfl dX11_removeKey_54 (by assumption) (by first | assumption | rfl) (fun h54 => ?_)
    exact f_iret (pc := 57) dX11_removeKey_57 rfl (by assumption) (hQ _ _ (fst_e o (by omega)) (snd_e o C50) (FL44.tr (fun p e => f50 p (by omega))) (by assumption))
  have o : o_removeKey G q f = (-1000000001, G) := by
    unfold o_removeKey
    rw [if_neg (fun z => z iq), if_pos (by omega)]
  refine r_ldc (pc := 33) (n := -1000000001) dX11_removeKey_33 kw_X11_73 rfl ?_
  exact f_iret (pc := 35) dX11_removeKey_35 rfl (by assumption) (hQ _ _ (fst_e o (by omega)) (snd_e o hC) (FRL.rf w) (by assumption))
set_option maxRecDepth 8000 in
theorem x_removeKey_b {Q : Option AV → Wd → Prop} {w : Wd} (d : Nat) {q : Int} {f : Int} (hd : 6 ≤ d) (hw : WR w) (hq : ¬ inC q) (rq : R32 q) (rf : R32 f) (hQ : Q (some (vI (-1000000001))) w) : M mX11_removeKey (Rm d) [vR (some 1), vI q, vI f] (fl w) (lQ Q) := by
  have hq : ¬ (0 ≤ q ∧ q ≤ 3) := hq
  refine f_mofv (L0 := [some (vR (some 1)), some (vI q), some (vI f), none, none]) rfl (Nat.le_of_ble_eq_true rfl) rfl ?_
  refine r_aload_n (pc := 0) dX11_removeKey_0 rfl ?_
  refine h_X11_10 (pc := 1) rfl dX11_removeKey_1 ?_
  refine r_iload_n (pc := 4) dX11_removeKey_4 rfl ?_
  refine c_X11_69 (pc := 5) rfl dX11_removeKey_5 (by first | assumption | rfl) (by omega) (Nat.le_of_ble_eq_true rfl) ?_
  refine m_X8_curveAtN (d - 1) (by omega) (by assumption) (show sh 2 = 8 from rfl) (by omega) (by omega) ?_
  refine r_astoreN3 (pc := 8) dX11_removeKey_8 rfl ?_
  refine r_aload_nN (pc := 9) dX11_removeKey_9 rfl ?_
  refine r_ifnonnull_n (pc := 10) dX11_removeKey_10 ?_
  refine r_iconst (pc := 13) (n := (-1)) dX11_removeKey_13 ?_
  refine r_goto (pc := 14) (tgt := 22) dX11_removeKey_14 rfl ?_
  refine r_istore4 (pc := 22) dX11_removeKey_22 rfl ?_
  refine r_aload_nN (pc := 24) dX11_removeKey_24 rfl ?_
  refine r_ifnull_n (pc := 25) (tgt := 33) dX11_removeKey_25 rfl ?_
  refine r_ldc (pc := 33) (n := -1000000001) dX11_removeKey_33 kw_X11_73 rfl ?_
  exact f_iret (pc := 35) dX11_removeKey_35 rfl (by assumption) hQ
theorem x_removeKey {Q : Option AV → Wd → Prop} {w : Wd} (d : Nat) {G : GS} {q : Int} {f : Int} (hd : 6 ≤ d) (hw : WR w) (hG : GOK G) (hC : CLG G w) (rq : R32 q) (rf : R32 f) (hQ : ∀ r w2, r = (o_removeKey G q f).1 → CLG (o_removeKey G q f).2 w2 → FRL w w2 → WR w2 → Q (some (vI r)) w2) : M mX11_removeKey (Rm d) [vR (some 1), vI q, vI f] (fl w) (lQ Q) := by
  by_cases hq : inC q
  · obtain ⟨p, rfl⟩ : ∃ p : Nat, q = p := ⟨q.toNat, by have h : 0 ≤ q ∧ q ≤ 3 := hq; omega⟩
    have h : 0 ≤ (p : Int) ∧ (p : Int) ≤ 3 := hq
    exact x_removeKey_k d hd hw hG hC (by omega) rf hQ
  · have o : o_removeKey G q f = (-1000000001, G) := by
      unfold o_removeKey
      exact if_pos hq
    exact x_removeKey_b d hd hw hq rq rf (hQ _ w (by rw [o]) (by rw [o]; exact hC) (FRL.rf w) hw)
set_option maxRecDepth 8000 in
theorem x_moveKey_k {Q : Option AV → Wd → Prop} {w : Wd} (d : Nat) {G : GS} {q : Nat} {f t : Int} (hd : 6 ≤ d) (hw : WR w) (hG : GOK G) (hC : CLG G w) (hq4 : q < 4) (rf : R32 f) (rt : R32 t) (hQ : ∀ r w2, r = (o_moveKey G q f t).1 → CLG (o_moveKey G q f t).2 w2 → FRL w w2 → WR w2 → Q (some (vI r)) w2) : M mX11_moveKey (Rm d) [vR (some 1), vI q, vI f, vI t] (fl w) (lQ Q) := by
  have hr34 := CLG.hr hG hC
  have CV := hC.cv hq4
  have I0 := hC.ci hq4
  have sq0 : sh (2 + 8 + 6 * q) = 0 := (sh_sta (c := 2) rfl).2.2.2 q hq4
  obtain ⟨s1, s2, s3, s4, s5⟩ := sh_curve sq0
  have hn : 0 ≤ w (2 + 8 + 6 * q) 0 ∧ w (2 + 8 + 6 * q) 0 ≤ 24 := I0.1
  have eN : G.now.c q 0 0 = w (2 + 8 + 6 * q) 0 := CV.1
  have iq : inC (q : Int) := ⟨by omega, by omega⟩
  refine f_mofv (L0 := [some (vR (some 1)), some (vI q), some (vI f), some (vI t), none, none]) rfl (Nat.le_of_ble_eq_true rfl) rfl ?_
  refine r_aload_n (pc := 0) dX11_moveKey_0 rfl ?_
  refine h_X11_10 (pc := 1) rfl dX11_moveKey_1 ?_
  refine r_iload_n (pc := 4) dX11_moveKey_4 rfl ?_
  refine c_X11_69 (pc := 5) rfl dX11_moveKey_5 (by first | assumption | rfl) (by omega) (Nat.le_of_ble_eq_true rfl) ?_
  refine m_X8_curveAt (q := q) (d - 1) (by omega) (by assumption) (show sh 2 = 8 from rfl) hq4 rfl ?_
  refine r_astore4 (pc := 8) dX11_moveKey_8 rfl ?_
  refine r_aload (pc := 10) dX11_moveKey_10 rfl ?_
  refine r_ifnonnull_s (pc := 12) (tgt := 19) dX11_moveKey_12 rfl ?_
  refine r_aload (pc := 19) dX11_moveKey_19 rfl ?_
  refine r_iload_n (pc := 21) dX11_moveKey_21 rfl ?_
  refine c_X11_79 (pc := 22) rfl dX11_moveKey_22 (by first | assumption | rfl) (by omega) (Nat.le_of_ble_eq_true rfl) ?_
  refine m_X0_find (d - 1) (by omega) (by assumption) sq0 (by omega) (by omega) (fun r22 k22 b22 e22 => ?_)
  have e22 := fin_KB (X := cx w (2 + 8 + 6 * q)) I0.1.1 b22 e22
  have f22 := fin_b I0 e22
  have f22a := fin_in I0 e22
  have f22n : 0 ≤ r22 → r22 < w (2 + 8 + 6 * q) 0 := fun z => (f22a z).1
  have f22b := fin_no I0 e22
  rw [← fin_cg CV (by rw [eN]; omega)] at e22
  refine r_istore5 (pc := 25) dX11_moveKey_25 rfl ?_
  refine r_aload (pc := 27) dX11_moveKey_27 rfl ?_
  refine r_ifnull_s (pc := 29) dX11_moveKey_29 ?_
  refine r_iload (pc := 32) dX11_moveKey_32 rfl ?_
  refine r_ifge (pc := 34) (tgt := 40) dX11_moveKey_34 rfl (by omega) (fun h34 => ?_) (fun h34 => ?_)
  · refine r_iload_n (pc := 40) dX11_moveKey_40 rfl ?_
    refine r_iconst (pc := 41) (n := 0) dX11_moveKey_41 ?_
    refine r_sipush (pc := 42) (n := 480) dX11_moveKey_42 (by decide) ?_
    refine c_X11_74 (pc := 45) rfl dX11_moveKey_45 (by omega) (Nat.le_of_ble_eq_true rfl) ?_
    refine m_X11_within (d - 1) (by omega) (by assumption) (by omega) (by omega) (by omega) (fun r45 e45 b45 => ?_)
    have i45 := b2i_i e45
    refine r_ifne (pc := 48) (tgt := 54) dX11_moveKey_48 rfl (by omega) (fun h48 => ?_) (fun h48 => ?_)
    · refine r_iload_n (pc := 54) dX11_moveKey_54 rfl ?_
      refine r_iload_n (pc := 55) dX11_moveKey_55 rfl ?_
      refine r_icmpeq (pc := 56) (tgt := 71) dX11_moveKey_56 rfl (by omega) (by omega) (fun h56 => ?_) (fun h56 => ?_)
      · have NE : ∀ j, 0 ≤ j → j < cx w (2 + 8 + 6 * q) 0 0 → cx w (2 + 8 + 6 * q) 1 j = t → j = r22 := fun j j0 j1 e => fin_one I0 j0 j1 (f22a (by omega)).1 (by omega) (by rw [e, (f22a (by omega)).2]; omega)
        refine r_aload_n (pc := 71) dX11_moveKey_71 rfl ?_
        refine h_X11_19 (pc := 72) rfl dX11_moveKey_72 ?_
        refine r_aload_n (pc := 75) dX11_moveKey_75 rfl ?_
        refine h_X11_10 (pc := 76) rfl dX11_moveKey_76 ?_
        refine c_X11_90 (pc := 79) rfl dX11_moveKey_79 (by first | assumption | rfl) (by omega) (Nat.le_of_ble_eq_true rfl) ?_
        refine m_X5_record (d - 1) (by omega) (by assumption) hr34 (SCL.sn hC.1) (fun w79 rec79 hw79 => ?_)
        obtain ⟨C79, F79⟩ := CLG_rec hG hC rec79
        obtain ⟨E79, I79, V79⟩ := rec_cur hq4 hC F79
        have N79 : w79 (2 + 8 + 6 * q) 0 = w (2 + 8 + 6 * q) 0 := by rw [F79 _ (by omega) (by omega)]
        have FL79 : FRL w w79 := fun p e => F79 p (by omega) (by omega)
        refine r_aload (pc := 82) dX11_moveKey_82 rfl ?_
        refine r_iload (pc := 84) dX11_moveKey_84 rfl ?_
        refine r_iload_n (pc := 86) dX11_moveKey_86 rfl ?_
        refine c_X11_110 (pc := 87) rfl dX11_moveKey_87 (by first | assumption | rfl) (by omega) (Nat.le_of_ble_eq_true rfl) ?_
        have o : o_moveKey G q f t = (kbX (delX (G.now.c q) r22) t, setC (recG G) q (movX (G.now.c q) r22 t)) := by
          unfold o_moveKey
          rw [if_neg (fun z => z iq), if_neg (by omega), if_neg (by omega), if_neg (by omega), ← e22]
        have D79 := delX_cv V79 (k := r22) (by omega)
        refine m_X0_move (d - 1) (by omega) (by assumption) sq0 (by omega) (by omega) (by omega) (fun r87 w87 k87 f87 e87 hw87 => ?_)
        rw [← kbX_cg D79] at k87
        have KK := kbX_KB (X := delX (cx w79 (2 + 8 + 6 * q)) r22) (by rw [delX_n]; show 0 ≤ w79 (2 + 8 + 6 * q) 0 - 1; omega) t
        have M87 := CI_mov I79 (k := r22) (t := t) (show 0 ≤ r22 ∧ r22 < w79 (2 + 8 + 6 * q) 0 by omega) (by omega) (fun j j0 j1 => by
          rw [← E79.row (by omega) (by omega) j0 (by rw [E79.1]; exact j1)]
          exact NE j j0 (by rw [E79.1]; exact j1))
        have C87 := CLG_cur (w2 := w87) (X := movX (G.now.c q) r22 t) hq4 C79 (fun p a b => f87 p (by omega)) ((V79.mov (show 0 ≤ r22 ∧ r22 < G.now.c q 0 0 by omega)).tr e87.sy.v) (M87.eq e87.sy)
        exact f_iret (pc := 90) dX11_moveKey_90 rfl (by assumption) (hQ _ _ (fst_e o k87) (snd_e o C87) (FL79.tr (fun p e => f87 p (by omega))) (by assumption))
      refine r_aload (pc := 59) dX11_moveKey_59 rfl ?_
      refine r_iload_n (pc := 61) dX11_moveKey_61 rfl ?_
      refine c_X11_79 (pc := 62) rfl dX11_moveKey_62 (by first | assumption | rfl) (by omega) (Nat.le_of_ble_eq_true rfl) ?_
      refine m_X0_find (d - 1) (by omega) (by assumption) sq0 (by omega) (by omega) (fun r62 k62 b62 e62 => ?_)
      have e62 := fin_KB (X := cx w (2 + 8 + 6 * q)) I0.1.1 b62 e62
      have f62 := fin_b I0 e62
      have f62a := fin_in I0 e62
      have f62n : 0 ≤ r62 → r62 < w (2 + 8 + 6 * q) 0 := fun z => (f62a z).1
      have f62b := fin_no I0 e62
      rw [← fin_cg CV (by rw [eN]; omega)] at e62
      refine r_iflt (pc := 65) (tgt := 71) dX11_moveKey_65 rfl (by omega) (fun h65 => ?_) (fun h65 => ?_)
      · have NE : ∀ j, 0 ≤ j → j < cx w (2 + 8 + 6 * q) 0 0 → cx w (2 + 8 + 6 * q) 1 j = t → j = r22 := fun j j0 j1 e => absurd e (f62b (by omega) j j0 j1)
        refine r_aload_n (pc := 71) dX11_moveKey_71 rfl ?_
        refine h_X11_19 (pc := 72) rfl dX11_moveKey_72 ?_
        refine r_aload_n (pc := 75) dX11_moveKey_75 rfl ?_
        refine h_X11_10 (pc := 76) rfl dX11_moveKey_76 ?_
        refine c_X11_90 (pc := 79) rfl dX11_moveKey_79 (by first | assumption | rfl) (by omega) (Nat.le_of_ble_eq_true rfl) ?_
        refine m_X5_record (d - 1) (by omega) (by assumption) hr34 (SCL.sn hC.1) (fun w79 rec79 hw79 => ?_)
        obtain ⟨C79, F79⟩ := CLG_rec hG hC rec79
        obtain ⟨E79, I79, V79⟩ := rec_cur hq4 hC F79
        have N79 : w79 (2 + 8 + 6 * q) 0 = w (2 + 8 + 6 * q) 0 := by rw [F79 _ (by omega) (by omega)]
        have FL79 : FRL w w79 := fun p e => F79 p (by omega) (by omega)
        refine r_aload (pc := 82) dX11_moveKey_82 rfl ?_
        refine r_iload (pc := 84) dX11_moveKey_84 rfl ?_
        refine r_iload_n (pc := 86) dX11_moveKey_86 rfl ?_
        refine c_X11_110 (pc := 87) rfl dX11_moveKey_87 (by first | assumption | rfl) (by omega) (Nat.le_of_ble_eq_true rfl) ?_
        have o : o_moveKey G q f t = (kbX (delX (G.now.c q) r22) t, setC (recG G) q (movX (G.now.c q) r22 t)) := by
          unfold o_moveKey
          rw [if_neg (fun z => z iq), if_neg (by omega), if_neg (by omega), if_neg (by omega), ← e22]
        have D79 := delX_cv V79 (k := r22) (by omega)
        refine m_X0_move (d - 1) (by omega) (by assumption) sq0 (by omega) (by omega) (by omega) (fun r87 w87 k87 f87 e87 hw87 => ?_)
        rw [← kbX_cg D79] at k87
        have KK := kbX_KB (X := delX (cx w79 (2 + 8 + 6 * q)) r22) (by rw [delX_n]; show 0 ≤ w79 (2 + 8 + 6 * q) 0 - 1; omega) t
        have M87 := CI_mov I79 (k := r22) (t := t) (show 0 ≤ r22 ∧ r22 < w79 (2 + 8 + 6 * q) 0 by omega) (by omega) (fun j j0 j1 => by
          rw [← E79.row (by omega) (by omega) j0 (by rw [E79.1]; exact j1)]
          exact NE j j0 (by rw [E79.1]; exact j1))
        have C87 := CLG_cur (w2 := w87) (X := movX (G.now.c q) r22 t) hq4 C79 (fun p a b => f87 p (by omega)) ((V79.mov (show 0 ≤ r22 ∧ r22 < G.now.c q 0 0 by omega)).tr e87.sy.v) (M87.eq e87.sy)
        exact f_iret (pc := 90) dX11_moveKey_90 rfl (by assumption) (hQ _ _ (fst_e o k87) (snd_e o C87) (FL79.tr (fun p e => f87 p (by omega))) (by assumption))
      have o : o_moveKey G q f t = (-1000000004, G) := by
        unfold o_moveKey
        rw [if_neg (fun z => z iq), if_neg (by omega), if_neg (by omega), if_pos (by omega)]
      refine r_ldc (pc := 68) (n := -1000000004) dX11_moveKey_68 kw_X11_109 rfl ?_
      exact f_iret (pc := 70) dX11_moveKey_70 rfl (by assumption) (hQ _ _ (fst_e o (by omega)) (snd_e o hC) (FRL.rf w) (by assumption))
    have o : o_moveKey G q f t = (-1000000002, G) := by
      unfold o_moveKey
      rw [if_neg (fun z => z iq), if_neg (by omega), if_pos (by omega)]
    refine r_ldc (pc := 51) (n := -1000000002) dX11_moveKey_51 kw_X11_78 rfl ?_
    exact f_iret (pc := 53) dX11_moveKey_53 rfl (by assumption) (hQ _ _ (fst_e o (by omega)) (snd_e o hC) (FRL.rf w) (by assumption))
  have o : o_moveKey G q f t = (-1000000001, G) := by
    unfold o_moveKey
    rw [if_neg (fun z => z iq), if_pos (by omega)]
  refine r_ldc (pc := 37) (n := -1000000001) dX11_moveKey_37 kw_X11_73 rfl ?_
  exact f_iret (pc := 39) dX11_moveKey_39 rfl (by assumption) (hQ _ _ (fst_e o (by omega)) (snd_e o hC) (FRL.rf w) (by assumption))
set_option maxRecDepth 8000 in
theorem x_moveKey_b {Q : Option AV → Wd → Prop} {w : Wd} (d : Nat) {q : Int} {f t : Int} (hd : 6 ≤ d) (hw : WR w) (hq : ¬ inC q) (rq : R32 q) (rf : R32 f) (rt : R32 t) (hQ : Q (some (vI (-1000000001))) w) : M mX11_moveKey (Rm d) [vR (some 1), vI q, vI f, vI t] (fl w) (lQ Q) := by
  have hq : ¬ (0 ≤ q ∧ q ≤ 3) := hq
  refine f_mofv (L0 := [some (vR (some 1)), some (vI q), some (vI f), some (vI t), none, none]) rfl (Nat.le_of_ble_eq_true rfl) rfl ?_
  refine r_aload_n (pc := 0) dX11_moveKey_0 rfl ?_
  refine h_X11_10 (pc := 1) rfl dX11_moveKey_1 ?_
  refine r_iload_n (pc := 4) dX11_moveKey_4 rfl ?_
  refine c_X11_69 (pc := 5) rfl dX11_moveKey_5 (by first | assumption | rfl) (by omega) (Nat.le_of_ble_eq_true rfl) ?_
  refine m_X8_curveAtN (d - 1) (by omega) (by assumption) (show sh 2 = 8 from rfl) (by omega) (by omega) ?_
  refine r_astoreN4 (pc := 8) dX11_moveKey_8 rfl ?_
  refine r_aloadN (pc := 10) dX11_moveKey_10 rfl ?_
  refine r_ifnonnull_n (pc := 12) dX11_moveKey_12 ?_
  refine r_iconst (pc := 15) (n := (-1)) dX11_moveKey_15 ?_
  refine r_goto (pc := 16) (tgt := 25) dX11_moveKey_16 rfl ?_
  refine r_istore5 (pc := 25) dX11_moveKey_25 rfl ?_
  refine r_aloadN (pc := 27) dX11_moveKey_27 rfl ?_
  refine r_ifnull_n (pc := 29) (tgt := 37) dX11_moveKey_29 rfl ?_
  refine r_ldc (pc := 37) (n := -1000000001) dX11_moveKey_37 kw_X11_73 rfl ?_
  exact f_iret (pc := 39) dX11_moveKey_39 rfl (by assumption) hQ
theorem x_moveKey {Q : Option AV → Wd → Prop} {w : Wd} (d : Nat) {G : GS} {q : Int} {f t : Int} (hd : 6 ≤ d) (hw : WR w) (hG : GOK G) (hC : CLG G w) (rq : R32 q) (rf : R32 f) (rt : R32 t) (hQ : ∀ r w2, r = (o_moveKey G q f t).1 → CLG (o_moveKey G q f t).2 w2 → FRL w w2 → WR w2 → Q (some (vI r)) w2) : M mX11_moveKey (Rm d) [vR (some 1), vI q, vI f, vI t] (fl w) (lQ Q) := by
  by_cases hq : inC q
  · obtain ⟨p, rfl⟩ : ∃ p : Nat, q = p := ⟨q.toNat, by have h : 0 ≤ q ∧ q ≤ 3 := hq; omega⟩
    have h : 0 ≤ (p : Int) ∧ (p : Int) ≤ 3 := hq
    exact x_moveKey_k d hd hw hG hC (by omega) rf rt hQ
  · have o : o_moveKey G q f t = (-1000000001, G) := by
      unfold o_moveKey
      exact if_pos hq
    exact x_moveKey_b d hd hw hq rq rf rt (hQ _ w (by rw [o]) (by rw [o]; exact hC) (FRL.rf w) hw)
set_option maxRecDepth 8000 in
theorem x_setMode_k {Q : Option AV → Wd → Prop} {w : Wd} (d : Nat) {G : GS} {q : Nat} {f m : Int} (hd : 7 ≤ d) (hw : WR w) (hG : GOK G) (hC : CLG G w) (hq4 : q < 4) (rf : R32 f) (rm : R32 m) (hQ : ∀ r w2, r = (o_setMode G q f m).1 → CLG (o_setMode G q f m).2 w2 → FRL w w2 → WR w2 → Q (some (vI r)) w2) : M mX11_setMode (Rm d) [vR (some 1), vI q, vI f, vI m] (fl w) (lQ Q) := by
  have hr34 := CLG.hr hG hC
  have CV := hC.cv hq4
  have I0 := hC.ci hq4
  have sq0 : sh (2 + 8 + 6 * q) = 0 := (sh_sta (c := 2) rfl).2.2.2 q hq4
  obtain ⟨s1, s2, s3, s4, s5⟩ := sh_curve sq0
  have hn : 0 ≤ w (2 + 8 + 6 * q) 0 ∧ w (2 + 8 + 6 * q) 0 ≤ 24 := I0.1
  have eN : G.now.c q 0 0 = w (2 + 8 + 6 * q) 0 := CV.1
  have iq : inC (q : Int) := ⟨by omega, by omega⟩
  refine f_mofv (L0 := [some (vR (some 1)), some (vI q), some (vI f), some (vI m), none, none, none]) rfl (Nat.le_of_ble_eq_true rfl) rfl ?_
  refine r_aload_n (pc := 0) dX11_setMode_0 rfl ?_
  refine h_X11_10 (pc := 1) rfl dX11_setMode_1 ?_
  refine r_iload_n (pc := 4) dX11_setMode_4 rfl ?_
  refine c_X11_69 (pc := 5) rfl dX11_setMode_5 (by first | assumption | rfl) (by omega) (Nat.le_of_ble_eq_true rfl) ?_
  refine m_X8_curveAt (q := q) (d - 1) (by omega) (by assumption) (show sh 2 = 8 from rfl) hq4 rfl ?_
  refine r_astore4 (pc := 8) dX11_setMode_8 rfl ?_
  refine r_aload (pc := 10) dX11_setMode_10 rfl ?_
  refine r_ifnonnull_s (pc := 12) (tgt := 19) dX11_setMode_12 rfl ?_
  refine r_aload (pc := 19) dX11_setMode_19 rfl ?_
  refine r_iload_n (pc := 21) dX11_setMode_21 rfl ?_
  refine c_X11_79 (pc := 22) rfl dX11_setMode_22 (by first | assumption | rfl) (by omega) (Nat.le_of_ble_eq_true rfl) ?_
  refine m_X0_find (d - 1) (by omega) (by assumption) sq0 (by omega) (by omega) (fun r22 k22 b22 e22 => ?_)
  have e22 := fin_KB (X := cx w (2 + 8 + 6 * q)) I0.1.1 b22 e22
  have f22 := fin_b I0 e22
  have f22a := fin_in I0 e22
  have f22n : 0 ≤ r22 → r22 < w (2 + 8 + 6 * q) 0 := fun z => (f22a z).1
  have f22b := fin_no I0 e22
  rw [← fin_cg CV (by rw [eN]; omega)] at e22
  refine r_istore5 (pc := 25) dX11_setMode_25 rfl ?_
  refine r_aload (pc := 27) dX11_setMode_27 rfl ?_
  refine r_ifnull_s (pc := 29) dX11_setMode_29 ?_
  refine r_iload (pc := 32) dX11_setMode_32 rfl ?_
  refine r_ifge (pc := 34) (tgt := 40) dX11_setMode_34 rfl (by omega) (fun h34 => ?_) (fun h34 => ?_)
  · refine r_iload_n (pc := 40) dX11_setMode_40 rfl ?_
    refine r_iconst (pc := 41) (n := 0) dX11_setMode_41 ?_
    refine r_bipush (pc := 42) (n := 6) dX11_setMode_42 (by decide) ?_
    refine c_X11_74 (pc := 44) rfl dX11_setMode_44 (by omega) (Nat.le_of_ble_eq_true rfl) ?_
    refine m_X11_within (d - 1) (by omega) (by assumption) (by omega) (by omega) (by omega) (fun r44 e44 b44 => ?_)
    have i44 := b2i_i e44
    refine r_ifne (pc := 47) (tgt := 53) dX11_setMode_47 rfl (by omega) (fun h47 => ?_) (fun h47 => ?_)
    · refine r_aload (pc := 53) dX11_setMode_53 rfl ?_
      refine g_X11_114 (pc := 55) rfl dX11_setMode_55 (by first | assumption | rfl) ?_
      refine r_iload (pc := 58) dX11_setMode_58 rfl ?_
      refine c_X11_117 (pc := 60) rfl dX11_setMode_60 (by omega) (Nat.le_of_ble_eq_true rfl) ?_
      refine m_X11_at (d - 1) (by omega) (by assumption) (n := 24) s3 (by omega) (by omega) (fun r60 e60 b60 => ?_)
      rw [gA_in (by omega) (by omega)] at e60
      have m22 : G.now.c q 3 r22 = w (2 + 8 + 6 * q + 3) r22 := CV.row (by omega) (by omega) (by omega) (by omega)
      refine r_istore6 (pc := 63) dX11_setMode_63 rfl ?_
      refine r_aload_n (pc := 65) dX11_setMode_65 rfl ?_
      refine h_X11_19 (pc := 66) rfl dX11_setMode_66 ?_
      refine r_aload_n (pc := 69) dX11_setMode_69 rfl ?_
      refine h_X11_10 (pc := 70) rfl dX11_setMode_70 ?_
      refine c_X11_90 (pc := 73) rfl dX11_setMode_73 (by first | assumption | rfl) (by omega) (Nat.le_of_ble_eq_true rfl) ?_
      refine m_X5_record (d - 1) (by omega) (by assumption) hr34 (SCL.sn hC.1) (fun w73 rec73 hw73 => ?_)
      obtain ⟨C73, F73⟩ := CLG_rec hG hC rec73
      obtain ⟨E73, I73, V73⟩ := rec_cur hq4 hC F73
      have N73 : w73 (2 + 8 + 6 * q) 0 = w (2 + 8 + 6 * q) 0 := by rw [F73 _ (by omega) (by omega)]
      have FL73 : FRL w w73 := fun p e => F73 p (by omega) (by omega)
      refine r_aload (pc := 76) dX11_setMode_76 rfl ?_
      refine r_iload (pc := 78) dX11_setMode_78 rfl ?_
      refine r_iload_n (pc := 80) dX11_setMode_80 rfl ?_
      refine c_X11_121 (pc := 81) rfl dX11_setMode_81 (by first | assumption | rfl) (by omega) (Nat.le_of_ble_eq_true rfl) ?_
      have o : o_setMode G q f m = (G.now.c q 3 r22, setC (recG G) q (chmX (G.now.c q) r22 m)) := by
        unfold o_setMode
        rw [if_neg (fun z => z iq), if_neg (by omega), if_neg (by omega), ← e22]
      refine m_X0_changeMode (d - 1) (by omega) (by assumption) sq0 I73 (show 0 ≤ r22 ∧ r22 < w73 (2 + 8 + 6 * q) 0 by omega) (by omega) (fun w81 f81 e81 hw81 => ?_)
      have C81 := CLG_cur (w2 := w81) (X := chmX (G.now.c q) r22 m) hq4 C73 (fun p a b => f81 p (by omega)) (by rw [e81]; exact V73.chm (show 0 ≤ r22 ∧ r22 < G.now.c q 0 0 by omega)) (by rw [e81]; exact CI_chm I73 (by omega))
      refine r_iload (pc := 84) dX11_setMode_84 rfl ?_
      exact f_iret (pc := 86) dX11_setMode_86 rfl (by assumption) (hQ _ _ (fst_e o (e60.trans m22.symm)) (snd_e o C81) (FL73.tr (fun p e => f81 p (by omega))) (by assumption))
    have o : o_setMode G q f m = (-1000000002, G) := by
      unfold o_setMode
      rw [if_neg (fun z => z iq), if_neg (by omega), if_pos (by omega)]
    refine r_ldc (pc := 50) (n := -1000000002) dX11_setMode_50 kw_X11_78 rfl ?_
    exact f_iret (pc := 52) dX11_setMode_52 rfl (by assumption) (hQ _ _ (fst_e o (by omega)) (snd_e o hC) (FRL.rf w) (by assumption))
  have o : o_setMode G q f m = (-1000000001, G) := by
    unfold o_setMode
    rw [if_neg (fun z => z iq), if_pos (by omega)]
  refine r_ldc (pc := 37) (n := -1000000001) dX11_setMode_37 kw_X11_73 rfl ?_
  exact f_iret (pc := 39) dX11_setMode_39 rfl (by assumption) (hQ _ _ (fst_e o (by omega)) (snd_e o hC) (FRL.rf w) (by assumption))
set_option maxRecDepth 8000 in
theorem x_setMode_b {Q : Option AV → Wd → Prop} {w : Wd} (d : Nat) {q : Int} {f m : Int} (hd : 7 ≤ d) (hw : WR w) (hq : ¬ inC q) (rq : R32 q) (rf : R32 f) (rm : R32 m) (hQ : Q (some (vI (-1000000001))) w) : M mX11_setMode (Rm d) [vR (some 1), vI q, vI f, vI m] (fl w) (lQ Q) := by
  have hq : ¬ (0 ≤ q ∧ q ≤ 3) := hq
  refine f_mofv (L0 := [some (vR (some 1)), some (vI q), some (vI f), some (vI m), none, none, none]) rfl (Nat.le_of_ble_eq_true rfl) rfl ?_
  refine r_aload_n (pc := 0) dX11_setMode_0 rfl ?_
  refine h_X11_10 (pc := 1) rfl dX11_setMode_1 ?_
  refine r_iload_n (pc := 4) dX11_setMode_4 rfl ?_
  refine c_X11_69 (pc := 5) rfl dX11_setMode_5 (by first | assumption | rfl) (by omega) (Nat.le_of_ble_eq_true rfl) ?_
  refine m_X8_curveAtN (d - 1) (by omega) (by assumption) (show sh 2 = 8 from rfl) (by omega) (by omega) ?_
  refine r_astoreN4 (pc := 8) dX11_setMode_8 rfl ?_
  refine r_aloadN (pc := 10) dX11_setMode_10 rfl ?_
  refine r_ifnonnull_n (pc := 12) dX11_setMode_12 ?_
  refine r_iconst (pc := 15) (n := (-1)) dX11_setMode_15 ?_
  refine r_goto (pc := 16) (tgt := 25) dX11_setMode_16 rfl ?_
  refine r_istore5 (pc := 25) dX11_setMode_25 rfl ?_
  refine r_aloadN (pc := 27) dX11_setMode_27 rfl ?_
  refine r_ifnull_n (pc := 29) (tgt := 37) dX11_setMode_29 rfl ?_
  refine r_ldc (pc := 37) (n := -1000000001) dX11_setMode_37 kw_X11_73 rfl ?_
  exact f_iret (pc := 39) dX11_setMode_39 rfl (by assumption) hQ
theorem x_setMode {Q : Option AV → Wd → Prop} {w : Wd} (d : Nat) {G : GS} {q : Int} {f m : Int} (hd : 7 ≤ d) (hw : WR w) (hG : GOK G) (hC : CLG G w) (rq : R32 q) (rf : R32 f) (rm : R32 m) (hQ : ∀ r w2, r = (o_setMode G q f m).1 → CLG (o_setMode G q f m).2 w2 → FRL w w2 → WR w2 → Q (some (vI r)) w2) : M mX11_setMode (Rm d) [vR (some 1), vI q, vI f, vI m] (fl w) (lQ Q) := by
  by_cases hq : inC q
  · obtain ⟨p, rfl⟩ : ∃ p : Nat, q = p := ⟨q.toNat, by have h : 0 ≤ q ∧ q ≤ 3 := hq; omega⟩
    have h : 0 ≤ (p : Int) ∧ (p : Int) ≤ 3 := hq
    exact x_setMode_k d hd hw hG hC (by omega) rf rm hQ
  · have o : o_setMode G q f m = (-1000000001, G) := by
      unfold o_setMode
      exact if_pos hq
    exact x_setMode_b d hd hw hq rq rf rm (hQ _ w (by rw [o]) (by rw [o]; exact hC) (FRL.rf w) hw)
set_option maxRecDepth 8000 in
theorem x_setSlopes_k {Q : Option AV → Wd → Prop} {w : Wd} (d : Nat) {G : GS} {q : Nat} {f a b : Int} (hd : 6 ≤ d) (hw : WR w) (hG : GOK G) (hC : CLG G w) (hq4 : q < 4) (rf : R32 f) (ra : R32 a) (rb : R32 b) (hQ : ∀ r w2, r = (o_setSlopes G q f a b).1 → CLG (o_setSlopes G q f a b).2 w2 → FRL w w2 → WR w2 → Q (some (vI r)) w2) : M mX11_setSlopes (Rm d) [vR (some 1), vI q, vI f, vI a, vI b] (fl w) (lQ Q) := by
  have hr34 := CLG.hr hG hC
  have CV := hC.cv hq4
  have I0 := hC.ci hq4
  have sq0 : sh (2 + 8 + 6 * q) = 0 := (sh_sta (c := 2) rfl).2.2.2 q hq4
  obtain ⟨s1, s2, s3, s4, s5⟩ := sh_curve sq0
  have hn : 0 ≤ w (2 + 8 + 6 * q) 0 ∧ w (2 + 8 + 6 * q) 0 ≤ 24 := I0.1
  have eN : G.now.c q 0 0 = w (2 + 8 + 6 * q) 0 := CV.1
  have iq : inC (q : Int) := ⟨by omega, by omega⟩
  refine f_mofv (L0 := [some (vR (some 1)), some (vI q), some (vI f), some (vI a), some (vI b), none, none, none]) rfl (Nat.le_of_ble_eq_true rfl) rfl ?_
  refine r_aload_n (pc := 0) dX11_setSlopes_0 rfl ?_
  refine h_X11_10 (pc := 1) rfl dX11_setSlopes_1 ?_
  refine r_iload_n (pc := 4) dX11_setSlopes_4 rfl ?_
  refine c_X11_69 (pc := 5) rfl dX11_setSlopes_5 (by first | assumption | rfl) (by omega) (Nat.le_of_ble_eq_true rfl) ?_
  refine m_X8_curveAt (q := q) (d - 1) (by omega) (by assumption) (show sh 2 = 8 from rfl) hq4 rfl ?_
  refine r_astore5 (pc := 8) dX11_setSlopes_8 rfl ?_
  refine r_aload (pc := 10) dX11_setSlopes_10 rfl ?_
  refine r_ifnonnull_s (pc := 12) (tgt := 19) dX11_setSlopes_12 rfl ?_
  refine r_aload (pc := 19) dX11_setSlopes_19 rfl ?_
  refine r_iload_n (pc := 21) dX11_setSlopes_21 rfl ?_
  refine c_X11_79 (pc := 22) rfl dX11_setSlopes_22 (by first | assumption | rfl) (by omega) (Nat.le_of_ble_eq_true rfl) ?_
  refine m_X0_find (d - 1) (by omega) (by assumption) sq0 (by omega) (by omega) (fun r22 k22 b22 e22 => ?_)
  have e22 := fin_KB (X := cx w (2 + 8 + 6 * q)) I0.1.1 b22 e22
  have f22 := fin_b I0 e22
  have f22a := fin_in I0 e22
  have f22n : 0 ≤ r22 → r22 < w (2 + 8 + 6 * q) 0 := fun z => (f22a z).1
  have f22b := fin_no I0 e22
  rw [← fin_cg CV (by rw [eN]; omega)] at e22
  refine r_istore6 (pc := 25) dX11_setSlopes_25 rfl ?_
  refine r_aload (pc := 27) dX11_setSlopes_27 rfl ?_
  refine r_ifnull_s (pc := 29) dX11_setSlopes_29 ?_
  refine r_iload (pc := 32) dX11_setSlopes_32 rfl ?_
  refine r_ifge (pc := 34) (tgt := 40) dX11_setSlopes_34 rfl (by omega) (fun h34 => ?_) (fun h34 => ?_)
  · refine r_iload_n (pc := 40) dX11_setSlopes_40 rfl ?_
    refine r_sipush (pc := 41) (n := (-9999)) dX11_setSlopes_41 (by decide) ?_
    refine r_sipush (pc := 44) (n := 9999) dX11_setSlopes_44 (by decide) ?_
    refine c_X11_74 (pc := 47) rfl dX11_setSlopes_47 (by omega) (Nat.le_of_ble_eq_true rfl) ?_
    refine m_X11_within (d - 1) (by omega) (by assumption) (by omega) (by omega) (by omega) (fun r47 e47 b47 => ?_)
    have i47 := b2i_i e47
    refine r_ifeq (pc := 50) (tgt := 67) dX11_setSlopes_50 rfl (by omega) (fun h50 => ?_) (fun h50 => ?_)
    · have o : o_setSlopes G q f a b = (-1000000002, G) := by
        unfold o_setSlopes
        rw [if_neg (fun z => z iq), if_neg (by omega), if_pos (by omega)]
      refine r_ldc (pc := 67) (n := -1000000002) dX11_setSlopes_67 kw_X11_78 rfl ?_
      exact f_iret (pc := 69) dX11_setSlopes_69 rfl (by assumption) (hQ _ _ (fst_e o (by omega)) (snd_e o hC) (FRL.rf w) (by assumption))
    refine r_iload (pc := 53) dX11_setSlopes_53 rfl ?_
    refine r_sipush (pc := 55) (n := (-9999)) dX11_setSlopes_55 (by decide) ?_
    refine r_sipush (pc := 58) (n := 9999) dX11_setSlopes_58 (by decide) ?_
    refine c_X11_74 (pc := 61) rfl dX11_setSlopes_61 (by omega) (Nat.le_of_ble_eq_true rfl) ?_
    refine m_X11_within (d - 1) (by omega) (by assumption) (by omega) (by omega) (by omega) (fun r61 e61 b61 => ?_)
    have i61 := b2i_i e61
    refine r_ifne (pc := 64) (tgt := 70) dX11_setSlopes_64 rfl (by omega) (fun h64 => ?_) (fun h64 => ?_)
    · refine r_aload (pc := 70) dX11_setSlopes_70 rfl ?_
      refine g_X11_114 (pc := 72) rfl dX11_setSlopes_72 (by first | assumption | rfl) ?_
      refine r_iload (pc := 75) dX11_setSlopes_75 rfl ?_
      refine c_X11_117 (pc := 77) rfl dX11_setSlopes_77 (by omega) (Nat.le_of_ble_eq_true rfl) ?_
      refine m_X11_at (d - 1) (by omega) (by assumption) (n := 24) s3 (by omega) (by omega) (fun r77 e77 b77 => ?_)
      rw [gA_in (by omega) (by omega)] at e77
      have m22 : G.now.c q 3 r22 = w (2 + 8 + 6 * q + 3) r22 := CV.row (by omega) (by omega) (by omega) (by omega)
      refine r_istore7 (pc := 80) dX11_setSlopes_80 rfl ?_
      refine r_aload_n (pc := 82) dX11_setSlopes_82 rfl ?_
      refine h_X11_19 (pc := 83) rfl dX11_setSlopes_83 ?_
      refine r_aload_n (pc := 86) dX11_setSlopes_86 rfl ?_
      refine h_X11_10 (pc := 87) rfl dX11_setSlopes_87 ?_
      refine c_X11_90 (pc := 90) rfl dX11_setSlopes_90 (by first | assumption | rfl) (by omega) (Nat.le_of_ble_eq_true rfl) ?_
      refine m_X5_record (d - 1) (by omega) (by assumption) hr34 (SCL.sn hC.1) (fun w90 rec90 hw90 => ?_)
      obtain ⟨C90, F90⟩ := CLG_rec hG hC rec90
      obtain ⟨E90, I90, V90⟩ := rec_cur hq4 hC F90
      have N90 : w90 (2 + 8 + 6 * q) 0 = w (2 + 8 + 6 * q) 0 := by rw [F90 _ (by omega) (by omega)]
      have FL90 : FRL w w90 := fun p e => F90 p (by omega) (by omega)
      refine r_aload (pc := 93) dX11_setSlopes_93 rfl ?_
      refine g_X11_114 (pc := 95) rfl dX11_setSlopes_95 (by first | assumption | rfl) ?_
      refine r_iload (pc := 98) dX11_setSlopes_98 rfl ?_
      refine r_iconst (pc := 100) (n := 0) dX11_setSlopes_100 ?_
      refine c_X11_101 (pc := 101) rfl dX11_setSlopes_101 (by omega) (Nat.le_of_ble_eq_true rfl) ?_
      refine m_X11_put (d - 1) (by omega) (by assumption) (n := 24) s3 (by omega) (by omega) (by omega) (fun w101 e101 hw101 => ?_)
      rw [pA_in (by omega) (by omega)] at e101
      refine r_aload (pc := 104) dX11_setSlopes_104 rfl ?_
      refine g_X11_125 (pc := 106) rfl dX11_setSlopes_106 (by first | assumption | rfl) ?_
      refine r_iload (pc := 109) dX11_setSlopes_109 rfl ?_
      refine r_iload_n (pc := 111) dX11_setSlopes_111 rfl ?_
      refine c_X11_101 (pc := 112) rfl dX11_setSlopes_112 (by omega) (Nat.le_of_ble_eq_true rfl) ?_
      refine m_X11_put (d - 1) (by omega) (by assumption) (n := 24) s4 (by omega) (by omega) (by omega) (fun w112 e112 hw112 => ?_)
      rw [pA_in (by omega) (by omega)] at e112
      refine r_aload (pc := 115) dX11_setSlopes_115 rfl ?_
      refine g_X11_128 (pc := 117) rfl dX11_setSlopes_117 (by first | assumption | rfl) ?_
      refine r_iload (pc := 120) dX11_setSlopes_120 rfl ?_
      refine r_iload (pc := 122) dX11_setSlopes_122 rfl ?_
      refine c_X11_101 (pc := 124) rfl dX11_setSlopes_124 (by omega) (Nat.le_of_ble_eq_true rfl) ?_
      refine m_X11_put (d - 1) (by omega) (by assumption) (n := 24) s5 (by omega) (by omega) (by omega) (fun w124 e124 hw124 => ?_)
      rw [pA_in (by omega) (by omega)] at e124
      have c124 : cx w124 (2 + 8 + 6 * q) = stX (stX (stX (cx w90 (2 + 8 + 6 * q)) 4 r22 a) 5 r22 b) 3 r22 0 := by
        rw [e124, e112, e101, ← stX_com, ← cx_up (r := 3), ← cx_up (r := 4), ← cx_up (r := 5)]
      have o : o_setSlopes G q f a b = (G.now.c q 3 r22, setC (recG G) q (stX (stX (stX (G.now.c q) 4 r22 a) 5 r22 b) 3 r22 0)) := by
        unfold o_setSlopes
        rw [if_neg (fun z => z iq), if_neg (by omega), if_neg (by omega), ← e22]
      have F124 : ∀ p, (p < 2 + 8 + 6 * q ∨ 2 + 8 + 6 * q + 5 < p) → w124 p = w90 p := fun p h => by rw [e124, up_ne (by omega), e112, up_ne (by omega), e101, up_ne (by omega)]
      have C124 := CLG_cur (w2 := w124) (X := stX (stX (stX (G.now.c q) 4 r22 a) 5 r22 b) 3 r22 0) hq4 C90 (fun p a b => F124 p b) (by rw [c124]; exact ((V90.st r22 a (by omega) (by omega)).st r22 b (by omega) (by omega)).st3 (fun _ => ⟨by rw [stX_r (by omega), stX_y, stX_r (by omega), stX_y], by rw [stX_y, stX_y]⟩)) (by rw [c124]; exact CI_st345 (CI_st345 (CI_st345 I90 (Or.inr ⟨Or.inl rfl, by omega⟩)) (Or.inr ⟨Or.inr rfl, by omega⟩)) (Or.inl ⟨rfl, by omega⟩))
      refine r_iload (pc := 127) dX11_setSlopes_127 rfl ?_
      exact f_iret (pc := 129) dX11_setSlopes_129 rfl (by assumption) (hQ _ _ (fst_e o (e77.trans m22.symm)) (snd_e o C124) (FL90.tr (fun p e => F124 p (by omega))) (by assumption))
    have o : o_setSlopes G q f a b = (-1000000002, G) := by
      unfold o_setSlopes
      rw [if_neg (fun z => z iq), if_neg (by omega), if_pos (by omega)]
    refine r_ldc (pc := 67) (n := -1000000002) dX11_setSlopes_67 kw_X11_78 rfl ?_
    exact f_iret (pc := 69) dX11_setSlopes_69 rfl (by assumption) (hQ _ _ (fst_e o (by omega)) (snd_e o hC) (FRL.rf w) (by assumption))
  have o : o_setSlopes G q f a b = (-1000000001, G) := by
    unfold o_setSlopes
    rw [if_neg (fun z => z iq), if_pos (by omega)]
  refine r_ldc (pc := 37) (n := -1000000001) dX11_setSlopes_37 kw_X11_73 rfl ?_
  exact f_iret (pc := 39) dX11_setSlopes_39 rfl (by assumption) (hQ _ _ (fst_e o (by omega)) (snd_e o hC) (FRL.rf w) (by assumption))
set_option maxRecDepth 8000 in
theorem x_setSlopes_b {Q : Option AV → Wd → Prop} {w : Wd} (d : Nat) {q : Int} {f a b : Int} (hd : 6 ≤ d) (hw : WR w) (hq : ¬ inC q) (rq : R32 q) (rf : R32 f) (ra : R32 a) (rb : R32 b) (hQ : Q (some (vI (-1000000001))) w) : M mX11_setSlopes (Rm d) [vR (some 1), vI q, vI f, vI a, vI b] (fl w) (lQ Q) := by
  have hq : ¬ (0 ≤ q ∧ q ≤ 3) := hq
  refine f_mofv (L0 := [some (vR (some 1)), some (vI q), some (vI f), some (vI a), some (vI b), none, none, none]) rfl (Nat.le_of_ble_eq_true rfl) rfl ?_
  refine r_aload_n (pc := 0) dX11_setSlopes_0 rfl ?_
  refine h_X11_10 (pc := 1) rfl dX11_setSlopes_1 ?_
  refine r_iload_n (pc := 4) dX11_setSlopes_4 rfl ?_
  refine c_X11_69 (pc := 5) rfl dX11_setSlopes_5 (by first | assumption | rfl) (by omega) (Nat.le_of_ble_eq_true rfl) ?_
  refine m_X8_curveAtN (d - 1) (by omega) (by assumption) (show sh 2 = 8 from rfl) (by omega) (by omega) ?_
  refine r_astoreN5 (pc := 8) dX11_setSlopes_8 rfl ?_
  refine r_aloadN (pc := 10) dX11_setSlopes_10 rfl ?_
  refine r_ifnonnull_n (pc := 12) dX11_setSlopes_12 ?_
  refine r_iconst (pc := 15) (n := (-1)) dX11_setSlopes_15 ?_
  refine r_goto (pc := 16) (tgt := 25) dX11_setSlopes_16 rfl ?_
  refine r_istore6 (pc := 25) dX11_setSlopes_25 rfl ?_
  refine r_aloadN (pc := 27) dX11_setSlopes_27 rfl ?_
  refine r_ifnull_n (pc := 29) (tgt := 37) dX11_setSlopes_29 rfl ?_
  refine r_ldc (pc := 37) (n := -1000000001) dX11_setSlopes_37 kw_X11_73 rfl ?_
  exact f_iret (pc := 39) dX11_setSlopes_39 rfl (by assumption) hQ
theorem x_setSlopes {Q : Option AV → Wd → Prop} {w : Wd} (d : Nat) {G : GS} {q : Int} {f a b : Int} (hd : 6 ≤ d) (hw : WR w) (hG : GOK G) (hC : CLG G w) (rq : R32 q) (rf : R32 f) (ra : R32 a) (rb : R32 b) (hQ : ∀ r w2, r = (o_setSlopes G q f a b).1 → CLG (o_setSlopes G q f a b).2 w2 → FRL w w2 → WR w2 → Q (some (vI r)) w2) : M mX11_setSlopes (Rm d) [vR (some 1), vI q, vI f, vI a, vI b] (fl w) (lQ Q) := by
  by_cases hq : inC q
  · obtain ⟨p, rfl⟩ : ∃ p : Nat, q = p := ⟨q.toNat, by have h : 0 ≤ q ∧ q ≤ 3 := hq; omega⟩
    have h : 0 ≤ (p : Int) ∧ (p : Int) ≤ 3 := hq
    exact x_setSlopes_k d hd hw hG hC (by omega) rf ra rb hQ
  · have o : o_setSlopes G q f a b = (-1000000001, G) := by
      unfold o_setSlopes
      exact if_pos hq
    exact x_setSlopes_b d hd hw hq rq rf ra rb (hQ _ w (by rw [o]) (by rw [o]; exact hC) (FRL.rf w) hw)
set_option maxRecDepth 8000 in
theorem x_split_k {Q : Option AV → Wd → Prop} {w : Wd} (d : Nat) {G : GS} {q : Nat} {f : Int} (hd : 9 ≤ d) (hw : WR w) (hG : GOK G) (hC : CLG G w) (hq4 : q < 4) (rf : R32 f) (hQ : ∀ r w2, r = (o_split G q f).1 → CLG (o_split G q f).2 w2 → FRL w w2 → WR w2 → Q (some (vI r)) w2) : M mX11_split (Rm d) [vR (some 1), vI q, vI f] (fl w) (lQ Q) := by
  have hr34 := CLG.hr hG hC
  have CV := hC.cv hq4
  have I0 := hC.ci hq4
  have sq0 : sh (2 + 8 + 6 * q) = 0 := (sh_sta (c := 2) rfl).2.2.2 q hq4
  obtain ⟨s1, s2, s3, s4, s5⟩ := sh_curve sq0
  have hn : 0 ≤ w (2 + 8 + 6 * q) 0 ∧ w (2 + 8 + 6 * q) 0 ≤ 24 := I0.1
  have eN : G.now.c q 0 0 = w (2 + 8 + 6 * q) 0 := CV.1
  have iq : inC (q : Int) := ⟨by omega, by omega⟩
  refine f_mofv (L0 := [some (vR (some 1)), some (vI q), some (vI f), none, none]) rfl (Nat.le_of_ble_eq_true rfl) rfl ?_
  refine r_aload_n (pc := 0) dX11_split_0 rfl ?_
  refine h_X11_10 (pc := 1) rfl dX11_split_1 ?_
  refine r_iload_n (pc := 4) dX11_split_4 rfl ?_
  refine c_X11_69 (pc := 5) rfl dX11_split_5 (by first | assumption | rfl) (by omega) (Nat.le_of_ble_eq_true rfl) ?_
  refine m_X8_curveAt (q := q) (d - 1) (by omega) (by assumption) (show sh 2 = 8 from rfl) hq4 rfl ?_
  refine r_astore3 (pc := 8) dX11_split_8 rfl ?_
  refine r_aload_n (pc := 9) dX11_split_9 rfl ?_
  refine r_ifnonnull_s (pc := 10) (tgt := 16) dX11_split_10 rfl ?_
  refine r_aload_n (pc := 16) dX11_split_16 rfl ?_
  refine r_iload_n (pc := 17) dX11_split_17 rfl ?_
  refine c_X11_131 (pc := 18) rfl dX11_split_18 (by first | assumption | rfl) (by omega) (Nat.le_of_ble_eq_true rfl) ?_
  refine m_X0_keysBefore (d - 1) (by omega) (by assumption) sq0 (by omega) (by omega) (fun r18 b18 => ?_)
  have e18 := kbX_of (X := cx w (2 + 8 + 6 * q)) I0.1.1 b18
  rw [← kbX_cg CV] at e18
  obtain ⟨k0, k1, k2, k3⟩ := b18
  refine r_istore4 (pc := 21) dX11_split_21 rfl ?_
  refine r_iload (pc := 23) dX11_split_23 rfl ?_
  refine r_iconst (pc := 25) (n := 1) dX11_split_25 ?_
  refine r_icmplt (pc := 26) (tgt := 46) dX11_split_26 rfl (by omega) (by omega) (fun h26 => ?_) (fun h26 => ?_)
  · have o : o_split G q f = (-1000000002, G) := by
      unfold o_split
      rw [if_neg (fun z => z iq), if_pos (by omega)]
    refine r_ldc (pc := 46) (n := -1000000002) dX11_split_46 kw_X11_78 rfl ?_
    exact f_iret (pc := 48) dX11_split_48 rfl (by assumption) (hQ _ _ (fst_e o (by omega)) (snd_e o hC) (FRL.rf w) (by assumption))
  refine r_iload (pc := 29) dX11_split_29 rfl ?_
  refine r_aload_n (pc := 31) dX11_split_31 rfl ?_
  refine g_X11_85 (pc := 32) rfl dX11_split_32 (by assumption) (by first | assumption | rfl) (fun h32 => ?_)
  refine r_icmpge (pc := 35) (tgt := 46) dX11_split_35 rfl (by omega) (by omega) (fun h35 => ?_) (fun h35 => ?_)
  · have o : o_split G q f = (-1000000002, G) := by
      unfold o_split
      rw [if_neg (fun z => z iq), if_pos (by omega)]
    refine r_ldc (pc := 46) (n := -1000000002) dX11_split_46 kw_X11_78 rfl ?_
    exact f_iret (pc := 48) dX11_split_48 rfl (by assumption) (hQ _ _ (fst_e o (by omega)) (snd_e o hC) (FRL.rf w) (by assumption))
  refine r_aload_n (pc := 38) dX11_split_38 rfl ?_
  refine r_iload_n (pc := 39) dX11_split_39 rfl ?_
  refine c_X11_79 (pc := 40) rfl dX11_split_40 (by first | assumption | rfl) (by omega) (Nat.le_of_ble_eq_true rfl) ?_
  refine m_X0_find (d - 1) (by omega) (by assumption) sq0 (by omega) (by omega) (fun r40 k40 b40 e40 => ?_)
  have e40 := fin_KB (X := cx w (2 + 8 + 6 * q)) I0.1.1 b40 e40
  have f40 := fin_b I0 e40
  have f40a := fin_in I0 e40
  have f40n : 0 ≤ r40 → r40 < w (2 + 8 + 6 * q) 0 := fun z => (f40a z).1
  have f40b := fin_no I0 e40
  rw [← fin_cg CV (by rw [eN]; omega)] at e40
  refine r_iflt (pc := 43) (tgt := 49) dX11_split_43 rfl (by omega) (fun h43 => ?_) (fun h43 => ?_)
  · refine r_aload_n (pc := 49) dX11_split_49 rfl ?_
    refine g_X11_85 (pc := 50) rfl dX11_split_50 (by assumption) (by first | assumption | rfl) (fun h50 => ?_)
    refine r_bipush (pc := 53) (n := 24) dX11_split_53 (by decide) ?_
    refine r_icmplt (pc := 55) (tgt := 61) dX11_split_55 rfl (by omega) (by omega) (fun h55 => ?_) (fun h55 => ?_)
    · refine r_aload_n (pc := 61) dX11_split_61 rfl ?_
      refine h_X11_19 (pc := 62) rfl dX11_split_62 ?_
      refine r_aload_n (pc := 65) dX11_split_65 rfl ?_
      refine h_X11_10 (pc := 66) rfl dX11_split_66 ?_
      refine c_X11_90 (pc := 69) rfl dX11_split_69 (by first | assumption | rfl) (by omega) (Nat.le_of_ble_eq_true rfl) ?_
      refine m_X5_record (d - 1) (by omega) (by assumption) hr34 (SCL.sn hC.1) (fun w69 rec69 hw69 => ?_)
      obtain ⟨C69, F69⟩ := CLG_rec hG hC rec69
      obtain ⟨E69, I69, V69⟩ := rec_cur hq4 hC F69
      have N69 : w69 (2 + 8 + 6 * q) 0 = w (2 + 8 + 6 * q) 0 := by rw [F69 _ (by omega) (by omega)]
      have FL69 : FRL w w69 := fun p e => F69 p (by omega) (by omega)
      refine r_aload_n (pc := 72) dX11_split_72 rfl ?_
      refine r_iload_n (pc := 73) dX11_split_73 rfl ?_
      refine r_iload (pc := 74) dX11_split_74 rfl ?_
      refine c_X11_134 (pc := 76) rfl dX11_split_76 (by first | assumption | rfl) (by omega) (Nat.le_of_ble_eq_true rfl) ?_
      have B0 := k2 0 (by omega) (by omega)
      have B1 := k3 (by omega)
      have P0 := I0.2.1 0 (by omega) (show 0 < w (2 + 8 + 6 * q) 0 by omega)
      have P1 := I0.2.1 r18 (by omega) (show r18 < w (2 + 8 + 6 * q) 0 by omega)
      have fb : 0 ≤ f ∧ f ≤ 480 := ⟨by have : 0 ≤ w (2 + 8 + 6 * q + 1) 0 := P0.1; omega, by have : w (2 + 8 + 6 * q + 1) r18 ≤ 480 := P1.2.1; omega⟩
      have o : o_split G q f = (kbX (spY (G.now.c q) r18) f, setC (recG G) q (spX (G.now.c q) f r18)) := by
        unfold o_split
        rw [if_neg (fun z => z iq), if_neg (by omega), if_neg (by omega), ← e18]
      have S69 := spY_cv V69 (b := r18) (show 1 ≤ r18 ∧ r18 < G.now.c q 0 0 by omega)
      refine m_X0_divide (d - 1) (by omega) (by assumption) sq0 I69 (show 1 ≤ r18 ∧ r18 < w69 (2 + 8 + 6 * q) 0 by omega) (by omega) (by omega) (fun r76 w76 k76 f76 e76 hw76 => ?_)
      rw [← kbX_cg S69] at k76
      have C76 := CLG_cur (w2 := w76) (X := spX (G.now.c q) f r18) hq4 C69 (fun p a b => f76 p (by omega)) ((V69.spl I69 (show 1 ≤ r18 ∧ r18 < G.now.c q 0 0 by omega)).tr e76.sy.v) ((CI_spl I69 (show 1 ≤ r18 ∧ r18 < w69 (2 + 8 + 6 * q) 0 by omega) (show w69 (2 + 8 + 6 * q) 0 ≤ 23 by omega) (by omega) (fun j j0 j1 => by rw [← E69.row (by omega) (by omega) j0 (by rw [E69.1]; exact j1)]; exact f40b (by omega) j j0 (by rw [E69.1]; exact j1))).eq e76.sy)
      exact f_iret (pc := 79) dX11_split_79 rfl (by assumption) (hQ _ _ (fst_e o k76) (snd_e o C76) (FL69.tr (fun p e => f76 p (by omega))) (by assumption))
    have o : o_split G q f = (-1000000003, G) := by
      unfold o_split
      rw [if_neg (fun z => z iq), if_neg (by omega), if_pos (by omega)]
    refine r_ldc (pc := 58) (n := -1000000003) dX11_split_58 kw_X11_89 rfl ?_
    exact f_iret (pc := 60) dX11_split_60 rfl (by assumption) (hQ _ _ (fst_e o (by omega)) (snd_e o hC) (FRL.rf w) (by assumption))
  have o : o_split G q f = (-1000000002, G) := by
    unfold o_split
    rw [if_neg (fun z => z iq), if_pos (by omega)]
  refine r_ldc (pc := 46) (n := -1000000002) dX11_split_46 kw_X11_78 rfl ?_
  exact f_iret (pc := 48) dX11_split_48 rfl (by assumption) (hQ _ _ (fst_e o (by omega)) (snd_e o hC) (FRL.rf w) (by assumption))
set_option maxRecDepth 8000 in
theorem x_split_b {Q : Option AV → Wd → Prop} {w : Wd} (d : Nat) {q : Int} {f : Int} (hd : 9 ≤ d) (hw : WR w) (hq : ¬ inC q) (rq : R32 q) (rf : R32 f) (hQ : Q (some (vI (-1000000001))) w) : M mX11_split (Rm d) [vR (some 1), vI q, vI f] (fl w) (lQ Q) := by
  have hq : ¬ (0 ≤ q ∧ q ≤ 3) := hq
  refine f_mofv (L0 := [some (vR (some 1)), some (vI q), some (vI f), none, none]) rfl (Nat.le_of_ble_eq_true rfl) rfl ?_
  refine r_aload_n (pc := 0) dX11_split_0 rfl ?_
  refine h_X11_10 (pc := 1) rfl dX11_split_1 ?_
  refine r_iload_n (pc := 4) dX11_split_4 rfl ?_
  refine c_X11_69 (pc := 5) rfl dX11_split_5 (by first | assumption | rfl) (by omega) (Nat.le_of_ble_eq_true rfl) ?_
  refine m_X8_curveAtN (d - 1) (by omega) (by assumption) (show sh 2 = 8 from rfl) (by omega) (by omega) ?_
  refine r_astoreN3 (pc := 8) dX11_split_8 rfl ?_
  refine r_aload_nN (pc := 9) dX11_split_9 rfl ?_
  refine r_ifnonnull_n (pc := 10) dX11_split_10 ?_
  refine r_ldc (pc := 13) (n := -1000000001) dX11_split_13 kw_X11_73 rfl ?_
  exact f_iret (pc := 15) dX11_split_15 rfl (by assumption) hQ
theorem x_split {Q : Option AV → Wd → Prop} {w : Wd} (d : Nat) {G : GS} {q : Int} {f : Int} (hd : 9 ≤ d) (hw : WR w) (hG : GOK G) (hC : CLG G w) (rq : R32 q) (rf : R32 f) (hQ : ∀ r w2, r = (o_split G q f).1 → CLG (o_split G q f).2 w2 → FRL w w2 → WR w2 → Q (some (vI r)) w2) : M mX11_split (Rm d) [vR (some 1), vI q, vI f] (fl w) (lQ Q) := by
  by_cases hq : inC q
  · obtain ⟨p, rfl⟩ : ∃ p : Nat, q = p := ⟨q.toNat, by have h : 0 ≤ q ∧ q ≤ 3 := hq; omega⟩
    have h : 0 ≤ (p : Int) ∧ (p : Int) ≤ 3 := hq
    exact x_split_k d hd hw hG hC (by omega) rf hQ
  · have o : o_split G q f = (-1000000001, G) := by
      unfold o_split
      exact if_pos hq
    exact x_split_b d hd hw hq rq rf (hQ _ w (by rw [o]) (by rw [o]; exact hC) (FRL.rf w) hw)
set_option maxRecDepth 8000 in
theorem x_clear_k {Q : Option AV → Wd → Prop} {w : Wd} (d : Nat) {G : GS} {q : Nat} (hd : 6 ≤ d) (hw : WR w) (hG : GOK G) (hC : CLG G w) (hq4 : q < 4) (hQ : ∀ r w2, r = (o_clear G q).1 → CLG (o_clear G q).2 w2 → FRL w w2 → WR w2 → Q (some (vI r)) w2) : M mX11_clear (Rm d) [vR (some 1), vI q] (fl w) (lQ Q) := by
  have hr34 := CLG.hr hG hC
  have CV := hC.cv hq4
  have I0 := hC.ci hq4
  have sq0 : sh (2 + 8 + 6 * q) = 0 := (sh_sta (c := 2) rfl).2.2.2 q hq4
  obtain ⟨s1, s2, s3, s4, s5⟩ := sh_curve sq0
  have hn : 0 ≤ w (2 + 8 + 6 * q) 0 ∧ w (2 + 8 + 6 * q) 0 ≤ 24 := I0.1
  have eN : G.now.c q 0 0 = w (2 + 8 + 6 * q) 0 := CV.1
  have iq : inC (q : Int) := ⟨by omega, by omega⟩
  refine f_mofv (L0 := [some (vR (some 1)), some (vI q), none, none]) rfl (Nat.le_of_ble_eq_true rfl) rfl ?_
  refine r_aload_n (pc := 0) dX11_clear_0 rfl ?_
  refine h_X11_10 (pc := 1) rfl dX11_clear_1 ?_
  refine r_iload_n (pc := 4) dX11_clear_4 rfl ?_
  refine c_X11_69 (pc := 5) rfl dX11_clear_5 (by first | assumption | rfl) (by omega) (Nat.le_of_ble_eq_true rfl) ?_
  refine m_X8_curveAt (q := q) (d - 1) (by omega) (by assumption) (show sh 2 = 8 from rfl) hq4 rfl ?_
  refine r_astore2 (pc := 8) dX11_clear_8 rfl ?_
  refine r_aload_n (pc := 9) dX11_clear_9 rfl ?_
  refine r_ifnonnull_s (pc := 10) (tgt := 16) dX11_clear_10 rfl ?_
  refine r_aload_n (pc := 16) dX11_clear_16 rfl ?_
  refine h_X11_19 (pc := 17) rfl dX11_clear_17 ?_
  refine r_aload_n (pc := 20) dX11_clear_20 rfl ?_
  refine h_X11_10 (pc := 21) rfl dX11_clear_21 ?_
  refine c_X11_90 (pc := 24) rfl dX11_clear_24 (by first | assumption | rfl) (by omega) (Nat.le_of_ble_eq_true rfl) ?_
  refine m_X5_record (d - 1) (by omega) (by assumption) hr34 (SCL.sn hC.1) (fun w24 rec24 hw24 => ?_)
  obtain ⟨C24, F24⟩ := CLG_rec hG hC rec24
  obtain ⟨E24, I24, V24⟩ := rec_cur hq4 hC F24
  have N24 : w24 (2 + 8 + 6 * q) 0 = w (2 + 8 + 6 * q) 0 := by rw [F24 _ (by omega) (by omega)]
  have FL24 : FRL w w24 := fun p e => F24 p (by omega) (by omega)
  refine r_aload_n (pc := 27) dX11_clear_27 rfl ?_
  refine g_X11_85 (pc := 28) rfl dX11_clear_28 (by assumption) (by first | assumption | rfl) (fun h28 => ?_)
  refine r_istore3 (pc := 31) dX11_clear_31 rfl ?_
  refine r_aload_n (pc := 32) dX11_clear_32 rfl ?_
  refine r_iconst (pc := 33) (n := 0) dX11_clear_33 ?_
  refine p_X11_85 (pc := 34) rfl dX11_clear_34 (by assumption) (by first | assumption | rfl) (by omega) (fun hw34 => ?_)
  refine r_aload_n (pc := 37) dX11_clear_37 rfl ?_
  refine r_iconst (pc := 38) (n := 0) dX11_clear_38 ?_
  refine p_X11_137 (pc := 39) rfl dX11_clear_39 (by assumption) (by first | assumption | rfl) (by omega) (fun hw39 => ?_)
  refine r_aload_n (pc := 42) dX11_clear_42 rfl ?_
  refine r_iconst (pc := 43) (n := 0) dX11_clear_43 ?_
  refine p_X11_140 (pc := 44) rfl dX11_clear_44 (by assumption) (by first | assumption | rfl) (by omega) (fun hw44 => ?_)
  have o : o_clear G q = (G.now.c q 0 0, setC (recG G) q (stX (stX (stX (G.now.c q) 0 0 0) 0 1 0) 0 2 0)) := by
    unfold o_clear
    rw [if_neg (fun z => z iq)]
  have C44 := CLG_cur (w2 := up (up (up w24 (2 + 8 + 6 * q) 0 0) (2 + 8 + 6 * q) 1 0) (2 + 8 + 6 * q) 2 0) (X := stX (stX (stX (G.now.c q) 0 0 0) 0 1 0) 0 2 0) hq4 C24 (fun p a b => by rw [up_ne (by omega), up_ne (by omega), up_ne (by omega)]) (by rw [cx_up0, cx_up0, cx_up0]; exact (V24.clr.st0 0 (by omega)).st0 0 (by omega)) (by rw [cx_up0, cx_up0, cx_up0]; exact CI_clr _)
  refine r_iload_n (pc := 47) dX11_clear_47 rfl ?_
  exact f_iret (pc := 48) dX11_clear_48 rfl (by assumption) (hQ _ _ (fst_e o (by omega)) (snd_e o C44) (FL24.tr (fun p e => by rw [up_ne (by omega), up_ne (by omega), up_ne (by omega)])) (by assumption))
set_option maxRecDepth 8000 in
theorem x_clear_b {Q : Option AV → Wd → Prop} {w : Wd} (d : Nat) {q : Int} (hd : 6 ≤ d) (hw : WR w) (hq : ¬ inC q) (rq : R32 q) (hQ : Q (some (vI (-1000000001))) w) : M mX11_clear (Rm d) [vR (some 1), vI q] (fl w) (lQ Q) := by
  have hq : ¬ (0 ≤ q ∧ q ≤ 3) := hq
  refine f_mofv (L0 := [some (vR (some 1)), some (vI q), none, none]) rfl (Nat.le_of_ble_eq_true rfl) rfl ?_
  refine r_aload_n (pc := 0) dX11_clear_0 rfl ?_
  refine h_X11_10 (pc := 1) rfl dX11_clear_1 ?_
  refine r_iload_n (pc := 4) dX11_clear_4 rfl ?_
  refine c_X11_69 (pc := 5) rfl dX11_clear_5 (by first | assumption | rfl) (by omega) (Nat.le_of_ble_eq_true rfl) ?_
  refine m_X8_curveAtN (d - 1) (by omega) (by assumption) (show sh 2 = 8 from rfl) (by omega) (by omega) ?_
  refine r_astoreN2 (pc := 8) dX11_clear_8 rfl ?_
  refine r_aload_nN (pc := 9) dX11_clear_9 rfl ?_
  refine r_ifnonnull_n (pc := 10) dX11_clear_10 ?_
  refine r_ldc (pc := 13) (n := -1000000001) dX11_clear_13 kw_X11_73 rfl ?_
  exact f_iret (pc := 15) dX11_clear_15 rfl (by assumption) hQ
theorem x_clear {Q : Option AV → Wd → Prop} {w : Wd} (d : Nat) {G : GS} {q : Int} (hd : 6 ≤ d) (hw : WR w) (hG : GOK G) (hC : CLG G w) (rq : R32 q) (hQ : ∀ r w2, r = (o_clear G q).1 → CLG (o_clear G q).2 w2 → FRL w w2 → WR w2 → Q (some (vI r)) w2) : M mX11_clear (Rm d) [vR (some 1), vI q] (fl w) (lQ Q) := by
  by_cases hq : inC q
  · obtain ⟨p, rfl⟩ : ∃ p : Nat, q = p := ⟨q.toNat, by have h : 0 ≤ q ∧ q ≤ 3 := hq; omega⟩
    have h : 0 ≤ (p : Int) ∧ (p : Int) ≤ 3 := hq
    exact x_clear_k d hd hw hG hC (by omega) hQ
  · have o : o_clear G q = (-1000000001, G) := by
      unfold o_clear
      exact if_pos hq
    exact x_clear_b d hd hw hq rq (hQ _ w (by rw [o]) (by rw [o]; exact hC) (FRL.rf w) hw)
set_option maxRecDepth 8000 in
theorem x_setExtrapolation_k {Q : Option AV → Wd → Prop} {w : Wd} (d : Nat) {G : GS} {q : Nat} {a b : Int} (hd : 6 ≤ d) (hw : WR w) (hG : GOK G) (hC : CLG G w) (hq4 : q < 4) (ra : R32 a) (rb : R32 b) (hQ : ∀ r w2, r = (o_setExtrapolation G q a b).1 → CLG (o_setExtrapolation G q a b).2 w2 → FRL w w2 → WR w2 → Q (some (vI r)) w2) : M mX11_setExtrapolation (Rm d) [vR (some 1), vI q, vI a, vI b] (fl w) (lQ Q) := by
  have hr34 := CLG.hr hG hC
  have CV := hC.cv hq4
  have I0 := hC.ci hq4
  have sq0 : sh (2 + 8 + 6 * q) = 0 := (sh_sta (c := 2) rfl).2.2.2 q hq4
  obtain ⟨s1, s2, s3, s4, s5⟩ := sh_curve sq0
  have hn : 0 ≤ w (2 + 8 + 6 * q) 0 ∧ w (2 + 8 + 6 * q) 0 ≤ 24 := I0.1
  have eN : G.now.c q 0 0 = w (2 + 8 + 6 * q) 0 := CV.1
  have iq : inC (q : Int) := ⟨by omega, by omega⟩
  refine f_mofv (L0 := [some (vR (some 1)), some (vI q), some (vI a), some (vI b), none, none]) rfl (Nat.le_of_ble_eq_true rfl) rfl ?_
  refine r_aload_n (pc := 0) dX11_setExtrapolation_0 rfl ?_
  refine h_X11_10 (pc := 1) rfl dX11_setExtrapolation_1 ?_
  refine r_iload_n (pc := 4) dX11_setExtrapolation_4 rfl ?_
  refine c_X11_69 (pc := 5) rfl dX11_setExtrapolation_5 (by first | assumption | rfl) (by omega) (Nat.le_of_ble_eq_true rfl) ?_
  refine m_X8_curveAt (q := q) (d - 1) (by omega) (by assumption) (show sh 2 = 8 from rfl) hq4 rfl ?_
  refine r_astore4 (pc := 8) dX11_setExtrapolation_8 rfl ?_
  refine r_aload (pc := 10) dX11_setExtrapolation_10 rfl ?_
  refine r_ifnonnull_s (pc := 12) (tgt := 18) dX11_setExtrapolation_12 rfl ?_
  refine r_iload_n (pc := 18) dX11_setExtrapolation_18 rfl ?_
  refine r_iconst (pc := 19) (n := 0) dX11_setExtrapolation_19 ?_
  refine r_iconst (pc := 20) (n := 4) dX11_setExtrapolation_20 ?_
  refine c_X11_74 (pc := 21) rfl dX11_setExtrapolation_21 (by omega) (Nat.le_of_ble_eq_true rfl) ?_
  refine m_X11_within (d - 1) (by omega) (by assumption) (by omega) (by omega) (by omega) (fun r21 e21 b21 => ?_)
  have i21 := b2i_i e21
  refine r_ifeq (pc := 24) (tgt := 36) dX11_setExtrapolation_24 rfl (by omega) (fun h24 => ?_) (fun h24 => ?_)
  · have o : o_setExtrapolation G q a b = (-1000000002, G) := by
      unfold o_setExtrapolation
      rw [if_neg (fun z => z iq), if_pos (by omega)]
    refine r_ldc (pc := 36) (n := -1000000002) dX11_setExtrapolation_36 kw_X11_78 rfl ?_
    exact f_iret (pc := 38) dX11_setExtrapolation_38 rfl (by assumption) (hQ _ _ (fst_e o (by omega)) (snd_e o hC) (FRL.rf w) (by assumption))
  refine r_iload_n (pc := 27) dX11_setExtrapolation_27 rfl ?_
  refine r_iconst (pc := 28) (n := 0) dX11_setExtrapolation_28 ?_
  refine r_iconst (pc := 29) (n := 4) dX11_setExtrapolation_29 ?_
  refine c_X11_74 (pc := 30) rfl dX11_setExtrapolation_30 (by omega) (Nat.le_of_ble_eq_true rfl) ?_
  refine m_X11_within (d - 1) (by omega) (by assumption) (by omega) (by omega) (by omega) (fun r30 e30 b30 => ?_)
  have i30 := b2i_i e30
  refine r_ifne (pc := 33) (tgt := 39) dX11_setExtrapolation_33 rfl (by omega) (fun h33 => ?_) (fun h33 => ?_)
  · refine r_aload (pc := 39) dX11_setExtrapolation_39 rfl ?_
    refine c_X11_143 (pc := 41) rfl dX11_setExtrapolation_41 (by first | assumption | rfl) (by omega) (Nat.le_of_ble_eq_true rfl) ?_
    refine m_X0_bothExtrapolations (d - 1) (by omega) (by assumption) sq0 (fun r41 e41 => ?_)
    have e41 : r41 = 10 * G.now.c q 0 1 + G.now.c q 0 2 := by rw [e41, CV.2.1, CV.2.2.1]; rfl
    refine r_istore5 (pc := 44) dX11_setExtrapolation_44 rfl ?_
    refine r_aload_n (pc := 46) dX11_setExtrapolation_46 rfl ?_
    refine h_X11_19 (pc := 47) rfl dX11_setExtrapolation_47 ?_
    refine r_aload_n (pc := 50) dX11_setExtrapolation_50 rfl ?_
    refine h_X11_10 (pc := 51) rfl dX11_setExtrapolation_51 ?_
    refine c_X11_90 (pc := 54) rfl dX11_setExtrapolation_54 (by first | assumption | rfl) (by omega) (Nat.le_of_ble_eq_true rfl) ?_
    refine m_X5_record (d - 1) (by omega) (by assumption) hr34 (SCL.sn hC.1) (fun w54 rec54 hw54 => ?_)
    obtain ⟨C54, F54⟩ := CLG_rec hG hC rec54
    obtain ⟨E54, I54, V54⟩ := rec_cur hq4 hC F54
    have N54 : w54 (2 + 8 + 6 * q) 0 = w (2 + 8 + 6 * q) 0 := by rw [F54 _ (by omega) (by omega)]
    have FL54 : FRL w w54 := fun p e => F54 p (by omega) (by omega)
    refine r_aload (pc := 57) dX11_setExtrapolation_57 rfl ?_
    refine r_iload_n (pc := 59) dX11_setExtrapolation_59 rfl ?_
    refine p_X11_137 (pc := 60) rfl dX11_setExtrapolation_60 (by assumption) (by first | assumption | rfl) (by omega) (fun hw60 => ?_)
    refine r_aload (pc := 63) dX11_setExtrapolation_63 rfl ?_
    refine r_iload_n (pc := 65) dX11_setExtrapolation_65 rfl ?_
    refine p_X11_140 (pc := 66) rfl dX11_setExtrapolation_66 (by assumption) (by first | assumption | rfl) (by omega) (fun hw66 => ?_)
    have o : o_setExtrapolation G q a b = (10 * G.now.c q 0 1 + G.now.c q 0 2, setC (recG G) q (stX (stX (G.now.c q) 0 1 a) 0 2 b)) := by
      unfold o_setExtrapolation
      rw [if_neg (fun z => z iq), if_neg (by omega)]
    have C66 := CLG_cur (w2 := up (up w54 (2 + 8 + 6 * q) 1 a) (2 + 8 + 6 * q) 2 b) (X := stX (stX (G.now.c q) 0 1 a) 0 2 b) hq4 C54 (fun p a b => by rw [up_ne (by omega), up_ne (by omega)]) (by rw [cx_up0, cx_up0]; exact (V54.st0 a (by omega)).st0 b (by omega)) (by rw [cx_up0, cx_up0]; exact CI_ext I54 (by omega) (by omega))
    refine r_iload (pc := 69) dX11_setExtrapolation_69 rfl ?_
    exact f_iret (pc := 71) dX11_setExtrapolation_71 rfl (by assumption) (hQ _ _ (fst_e o e41) (snd_e o C66) (FL54.tr (fun p e => by rw [up_ne (by omega), up_ne (by omega)])) (by assumption))
  have o : o_setExtrapolation G q a b = (-1000000002, G) := by
    unfold o_setExtrapolation
    rw [if_neg (fun z => z iq), if_pos (by omega)]
  refine r_ldc (pc := 36) (n := -1000000002) dX11_setExtrapolation_36 kw_X11_78 rfl ?_
  exact f_iret (pc := 38) dX11_setExtrapolation_38 rfl (by assumption) (hQ _ _ (fst_e o (by omega)) (snd_e o hC) (FRL.rf w) (by assumption))
set_option maxRecDepth 8000 in
theorem x_setExtrapolation_b {Q : Option AV → Wd → Prop} {w : Wd} (d : Nat) {q : Int} {a b : Int} (hd : 6 ≤ d) (hw : WR w) (hq : ¬ inC q) (rq : R32 q) (ra : R32 a) (rb : R32 b) (hQ : Q (some (vI (-1000000001))) w) : M mX11_setExtrapolation (Rm d) [vR (some 1), vI q, vI a, vI b] (fl w) (lQ Q) := by
  have hq : ¬ (0 ≤ q ∧ q ≤ 3) := hq
  refine f_mofv (L0 := [some (vR (some 1)), some (vI q), some (vI a), some (vI b), none, none]) rfl (Nat.le_of_ble_eq_true rfl) rfl ?_
  refine r_aload_n (pc := 0) dX11_setExtrapolation_0 rfl ?_
  refine h_X11_10 (pc := 1) rfl dX11_setExtrapolation_1 ?_
  refine r_iload_n (pc := 4) dX11_setExtrapolation_4 rfl ?_
  refine c_X11_69 (pc := 5) rfl dX11_setExtrapolation_5 (by first | assumption | rfl) (by omega) (Nat.le_of_ble_eq_true rfl) ?_
  refine m_X8_curveAtN (d - 1) (by omega) (by assumption) (show sh 2 = 8 from rfl) (by omega) (by omega) ?_
  refine r_astoreN4 (pc := 8) dX11_setExtrapolation_8 rfl ?_
  refine r_aloadN (pc := 10) dX11_setExtrapolation_10 rfl ?_
  refine r_ifnonnull_n (pc := 12) dX11_setExtrapolation_12 ?_
  refine r_ldc (pc := 15) (n := -1000000001) dX11_setExtrapolation_15 kw_X11_73 rfl ?_
  exact f_iret (pc := 17) dX11_setExtrapolation_17 rfl (by assumption) hQ
theorem x_setExtrapolation {Q : Option AV → Wd → Prop} {w : Wd} (d : Nat) {G : GS} {q : Int} {a b : Int} (hd : 6 ≤ d) (hw : WR w) (hG : GOK G) (hC : CLG G w) (rq : R32 q) (ra : R32 a) (rb : R32 b) (hQ : ∀ r w2, r = (o_setExtrapolation G q a b).1 → CLG (o_setExtrapolation G q a b).2 w2 → FRL w w2 → WR w2 → Q (some (vI r)) w2) : M mX11_setExtrapolation (Rm d) [vR (some 1), vI q, vI a, vI b] (fl w) (lQ Q) := by
  by_cases hq : inC q
  · obtain ⟨p, rfl⟩ : ∃ p : Nat, q = p := ⟨q.toNat, by have h : 0 ≤ q ∧ q ≤ 3 := hq; omega⟩
    have h : 0 ≤ (p : Int) ∧ (p : Int) ≤ 3 := hq
    exact x_setExtrapolation_k d hd hw hG hC (by omega) ra rb hQ
  · have o : o_setExtrapolation G q a b = (-1000000001, G) := by
      unfold o_setExtrapolation
      exact if_pos hq
    exact x_setExtrapolation_b d hd hw hq rq ra rb (hQ _ w (by rw [o]) (by rw [o]; exact hC) (FRL.rf w) hw)
set_option maxRecDepth 8000 in
theorem x_keys_k {Q : Option AV → Wd → Prop} {w : Wd} (d : Nat) {G : GS} {q : Nat} (hd : 3 ≤ d) (hw : WR w) (hG : GOK G) (hC : CLG G w) (hq4 : q < 4) (hQ : ∀ r, r = o_keys G q → Q (some (vI r)) w) : M mX11_keys (Rm d) [vR (some 1), vI q] (fl w) (lQ Q) := by
  have hr34 := CLG.hr hG hC
  have CV := hC.cv hq4
  have I0 := hC.ci hq4
  have sq0 : sh (2 + 8 + 6 * q) = 0 := (sh_sta (c := 2) rfl).2.2.2 q hq4
  obtain ⟨s1, s2, s3, s4, s5⟩ := sh_curve sq0
  have hn : 0 ≤ w (2 + 8 + 6 * q) 0 ∧ w (2 + 8 + 6 * q) 0 ≤ 24 := I0.1
  have eN : G.now.c q 0 0 = w (2 + 8 + 6 * q) 0 := CV.1
  have iq : inC (q : Int) := ⟨by omega, by omega⟩
  refine f_mofv (L0 := [some (vR (some 1)), some (vI q), none]) rfl (Nat.le_of_ble_eq_true rfl) rfl ?_
  refine r_aload_n (pc := 0) dX11_keys_0 rfl ?_
  refine h_X11_10 (pc := 1) rfl dX11_keys_1 ?_
  refine r_iload_n (pc := 4) dX11_keys_4 rfl ?_
  refine c_X11_69 (pc := 5) rfl dX11_keys_5 (by first | assumption | rfl) (by omega) (Nat.le_of_ble_eq_true rfl) ?_
  refine m_X8_curveAt (q := q) (d - 1) (by omega) (by assumption) (show sh 2 = 8 from rfl) hq4 rfl ?_
  refine r_astore2 (pc := 8) dX11_keys_8 rfl ?_
  refine r_aload_n (pc := 9) dX11_keys_9 rfl ?_
  refine r_ifnonnull_s (pc := 10) (tgt := 18) dX11_keys_10 rfl ?_
  refine r_aload_n (pc := 18) dX11_keys_18 rfl ?_
  refine g_X11_85 (pc := 19) rfl dX11_keys_19 (by assumption) (by first | assumption | rfl) (fun h19 => ?_)
  exact f_iret (pc := 22) dX11_keys_22 rfl (by assumption) (hQ _ (by unfold o_keys; rw [if_neg (fun z => z iq)]; omega))
set_option maxRecDepth 8000 in
theorem x_keys_b {Q : Option AV → Wd → Prop} {w : Wd} (d : Nat) {q : Int} (hd : 3 ≤ d) (hw : WR w) (hq : ¬ inC q) (rq : R32 q) (hQ : Q (some (vI (-1000000001))) w) : M mX11_keys (Rm d) [vR (some 1), vI q] (fl w) (lQ Q) := by
  have hq : ¬ (0 ≤ q ∧ q ≤ 3) := hq
  refine f_mofv (L0 := [some (vR (some 1)), some (vI q), none]) rfl (Nat.le_of_ble_eq_true rfl) rfl ?_
  refine r_aload_n (pc := 0) dX11_keys_0 rfl ?_
  refine h_X11_10 (pc := 1) rfl dX11_keys_1 ?_
  refine r_iload_n (pc := 4) dX11_keys_4 rfl ?_
  refine c_X11_69 (pc := 5) rfl dX11_keys_5 (by first | assumption | rfl) (by omega) (Nat.le_of_ble_eq_true rfl) ?_
  refine m_X8_curveAtN (d - 1) (by omega) (by assumption) (show sh 2 = 8 from rfl) (by omega) (by omega) ?_
  refine r_astoreN2 (pc := 8) dX11_keys_8 rfl ?_
  refine r_aload_nN (pc := 9) dX11_keys_9 rfl ?_
  refine r_ifnonnull_n (pc := 10) dX11_keys_10 ?_
  refine r_ldc (pc := 13) (n := -1000000001) dX11_keys_13 kw_X11_73 rfl ?_
  refine r_goto (pc := 15) (tgt := 22) dX11_keys_15 rfl ?_
  exact f_iret (pc := 22) dX11_keys_22 rfl (by assumption) hQ
theorem x_keys {Q : Option AV → Wd → Prop} {w : Wd} (d : Nat) {G : GS} {q : Int} (hd : 3 ≤ d) (hw : WR w) (hG : GOK G) (hC : CLG G w) (rq : R32 q) (hQ : ∀ r, r = o_keys G q → Q (some (vI r)) w) : M mX11_keys (Rm d) [vR (some 1), vI q] (fl w) (lQ Q) := by
  by_cases hq : inC q
  · obtain ⟨p, rfl⟩ : ∃ p : Nat, q = p := ⟨q.toNat, by have h : 0 ≤ q ∧ q ≤ 3 := hq; omega⟩
    have h : 0 ≤ (p : Int) ∧ (p : Int) ≤ 3 := hq
    exact x_keys_k d hd hw hG hC (by omega) hQ
  · exact x_keys_b d hd hw hq rq (hQ _ (by
      unfold o_keys
      exact (if_pos hq).symm))
set_option maxRecDepth 8000 in
theorem x_frameOf_k {Q : Option AV → Wd → Prop} {w : Wd} (d : Nat) {G : GS} {q : Nat} {k : Int} (hd : 3 ≤ d) (hw : WR w) (hG : GOK G) (hC : CLG G w) (hq4 : q < 4) (rk : R32 k) (hQ : ∀ r, r = o_rowOf 1 G q k → Q (some (vI r)) w) : M mX11_frameOf (Rm d) [vR (some 1), vI q, vI k] (fl w) (lQ Q) := by
  have hr34 := CLG.hr hG hC
  have CV := hC.cv hq4
  have I0 := hC.ci hq4
  have sq0 : sh (2 + 8 + 6 * q) = 0 := (sh_sta (c := 2) rfl).2.2.2 q hq4
  obtain ⟨s1, s2, s3, s4, s5⟩ := sh_curve sq0
  have hn : 0 ≤ w (2 + 8 + 6 * q) 0 ∧ w (2 + 8 + 6 * q) 0 ≤ 24 := I0.1
  have eN : G.now.c q 0 0 = w (2 + 8 + 6 * q) 0 := CV.1
  have iq : inC (q : Int) := ⟨by omega, by omega⟩
  refine f_mofv (L0 := [some (vR (some 1)), some (vI q), some (vI k), none]) rfl (Nat.le_of_ble_eq_true rfl) rfl ?_
  refine r_aload_n (pc := 0) dX11_frameOf_0 rfl ?_
  refine h_X11_10 (pc := 1) rfl dX11_frameOf_1 ?_
  refine r_iload_n (pc := 4) dX11_frameOf_4 rfl ?_
  refine c_X11_69 (pc := 5) rfl dX11_frameOf_5 (by first | assumption | rfl) (by omega) (Nat.le_of_ble_eq_true rfl) ?_
  refine m_X8_curveAt (q := q) (d - 1) (by omega) (by assumption) (show sh 2 = 8 from rfl) hq4 rfl ?_
  refine r_astore3 (pc := 8) dX11_frameOf_8 rfl ?_
  refine r_aload_n (pc := 9) dX11_frameOf_9 rfl ?_
  refine r_ifnull_s (pc := 10) dX11_frameOf_10 ?_
  refine r_aload_n (pc := 13) dX11_frameOf_13 rfl ?_
  refine r_iload_n (pc := 14) dX11_frameOf_14 rfl ?_
  refine c_X11_147 (pc := 15) rfl dX11_frameOf_15 (by first | assumption | rfl) (by omega) (Nat.le_of_ble_eq_true rfl) ?_
  refine m_X0_has (d - 1) (by omega) (by assumption) sq0 (by omega) (fun r15 e15 b15 => ?_)
  have i15 := b2i_i e15
  refine r_ifne (pc := 18) (tgt := 26) dX11_frameOf_18 rfl (by omega) (fun h18 => ?_) (fun h18 => ?_)
  · refine r_aload_n (pc := 26) dX11_frameOf_26 rfl ?_
    refine g_X11_151 (pc := 27) rfl dX11_frameOf_27 (by first | assumption | rfl) ?_
    refine r_iload_n (pc := 30) dX11_frameOf_30 rfl ?_
    refine c_X11_117 (pc := 31) rfl dX11_frameOf_31 (by omega) (Nat.le_of_ble_eq_true rfl) ?_
    refine m_X11_at (d - 1) (by omega) (by assumption) (n := 24) s1 (by omega) (by omega) (fun r31 e31 b31 => ?_)
    rw [gA_in (by omega) (by omega)] at e31
    exact f_iret (pc := 34) dX11_frameOf_34 rfl (by assumption) (hQ _ (by unfold o_rowOf; rw [if_neg (fun z => z iq), if_neg (by omega), e31]; exact (CV.row (r := 1) (by omega) (by omega) (by omega) (by omega)).symm))
  refine r_ldc (pc := 21) (n := -1000000001) dX11_frameOf_21 kw_X11_73 rfl ?_
  refine r_goto (pc := 23) (tgt := 34) dX11_frameOf_23 rfl ?_
  exact f_iret (pc := 34) dX11_frameOf_34 rfl (by assumption) (hQ _ (by unfold o_rowOf; rw [if_neg (fun z => z iq), if_pos (by omega)]))
set_option maxRecDepth 8000 in
theorem x_frameOf_b {Q : Option AV → Wd → Prop} {w : Wd} (d : Nat) {q : Int} {k : Int} (hd : 3 ≤ d) (hw : WR w) (hq : ¬ inC q) (rq : R32 q) (rk : R32 k) (hQ : Q (some (vI (-1000000001))) w) : M mX11_frameOf (Rm d) [vR (some 1), vI q, vI k] (fl w) (lQ Q) := by
  have hq : ¬ (0 ≤ q ∧ q ≤ 3) := hq
  refine f_mofv (L0 := [some (vR (some 1)), some (vI q), some (vI k), none]) rfl (Nat.le_of_ble_eq_true rfl) rfl ?_
  refine r_aload_n (pc := 0) dX11_frameOf_0 rfl ?_
  refine h_X11_10 (pc := 1) rfl dX11_frameOf_1 ?_
  refine r_iload_n (pc := 4) dX11_frameOf_4 rfl ?_
  refine c_X11_69 (pc := 5) rfl dX11_frameOf_5 (by first | assumption | rfl) (by omega) (Nat.le_of_ble_eq_true rfl) ?_
  refine m_X8_curveAtN (d - 1) (by omega) (by assumption) (show sh 2 = 8 from rfl) (by omega) (by omega) ?_
  refine r_astoreN3 (pc := 8) dX11_frameOf_8 rfl ?_
  refine r_aload_nN (pc := 9) dX11_frameOf_9 rfl ?_
  refine r_ifnull_n (pc := 10) (tgt := 21) dX11_frameOf_10 rfl ?_
  refine r_ldc (pc := 21) (n := -1000000001) dX11_frameOf_21 kw_X11_73 rfl ?_
  refine r_goto (pc := 23) (tgt := 34) dX11_frameOf_23 rfl ?_
  exact f_iret (pc := 34) dX11_frameOf_34 rfl (by assumption) hQ
theorem x_frameOf {Q : Option AV → Wd → Prop} {w : Wd} (d : Nat) {G : GS} {q : Int} {k : Int} (hd : 3 ≤ d) (hw : WR w) (hG : GOK G) (hC : CLG G w) (rq : R32 q) (rk : R32 k) (hQ : ∀ r, r = o_rowOf 1 G q k → Q (some (vI r)) w) : M mX11_frameOf (Rm d) [vR (some 1), vI q, vI k] (fl w) (lQ Q) := by
  by_cases hq : inC q
  · obtain ⟨p, rfl⟩ : ∃ p : Nat, q = p := ⟨q.toNat, by have h : 0 ≤ q ∧ q ≤ 3 := hq; omega⟩
    have h : 0 ≤ (p : Int) ∧ (p : Int) ≤ 3 := hq
    exact x_frameOf_k d hd hw hG hC (by omega) rk hQ
  · exact x_frameOf_b d hd hw hq rq rk (hQ _ (by
      unfold o_rowOf
      exact (if_pos hq).symm))
set_option maxRecDepth 8000 in
theorem x_valueOf_k {Q : Option AV → Wd → Prop} {w : Wd} (d : Nat) {G : GS} {q : Nat} {k : Int} (hd : 3 ≤ d) (hw : WR w) (hG : GOK G) (hC : CLG G w) (hq4 : q < 4) (rk : R32 k) (hQ : ∀ r, r = o_rowOf 2 G q k → Q (some (vI r)) w) : M mX11_valueOf (Rm d) [vR (some 1), vI q, vI k] (fl w) (lQ Q) := by
  have hr34 := CLG.hr hG hC
  have CV := hC.cv hq4
  have I0 := hC.ci hq4
  have sq0 : sh (2 + 8 + 6 * q) = 0 := (sh_sta (c := 2) rfl).2.2.2 q hq4
  obtain ⟨s1, s2, s3, s4, s5⟩ := sh_curve sq0
  have hn : 0 ≤ w (2 + 8 + 6 * q) 0 ∧ w (2 + 8 + 6 * q) 0 ≤ 24 := I0.1
  have eN : G.now.c q 0 0 = w (2 + 8 + 6 * q) 0 := CV.1
  have iq : inC (q : Int) := ⟨by omega, by omega⟩
  refine f_mofv (L0 := [some (vR (some 1)), some (vI q), some (vI k), none]) rfl (Nat.le_of_ble_eq_true rfl) rfl ?_
  refine r_aload_n (pc := 0) dX11_valueOf_0 rfl ?_
  refine h_X11_10 (pc := 1) rfl dX11_valueOf_1 ?_
  refine r_iload_n (pc := 4) dX11_valueOf_4 rfl ?_
  refine c_X11_69 (pc := 5) rfl dX11_valueOf_5 (by first | assumption | rfl) (by omega) (Nat.le_of_ble_eq_true rfl) ?_
  refine m_X8_curveAt (q := q) (d - 1) (by omega) (by assumption) (show sh 2 = 8 from rfl) hq4 rfl ?_
  refine r_astore3 (pc := 8) dX11_valueOf_8 rfl ?_
  refine r_aload_n (pc := 9) dX11_valueOf_9 rfl ?_
  refine r_ifnull_s (pc := 10) dX11_valueOf_10 ?_
  refine r_aload_n (pc := 13) dX11_valueOf_13 rfl ?_
  refine r_iload_n (pc := 14) dX11_valueOf_14 rfl ?_
  refine c_X11_147 (pc := 15) rfl dX11_valueOf_15 (by first | assumption | rfl) (by omega) (Nat.le_of_ble_eq_true rfl) ?_
  refine m_X0_has (d - 1) (by omega) (by assumption) sq0 (by omega) (fun r15 e15 b15 => ?_)
  have i15 := b2i_i e15
  refine r_ifne (pc := 18) (tgt := 26) dX11_valueOf_18 rfl (by omega) (fun h18 => ?_) (fun h18 => ?_)
  · refine r_aload_n (pc := 26) dX11_valueOf_26 rfl ?_
    refine g_X11_98 (pc := 27) rfl dX11_valueOf_27 (by first | assumption | rfl) ?_
    refine r_iload_n (pc := 30) dX11_valueOf_30 rfl ?_
    refine c_X11_117 (pc := 31) rfl dX11_valueOf_31 (by omega) (Nat.le_of_ble_eq_true rfl) ?_
    refine m_X11_at (d - 1) (by omega) (by assumption) (n := 24) s2 (by omega) (by omega) (fun r31 e31 b31 => ?_)
    rw [gA_in (by omega) (by omega)] at e31
    exact f_iret (pc := 34) dX11_valueOf_34 rfl (by assumption) (hQ _ (by unfold o_rowOf; rw [if_neg (fun z => z iq), if_neg (by omega), e31]; exact (CV.row (r := 2) (by omega) (by omega) (by omega) (by omega)).symm))
  refine r_ldc (pc := 21) (n := -1000000001) dX11_valueOf_21 kw_X11_73 rfl ?_
  refine r_goto (pc := 23) (tgt := 34) dX11_valueOf_23 rfl ?_
  exact f_iret (pc := 34) dX11_valueOf_34 rfl (by assumption) (hQ _ (by unfold o_rowOf; rw [if_neg (fun z => z iq), if_pos (by omega)]))
set_option maxRecDepth 8000 in
theorem x_valueOf_b {Q : Option AV → Wd → Prop} {w : Wd} (d : Nat) {q : Int} {k : Int} (hd : 3 ≤ d) (hw : WR w) (hq : ¬ inC q) (rq : R32 q) (rk : R32 k) (hQ : Q (some (vI (-1000000001))) w) : M mX11_valueOf (Rm d) [vR (some 1), vI q, vI k] (fl w) (lQ Q) := by
  have hq : ¬ (0 ≤ q ∧ q ≤ 3) := hq
  refine f_mofv (L0 := [some (vR (some 1)), some (vI q), some (vI k), none]) rfl (Nat.le_of_ble_eq_true rfl) rfl ?_
  refine r_aload_n (pc := 0) dX11_valueOf_0 rfl ?_
  refine h_X11_10 (pc := 1) rfl dX11_valueOf_1 ?_
  refine r_iload_n (pc := 4) dX11_valueOf_4 rfl ?_
  refine c_X11_69 (pc := 5) rfl dX11_valueOf_5 (by first | assumption | rfl) (by omega) (Nat.le_of_ble_eq_true rfl) ?_
  refine m_X8_curveAtN (d - 1) (by omega) (by assumption) (show sh 2 = 8 from rfl) (by omega) (by omega) ?_
  refine r_astoreN3 (pc := 8) dX11_valueOf_8 rfl ?_
  refine r_aload_nN (pc := 9) dX11_valueOf_9 rfl ?_
  refine r_ifnull_n (pc := 10) (tgt := 21) dX11_valueOf_10 rfl ?_
  refine r_ldc (pc := 21) (n := -1000000001) dX11_valueOf_21 kw_X11_73 rfl ?_
  refine r_goto (pc := 23) (tgt := 34) dX11_valueOf_23 rfl ?_
  exact f_iret (pc := 34) dX11_valueOf_34 rfl (by assumption) hQ
theorem x_valueOf {Q : Option AV → Wd → Prop} {w : Wd} (d : Nat) {G : GS} {q : Int} {k : Int} (hd : 3 ≤ d) (hw : WR w) (hG : GOK G) (hC : CLG G w) (rq : R32 q) (rk : R32 k) (hQ : ∀ r, r = o_rowOf 2 G q k → Q (some (vI r)) w) : M mX11_valueOf (Rm d) [vR (some 1), vI q, vI k] (fl w) (lQ Q) := by
  by_cases hq : inC q
  · obtain ⟨p, rfl⟩ : ∃ p : Nat, q = p := ⟨q.toNat, by have h : 0 ≤ q ∧ q ≤ 3 := hq; omega⟩
    have h : 0 ≤ (p : Int) ∧ (p : Int) ≤ 3 := hq
    exact x_valueOf_k d hd hw hG hC (by omega) rk hQ
  · exact x_valueOf_b d hd hw hq rq rk (hQ _ (by
      unfold o_rowOf
      exact (if_pos hq).symm))
set_option maxRecDepth 8000 in
theorem x_modeOf_k {Q : Option AV → Wd → Prop} {w : Wd} (d : Nat) {G : GS} {q : Nat} {k : Int} (hd : 3 ≤ d) (hw : WR w) (hG : GOK G) (hC : CLG G w) (hq4 : q < 4) (rk : R32 k) (hQ : ∀ r, r = o_rowOf 3 G q k → Q (some (vI r)) w) : M mX11_modeOf (Rm d) [vR (some 1), vI q, vI k] (fl w) (lQ Q) := by
  have hr34 := CLG.hr hG hC
  have CV := hC.cv hq4
  have I0 := hC.ci hq4
  have sq0 : sh (2 + 8 + 6 * q) = 0 := (sh_sta (c := 2) rfl).2.2.2 q hq4
  obtain ⟨s1, s2, s3, s4, s5⟩ := sh_curve sq0
  have hn : 0 ≤ w (2 + 8 + 6 * q) 0 ∧ w (2 + 8 + 6 * q) 0 ≤ 24 := I0.1
  have eN : G.now.c q 0 0 = w (2 + 8 + 6 * q) 0 := CV.1
  have iq : inC (q : Int) := ⟨by omega, by omega⟩
  refine f_mofv (L0 := [some (vR (some 1)), some (vI q), some (vI k), none]) rfl (Nat.le_of_ble_eq_true rfl) rfl ?_
  refine r_aload_n (pc := 0) dX11_modeOf_0 rfl ?_
  refine h_X11_10 (pc := 1) rfl dX11_modeOf_1 ?_
  refine r_iload_n (pc := 4) dX11_modeOf_4 rfl ?_
  refine c_X11_69 (pc := 5) rfl dX11_modeOf_5 (by first | assumption | rfl) (by omega) (Nat.le_of_ble_eq_true rfl) ?_
  refine m_X8_curveAt (q := q) (d - 1) (by omega) (by assumption) (show sh 2 = 8 from rfl) hq4 rfl ?_
  refine r_astore3 (pc := 8) dX11_modeOf_8 rfl ?_
  refine r_aload_n (pc := 9) dX11_modeOf_9 rfl ?_
  refine r_ifnull_s (pc := 10) dX11_modeOf_10 ?_
  refine r_aload_n (pc := 13) dX11_modeOf_13 rfl ?_
  refine r_iload_n (pc := 14) dX11_modeOf_14 rfl ?_
  refine c_X11_147 (pc := 15) rfl dX11_modeOf_15 (by first | assumption | rfl) (by omega) (Nat.le_of_ble_eq_true rfl) ?_
  refine m_X0_has (d - 1) (by omega) (by assumption) sq0 (by omega) (fun r15 e15 b15 => ?_)
  have i15 := b2i_i e15
  refine r_ifne (pc := 18) (tgt := 26) dX11_modeOf_18 rfl (by omega) (fun h18 => ?_) (fun h18 => ?_)
  · refine r_aload_n (pc := 26) dX11_modeOf_26 rfl ?_
    refine g_X11_114 (pc := 27) rfl dX11_modeOf_27 (by first | assumption | rfl) ?_
    refine r_iload_n (pc := 30) dX11_modeOf_30 rfl ?_
    refine c_X11_117 (pc := 31) rfl dX11_modeOf_31 (by omega) (Nat.le_of_ble_eq_true rfl) ?_
    refine m_X11_at (d - 1) (by omega) (by assumption) (n := 24) s3 (by omega) (by omega) (fun r31 e31 b31 => ?_)
    rw [gA_in (by omega) (by omega)] at e31
    exact f_iret (pc := 34) dX11_modeOf_34 rfl (by assumption) (hQ _ (by unfold o_rowOf; rw [if_neg (fun z => z iq), if_neg (by omega), e31]; exact (CV.row (r := 3) (by omega) (by omega) (by omega) (by omega)).symm))
  refine r_ldc (pc := 21) (n := -1000000001) dX11_modeOf_21 kw_X11_73 rfl ?_
  refine r_goto (pc := 23) (tgt := 34) dX11_modeOf_23 rfl ?_
  exact f_iret (pc := 34) dX11_modeOf_34 rfl (by assumption) (hQ _ (by unfold o_rowOf; rw [if_neg (fun z => z iq), if_pos (by omega)]))
set_option maxRecDepth 8000 in
theorem x_modeOf_b {Q : Option AV → Wd → Prop} {w : Wd} (d : Nat) {q : Int} {k : Int} (hd : 3 ≤ d) (hw : WR w) (hq : ¬ inC q) (rq : R32 q) (rk : R32 k) (hQ : Q (some (vI (-1000000001))) w) : M mX11_modeOf (Rm d) [vR (some 1), vI q, vI k] (fl w) (lQ Q) := by
  have hq : ¬ (0 ≤ q ∧ q ≤ 3) := hq
  refine f_mofv (L0 := [some (vR (some 1)), some (vI q), some (vI k), none]) rfl (Nat.le_of_ble_eq_true rfl) rfl ?_
  refine r_aload_n (pc := 0) dX11_modeOf_0 rfl ?_
  refine h_X11_10 (pc := 1) rfl dX11_modeOf_1 ?_
  refine r_iload_n (pc := 4) dX11_modeOf_4 rfl ?_
  refine c_X11_69 (pc := 5) rfl dX11_modeOf_5 (by first | assumption | rfl) (by omega) (Nat.le_of_ble_eq_true rfl) ?_
  refine m_X8_curveAtN (d - 1) (by omega) (by assumption) (show sh 2 = 8 from rfl) (by omega) (by omega) ?_
  refine r_astoreN3 (pc := 8) dX11_modeOf_8 rfl ?_
  refine r_aload_nN (pc := 9) dX11_modeOf_9 rfl ?_
  refine r_ifnull_n (pc := 10) (tgt := 21) dX11_modeOf_10 rfl ?_
  refine r_ldc (pc := 21) (n := -1000000001) dX11_modeOf_21 kw_X11_73 rfl ?_
  refine r_goto (pc := 23) (tgt := 34) dX11_modeOf_23 rfl ?_
  exact f_iret (pc := 34) dX11_modeOf_34 rfl (by assumption) hQ
theorem x_modeOf {Q : Option AV → Wd → Prop} {w : Wd} (d : Nat) {G : GS} {q : Int} {k : Int} (hd : 3 ≤ d) (hw : WR w) (hG : GOK G) (hC : CLG G w) (rq : R32 q) (rk : R32 k) (hQ : ∀ r, r = o_rowOf 3 G q k → Q (some (vI r)) w) : M mX11_modeOf (Rm d) [vR (some 1), vI q, vI k] (fl w) (lQ Q) := by
  by_cases hq : inC q
  · obtain ⟨p, rfl⟩ : ∃ p : Nat, q = p := ⟨q.toNat, by have h : 0 ≤ q ∧ q ≤ 3 := hq; omega⟩
    have h : 0 ≤ (p : Int) ∧ (p : Int) ≤ 3 := hq
    exact x_modeOf_k d hd hw hG hC (by omega) rk hQ
  · exact x_modeOf_b d hd hw hq rq rk (hQ _ (by
      unfold o_rowOf
      exact (if_pos hq).symm))
set_option maxRecDepth 8000 in
theorem x_slope_k {Q : Option AV → Wd → Prop} {w : Wd} (d : Nat) {G : GS} {q : Nat} {k o : Int} (hd : 6 ≤ d) (hw : WR w) (hG : GOK G) (hC : CLG G w) (hq4 : q < 4) (rk : R32 k) (ro : R32 o) (ho : o = 0 ∨ o = 1) (hQ : ∀ r, r = o_slope G q k o → Q (some (vI r)) w) : M mX11_slope (Rm d) [vR (some 1), vI q, vI k, vI o] (fl w) (lQ Q) := by
  have hr34 := CLG.hr hG hC
  have CV := hC.cv hq4
  have I0 := hC.ci hq4
  have sq0 : sh (2 + 8 + 6 * q) = 0 := (sh_sta (c := 2) rfl).2.2.2 q hq4
  obtain ⟨s1, s2, s3, s4, s5⟩ := sh_curve sq0
  have hn : 0 ≤ w (2 + 8 + 6 * q) 0 ∧ w (2 + 8 + 6 * q) 0 ≤ 24 := I0.1
  have eN : G.now.c q 0 0 = w (2 + 8 + 6 * q) 0 := CV.1
  have iq : inC (q : Int) := ⟨by omega, by omega⟩
  refine f_mofv (L0 := [some (vR (some 1)), some (vI q), some (vI k), some (vI o), none]) rfl (Nat.le_of_ble_eq_true rfl) rfl ?_
  refine r_aload_n (pc := 0) dX11_slope_0 rfl ?_
  refine h_X11_10 (pc := 1) rfl dX11_slope_1 ?_
  refine r_iload_n (pc := 4) dX11_slope_4 rfl ?_
  refine c_X11_69 (pc := 5) rfl dX11_slope_5 (by first | assumption | rfl) (by omega) (Nat.le_of_ble_eq_true rfl) ?_
  refine m_X8_curveAt (q := q) (d - 1) (by omega) (by assumption) (show sh 2 = 8 from rfl) hq4 rfl ?_
  refine r_astore4 (pc := 8) dX11_slope_8 rfl ?_
  refine r_aload (pc := 10) dX11_slope_10 rfl ?_
  refine r_ifnull_s (pc := 12) dX11_slope_12 ?_
  refine r_aload (pc := 15) dX11_slope_15 rfl ?_
  refine r_iload_n (pc := 17) dX11_slope_17 rfl ?_
  refine c_X11_147 (pc := 18) rfl dX11_slope_18 (by first | assumption | rfl) (by omega) (Nat.le_of_ble_eq_true rfl) ?_
  refine m_X0_has (d - 1) (by omega) (by assumption) sq0 (by omega) (fun r18 e18 b18 => ?_)
  have i18 := b2i_i e18
  refine r_ifne (pc := 21) (tgt := 29) dX11_slope_21 rfl (by omega) (fun h21 => ?_) (fun h21 => ?_)
  · refine r_aload (pc := 29) dX11_slope_29 rfl ?_
    refine r_iload_n (pc := 31) dX11_slope_31 rfl ?_
    refine r_iload_n (pc := 32) dX11_slope_32 rfl ?_
    refine c_X11_154 (pc := 33) rfl dX11_slope_33 (by first | assumption | rfl) (by omega) (Nat.le_of_ble_eq_true rfl) ?_
    refine m_X0_tangent (d - 1) (by omega) (by assumption) sq0 I0 (show 0 ≤ k ∧ k < w (2 + 8 + 6 * q) 0 by omega) ho (fun r33 e33 b33 => ?_)
    exact f_iret (pc := 36) dX11_slope_36 rfl (by assumption) (hQ _ (by unfold o_slope; rw [if_neg (fun z => z iq), if_neg (by omega), e33]; exact (slp_cg CV (by omega)).symm))
  refine r_ldc (pc := 24) (n := -1000000001) dX11_slope_24 kw_X11_73 rfl ?_
  refine r_goto (pc := 26) (tgt := 36) dX11_slope_26 rfl ?_
  exact f_iret (pc := 36) dX11_slope_36 rfl (by assumption) (hQ _ (by unfold o_slope; rw [if_neg (fun z => z iq), if_pos (by omega)]))
set_option maxRecDepth 8000 in
theorem x_slope_b {Q : Option AV → Wd → Prop} {w : Wd} (d : Nat) {q : Int} {k o : Int} (hd : 6 ≤ d) (hw : WR w) (hq : ¬ inC q) (rq : R32 q) (rk : R32 k) (ro : R32 o) (ho : o = 0 ∨ o = 1) (hQ : Q (some (vI (-1000000001))) w) : M mX11_slope (Rm d) [vR (some 1), vI q, vI k, vI o] (fl w) (lQ Q) := by
  have hq : ¬ (0 ≤ q ∧ q ≤ 3) := hq
  refine f_mofv (L0 := [some (vR (some 1)), some (vI q), some (vI k), some (vI o), none]) rfl (Nat.le_of_ble_eq_true rfl) rfl ?_
  refine r_aload_n (pc := 0) dX11_slope_0 rfl ?_
  refine h_X11_10 (pc := 1) rfl dX11_slope_1 ?_
  refine r_iload_n (pc := 4) dX11_slope_4 rfl ?_
  refine c_X11_69 (pc := 5) rfl dX11_slope_5 (by first | assumption | rfl) (by omega) (Nat.le_of_ble_eq_true rfl) ?_
  refine m_X8_curveAtN (d - 1) (by omega) (by assumption) (show sh 2 = 8 from rfl) (by omega) (by omega) ?_
  refine r_astoreN4 (pc := 8) dX11_slope_8 rfl ?_
  refine r_aloadN (pc := 10) dX11_slope_10 rfl ?_
  refine r_ifnull_n (pc := 12) (tgt := 24) dX11_slope_12 rfl ?_
  refine r_ldc (pc := 24) (n := -1000000001) dX11_slope_24 kw_X11_73 rfl ?_
  refine r_goto (pc := 26) (tgt := 36) dX11_slope_26 rfl ?_
  exact f_iret (pc := 36) dX11_slope_36 rfl (by assumption) hQ
theorem x_slope {Q : Option AV → Wd → Prop} {w : Wd} (d : Nat) {G : GS} {q : Int} {k o : Int} (hd : 6 ≤ d) (hw : WR w) (hG : GOK G) (hC : CLG G w) (rq : R32 q) (rk : R32 k) (ro : R32 o) (ho : o = 0 ∨ o = 1) (hQ : ∀ r, r = o_slope G q k o → Q (some (vI r)) w) : M mX11_slope (Rm d) [vR (some 1), vI q, vI k, vI o] (fl w) (lQ Q) := by
  by_cases hq : inC q
  · obtain ⟨p, rfl⟩ : ∃ p : Nat, q = p := ⟨q.toNat, by have h : 0 ≤ q ∧ q ≤ 3 := hq; omega⟩
    have h : 0 ≤ (p : Int) ∧ (p : Int) ≤ 3 := hq
    exact x_slope_k d hd hw hG hC (by omega) rk ro ho hQ
  · exact x_slope_b d hd hw hq rq rk ro ho (hQ _ (by
      unfold o_slope
      exact (if_pos hq).symm))
set_option maxRecDepth 8000 in
theorem x_value_k {Q : Option AV → Wd → Prop} {w : Wd} (d : Nat) {G : GS} {q : Nat} {f : Int} (hd : 8 ≤ d) (hw : WR w) (hG : GOK G) (hC : CLG G w) (hq4 : q < 4) (rf : R32 f) (hQ : ∀ r, r = o_value G q f → Q (some (vI r)) w) : M mX11_value (Rm d) [vR (some 1), vI q, vI f] (fl w) (lQ Q) := by
  have hr34 := CLG.hr hG hC
  have CV := hC.cv hq4
  have I0 := hC.ci hq4
  have sq0 : sh (2 + 8 + 6 * q) = 0 := (sh_sta (c := 2) rfl).2.2.2 q hq4
  obtain ⟨s1, s2, s3, s4, s5⟩ := sh_curve sq0
  have hn : 0 ≤ w (2 + 8 + 6 * q) 0 ∧ w (2 + 8 + 6 * q) 0 ≤ 24 := I0.1
  have eN : G.now.c q 0 0 = w (2 + 8 + 6 * q) 0 := CV.1
  have iq : inC (q : Int) := ⟨by omega, by omega⟩
  refine f_mofv (L0 := [some (vR (some 1)), some (vI q), some (vI f), none]) rfl (Nat.le_of_ble_eq_true rfl) rfl ?_
  refine r_aload_n (pc := 0) dX11_value_0 rfl ?_
  refine h_X11_10 (pc := 1) rfl dX11_value_1 ?_
  refine r_iload_n (pc := 4) dX11_value_4 rfl ?_
  refine c_X11_69 (pc := 5) rfl dX11_value_5 (by first | assumption | rfl) (by omega) (Nat.le_of_ble_eq_true rfl) ?_
  refine m_X8_curveAt (q := q) (d - 1) (by omega) (by assumption) (show sh 2 = 8 from rfl) hq4 rfl ?_
  refine r_astore3 (pc := 8) dX11_value_8 rfl ?_
  refine r_aload_n (pc := 9) dX11_value_9 rfl ?_
  refine r_ifnonnull_s (pc := 10) (tgt := 16) dX11_value_10 rfl ?_
  refine r_iload_n (pc := 16) dX11_value_16 rfl ?_
  refine r_iconst (pc := 17) (n := 0) dX11_value_17 ?_
  refine r_sipush (pc := 18) (n := 960) dX11_value_18 (by decide) ?_
  refine c_X11_74 (pc := 21) rfl dX11_value_21 (by omega) (Nat.le_of_ble_eq_true rfl) ?_
  refine m_X11_within (d - 1) (by omega) (by assumption) (by omega) (by omega) (by omega) (fun r21 e21 b21 => ?_)
  have i21 := b2i_i e21
  refine r_ifne (pc := 24) (tgt := 30) dX11_value_24 rfl (by omega) (fun h24 => ?_) (fun h24 => ?_)
  · refine r_aload_n (pc := 30) dX11_value_30 rfl ?_
    refine g_X11_85 (pc := 31) rfl dX11_value_31 (by assumption) (by first | assumption | rfl) (fun h31 => ?_)
    refine r_ifne (pc := 34) (tgt := 42) dX11_value_34 rfl (by omega) (fun h34 => ?_) (fun h34 => ?_)
    · refine r_aload_n (pc := 42) dX11_value_42 rfl ?_
      refine r_iload_n (pc := 43) dX11_value_43 rfl ?_
      refine c_X11_159 (pc := 44) rfl dX11_value_44 (by first | assumption | rfl) (by omega) (Nat.le_of_ble_eq_true rfl) ?_
      refine m_X0_partsAt (d - 1) (by omega) (by assumption) sq0 I0 (by omega) (fun r44 e44 b44 => ?_)
      exact f_iret (pc := 47) dX11_value_47 rfl (by assumption) (hQ _ (by unfold o_value; rw [if_neg (fun z => z iq), if_neg (by omega), if_neg (by omega), e44]; exact valS_cg I0 CV.sy _))
    refine r_ldc (pc := 37) (n := -1000000005) dX11_value_37 kw_X11_158 rfl ?_
    refine r_goto (pc := 39) (tgt := 47) dX11_value_39 rfl ?_
    exact f_iret (pc := 47) dX11_value_47 rfl (by assumption) (hQ _ (by unfold o_value; rw [if_neg (fun z => z iq), if_neg (by omega), if_pos (by omega)]))
  refine r_ldc (pc := 27) (n := -1000000002) dX11_value_27 kw_X11_78 rfl ?_
  exact f_iret (pc := 29) dX11_value_29 rfl (by assumption) (hQ _ (by unfold o_value; rw [if_neg (fun z => z iq), if_pos (by omega)]))
set_option maxRecDepth 8000 in
theorem x_value_b {Q : Option AV → Wd → Prop} {w : Wd} (d : Nat) {q : Int} {f : Int} (hd : 8 ≤ d) (hw : WR w) (hq : ¬ inC q) (rq : R32 q) (rf : R32 f) (hQ : Q (some (vI (-1000000001))) w) : M mX11_value (Rm d) [vR (some 1), vI q, vI f] (fl w) (lQ Q) := by
  have hq : ¬ (0 ≤ q ∧ q ≤ 3) := hq
  refine f_mofv (L0 := [some (vR (some 1)), some (vI q), some (vI f), none]) rfl (Nat.le_of_ble_eq_true rfl) rfl ?_
  refine r_aload_n (pc := 0) dX11_value_0 rfl ?_
  refine h_X11_10 (pc := 1) rfl dX11_value_1 ?_
  refine r_iload_n (pc := 4) dX11_value_4 rfl ?_
  refine c_X11_69 (pc := 5) rfl dX11_value_5 (by first | assumption | rfl) (by omega) (Nat.le_of_ble_eq_true rfl) ?_
  refine m_X8_curveAtN (d - 1) (by omega) (by assumption) (show sh 2 = 8 from rfl) (by omega) (by omega) ?_
  refine r_astoreN3 (pc := 8) dX11_value_8 rfl ?_
  refine r_aload_nN (pc := 9) dX11_value_9 rfl ?_
  refine r_ifnonnull_n (pc := 10) dX11_value_10 ?_
  refine r_ldc (pc := 13) (n := -1000000001) dX11_value_13 kw_X11_73 rfl ?_
  exact f_iret (pc := 15) dX11_value_15 rfl (by assumption) hQ
theorem x_value {Q : Option AV → Wd → Prop} {w : Wd} (d : Nat) {G : GS} {q : Int} {f : Int} (hd : 8 ≤ d) (hw : WR w) (hG : GOK G) (hC : CLG G w) (rq : R32 q) (rf : R32 f) (hQ : ∀ r, r = o_value G q f → Q (some (vI r)) w) : M mX11_value (Rm d) [vR (some 1), vI q, vI f] (fl w) (lQ Q) := by
  by_cases hq : inC q
  · obtain ⟨p, rfl⟩ : ∃ p : Nat, q = p := ⟨q.toNat, by have h : 0 ≤ q ∧ q ≤ 3 := hq; omega⟩
    have h : 0 ≤ (p : Int) ∧ (p : Int) ≤ 3 := hq
    exact x_value_k d hd hw hG hC (by omega) rf hQ
  · exact x_value_b d hd hw hq rq rf (hQ _ (by
      unfold o_value
      exact (if_pos hq).symm))
set_option maxRecDepth 8000 in
theorem x_undo {Q : Option AV → Wd → Prop} {w : Wd} (d : Nat) {G : GS} (hd : 6 ≤ d) (hw : WR w) (hG : GOK G) (hC : CLG G w) (hQ : ∀ r w2, r = (o_undo G).1 → CLG (o_undo G).2 w2 → FRL w w2 → WR w2 → Q (some (vI r)) w2) : M mX11_undo (Rm d) [vR (some 1)] (fl w) (lQ Q) := by
  have hr34 := CLG.hr hG hC
  have ek := hC.2.1
  refine f_mofv (L0 := [some (vR (some 1))]) rfl (Nat.le_of_ble_eq_true rfl) rfl ?_
  refine r_aload_n (pc := 0) dX11_undo_0 rfl ?_
  refine h_X11_19 (pc := 1) rfl dX11_undo_1 ?_
  refine r_aload_n (pc := 4) dX11_undo_4 rfl ?_
  refine h_X11_10 (pc := 5) rfl dX11_undo_5 ?_
  refine c_X11_259 (pc := 8) rfl dX11_undo_8 (by first | assumption | rfl) (by omega) (Nat.le_of_ble_eq_true rfl) ?_
  refine m_X5_restore (d - 1) (by omega) (by assumption) hr34 hC.2.2.2.2.1 (fun r8 w8 h8 hw8 => ?_)
  rcases h8 with ⟨a1, a2, a3⟩ | ⟨a1, a2, a3⟩
  · have o : o_undo G = (-1000000005, G) := if_pos (by omega)
    subst a2
    exact f_iret (pc := 11) dX11_undo_11 rfl (by assumption) (hQ _ _ (fst_e o a3) (snd_e o hC) (FRL.rf _) (by assumption))
  have o : o_undo G = (G.k - 1, undG G) := if_neg (by omega)
  obtain ⟨u1, u2⟩ := CLG_und hG (by omega) hC a2
  exact f_iret (pc := 11) dX11_undo_11 rfl (by assumption) (hQ _ _ (fst_e o (by omega)) (snd_e o u1) u2 (by assumption))
