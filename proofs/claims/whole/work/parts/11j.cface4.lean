/-! the class's calls, on: texts -/
theorem CLG_txt {G : GS} {w w2 : Wd} {len : Int} {T : Int → Int} (h : CLG G w) (f : ∀ p, p ≤ 355 → w2 p = w p) (e1 : w2 356 0 = len) (e2 : w2 357 = T) : CLG (setT G len T) w2 := by
  obtain ⟨h1, h2, h3, h4, h5, h6, h7⟩ := h
  have f34 := f 34 (by omega)
  refine ⟨SCL_kp h1 (fun p a b => f p (by omega)), by rw [f34]; exact h2, by rw [f34]; exact h3, fun i q a b c e => ?_, fun q hq => SN_kp (h5 q hq) (fun p a b => f p (by omega)), e1, e2⟩
  rw [f34] at e
  exact SCL_kp (h4 i q a b c e) (fun p a b => f p (by omega))
theorem CLG_frm {G : GS} {w w2 : Wd} {e : EE} (h : CLG G w) (f : ∀ p, p ≠ 6 → p ≠ 7 → p ≠ 8 → w2 p = w p) (r : RWs 6 w2 e.1) : CLG (setF G e) w2 := by
  obtain ⟨⟨a1, a2, a3, a4⟩, h2, h3, h4, h5, h6, h7⟩ := h
  have f34 := f 34 (by omega) (by omega) (by omega)
  refine ⟨⟨fun q hq => ?_, by rw [f _ (by omega) (by omega) (by omega)]; exact a2, fun j b c => by rw [f (2 + 2) (by omega) (by omega) (by omega), f (2 + 3) (by omega) (by omega) (by omega)]; exact a3 j b c, r⟩, by rw [f34]; exact h2, by rw [f34]; exact h3, fun i q a b c z => ?_, fun q hq => SN_kp (h5 q hq) (fun p a b => f p (by omega) (by omega) (by omega)), by rw [f 356 (by omega) (by omega) (by omega)]; exact h6, by rw [f 357 (by omega) (by omega) (by omega)]; exact h7⟩
  · have E : CEQ (cx w (2 + 8 + 6 * q)) (cx w2 (2 + 8 + 6 * q)) := CEQ.of_eq fun r hr j => by
      unfold cx
      rw [f _ (by omega) (by omega) (by omega)]
    exact ⟨(a1 q hq).1.tr E.v, (a1 q hq).2.eq E⟩
  · rw [f34] at z
    exact SCL_kp (h4 i q a b c z) (fun p a b => f p (by omega) (by omega) (by omega))
theorem rdX_n {X : CP} {L : List K3} : rdX X L 0 0 = L.length := rfl
theorem rdX_e {X : CP} {L : List K3} {j : Int} (h : j ≠ 0) : rdX X L 0 j = X 0 j := by
  unfold rdX
  rw [if_pos rfl, if_neg h]
theorem rdX_r {X : CP} {L : List K3} {r : Nat} {i : Nat} {x : K3} (hr : 1 ≤ r) (h : L[i]? = some x) : rdX X L r i = if r = 1 then x.1 else if r = 2 then x.2.1 else if r = 3 then x.2.2 else 0 := by
  unfold rdX
  rw [if_neg (by omega), show ((i : Int)).toNat = i by omega, h]
theorem rd_get {L : List K3} {j : Int} (h0 : 0 ≤ j) (h1 : j < L.length) : ∃ x, L[j.toNat]? = some x := ⟨L[j.toNat]'(by omega), List.getElem?_eq_getElem (by omega)⟩
theorem rd_ceq {Y Z : CP} {L : List K3} (e0 : Z 0 0 = L.length) (e1 : Z 0 1 = Y 0 1) (e2 : Z 0 2 = Y 0 2) (hr : ∀ (i : Nat) (x : K3), L[i]? = some x → Z 1 i = x.1 ∧ Z 2 i = x.2.1 ∧ Z 3 i = x.2.2 ∧ Z 4 i = 0 ∧ Z 5 i = 0) : CEQ (rdX Y L) Z := by
  refine ⟨e0.symm, by rw [rdX_e (by omega), e1], by rw [rdX_e (by omega), e2], fun r r1 r5 j j0 j1 => ?_⟩
  obtain ⟨x, hx⟩ := rd_get j0 j1
  have h := hr _ _ hx
  have q := rdX_r (X := Y) r1 hx
  rw [show ((j.toNat : Nat) : Int) = j by omega] at h q
  rw [q]
  rcases (show r = 1 ∨ r = 2 ∨ r = 3 ∨ r = 4 ∨ r = 5 by omega) with z | z | z | z | z <;> subst z
  · exact h.1.symm
  · exact h.2.1.symm
  · exact h.2.2.1.symm
  · exact h.2.2.2.1.symm
  · exact h.2.2.2.2.symm
theorem CEV.rd {X Y : CP} (e : CEV X Y) (L : List K3) : CEV (rdX X L) (rdX Y L) := by
  refine ⟨rfl, by rw [rdX_e (by omega), rdX_e (by omega)]; exact e.2.1, by rw [rdX_e (by omega), rdX_e (by omega)]; exact e.2.2.1, fun j j0 j1 => ?_⟩
  have q : ∀ r : Nat, 1 ≤ r → rdX X L r j = rdX Y L r j := fun r h => by
    unfold rdX
    rw [if_neg (by omega), if_neg (by omega)]
  exact ⟨q 1 (by omega), q 2 (by omega), q 3 (by omega), fun _ => ⟨q 4 (by omega), q 5 (by omega)⟩⟩
theorem CI_rd {X : CP} (h : CI X) {L : List K3} (hl : L.length ≤ 24) (ok : okL L) : CI (rdX X L) := by
  obtain ⟨-, -, -, b⟩ := h
  refine ⟨⟨by rw [rdX_n]; omega, by rw [rdX_n]; omega⟩, fun j j0 j1 => ?_, fun i j i0 ij j1 => ?_, by rw [rdX_e (by omega), rdX_e (by omega)]; exact b⟩
  · obtain ⟨x, hx⟩ := rd_get j0 j1
    have q := fun r h => rdX_r (X := X) (r := r) h hx
    rw [show ((j.toNat : Nat) : Int) = j by omega] at q
    have z := ok.1 _ _ hx
    rw [q 1 (by omega), q 2 (by omega), q 3 (by omega), q 4 (by omega), q 5 (by omega)]
    exact ⟨z.1, z.2.1, z.2.2.1, z.2.2.2.1, z.2.2.2.2.1, z.2.2.2.2.2.1, by show (-9999 : Int) ≤ 0; omega, by show (0 : Int) ≤ 9999; omega, by show (-9999 : Int) ≤ 0; omega, by show (0 : Int) ≤ 9999; omega⟩
  · have j1 : j < L.length := j1
    obtain ⟨x, hx⟩ := rd_get (L := L) i0 (by omega)
    obtain ⟨y, hy⟩ := rd_get (L := L) (j := j) (by omega) j1
    have a := rdX_r (X := X) (r := 1) (by omega) hx
    have b := rdX_r (X := X) (r := 1) (by omega) hy
    rw [show ((i.toNat : Nat) : Int) = i by omega] at a
    rw [show ((j.toNat : Nat) : Int) = j by omega] at b
    rw [a, b]
    exact ok.2 _ _ _ _ (by omega) hx hy
def ckC (G : GS) : Nat → Int
  | 0 => 23
  | m + 1 => curH (ckC G m) (G.now.c m)
theorem ckA_s {G : GS} {h : Int} {m : Nat} : ckA G h (m + 1) = 31 * ckA G h m + mixS G (60 * m) := rfl
theorem kw_X11_263 : Jvm.Cond.constantLong RX11 263 (23 : Int64) ∈ gW := gw_t 804 (by decide +kernel) (by decide +kernel)
theorem kw_X11_270 : Jvm.Cond.constantLong RX11 270 (31 : Int64) ∈ gW := gw_t 816 (by decide +kernel) (by decide +kernel)
set_option maxRecDepth 8000 in
theorem x_append {Q : Option AV → Wd → Prop} {w : Wd} (d : Nat) {G : GS} {l : Int} (hd : 4 ≤ d) (hw : WR w) (hG : GOK G) (hC : CLG G w) (rl : R32 l) (hQ : ∀ r w2, r = (o_append G l).1 → CLG (o_append G l).2 w2 → FRL w w2 → WR w2 → Q (some (vI r)) w2) : M mX11_append (Rm d) [vR (some 1), vI l] (fl w) (lQ Q) := by
  have hr34 := CLG.hr hG hC
  have MI3 := CLG.mi hG hC
  have e3 : w 3 0 = G.now.n := hC.1.2.1
  have P3 := hC.1.2.2.1
  have M0 := hG.1.1
  have el : w 356 0 = G.len := hC.2.2.2.2.2.1
  have eT : w 357 = G.T := hC.2.2.2.2.2.2
  have bl := hG.2.2.2
  refine f_mofv (L0 := [some (vR (some 1)), some (vI l)]) rfl (Nat.le_of_ble_eq_true rfl) rfl ?_
  refine r_iload_n (pc := 0) dX11_append_0 rfl ?_
  refine r_iconst (pc := 1) (n := 0) dX11_append_1 ?_
  refine r_bipush (pc := 2) (n := 127) dX11_append_2 (by decide) ?_
  refine c_X11_74 (pc := 4) rfl dX11_append_4 (by omega) (Nat.le_of_ble_eq_true rfl) ?_
  refine m_X11_within (d - 1) (by omega) (by assumption) (by omega) (by omega) (by omega) (fun r4 e4 b4 => ?_)
  have i4 := b2i_i e4
  refine r_ifne (pc := 7) (tgt := 13) dX11_append_7 rfl (by omega) (fun h7 => ?_) (fun h7 => ?_)
  · refine r_aload_n (pc := 13) dX11_append_13 rfl ?_
    refine h_X11_26 (pc := 14) rfl dX11_append_14 ?_
    refine h_X11_226 (pc := 17) rfl dX11_append_17 (by assumption) (fun h17 => ?_)
    refine r_bipush (pc := 20) (n := 120) dX11_append_20 (by decide) ?_
    refine r_icmplt (pc := 22) (tgt := 30) dX11_append_22 rfl (by omega) (by omega) (fun h22 => ?_) (fun h22 => ?_)
    · refine r_aload_n (pc := 30) dX11_append_30 rfl ?_
      refine h_X11_26 (pc := 31) rfl dX11_append_31 ?_
      refine r_iload_n (pc := 34) dX11_append_34 rfl ?_
      refine c_X11_229 (pc := 35) rfl dX11_append_35 (by first | assumption | rfl) (by omega) (Nat.le_of_ble_eq_true rfl) ?_
      refine m_X9_add (d - 1) (by omega) (by assumption) (by omega) (by omega) (fun r35 w35 e35 f35 hw35 => ?_)
      have o : o_append G l = (G.len + 1, setT G (G.len + 1) (updI G.T G.len l)) := by
        unfold o_append
        rw [if_neg (by omega), if_neg (by omega)]
      rw [el] at f35
      have C35 := CLG_txt (w2 := w35) (len := G.len + 1) (T := updI G.T G.len l) hC (fun p e => by rw [f35, up_ne (by omega), up_ne (by omega)]) (by rw [f35, up_hit]) (by
        rw [f35, up_ne (by omega)]
        funext j
        unfold updI
        rw [← eT]
        by_cases z : j = G.len
        · rw [if_pos z, z, up_hit]
        · rw [if_neg z, up_off (by omega)])
      exact f_iret (pc := 38) dX11_append_38 rfl (by assumption) (hQ _ _ (fst_e o (by omega)) (snd_e o C35) (fun p e => by rw [f35, up_ne (by omega), up_ne (by omega)]) (by assumption))
    have o : o_append G l = (-1000000003, G) := by
      unfold o_append
      rw [if_neg (by omega), if_pos (by omega)]
    refine r_ldc (pc := 25) (n := -1000000003) dX11_append_25 kw_X11_89 rfl ?_
    refine r_goto (pc := 27) (tgt := 38) dX11_append_27 rfl ?_
    exact f_iret (pc := 38) dX11_append_38 rfl (by assumption) (hQ _ _ (fst_e o (by omega)) (snd_e o hC) (FRL.rf w) (by assumption))
  have o : o_append G l = (-1000000002, G) := by
    unfold o_append
    rw [if_pos (by omega)]
  refine r_ldc (pc := 10) (n := -1000000002) dX11_append_10 kw_X11_78 rfl ?_
  exact f_iret (pc := 12) dX11_append_12 rfl (by assumption) (hQ _ _ (fst_e o (by omega)) (snd_e o hC) (FRL.rf w) (by assumption))
set_option maxRecDepth 8000 in
theorem x_clearText {Q : Option AV → Wd → Prop} {w : Wd} (d : Nat) {G : GS} (hd : 2 ≤ d) (hw : WR w) (hG : GOK G) (hC : CLG G w) (hQ : ∀ r w2, r = (o_clearText G).1 → CLG (o_clearText G).2 w2 → FRL w w2 → WR w2 → Q (some (vI r)) w2) : M mX11_clearText (Rm d) [vR (some 1)] (fl w) (lQ Q) := by
  have hr34 := CLG.hr hG hC
  have MI3 := CLG.mi hG hC
  have e3 : w 3 0 = G.now.n := hC.1.2.1
  have P3 := hC.1.2.2.1
  have M0 := hG.1.1
  refine f_mofv (L0 := [some (vR (some 1)), none]) rfl (Nat.le_of_ble_eq_true rfl) rfl ?_
  refine r_aload_n (pc := 0) dX11_clearText_0 rfl ?_
  refine h_X11_26 (pc := 1) rfl dX11_clearText_1 ?_
  refine h_X11_226 (pc := 4) rfl dX11_clearText_4 (by assumption) (fun h4 => ?_)
  refine r_istore1 (pc := 7) dX11_clearText_7 rfl ?_
  refine r_aload_n (pc := 8) dX11_clearText_8 rfl ?_
  refine h_X11_26 (pc := 9) rfl dX11_clearText_9 ?_
  refine r_iconst (pc := 12) (n := 0) dX11_clearText_12 ?_
  refine ph_X11_226 (pc := 13) rfl dX11_clearText_13 (by assumption) (by omega) (fun hw13 => ?_)
  refine r_iload_n (pc := 16) dX11_clearText_16 rfl ?_
  exact f_iret (pc := 17) dX11_clearText_17 rfl (by assumption) (hQ _ _ hC.2.2.2.2.2.1 (show CLG (setT G 0 G.T) _ from CLG_txt hC (fun p e => up_ne (by omega)) up_hit ((up_ne (by omega)).trans hC.2.2.2.2.2.2)) (fun p e => up_ne (by omega)) (by assumption))
set_option maxRecDepth 8000 in
theorem x_faultPosition {Q : Option AV → Wd → Prop} {w : Wd} (d : Nat) {G : GS} {o : Int} (hd : 45 ≤ d) (hw : WR w) (hG : GOK G) (hC : CLG G w) (ro : R32 o) (ho : o = 0 ∨ o = 1) (hQ : ∀ r w2, r = o_fault G o → CLG G w2 → FRL w w2 → WR w2 → Q (some (vI r)) w2) : M mX11_faultPosition (Rm d) [vR (some 1), vI o] (fl w) (lQ Q) := by
  have hr34 := CLG.hr hG hC
  have MI3 := CLG.mi hG hC
  have e3 : w 3 0 = G.now.n := hC.1.2.1
  have P3 := hC.1.2.2.1
  have M0 := hG.1.1
  have el : w 356 0 = G.len := hC.2.2.2.2.2.1
  have eT : w 357 = G.T := hC.2.2.2.2.2.2
  have bl := hG.2.2.2
  refine f_mofv (L0 := [some (vR (some 1)), some (vI o)]) rfl (Nat.le_of_ble_eq_true rfl) rfl ?_
  refine r_iload_n (pc := 0) dX11_faultPosition_0 rfl ?_
  refine r_ifeq (pc := 1) (tgt := 18) dX11_faultPosition_1 rfl (by omega) (fun h1 => ?_) (fun h1 => ?_)
  · refine r_aload_n (pc := 18) dX11_faultPosition_18 rfl ?_
    refine h_X11_40 (pc := 19) rfl dX11_faultPosition_19 ?_
    refine r_aload_n (pc := 22) dX11_faultPosition_22 rfl ?_
    refine h_X11_26 (pc := 23) rfl dX11_faultPosition_23 ?_
    refine c_X11_235 (pc := 26) rfl dX11_faultPosition_26 (by first | assumption | rfl) (by omega) (Nat.le_of_ble_eq_true rfl) ?_
    refine m_X1_read (d - 1) (by omega) (by assumption) (by omega) (fun r26 w26 f26 rd26 hw26 => ?_)
    rw [eT, el] at rd26
    have C26 : CLG G w26 := CLG_kp hC (fun p e => f26.1 p (by omega) (by omega)) (f26.2 0 (by omega) (by omega)) (f26.1 357 (by omega) (by omega))
    have FL26 : FRL w w26 := fun p e => f26.1 p (by omega) (by omega)
    have rr26 : R32 r26 := by
      rcases rd26 with ⟨p, -, a, b, c⟩ | ⟨L, -, a, -⟩
      · omega
      · omega
    exact f_iret (pc := 29) dX11_faultPosition_29 rfl (by assumption) (hQ _ _ (by
          unfold o_fault
          rw [if_pos (by omega)]
          rcases rd26 with ⟨p, a, b, -⟩ | ⟨L, a, b, -⟩
          · rw [a]; exact b
          · rw [a]; exact b) C26 FL26 (by assumption))
  refine r_aload_n (pc := 4) dX11_faultPosition_4 rfl ?_
  refine h_X11_33 (pc := 5) rfl dX11_faultPosition_5 ?_
  refine r_aload_n (pc := 8) dX11_faultPosition_8 rfl ?_
  refine h_X11_26 (pc := 9) rfl dX11_faultPosition_9 ?_
  refine c_X11_231 (pc := 12) rfl dX11_faultPosition_12 (by first | assumption | rfl) (by omega) (Nat.le_of_ble_eq_true rfl) ?_
  refine m_X4_read (d - 1) (by omega) (by assumption) (by omega) (fun r12 w12 f12 rd12 hw12 => ?_)
  rw [eT, el] at rd12
  have C12 : CLG G w12 := CLG_kp hC (fun p e => f12.1 p (by omega) (by omega)) (f12.2 0 (by omega) (by omega)) (f12.1 357 (by omega) (by omega))
  have FL12 : FRL w w12 := fun p e => f12.1 p (by omega) (by omega)
  have rr12 : R32 r12 := by
    rcases rd12 with ⟨p, -, a, b, c⟩ | ⟨p, e, -, a, -⟩
    · omega
    · omega
  refine r_goto (pc := 15) (tgt := 29) dX11_faultPosition_15 rfl ?_
  exact f_iret (pc := 29) dX11_faultPosition_29 rfl (by assumption) (hQ _ _ (by
        unfold o_fault
        rw [if_neg (by omega)]
        rcases rd12 with ⟨p, a, b, -⟩ | ⟨p, e, a, b, -⟩
        · rw [a]; exact b
        · rw [a]; exact b) C12 FL12 (by assumption))
set_option maxRecDepth 8000 in
theorem x_readCurve_k {Q : Option AV → Wd → Prop} {w : Wd} (d : Nat) {G : GS} {q : Nat} (hd : 8 ≤ d) (hw : WR w) (hG : GOK G) (hC : CLG G w) (hq4 : q < 4) (hQ : ∀ r w2, r = (o_readCurve G q).1 → CLG (o_readCurve G q).2 w2 → FRL w w2 → WR w2 → Q (some (vI r)) w2) : M mX11_readCurve (Rm d) [vR (some 1), vI q] (fl w) (lQ Q) := by
  have hr34 := CLG.hr hG hC
  have CV := hC.cv hq4
  have I0 := hC.ci hq4
  have sq0 : sh (2 + 8 + 6 * q) = 0 := (sh_sta (c := 2) rfl).2.2.2 q hq4
  obtain ⟨s1, s2, s3, s4, s5⟩ := sh_curve sq0
  have hn : 0 ≤ w (2 + 8 + 6 * q) 0 ∧ w (2 + 8 + 6 * q) 0 ≤ 24 := I0.1
  have eN : G.now.c q 0 0 = w (2 + 8 + 6 * q) 0 := CV.1
  have iq : inC (q : Int) := ⟨by omega, by omega⟩
  have el : w 356 0 = G.len := hC.2.2.2.2.2.1
  have eT : w 357 = G.T := hC.2.2.2.2.2.2
  have bl := hG.2.2.2
  refine f_mofv (L0 := [some (vR (some 1)), some (vI q), none]) rfl (Nat.le_of_ble_eq_true rfl) rfl ?_
  refine r_aload_n (pc := 0) dX11_readCurve_0 rfl ?_
  refine h_X11_10 (pc := 1) rfl dX11_readCurve_1 ?_
  refine r_iload_n (pc := 4) dX11_readCurve_4 rfl ?_
  refine c_X11_69 (pc := 5) rfl dX11_readCurve_5 (by first | assumption | rfl) (by omega) (Nat.le_of_ble_eq_true rfl) ?_
  refine m_X8_curveAt (q := q) (d - 1) (by omega) (by assumption) (show sh 2 = 8 from rfl) hq4 rfl ?_
  refine r_astore2 (pc := 8) dX11_readCurve_8 rfl ?_
  refine r_aload_n (pc := 9) dX11_readCurve_9 rfl ?_
  refine r_ifnonnull_s (pc := 10) (tgt := 16) dX11_readCurve_10 rfl ?_
  refine r_aload_n (pc := 16) dX11_readCurve_16 rfl ?_
  refine h_X11_40 (pc := 17) rfl dX11_readCurve_17 ?_
  refine r_aload_n (pc := 20) dX11_readCurve_20 rfl ?_
  refine h_X11_26 (pc := 21) rfl dX11_readCurve_21 ?_
  refine c_X11_235 (pc := 24) rfl dX11_readCurve_24 (by first | assumption | rfl) (by omega) (Nat.le_of_ble_eq_true rfl) ?_
  refine m_X1_read (d - 1) (by omega) (by assumption) (by omega) (fun r24 w24 f24 rd24 hw24 => ?_)
  rw [eT, el] at rd24
  have C24 : CLG G w24 := CLG_kp hC (fun p e => f24.1 p (by omega) (by omega)) (f24.2 0 (by omega) (by omega)) (f24.1 357 (by omega) (by omega))
  have FL24 : FRL w w24 := fun p e => f24.1 p (by omega) (by omega)
  have rr24 : R32 r24 := by
    rcases rd24 with ⟨p, -, a, b, c⟩ | ⟨L, -, a, -⟩
    · omega
    · omega
  refine r_ldc (pc := 27) (n := -1000000005) dX11_readCurve_27 kw_X11_158 rfl ?_
  refine r_icmpeq (pc := 29) (tgt := 35) dX11_readCurve_29 rfl (by omega) (by omega) (fun h29 => ?_) (fun h29 => ?_)
  · obtain ⟨L, cl, -, n24, l24, ok24, rows24⟩ : ∃ L, crS G.T G.len = .inr L ∧ r24 = -1000000005 ∧ w24 363 0 = L.length ∧ L.length ≤ 24 ∧ okL L ∧ ∀ (i : Nat) (x : K3), L[i]? = some x → w24 364 i = x.1 ∧ w24 365 i = x.2.1 ∧ w24 366 i = x.2.2 ∧ w24 367 i = 0 ∧ w24 368 i = 0 := by
      rcases rd24 with ⟨p, -, a, b, c⟩ | h
      · exfalso; omega
      · exact h
    have o : o_readCurve G q = ((L.length : Int), setC (recG G) q (rdX (G.now.c q) L)) := by
      unfold o_readCurve
      rw [if_neg (fun z => z iq), cl]; rfl
    refine r_aload_n (pc := 35) dX11_readCurve_35 rfl ?_
    refine h_X11_19 (pc := 36) rfl dX11_readCurve_36 ?_
    refine r_aload_n (pc := 39) dX11_readCurve_39 rfl ?_
    refine h_X11_10 (pc := 40) rfl dX11_readCurve_40 ?_
    refine c_X11_90 (pc := 43) rfl dX11_readCurve_43 (by first | assumption | rfl) (by omega) (Nat.le_of_ble_eq_true rfl) ?_
    have hr341 := CLG.hr hG C24
    refine m_X5_record (d - 1) (by omega) (by assumption) hr341 (SCL.sn C24.1) (fun w43 rec43 hw43 => ?_)
    obtain ⟨C43, F43⟩ := CLG_rec hG C24 rec43
    obtain ⟨E43, I43, V43⟩ := rec_cur hq4 C24 F43
    have z43 : ∀ p, 355 < p → w43 p = w24 p := fun p e => F43 p (by omega) (by omega)
    refine r_aload_n (pc := 46) dX11_readCurve_46 rfl ?_
    refine r_aload_n (pc := 47) dX11_readCurve_47 rfl ?_
    refine h_X11_40 (pc := 48) rfl dX11_readCurve_48 ?_
    refine h_X11_236 (pc := 51) rfl dX11_readCurve_51 ?_
    refine c_X11_240 (pc := 54) rfl dX11_readCurve_54 (by first | assumption | rfl) (by omega) (Nat.le_of_ble_eq_true rfl) ?_
    refine m_X0_copyKeys (e := 363) (d - 1) (by omega) (by assumption) sq0 (show sh 363 = 0 from rfl) (by omega) (by rw [z43 _ (by omega)]; omega) (fun w54 f54 e54 hw54 => ?_)
    have R54 : CEQ (rdX (cx w43 (2 + 8 + 6 * q)) L) (cpK (cx w43 (2 + 8 + 6 * q)) (cx w43 363)) := rd_ceq (show w43 363 0 = L.length by rw [z43 _ (by omega)]; exact n24) rfl rfl (fun i x hx => by
      have h := rows24 i x hx
      show w43 364 i = _ ∧ w43 365 i = _ ∧ w43 366 i = _ ∧ w43 367 i = _ ∧ w43 368 i = _
      rw [z43 364 (by omega), z43 365 (by omega), z43 366 (by omega), z43 367 (by omega), z43 368 (by omega)]
      exact h)
    have T54 := R54.tr e54.sy
    have C54 := CLG_cur (w2 := w54) (X := rdX (G.now.c q) L) hq4 C43 (fun p a b => f54 p (by omega)) ((V43.rd L).tr T54.v) ((CI_rd I43 l24 ok24).eq T54)
    have n54 : w54 (2 + 8 + 6 * q) 0 = L.length := T54.1.symm
    refine r_aload_n (pc := 57) dX11_readCurve_57 rfl ?_
    refine g_X11_85 (pc := 58) rfl dX11_readCurve_58 (by assumption) (by first | assumption | rfl) (fun h58 => ?_)
    exact f_iret (pc := 61) dX11_readCurve_61 rfl (by assumption) (hQ _ _ (fst_e o n54) (snd_e o C54) (FL24.tr (fun p e => by rw [f54 p (by omega), F43 p (by omega) (by omega)])) (by assumption))
  have o : o_readCurve G q = (-1000000002, G) := by
    rcases rd24 with ⟨p, a, -⟩ | ⟨L, -, a, -⟩
    · unfold o_readCurve
      rw [if_neg (fun z => z iq), a]; rfl
    · exfalso; omega
  refine r_ldc (pc := 32) (n := -1000000002) dX11_readCurve_32 kw_X11_78 rfl ?_
  exact f_iret (pc := 34) dX11_readCurve_34 rfl (by assumption) (hQ _ _ (fst_e o (by omega)) (snd_e o C24) FL24 (by assumption))
set_option maxRecDepth 8000 in
theorem x_readCurve_b {Q : Option AV → Wd → Prop} {w : Wd} (d : Nat) {q : Int} (hd : 8 ≤ d) (hw : WR w) (hq : ¬ inC q) (rq : R32 q) (hQ : Q (some (vI (-1000000001))) w) : M mX11_readCurve (Rm d) [vR (some 1), vI q] (fl w) (lQ Q) := by
  have hq : ¬ (0 ≤ q ∧ q ≤ 3) := hq
  refine f_mofv (L0 := [some (vR (some 1)), some (vI q), none]) rfl (Nat.le_of_ble_eq_true rfl) rfl ?_
  refine r_aload_n (pc := 0) dX11_readCurve_0 rfl ?_
  refine h_X11_10 (pc := 1) rfl dX11_readCurve_1 ?_
  refine r_iload_n (pc := 4) dX11_readCurve_4 rfl ?_
  refine c_X11_69 (pc := 5) rfl dX11_readCurve_5 (by first | assumption | rfl) (by omega) (Nat.le_of_ble_eq_true rfl) ?_
  refine m_X8_curveAtN (d - 1) (by omega) (by assumption) (show sh 2 = 8 from rfl) (by omega) (by omega) ?_
  refine r_astoreN2 (pc := 8) dX11_readCurve_8 rfl ?_
  refine r_aload_nN (pc := 9) dX11_readCurve_9 rfl ?_
  refine r_ifnonnull_n (pc := 10) dX11_readCurve_10 ?_
  refine r_ldc (pc := 13) (n := -1000000001) dX11_readCurve_13 kw_X11_73 rfl ?_
  exact f_iret (pc := 15) dX11_readCurve_15 rfl (by assumption) hQ
theorem x_readCurve {Q : Option AV → Wd → Prop} {w : Wd} (d : Nat) {G : GS} {q : Int} (hd : 8 ≤ d) (hw : WR w) (hG : GOK G) (hC : CLG G w) (rq : R32 q) (hQ : ∀ r w2, r = (o_readCurve G q).1 → CLG (o_readCurve G q).2 w2 → FRL w w2 → WR w2 → Q (some (vI r)) w2) : M mX11_readCurve (Rm d) [vR (some 1), vI q] (fl w) (lQ Q) := by
  by_cases hq : inC q
  · obtain ⟨p, rfl⟩ : ∃ p : Nat, q = p := ⟨q.toNat, by have h : 0 ≤ q ∧ q ≤ 3 := hq; omega⟩
    have h : 0 ≤ (p : Int) ∧ (p : Int) ≤ 3 := hq
    exact x_readCurve_k d hd hw hG hC (by omega) hQ
  · have o : o_readCurve G q = (-1000000001, G) := by
      unfold o_readCurve
      exact if_pos hq
    exact x_readCurve_b d hd hw hq rq (hQ _ w (by rw [o]) (by rw [o]; exact hC) (FRL.rf w) hw)
set_option maxRecDepth 8000 in
theorem x_readFormula {Q : Option AV → Wd → Prop} {w : Wd} (d : Nat) {G : GS} (hd : 45 ≤ d) (hw : WR w) (hG : GOK G) (hC : CLG G w) (hQ : ∀ r w2, r = (o_readFormula G).1 → CLG (o_readFormula G).2 w2 → FRL w w2 → WR w2 → Q (some (vI r)) w2) : M mX11_readFormula (Rm d) [vR (some 1)] (fl w) (lQ Q) := by
  have hr34 := CLG.hr hG hC
  have MI3 := CLG.mi hG hC
  have e3 : w 3 0 = G.now.n := hC.1.2.1
  have P3 := hC.1.2.2.1
  have M0 := hG.1.1
  have el : w 356 0 = G.len := hC.2.2.2.2.2.1
  have eT : w 357 = G.T := hC.2.2.2.2.2.2
  have bl := hG.2.2.2
  refine f_mofv (L0 := [some (vR (some 1))]) rfl (Nat.le_of_ble_eq_true rfl) rfl ?_
  refine r_aload_n (pc := 0) dX11_readFormula_0 rfl ?_
  refine h_X11_33 (pc := 1) rfl dX11_readFormula_1 ?_
  refine r_aload_n (pc := 4) dX11_readFormula_4 rfl ?_
  refine h_X11_26 (pc := 5) rfl dX11_readFormula_5 ?_
  refine c_X11_231 (pc := 8) rfl dX11_readFormula_8 (by first | assumption | rfl) (by omega) (Nat.le_of_ble_eq_true rfl) ?_
  refine m_X4_read (d - 1) (by omega) (by assumption) (by omega) (fun r8 w8 f8 rd8 hw8 => ?_)
  rw [eT, el] at rd8
  have C8 : CLG G w8 := CLG_kp hC (fun p e => f8.1 p (by omega) (by omega)) (f8.2 0 (by omega) (by omega)) (f8.1 357 (by omega) (by omega))
  have FL8 : FRL w w8 := fun p e => f8.1 p (by omega) (by omega)
  have rr8 : R32 r8 := by
    rcases rd8 with ⟨p, -, a, b, c⟩ | ⟨p, e, -, a, -⟩
    · omega
    · omega
  refine r_ldc (pc := 11) (n := -1000000005) dX11_readFormula_11 kw_X11_158 rfl ?_
  refine r_icmpeq (pc := 13) (tgt := 19) dX11_readFormula_13 rfl (by omega) (by omega) (fun h13 => ?_) (fun h13 => ?_)
  · obtain ⟨p8, e8, pe8, -, rw8, l8, ge8⟩ : ∃ q e, prsS G.T G.len = .inr (q, e) ∧ r8 = -1000000005 ∧ RWs 359 w8 e.1 ∧ e.1.length ≤ 120 ∧ GE e := by
      rcases rd8 with ⟨p, -, a, b, c⟩ | h
      · exfalso; omega
      · exact h
    have o : o_readFormula G = (lfs e8.1, setF (recG G) e8) := by
      unfold o_readFormula
      rw [pe8]; rfl
    refine r_aload_n (pc := 19) dX11_readFormula_19 rfl ?_
    refine h_X11_19 (pc := 20) rfl dX11_readFormula_20 ?_
    refine r_aload_n (pc := 23) dX11_readFormula_23 rfl ?_
    refine h_X11_10 (pc := 24) rfl dX11_readFormula_24 ?_
    refine c_X11_90 (pc := 27) rfl dX11_readFormula_27 (by first | assumption | rfl) (by omega) (Nat.le_of_ble_eq_true rfl) ?_
    have hr341 := CLG.hr hG C8
    refine m_X5_record (d - 1) (by omega) (by assumption) hr341 (SCL.sn C8.1) (fun w27 rec27 hw27 => ?_)
    obtain ⟨C27, F27⟩ := CLG_rec hG C8 rec27
    have z27 : ∀ p, 355 < p → w27 p = w8 p := fun p e => F27 p (by omega) (by omega)
    refine r_aload_n (pc := 30) dX11_readFormula_30 rfl ?_
    refine h_X11_10 (pc := 31) rfl dX11_readFormula_31 ?_
    refine h_X11_244 (pc := 34) rfl dX11_readFormula_34 ?_
    refine r_aload_n (pc := 37) dX11_readFormula_37 rfl ?_
    refine h_X11_33 (pc := 38) rfl dX11_readFormula_38 ?_
    refine h_X11_248 (pc := 41) rfl dX11_readFormula_41 ?_
    refine c_X11_250 (pc := 44) rfl dX11_readFormula_44 (by first | assumption | rfl) (by omega) (Nat.le_of_ble_eq_true rfl) ?_
    refine m_X3_copy (c := 6) (e := 359) (d - 1) (by omega) (by assumption) (show sh 6 = 3 from rfl) (show sh 359 = 3 from rfl) (fun w44 e44 hw44 => ?_)
    have g44 : ∀ p, p ≠ 6 → p ≠ 7 → p ≠ 8 → w44 p = w27 p := fun p a b c => by
      rw [e44]
      funext j
      unfold upr up
      grind
    have R44 : RWs 6 w44 e8.1 := by
      refine RWs_kp rw8 l8 ?_ (fun j j0 j1 => ⟨?_, ?_⟩)
      · rw [← z27 359 (by omega), e44]; unfold upr up; grind
      · rw [← z27 360 (by omega), e44]; unfold upr up; grind
      · rw [← z27 361 (by omega), e44]; unfold upr up; grind
    have C44 := CLG_frm (e := e8) C27 g44 R44
    refine r_aload_n (pc := 47) dX11_readFormula_47 rfl ?_
    refine h_X11_10 (pc := 48) rfl dX11_readFormula_48 ?_
    refine h_X11_244 (pc := 51) rfl dX11_readFormula_51 ?_
    refine c_X11_256 (pc := 54) rfl dX11_readFormula_54 (by first | assumption | rfl) (by omega) (Nat.le_of_ble_eq_true rfl) ?_
    refine m_X3_operands (c := 6) (d - 1) (by omega) (by assumption) (show sh 6 = 3 from rfl) (by rw [R44.1]; omega) (fun r54 e54 => ?_)
    have e54 : r54 = lfs e8.1 := by
      rw [e54, R44.1, show ((e8.1.length : Nat) : Int).toNat = e8.1.length by omega]
      exact cntL_lfs (fun i x hx => (R44.2 i x hx).1)
    exact f_iret (pc := 57) dX11_readFormula_57 rfl (by assumption) (hQ _ _ (fst_e o e54) (snd_e o C44) (FL8.tr (fun p e => by rw [g44 p (by omega) (by omega) (by omega), F27 p (by omega) (by omega)])) (by assumption))
  have o : o_readFormula G = (-1000000002, G) := by
    rcases rd8 with ⟨p, a, -⟩ | ⟨p, e, -, a, -⟩
    · unfold o_readFormula
      rw [a]; rfl
    · exfalso; omega
  refine r_ldc (pc := 16) (n := -1000000002) dX11_readFormula_16 kw_X11_78 rfl ?_
  exact f_iret (pc := 18) dX11_readFormula_18 rfl (by assumption) (hQ _ _ (fst_e o (by omega)) (snd_e o C8) FL8 (by assumption))
set_option maxRecDepth 8000 in
theorem x_mix {Q : Option AV → Wd → Prop} {w : Wd} (d : Nat) {G : GS} {f : Int} (hd : 10 ≤ d) (hw : WR w) (hG : GOK G) (hC : CLG G w) (rf : R32 f) (hQ : ∀ r w2, r = o_mix G f → CLG G w2 → FRL w w2 → WR w2 → Q (some (vI r)) w2) : M mX11_mix (Rm d) [vR (some 1), vI f] (fl w) (lQ Q) := by
  have hr34 := CLG.hr hG hC
  have MI3 := CLG.mi hG hC
  have e3 : w 3 0 = G.now.n := hC.1.2.1
  have P3 := hC.1.2.2.1
  have M0 := hG.1.1
  refine f_mofv (L0 := [some (vR (some 1)), some (vI f)]) rfl (Nat.le_of_ble_eq_true rfl) rfl ?_
  refine r_iload_n (pc := 0) dX11_mix_0 rfl ?_
  refine r_iconst (pc := 1) (n := 0) dX11_mix_1 ?_
  refine r_sipush (pc := 2) (n := 960) dX11_mix_2 (by decide) ?_
  refine c_X11_74 (pc := 5) rfl dX11_mix_5 (by omega) (Nat.le_of_ble_eq_true rfl) ?_
  refine m_X11_within (d - 1) (by omega) (by assumption) (by omega) (by omega) (by omega) (fun r5 e5 b5 => ?_)
  have i5 := b2i_i e5
  refine r_ifeq (pc := 8) (tgt := 26) dX11_mix_8 rfl (by omega) (fun h8 => ?_) (fun h8 => ?_)
  · refine r_ldc (pc := 26) (n := -1000000002) dX11_mix_26 kw_X11_78 rfl ?_
    exact f_iret (pc := 28) dX11_mix_28 rfl (by assumption) (hQ _ w (by unfold o_mix; rw [if_neg (by omega)]) hC (FRL.rf w) (by assumption))
  refine r_aload_n (pc := 11) dX11_mix_11 rfl ?_
  refine h_X11_47 (pc := 12) rfl dX11_mix_12 ?_
  refine r_aload_n (pc := 15) dX11_mix_15 rfl ?_
  refine h_X11_10 (pc := 16) rfl dX11_mix_16 ?_
  refine r_iload_n (pc := 19) dX11_mix_19 rfl ?_
  refine c_X11_203 (pc := 20) rfl dX11_mix_20 (by first | assumption | rfl) (by omega) (Nat.le_of_ble_eq_true rfl) ?_
  refine m_X6_run (e := G.now.f) (d - 1) (by omega) (by assumption) (by omega) (fun p hp => hC.ci hp) hG.1.2.1 hC.1.2.2.2 hG.1.2.2 (fun r20 w20 e20 b20 f20 hw20 => ?_)
  refine r_goto (pc := 23) (tgt := 28) dX11_mix_23 rfl ?_
  exact f_iret (pc := 28) dX11_mix_28 rfl (by assumption) (hQ _ _ (by unfold o_mix; rw [if_pos (by omega), e20]; exact CLG.mx hG hC f) (CLG_all hC (fun p e => f20 p (by omega))) (fun p e => by
        by_cases z : p = 370
        · omega
        · exact f20 p z) (by assumption))
set_option maxRecDepth 8000 in
theorem x_checksum {Q : Option AV → Wd → Prop} {w : Wd} (d : Nat) {G : GS} (hd : 9 ≤ d) (hw : WR w) (hG : GOK G) (hC : CLG G w) (hQ : ∀ r w2, r = o_checksum G → CLG G w2 → FRL w w2 → WR w2 → Q (some (vL r)) w2) : M mX11_checksum (Rm d) [vR (some 1)] (fl w) (lQ Q) := by
  have hr34 := CLG.hr hG hC
  have MI3 := CLG.mi hG hC
  have e3 : w 3 0 = G.now.n := hC.1.2.1
  have P3 := hC.1.2.2.1
  have M0 := hG.1.1
  refine f_mofv (L0 := [some (vR (some 1)), none, none, none, none]) rfl (Nat.le_of_ble_eq_true rfl) rfl ?_
  have loop53 : ∀ n0 : Nat, ∀ i : Nat, 17 - i = n0 → i ≤ 17 → ∀ (w1 : Wd) (h : Int) (o4 : Option AV), h = ckA G (mapH (ckC G 4) G.now.n G.now.s G.now.g G.now.n.toNat) i → (∀ p, p ≠ 370 → w1 p = w p) → WR w1 → V mX11_checksum (Rm d) 0 0 53 [some (vR (some 1)), some (vL h), none, some (vI (60 * i)), o4] [] (fl w1) (lQ Q) := by
    refine ind_lt ?_
    intro n0 ih i hm hi w1 h o4 hh hf hw1
    have CC : CLG G w1 := CLG_all hC (fun p e => hf p (by omega))
    refine r_iload_n (pc := 53) dX11_checksum_53 rfl ?_
    refine r_sipush (pc := 54) (n := 960) dX11_checksum_54 (by decide) ?_
    refine r_icmpgt (pc := 57) (tgt := 86) dX11_checksum_57 rfl (by omega) (by omega) (fun h57 => ?_) (fun h57 => ?_)
    · refine r_lload_n (pc := 86) dX11_checksum_86 rfl ?_
      exact f_lret (pc := 87) dX11_checksum_87 rfl (by assumption) (hQ _ _ (by rw [hh, show i = 17 by omega]; rfl) CC (fun p e => by
            by_cases z : p = 370
            · omega
            · exact hf p z) (by assumption))
    refine r_ldc2 (pc := 60) (n := 31) dX11_checksum_60 kw_X11_270 rfl ?_
    refine r_lload_n (pc := 63) dX11_checksum_63 rfl ?_
    refine r_lmul (pc := 64) dX11_checksum_64 ?_
    refine r_aload_n (pc := 65) dX11_checksum_65 rfl ?_
    refine h_X11_47 (pc := 66) rfl dX11_checksum_66 ?_
    refine r_aload_n (pc := 69) dX11_checksum_69 rfl ?_
    refine h_X11_10 (pc := 70) rfl dX11_checksum_70 ?_
    refine r_iload_n (pc := 73) dX11_checksum_73 rfl ?_
    refine c_X11_203 (pc := 74) rfl dX11_checksum_74 (by first | assumption | rfl) (by omega) (Nat.le_of_ble_eq_true rfl) ?_
    refine m_X6_run (e := G.now.f) (d - 1) (by omega) (by assumption) (by omega) (fun p hp => CC.ci hp) hG.1.2.1 CC.1.2.2.2 hG.1.2.2 (fun r74 w74 e74 b74 f74 hw74 => ?_)
    refine r_i2l (pc := 77) dX11_checksum_77 (by first | assumption | omega) ?_
    refine r_ladd (pc := 78) dX11_checksum_78 ?_
    refine r_lstore1 (pc := 79) dX11_checksum_79 rfl ?_
    refine r_iinc3 (pc := 80) dX11_checksum_80 rfl ?_
    refine r_goto (pc := 83) (tgt := 53) dX11_checksum_83 rfl ?_
    exact ih _ (by omega) (i + 1) rfl (by omega) w74 _ _ (by rw [ckA_s, ← hh, e74, CLG.mx hG CC]) (fun p e => by rw [f74 p e]; exact hf p e) (by assumption)
  have loop6 : ∀ n0 : Nat, ∀ i : Nat, 4 - i = n0 → i ≤ 4 → ∀ (h : Int) (o4 : Option AV), h = ckC G i → V mX11_checksum (Rm d) 0 0 6 [some (vR (some 1)), some (vL h), none, some (vI i), o4] [] (fl w) (lQ Q) := by
    refine ind_lt ?_
    intro n0 ih i hm hi h o4 hh
    refine r_iload_n (pc := 6) dX11_checksum_6 rfl ?_
    refine r_iconst (pc := 7) (n := 4) dX11_checksum_7 ?_
    refine r_icmpge (pc := 8) (tgt := 39) dX11_checksum_8 rfl (by omega) (by omega) (fun h8 => ?_) (fun h8 => ?_)
    · refine r_aload_n (pc := 39) dX11_checksum_39 rfl ?_
      refine h_X11_10 (pc := 40) rfl dX11_checksum_40 ?_
      refine h_X11_168 (pc := 43) rfl dX11_checksum_43 ?_
      refine r_lload_n (pc := 46) dX11_checksum_46 rfl ?_
      refine c_X11_269 (pc := 47) rfl dX11_checksum_47 (by first | assumption | rfl) (by omega) (Nat.le_of_ble_eq_true rfl) ?_
      refine m_X10_addTo (c := 3) (d - 1) (by omega) (by assumption) (show sh 3 = 10 from rfl) ⟨MI3.1, MI3.2.1⟩ (fun r47 e47 => ?_)
      have e47 : r47 = mapH h G.now.n G.now.s G.now.g G.now.n.toNat := by
        rw [e47, e3]
        exact mapH_cg _ (fun j a b => P3 j a (by have := M0.1; omega))
      rw [hh] at e47
      refine r_lstore1 (pc := 50) dX11_checksum_50 rfl ?_
      refine r_iconst (pc := 51) (n := 0) dX11_checksum_51 ?_
      refine r_istore3 (pc := 52) dX11_checksum_52 rfl ?_
      exact loop53 _ 0 rfl (by omega) w _ _ (by rw [e47, show i = 4 by omega]; rfl) (fun _ _ => rfl) (by assumption)
    refine r_aload_n (pc := 11) dX11_checksum_11 rfl ?_
    refine h_X11_10 (pc := 12) rfl dX11_checksum_12 ?_
    refine r_iload_n (pc := 15) dX11_checksum_15 rfl ?_
    refine c_X11_69 (pc := 16) rfl dX11_checksum_16 (by first | assumption | rfl) (by omega) (Nat.le_of_ble_eq_true rfl) ?_
    have sq0 : sh (2 + 8 + 6 * i) = 0 := (sh_sta (c := 2) rfl).2.2.2 i (by omega)
    refine m_X8_curveAt (q := i) (d - 1) (by omega) (by assumption) (show sh 2 = 8 from rfl) (by omega) rfl ?_
    refine r_astore4 (pc := 19) dX11_checksum_19 rfl ?_
    refine r_aload (pc := 21) dX11_checksum_21 rfl ?_
    refine r_ifnull_s (pc := 23) dX11_checksum_23 ?_
    refine r_aload (pc := 26) dX11_checksum_26 rfl ?_
    refine r_lload_n (pc := 28) dX11_checksum_28 rfl ?_
    refine c_X11_265 (pc := 29) rfl dX11_checksum_29 (by first | assumption | rfl) (by omega) (Nat.le_of_ble_eq_true rfl) ?_
    refine m_X0_addTo (d - 1) (by omega) (by assumption) sq0 (hC.ci (q := i) (by omega)) (fun r29 e29 => ?_)
    refine r_lstore1 (pc := 32) dX11_checksum_32 rfl ?_
    refine r_iinc3 (pc := 33) dX11_checksum_33 rfl ?_
    refine r_goto (pc := 36) (tgt := 6) dX11_checksum_36 rfl ?_
    exact ih _ (by omega) (i + 1) rfl (by omega) _ _ (by rw [e29, hh, curH_cg (hC.ci (q := i) (by omega)) (hC.cv (q := i) (by omega)).sy]; rfl)
  refine r_ldc2 (pc := 0) (n := 23) dX11_checksum_0 kw_X11_263 rfl ?_
  refine r_lstore1 (pc := 3) dX11_checksum_3 rfl ?_
  refine r_iconst (pc := 4) (n := 0) dX11_checksum_4 ?_
  refine r_istore3 (pc := 5) dX11_checksum_5 rfl ?_
  exact loop6 _ 0 rfl (by omega) _ _ rfl
