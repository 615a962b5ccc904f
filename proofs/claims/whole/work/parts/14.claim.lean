/-! the law from its entry, and the claim -/
set_option maxRecDepth 8000 in
theorem law_start {L : Nat} (hL : L ≤ 3072) {s : Int → Int} (hs : ∀ j, R32 (s j)) {u0 : GW} (h1 : u0.1 = 0) (h0 : u0.2 0 = .inr (0, L, .inl fun q => s q)) : V mL_law room_1 0 0 0 [some (vR (some 0)), none, none, none, none, none, none, none] [] u0 (fun r _ => r = some (vI 1)) := by
  have t0 : ∃ n f, u0.2 0 = .inr (0, n, .inl f) := ⟨_, _, h0⟩
  refine s_new (pc := 0) (C := RX11) (T := TX11) (N := 9) (ci := 11) (fs := [vR none, vR none, vR none, vR none, vR none, vR none, vR none, vR none, vR none]) tyX11 dL_law_0 rfl uin_X11 tyX11_ok (gw_t 16 (by decide +kernel) (by decide +kernel)) (gw_t 17 (by decide +kernel) (by decide +kernel)) (gw_t 1 (by decide +kernel) (by decide +kernel)) df_X11 t0 (Nat.le_of_ble_eq_true rfl) (Nat.le_of_ble_eq_true rfl) (fun v1 A1 B1 C1 => ?_)
  rw [h1] at A1 B1 C1 ⊢
  have t1 : v1.2 0 = .inr (0, L, .inl fun q => s q) := (C1 0 (by omega)).trans h0
  refine r_dup (pc := 3) dL_law_3 rfl ?_
  refine r_callI (pc := 4) (av := []) (k2 := mX11_init) (R2 := Rk 4 383 10026) rfl dL_law_4 okX11_init (gw_t 19 (by decide +kernel) (by decide +kernel)) rfl (gw_t 18 (by decide +kernel) (by decide +kernel)) rfl (Nat.le_of_ble_eq_true rfl) ⟨(Nat.le_of_ble_eq_true rfl), (Nat.le_of_ble_eq_true rfl), (Nat.le_of_ble_eq_true rfl), (Nat.le_of_ble_eq_true rfl)⟩ (Nat.le_refl 1) ?_
  refine i_X11 (s := s) (n := (L : Int)) 4 (Nat.le_refl 4) (by decide) (Nat.le_refl 1) A1 B1 ⟨_, _, t1⟩ (fun v2 A2 B2 D2 => ?_)
  show V mL_law room_1 (0 + 1 + 383) (0 + 9 + 10026) 7 [some (vR (some 0)), none, none, none, none, none, none, none] [vR (some 1)] v2 _
  have t2 : v2.2 0 = .inr (0, L, .inl fun q => s q) := (B2 0 (by omega)).trans t1
  refine r_astore1 (pc := 7) dL_law_7 rfl ?_
  have g2 : v2.1 = 384 := A2
  refine s_new (pc := 8) (C := RX12) (T := TX12) (N := 27) (ci := 12) (fs := [vR none, vR none, vI 0, vR none, vI 0, vR none, vR none, vR none, vR none, vR none, vR none, vI 0, vI 0, vI 0, vI 0, vI 0, vI 0, vR none, vR none, vR none, vR none, vR none, vR none, vI 0, vI 0, vR none, vI 0]) tyX12 dL_law_8 rfl uin_X12 tyX12_ok (gw_t 817 (by decide +kernel) (by decide +kernel)) (gw_t 818 (by decide +kernel) (by decide +kernel)) (gw_t 13 (by decide +kernel) (by decide +kernel)) df_X12 ⟨_, _, t2⟩ (Nat.le_of_ble_eq_true rfl) (Nat.le_of_ble_eq_true rfl) (fun v3 A3 B3 C3 => ?_)
  rw [g2] at A3 B3 C3 ⊢
  have t3 : v3.2 0 = .inr (0, L, .inl fun q => s q) := (C3 0 (by omega)).trans t2
  refine r_dup (pc := 11) dL_law_11 rfl ?_
  refine r_callI (pc := 12) (av := []) (k2 := mX12_init) (R2 := Rk 4 16 8165) rfl dL_law_12 okX12_init (gw_t 820 (by decide +kernel) (by decide +kernel)) rfl (gw_t 819 (by decide +kernel) (by decide +kernel)) rfl (Nat.le_of_ble_eq_true rfl) ⟨(Nat.le_of_ble_eq_true rfl), (Nat.le_of_ble_eq_true rfl), (Nat.le_of_ble_eq_true rfl), (Nat.le_of_ble_eq_true rfl)⟩ (Nat.le_of_ble_eq_true rfl) ?_
  refine i_X12 (s := s) (n := (L : Int)) 4 (by omega) (by decide) (by omega) A3 B3 ⟨_, _, t3⟩ (fun v4 A4 B4 D4 => ?_)
  show V mL_law room_1 (0 + 1 + 383 + 1 + 16) (0 + 9 + 10026 + 27 + 8165) 15 [some (vR (some 0)), some (vR (some 1)), none, none, none, none, none, none] [vR (some 385)] v4 _
  have t4 : v4.2 0 = .inr (0, L, .inl fun q => s q) := (B4 0 (by omega)).trans t3
  refine r_astore2 (pc := 15) dL_law_15 rfl ?_
  refine r_iconst (pc := 16) (n := 0) dL_law_16 ?_
  refine r_istore3 (pc := 17) dL_law_17 rfl ?_
  have g4 : v4.1 = 401 := A4
  refine V_cg (u2 := fl (W0 s (L : Int))) g4.symm (fun i i1 i2 => ?_) t4 ?_ ?_
  · show ob (W0 s (L : Int)) i = v4.2 i
    rw [g4] at i2
    by_cases h : i < 385
    · exact ((B4 i (by omega)).trans ((C3 i (by omega)).trans (D2 i (by omega) (by omega)))).symm
    · exact (D4 i (by omega) (by omega)).symm
  · show ob (W0 s (L : Int)) 0 = _
    have e9 : W0 s (L : Int) 999 0 = (L : Int) := rfl
    unfold ob
    rw [if_pos rfl, e9, Int.toNat_natCast]
    rfl
  · exact law_loop ⟨(Nat.le_of_ble_eq_true rfl), (Nat.le_of_ble_eq_true rfl)⟩ (len := (L : Int)) ⟨by omega, by omega⟩ _ (W0 s (L : Int)) G0 0 _ _ _ _ rfl (by omega) (by omega) GOK_0 (CLG_0 s L) (MOG_0 s L) (W0_wr hs ⟨by omega, by omega⟩) rfl
theorem nN_tab : nN.map nlw = ([32, 50, 71, 146, 168, 173, 181, 186, 194, 204, 226, 231, 288, 312, 325, 335, 344, 385, 406, 454, 534, 539, 564, 577, 594, 603, 604, 609, 614, 625, 631, 636, 658, 660, 679, 712, 739, 763, 786] : List Nat).filterMap (fun i => tables_1[i]?) := by decide +kernel
theorem kx_arr {s : State} {args : Array Value} {ty : FieldType} (h : (Cond.arrayClass ty).before args s = true) : ∃ cA, ArrOfT s cA ty ∧ s.vm.findClass ("[" ++ ty.toString) = some cA := by
  obtain ⟨c, k, comp, h1, h2, h3⟩ := Cond.arrayClass_spec h
  exact ⟨c, fun n z => ⟨fun k h => (by cases h), k, h2, comp, h3⟩, h1⟩
theorem kx_over {s : State} {args : Array Value} {C : String} (h : (Cond.arrayOver (.object C)).before args s = true) : ∃ cA, ArrOfT s cA (.object C) ∧ va_RA s cA (.object C) := by
  obtain ⟨comp, c, k, h1, h2, h3, h4, h5⟩ := Cond.arrayOver_spec h
  exact ⟨c, fun n z => ⟨fun k h => (by cases h), k, h3, comp, h4⟩, k, comp, h3, h4, h1, h5⟩
theorem kx_all {s : State} {args : Array Value} (hg : ∀ w ∈ gW, w.before args s = true) : ∀ q ∈ vwCl, ∃ (cC : ClassId) (iS : Nat → Nat), u_Kn s q.1 q.2.1 q.2.2 cC iS := by
  refine List.forall_mem_cons.mpr ⟨u_known (n := 8) hg uin_X0 (hg _ (gw_t 70 (by decide +kernel) (by decide +kernel))), List.forall_mem_cons.mpr ⟨u_known (n := 1) hg uin_X1 (hg _ (gw_t 180 (by decide +kernel) (by decide +kernel))), List.forall_mem_cons.mpr ⟨u_known (n := 2) hg uin_X2 (hg _ (gw_t 225 (by decide +kernel) (by decide +kernel))), List.forall_mem_cons.mpr ⟨u_known (n := 3) hg uin_X3 (hg _ (gw_t 49 (by decide +kernel) (by decide +kernel))), List.forall_mem_cons.mpr ⟨u_known (n := 1) hg uin_X4 (hg _ (gw_t 167 (by decide +kernel) (by decide +kernel))), List.forall_mem_cons.mpr ⟨u_known (n := 3) hg uin_X5 (hg _ (gw_t 126 (by decide +kernel) (by decide +kernel))), List.forall_mem_cons.mpr ⟨u_known (n := 1) hg uin_X6 (hg _ (gw_t 193 (by decide +kernel) (by decide +kernel))), List.forall_mem_cons.mpr ⟨u_known (n := 5) hg uin_X7 (hg _ (gw_t 203 (by decide +kernel) (by decide +kernel))), List.forall_mem_cons.mpr ⟨u_known (n := 3) hg uin_X8 (hg _ (gw_t 25 (by decide +kernel) (by decide +kernel))), List.forall_mem_cons.mpr ⟨u_known (n := 4) hg uin_X9 (hg _ (gw_t 145 (by decide +kernel) (by decide +kernel))), List.forall_mem_cons.mpr ⟨u_known (n := 3) hg uin_X10 (hg _ (gw_t 31 (by decide +kernel) (by decide +kernel))), List.forall_mem_cons.mpr ⟨u_known (n := 9) hg uin_X11 (hg _ (gw_t 17 (by decide +kernel) (by decide +kernel))), List.forall_mem_cons.mpr ⟨u_known (n := 27) hg uin_X12 (hg _ (gw_t 818 (by decide +kernel) (by decide +kernel))), fun _ h => absurd h List.not_mem_nil⟩⟩⟩⟩⟩⟩⟩⟩⟩⟩⟩⟩⟩
theorem kx_here {s : State} {args : Array Value} (hts : ∀ w ∈ lw_tbl, w.before args s = true) : ∃ g : GG, KX g s := by
  have hg : ∀ w ∈ gW, w.before args s = true := fun w h => hts w (List.mem_filter.mp h).1
  have hall : ∀ c : Nat, ∃ (p : ClassId × (Nat → Nat)), ∀ q, vwCl[c]? = some q → u_Kn s q.1 q.2.1 q.2.2 p.1 p.2 := by
    intro c
    cases hq : vwCl[c]? with
    | none =>
      obtain ⟨c0, i0, -⟩ := kx_all hg (RX0, TX0, 8) List.mem_cons_self
      exact ⟨(c0, i0), fun q h => by cases h⟩
    | some q =>
      obtain ⟨c0, i0, hk⟩ := kx_all hg q (List.mem_of_getElem? hq)
      exact ⟨(c0, i0), fun q2 h => by cases h; exact hk⟩
  obtain ⟨cI, hI⟩ := kx_arr (hts (.arrayClass .int) (List.mem_append_right _ (List.mem_of_getElem? (i := 47) (by decide +kernel))))
  obtain ⟨cJ, hJ⟩ := kx_arr (hts (.arrayClass .long) (List.mem_append_right _ (List.mem_of_getElem? (i := 905) (by decide +kernel))))
  obtain ⟨cZ, hZ⟩ := kx_arr (hts (.arrayClass .boolean) (List.mem_append_right _ (List.mem_of_getElem? (i := 906) (by decide +kernel))))
  have aC := hts (.arrayOver (.object RCrv)) (List.mem_append_right _ (List.mem_of_getElem? (i := 69) (by decide +kernel)))
  have aS := hts (.arrayOver (.object RSta)) (List.mem_append_right _ (List.mem_of_getElem? (i := 132) (by decide +kernel)))
  obtain ⟨cC, hC⟩ := kx_over aC
  obtain ⟨cS, hS⟩ := kx_over aS
  refine ⟨((fun c => (hall c).choose.1, fun c => (hall c).choose.2), fun t => match t with | 0 => cI | 1 => cJ | 2 => cZ | 3 => cC | _ => cS), ⟨fun c q hq => (hall c).choose_spec q hq, fun k q hq => ?_⟩, fun q hq => ?_, va_AO.of aC, va_AO.of aS⟩
  · have hm := List.mem_of_getElem? hq
    have hall2 : ∀ q ∈ ([(cI, .int), (cJ, .long), (cZ, .boolean), (cC, .object RCrv), (cS, .object RSta)] : List (ClassId × FieldType)), ArrOfT s q.1 q.2 ∧ va_RA s q.1 q.2 := List.forall_mem_cons.mpr ⟨hI, List.forall_mem_cons.mpr ⟨hJ, List.forall_mem_cons.mpr ⟨hZ, List.forall_mem_cons.mpr ⟨hC, List.forall_mem_cons.mpr ⟨hS, fun _ h => absurd h List.not_mem_nil⟩⟩⟩⟩⟩
    exact hall2 q hm
  · have h1 : nlw q ∈ nN.map nlw := List.mem_map_of_mem hq
    rw [nN_tab] at h1
    obtain ⟨i, -, hi⟩ := List.mem_filterMap.mp h1
    exact va_Nw.of rfl (hts (nlw q) (List.mem_append_right _ (List.mem_of_getElem? hi)))
/-! THE CLAIM OUT OF ONE WALK OF THE LAW'S BODY. Your part is whole_start (and what it stands on); all else here is the same for every law, but numbers. -/
def R_law : String := "KeyframeCurvesLaw"
def lw_P (b : Addr) (xs : List Int32) (args : Array Value) (s : State) : Prop := args = #[.ref b] ∧ s.IntsAt b xs ∧ xs.length ≤ 3072 ∧ (Jvm.Cond.and given_1 narrow_1).before args s = true
/-- what a walk over the start with the record d0 says of its end, said of the start itself -/
theorem lw_closed {s t : State} {o : Outcome} {d0 : Drawn} {L : List Loc} {k n : Nat} (hd0 : s.drawn.sameBut d0 lw_cs) (hv : ∃ v, o = .returned v) (hW : (s.setDrawn d0).WarmedH t.vm) (hs : (s.setDrawn d0).sameButNew ({ t with vm := s.vm } : State) L k n) : State.butDraws s t lw_cs (fun t1 => Framed s o t1 L k n) := by
  have h2 : t.drawn = d0 := congrArg State.drawn hs.1
  refine ⟨⟨hv, hW, State.sameButNew.setDrawn hs s.drawn⟩, ?_, by decide⟩
  rw [h2]
  exact hd0
def lw_Q (_ : Array Value) (s : State) (o : Outcome) (t : State) : Prop := o = .returned (some (.int 1)) ∧ State.butDraws s t lw_cs (fun t1 => Framed s o t1 [] 600000 7302250)
def lw_Z (below : List Frame) (a : Array Value) (s : State) : State → Prop := fun t => ∃ o, t.status = .running ∧ Ended t below o ∧ lw_Q a s o t
/-- the law's own end, with 1 on the stack, nothing written that was there before, its room as the claim has it; d0: the record of draws at this point (at the entry s.drawn: begin with 'refine W.base ?_' and 'have hd0 := Drawn.sameBut.refl s.drawn lw_cs') -/
theorem lw_ret {p : Program} {l : Launch} {e : Env} {s : State} {m : MethodId} {below : List Frame} {meth : Method} {c : Code} {b : Nat} {d0 : Drawn} (hd0 : s.drawn.sameBut d0 lw_cs) (hx : p.tables.exec = Jvm.exec) (hb : c.code = code) (hr : meth.sig.returnType = ret) (hlocks : meth.locks = false) {pc : Nat} {H : Heap} {ls : Array Slot} (hdg : decode code pc = .ok (.ireturn, 1)) : W p l e room_1 (s.setDrawn d0) m #[Value.ref b] below meth c H [] 600000 7302250 (lw_Z below #[Value.ref b] s) (F0 m pc ls [.int 1]) := by
  intro T hT X
  obtain ⟨fs, hret, hrun, hended, hW, hframe⟩ := X.leave (v := some (.int 1)) (hlocks := hlocks) (fun h => by rw [hr] at h; cases h)
  have hmeth' : T.vm.method? m = some meth := X.method'
  refine ⟨T.setFrames fs, ?_, .returned (some (.int 1)), hrun, hended, rfl, lw_closed hd0 ⟨_, rfl⟩ hW hframe⟩
  jvm_step X.here [X.here.top, hx, hb, hdg, hmeth', hr, ret, narrow_b1]
  (try refine ⟨rfl, ?_⟩); (try refine ⟨rfl, ?_⟩)
  first | (intro acts; rw [hret _ acts rfl rfl rfl]) | rw [hret _ _ rfl rfl rfl]
  exact Steps.refl _
/-- what holds at the law's entry: the machine, the code, the tables' words (any of lw_tbl by 'hts w (by decide +kernel)'), the script of L ints xs at the cell b, what the Statement gives of the start (any of its parts by flat_of_before) -/
def lw_At (p : Program) (s : State) (m : MethodId) (meth : Method) (c : Code) (b L : Nat) (xs : Nat → Int32) : Prop :=
  p.tables.exec = Jvm.exec ∧ c.code = code ∧ meth.sig.returnType = ret ∧ c.maxLocals = 8 ∧ s.vm.findClass R_law = some m.cls ∧ (∀ w ∈ lw_tbl, w.before #[Value.ref b] s = true) ∧ va_X b L xs s s.heap ∧ b < s.heap.size ∧ meth.locks = false ∧ (Jvm.Cond.and given_1 narrow_1).before #[Value.ref b] s = true
/-- YOUR PART: from the entry, for every script of at most 3072 ints, the law comes to its end with true ('hflags': the launch's flags, for a law that throws: no stack traces) -/
theorem whole_start {p : Program} {e : Env} {s : State} {m : MethodId} {below : List Frame} {meth : Method} {c : Code} (l : Launch) (hflags : l.flags = flags0) {b L : Nat} {xs : Nat → Int32} (hL : L ≤ 3072) (C0 : lw_At p s m meth c b L xs) : W p l e room_1 s m #[Value.ref b] below meth c s.heap [] 0 0 (lw_Z below #[Value.ref b] s) (entryFrame m ([Value.ref b] : List Value).toArray 8) := by
  obtain ⟨hx, hb, hr, hml, hown, hts, hX, hbl, hlocks, hgv⟩ := id C0
  refine W.base ?_
  have hd0 := Drawn.sameBut.refl s.drawn lw_cs
  obtain ⟨g, hKX⟩ := kx_here hts
  have hsz : s.heap.size - 1 + 1 = s.heap.size := by omega
  rw [lg_entry_eq]
  have hl : lm (b, s.heap.size - 1) ((lg_sl ([Value.ref b]) ++ List.replicate (8 - (lg_sl ([Value.ref b])).length) Slot.unset).toArray) 8 [some (vR (some 0)), none, none, none, none, none, none, none] := lm.enter [vR (some 0)] 8 (by decide)
  refine law_start (L := L) hL (s := fun j => (xs j.toNat).toInt) (fun j => i32_r _) (u0 := (0, fun _ => .inr (0, L, .inl fun q => (xs q).toInt))) rfl rfl g (b, s.heap.size - 1) p l e s m #[Value.ref b] below meth c (lw_Z below #[Value.ref b] s) ?_ s.heap [] _ s.drawn hd0 hl ?_
  · refine ⟨hx, hb, hml, hown, fun w h => hts w (List.mem_filter.mp h).1, hKX, fun h => absurd h (by decide), by show s.heap.size - 1 + 1 ≤ s.heap.size; omega, ?_⟩
    intro pc r u H locs ls d0 cu su hcu hsu hRA hQ hd hH
    subst hQ
    refine W.widen hcu hsu ?_
    refine va_forget (fun q hq => ?_) ?_
    · have h2 := hH.1.2.2 q hq
      show s.heap.size ≤ q.base
      have h3 : s.heap.size - 1 < q.base := h2
      omega
    · exact lw_ret hd hx hb hr hlocks hRA.1
  · refine ⟨va_S.rf, by show s.heap.size - 1 + 1 + 0 ≤ s.heap.size; omega, fun k q hq => ?_, 0, L, fun q => (xs q).toInt, rfl, ?_, by show b ≤ s.heap.size - 1; omega, fun _ => by show s.heap.size = s.heap.size - 1 + 1 + 0; omega⟩
    · exact absurd (wl_inv hq).1 (Nat.not_lt_zero k)
    · have e : (fun k => Int32.ofInt ((xs k).toInt)) = xs := funext fun k => Int32.ofInt_toInt (xs k)
      show va_X b L (fun k => Int32.ofInt ((xs k).toInt)) s s.heap
      rw [e]
      exact hX
set_option maxHeartbeats 4000000 in
theorem lw_walk (l : Launch) (hflags : l.flags = flags0) (b : Addr) (xs : List Int32) : MetFree l x (headSpec (Jvm.Cond.code x code maxLocals ret :: tables_1) room_1) (lw_P b xs) (fun _ _ _ _ _ => True) lw_Q := by
  refine MetFree.of_bodyS (code := code) (maxLocals := maxLocals) (ret := ret) (by decide) ?_ ?_
  · intro args s m h hn
    obtain ⟨meth, c, h1, h2, h3, h4, h5, h6, -, -⟩ := Cond.code_spec hn (atoms_spec (ws := Jvm.Cond.code x code maxLocals ret :: tables_1) h _ List.mem_cons_self)
    exact ⟨meth, c, h1, h2, h3, h4, h5, h6⟩
  · intro p e s m args below meth c s₁ B hml0 hP _
    obtain ⟨rfl, hx, hbd, hgv⟩ := hP
    obtain ⟨scr, harrAt, hlist, hof, hsmall⟩ := hx
    obtain ⟨hcb, hkn, -, -⟩ := State.arrayAt?_spec harrAt
    have hown : s.vm.findClass R_law = some m.cls := findClass_of_methodNamed B.named
    have hts0 : ∀ c ∈ (Jvm.Cond.code x code maxLocals ret :: tables_1), c.before #[Value.ref b] s = true := atoms_spec (ws := Jvm.Cond.code x code maxLocals ret :: tables_1) B.pre
    have hts : ∀ w ∈ lw_tbl, w.before #[Value.ref b] s = true := k2_hts_sels lw_privs (fun w hw => hts0 w (List.mem_cons_of_mem _ hw)) lw_privs_ok
    have hml : c.maxLocals = 8 := B.maxLocals_eq (hts0 _ List.mem_cons_self)
    have X₀ : Stand p l e room_1 s m #[Value.ref b] below meth c s₁ [] 0 0 := Stand.of_body B
    have hh0 : s₁.heap = s.heap := by rw [B.state]; rfl
    have hsz : scr.slots.size = xs.length := by rw [← Array.length_toList, hlist, List.length_map]
    have hval : ∀ j : Nat, j < xs.length → scr.slots[j]? = some (.int (xs.getD j 0)) := fun j hj => by
      rw [← Array.getElem?_toList, hlist]
      simp [hj]
    have hbl : b < s.heap.size := (Array.getElem?_eq_some_iff.mp hcb).1
    have hX : va_X b xs.length (fun j => xs.getD j 0) s s.heap := ⟨scr, hcb, hof, hkn, hsz, hval⟩
    have K : W p l e room_1 s m #[Value.ref b] below meth c s₁.heap [] 0 0 (lw_Z below #[Value.ref b] s) (entryFrame m ([Value.ref b] : List Value).toArray 8) := by
      rw [hh0]
      exact whole_start l hflags hbd ⟨B.exec, B.bytes, B.returns, hml, hown, hts, hX, hbl, B.notSynchronized, hgv⟩
    obtain ⟨t, a1, o, b1, b2, b3⟩ := K s₁ rfl X₀
    exact ⟨t, o, a1, b1, b2, b3⟩
theorem lw_pre_spec {args : Array Value} {s : State} (h : (Jvm.Cond.and given_1 narrow_1).before args s = true) (hr : rest_1_c.before args s = true) : ∃ (b : Addr) (xs : List Int32), lw_P b xs args s := by
  have hs := flat_of_before _ h
  have hq := flat_of_before _ hr
  have hc : (Cond.count 1).before args s = true := hs _ (by decide +kernel)
  have harr : (Cond.arrayOf (.arg 0) .int).before args s = true := hs _ (by decide +kernel)
  have hle : (Cond.le (.length (.arg 0)) (.int 3072)).before args s = true := hs _ (by decide +kernel)
  have hlen : (Cond.isInt (.length (.arg 0))).before args s = true := hq _ (by decide +kernel)
  have hall : (Cond.all (.arg 0) (.isInt (.elem (.arg 0) (.index 0)))).before args s = true := hq _ (by decide +kernel)
  obtain ⟨b, xs, hb, hx⟩ := State.ints_of_pre rfl harr hlen hall
  have hsm : xs.length < 2 ^ 31 := hx.choose_spec.2.2.2
  have hev : (Term.length (.arg 0)).eval args s none [] s = some (.int xs.length.toInt32) := hx.length_eval hb
  have hv := Cond.le_ints hev (show (Term.int 3072).eval args s none [] s = some (.int 3072) from rfl)
  have hd : xs.length.toInt32 ≤ 3072 := by
    simpa [Cond.before, Cond.holds, hv] using hle
  have hN : xs.length ≤ 3072 := (Int32.ofNat_le_ofNat hsm (by decide)).mp (show Int32.ofNat xs.length ≤ Int32.ofNat 3072 from hd)
  exact ⟨b, xs, Cond.one_arg hc (show args[0]? = some (.ref b) from hb), hx, hN, h⟩
theorem lw_comes (l : Launch) (hflags : l.flags = flags0) : Comes l x (Jvm.Cond.code x code maxLocals ret :: tables_1) room_1 (fun tb e args s => Calls_1 tb e args s ∧ rest_1 tb e args s ∧ Pre_1 tb e args s)
    (fun _ _ args s o t => lw_Q args s o t) := by
  intro p e ha hc hk s m args below hf hfit hheap happ hpre
  obtain ⟨b, xs, hP⟩ := lw_pre_spec hpre.2.2 hpre.2.1
  obtain ⟨k, o, h1, h2, h3, hQ⟩ := lw_walk l hflags b xs p e ha hc hk s m args below hf ((Spec.applies_iff_loose hf).mp happ).1 hP trivial
  exact ⟨k, o, h1, h2, h3, hQ⟩
theorem lw_frame {s t : State} {o : Outcome} {args : Array Value} (h : State.butDraws s t lw_cs (fun t1 => Framed s o t1 [] 600000 7302250)) :
    State.butDraws s t [Jvm.Choice.named "NaN.bits"] (fun t1 => Framed s o t1 (fieldLocs frame_1_writes args s ++ arrayLocs frame_1_arrays args s ++ staticLocs frame_1_statics s) 600000 7302250) := h
theorem lw_limb (L : Cond) (hL : ∀ (args : Array Value) (s t : State), L.after args s (.returned (some (.int 1))) t = true) :
    ArmFor flags0 classFile x code maxLocals ret World_1 tables_1 room_1 Calls_1 rest_1 Pre_1
      (fun tb e a s o t => postC L tb e a s o t ∧ State.butDraws s t [Jvm.Choice.named "NaN.bits"] (fun t1 => Framed s o t1 (fieldLocs frame_1_writes a s ++ arrayLocs frame_1_arrays a s ++ staticLocs frame_1_statics s) 600000 7302250)) := by
  intro l hflags _ _ p e ha hc hk s m args below hf hfit hheap happ hpre
  obtain ⟨k, o, h1, h2, h3, rfl, hF⟩ := lw_comes l hflags p e ha hc hk s m args below hf hfit hheap happ hpre
  exact ⟨k, _, h1, h2, h3, hL args s _, lw_frame hF⟩
theorem i_vc : Claimed_1_1 ∧ Claimed_1_2 := ⟨lw_limb limb_1_1 (fun args s t => by simp [limb_1_1, Cond.after, Cond.holds, Cond.value]), lw_limb limb_1_2 (fun args s t => Cond.after_iff.mpr (by
  first | (rw [show limb_1_2 = Cond.eq .result (.int 1) from rfl, Cond.eq_ints (x := 1) (y := 1) rfl rfl]; simp; done) | (simp [limb_1_2, Cond.value, Term.eval]; done)))⟩
