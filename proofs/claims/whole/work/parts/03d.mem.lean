/-! rows over V: calls, returns, fields, arrays, new objects -/
def psh : Option AV → List AV → List AV
  | some v, st => v :: st
  | none, st => st
section
variable {p : Program} {l : Launch} {e : Env} {R : Room} {s : State} {m : MethodId} {args : Array Value} {below : List Frame} {meth : Method} {c : Code} {H : Heap} {locs : List Loc} {Z : State → Prop}
variable {g : GG} {a : AD} {k : MT} {cu su pc : Nat} {L : List (Option AV)} {st : List AV} {u : GW} {Q : Option AV → GW → Prop} {d0 : Drawn} {ls : Array Slot}
theorem call_end {mc ms : Nat} {st0 : List Value} {av : Array Value} (C : CX g a k R p l e s m args below meth c Z Q) (hd0 : s.drawn.sameBut d0 lw_cs) (hl : lm a ls k.2.2.1 L) (hH : HX g a s H locs u)
    (hr : va_RunD lw_cs p l e R (s.setDrawn d0) m args below meth c H locs cu su mc ms (F0 m pc ls st0) (st.map (dn a)) (QM g a (fun r u2 => V k R (cu + mc) (su + ms) (pc + 3) L (psh r st) u2 Q) av) (fun q => a.2 < q)) :
    W p l e R (s.setDrawn d0) m args below meth c H locs cu su Z (F0 m pc ls st0) := by
  intro T hT X
  obtain ⟨v, st₀, t, T', L1, d', hd', h0, X', hL, e1, e2, ⟨⟨r, u2, hv, hV, hHR⟩, hz, hk⟩, stp⟩ := hr T hT X
  rw [h0] at hz hk
  have hv2 : v = r.map (dn a) := Outcome.returned.inj hv
  subst hv2
  have hS : va_S (fun q => a.2 < q) s.heap T'.heap (locs ++ L1) := ⟨Nat.le_trans hH.1.1 (by rw [e1]; exact hz), fun q h1 h2 => by
      rw [e1, hk q (Nat.lt_of_lt_of_le h1 hH.1.1) h2]; exact hH.1.2.1 q h1 h2, fun q hq => by
      rcases List.mem_append.mp hq with h | h
      · exact hH.1.2.2 q h
      · exact hL q h⟩
  have hal : t.vm.Alike s.vm := by rw [← e2]; exact X'.warmed.alike.symm
  obtain ⟨t2, a1, b1⟩ := hV g a p l e s m args below meth c Z C T'.heap (locs ++ L1) ls d' (hd0.trans hd') hl ⟨hS, by rw [e1]; exact hHR.vm hal⟩ T' rfl X'
  refine ⟨t2, stp t2 ?_, b1⟩
  cases r <;> exact a1
end
abbrev okM (k2 : MT) (n : Nat) : Prop := Cond.code k2.1 k2.2.1 k2.2.2.1 k2.2.2.2 ∈ gW ∧ Cond.initialized k2.1.cls ∈ gW ∧ (k2.1.cls ≠ "java/lang/invoke/MethodHandle" ∧ k2.1.cls ≠ "java/lang/invoke/VarHandle") ∧ (parseMethodDescriptor k2.1.desc).map (fun d => d.parameters.length) = some n
theorem wsM_pay {k2 : MT} {n : Nat} (ok : okM k2 n) {args : Array Value} {s : State} (hts : ∀ w ∈ gW, w.before args s = true) : ∀ w ∈ wsM k2, ∀ (a' : Array Value) (U : State), s.WarmedH U.vm → w.before a' U = true := by
  intro w hw a' U hW
  have h1 : w ∈ gW := by
    rcases List.mem_cons.mp hw with h | h
    · rw [h]; exact ok.1
    · exact h
  exact word_at hW (gW_good w h1) (hts w h1)
theorem ok_len {k2 : MT} {n : Nat} (ok : okM k2 n) : ∀ sig, parseMethodDescriptor k2.1.desc = some sig → n = sig.parameters.length := by
  intro sig h
  have h2 := ok.2.2.2
  rw [h] at h2
  exact (Option.some.inj h2).symm
theorem ok_B {k2 : MT} {n : Nat} (ok : okM k2 n) {R R2 : Room} {s : State} {args : Array Value} {own : String} {idx : Nat} (hts : ∀ w ∈ gW, w.before args s = true) (hl : Cond.methodLink own idx k2.1 ∈ gW) (h1 : R2.frames + 1 ≤ R.frames) (h2 : 8 + (k2.2.2.1 + 11) + R2.locals ≤ R.locals) :
    CallB R s args own idx k2.1 k2.2.1 k2.2.2.1 k2.2.2.2 (wsM k2) R2 R2.cells R2.slots n :=
  ⟨rfl, rfl, h1, h2, wsM_pay ok hts, List.mem_cons_self, hts _ ok.1, hts _ ok.2.1, ok.2.2.1, ok_len ok, hts _ hl⟩
theorem ok_N {k2 : MT} {n : Nat} (ok : okM k2 n) {R R2 : Room} {s : State} {args : Array Value} {own host : String} {idx : Nat} {g : GG} (hts : ∀ w ∈ gW, w.before args s = true) (hK : KX g s) (hl : (own, idx, k2.1, host) ∈ nN) (h1 : R2.frames + 1 ≤ R.frames) (h2 : 8 + (k2.2.2.1 + 11) + R2.locals ≤ R.locals) :
    va_CN R s args own idx k2.1 host k2.2.1 k2.2.2.1 k2.2.2.2 (wsM k2) R2 R2.cells R2.slots n :=
  ⟨⟨rfl, rfl, h1, h2, wsM_pay ok hts, List.mem_cons_self⟩, hts _ ok.1, hts _ ok.2.1, ok.2.2.1, ok_len ok, va_Nw.use rfl (hK.2.1 _ hl)⟩
theorem blindM (g : GG) (a : AD) (u : GW) (av : List Value) : FrameBlind (va_Pc av (PM g a u)) := by
  intro b U g2 mk q
  exact ⟨q.1, q.2.1.vm (Vm.Alike.refl U.vm), KX.same rfl q.2.2⟩
theorem preM {g : GG} {a : AD} {u : GW} {s : State} {H : Heap} {d0 : Drawn} {av : List Value} (hK : KX g s) (hH : HR g a s u H) : ∀ U : State, U.heap = H → (s.setDrawn d0).WarmedH U.vm → va_Pc av (PM g a u) av.toArray U := by
  intro U hU hW
  exact ⟨rfl, by rw [hU]; exact hH.vm (s := s) hW.alike, KX.warm (s := s.setDrawn d0) hW (KX.same (s := s) rfl hK)⟩
theorem ada_pos {a : AD} {i : Nat} (h : 1 ≤ i) : ada a i = a.2 + i := by
  unfold ada
  rw [if_neg (by omega)]
section
variable {k k2 : MT} {R R2 : Room} {cu su pc idx n : Nat} {L : List (Option AV)} {st av : List AV} {u : GW} {Q : Option AV → GW → Prop}
abbrev okR (k2 : MT) (R R2 : Room) (cu su : Nat) : Prop := R2.frames + 1 ≤ R.frames ∧ 8 + (k2.2.2.1 + 11) + R2.locals ≤ R.locals ∧ cu + R2.cells ≤ R.cells ∧ su + R2.slots ≤ R.slots
theorem st_room {a : AD} {st : List AV} (h : (st.map ct).sum ≤ 8) : ((st.map (dn a)).map fun v => v.category).sum ≤ 8 := by
  have e : (st.map (dn a)).map (fun v => v.category) = st.map ct := by
    rw [List.map_map]
    exact List.map_congr_left fun v _ => dn_cat a v
  rw [e]; exact h
theorem r_callS (hd : decode k.2.1 pc = .ok (.invokestatic idx, 3)) (ok : okM k2 n) (hs : Cond.static k2.1 ∈ gW) (hl : Cond.methodLink k.1.cls idx k2.1 ∈ gW) (hn : av.length = n) (hw : (st.map ct).sum ≤ 8) (hR : okR k2 R R2 cu su)
    (kk : M k2 R2 av u (fun r u2 => V k R (cu + R2.cells) (su + R2.slots) (pc + 3) L (psh r st) u2 Q)) : V k R cu su pc L (av.reverse ++ st) u Q := by
  intro g a p l e s m args below meth c Z C H locs ls d0 hd0 hl1 hH
  have hts := dr_words C.2.2.2.2.1 d0
  have hr := va_runS_D (cs := lw_cs) (p := p) (l := l) (e := e) (R := R) (s := s.setDrawn d0) (m := m) (args := args) (below := below) (meth := meth) (c := c) (H := H) (locs := locs) (cells := cu) (slots := su) (As := av.map (dn a)) (rest := st.map (dn a)) (g := F0 m pc ls ((av.reverse ++ st).map (dn a)))
    (S := ⟨C.1, C.2.1, C.2.2.1, C.2.2.2.1, hts⟩) (hM := kk l g a) (cw := ⟨ok_B ok hts hl hR.1 hR.2.1, hts _ hs⟩) (hp := ⟨blindM g a u _, preM C.2.2.2.2.2.1 hH.2⟩) rfl (by simpa using hn) hl1.2.1 (by simp) (by have := st_room (a := a) hw; simpa using this) hd ⟨hR.2.2.1, hR.2.2.2⟩
  exact call_end C hd0 hl1 hH hr
theorem r_callSN {host : String} (hd : decode k.2.1 pc = .ok (.invokestatic idx, 3)) (ok : okM k2 n) (hs : Cond.static k2.1 ∈ gW) (hl : (k.1.cls, idx, k2.1, host) ∈ nN) (hn : av.length = n) (hw : (st.map ct).sum ≤ 8) (hR : okR k2 R R2 cu su)
    (kk : M k2 R2 av u (fun r u2 => V k R (cu + R2.cells) (su + R2.slots) (pc + 3) L (psh r st) u2 Q)) : V k R cu su pc L (av.reverse ++ st) u Q := by
  intro g a p l e s m args below meth c Z C H locs ls d0 hd0 hl1 hH
  have hts := dr_words C.2.2.2.2.1 d0
  have hr := va_runSN_D (cs := lw_cs) (p := p) (l := l) (e := e) (R := R) (s := s.setDrawn d0) (m := m) (args := args) (below := below) (meth := meth) (c := c) (H := H) (locs := locs) (cells := cu) (slots := su) (As := av.map (dn a)) (rest := st.map (dn a)) (g := F0 m pc ls ((av.reverse ++ st).map (dn a)))
    (S := ⟨C.1, C.2.1, C.2.2.1, C.2.2.2.1, hts⟩) (hM := kk l g a) (cw := ⟨ok_N ok hts (KX.same (s := s) rfl C.2.2.2.2.2.1) hl hR.1 hR.2.1, hts _ hs, trivial⟩) (hp := ⟨blindM g a u _, preM C.2.2.2.2.2.1 hH.2⟩) rfl (by simpa using hn) hl1.2.1 (by simp) (by have := st_room (a := a) hw; simpa using this) hd ⟨hR.2.2.1, hR.2.2.2⟩
  exact call_end C hd0 hl1 hH hr
theorem r_callV {b ci N : Nat} {fs : List AV} {T : u_T} (hd : decode k.2.1 pc = .ok (.invokevirtual idx, 3)) (ok : okM k2 n) (hi : Cond.instanceMethod k2.1 ∈ gW) (hse : Cond.selects k2.1.cls k2.1 k2.1 ∈ gW) (hl : Cond.methodLink k.1.cls idx k2.1 ∈ gW) (hn : av.length = n) (hw : (st.map ct).sum ≤ 8) (hR : okR k2 R R2 cu su)
    (h1 : 1 ≤ b) (h2 : b ≤ u.1) (hu : u.2 b = .inl (ci, fs)) (hc : vwCl[ci]? = some (k2.1.cls, T, N))
    (kk : M k2 R2 (vR (some b) :: av) u (fun r u2 => V k R (cu + R2.cells) (su + R2.slots) (pc + 3) L (psh r st) u2 Q)) : V k R cu su pc L (av.reverse ++ vR (some b) :: st) u Q := by
  intro g a p l e s m args below meth c Z C H locs ls d0 hd0 hl1 hH
  have hts := dr_words C.2.2.2.2.1 d0
  have he := wl_get (g := g) (a := a) h1 h2
  rw [hu] at he
  have hrecv := va_recv (s := s) C.2.2.2.2.2.1.1 hH.2.2.1 hc he
  have hb : dn a (vR (some b)) = .ref (a.2 + b) := by show Value.ref (ada a b) = _; rw [ada_pos h1]
  have hp := preM (d0 := d0) (av := (vR (some b) :: av).map (dn a)) C.2.2.2.2.2.1 hH.2
  have hM := kk l g a
  have hst : (av.reverse ++ vR (some b) :: st).map (dn a) = (av.map (dn a)).reverse ++ .ref (a.2 + b) :: st.map (dn a) := by
    rw [← hb]; simp
  have e2 : (vR (some b) :: av).map (dn a) = .ref (a.2 + b) :: av.map (dn a) := by rw [← hb]; rfl
  rw [e2] at hM hp
  rw [hst]
  have hr := va_runV_D (cs := lw_cs) (p := p) (l := l) (e := e) (R := R) (s := s.setDrawn d0) (m := m) (args := args) (below := below) (meth := meth) (c := c) (H := H) (locs := locs) (cells := cu) (slots := su) (b := a.2 + b) (As := av.map (dn a)) (rest := st.map (dn a)) (g := F0 m pc ls ((av.map (dn a)).reverse ++ .ref (a.2 + b) :: st.map (dn a)))
    (S := ⟨C.1, C.2.1, C.2.2.1, C.2.2.2.1, hts⟩) (hM := hM) (cw := ⟨ok_B ok hts hl hR.1 hR.2.1, hts _ hi, hts _ hse⟩) (hp := ⟨blindM g a u _, hrecv, hp⟩) rfl (by simpa using hn) hl1.2.1 rfl (by have := st_room (a := a) hw; simpa using this) hd ⟨hR.2.2.1, hR.2.2.2⟩
  exact call_end C hd0 hl1 hH hr
theorem r_callI {b : Nat} (hr0 : k2.2.2.2 = none) (hd : decode k.2.1 pc = .ok (.invokespecial idx, 3)) (ok : okM k2 n) (hi : Cond.instanceMethod k2.1 ∈ gW) (hy : k2.1.name = "<init>") (hl : Cond.methodLink k.1.cls idx k2.1 ∈ gW) (hn : av.length = n) (hw : (st.map ct).sum ≤ 8) (hR : okR k2 R R2 cu su)
    (h1 : 1 ≤ b) (kk : M k2 R2 (vR (some b) :: av) u (fun r u2 => V k R (cu + R2.cells) (su + R2.slots) (pc + 3) L (psh r st) u2 Q)) : V k R cu su pc L (av.reverse ++ vR (some b) :: st) u Q := by
  intro g a p l e s m args below meth c Z C H locs ls d0 hd0 hl1 hH
  have hts := dr_words C.2.2.2.2.1 d0
  have hb : dn a (vR (some b)) = .ref (a.2 + b) := by show Value.ref (ada a b) = _; rw [ada_pos h1]
  have hp := preM (d0 := d0) (av := (vR (some b) :: av).map (dn a)) C.2.2.2.2.2.1 hH.2
  have hM := kk l g a
  have hst : (av.reverse ++ vR (some b) :: st).map (dn a) = (av.map (dn a)).reverse ++ .ref (a.2 + b) :: st.map (dn a) := by
    rw [← hb]; simp
  have e2 : (vR (some b) :: av).map (dn a) = .ref (a.2 + b) :: av.map (dn a) := by rw [← hb]; rfl
  rw [e2] at hM hp
  rw [hst]
  have hB := ok_B (own := k.1.cls) ok hts hl hR.1 hR.2.1
  rw [hr0] at hB
  have hr := va_runI_D (cs := lw_cs) (p := p) (l := l) (e := e) (R := R) (s := s.setDrawn d0) (m := m) (args := args) (below := below) (meth := meth) (c := c) (H := H) (locs := locs) (cells := cu) (slots := su) (b := a.2 + b) (As := av.map (dn a)) (rest := st.map (dn a)) (g := F0 m pc ls ((av.map (dn a)).reverse ++ .ref (a.2 + b) :: st.map (dn a)))
    (S := ⟨C.1, C.2.1, C.2.2.1, C.2.2.2.1, hts⟩) (hM := hM) (cw := ⟨hB, hy, hts _ hi⟩) (hp := ⟨blindM g a u _, hp⟩) rfl (by simpa using hn) hl1.2.1 rfl (by have := st_room (a := a) hw; simpa using this) hd ⟨hR.2.2.1, hR.2.2.2⟩
  exact call_end C hd0 hl1 hH hr
theorem r_callIN {b : Nat} {host : String} (hr0 : k2.2.2.2 = none) (hd : decode k.2.1 pc = .ok (.invokespecial idx, 3)) (ok : okM k2 n) (hi : Cond.instanceMethod k2.1 ∈ gW) (hy : k2.1.name = "<init>") (hl : (k.1.cls, idx, k2.1, host) ∈ nN) (hn : av.length = n) (hw : (st.map ct).sum ≤ 8) (hR : okR k2 R R2 cu su)
    (h1 : 1 ≤ b) (kk : M k2 R2 (vR (some b) :: av) u (fun r u2 => V k R (cu + R2.cells) (su + R2.slots) (pc + 3) L (psh r st) u2 Q)) : V k R cu su pc L (av.reverse ++ vR (some b) :: st) u Q := by
  intro g a p l e s m args below meth c Z C H locs ls d0 hd0 hl1 hH
  have hts := dr_words C.2.2.2.2.1 d0
  have hb : dn a (vR (some b)) = .ref (a.2 + b) := by show Value.ref (ada a b) = _; rw [ada_pos h1]
  have hp := preM (d0 := d0) (av := (vR (some b) :: av).map (dn a)) C.2.2.2.2.2.1 hH.2
  have hM := kk l g a
  have hst : (av.reverse ++ vR (some b) :: st).map (dn a) = (av.map (dn a)).reverse ++ .ref (a.2 + b) :: st.map (dn a) := by
    rw [← hb]; simp
  have e2 : (vR (some b) :: av).map (dn a) = .ref (a.2 + b) :: av.map (dn a) := by rw [← hb]; rfl
  rw [e2] at hM hp
  rw [hst]
  have hB := ok_N (own := k.1.cls) ok hts (KX.same (s := s) rfl C.2.2.2.2.2.1) hl hR.1 hR.2.1
  rw [hr0] at hB
  have hr := va_runIN_D (cs := lw_cs) (p := p) (l := l) (e := e) (R := R) (s := s.setDrawn d0) (m := m) (args := args) (below := below) (meth := meth) (c := c) (H := H) (locs := locs) (cells := cu) (slots := su) (b := a.2 + b) (As := av.map (dn a)) (rest := st.map (dn a)) (g := F0 m pc ls ((av.map (dn a)).reverse ++ .ref (a.2 + b) :: st.map (dn a)))
    (S := ⟨C.1, C.2.1, C.2.2.1, C.2.2.2.1, hts⟩) (hM := hM) (cw := ⟨hB, hy, hts _ hi⟩) (hp := ⟨blindM g a u _, hp⟩) rfl (by simpa using hn) hl1.2.1 rfl (by have := st_room (a := a) hw; simpa using this) hd ⟨hR.2.2.1, hR.2.2.2⟩
  exact call_end C hd0 hl1 hH hr
theorem r_objInit {b : Nat} (hd : decode k.2.1 pc = .ok (.invokespecial idx, 3)) (hl : Cond.methodLink k.1.cls idx Lib.objectInit ∈ gW) (hi : Cond.instanceMethod Lib.objectInit ∈ gW) (hc : Cond.code Lib.objectInit ⟨#[0xb1]⟩ 1 none ∈ gW) (hw : (st.map ct).sum ≤ 8) (hf : 1 ≤ R.frames) (hlo : 20 ≤ R.locals) (h1 : 1 ≤ b)
    (kk : V k R cu su (pc + 3) L st u Q) : V k R cu su pc L (vR (some b) :: st) u Q := by
  intro g a p l e s m args below meth c Z C H locs ls d0 hd0 hl1 hH
  have hts := dr_words C.2.2.2.2.1 d0
  have K := kk g a p l e s m args below meth c Z C H locs ls d0 hd0 hl1 hH
  have hw2 := st_room (a := a) hw
  have hown : (s.setDrawn d0).vm.findClass k.1.cls = some m.cls := C.2.2.2.1
  have hsz : ls.size = c.maxLocals := hl1.2.1.trans C.2.2.1.symm
  have hrm : 2 * (F0 m pc ls (.ref (a.2 + b) :: st.map (dn a))).monitorRoom + ((st.map (dn a)).map fun v => v.category).sum + 12 ≤ R.locals := Nat.le_trans (Nat.add_le_add_right (lv_room hw2) 12) hlo
  have hb : dn a (vR (some b)) = .ref (a.2 + b) := by show Value.ref (ada a b) = _; rw [ada_pos h1]
  rw [List.map_cons, hb]
  exact W.objInit (g := F0 m pc ls (.ref (a.2 + b) :: st.map (dn a))) (rest := st.map (dn a)) (a := a.2 + b) C.1 C.2.1 hown (hts _ hl) (hts _ hi) (hts _ hc) rfl hsz rfl hd hf hrm K
theorem r_ret {r : Option AV} (hRA : RA k pc r) (hcu : cu ≤ R.cells) (hsu : su ≤ R.slots) (hQ : Q r u) : V k R cu su pc L (r.toList) u Q := by
  intro g a p l e s m args below meth c Z C H locs ls d0 hd0 hl1 hH
  exact C.2.2.2.2.2.2.2.2 pc r u H locs ls d0 cu su hcu hsu hRA hQ hd0 hH
theorem r_iret {x : Int} (hd : decode k.2.1 pc = .ok (.ireturn, 1)) (hr : k.2.2.2 = some .int) (hcu : cu ≤ R.cells) (hsu : su ≤ R.slots) (hQ : Q (some (vI x)) u) : V k R cu su pc L [vI x] u Q :=
  r_ret (r := some (vI x)) ⟨hd, _, hr, rfl⟩ hcu hsu hQ
theorem r_zret {x : Int} (hd : decode k.2.1 pc = .ok (.ireturn, 1)) (hr : k.2.2.2 = some .boolean) (hx : x = 0 ∨ x = 1) (hcu : cu ≤ R.cells) (hsu : su ≤ R.slots) (hQ : Q (some (vI x)) u) : V k R cu su pc L [vI x] u Q :=
  r_ret (r := some (vI x)) ⟨hd, _, hr, by rcases hx with rfl | rfl <;> rfl⟩ hcu hsu hQ
theorem r_lret {x : Int} (hd : decode k.2.1 pc = .ok (.lreturn, 1)) (hr : k.2.2.2 = some .long) (hcu : cu ≤ R.cells) (hsu : su ≤ R.slots) (hQ : Q (some (vL x)) u) : V k R cu su pc L [vL x] u Q :=
  r_ret (r := some (vL x)) ⟨hd, hr⟩ hcu hsu hQ
theorem r_fret {x : UInt32} (hd : decode k.2.1 pc = .ok (.freturn, 1)) (hr : k.2.2.2 = some .float) (hcu : cu ≤ R.cells) (hsu : su ≤ R.slots) (hQ : Q (some (vF x)) u) : V k R cu su pc L [vF x] u Q :=
  r_ret (r := some (vF x)) ⟨hd, hr⟩ hcu hsu hQ
theorem r_dret {x : UInt64} (hd : decode k.2.1 pc = .ok (.dreturn, 1)) (hr : k.2.2.2 = some .double) (hcu : cu ≤ R.cells) (hsu : su ≤ R.slots) (hQ : Q (some (vD x)) u) : V k R cu su pc L [vD x] u Q :=
  r_ret (r := some (vD x)) ⟨hd, hr⟩ hcu hsu hQ
theorem r_aret {x : Option Nat} {nm : String} (hd : decode k.2.1 pc = .ok (.areturn, 1)) (hr : k.2.2.2 = some (.object nm)) (hcu : cu ≤ R.cells) (hsu : su ≤ R.slots) (hQ : Q (some (vR x)) u) : V k R cu su pc L [vR x] u Q :=
  r_ret (r := some (vR x)) ⟨hd, nm, hr⟩ hcu hsu hQ
theorem r_vret (hd : decode k.2.1 pc = .ok (.return_, 1)) (hr : k.2.2.2 = none) (hcu : cu ≤ R.cells) (hsu : su ≤ R.slots) (hQ : Q none u) : V k R cu su pc L [] u Q :=
  r_ret (r := none) ⟨hd, hr⟩ hcu hsu hQ
/-- fields -/
theorem r_getG {i ci N kf : Nat} {C : String} {T : u_T} {fs : List AV} {v : AV} (hd : decode k.2.1 pc = .ok (.getfield idx, 3)) (hc : vwCl[ci]? = some (C, T, N)) (hin : ∀ w ∈ u_ws C T N, w ∈ gW) (hkf : kf < N) (hT : (T kf).1 = C) (hl : Cond.fieldLink k.1.cls idx C (T kf).2.1 (T kf).2.2.1 ∈ gW)
    (h1 : 1 ≤ i) (h2 : i ≤ u.1) (hu : u.2 i = .inl (ci, fs)) (hv : fs[kf]? = some v) (kk : V k R cu su (pc + 3) L (v :: st) u Q) : V k R cu su pc L (vR (some i) :: st) u Q := by
  intro g a p l e s m args below meth c Z C' H locs ls d0 hd0 hl1 hH
  have hts := dr_words C'.2.2.2.2.1 d0
  have K := kk g a p l e s m args below meth c Z C' H locs ls d0 hd0 hl1 hH
  have he := wl_get (g := g) (a := a) h1 h2
  rw [hu] at he
  have hb : dn a (vR (some i)) = .ref (a.2 + i) := by show Value.ref (ada a i) = _; rw [ada_pos h1]
  rw [List.map_cons, hb]
  exact va_get C'.1 C'.2.1 (own := k.1.cls) (ref := C) hts hin C'.2.2.2.1 (KX.same (s := s) rfl C'.2.2.2.2.2.1).1 hH.2.2.1 (i - 1) he hc kf hkf (hts _ hl) (fun x hx => by rw [hT] at hx; exact hx) (v := dn a v) (by simp [hv]) hd K
theorem r_putG {i ci N kf : Nat} {C : String} {T : u_T} {fs : List AV} {v : AV} {ty : FieldType} (ty0 : Nat → FieldType) (hd : decode k.2.1 pc = .ok (.putfield idx, 3)) (hc : vwCl[ci]? = some (C, T, N)) (hin : ∀ w ∈ u_ws C T N, w ∈ gW) (hty : ∀ k, k < N → parseFieldDescriptor (T k).2.2.1 = some (ty0 k)) (hnm : ∀ a, a < N → ∀ b, b < N → a ≠ b → (T a).2.1 ≠ (T b).2.1)
    (hkf : kf < N) (hT : (T kf).1 = C) (hfin : (T kf).2.2.2 = false) (hl : Cond.fieldLink k.1.cls idx C (T kf).2.1 (T kf).2.2.1 ∈ gW) (hty2 : ty0 kf = ty) (hn : ∀ a, narrow ty (dn a v) = dn a v) (hf : ∀ a, fits ty (dn a v) = true)
    (h1 : 1 ≤ i) (h2 : i ≤ u.1) (hu : u.2 i = .inl (ci, fs)) (hlen : kf < fs.length) (kk : V k R cu su (pc + 3) L st (u.1, uset u.2 i (.inl (ci, fs.set kf v))) Q) : V k R cu su pc L (v :: vR (some i) :: st) u Q := by
  intro g a p l e s m args below meth c Z C' H locs ls d0 hd0 hl1 hH
  have hts := dr_words C'.2.2.2.2.1 d0
  have he := wl_get (g := g) (a := a) h1 h2
  rw [hu] at he
  have hb : dn a (vR (some i)) = .ref (a.2 + i) := by show Value.ref (ada a i) = _; rw [ada_pos h1]
  rw [List.map_cons, List.map_cons, hb]
  have hK := (KX.same (s := s) (U := s.setDrawn d0) rfl C'.2.2.2.2.2.1).1
  have hap := va_apart (own := k.1.cls) hts hin ty0 hty hnm hK hc
  obtain ⟨r, q0, cell, q1, q2, q3, q4⟩ := hH.2.2.1 _ _ he
  have hr : r = (C, T, N) := Option.some.inj (q0.symm.trans hc)
  subst hr
  obtain ⟨hS, hfc, kC, hkC, hkind⟩ := hK.1 ci _ hc
  obtain ⟨cf, kf', fi, f, hi, hsl⟩ := hS kf hkf
  have hlay := hts _ (hin _ (u_in_lay hkf))
  unfold u_lay at hlay
  rw [if_neg (by rw [hfin]; decide)] at hlay
  have hst := (u_facts hfc hkC (u_lays hts hin hkf) hi).1
  have h6 := u_store hfc hkC hkind hlay hi ((hty kf hkf).trans (congrArg some hty2)) (hn a) (hf a)
  have hF : Fd (s.setDrawn d0) m args k.1.cls C (T kf).2.1 (T kf).2.2.1 idx f := ⟨C'.2.2.2.1, hts _ hl, ⟨_, _, _, by rw [hT] at hi; exact hi⟩, hst⟩
  refine W.putK C'.1 C'.2.1 hF (by rw [q2]; exact h6) q1 q3 (by rw [hsl]; exact k2_hasslot (q4 kf hkf)) (g := F0 m pc ls (dn a v :: .ref (a.2 + i) :: st.map (dn a))) (rest := st.map (dn a)) rfl rfl hd fun H' e1 e2 e3 => ?_
  rw [hsl] at e1 ⊢
  have hP1 := hH.2.2.1.set (wl_D g a u) he (e := .inr (ci, (fs.map (dn a)).set kf (dn a v))) (H1 := H') ⟨_, hc, t_OB.to (V := updV (vp_V (fs.map (dn a))) kf (dn a v)) ⟨_, e1, q2, q3, t_set q4 hap hkf (dn a v)⟩ (fun j _ => vp_updV_set (by simpa using hlen) (dn a v) j)⟩ e3
  have e4 : (.inr (ci, (fs.map (dn a)).set kf (dn a v)) : va_E) = dO g a (.inl (ci, fs.set kf v)) := by simp [dO, List.map_set]
  rw [e4, wl_set _ h1 h2] at hP1
  exact kk g a p l e s m args below meth c Z C' H' _ ls d0 hd0 hl1 (HX.store C'.2.2.2.2.2.2.2.1 hH hP1 (hH.1.put e2 e3 (by show a.2 < a.2 + i; omega)) rfl (by show uset u.2 i _ 0 = _; simp [uset]; omega) (Or.inl e2))
theorem r_putFG {i ci N kf : Nat} {C : String} {T : u_T} {fs : List AV} {v : AV} {ty : FieldType} (ty0 : Nat → FieldType) (hd : decode k.2.1 pc = .ok (.putfield idx, 3)) (hc : vwCl[ci]? = some (C, T, N)) (hin : ∀ w ∈ u_ws C T N, w ∈ gW) (hty : ∀ k, k < N → parseFieldDescriptor (T k).2.2.1 = some (ty0 k)) (hnm : ∀ a, a < N → ∀ b, b < N → a ≠ b → (T a).2.1 ≠ (T b).2.1)
    (hkf : kf < N) (hT : (T kf).1 = C) (hfin : (T kf).2.2.2 = true) (hini : k.1.name = "<init>") (hown : k.1.cls = C) (hl : Cond.fieldLink k.1.cls idx C (T kf).2.1 (T kf).2.2.1 ∈ gW) (hty2 : ty0 kf = ty) (hn : ∀ a, narrow ty (dn a v) = dn a v) (hf : ∀ a, fits ty (dn a v) = true)
    (h1 : 1 ≤ i) (h2 : i ≤ u.1) (hu : u.2 i = .inl (ci, fs)) (hlen : kf < fs.length) (kk : V k R cu su (pc + 3) L st (u.1, uset u.2 i (.inl (ci, fs.set kf v))) Q) : V k R cu su pc L (v :: vR (some i) :: st) u Q := by
  intro g a p l e s m args below meth c Z C' H locs ls d0 hd0 hl1 hH
  have hts := dr_words C'.2.2.2.2.1 d0
  have he := wl_get (g := g) (a := a) h1 h2
  rw [hu] at he
  have hb : dn a (vR (some i)) = .ref (a.2 + i) := by show Value.ref (ada a i) = _; rw [ada_pos h1]
  rw [List.map_cons, List.map_cons, hb]
  have hK := (KX.same (s := s) (U := s.setDrawn d0) rfl C'.2.2.2.2.2.1).1
  have hap := va_apart (own := k.1.cls) hts hin ty0 hty hnm hK hc
  obtain ⟨r, q0, cell, q1, q2, q3, q4⟩ := hH.2.2.1 _ _ he
  have hr : r = (C, T, N) := Option.some.inj (q0.symm.trans hc)
  subst hr
  obtain ⟨hS, hfc, kC, hkC, hkind⟩ := hK.1 ci _ hc
  obtain ⟨cf, kf', fi, f, hi, hsl⟩ := hS kf hkf
  have hlay := hts _ (hin _ (u_in_lay hkf))
  unfold u_lay at hlay
  rw [if_pos hfin] at hlay
  have hst := (u_facts hfc hkC (u_lays hts hin hkf) hi).1
  have hown' : (s.setDrawn d0).vm.findClass k.1.cls = some m.cls := C'.2.2.2.1
  have hcf : m.cls = cf := by
    obtain ⟨_, _, c', _, _, _, -, -, hf', -, -, -, hown2, -⟩ := Cond.laysFinal_spec hlay
    have e1 : c' = cf := by have := hi.symm.trans hf'; simp at this; exact this.1.symm
    rw [hT, ← hown] at hown2
    rw [← e1]; exact Option.some.inj (hown'.symm.trans hown2)
  have h6 := u_fits hfc hkC hkind (Or.inr hlay) hi ((hty kf hkf).trans (congrArg some hty2)) (hn a) (hf a)
  refine W.putFinK C'.1 C'.2.1 hown' (hts _ hl) (by rw [hT] at hi; exact hi) hst hcf (C'.2.2.2.2.2.2.1 hini) (by rw [q2]; exact h6) q1 q3 (by rw [hsl]; exact k2_hasslot (q4 kf hkf)) rfl rfl hd fun H' e1 e2 e3 => ?_
  rw [hsl] at e1 ⊢
  have hP1 := hH.2.2.1.set (wl_D g a u) he (e := .inr (ci, (fs.map (dn a)).set kf (dn a v))) (H1 := H') ⟨_, hc, t_OB.to (V := updV (vp_V (fs.map (dn a))) kf (dn a v)) ⟨_, e1, q2, q3, t_set q4 hap hkf (dn a v)⟩ (fun j _ => vp_updV_set (by simpa using hlen) (dn a v) j)⟩ e3
  have e4 : (.inr (ci, (fs.map (dn a)).set kf (dn a v)) : va_E) = dO g a (.inl (ci, fs.set kf v)) := by simp [dO, List.map_set]
  rw [e4, wl_set _ h1 h2] at hP1
  exact kk g a p l e s m args below meth c Z C' H' _ ls d0 hd0 hl1 (HX.store C'.2.2.2.2.2.2.2.1 hH hP1 (hH.1.put e2 e3 (by show a.2 < a.2 + i; omega)) rfl (by show uset u.2 i _ 0 = _; simp [uset]; omega) (Or.inl e2))
end
