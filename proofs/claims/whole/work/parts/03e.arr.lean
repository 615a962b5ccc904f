/-! rows over V: arrays, new objects -/
theorem HX.push {g : GG} {a : AD} {s : State} {H H1 : Heap} {locs : List Loc} {u : GW} {o : Ob} (hb : a.2 + 1 ≤ s.heap.size) (hH : HX g a s H locs u) (hex : ∃ n f, u.2 0 = .inr (0, n, .inl f)) (hz : H1.size = H.size + 1) (ho : ∀ q : Nat, q < H.size → H1[q]? = H[q]?)
    (hat : va_at g.1 vwCl (a.2 + (u.1 + 1), dO g a o) H1) : HX g a s H1 locs (u.1 + 1, uset u.2 (u.1 + 1) o) := by
  obtain ⟨hS0, hle, hP0, t, n, f, e1, e2, e3, e4⟩ := hH
  obtain ⟨n', f', e5⟩ := hex
  have ht : t = 0 := by
    have h := e1.symm.trans e5
    simp at h
    exact h.1
  have hsz := e4 ht
  have hlt := hS0.1
  refine ⟨⟨by omega, fun q h1 h2 => (ho q (by omega)).trans (hS0.2.1 q h1 h2), hS0.2.2⟩, by show a.2 + 1 + (u.1 + 1) ≤ _; omega, ?_, t, n, f, ?_, e2.kept (ho _ (by omega)), e3, fun _ => by show _ = a.2 + 1 + (u.1 + 1); omega⟩
  · rw [← wl_push]
    refine (hP0.kept fun k q hq => ho _ (hP0 k q hq).lt).app (fun k q hq => ?_)
    have hk : k = 0 := by
      have := (List.getElem?_eq_some_iff.mp hq).1
      simpa using this
    subst hk
    have : q = (a.2 + (u.1 + 1), dO g a o) := by simpa using hq.symm
    rw [this]; exact hat
  · show uset u.2 (u.1 + 1) o 0 = _
    simp [uset]
    exact e1
theorem HX.size {g : GG} {a : AD} {s : State} {H : Heap} {locs : List Loc} {u : GW} (hH : HX g a s H locs u) (hex : ∃ n f, u.2 0 = .inr (0, n, .inl f)) : H.size = a.2 + (u.1 + 1) := by
  obtain ⟨hS0, hle, hP0, t, n, f, e1, e2, e3, e4⟩ := hH
  obtain ⟨n', f', e5⟩ := hex
  have ht : t = 0 := by
    have h := e1.symm.trans e5
    simp at h
    exact h.1
  have := e4 ht
  omega
section
variable {k : MT} {R : Room} {cu su pc idx : Nat} {L : List (Option AV)} {st : List AV} {u : GW} {Q : Option AV → GW → Prop}
theorem r_newG {C : String} {T : u_T} {N ci : Nat} {fs : List AV} (ty : Nat → FieldType) (hd : decode k.2.1 pc = .ok (.new idx, 3)) (hc : vwCl[ci]? = some (C, T, N)) (hin : ∀ w ∈ u_ws C T N, w ∈ gW) (hty : ∀ k, k < N → parseFieldDescriptor (T k).2.2.1 = some (ty k)) (hcl : Cond.classLink k.1.cls idx C ∈ gW) (hinst : Cond.instantiable C N ∈ gW) (hini : Cond.initialized C ∈ gW)
    (hfs : ∀ a j, j < N → defaultValue (ty j) = vp_V (fs.map (dn a)) j) (hex : ∃ n f, u.2 0 = .inr (0, n, .inl f)) (hcu : cu + 1 ≤ R.cells) (hsu : su + N ≤ R.slots) (kk : V k R (cu + 1) (su + N) (pc + 3) L (vR (some (u.1 + 1)) :: st) (u.1 + 1, uset u.2 (u.1 + 1) (.inl (ci, fs))) Q) : V k R cu su pc L st u Q := by
  intro g a p l e s m args below meth c Z C' H locs ls d0 hd0 hl1 hH
  have hts := dr_words C'.2.2.2.2.1 d0
  have hown : (s.setDrawn d0).vm.findClass k.1.cls = some m.cls := C'.2.2.2.1
  have hK := (KX.same (s := s) (U := s.setDrawn d0) rfl C'.2.2.2.2.2.1).1
  have hKn := hK.1 ci _ hc
  refine W.newcK C'.1 C'.2.1 hown (hts _ hcl) (hts _ hinst) (hts _ hini) rfl hd hcu hsu hKn.2.1 (hH.size hex) fun H1 kC hkC e1 z1 o1 => ?_
  have K := kk g a p l e s m args below meth c Z C' H1 locs ls d0 hd0 hl1 (hH.push C'.2.2.2.2.2.2.2.1 hex (by rw [z1, hH.size hex]) (fun q hq => o1 q (by rw [← hH.size hex]; exact hq)) ⟨_, hc, (u_born ty hts hin hKn hkC e1 hty).to (hfs a)⟩)
  have hb : dn a (vR (some (u.1 + 1))) = .ref (a.2 + (u.1 + 1)) := by show Value.ref (ada a _) = _; rw [ada_pos (by omega)]
  rw [List.map_cons, hb] at K
  exact K
theorem r_newaC {ty : FieldType} {atype : ArrayType} {t N : Nat} {x0 : vp_A} {z : Int} (hd : decode k.2.1 pc = .ok (.newarray atype, 2)) (hty : newarray.typeOf atype = ty) (hw : Cond.arrayClass ty ∈ gW) (htys : ∀ g : GG, (tysOf g)[t]? = some (g.2 t, ty)) (hprim : ∀ U cA, va_RA U cA ty → U.vm.findClass ("[" ++ ty.toString) = some cA)
    (hx : ∀ g a, dO g a (.inr (t, N, .inl fun _ => 0)) = .inl (g.2 t, x0)) (hx2 : ∀ cA, vp_cell cA x0 = arrV cA N (fun _ => defaultValue ty)) (hz : R32 z) (hz0 : 0 ≤ z) (hzN : z.toNat = N) (hbytes : N * componentBytes ty ≤ 536870912) (hex : ∃ n f, u.2 0 = .inr (0, n, .inl f)) (hcu : cu + 1 ≤ R.cells) (hsu : su + N ≤ R.slots)
    (kk : V k R (cu + 1) (su + N) (pc + 2) L (vR (some (u.1 + 1)) :: st) (u.1 + 1, uset u.2 (u.1 + 1) (.inr (t, N, .inl fun _ => 0))) Q) : V k R cu su pc L (vI z :: st) u Q := by
  intro g a p l e s m args below meth c Z C' H locs ls d0 hd0 hl1 hH
  subst hty
  have hts := dr_words C'.2.2.2.2.1 d0
  have hown : (s.setDrawn d0).vm.findClass k.1.cls = some m.cls := C'.2.2.2.1
  have hK := (KX.same (s := s) (U := s.setDrawn d0) rfl C'.2.2.2.2.2.1).1
  refine va_newaK C'.1 C'.2.1 (hts _ hw) (g := F0 m pc ls (.int (Int32.ofInt z) :: st.map (dn a))) rfl hd rfl (by rw [zi_0, zi_lt hz z0r]; omega) ((zi_tn hz).trans hzN) hbytes hcu hsu (hH.size hex) fun H1 cA e1 z1 o1 hAr hNm => ?_
  have hcA : cA = g.2 t := by
    have h1 := hprim _ _ (hK.2 t _ (htys g)).2
    exact Option.some.inj (hNm.symm.trans h1)
  subst hcA
  have K := kk g a p l e s m args below meth c Z C' H1 locs ls d0 hd0 hl1 (hH.push C'.2.2.2.2.2.2.2.1 hex (by rw [z1, hH.size hex]) (fun q hq => o1 q (by rw [← hH.size hex]; exact hq)) (by
    rw [hx g a]
    show H1[a.2 + (u.1 + 1)]? = some (vp_cell _ _)
    rw [hx2]; exact e1))
  have hb : dn a (vR (some (u.1 + 1))) = .ref (a.2 + (u.1 + 1)) := by show Value.ref (ada a _) = _; rw [ada_pos (by omega)]
  rw [List.map_cons, hb] at K
  exact K
theorem r_newaI {N : Nat} {z : Int} (hd : decode k.2.1 pc = .ok (.newarray .int, 2)) (hw : Cond.arrayClass .int ∈ gW) (hz : R32 z) (hz0 : 0 ≤ z) (hzN : z.toNat = N) (hbytes : N * 4 ≤ 536870912) (hex : ∃ n f, u.2 0 = .inr (0, n, .inl f)) (hcu : cu + 1 ≤ R.cells) (hsu : su + N ≤ R.slots)
    (kk : V k R (cu + 1) (su + N) (pc + 2) L (vR (some (u.1 + 1)) :: st) (u.1 + 1, uset u.2 (u.1 + 1) (.inr (0, N, .inl fun _ => 0))) Q) : V k R cu su pc L (vI z :: st) u Q :=
  r_newaC (x0 := (N, .inl fun _ => 0)) hd rfl hw (fun _ => rfl) (fun _ _ h => h) (fun _ _ => rfl) (fun _ => rfl) hz hz0 hzN hbytes hex hcu hsu kk
theorem r_newaJ {N : Nat} {z : Int} (hd : decode k.2.1 pc = .ok (.newarray .long, 2)) (hw : Cond.arrayClass .long ∈ gW) (hz : R32 z) (hz0 : 0 ≤ z) (hzN : z.toNat = N) (hbytes : N * 8 ≤ 536870912) (hex : ∃ n f, u.2 0 = .inr (0, n, .inl f)) (hcu : cu + 1 ≤ R.cells) (hsu : su + N ≤ R.slots)
    (kk : V k R (cu + 1) (su + N) (pc + 2) L (vR (some (u.1 + 1)) :: st) (u.1 + 1, uset u.2 (u.1 + 1) (.inr (1, N, .inl fun _ => 0))) Q) : V k R cu su pc L (vI z :: st) u Q :=
  r_newaC (x0 := (N, .inr (.inl fun _ => 0))) hd rfl hw (fun _ => rfl) (fun _ _ h => h) (fun _ _ => rfl) (fun _ => rfl) hz hz0 hzN hbytes hex hcu hsu kk
theorem r_newaZ {N : Nat} {z : Int} (hd : decode k.2.1 pc = .ok (.newarray .boolean, 2)) (hw : Cond.arrayClass .boolean ∈ gW) (hz : R32 z) (hz0 : 0 ≤ z) (hzN : z.toNat = N) (hbytes : N * 1 ≤ 536870912) (hex : ∃ n f, u.2 0 = .inr (0, n, .inl f)) (hcu : cu + 1 ≤ R.cells) (hsu : su + N ≤ R.slots)
    (kk : V k R (cu + 1) (su + N) (pc + 2) L (vR (some (u.1 + 1)) :: st) (u.1 + 1, uset u.2 (u.1 + 1) (.inr (2, N, .inl fun _ => 0))) Q) : V k R cu su pc L (vI z :: st) u Q :=
  r_newaC (x0 := (N, .inl fun _ => 0)) hd rfl hw (fun _ => rfl) (fun _ _ h => h) (fun _ _ => rfl) (fun _ => rfl) hz hz0 hzN hbytes hex hcu hsu kk
theorem r_newqG {C : String} {t N : Nat} {z : Int} (hd : decode k.2.1 pc = .ok (.anewarray idx, 3)) (hcl : Cond.classLink k.1.cls idx C ∈ gW) (hAO : ∀ g U, KX g U → va_AO C U) (htys : ∀ g : GG, (tysOf g)[t]? = some (g.2 t, .object C))
    (hx : ∀ g a, dO g a (.inr (t, N, .inr fun _ => none)) = .inl (g.2 t, N, .inr (.inr (.inr (.inr fun _ => none))))) (hz : R32 z) (hz0 : 0 ≤ z) (hzN : z.toNat = N) (hbytes : N * 4 ≤ 536870912) (hex : ∃ n f, u.2 0 = .inr (0, n, .inl f)) (hcu : cu + 1 ≤ R.cells) (hsu : su + N ≤ R.slots)
    (kk : V k R (cu + 1) (su + N) (pc + 3) L (vR (some (u.1 + 1)) :: st) (u.1 + 1, uset u.2 (u.1 + 1) (.inr (t, N, .inr fun _ => none))) Q) : V k R cu su pc L (vI z :: st) u Q := by
  intro g a p l e s m args below meth c Z C' H locs ls d0 hd0 hl1 hH
  have hts := dr_words C'.2.2.2.2.1 d0
  have hown : (s.setDrawn d0).vm.findClass k.1.cls = some m.cls := C'.2.2.2.1
  have hKX := KX.same (s := s) (U := s.setDrawn d0) rfl C'.2.2.2.2.2.1
  have hK := hKX.1
  have hsz := hH.size hex
  have hN : (Int32.ofInt z).toNatClampNeg = N := (zi_tn hz).trans hzN
  refine W.anew C'.1 C'.2.1 hown (hts _ hcl) (va_AO.use (hAO g _ hKX)) (g := F0 m pc ls (.int (Int32.ofInt z) :: st.map (dn a))) rfl hd rfl (by rw [zi_0, zi_lt hz z0r]; omega) (by rw [hN]; exact hbytes) hcu (by rw [hN]; exact hsu) fun cA kA comp f1 f2 f3 f4 => ?_
  rw [hN]
  generalize hH1 : H.push ({ cls := cA, slots := Array.replicate N .null, vm := .none } : Cell) = H1
  have z1 : H1.size = H.size + 1 := by rw [← hH1, Array.size_push]
  have e1 : H1[H.size]? = some (arrV cA N (fun _ => .null)) := by rw [← hH1, Array.getElem?_push_size, ← arrV_new]
  have o1 : ∀ q : Nat, q < H.size → H1[q]? = H[q]? := fun q hq => by rw [← hH1, Array.getElem?_push, if_neg (Nat.ne_of_lt hq)]
  have hcA : cA = g.2 t := by
    obtain ⟨kA', comp', g1, g2, g3, g4⟩ := (hK.2 t _ (htys g)).2
    exact Option.some.inj (f1.symm.trans g4)
  subst hcA
  have K := kk g a p l e s m args below meth c Z C' H1 locs ls d0 hd0 hl1 (hH.push C'.2.2.2.2.2.2.2.1 hex z1 o1 (by
    rw [hx g a]
    show H1[a.2 + (u.1 + 1)]? = some (vp_cell _ _)
    rw [← hsz]; exact e1))
  have hb : dn a (vR (some (u.1 + 1))) = .ref H.size := by show Value.ref (ada a _) = _; rw [ada_pos (by omega), hsz]
  rw [List.map_cons, hb] at K
  exact K
theorem r_alenG {i t n : Nat} {x : (Nat → Int) ⊕ (Nat → Option Nat)} (hd : decode k.2.1 pc = .ok (.arraylength, 1)) (ht : t < 5) (h1 : 1 ≤ i) (h2 : i ≤ u.1) (hu : u.2 i = .inr (t, n, x)) (kk : V k R cu su (pc + 1) L (vI n :: st) u Q) : V k R cu su pc L (vR (some i) :: st) u Q := by
  intro g a p l e s m args below meth c Z C' H locs ls d0 hd0 hl1 hH
  have K := kk g a p l e s m args below meth c Z C' H locs ls d0 hd0 hl1 hH
  have he := wl_get (g := g) (a := a) h1 h2
  rw [hu] at he
  have hb : dn a (vR (some i)) = .ref (a.2 + i) := by show Value.ref (ada a i) = _; rw [ada_pos h1]
  rw [List.map_cons, hb]
  have hK := (KX.same (s := s) (U := s.setDrawn d0) rfl C'.2.2.2.2.2.1).1
  have hty : ∃ ty, (tysOf g)[t]? = some (g.2 t, ty) := by
    match t, ht with
    | 0, _ => exact ⟨_, rfl⟩
    | 1, _ => exact ⟨_, rfl⟩
    | 2, _ => exact ⟨_, rfl⟩
    | 3, _ => exact ⟨_, rfl⟩
    | 4, _ => exact ⟨_, rfl⟩
  obtain ⟨ty, hty⟩ := hty
  have hx : ∃ x2 : vp_A, dO g a (.inr (t, n, x)) = .inl (g.2 t, x2) ∧ x2.1 = n := by
    rcases x with f | f
    · match t, ht with
      | 0, _ => exact ⟨_, rfl, rfl⟩
      | 1, _ => exact ⟨_, rfl, rfl⟩
      | 2, _ => exact ⟨_, rfl, rfl⟩
      | 3, _ => exact ⟨_, rfl, rfl⟩
      | 4, _ => exact ⟨_, rfl, rfl⟩
    · match t, ht with
      | 0, _ => exact ⟨_, rfl, rfl⟩
      | 1, _ => exact ⟨_, rfl, rfl⟩
      | 2, _ => exact ⟨_, rfl, rfl⟩
      | 3, _ => exact ⟨_, rfl, rfl⟩
      | 4, _ => exact ⟨_, rfl, rfl⟩
  obtain ⟨x2, hx2, hn⟩ := hx
  rw [hx2] at he
  exact va_alen C'.1 C'.2.1 hK hH.2.2.1 (i - 1) t he hty (v := Int32.ofInt n) (by rw [hn]; rfl) hd K
/-- reading an int -/
theorem r_ialdG {i n : Nat} {j : Int} {f : Nat → Int} (hd : decode k.2.1 pc = .ok (.iaload, 1)) (h1 : 1 ≤ i) (h2 : i ≤ u.1) (hu : u.2 i = .inr (0, n, .inl f)) (hj : R32 j) (hj0 : 0 ≤ j) (hjn : j < n) (kk : V k R cu su (pc + 1) L (vI (f j.toNat) :: st) u Q) : V k R cu su pc L (vI j :: vR (some i) :: st) u Q := by
  intro g a p l e s m args below meth c Z C' H locs ls d0 hd0 hl1 hH
  have K := kk g a p l e s m args below meth c Z C' H locs ls d0 hd0 hl1 hH
  have he := wl_get (g := g) (a := a) h1 h2
  rw [hu] at he
  have hb : dn a (vR (some i)) = .ref (a.2 + i) := by show Value.ref (ada a i) = _; rw [ada_pos h1]
  rw [List.map_cons, List.map_cons, hb]
  refine va_iald C'.1 C'.2.1 (KX.same (s := s) (U := s.setDrawn d0) rfl C'.2.2.2.2.2.1).1 hH.2.2.1 (i - 1) 0 he rfl ((zi_in hj).mpr ⟨hj0, hjn⟩) hd ?_
  rw [zi_tn hj]
  exact K
theorem r_laldG {i n : Nat} {j : Int} {f : Nat → Int} (hd : decode k.2.1 pc = .ok (.laload, 1)) (h1 : 1 ≤ i) (h2 : i ≤ u.1) (hu : u.2 i = .inr (1, n, .inl f)) (hj : R32 j) (hj0 : 0 ≤ j) (hjn : j < n) (kk : V k R cu su (pc + 1) L (vL (f j.toNat) :: st) u Q) : V k R cu su pc L (vI j :: vR (some i) :: st) u Q := by
  intro g a p l e s m args below meth c Z C' H locs ls d0 hd0 hl1 hH
  have K := kk g a p l e s m args below meth c Z C' H locs ls d0 hd0 hl1 hH
  have he := wl_get (g := g) (a := a) h1 h2
  rw [hu] at he
  have hb : dn a (vR (some i)) = .ref (a.2 + i) := by show Value.ref (ada a i) = _; rw [ada_pos h1]
  rw [List.map_cons, List.map_cons, hb]
  refine va_lald C'.1 C'.2.1 (KX.same (s := s) (U := s.setDrawn d0) rfl C'.2.2.2.2.2.1).1 hH.2.2.1 (i - 1) 1 he rfl ((zi_in hj).mpr ⟨hj0, hjn⟩) hd ?_
  rw [zi_tn hj]
  exact K
theorem r_zaldG {i n : Nat} {j : Int} {f : Nat → Int} (hd : decode k.2.1 pc = .ok (.baload, 1)) (h1 : 1 ≤ i) (h2 : i ≤ u.1) (hu : u.2 i = .inr (2, n, .inl f)) (hj : R32 j) (hj0 : 0 ≤ j) (hjn : j < n) (kk : V k R cu su (pc + 1) L (vI (f j.toNat) :: st) u Q) : V k R cu su pc L (vI j :: vR (some i) :: st) u Q := by
  intro g a p l e s m args below meth c Z C' H locs ls d0 hd0 hl1 hH
  have K := kk g a p l e s m args below meth c Z C' H locs ls d0 hd0 hl1 hH
  have he := wl_get (g := g) (a := a) h1 h2
  rw [hu] at he
  have hb : dn a (vR (some i)) = .ref (a.2 + i) := by show Value.ref (ada a i) = _; rw [ada_pos h1]
  rw [List.map_cons, List.map_cons, hb]
  refine va_zald C'.1 C'.2.1 (KX.same (s := s) (U := s.setDrawn d0) rfl C'.2.2.2.2.2.1).1 hH.2.2.1 (i - 1) 2 he rfl ((zi_in hj).mpr ⟨hj0, hjn⟩) hd ?_
  rw [zi_tn hj]
  exact K
theorem r_aaldG {i n t : Nat} {j : Int} {C : String} {f : Nat → Option Nat} (hd : decode k.2.1 pc = .ok (.aaload, 1)) (h1 : 1 ≤ i) (h2 : i ≤ u.1) (hu : u.2 i = .inr (t, n, .inr f)) (htys : ∀ g : GG, (tysOf g)[t]? = some (g.2 t, .object C)) (hj : R32 j) (hj0 : 0 ≤ j) (hjn : j < n) (kk : V k R cu su (pc + 1) L (vR (f j.toNat) :: st) u Q) : V k R cu su pc L (vI j :: vR (some i) :: st) u Q := by
  intro g a p l e s m args below meth c Z C' H locs ls d0 hd0 hl1 hH
  have K := kk g a p l e s m args below meth c Z C' H locs ls d0 hd0 hl1 hH
  have he := wl_get (g := g) (a := a) h1 h2
  rw [hu] at he
  have hb : dn a (vR (some i)) = .ref (a.2 + i) := by show Value.ref (ada a i) = _; rw [ada_pos h1]
  rw [List.map_cons, List.map_cons, hb]
  refine va_aldq C'.1 C'.2.1 (KX.same (s := s) (U := s.setDrawn d0) rfl C'.2.2.2.2.2.1).1 hH.2.2.1 (i - 1) t (f := fun k => (f k).map (ada a)) (n := n) (cA := g.2 t) (by simpa [dO] using he) (htys g) ((zi_in hj).mpr ⟨hj0, hjn⟩) hd ?_
  rw [zi_tn hj]
  exact K
/-- reading the script -/
theorem r_sldG {t n : Nat} {j : Int} {f : Nat → Int} (hd : decode k.2.1 pc = .ok (.iaload, 1)) (hu : u.2 0 = .inr (t, n, .inl f)) (hj : R32 j) (hj0 : 0 ≤ j) (hjn : j < n) (kk : V k R cu su (pc + 1) L (vI (f j.toNat) :: st) u Q) : V k R cu su pc L (vI j :: vR (some 0) :: st) u Q := by
  intro g a p l e s m args below meth c Z C' H locs ls d0 hd0 hl1 hH
  have K := kk g a p l e s m args below meth c Z C' H locs ls d0 hd0 hl1 hH
  obtain ⟨t', n', f', e1, ⟨scr, x1, x2, x3, x4, x5⟩, e3, e4⟩ := hH.2.2.2
  have hq := hu.symm.trans e1
  simp at hq
  obtain ⟨rfl, rfl, rfl⟩ := hq
  have x2' : (s.setDrawn d0).isArrayOf scr .int := x2
  refine W.iald (v := .int (Int32.ofInt (f j.toNat))) C'.1 C'.2.1 x1 x2' x3 (by rw [x4]; exact (zi_in hj).mpr ⟨hj0, hjn⟩) (by rw [zi_tn hj]; exact x5 _ (by omega)) rfl rfl hd K
theorem r_slenG {t n : Nat} {f : Nat → Int} (hd : decode k.2.1 pc = .ok (.arraylength, 1)) (hu : u.2 0 = .inr (t, n, .inl f)) (kk : V k R cu su (pc + 1) L (vI n :: st) u Q) : V k R cu su pc L (vR (some 0) :: st) u Q := by
  intro g a p l e s m args below meth c Z C' H locs ls d0 hd0 hl1 hH
  have K := kk g a p l e s m args below meth c Z C' H locs ls d0 hd0 hl1 hH
  obtain ⟨t', n', f', e1, ⟨scr, x1, x2, x3, x4, x5⟩, e3, e4⟩ := hH.2.2.2
  have hq := hu.symm.trans e1
  simp at hq
  obtain ⟨rfl, rfl, rfl⟩ := hq
  have x2' : (s.setDrawn d0).isArrayOf scr .int := x2
  exact W.alen (n := Int32.ofInt n) C'.1 C'.2.1 x1 x2' (by rw [x4]; rfl) rfl rfl hd K
/-- writing -/
theorem r_iastG {i n : Nat} {j x : Int} {f : Nat → Int} (hd : decode k.2.1 pc = .ok (.iastore, 1)) (h1 : 1 ≤ i) (h2 : i ≤ u.1) (hu : u.2 i = .inr (0, n, .inl f)) (hj : R32 j) (hj0 : 0 ≤ j) (hjn : j < n) (kk : V k R cu su (pc + 1) L st (u.1, uset u.2 i (.inr (0, n, .inl fun q => if q = j.toNat then x else f q))) Q) : V k R cu su pc L (vI x :: vI j :: vR (some i) :: st) u Q := by
  intro g a p l e s m args below meth c Z C' H locs ls d0 hd0 hl1 hH
  have he := wl_get (g := g) (a := a) h1 h2
  rw [hu] at he
  have hb : dn a (vR (some i)) = .ref (a.2 + i) := by show Value.ref (ada a i) = _; rw [ada_pos h1]
  rw [List.map_cons, List.map_cons, List.map_cons, hb]
  have hK := (KX.same (s := s) (U := s.setDrawn d0) rfl C'.2.2.2.2.2.1).1
  have hin : vp_in (Int32.ofInt j) n := (zi_in hj).mpr ⟨hj0, hjn⟩
  refine W.iast C'.1 C'.2.1 (hH.2.2.1 _ _ he) ((hK.2 0 _ rfl).1 n (fun j => .int (Int32.ofInt (f j)))) (fun q => by cases q) (by show ¬ (_ < 0 ∨ (arrV _ _ _).slots.size ≤ _); rw [arrV_size]; exact hin) rfl rfl hd fun H1 eH z oq => ?_
  have hP1 := hH.2.2.1.set (wl_D g a u) he (e := dO g a (.inr (0, n, .inl fun q => if q = j.toNat then x else f q))) (H1 := H1) (by
    show H1[a.2 + i]? = some (vp_cell _ _)
    rw [eH, vp_cell_i, vp_cell_i, arrV_store, zi_tn hj]
    congr 2
    funext q
    by_cases hq : q = j.toNat
    · subst hq; simp [updV]
    · simp [updV, hq]) oq
  rw [wl_set _ h1 h2] at hP1
  exact kk g a p l e s m args below meth c Z C' H1 _ ls d0 hd0 hl1 (HX.store C'.2.2.2.2.2.2.2.1 hH hP1 (hH.1.put z oq (by show a.2 < a.2 + i; omega)) rfl (by show uset u.2 i _ 0 = _; simp [uset]; omega) (Or.inl z))
theorem r_lastG {i n : Nat} {j x : Int} {f : Nat → Int} (hd : decode k.2.1 pc = .ok (.lastore, 1)) (h1 : 1 ≤ i) (h2 : i ≤ u.1) (hu : u.2 i = .inr (1, n, .inl f)) (hj : R32 j) (hj0 : 0 ≤ j) (hjn : j < n) (kk : V k R cu su (pc + 1) L st (u.1, uset u.2 i (.inr (1, n, .inl fun q => if q = j.toNat then x else f q))) Q) : V k R cu su pc L (vL x :: vI j :: vR (some i) :: st) u Q := by
  intro g a p l e s m args below meth c Z C' H locs ls d0 hd0 hl1 hH
  have he := wl_get (g := g) (a := a) h1 h2
  rw [hu] at he
  have hb : dn a (vR (some i)) = .ref (a.2 + i) := by show Value.ref (ada a i) = _; rw [ada_pos h1]
  rw [List.map_cons, List.map_cons, List.map_cons, hb]
  have hK := (KX.same (s := s) (U := s.setDrawn d0) rfl C'.2.2.2.2.2.1).1
  have hin : vp_in (Int32.ofInt j) n := (zi_in hj).mpr ⟨hj0, hjn⟩
  refine W.last C'.1 C'.2.1 (hH.2.2.1 _ _ he) ((hK.2 1 _ rfl).1 n (fun j => .long (Int64.ofInt (f j)))) (fun q => by cases q) (by show ¬ (_ < 0 ∨ (arrV _ _ _).slots.size ≤ _); rw [arrV_size]; exact hin) rfl rfl hd fun H1 eH z oq => ?_
  have hP1 := hH.2.2.1.set (wl_D g a u) he (e := dO g a (.inr (1, n, .inl fun q => if q = j.toNat then x else f q))) (H1 := H1) (by
    show H1[a.2 + i]? = some (vp_cell _ _)
    rw [eH, vp_cell_l, vp_cell_l, arrV_store, zi_tn hj]
    congr 2
    funext q
    by_cases hq : q = j.toNat
    · subst hq; simp [updV]
    · simp [updV, hq]) oq
  rw [wl_set _ h1 h2] at hP1
  exact kk g a p l e s m args below meth c Z C' H1 _ ls d0 hd0 hl1 (HX.store C'.2.2.2.2.2.2.2.1 hH hP1 (hH.1.put z oq (by show a.2 < a.2 + i; omega)) rfl (by show uset u.2 i _ 0 = _; simp [uset]; omega) (Or.inl z))
theorem r_zastG {i n : Nat} {j x : Int} {f : Nat → Int} (hd : decode k.2.1 pc = .ok (.bastore, 1)) (h1 : 1 ≤ i) (h2 : i ≤ u.1) (hu : u.2 i = .inr (2, n, .inl f)) (hj : R32 j) (hj0 : 0 ≤ j) (hjn : j < n) (hx : x = 0 ∨ x = 1) (kk : V k R cu su (pc + 1) L st (u.1, uset u.2 i (.inr (2, n, .inl fun q => if q = j.toNat then x else f q))) Q) : V k R cu su pc L (vI x :: vI j :: vR (some i) :: st) u Q := by
  intro g a p l e s m args below meth c Z C' H locs ls d0 hd0 hl1 hH
  have he := wl_get (g := g) (a := a) h1 h2
  rw [hu] at he
  have hb : dn a (vR (some i)) = .ref (a.2 + i) := by show Value.ref (ada a i) = _; rw [ada_pos h1]
  rw [List.map_cons, List.map_cons, List.map_cons, hb]
  have hK := (KX.same (s := s) (U := s.setDrawn d0) rfl C'.2.2.2.2.2.1).1
  have hin : vp_in (Int32.ofInt j) n := (zi_in hj).mpr ⟨hj0, hjn⟩
  have hnx : narrow .boolean (.int (Int32.ofInt x)) = .int (Int32.ofInt x) := by rcases hx with rfl | rfl <;> rfl
  refine W.zast C'.1 C'.2.1 (hH.2.2.1 _ _ he) ((hK.2 2 _ rfl).1 n (fun j => .int (Int32.ofInt (f j)))) (fun q => by cases q) (by show ¬ (_ < 0 ∨ (arrV _ _ _).slots.size ≤ _); rw [arrV_size]; exact hin) rfl rfl hd fun H1 eH z oq => ?_
  have hP1 := hH.2.2.1.set (wl_D g a u) he (e := dO g a (.inr (2, n, .inl fun q => if q = j.toNat then x else f q))) (H1 := H1) (by
    show H1[a.2 + i]? = some (vp_cell _ _)
    rw [eH, hnx, vp_cell_i, vp_cell_i, arrV_store, zi_tn hj]
    congr 2
    funext q
    by_cases hq : q = j.toNat
    · subst hq; simp [updV]
    · simp [updV, hq]) oq
  rw [wl_set _ h1 h2] at hP1
  exact kk g a p l e s m args below meth c Z C' H1 _ ls d0 hd0 hl1 (HX.store C'.2.2.2.2.2.2.2.1 hH hP1 (hH.1.put z oq (by show a.2 < a.2 + i; omega)) rfl (by show uset u.2 i _ 0 = _; simp [uset]; omega) (Or.inl z))
theorem r_aastG {i n t v ci N : Nat} {j : Int} {C : String} {T : u_T} {fs : List AV} {f : Nat → Option Nat} (hd : decode k.2.1 pc = .ok (.aastore, 1)) (h1 : 1 ≤ i) (h2 : i ≤ u.1) (hu : u.2 i = .inr (t, n, .inr f)) (htys : ∀ g : GG, (tysOf g)[t]? = some (g.2 t, .object C)) (hv1 : 1 ≤ v) (hv2 : v ≤ u.1) (hv : u.2 v = .inl (ci, fs)) (hc : vwCl[ci]? = some (C, T, N)) (hj : R32 j) (hj0 : 0 ≤ j) (hjn : j < n)
    (kk : V k R cu su (pc + 1) L st (u.1, uset u.2 i (.inr (t, n, .inr fun q => if q = j.toNat then some v else f q))) Q) : V k R cu su pc L (vR (some v) :: vI j :: vR (some i) :: st) u Q := by
  intro g a p l e s m args below meth c Z C' H locs ls d0 hd0 hl1 hH
  have he := wl_get (g := g) (a := a) h1 h2
  rw [hu] at he
  have hev := wl_get (g := g) (a := a) hv1 hv2
  rw [hv] at hev
  have hb : dn a (vR (some i)) = .ref (a.2 + i) := by show Value.ref (ada a i) = _; rw [ada_pos h1]
  have hbv : dn a (vR (some v)) = .ref (a.2 + v) := by show Value.ref (ada a v) = _; rw [ada_pos hv1]
  rw [List.map_cons, List.map_cons, List.map_cons, hb, hbv]
  have hK := (KX.same (s := s) (U := s.setDrawn d0) rfl C'.2.2.2.2.2.1).1
  have hD : ∀ o, dO g a (.inr (t, n, .inr o)) = .inl (g.2 t, n, .inr (.inr (.inr (.inr fun k => (o k).map (ada a))))) := fun o => by simp [dO]
  rw [hD] at he
  have hj1 : ¬ Int32.ofInt j < 0 := by
    rw [zi_0, zi_lt hj z0r]; omega
  have hj2 : (Int32.ofInt j).toNatClampNeg < n := by
    rw [zi_tn hj]; omega
  obtain ⟨r', hr', cellV, g1, g2, g3, -⟩ := hH.2.2.1 _ _ hev
  have hcls := (hK.1 ci _ hc).2
  obtain ⟨kA, comp, k1, k2, k3, -⟩ := (hK.2 t _ (htys g)).2
  have hcomp : comp = g.1.1 ci := Option.some.inj (k3.symm.trans hcls.1)
  subst hcomp
  obtain ⟨kC, hkC, -⟩ := hcls.2
  refine W.aast C'.1 C'.2.1 (hH.2.2.1 _ _ he) (fun q h => by cases h) (fun h => by cases h) k1 k2 rfl hkC ⟨hj1, by show _ < (arrV _ _ _).slots.size; rw [arrV_size]; exact hj2⟩ g1 (fun q h => by rw [g3] at h; cases h) (by rw [g2]; exact hkC) (by rw [g2]; exact va_assign hcls) rfl rfl hd fun H1 eH z oq => ?_
  have hP1 := hH.2.2.1.set (wl_D g a u) he (e := dO g a (.inr (t, n, .inr fun q => if q = j.toNat then some v else f q))) (H1 := H1) (by
    rw [hD]
    show H1[a.2 + i]? = some (vp_cell _ _)
    rw [eH, vp_cell_q, vp_cell_q, arrV_store, zi_tn hj]
    congr 2
    funext q
    by_cases hq : q = j.toNat
    · subst hq; simp [updV, va_rf, ada_pos hv1]
    · simp [updV, hq]) oq
  rw [wl_set _ h1 h2] at hP1
  exact kk g a p l e s m args below meth c Z C' H1 _ ls d0 hd0 hl1 (HX.store C'.2.2.2.2.2.2.2.1 hH hP1 (hH.1.put z oq (by show a.2 < a.2 + i; omega)) rfl (by show uset u.2 i _ 0 = _; simp [uset]; omega) (Or.inl z))
/-- System.arraycopy of int rows, whole from place 0 -/
theorem r_copyG {i i2 n n2 : Nat} {z : Int} {f f2 : Nat → Int} (hd : decode k.2.1 pc = .ok (.invokestatic idx, 3)) (hl : Cond.methodLink k.1.cls idx arraycopyName ∈ gW) (hnat : Cond.native arraycopyName ∈ gW) (hst : Cond.static arraycopyName ∈ gW) (hini : Cond.initialized "java/lang/System" ∈ gW) (h1 : 1 ≤ i) (h2 : i ≤ u.1) (h3 : 1 ≤ i2) (h4 : i2 ≤ u.1) (hu : u.2 i = .inr (0, n, .inl f)) (hu2 : u.2 i2 = .inr (0, n2, .inl f2)) (hs : ∀ n f, u.2 0 ≠ .inr (0, n, .inl f))
    (hz : R32 z) (hz0 : 0 ≤ z) (hzn : z ≤ n) (hzn2 : z ≤ n2) (hf : 1 ≤ R.frames) (hlo : 8 + (nativeFrameWords "java/lang/System" "arraycopy" 5 + 11) ≤ R.locals) (hw : (st.map ct).sum ≤ 8) (kk : V k R cu su (pc + 3) L st (u.1, uset u.2 i2 (.inr (0, n2, .inl fun q => if q < z.toNat then f q else f2 q))) Q) : V k R cu su pc L (vI z :: vI 0 :: vR (some i2) :: vI 0 :: vR (some i) :: st) u Q := by
  intro g a p l e s m args below meth c Z C' H locs ls d0 hd0 hl1 hH
  have hts := dr_words C'.2.2.2.2.1 d0
  have hown : (s.setDrawn d0).vm.findClass k.1.cls = some m.cls := C'.2.2.2.1
  have he := wl_get (g := g) (a := a) h1 h2
  rw [hu] at he
  have he2 := wl_get (g := g) (a := a) h3 h4
  rw [hu2] at he2
  have hb : dn a (vR (some i)) = .ref (a.2 + i) := by show Value.ref (ada a i) = _; rw [ada_pos h1]
  have hb2 : dn a (vR (some i2)) = .ref (a.2 + i2) := by show Value.ref (ada a i2) = _; rw [ada_pos h3]
  rw [List.map_cons, List.map_cons, List.map_cons, List.map_cons, List.map_cons, hb, hb2]
  have hK := (KX.same (s := s) (U := s.setDrawn d0) rfl C'.2.2.2.2.2.1).1
  have hsm := st_room (a := a) hw
  refine va_copyi C'.1 C'.2.1 (C'.2.2.1.trans hl1.2.1.symm) hown (hts _ hl) (hts _ hnat) (hts _ hst) (hts _ hini) hK hH.2.2.1 (wl_D g a u) hH.1 (i - 1) (i2 - 1) 0 0 he he2 rfl rfl rfl
    (by show ¬ Int32.ofInt 0 < Int32.ofInt 0; simp) (by show ¬ Int32.ofInt 0 < Int32.ofInt 0; simp) (by rw [zi_0]; show ¬ Int32.ofInt z < _; rw [zi_lt hz z0r]; omega) (by show (Int32.ofInt 0).toNatClampNeg + (Int32.ofInt z).toNatClampNeg ≤ n; rw [zi_tn hz, zi_tn z0r]; show 0 + _ ≤ n; omega) (by show (Int32.ofInt 0).toNatClampNeg + (Int32.ofInt z).toNatClampNeg ≤ n2; rw [zi_tn hz, zi_tn z0r]; show 0 + _ ≤ n2; omega) (fun _ _ => rfl) hf (Nat.le_trans (Nat.add_le_add_right hsm _) hlo) hd ?_
  intro H1 locs1 hP1 hD1 hS1
  have e4 : (.inl (g.2 0, n2, .inl (va_cpy (fun k => Int32.ofInt (f k)) (fun k => Int32.ofInt (f2 k)) (Int32.ofInt 0).toNatClampNeg (Int32.ofInt 0).toNatClampNeg (Int32.ofInt z).toNatClampNeg)) : va_E) = dO g a (.inr (0, n2, .inl fun q => if q < z.toNat then f q else f2 q)) := by
    rw [zi_tn hz, zi_tn z0r]
    show _ = (.inl (g.2 0, n2, .inl fun k => Int32.ofInt (if k < z.toNat then f k else f2 k)) : va_E)
    congr 4
    funext q
    by_cases hq : q < z.toNat
    · have h9 : (Int.toNat 0) ≤ q ∧ q < (Int.toNat 0) + z.toNat := ⟨Nat.zero_le _, by show q < 0 + _; omega⟩
      rw [if_pos hq]
      unfold va_cpy
      rw [if_pos h9]
      congr 2
      show 0 + (q - 0) = q
      omega
    · have h9 : ¬ ((Int.toNat 0) ≤ q ∧ q < (Int.toNat 0) + z.toNat) := fun h => hq (by have h2 : q < 0 + z.toNat := h.2; omega)
      rw [if_neg hq]
      unfold va_cpy
      rw [if_neg h9]
  rw [show (.inl (g.2 0, n2, .inl (va_cpy (fun k => Int32.ofInt (f k)) (fun k => Int32.ofInt (f2 k)) (Int32.ofInt 0).toNatClampNeg (Int32.ofInt 0).toNatClampNeg (Int32.ofInt z).toNatClampNeg)) : va_E) = _ from e4, wl_set _ h3 h4] at hP1
  exact kk g a p l e s m args below meth c Z C' H1 locs1 ls d0 hd0 hl1 (HX.store C'.2.2.2.2.2.2.2.1 hH hP1 hS1 rfl (by show uset u.2 i2 _ 0 = _; simp [uset]; omega) (Or.inr ⟨by omega, hs⟩))
end
