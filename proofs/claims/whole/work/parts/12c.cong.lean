/-! the judgement depends on the objects that are there -/
theorem wl_cg {g : GG} {a : AD} {u u2 : GW} (h1 : u2.1 = u.1) (h : ∀ i, 1 ≤ i → i ≤ u.1 → u2.2 i = u.2 i) : wl g a u2 = wl g a u := by
  unfold wl
  rw [h1]
  refine List.map_congr_left fun i hi => ?_
  have := List.mem_range.mp hi
  rw [h (i + 1) (by omega) (by omega)]
theorem HX_cg {g : GG} {a : AD} {s : State} {H : Heap} {locs : List Loc} {u u2 : GW} {n : Nat} {f : Nat → Int} (h1 : u2.1 = u.1) (h : ∀ i, 1 ≤ i → i ≤ u.1 → u2.2 i = u.2 i) (e : u.2 0 = .inr (0, n, .inl f)) (e2 : u2.2 0 = .inr (9, n, .inl f)) (hH : HX g a s H locs u) : HX g a s H locs u2 := by
  obtain ⟨hS, hle, hP, t, n2, f2, e1, x, l, -⟩ := hH
  refine ⟨hS, by rw [h1]; exact hle, by rw [wl_cg h1 h]; exact hP, 9, n, f, e2, ?_, l, fun z => by omega⟩
  have q := e.symm.trans e1
  simp at q
  obtain ⟨-, rfl, rfl⟩ := q
  exact x
theorem V_cg {k : MT} {R : Room} {cu su pc : Nat} {L : List (Option AV)} {st : List AV} {u u2 : GW} {Q : Option AV → GW → Prop} {n : Nat} {f : Nat → Int} (h1 : u2.1 = u.1) (h : ∀ i, 1 ≤ i → i ≤ u.1 → u2.2 i = u.2 i) (e : u.2 0 = .inr (0, n, .inl f)) (e2 : u2.2 0 = .inr (9, n, .inl f)) (kk : V k R cu su pc L st u2 Q) : V k R cu su pc L st u Q := by
  intro g a p l e0 s m args below meth c Z C H locs ls d0 hd0 hl hH
  exact kk g a p l e0 s m args below meth c Z C H locs ls d0 hd0 hl (HX_cg h1 h e e2 hH)
section
variable {k : MT} {R : Room} {cu su pc idx : Nat} {L : List (Option AV)} {st : List AV} {u : GW} {Q : Option AV → GW → Prop}
/-- a new row of ints, with what it leaves named -/
theorem s_newI {N : Nat} {z : Int} (hd : decode k.2.1 pc = .ok (.newarray .int, 2)) (hz : R32 z) (hz0 : 0 ≤ z) (hzN : z.toNat = N) (hbytes : N * 4 ≤ 536870912) (hex : ∃ n f, u.2 0 = .inr (0, n, .inl f)) (hcu : cu + 1 ≤ R.cells) (hsu : su + N ≤ R.slots)
    (kk : ∀ v : GW, v.1 = u.1 + 1 → v.2 (u.1 + 1) = .inr (0, N, .inl fun _ => 0) → (∀ i, i ≠ u.1 + 1 → v.2 i = u.2 i) → V k R (cu + 1) (su + N) (pc + 2) L (vR (some (u.1 + 1)) :: st) v Q) : V k R cu su pc L (vI z :: st) u Q :=
  r_newaI hd (gw_t 47 (by decide +kernel) (by decide +kernel)) hz hz0 hzN hbytes hex hcu hsu (kk _ rfl (if_pos rfl) (fun _ h => if_neg h))
/-- a field set while an object is made -/
theorem s_putF {i ci N kf : Nat} {C : String} {T : u_T} {fs : List AV} {v : AV} {ty : FieldType} (ty0 : Nat → FieldType) (hd : decode k.2.1 pc = .ok (.putfield idx, 3)) (hc : vwCl[ci]? = some (C, T, N)) (hin : ∀ w ∈ u_ws C T N, w ∈ gW) (hty : ∀ k, k < N → parseFieldDescriptor (T k).2.2.1 = some (ty0 k)) (hnm : ∀ a, a < N → ∀ b, b < N → a ≠ b → (T a).2.1 ≠ (T b).2.1)
    (hkf : kf < N) (hT : (T kf).1 = C) (hfin : (T kf).2.2.2 = true) (hini : k.1.name = "<init>") (hown : k.1.cls = C) (hl : Cond.fieldLink k.1.cls idx C (T kf).2.1 (T kf).2.2.1 ∈ gW) (hty2 : ty0 kf = ty) (hn : ∀ a, narrow ty (dn a v) = dn a v) (hf : ∀ a, fits ty (dn a v) = true)
    (h1 : 1 ≤ i) (h2 : i ≤ u.1) (hu : u.2 i = .inl (ci, fs)) (hlen : kf < fs.length) (kk : ∀ x : GW, x.1 = u.1 → x.2 i = .inl (ci, fs.set kf v) → (∀ p, p ≠ i → x.2 p = u.2 p) → V k R cu su (pc + 3) L st x Q) : V k R cu su pc L (v :: vR (some i) :: st) u Q :=
  r_putFG ty0 hd hc hin hty hnm hkf hT hfin hini hown hl hty2 hn hf h1 h2 hu hlen (kk _ rfl (if_pos rfl) (fun _ h => if_neg h))
theorem s_put {i ci N kf : Nat} {C : String} {T : u_T} {fs : List AV} {v : AV} {ty : FieldType} (ty0 : Nat → FieldType) (hd : decode k.2.1 pc = .ok (.putfield idx, 3)) (hc : vwCl[ci]? = some (C, T, N)) (hin : ∀ w ∈ u_ws C T N, w ∈ gW) (hty : ∀ k, k < N → parseFieldDescriptor (T k).2.2.1 = some (ty0 k)) (hnm : ∀ a, a < N → ∀ b, b < N → a ≠ b → (T a).2.1 ≠ (T b).2.1)
    (hkf : kf < N) (hT : (T kf).1 = C) (hfin : (T kf).2.2.2 = false) (hl : Cond.fieldLink k.1.cls idx C (T kf).2.1 (T kf).2.2.1 ∈ gW) (hty2 : ty0 kf = ty) (hn : ∀ a, narrow ty (dn a v) = dn a v) (hf : ∀ a, fits ty (dn a v) = true)
    (h1 : 1 ≤ i) (h2 : i ≤ u.1) (hu : u.2 i = .inl (ci, fs)) (hlen : kf < fs.length) (kk : ∀ x : GW, x.1 = u.1 → x.2 i = .inl (ci, fs.set kf v) → (∀ p, p ≠ i → x.2 p = u.2 p) → V k R cu su (pc + 3) L st x Q) : V k R cu su pc L (v :: vR (some i) :: st) u Q :=
  r_putG ty0 hd hc hin hty hnm hkf hT hfin hl hty2 hn hf h1 h2 hu hlen (kk _ rfl (if_pos rfl) (fun _ h => if_neg h))
/-- a new object -/
theorem s_new {C : String} {T : u_T} {N ci : Nat} {fs : List AV} (ty : Nat → FieldType) (hd : decode k.2.1 pc = .ok (.new idx, 3)) (hc : vwCl[ci]? = some (C, T, N)) (hin : ∀ w ∈ u_ws C T N, w ∈ gW) (hty : ∀ k, k < N → parseFieldDescriptor (T k).2.2.1 = some (ty k)) (hcl : Cond.classLink k.1.cls idx C ∈ gW) (hinst : Cond.instantiable C N ∈ gW) (hini : Cond.initialized C ∈ gW)
    (hfs : ∀ a j, j < N → defaultValue (ty j) = vp_V (fs.map (dn a)) j) (hex : ∃ n f, u.2 0 = .inr (0, n, .inl f)) (hcu : cu + 1 ≤ R.cells) (hsu : su + N ≤ R.slots) (kk : ∀ v : GW, v.1 = u.1 + 1 → v.2 (u.1 + 1) = .inl (ci, fs) → (∀ i, i ≠ u.1 + 1 → v.2 i = u.2 i) → V k R (cu + 1) (su + N) (pc + 3) L (vR (some (u.1 + 1)) :: st) v Q) : V k R cu su pc L st u Q :=
  r_newG ty hd hc hin hty hcl hinst hini hfs hex hcu hsu (kk _ rfl (if_pos rfl) (fun _ h => if_neg h))
end
