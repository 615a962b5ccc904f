/-! constructors of objects that hold objects: the state of one under way, and its steps -/
def CTM (u v : GW) (b m c : Nat) (fs : List AV) (F : Nat → Ob) : Prop := v.1 = b + m ∧ (∃ n f, v.2 0 = .inr (0, n, .inl f)) ∧ v.2 b = .inl (c, fs) ∧ (∀ i, i < b → v.2 i = u.2 i) ∧ ∀ i, b + 1 ≤ i → i ≤ b + m → v.2 i = F i
theorem CTM.here {u : GW} {b c : Nat} {fs : List AV} {F : Nat → Ob} (h0 : u.1 = b) (h1 : ∃ n f, u.2 0 = .inr (0, n, .inl f)) (h2 : u.2 b = .inl (c, fs)) : CTM u u b 0 c fs F := ⟨h0, h1, h2, fun _ _ => rfl, fun i i1 i2 => absurd (Nat.le_trans i1 i2) (by omega)⟩
theorem CTM.put {u v x : GW} {b m c : Nat} {fs fs2 : List AV} {F : Nat → Ob} (h : CTM u v b m c fs F) (h1 : 1 ≤ b) (A : x.1 = v.1) (B : x.2 b = .inl (c, fs2)) (C : ∀ p, p ≠ b → x.2 p = v.2 p) : CTM u x b m c fs2 F :=
  ⟨A.trans h.1, by rw [C 0 (by omega)]; exact h.2.1, B, fun i hi => (C i (by omega)).trans (h.2.2.2.1 i hi), fun i i1 i2 => (C i (by omega)).trans (h.2.2.2.2 i i1 i2)⟩
theorem CTM.ast {u v x : GW} {b m c e : Nat} {fs : List AV} {F F2 : Nat → Ob} {E : Ob} (h : CTM u v b m c fs F) (h1 : 1 ≤ b) (he : b + 1 ≤ e) (A : x.1 = v.1) (B : x.2 e = E) (C : ∀ p, p ≠ e → x.2 p = v.2 p) (hF : F2 e = E) (hF2 : ∀ i, i ≠ e → F2 i = F i) : CTM u x b m c fs F2 :=
  ⟨A.trans h.1, by rw [C 0 (by omega)]; exact h.2.1, (C b (by omega)).trans h.2.2.1, fun i hi => (C i (by omega)).trans (h.2.2.2.1 i hi), fun i i1 i2 => by
    by_cases hi : i = e
    · rw [hi]; exact B.trans hF.symm
    · exact ((C i hi).trans (h.2.2.2.2 i i1 i2)).trans (hF2 i hi).symm⟩
theorem CTM.more {u v x : GW} {b m c j : Nat} {fs : List AV} {F : Nat → Ob} (h : CTM u v b m c fs F) (h1 : 1 ≤ b) (A : x.1 = b + m + j) (B : ∀ i, i ≤ b + m → x.2 i = v.2 i) (D : ∀ i, b + m + 1 ≤ i → i ≤ b + m + j → x.2 i = F i) : CTM u x b (m + j) c fs F :=
  ⟨by rw [A]; omega, by rw [B 0 (by omega)]; exact h.2.1, (B b (by omega)).trans h.2.2.1, fun i hi => (B i (by omega)).trans (h.2.2.2.1 i hi), fun i i1 i2 => by
    by_cases hi : i ≤ b + m
    · exact (B i hi).trans (h.2.2.2.2 i i1 hi)
    · exact D i (by omega) (by omega)⟩
theorem CTM.congr {u v : GW} {b m c : Nat} {fs : List AV} {F F2 : Nat → Ob} (h : CTM u v b m c fs F) (hF : ∀ i, b + 1 ≤ i → i ≤ b + m → F2 i = F i) : CTM u v b m c fs F2 :=
  ⟨h.1, h.2.1, h.2.2.1, h.2.2.2.1, fun i i1 i2 => (h.2.2.2.2 i i1 i2).trans (hF i i1 i2).symm⟩
/-- what an array of objects holds behind its end is nobody's -/
theorem V_row {k : MT} {R : Room} {cu su pc : Nat} {L : List (Option AV)} {st : List AV} {Q : Option AV → GW → Prop} {i t n : Nat} {f f2 : Nat → Option Nat} {v v2 : GW} (h1 : v2.1 = v.1) (hi : 1 ≤ i) (hv : v.2 i = .inr (t, n, .inr f)) (hv2 : v2.2 i = .inr (t, n, .inr f2)) (hf : ∀ j, j < n → f2 j = f j) (h : ∀ p, p ≠ i → v2.2 p = v.2 p) (kk : V k R cu su pc L st v2 Q) : V k R cu su pc L st v Q := by
  intro g a p l e s m args below meth c Z C H locs ls d0 hd0 hl hH
  refine kk g a p l e s m args below meth c Z C H locs ls d0 hd0 hl ?_
  obtain ⟨hS, hle, hP, t', n', f', e1, x, l', e4⟩ := hH
  refine ⟨hS, by rw [h1]; exact hle, ?_, t', n', f', by rw [h 0 (by omega)]; exact e1, x, l', by rw [h1]; exact e4⟩
  intro k q hq
  obtain ⟨hk, hq2⟩ := wl_inv hq
  have hw := wl_get (g := g) (a := a) (u := v) (i := k + 1) (by omega) (by omega)
  rw [Nat.add_sub_cancel] at hw
  have hat := hP k _ hw
  rw [hq2]
  by_cases hke : k + 1 = i
  · subst hke
    have hD : ∀ o, dO g a (.inr (t, n, .inr o)) = .inl (g.2 t, n, .inr (.inr (.inr (.inr fun k => (o k).map (ada a))))) := fun o => by simp [dO]
    rw [hv, hD] at hat
    rw [hv2, hD]
    have hat2 : H[a.2 + (k + 1)]? = some (vp_cell (g.2 t) (n, .inr (.inr (.inr (.inr fun k => (f k).map (ada a)))))) := hat
    show H[a.2 + (k + 1)]? = some (vp_cell (g.2 t) (n, .inr (.inr (.inr (.inr fun k => (f2 k).map (ada a))))))
    rw [hat2, vp_cell_q, vp_cell_q]
    unfold arrV
    congr 3
    funext j
    show va_rf (Option.map (ada a) (f j.val)) = va_rf (Option.map (ada a) (f2 j.val))
    rw [hf j.val j.isLt]
  · rw [h _ hke]
    exact hat
section
variable {k : MT} {R : Room} {cu su pc idx : Nat} {L : List (Option AV)} {st : List AV} {u0 u : GW} {Q : Option AV → GW → Prop} {b m c : Nat} {fs : List AV} {F : Nat → Ob}
theorem s_iast {i n : Nat} {j x : Int} {f : Nat → Int} (hd : decode k.2.1 pc = .ok (.iastore, 1)) (h1 : 1 ≤ i) (h2 : i ≤ u.1) (hu : u.2 i = .inr (0, n, .inl f)) (hj : R32 j) (hj0 : 0 ≤ j) (hjn : j < n) (kk : ∀ v : GW, v.1 = u.1 → v.2 i = .inr (0, n, .inl fun q => if q = j.toNat then x else f q) → (∀ p, p ≠ i → v.2 p = u.2 p) → V k R cu su (pc + 1) L st v Q) : V k R cu su pc L (vI x :: vI j :: vR (some i) :: st) u Q :=
  r_iastG hd h1 h2 hu hj hj0 hjn (kk _ rfl (if_pos rfl) (fun _ h => if_neg h))
theorem s_aast {i n t v ci N : Nat} {j : Int} {C : String} {T : u_T} {fs : List AV} {f : Nat → Option Nat} (hd : decode k.2.1 pc = .ok (.aastore, 1)) (h1 : 1 ≤ i) (h2 : i ≤ u.1) (hu : u.2 i = .inr (t, n, .inr f)) (htys : ∀ g : GG, (tysOf g)[t]? = some (g.2 t, .object C)) (hv1 : 1 ≤ v) (hv2 : v ≤ u.1) (hv : u.2 v = .inl (ci, fs)) (hc : vwCl[ci]? = some (C, T, N)) (hj : R32 j) (hj0 : 0 ≤ j) (hjn : j < n)
    (kk : ∀ x : GW, x.1 = u.1 → x.2 i = .inr (t, n, .inr fun q => if q = j.toNat then some v else f q) → (∀ p, p ≠ i → x.2 p = u.2 p) → V k R cu su (pc + 1) L st x Q) : V k R cu su pc L (vR (some v) :: vI j :: vR (some i) :: st) u Q :=
  r_aastG hd h1 h2 hu htys hv1 hv2 hv hc hj hj0 hjn (kk _ rfl (if_pos rfl) (fun _ h => if_neg h))
theorem q_putF {N kf : Nat} {C : String} {T : u_T} {v : AV} {ty : FieldType} (ty0 : Nat → FieldType) (hd : decode k.2.1 pc = .ok (.putfield idx, 3)) (hc : vwCl[c]? = some (C, T, N)) (hin : ∀ w ∈ u_ws C T N, w ∈ gW) (hty : ∀ k, k < N → parseFieldDescriptor (T k).2.2.1 = some (ty0 k)) (hnm : ∀ a, a < N → ∀ b, b < N → a ≠ b → (T a).2.1 ≠ (T b).2.1)
    (hkf : kf < N) (hT : (T kf).1 = C) (hfin : (T kf).2.2.2 = true) (hini : k.1.name = "<init>") (hown : k.1.cls = C) (hl : Cond.fieldLink k.1.cls idx C (T kf).2.1 (T kf).2.2.1 ∈ gW) (hty2 : ty0 kf = ty) (hn : ∀ a, narrow ty (dn a v) = dn a v) (hf : ∀ a, fits ty (dn a v) = true)
    (hb1 : 1 ≤ b) (h : CTM u0 u b m c fs F) (hlen : kf < fs.length) (kk : ∀ x : GW, CTM u0 x b m c (fs.set kf v) F → V k R cu su (pc + 3) L st x Q) : V k R cu su pc L (v :: vR (some b) :: st) u Q :=
  s_putF ty0 hd hc hin hty hnm hkf hT hfin hini hown hl hty2 hn hf hb1 (by rw [h.1]; omega) h.2.2.1 hlen (fun x A B C => kk x (h.put hb1 A B C))
theorem q_newI {N : Nat} {z : Int} (hd : decode k.2.1 pc = .ok (.newarray .int, 2)) (hz : R32 z) (hz0 : 0 ≤ z) (hzN : z.toNat = N) (hbytes : N * 4 ≤ 536870912) (hcu : cu + 1 ≤ R.cells) (hsu : su + N ≤ R.slots) (hb1 : 1 ≤ b) (h : CTM u0 u b m c fs F) (hF : F (b + m + 1) = .inr (0, N, .inl fun _ => 0))
    (kk : ∀ x : GW, CTM u0 x b (m + 1) c fs F → V k R (cu + 1) (su + N) (pc + 2) L (vR (some (b + m + 1)) :: st) x Q) : V k R cu su pc L (vI z :: st) u Q := by
  refine s_newI hd hz hz0 hzN hbytes h.2.1 hcu hsu (fun x A B C => ?_)
  rw [h.1] at A B C ⊢
  exact kk x (h.more hb1 A (fun i hi => C i (by omega)) (fun i i1 i2 => by rw [show i = b + m + 1 by omega]; exact B.trans hF.symm))
theorem q_newJ {N : Nat} {z : Int} (hd : decode k.2.1 pc = .ok (.newarray .long, 2)) (hw : Cond.arrayClass .long ∈ gW) (hz : R32 z) (hz0 : 0 ≤ z) (hzN : z.toNat = N) (hbytes : N * 8 ≤ 536870912) (hcu : cu + 1 ≤ R.cells) (hsu : su + N ≤ R.slots) (hb1 : 1 ≤ b) (h : CTM u0 u b m c fs F) (hF : F (b + m + 1) = .inr (1, N, .inl fun _ => 0))
    (kk : ∀ x : GW, CTM u0 x b (m + 1) c fs F → V k R (cu + 1) (su + N) (pc + 2) L (vR (some (b + m + 1)) :: st) x Q) : V k R cu su pc L (vI z :: st) u Q := by
  refine r_newaJ hd hw hz hz0 hzN hbytes h.2.1 hcu hsu ?_
  have h1 := h.1
  rw [h1]
  refine kk _ (h.more hb1 rfl (fun i hi => if_neg (by omega)) (fun i i1 i2 => ?_))
  rw [show i = b + m + 1 by omega]; exact (if_pos rfl).trans hF.symm
theorem q_newZ {N : Nat} {z : Int} (hd : decode k.2.1 pc = .ok (.newarray .boolean, 2)) (hw : Cond.arrayClass .boolean ∈ gW) (hz : R32 z) (hz0 : 0 ≤ z) (hzN : z.toNat = N) (hbytes : N * 1 ≤ 536870912) (hcu : cu + 1 ≤ R.cells) (hsu : su + N ≤ R.slots) (hb1 : 1 ≤ b) (h : CTM u0 u b m c fs F) (hF : F (b + m + 1) = .inr (2, N, .inl fun _ => 0))
    (kk : ∀ x : GW, CTM u0 x b (m + 1) c fs F → V k R (cu + 1) (su + N) (pc + 2) L (vR (some (b + m + 1)) :: st) x Q) : V k R cu su pc L (vI z :: st) u Q := by
  refine r_newaZ hd hw hz hz0 hzN hbytes h.2.1 hcu hsu ?_
  have h1 := h.1
  rw [h1]
  refine kk _ (h.more hb1 rfl (fun i hi => if_neg (by omega)) (fun i i1 i2 => ?_))
  rw [show i = b + m + 1 by omega]; exact (if_pos rfl).trans hF.symm
theorem q_newq {C : String} {t N : Nat} {z : Int} (hd : decode k.2.1 pc = .ok (.anewarray idx, 3)) (hcl : Cond.classLink k.1.cls idx C ∈ gW) (hAO : ∀ g U, KX g U → va_AO C U) (htys : ∀ g : GG, (tysOf g)[t]? = some (g.2 t, .object C)) (hz : R32 z) (hz0 : 0 ≤ z) (hzN : z.toNat = N) (hbytes : N * 4 ≤ 536870912) (hcu : cu + 1 ≤ R.cells) (hsu : su + N ≤ R.slots)
    (hb1 : 1 ≤ b) (h : CTM u0 u b m c fs F) (hF : F (b + m + 1) = .inr (t, N, .inr fun _ => none))
    (kk : ∀ x : GW, CTM u0 x b (m + 1) c fs F → V k R (cu + 1) (su + N) (pc + 3) L (vR (some (b + m + 1)) :: st) x Q) : V k R cu su pc L (vI z :: st) u Q := by
  refine r_newqG hd hcl hAO htys (fun g a => by simp [dO]) hz hz0 hzN hbytes h.2.1 hcu hsu ?_
  have h1 := h.1
  rw [h1]
  refine kk _ (h.more hb1 rfl (fun i hi => if_neg (by omega)) (fun i i1 i2 => ?_))
  rw [show i = b + m + 1 by omega]; exact (if_pos rfl).trans hF.symm
/-- the contract of a constructor: its object's place, and how many stand behind it -/
def ICM (k2 : MT) (R2 : Room) (c2 kn : Nat) (fs2 : List AV) (o : Nat) (F : Nat → Ob) : Prop := ∀ (x : GW) (Q2 : Option AV → GW → Prop), x.1 = o → x.2 o = .inl (c2, fs2) → (∃ n f, x.2 0 = .inr (0, n, .inl f)) → (∀ v : GW, v.1 = o + kn → (∀ i, i < o → v.2 i = x.2 i) → (∀ i, o ≤ i → i ≤ o + kn → v.2 i = F i) → Q2 none v) → M k2 R2 [vR (some o)] x Q2
theorem ICM.congr {k2 : MT} {R2 : Room} {c2 kn o : Nat} {fs2 : List AV} {F F2 : Nat → Ob} (h : ICM k2 R2 c2 kn fs2 o F) (hF : ∀ i, o ≤ i → i ≤ o + kn → F2 i = F i) : ICM k2 R2 c2 kn fs2 o F2 :=
  fun x Q2 A B t hq => h x Q2 A B t (fun v a1 a2 a3 => hq v a1 a2 (fun i i1 i2 => (a3 i i1 i2).trans (hF i i1 i2).symm))
theorem q_obj {N c2 kn idx2 : Nat} {C : String} {T : u_T} {fs2 : List AV} {k2 : MT} {R2 : Room} (ty : Nat → FieldType) (hd : decode k.2.1 pc = .ok (.new idx, 3)) (hd3 : decode k.2.1 (pc + 3) = .ok (.dup, 1)) (hd4 : decode k.2.1 (pc + 3 + 1) = .ok (.invokespecial idx2, 3)) (hc : vwCl[c2]? = some (C, T, N)) (hin : ∀ w ∈ u_ws C T N, w ∈ gW) (hty : ∀ k, k < N → parseFieldDescriptor (T k).2.2.1 = some (ty k)) (hcl : Cond.classLink k.1.cls idx C ∈ gW) (hinst : Cond.instantiable C N ∈ gW) (hini : Cond.initialized C ∈ gW)
    (hfs : ∀ a j, j < N → defaultValue (ty j) = vp_V (fs2.map (dn a)) j) (hcu : cu + 1 ≤ R.cells) (hsu : su + N ≤ R.slots) (hr0 : k2.2.2.2 = none) (ok : okM k2 0) (hi : Cond.instanceMethod k2.1 ∈ gW) (hy : k2.1.name = "<init>") (hl : Cond.methodLink k.1.cls idx2 k2.1 ∈ gW) (hw : ((vR (some (b + m + 1)) :: st).map ct).sum ≤ 8) (hR : okR k2 R R2 (cu + 1) (su + N))
    (hb1 : 1 ≤ b) (h : CTM u0 u b m c fs F) (hM : ICM k2 R2 c2 kn fs2 (b + m + 1) F)
    (kk : ∀ x : GW, CTM u0 x b (m + 1 + kn) c fs F → V k R (cu + 1 + R2.cells) (su + N + R2.slots) (pc + 3 + 1 + 3) L (vR (some (b + m + 1)) :: st) x Q) : V k R cu su pc L st u Q := by
  refine s_new ty hd hc hin hty hcl hinst hini hfs h.2.1 hcu hsu (fun x A B C => ?_)
  rw [h.1] at A B C ⊢
  refine r_dup hd3 rfl ?_
  refine r_callI (av := []) (k2 := k2) (R2 := R2) hr0 hd4 ok hi hy hl rfl hw hR (by omega) ?_
  refine hM x _ A B (by rw [C 0 (by omega)]; exact h.2.1) (fun v A2 B2 C2 => ?_)
  have h2 := h.more (x := v) (j := 1 + kn) hb1 (by rw [A2]; omega) (fun i hi => (B2 i (by omega)).trans (C i (by omega))) (fun i i1 i2 => C2 i (by omega) (by omega))
  rw [← Nat.add_assoc] at h2
  exact kk v h2
theorem q_objN {N c2 kn idx2 : Nat} {C host : String} {T : u_T} {fs2 : List AV} {k2 : MT} {R2 : Room} (ty : Nat → FieldType) (hd : decode k.2.1 pc = .ok (.new idx, 3)) (hd3 : decode k.2.1 (pc + 3) = .ok (.dup, 1)) (hd4 : decode k.2.1 (pc + 3 + 1) = .ok (.invokespecial idx2, 3)) (hc : vwCl[c2]? = some (C, T, N)) (hin : ∀ w ∈ u_ws C T N, w ∈ gW) (hty : ∀ k, k < N → parseFieldDescriptor (T k).2.2.1 = some (ty k)) (hcl : Cond.classLink k.1.cls idx C ∈ gW) (hinst : Cond.instantiable C N ∈ gW) (hini : Cond.initialized C ∈ gW)
    (hfs : ∀ a j, j < N → defaultValue (ty j) = vp_V (fs2.map (dn a)) j) (hcu : cu + 1 ≤ R.cells) (hsu : su + N ≤ R.slots) (hr0 : k2.2.2.2 = none) (ok : okM k2 0) (hi : Cond.instanceMethod k2.1 ∈ gW) (hy : k2.1.name = "<init>") (hl : (k.1.cls, idx2, k2.1, host) ∈ nN) (hw : ((vR (some (b + m + 1)) :: st).map ct).sum ≤ 8) (hR : okR k2 R R2 (cu + 1) (su + N))
    (hb1 : 1 ≤ b) (h : CTM u0 u b m c fs F) (hM : ICM k2 R2 c2 kn fs2 (b + m + 1) F)
    (kk : ∀ x : GW, CTM u0 x b (m + 1 + kn) c fs F → V k R (cu + 1 + R2.cells) (su + N + R2.slots) (pc + 3 + 1 + 3) L (vR (some (b + m + 1)) :: st) x Q) : V k R cu su pc L st u Q := by
  refine s_new ty hd hc hin hty hcl hinst hini hfs h.2.1 hcu hsu (fun x A B C => ?_)
  rw [h.1] at A B C ⊢
  refine r_dup hd3 rfl ?_
  refine r_callIN (av := []) (k2 := k2) (R2 := R2) hr0 hd4 ok hi hy hl rfl hw hR (by omega) ?_
  refine hM x _ A B (by rw [C 0 (by omega)]; exact h.2.1) (fun v A2 B2 C2 => ?_)
  have h2 := h.more (x := v) (j := 1 + kn) hb1 (by rw [A2]; omega) (fun i hi => (B2 i (by omega)).trans (C i (by omega))) (fun i i1 i2 => C2 i (by omega) (by omega))
  rw [← Nat.add_assoc] at h2
  exact kk v h2
end
