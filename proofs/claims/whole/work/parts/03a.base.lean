/-! THE CALCULUS: a frame of any method over a world of numbered objects; the judgement V (from here on the method goes on to its end with Q), the contract M; one row an instruction over V. -/
def nN : List (String × Nat × MethodName × String) := [("KeyframeCurves$State", 11, ⟨"KeyframeCurves$TimeMap", "<init>", "()V"⟩, "KeyframeCurves"), ("KeyframeCurves$State", 20, ⟨"KeyframeCurves$Formula", "<init>", "()V"⟩, "KeyframeCurves"), ("KeyframeCurves$State", 31, ⟨"KeyframeCurves$Curve", "<init>", "()V"⟩, "KeyframeCurves"), ("KeyframeCurves", 25, ⟨"KeyframeCurves$Text", "<init>", "()V"⟩, "KeyframeCurves"), ("KeyframeCurves", 32, ⟨"KeyframeCurves$FormulaReader", "<init>", "()V"⟩, "KeyframeCurves"), ("KeyframeCurves$FormulaReader", 11, ⟨"KeyframeCurves$Formula", "<init>", "()V"⟩, "KeyframeCurves"), ("KeyframeCurves", 39, ⟨"KeyframeCurves$CurveReader", "<init>", "()V"⟩, "KeyframeCurves"), ("KeyframeCurves$CurveReader", 11, ⟨"KeyframeCurves$Curve", "<init>", "()V"⟩, "KeyframeCurves"), ("KeyframeCurves", 46, ⟨"KeyframeCurves$Mixer", "<init>", "()V"⟩, "KeyframeCurves"), ("KeyframeCurves", 53, ⟨"KeyframeCurves$Polyline", "<init>", "()V"⟩, "KeyframeCurves"), ("KeyframeCurves", 60, ⟨"KeyframeCurves$Decimator", "<init>", "()V"⟩, "KeyframeCurves"), ("KeyframeCurves$Decimator", 17, ⟨"KeyframeCurves$Curve", "<init>", "()V"⟩, "KeyframeCurves"), ("KeyframeCurves$Curve", 53, ⟨"KeyframeCurves", "at", "([II)I"⟩, "KeyframeCurves"), ("KeyframeCurves$TimeMap", 22, ⟨"KeyframeCurves", "copyRow", "([I[I)V"⟩, "KeyframeCurves"), ("KeyframeCurves$Formula", 22, ⟨"KeyframeCurves", "copyRow", "([I[I)V"⟩, "KeyframeCurves"), ("KeyframeCurves$Curve", 41, ⟨"KeyframeCurves", "copyRow", "([I[I)V"⟩, "KeyframeCurves"), ("KeyframeCurves$Curve", 61, ⟨"KeyframeCurves", "put", "([III)V"⟩, "KeyframeCurves"), ("KeyframeCurves$Curve", 93, ⟨"KeyframeCurves", "round", "(JJ)J"⟩, "KeyframeCurves"), ("KeyframeCurves$Curve", 81, ⟨"KeyframeCurves", "limited", "(JI)I"⟩, "KeyframeCurves"), ("KeyframeCurves$Curve", 88, ⟨"KeyframeCurves", "nearestValue", "(I)I"⟩, "KeyframeCurves"), ("KeyframeCurves$TimeMap", 26, ⟨"KeyframeCurves", "at", "([II)I"⟩, "KeyframeCurves"), ("KeyframeCurves$TimeMap", 30, ⟨"KeyframeCurves", "put", "([III)V"⟩, "KeyframeCurves"), ("KeyframeCurves$TimeMap", 44, ⟨"KeyframeCurves", "round", "(JJ)J"⟩, "KeyframeCurves"), ("KeyframeCurves$TimeMap", 48, ⟨"KeyframeCurves", "limited", "(JI)I"⟩, "KeyframeCurves"), ("KeyframeCurves$Curve", 69, ⟨"KeyframeCurves", "stepsIn", "(III)I"⟩, "KeyframeCurves"), ("KeyframeCurves$Mixer", 30, ⟨"KeyframeCurves", "at", "([II)I"⟩, "KeyframeCurves"), ("KeyframeCurves$Mixer", 37, ⟨"KeyframeCurves", "put", "([III)V"⟩, "KeyframeCurves"), ("KeyframeCurves$Mixer", 58, ⟨"KeyframeCurves", "limited", "(JI)I"⟩, "KeyframeCurves"), ("KeyframeCurves$Mixer", 68, ⟨"KeyframeCurves", "round", "(JJ)J"⟩, "KeyframeCurves"), ("KeyframeCurves$Polyline", 34, ⟨"KeyframeCurves", "put", "([III)V"⟩, "KeyframeCurves"), ("KeyframeCurves$Polyline", 45, ⟨"KeyframeCurves", "at", "([II)I"⟩, "KeyframeCurves"), ("KeyframeCurves$Polyline", 53, ⟨"KeyframeCurves", "round", "(JJ)J"⟩, "KeyframeCurves"), ("KeyframeCurves$Decimator", 29, ⟨"KeyframeCurves", "at", "([II)I"⟩, "KeyframeCurves"), ("KeyframeCurves$Decimator", 37, ⟨"KeyframeCurves", "put", "([III)V"⟩, "KeyframeCurves"), ("KeyframeCurves$Text", 22, ⟨"KeyframeCurves", "put", "([III)V"⟩, "KeyframeCurves"), ("KeyframeCurves$Text", 29, ⟨"KeyframeCurves", "at", "([II)I"⟩, "KeyframeCurves"), ("KeyframeCurves$Formula", 26, ⟨"KeyframeCurves", "put", "([III)V"⟩, "KeyframeCurves"), ("KeyframeCurves$CurveReader", 53, ⟨"KeyframeCurves", "at", "([II)I"⟩, "KeyframeCurves"), ("KeyframeCurves$Formula", 30, ⟨"KeyframeCurves", "at", "([II)I"⟩, "KeyframeCurves")]
abbrev AV : Type := Int ⊕ (Int ⊕ (Option Nat ⊕ (UInt32 ⊕ UInt64)))
abbrev vI (x : Int) : AV := .inl x
abbrev vL (x : Int) : AV := .inr (.inl x)
abbrev vR (r : Option Nat) : AV := .inr (.inr (.inl r))
abbrev vF (x : UInt32) : AV := .inr (.inr (.inr (.inl x)))
abbrev vD (x : UInt64) : AV := .inr (.inr (.inr (.inr x)))
abbrev R32 (x : Int) : Prop := -2147483648 ≤ x ∧ x < 2147483648
abbrev R64 (x : Int) : Prop := -9223372036854775808 ≤ x ∧ x < 9223372036854775808
abbrev AD : Type := Nat × Nat
def ada (a : AD) (i : Nat) : Nat := if i = 0 then a.1 else a.2 + i
def dn (a : AD) : AV → Value
  | .inl x => .int (Int32.ofInt x)
  | .inr (.inl x) => .long (Int64.ofInt x)
  | .inr (.inr (.inl r)) => va_rf (r.map (ada a))
  | .inr (.inr (.inr (.inl x))) => .float x
  | .inr (.inr (.inr (.inr x))) => .double x
def ct : AV → Nat
  | .inl _ => 1
  | .inr (.inl _) => 2
  | .inr (.inr (.inl _)) => 1
  | .inr (.inr (.inr (.inl _))) => 1
  | .inr (.inr (.inr (.inr _))) => 2
theorem dn_cat (a : AD) (v : AV) : (dn a v).category = ct v := by
  rcases v with x | x | r | x | x
  · rfl
  · rfl
  · cases r <;> rfl
  · rfl
  · rfl
abbrev Ob : Type := (Nat × List AV) ⊕ (Nat × Nat × ((Nat → Int) ⊕ (Nat → Option Nat)))
abbrev GW : Type := Nat × (Nat → Ob)
abbrev GG : Type := va_G × (Nat → ClassId)
abbrev MT : Type := MethodName × ByteArray × Nat × Option FieldType
def dO (g : GG) (a : AD) : Ob → va_E
  | .inl (ci, fs) => .inr (ci, fs.map (dn a))
  | .inr (1, n, .inl f) => .inl (g.2 1, n, .inr (.inl fun k => Int64.ofInt (f k)))
  | .inr (t, n, .inl f) => .inl (g.2 t, n, .inl fun k => Int32.ofInt (f k))
  | .inr (t, n, .inr f) => .inl (g.2 t, n, .inr (.inr (.inr (.inr fun k => (f k).map (ada a)))))
def wl (g : GG) (a : AD) (u : GW) : va_W := (List.range u.1).map fun i => (a.2 + (i + 1), dO g a (u.2 (i + 1)))
def uset (f : Nat → Ob) (j : Nat) (o : Ob) : Nat → Ob := fun k => if k = j then o else f k
theorem wl_get {g : GG} {a : AD} {u : GW} {i : Nat} (h1 : 1 ≤ i) (h2 : i ≤ u.1) : (wl g a u)[i - 1]? = some (a.2 + i, dO g a (u.2 i)) := by
  have h : i - 1 < u.1 := by omega
  simp [wl, h, Nat.sub_add_cancel h1]
theorem wl_inv {g : GG} {a : AD} {u : GW} {i : Nat} {q : Nat × va_E} (h : (wl g a u)[i]? = some q) : i < u.1 ∧ q = (a.2 + (i + 1), dO g a (u.2 (i + 1))) := by
  have hl : i < (wl g a u).length := (List.getElem?_eq_some_iff.mp h).1
  have hl2 : i < u.1 := by simpa [wl] using hl
  have h2 := wl_get (g := g) (a := a) (u := u) (i := i + 1) (by omega) (by omega)
  rw [Nat.add_sub_cancel, h] at h2
  exact ⟨hl2, Option.some.inj h2⟩
theorem wl_D (g : GG) (a : AD) (u : GW) : va_D (fun q => a.2 < q) (wl g a u) := by
  refine ⟨fun i j p q hi hj h => ?_, fun k q hk => ?_⟩
  · have h1 := (wl_inv hi).2
    have h2 := (wl_inv hj).2
    subst h1; subst h2
    dsimp only at h
    omega
  · have h1 := (wl_inv hk).2
    subst h1
    show a.2 < a.2 + (k + 1)
    omega
theorem wl_len (g : GG) (a : AD) (u : GW) : (wl g a u).length = u.1 := by simp [wl]
theorem wl_set {g : GG} {a : AD} {u : GW} {i : Nat} (o : Ob) (h1 : 1 ≤ i) (h2 : i ≤ u.1) : (wl g a u).set (i - 1) (a.2 + i, dO g a o) = wl g a (u.1, uset u.2 i o) := by
  apply List.ext_getElem?
  intro k
  by_cases hk : k < u.1
  · have e2 := wl_get (g := g) (a := a) (u := (u.1, uset u.2 i o)) (i := k + 1) (by omega) hk
    have e1 := wl_get (g := g) (a := a) (u := u) (i := k + 1) (by omega) (by omega)
    rw [Nat.add_sub_cancel] at e1 e2
    rw [e2]
    by_cases he : k + 1 = i
    · have : k = i - 1 := by omega
      subst this
      rw [List.getElem?_set_self (by rw [wl_len]; omega)]
      simp [uset, he]
    · rw [List.getElem?_set_ne (by omega), e1]
      simp [uset, he]
  · rw [List.getElem?_eq_none (by simp [wl]; omega), List.getElem?_eq_none (by simp [wl]; omega)]
theorem wl_push (g : GG) (a : AD) (u : GW) (o : Ob) : wl g a u ++ [(a.2 + (u.1 + 1), dO g a o)] = wl g a (u.1 + 1, uset u.2 (u.1 + 1) o) := by
  apply List.ext_getElem?
  intro k
  by_cases hk : k < u.1
  · have e2 := wl_get (g := g) (a := a) (u := (u.1 + 1, uset u.2 (u.1 + 1) o)) (i := k + 1) (by omega) (by show k + 1 ≤ u.1 + 1; omega)
    have e1 := wl_get (g := g) (a := a) (u := u) (i := k + 1) (by omega) (by omega)
    rw [Nat.add_sub_cancel] at e1 e2
    rw [e2, List.getElem?_append_left (by rw [wl_len]; exact hk), e1]
    have : ¬ k = u.1 := by omega
    simp [uset, this]
  · by_cases he : k = u.1
    · subst he
      have e2 := wl_get (g := g) (a := a) (u := (u.1 + 1, uset u.2 (u.1 + 1) o)) (i := u.1 + 1) (by omega) (Nat.le_refl _)
      rw [Nat.add_sub_cancel] at e2
      rw [e2, List.getElem?_append_right (by rw [wl_len]; omega), wl_len, Nat.sub_self]
      simp [uset]
    · rw [List.getElem?_eq_none (by simp [wl]; omega), List.getElem?_eq_none (by simp [wl]; omega)]
/-- the words of the tables that every contract asks, and the nest mates' links -/
def gW : List Cond := lw_tbl.filter goodWord
theorem gw_t {w : Cond} (i : Nat) (h : tables_1[i]? = some w) (hg : goodWord w = true) : w ∈ gW := List.mem_filter.mpr ⟨List.mem_append_right _ (List.mem_of_getElem? h), hg⟩
theorem gw_s {w : Cond} (i : Nat) (h : (k2_sels lw_privs)[i]? = some w) (hg : goodWord w = true) : w ∈ gW := List.mem_filter.mpr ⟨List.mem_append_left _ (List.mem_of_getElem? h), hg⟩
theorem gw_l {ws : List Cond} (ps : List Nat) (h : ws = ps.filterMap (fun i => tables_1[i]?)) (hg : ws.all goodWord = true) : ∀ w ∈ ws, w ∈ gW := by
  intro w hw
  have h1 := List.all_eq_true.mp hg w hw
  rw [h] at hw
  obtain ⟨i, -, hi⟩ := List.mem_filterMap.mp hw
  exact gw_t i hi h1
theorem gW_good : ∀ w ∈ gW, (w.onTables && w.keeps) = true ∨ ∃ ty, w = .arrayClass ty := fun w h => good_of_word (List.mem_filter.mp h).2
abbrev NL : Type := String × Nat × MethodName × String
abbrev nlw (q : NL) : Cond := .methodLinkNest q.1 q.2.1 q.2.2.1 q.2.2.2
abbrev RCrv : String := "KeyframeCurves$Curve"
abbrev RSta : String := "KeyframeCurves$State"
def tysOf (g : GG) : List (ClassId × FieldType) := [(g.2 0, .int), (g.2 1, .long), (g.2 2, .boolean), (g.2 3, .object RCrv), (g.2 4, .object RSta)]
def KX (g : GG) (U : State) : Prop := va_K g.1 vwCl (tysOf g) U ∧ (∀ q ∈ nN, va_Nw (nlw q) U) ∧ va_AO RCrv U ∧ va_AO RSta U
theorem KX.warm {g : GG} {s U : State} (hW : s.WarmedH U.vm) (h : KX g s) : KX g U :=
  ⟨va_K.moved hW.alike h.1, fun q hq => va_Nw.warmM hW (h.2.1 q hq), va_AO.moved hW.alike h.2.2.1, va_AO.moved hW.alike h.2.2.2⟩
theorem KX.same {g : GG} {s U : State} (hv : s.vm = U.vm) (h : KX g s) : KX g U :=
  ⟨va_K.moved (by rw [hv]; exact Vm.Alike.refl _) h.1, fun q hq => va_Nw.same rfl hv (h.2.1 q hq), va_AO.moved (by rw [hv]; exact Vm.Alike.refl _) h.2.2.1, va_AO.moved (by rw [hv]; exact Vm.Alike.refl _) h.2.2.2⟩
/-- the heap holds the world: object i at a.2 + i, the script (object 0, not written) at a.1; while the script's tag is 0 the heap ends with the world -/
def HR (g : GG) (a : AD) (U : State) (u : GW) (H : Heap) : Prop := a.2 + 1 + u.1 ≤ H.size ∧ va_P g.1 vwCl (wl g a u) H ∧ ∃ (t n : Nat) (f : Nat → Int), u.2 0 = .inr (t, n, .inl f) ∧ va_X a.1 n (fun k => Int32.ofInt (f k)) U H ∧ a.1 ≤ a.2 ∧ (t = 0 → H.size = a.2 + 1 + u.1)
theorem HR.vm {g : GG} {a : AD} {s U : State} {u : GW} {H : Heap} (hv : s.vm.Alike U.vm) (h : HR g a s u H) : HR g a U u H := by
  obtain ⟨h1, h2, t, n, f, h3, h4, h5⟩ := h
  exact ⟨h1, h2, t, n, f, h3, h4.moved hv, h5⟩
def HX (g : GG) (a : AD) (s : State) (H : Heap) (locs : List Loc) (u : GW) : Prop := va_S (fun q => a.2 < q) s.heap H locs ∧ HR g a s u H
theorem HX.store {g : GG} {a : AD} {s : State} {H H1 : Heap} {locs locs1 : List Loc} {u u1 : GW} (hb : a.2 + 1 ≤ s.heap.size) (hH : HX g a s H locs u) (hP : va_P g.1 vwCl (wl g a u1) H1) (hS : va_S (fun q => a.2 < q) s.heap H1 locs1)
    (h1 : u1.1 = u.1) (h0 : u1.2 0 = u.2 0) (hz : H1.size = H.size ∨ (1 ≤ u.1 ∧ ∀ n f, u.2 0 ≠ .inr (0, n, .inl f))) : HX g a s H1 locs1 u1 := by
  obtain ⟨hS0, hle, hP0, t, n, f, e1, e2, e3, e4⟩ := hH
  refine ⟨hS, ?_, hP, t, n, f, h0.trans e1, e2.kept ?_, e3, fun ht => ?_⟩
  · rcases hz with hz | ⟨hz, -⟩
    · rw [hz, h1]; exact hle
    · have h2 := wl_get (g := g) (a := a) (u := u1) (i := u1.1) (by omega) (Nat.le_refl _)
      have h3 := (hP _ _ h2).lt
      dsimp only at h3
      omega
  · have g1 := hS.2.1 a.1 (by omega) (by omega)
    have g2 := hS0.2.1 a.1 (by omega) (by omega)
    rw [g1, g2]
  · rcases hz with hz | ⟨-, hz⟩
    · rw [hz, h1]; exact e4 ht
    · subst ht; exact absurd e1 (hz n f)
/-- the locals -/
def lm (a : AD) (ls : Array Slot) (nL : Nat) (L : List (Option AV)) : Prop := L.length = nL ∧ ls.size = nL ∧ lv_wf ls ∧ ∀ (i : Nat) (v : AV), L[i]? = some (some v) → ls[i]? = some (.val (dn a v))
def asc (a : AD) : Nat → List (Option AV) → List (Nat × Value)
  | _, [] => []
  | i, none :: r => asc a (i + 1) r
  | i, some v :: r => (i, dn a v) :: asc a (i + 1) r
theorem asc_mem {a : AD} : ∀ {L : List (Option AV)} {i : Nat} {q : Nat × Value}, q ∈ asc a i L → ∃ (j : Nat) (v : AV), q = (i + j, dn a v) ∧ L[j]? = some (some v)
  | [], i, q, h => by simp [asc] at h
  | none :: r, i, q, h => by
    obtain ⟨j, v, h1, h2⟩ := asc_mem (L := r) (i := i + 1) h
    exact ⟨j + 1, v, by rw [h1]; simp; omega, by simpa using h2⟩
  | some w :: r, i, q, h => by
    rcases List.mem_cons.mp h with h | h
    · exact ⟨0, w, h, rfl⟩
    · obtain ⟨j, v, h1, h2⟩ := asc_mem (L := r) (i := i + 1) h
      exact ⟨j + 1, v, by rw [h1]; simp; omega, by simpa using h2⟩
theorem asc_in {a : AD} : ∀ {L : List (Option AV)} {i j : Nat} {v : AV}, L[j]? = some (some v) → (i + j, dn a v) ∈ asc a i L
  | [], i, j, v, h => by simp at h
  | none :: r, i, 0, v, h => by simp at h
  | none :: r, i, j + 1, v, h => by
    have := asc_in (a := a) (L := r) (i := i + 1) (j := j) (v := v) (by simpa using h)
    rw [show i + (j + 1) = i + 1 + j by omega]; exact this
  | some w :: r, i, 0, v, h => by
    have e : w = v := by simpa using h
    subst e
    exact List.mem_cons_self
  | some w :: r, i, j + 1, v, h => by
    have := asc_in (a := a) (L := r) (i := i + 1) (j := j) (v := v) (by simpa using h)
    rw [show i + (j + 1) = i + 1 + j by omega]; exact List.mem_cons_of_mem _ this
theorem lm.has {a : AD} {ls : Array Slot} {nL : Nat} {L : List (Option AV)} (h : lm a ls nL L) : lv_has ls nL (asc a 0 L) := by
  refine ⟨h.2.1, h.2.2.1, fun q hq => ?_⟩
  obtain ⟨j, v, rfl, h2⟩ := asc_mem hq
  have := h.2.2.2 j v h2
  simpa using this
/-- what a store keeps: a long below the place is gone -/
def pok (L : List (Option AV)) (i : Nat) : Prop := ∀ (j : Nat) (v : AV), j + 1 = i → L[j]? = some (some v) → ct v = 1
theorem lm.st1 {a : AD} {ls' : Array Slot} {nL i : Nat} {L : List (Option AV)} {v : AV} (hL : L.length = nL) (hp : pok L i) (hi : i < nL)
    (h : lv_has ls' nL ((i, dn a v) :: (asc a 0 L).filter (fun q => !(q.1 == i) && !(q.1 + 1 == i && q.2.category == 2)))) : lm a ls' nL (L.set i (some v)) := by
  refine ⟨by simpa using hL, h.1, h.2.1, fun j w hj => ?_⟩
  by_cases he : j = i
  · subst he
    rw [List.getElem?_set_self (by omega)] at hj
    have e : v = w := by simpa using hj
    subst e
    exact h.2.2 (j, dn a v) List.mem_cons_self
  · rw [List.getElem?_set_ne (Ne.symm he)] at hj
    refine h.2.2 (j, dn a w) (List.mem_cons_of_mem _ (List.mem_filter.mpr ⟨by simpa using asc_in (a := a) (i := 0) hj, ?_⟩))
    have e1 : (j == i) = false := by simpa using he
    by_cases h1 : j + 1 = i
    · have e2 := hp j w h1 hj
      simp [e1, dn_cat, e2]
    · have e3 : (j + 1 == i) = false := by simpa using h1
      simp [e1, e3]
theorem lm.st2 {a : AD} {ls' : Array Slot} {nL i : Nat} {L : List (Option AV)} {v : AV} (hL : L.length = nL) (hp : pok L i) (hi : i + 1 < nL)
    (h : lv_has ls' nL ((i, dn a v) :: (asc a 0 L).filter (fun q => !(q.1 == i) && (!(q.1 == i + 1) && !(q.1 + 1 == i && q.2.category == 2))))) : lm a ls' nL ((L.set i (some v)).set (i + 1) none) := by
  refine ⟨by simpa using hL, h.1, h.2.1, fun j w hj => ?_⟩
  by_cases h0 : j = i + 1
  · subst h0
    rw [List.getElem?_set_self (by simp; omega)] at hj
    simp at hj
  rw [List.getElem?_set_ne (Ne.symm h0)] at hj
  by_cases he : j = i
  · subst he
    rw [List.getElem?_set_self (by omega)] at hj
    have e : v = w := by simpa using hj
    subst e
    exact h.2.2 (j, dn a v) List.mem_cons_self
  · rw [List.getElem?_set_ne (Ne.symm he)] at hj
    refine h.2.2 (j, dn a w) (List.mem_cons_of_mem _ (List.mem_filter.mpr ⟨by simpa using asc_in (a := a) (i := 0) hj, ?_⟩))
    have e1 : (j == i) = false := by simpa using he
    have e0 : (j == i + 1) = false := by simpa using h0
    by_cases h1 : j + 1 = i
    · have e2 := hp j w h1 hj
      simp [e1, e0, dn_cat, e2]
    · have e3 : (j + 1 == i) = false := by simpa using h1
      simp [e1, e0, e3]
/-- a method's end: the instruction that hands r back -/
def RA (k : MT) (pc : Nat) (r : Option AV) : Prop := match r with
  | none => decode k.2.1 pc = .ok (.return_, 1) ∧ k.2.2.2 = none
  | some (.inl x) => decode k.2.1 pc = .ok (.ireturn, 1) ∧ ∃ ty, k.2.2.2 = some ty ∧ narrow ty (.int (Int32.ofInt x)) = .int (Int32.ofInt x)
  | some (.inr (.inl _)) => decode k.2.1 pc = .ok (.lreturn, 1) ∧ k.2.2.2 = some .long
  | some (.inr (.inr (.inl _))) => decode k.2.1 pc = .ok (.areturn, 1) ∧ ∃ n, k.2.2.2 = some (.object n)
  | some (.inr (.inr (.inr (.inl _)))) => decode k.2.1 pc = .ok (.freturn, 1) ∧ k.2.2.2 = some .float
  | some (.inr (.inr (.inr (.inr _)))) => decode k.2.1 pc = .ok (.dreturn, 1) ∧ k.2.2.2 = some .double
def CX (g : GG) (a : AD) (k : MT) (R : Room) (p : Program) (l : Launch) (e : Env) (s : State) (m : MethodId) (args : Array Value) (below : List Frame) (meth : Method) (c : Code) (Z : State → Prop) (Q : Option AV → GW → Prop) : Prop :=
  p.tables.exec = Jvm.exec ∧ c.code = k.2.1 ∧ c.maxLocals = k.2.2.1 ∧ s.vm.findClass k.1.cls = some m.cls ∧ (∀ w ∈ gW, w.before args s = true) ∧ KX g s ∧ (k.1.name = "<init>" → meth.name = "<init>") ∧ a.2 + 1 ≤ s.heap.size ∧
  ∀ (pc : Nat) (r : Option AV) (u : GW) (H : Heap) (locs : List Loc) (ls : Array Slot) (d0 : Drawn) (cu su : Nat), cu ≤ R.cells → su ≤ R.slots → RA k pc r → Q r u → s.drawn.sameBut d0 lw_cs → HX g a s H locs u →
    W p l e R (s.setDrawn d0) m args below meth c H locs cu su Z (F0 m pc ls (r.toList.map (dn a)))
/-- from here on the method goes to its end with Q -/
def V (k : MT) (R : Room) (cu su : Nat) (pc : Nat) (L : List (Option AV)) (st : List AV) (u : GW) (Q : Option AV → GW → Prop) : Prop :=
  ∀ (g : GG) (a : AD) (p : Program) (l : Launch) (e : Env) (s : State) (m : MethodId) (args : Array Value) (below : List Frame) (meth : Method) (c : Code) (Z : State → Prop), CX g a k R p l e s m args below meth c Z Q →
  ∀ (H : Heap) (locs : List Loc) (ls : Array Slot) (d0 : Drawn), s.drawn.sameBut d0 lw_cs → lm a ls k.2.2.1 L → HX g a s H locs u →
    W p l e R (s.setDrawn d0) m args below meth c H locs cu su Z (F0 m pc ls (st.map (dn a)))
def wsM (k : MT) : List Cond := .code k.1 k.2.1 k.2.2.1 k.2.2.2 :: gW
def PM (g : GG) (a : AD) (u : GW) : State → Prop := fun U => HR g a U u U.heap ∧ KX g U
def QM (g : GG) (a : AD) (Q : Option AV → GW → Prop) : Array Value → State → Outcome → State → Prop := fun _ st oc t =>
  (∃ (r : Option AV) (u : GW), oc = .returned (r.map (dn a)) ∧ Q r u ∧ HR g a t u t.heap) ∧ va_F (fun q => a.2 < q) st t
/-- the contract -/
def M (k : MT) (R : Room) (av : List AV) (u : GW) (Q : Option AV → GW → Prop) : Prop :=
  ∀ (l : Launch) (g : GG) (a : AD), MetD lw_cs l k.1 (wsM k) R (va_Pc (av.map (dn a)) (PM g a u)) (QM g a Q) R.cells R.slots (fun q => a.2 < q)
/-- the locals at the entry -/
def lent : List AV → List (Option AV)
  | [] => []
  | v :: r => if ct v = 2 then some v :: none :: lent r else some v :: lent r
theorem lent_args {a : AD} : ∀ (vs : List AV) (b i : Nat) (v : AV), (lent vs)[i]? = some (some v) → (b + i, dn a v) ∈ lv_args b (vs.map (dn a))
  | [], b, i, v, h => by simp [lent] at h
  | w :: r, b, i, v, h => by
    simp only [List.map_cons, lv_args, dn_cat]
    by_cases hc : ct w = 2
    · simp only [lent, hc, if_true] at h ⊢
      match i, h with
      | 0, h =>
        have e : w = v := by simpa using h
        subst e
        exact List.mem_cons_self
      | 1, h => simp at h
      | i + 2, h =>
        have := lent_args (a := a) r (b + 2) i v (by simpa using h)
        rw [show b + (i + 2) = b + 2 + i by omega]
        exact List.mem_cons_of_mem _ this
    · simp only [lent, hc, if_false] at h ⊢
      match i, h with
      | 0, h =>
        have e : w = v := by simpa using h
        subst e
        exact List.mem_cons_self
      | i + 1, h =>
        have := lent_args (a := a) r (b + 1) i v (by simpa using h)
        rw [show b + (i + 1) = b + 1 + i by omega]
        exact List.mem_cons_of_mem _ this
theorem lent_len {a : AD} : ∀ (vs : List AV), (lg_sl (vs.map (dn a))).length = (lent vs).length
  | [] => rfl
  | w :: r => by
    have ih := lent_len (a := a) r
    simp only [lg_sl, List.map_cons, List.flatMap_cons, dn_cat] at ih ⊢
    by_cases hc : ct w = 2
    · simp [lent, hc, ih]
    · simp [lent, hc, ih]
theorem lm.enter {a : AD} (vs : List AV) (n : Nat) (h : (lent vs).length ≤ n) : lm a ((lg_sl (vs.map (dn a)) ++ List.replicate (n - (lg_sl (vs.map (dn a))).length) Slot.unset).toArray) n (lent vs ++ List.replicate (n - (lent vs).length) none) := by
  have h1 := lv_entry (vs.map (dn a)) (n := n) (by rw [lent_len]; exact h)
  refine ⟨by simp; omega, h1.1, h1.2.1, fun i v hi => ?_⟩
  have h2 : (lent vs)[i]? = some (some v) := by
    by_cases hl : i < (lent vs).length
    · rwa [List.getElem?_append_left hl] at hi
    · rw [List.getElem?_append_right (by omega)] at hi
      rw [List.getElem?_replicate] at hi
      split at hi <;> simp at hi
  have h3 := lent_args (a := a) vs 0 i v h2
  rw [Nat.zero_add] at h3
  exact h1.2.2 _ h3
/-- the entry: from the walk to the contract -/
theorem M_of_V {k : MT} {R : Room} {av : List AV} {u : GW} {Q : Option AV → GW → Prop} (hpn : plainName k.1.cls = true) (hn : (lent av).length ≤ k.2.2.1)
    (h : V k R 0 0 0 (lent av ++ List.replicate (k.2.2.1 - (lent av).length) none) [] u Q) : M k R av u Q := by
  intro l g a
  refine MetD.ofW (cc := k.2.1) (maxL := k.2.2.1) (ret := k.2.2.2) hpn rfl ?_
  intro p e s m args below meth c s₁ B hml hv hd0
  obtain ⟨rfl, hHR, hKX⟩ := hv
  have hts := atoms_spec (ws := wsM k) B.pre
  have hnm : k.1.name = "<init>" → meth.name = "<init>" := fun h1 => (name_of_methodNamed B.named B.method).1.trans h1
  have hr := B.returns
  have hlocks := B.notSynchronized
  rw [lg_entry_eq]
  refine h g a p l e s m _ below meth c _ ⟨B.exec, B.bytes, hml, findClass_of_methodNamed B.named, fun w hw => hts w (List.mem_cons_of_mem _ hw), hKX, hnm, by have := hHR.1; omega, ?_⟩ s.heap [] _ s.drawn hd0 (lm.enter av _ hn) ⟨va_S.rf, hHR⟩
  intro pc r u1 H locs ls d0 cu su hcu hsu hRA hQ hd hH
  refine W.widen hcu hsu (W.endD hd ?_)
  have hq : ∀ t : State, t.heap = H → (s.setDrawn d0).WarmedH t.vm → QM g a Q (av.map (dn a)).toArray (s.setDrawn d0) (.returned (r.map (dn a))) t := by
    intro t ht hW
    exact ⟨⟨r, u1, rfl, hQ, by rw [ht]; exact hH.2.vm hW.alike⟩, hH.1.F (s := s) ht⟩
  rcases r with _ | x | x | r | x | x
  · exact W.vret B.exec B.bytes (by rw [hr]; exact hRA.2) hq hH.1.2.2 hRA.1 hlocks
  · obtain ⟨h1, ty, h2, h3⟩ := hRA
    exact W.zret B.exec B.bytes (by rw [hr]; exact h2) h3 hq hH.1.2.2 h1 hlocks
  · exact W.lret B.exec B.bytes (by rw [hr]; exact hRA.2) hq hH.1.2.2 hRA.1 hlocks
  · obtain ⟨h1, n, h2⟩ := hRA
    exact W.aret B.exec B.bytes (by rw [hr]; exact h2) (Or.inl ⟨n, rfl⟩) (by cases r <;> simp [dn, va_rf]) hq hH.1.2.2 h1 hlocks
  · exact W.fret B.exec B.bytes (by rw [hr]; exact hRA.2) hq hH.1.2.2 hRA.1 hlocks
  · exact W.dret B.exec B.bytes (by rw [hr]; exact hRA.2) hq hH.1.2.2 hRA.1 hlocks
