/-! the curve's reader -/
abbrev K3 : Type := Int × Int × Int
abbrev KR : Type := Int ⊕ (Int × K3)
def mdS (l : Int) : Int := if l = 84 then 1 else if l = 76 then 2 else if l = 67 then 4 else if l = 77 then 5 else if l = 72 then 6 else if l = 65 then 3 else -1
theorem mdS_n {l : Int} (h : l ≠ 84 ∧ l ≠ 76 ∧ l ≠ 67 ∧ l ≠ 77 ∧ l ≠ 72 ∧ l ≠ 65) : mdS l = -1 := by
  unfold mdS
  rw [if_neg h.1, if_neg h.2.1, if_neg h.2.2.1, if_neg h.2.2.2.1, if_neg h.2.2.2.2.1, if_neg h.2.2.2.2.2]
theorem mdS_b (l : Int) : mdS l = -1 ∨ (1 ≤ mdS l ∧ mdS l ≤ 6) := by
  unfold mdS
  repeat' split
  all_goals omega
def mdV (T : Int → Int) (len : Int) (t : Int ⊕ Int) : Int := match t with
  | .inl _ => 3
  | .inr p => if mdS (hT T len p) = -1 then 3 else mdS (hT T len p)
def mdT (T : Int → Int) (len : Int) (t : Int ⊕ Int) : Int ⊕ Int := match t with
  | .inl q => .inl q
  | .inr p => if mdS (hT T len p) = -1 then .inr p else .inr (p + 1)
theorem md_y {T : Int → Int} {len p m : Int} (h : mdS (hT T len p) = m) (hm : m ≠ -1) : m = mdV T len (.inr p) ∧ mdT T len (.inr p) = .inr (p + 1) := by
  subst h
  exact ⟨(if_neg hm).symm, if_neg hm⟩
theorem md_n {T : Int → Int} {len : Int} {t : Int ⊕ Int} (h : ∀ p, t = .inr p → mdS (hT T len p) = -1) : mdV T len t = 3 ∧ mdT T len t = t := by
  rcases t with q | p
  · exact ⟨rfl, rfl⟩
  · exact ⟨if_pos (h p rfl), if_pos (h p rfl)⟩
theorem mdV_b {T : Int → Int} {len : Int} {t : Int ⊕ Int} : 1 ≤ mdV T len t ∧ mdV T len t ≤ 6 := by
  rcases t with q | p
  · show (1 : Int) ≤ 3 ∧ (3 : Int) ≤ 6; omega
  · have := mdS_b (hT T len p)
    unfold mdV
    dsimp only
    split <;> omega
def nf (T : Int → Int) (len : Int) (t : Int ⊕ Int) : Int := match t with
  | .inl _ => 0
  | .inr p => nvD T p (rnD T len p).toNat
def ps (t : Int ⊕ Int) : Int := match t with
  | .inl q => q
  | .inr p => p
def key2 (T : Int → Int) (len last : Int) (t : Int ⊕ Int) : Int ⊕ Int := if nf T len t > 480 ∨ nf T len t ≤ last then flT (ps t) (nuT T len t) else nuT T len t
def mnT (T : Int → Int) (len : Int) (t : Int ⊕ Int) : Int ⊕ Int := match t with
  | .inl q => .inl q
  | .inr p => if hT T len p = 45 then .inr (p + 1) else .inr p
def sgT (T : Int → Int) (len : Int) (t : Int ⊕ Int) : Int := match t with
  | .inl _ => 1
  | .inr p => if hT T len p = 45 then -1 else 1
theorem sgT_b {T : Int → Int} {len : Int} {t : Int ⊕ Int} : sgT T len t = 1 ∨ sgT T len t = -1 := by
  rcases t with q | p
  · exact Or.inl rfl
  · show (if _ then _ else _) = _ ∨ (if _ then _ else _) = _
    split
    · exact Or.inr rfl
    · exact Or.inl rfl
def mkK (t : Int ⊕ Int) (k : K3) : KR := match t with
  | .inl q => .inl q
  | .inr p => .inr (p, k)
def keyR (T : Int → Int) (len last : Int) (t : Int ⊕ Int) : KR := mkK (mdT T len (nuT T len (mnT T len (exT T len 58 (key2 T len last t))))) (nf T len t, sgT T len (exT T len 58 (key2 T len last t)) * nf T len (mnT T len (exT T len 58 (key2 T len last t))), mdV T len (nuT T len (mnT T len (exT T len 58 (key2 T len last t)))))
def pK (r : KR) : Int ⊕ Int := match r with
  | .inl q => .inl q
  | .inr (q, _) => .inr q
def ck (r : KR) : List K3 := match r with
  | .inl _ => []
  | .inr (_, k) => [k]
theorem pK_mk {t : Int ⊕ Int} {k : K3} : pK (mkK t k) = t := by
  rcases t with q | p <;> rfl
theorem keyR_p {T : Int → Int} {len last : Int} {t : Int ⊕ Int} : pK (keyR T len last t) = mdT T len (nuT T len (mnT T len (exT T len 58 (key2 T len last t)))) := pK_mk
theorem pK_inr {r : KR} {q : Int} (h : pK r = .inr q) : ∃ k, r = .inr (q, k) := by
  rcases r with a | ⟨a, k⟩
  · cases h
  · cases h; exact ⟨k, rfl⟩
theorem mn_y {T : Int → Int} {len r : Int} {t : Int ⊕ Int} {w : Wd} (h : ACCP T len 45 t r w) (hr : r ≠ 0) : sgT T len t = -1 ∧ mnT T len t = mnT T len t ∧ TS w T len (mnT T len t) := by
  rcases h with ⟨p, q1, q2, q3, q4⟩ | ⟨q1, q2, q3⟩
  · subst q1
    exact ⟨if_pos q2, rfl, by rw [show mnT T len (.inr p) = .inr (p + 1) from if_pos q2]; exact q4⟩
  · omega
theorem mn_n {T : Int → Int} {len r : Int} {t : Int ⊕ Int} {w : Wd} (h : ACCP T len 45 t r w) (hr : r = 0) : sgT T len t = 1 ∧ mnT T len t = mnT T len t ∧ TS w T len (mnT T len t) := by
  rcases h with ⟨p, q1, q2, q3, q4⟩ | ⟨q1, q2, q3⟩
  · omega
  · rcases t with q | p
    · exact ⟨rfl, rfl, q3⟩
    · exact ⟨if_neg (q1 p rfl), rfl, by rw [show mnT T len (.inr p) = .inr p from if_neg (q1 p rfl)]; exact q3⟩
def lastF (L : List K3) : Int := match L.getLast? with
  | none => -1
  | some x => x.1
theorem lastF_0 : lastF [] = -1 := rfl
theorem lastF_s {L : List K3} {k : K3} : lastF (L ++ [k]) = k.1 := by
  unfold lastF
  rw [List.getLast?_concat]
theorem lastF_i {L : List K3} {i : Nat} {x : K3} (h : L[i]? = some x) (hl : i + 1 = L.length) : lastF L = x.1 := by
  unfold lastF
  rw [List.getLast?_eq_getElem?, show L.length - 1 = i by omega, h]
def okL (L : List K3) : Prop := (∀ (i : Nat) (x : K3), L[i]? = some x → 0 ≤ x.1 ∧ x.1 ≤ 480 ∧ -999 ≤ x.2.1 ∧ x.2.1 ≤ 999 ∧ 0 ≤ x.2.2 ∧ x.2.2 ≤ 6 ∧ x.1 ≤ lastF L) ∧ ∀ (i j : Nat) (x y : K3), i < j → L[i]? = some x → L[j]? = some y → x.1 < y.1
def KCT (w : Wd) (t : Int ⊕ Int) (L : List K3) (n : Nat) : Prop := match t with
  | .inl _ => 0 ≤ w 363 0 ∧ w 363 0 ≤ n
  | .inr _ => w 363 0 = L.length ∧ L.length ≤ n ∧ okL L ∧ ∀ (i : Nat) (x : K3), L[i]? = some x → w 364 i = x.1 ∧ w 365 i = x.2.1 ∧ w 366 i = x.2.2 ∧ w 367 i = 0 ∧ w 368 i = 0
def FRK (w w2 : Wd) : Prop := (∀ i, i ≠ 356 → (i < 363 ∨ 368 < i) → w2 i = w i) ∧ ∀ j, j ≠ 1 → j ≠ 2 → w2 356 j = w 356 j
theorem FRT.k {w w2 : Wd} (h : FRT w w2) : FRK w w2 := ⟨fun i a _ => h.1 i a, h.2⟩
theorem FRM.k {w w2 : Wd} (h : FRM 363 w w2) : FRK w w2 := ⟨fun i _ b => h i (by omega), fun j _ _ => by rw [h 356 (by omega)]⟩
theorem FRK_0 {w : Wd} : FRK w (up w 363 0 0) := ⟨fun i _ b => up_ne (by omega), fun j _ _ => by rw [up_ne (by omega)]⟩
theorem FRK.tr {w w1 w2 : Wd} (h : FRK w w1) (g : FRK w1 w2) : FRK w w2 := ⟨fun i hi b => (g.1 i hi b).trans (h.1 i hi b), fun j a b => (g.2 j a b).trans (h.2 j a b)⟩
theorem KCT.n {w : Wd} {t : Int ⊕ Int} {L : List K3} {n : Nat} (h : KCT w t L n) : 0 ≤ w 363 0 ∧ w 363 0 ≤ n := by
  rcases t with q | p
  · exact h
  · have h : w 363 0 = L.length ∧ L.length ≤ n ∧ _ := h
    omega
theorem KCT.kp {w w2 : Wd} {t : Int ⊕ Int} {L : List K3} {n : Nat} (h : KCT w t L n) (f : FRT w w2) : KCT w2 t L n := by
  have e : ∀ i, i ≠ 356 → w2 i = w i := f.1
  rcases t with q | p
  · show 0 ≤ w2 363 0 ∧ _
    rw [e 363 (by omega)]; exact h
  · obtain ⟨h1, h2, h3, h4⟩ := h
    exact ⟨by rw [e 363 (by omega)]; exact h1, h2, h3, fun i x hx => by rw [e 364 (by omega), e 365 (by omega), e 366 (by omega), e 367 (by omega), e 368 (by omega)]; exact h4 i x hx⟩
theorem KCT.le {w : Wd} {t : Int ⊕ Int} {L : List K3} {n m : Nat} (h : KCT w t L n) (e : n ≤ m) : KCT w t L m := by
  rcases t with q | p
  · have h : 0 ≤ w 363 0 ∧ w 363 0 ≤ n := h
    exact ⟨h.1, by omega⟩
  · obtain ⟨h1, h2, h3⟩ := h
    exact ⟨h1, by omega, h3⟩
theorem k2_last {w : Wd} {t : Int ⊕ Int} {L : List K3} {n : Nat} {p : Int} (h : KCT w t L n) (hp : t = .inr p) (h0 : ¬ w 363 0 ≤ 0) : w 364 (w 363 0 - 1) = lastF L := by
  subst hp
  obtain ⟨h1, h2, h3, h4⟩ := h
  obtain ⟨x, hx⟩ : ∃ x, L[L.length - 1]? = some x := ⟨L[L.length - 1]'(by omega), List.getElem?_eq_getElem (by omega)⟩
  rw [lastF_i hx (by omega), ← (h4 _ x hx).1, h1]
  congr 1
  omega
theorem k2_l0 {w : Wd} {t : Int ⊕ Int} {L : List K3} {n : Nat} {p f : Int} (h : KCT w t L n) (hp : t = .inr p) (h0 : w 363 0 ≤ 0) (hf : 0 ≤ f) : ¬ f ≤ lastF L := by
  subst hp
  obtain ⟨h1, h2, h3, h4⟩ := h
  have : L = [] := List.length_eq_zero_iff.mp (by omega)
  rw [this, lastF_0]
  omega
theorem k2_n {w : Wd} {T : Int → Int} {len : Int} {t : Int ⊕ Int} {L : List K3} {n : Nat} {f : Int} (h : KCT w t L n) (hf : 0 ≤ f ∧ f ≤ 999) (hv : ∀ p, t = .inr p → 1 ≤ rnD T len p ∧ rnD T len p ≤ 3 → f = nvD T p (rnD T len p).toNat) (h8 : f ≤ 480) (hl : ∀ p, t = .inr p → ¬ f ≤ lastF L) : key2 T len (lastF L) t = nuT T len t := by
  unfold key2
  rcases t with q | p
  · show (if _ then _ else _) = _
    split <;> rfl
  · by_cases z : 1 ≤ rnD T len p ∧ rnD T len p ≤ 3
    · have e := hv p rfl z
      have e2 := hl p rfl
      exact if_neg (by show ¬ (nvD T p (rnD T len p).toNat > 480 ∨ nvD T p (rnD T len p).toNat ≤ lastF L); omega)
    · rw [show nuT T len (.inr p) = .inl p from if_neg z]
      split <;> rfl
theorem TS.ps {w : Wd} {T : Int → Int} {len : Int} {p : Int} (h : TS w T len (.inr p)) : w 356 1 = p := h.2.2.2.2.2.2
theorem k2_f {w : Wd} {T : Int → Int} {len last : Int} {t : Int ⊕ Int} {f : Int} (h : TS w T len t) (hf : 0 ≤ f ∧ f ≤ 999) (hv : ∀ p, t = .inr p → 1 ≤ rnD T len p ∧ rnD T len p ≤ 3 → f = nvD T p (rnD T len p).toNat) (hl : ∀ p, t = .inr p → f > 480 ∨ f ≤ last) : flT (w 356 1) (nuT T len t) = key2 T len last t := by
  unfold key2
  rcases t with q | p
  · show _ = (if _ then _ else _)
    split <;> rfl
  · by_cases z : 1 ≤ rnD T len p ∧ rnD T len p ≤ 3
    · have e := hv p rfl z
      have e2 := hl p rfl
      rw [h.ps]
      exact (if_pos (by show nvD T p (rnD T len p).toNat > 480 ∨ nvD T p (rnD T len p).toNat ≤ last; omega)).symm
    · rw [show nuT T len (.inr p) = .inl p from if_neg z]
      split <;> rfl
theorem mk_inr {t : Int ⊕ Int} {k k2 : K3} {q : Int} (h : mkK t k = .inr (q, k2)) : t = .inr q ∧ k2 = k := by
  rcases t with a | a
  · cases h
  · cases h; exact ⟨rfl, rfl⟩
theorem mdT_inr {T : Int → Int} {len q : Int} {t : Int ⊕ Int} (h : mdT T len t = .inr q) : ∃ p, t = .inr p := by
  rcases t with a | a
  · cases h
  · exact ⟨a, rfl⟩
theorem mnT_inr {T : Int → Int} {len q : Int} {t : Int ⊕ Int} (h : mnT T len t = .inr q) : ∃ p, t = .inr p := by
  rcases t with a | a
  · cases h
  · exact ⟨a, rfl⟩
theorem key2_inr {T : Int → Int} {len last q : Int} {t : Int ⊕ Int} (h : key2 T len last t = .inr q) : ∃ p, t = .inr p ∧ 1 ≤ rnD T len p ∧ rnD T len p ≤ 3 ∧ nf T len t ≤ 480 ∧ last < nf T len t := by
  unfold key2 at h
  by_cases z : nf T len t > 480 ∨ nf T len t ≤ last
  · rw [if_pos z] at h
    rcases hn : nuT T len t with a | a
    · rw [hn] at h; cases h
    · rw [hn] at h; cases h
  · rw [if_neg z] at h
    obtain ⟨p, y1, y2, y3, y4⟩ := nu_inr h
    exact ⟨p, y1, y4.1, y4.2, by omega, by omega⟩
/-- a key that was read: what its numbers are -/
theorem keyR_in {T : Int → Int} {len last q : Int} {t : Int ⊕ Int} {k : K3} (h : keyR T len last t = .inr (q, k)) : ∃ p p4, t = .inr p ∧ (1 ≤ rnD T len p ∧ rnD T len p ≤ 3) ∧ nf T len t ≤ 480 ∧ last < nf T len t ∧ mnT T len (exT T len 58 (key2 T len last t)) = .inr p4 ∧ (1 ≤ rnD T len p4 ∧ rnD T len p4 ≤ 3) ∧ k = (nf T len t, sgT T len (exT T len 58 (key2 T len last t)) * nf T len (mnT T len (exT T len 58 (key2 T len last t))), mdV T len (nuT T len (mnT T len (exT T len 58 (key2 T len last t))))) := by
  obtain ⟨h1, h2⟩ := mk_inr h
  obtain ⟨a, ha⟩ := mdT_inr h1
  obtain ⟨p4, b1, b2, b3, b4⟩ := nu_inr ha
  obtain ⟨c, hc⟩ := mnT_inr b1
  obtain ⟨e, he, -⟩ := ex_inr2 hc
  obtain ⟨p, g1, g2, g3, g4, g5⟩ := key2_inr he
  exact ⟨p, p4, g1, ⟨g2, g3⟩, g4, g5, b1, b4, h2⟩
theorem okL_s {L : List K3} {k : K3} (h : okL L) (hk : 0 ≤ k.1 ∧ k.1 ≤ 480 ∧ -999 ≤ k.2.1 ∧ k.2.1 ≤ 999 ∧ 0 ≤ k.2.2 ∧ k.2.2 ≤ 6) (hl : lastF L < k.1) : okL (L ++ [k]) := by
  obtain ⟨h1, h2⟩ := h
  have g : ∀ (i : Nat) (x : K3), (L ++ [k])[i]? = some x → (i < L.length ∧ L[i]? = some x) ∨ (i = L.length ∧ x = k) := fun i x hx => by
    rcases Nat.lt_or_ge i L.length with z | z
    · rw [List.getElem?_append_left z] at hx; exact Or.inl ⟨z, hx⟩
    · rw [List.getElem?_append_right z] at hx
      rcases Nat.eq_zero_or_pos (i - L.length) with y | y
      · rw [y] at hx
        have : k = x := by simpa using hx
        exact Or.inr ⟨by omega, this.symm⟩
      · rw [List.getElem?_eq_none (by simp; omega)] at hx; cases hx
  refine ⟨fun i x hx => ?_, fun i j x y hij hx hy => ?_⟩
  · rw [lastF_s]
    rcases g i x hx with ⟨z, hz⟩ | ⟨z, hz⟩
    · have := h1 i x hz
      omega
    · subst hz
      omega
  · rcases g j y hy with ⟨z, hz⟩ | ⟨z, hz⟩
    · rcases g i x hx with ⟨z2, hz2⟩ | ⟨z2, hz2⟩
      · exact h2 i j x y hij hz2 hz
      · omega
    · rcases g i x hx with ⟨z2, hz2⟩ | ⟨z2, hz2⟩
      · have := h1 i x hz2
        rw [hz]
        omega
      · omega
theorem key_end {w w1 w2 : Wd} {T : Int → Int} {len f s v m k0 : Int} {t t4 : Int ⊕ Int} {L : List K3} {n : Nat} (hC : KCT w t L n) (hn : n ≤ 23) (hf : 0 ≤ f ∧ f ≤ 999) (hfv : ∀ p, t = .inr p → 1 ≤ rnD T len p ∧ rnD T len p ≤ 3 → f = nvD T p (rnD T len p).toNat) (hs : s = sgT T len (exT T len 58 (key2 T len (lastF L) t))) (ht4 : t4 = mnT T len (exT T len 58 (key2 T len (lastF L) t))) (hv : ∀ p, t4 = .inr p → 1 ≤ rnD T len p ∧ rnD T len p ≤ 3 → v = nvD T p (rnD T len p).toNat) (hsv : -999 ≤ s * v ∧ s * v ≤ 999) (hm : m = mdV T len (nuT T len t4)) (F : FRT w w1) (b : KB (w1 363 0) (w1 (363 + 1)) f k0) (g : FRM 363 w1 w2) (e : CEQ (cx w2 363) (insX (cx w1 363) k0 (v5 f (s * v) m 0 0))) : KCT w2 (pK (keyR T len (lastF L) t)) (L ++ ck (keyR T len (lastF L) t)) (n + 1) := by
  have c0 : w2 363 0 = w1 363 0 + 1 := e.1
  have c1 : w1 363 0 = w 363 0 := by rw [F.1 363 (by omega)]
  have cn := hC.n
  rcases hr : keyR T len (lastF L) t with q | ⟨q, k⟩
  · show 0 ≤ w2 363 0 ∧ w2 363 0 ≤ ((n + 1 : Nat) : Int)
    omega
  · obtain ⟨p, p4, z1, z2, z3, z4, z5, z6, z7⟩ := keyR_in hr
    subst z1
    obtain ⟨h1, h2, h3, h4⟩ := hC
    have ef : nf T len (.inr p) = f := (hfv p rfl z2).symm
    rw [← ht4] at z5 z7
    have ev : nf T len t4 = v := by rw [z5]; exact (hv p4 z5 z6).symm
    rw [ef, ← hs, ev, ← hm] at z7
    rw [ef] at z3 z4
    subst z7
    have mb := mdV_b (T := T) (len := len) (t := nuT T len t4)
    rw [← hm] at mb
    have ek : k0 = L.length := by
      refine KB_one b ⟨by omega, by omega, fun j j0 j1 => ?_, fun h => by omega⟩
      obtain ⟨x, hx⟩ : ∃ x, L[j.toNat]? = some x := ⟨L[j.toNat]'(by omega), List.getElem?_eq_getElem (by omega)⟩
      have a := h4 j.toNat x hx
      have a2 := h3.1 j.toNat x hx
      rw [show ((j.toNat : Nat) : Int) = j by omega] at a
      rw [show w1 (363 + 1) = w 364 from F.1 364 (by omega), a.1]
      omega
    subst ek
    have rows : ∀ r, 1 ≤ r → r ≤ 5 → ∀ j, 0 ≤ j → j < w1 363 0 + 1 → w2 (363 + r) j = insX (cx w1 363) L.length (v5 f (s * v) m 0 0) r j := fun r a b j j0 j1 => e.row a b j0 (by rw [e.1]; exact j1)
    refine ⟨by rw [List.length_append]; show w2 363 0 = ((L.length + 1 : Nat) : Int); omega, by rw [List.length_append]; show L.length + 1 ≤ n + 1; omega, okL_s h3 ⟨hf.1, z3, hsv.1, hsv.2, by show 0 ≤ m; omega, by show m ≤ 6; omega⟩ z4, fun i x hx => ?_⟩
    rcases Nat.lt_or_ge i L.length with z | z
    · have hx : (L ++ [(f, s * v, m)])[i]? = some x := hx
      rw [List.getElem?_append_left z] at hx
      have a := h4 i x hx
      have lt : ((i : Nat) : Int) < (L.length : Nat) := by omega
      have r := fun r a b => (rows r a b i (by omega) (by omega)).trans (insX_lt a lt)
      rw [← F.1 364 (by omega), ← F.1 365 (by omega), ← F.1 366 (by omega), ← F.1 367 (by omega), ← F.1 368 (by omega)] at a
      exact ⟨(r 1 (by omega) (by omega)).trans a.1, (r 2 (by omega) (by omega)).trans a.2.1, (r 3 (by omega) (by omega)).trans a.2.2.1, (r 4 (by omega) (by omega)).trans a.2.2.2.1, (r 5 (by omega) (by omega)).trans a.2.2.2.2⟩
    · have hx : (L ++ [(f, s * v, m)])[i]? = some x := hx
      rw [List.getElem?_append_right z] at hx
      rcases Nat.eq_zero_or_pos (i - L.length) with y | y
      · rw [y] at hx
        have hx : (f, s * v, m) = x := by simpa using hx
        subst hx
        have ei : i = L.length := by omega
        subst ei
        have r := fun r a b => (rows r a b L.length (by omega) (by omega)).trans (insX_eq a)
        exact ⟨r 1 (by omega) (by omega), r 2 (by omega) (by omega), r 3 (by omega) (by omega), r 4 (by omega) (by omega), r 5 (by omega) (by omega)⟩
      · rw [List.getElem?_eq_none (by simp; omega)] at hx; cases hx
/-- the keys that follow -/
def crL (T : Int → Int) (len : Int) : Nat → KR → List K3 → Int ⊕ (Int × List K3)
  | _, .inl q, _ => .inl q
  | 0, .inr (q, k), L => .inr (q, L ++ [k])
  | m + 1, .inr (q, k), L => if hT T len q = 44 then crL T len m (keyR T len (lastF (L ++ [k])) (.inr (q + 1))) (L ++ [k]) else .inr (q, L ++ [k])
def crF0 (r : KR) (L : List K3) : Int ⊕ (Int × List K3) := match r with
  | .inl q => .inl q
  | .inr (q, k) => .inr (q, L ++ [k])
def crA (T : Int → Int) (len : Int) : Int ⊕ (Int × List K3) := crL T len 23 (keyR T len (-1) (.inr 0)) []
def crS (T : Int → Int) (len : Int) : Int ⊕ List K3 := match crA T len with
  | .inl q => .inl q
  | .inr (q, L) => if hT T len q = 59 then (if q + 1 < len then .inl (q + 1) else .inr L) else .inl q
theorem crL_0 {T : Int → Int} {len : Int} {r : KR} {L : List K3} : crL T len 0 r L = crF0 r L := by
  rcases r with q | ⟨q, k⟩ <;> rfl
theorem crL_s {T : Int → Int} {len q : Int} {m : Nat} {k : K3} {L : List K3} (h : hT T len q = 44) : crL T len (m + 1) (.inr (q, k)) L = crL T len m (keyR T len (lastF (L ++ [k])) (.inr (q + 1))) (L ++ [k]) := if_pos h
theorem crL_n {T : Int → Int} {len : Int} {m : Nat} {r : KR} {L : List K3} (h : ∀ p, pK r = .inr p → hT T len p ≠ 44) : crL T len (m + 1) r L = crF0 r L := by
  rcases r with q | ⟨q, k⟩
  · rfl
  · exact if_neg (h q rfl)
def RDK (w : Wd) (T : Int → Int) (len r : Int) : Prop := (∃ q, crS T len = .inl q ∧ r = q ∧ 0 ≤ q ∧ q ≤ 120) ∨ (∃ L, crS T len = .inr L ∧ r = -1000000005 ∧ w 363 0 = L.length ∧ L.length ≤ 24 ∧ okL L ∧ ∀ (i : Nat) (x : K3), L[i]? = some x → w 364 i = x.1 ∧ w 365 i = x.2.1 ∧ w 366 i = x.2.2 ∧ w 367 i = 0 ∧ w 368 i = 0)
theorem rdk_end {w w1 : Wd} {T : Int → Int} {len x : Int} {r : KR} {L : List K3} (hr : crA T len = crF0 r L) (hC : KCT w (pK r) (L ++ ck r) 24) (e : TS w1 T len (exT T len 59 (pK r))) (h : x = vdT len (exT T len 59 (pK r))) : RDK w T len x := by
  have n := e.n
  rcases r with q | ⟨q, k⟩
  · have h : x = q := h
    have e2 := e.2.2.2.2.2
    have e2 : w1 356 2 = q ∧ 0 ≤ q ∧ q ≤ len := e2
    have e3 := e.2.2.1
    refine Or.inl ⟨q, ?_, h, by omega, by omega⟩
    unfold crS
    rw [hr]; rfl
  · have hr : crA T len = .inr (q, L ++ [k]) := hr
    by_cases z : hT T len q = 59
    · rw [show exT T len 59 (pK (.inr (q, k))) = .inr (q + 1) from exT_y z] at h n
      have n := n (q + 1) rfl
      by_cases y : q + 1 < len
      · have h : x = q + 1 := h.trans (if_pos y)
        refine Or.inl ⟨q + 1, ?_, h, by omega, by omega⟩
        unfold crS
        rw [hr]
        show (if _ then _ else _) = _
        rw [if_pos z, if_pos y]
      · have h : x = -1000000005 := h.trans (if_neg y)
        refine Or.inr ⟨L ++ [k], ?_, h, hC.1, hC.2.1, hC.2.2.1, hC.2.2.2⟩
        unfold crS
        rw [hr]
        show (if _ then _ else _) = _
        rw [if_pos z, if_neg y]
    · rw [show exT T len 59 (pK (.inr (q, k))) = .inl q from exT_n z] at h e
      have h : x = q := h
      have e2 : w1 356 2 = q ∧ 0 ≤ q ∧ q ≤ len := e.2.2.2.2.2
      have e3 := e.2.2.1
      refine Or.inl ⟨q, ?_, h, by omega, by omega⟩
      unfold crS
      rw [hr]
      show (if _ then _ else _) = _
      rw [if_neg z]
set_option maxRecDepth 8000 in
theorem m_X1_mode {Q : Option AV → Wd → Prop} {w : Wd} (d : Nat) {T : Int → Int} {len : Int} {t : Int ⊕ Int} (hd : 3 ≤ d) (hw : WR w) (hS : TS w T len t) (hQ : ∀ r w2, r = mdV T len t → TS w2 T len (mdT T len t) → FRT w w2 → WR w2 → Q (some (vI r)) w2) : M mX1_mode (Rm d) [vR (some 356)] (fl w) (lQ Q) := by
  refine f_mofv (L0 := [some (vR (some 356))]) rfl (Nat.le_of_ble_eq_true rfl) rfl ?_
  refine r_aload_n (pc := 0) dX1_mode_0 rfl ?_
  refine r_bipush (pc := 1) (n := 84) dX1_mode_1 (by decide) ?_
  refine c_X1_31 (pc := 3) rfl dX1_mode_3 (by first | assumption | rfl) (by omega) (Nat.le_of_ble_eq_true rfl) ?_
  refine a_accept (d - 1) (by omega) (by assumption) hS (by omega) (fun r3 w3 b3 e3 f3 hw3 => ?_)
  refine r_ifeq (pc := 6) (tgt := 11) dX1_mode_6 rfl (by omega) (fun h6 => ?_) (fun h6 => ?_)
  · have E3 : (∀ p, t = .inr p → hT T len p ≠ 84) ∧ TS w3 T len t := by
      rcases e3 with ⟨p, q1, q2, q3, q4⟩ | ⟨q1, q2, q3⟩
      · omega
      · exact ⟨q1, q3⟩
    refine r_aload_n (pc := 11) dX1_mode_11 rfl ?_
    refine r_bipush (pc := 12) (n := 76) dX1_mode_12 (by decide) ?_
    refine c_X1_31 (pc := 14) rfl dX1_mode_14 (by first | assumption | rfl) (by omega) (Nat.le_of_ble_eq_true rfl) ?_
    refine a_accept (d - 1) (by omega) (by assumption) E3.2 (by omega) (fun r14 w14 b14 e14 f14 hw14 => ?_)
    refine r_ifeq (pc := 17) (tgt := 22) dX1_mode_17 rfl (by omega) (fun h17 => ?_) (fun h17 => ?_)
    · have E14 : (∀ p, t = .inr p → hT T len p ≠ 76) ∧ TS w14 T len t := by
        rcases e14 with ⟨p, q1, q2, q3, q4⟩ | ⟨q1, q2, q3⟩
        · omega
        · exact ⟨q1, q3⟩
      refine r_aload_n (pc := 22) dX1_mode_22 rfl ?_
      refine r_bipush (pc := 23) (n := 67) dX1_mode_23 (by decide) ?_
      refine c_X1_31 (pc := 25) rfl dX1_mode_25 (by first | assumption | rfl) (by omega) (Nat.le_of_ble_eq_true rfl) ?_
      refine a_accept (d - 1) (by omega) (by assumption) E14.2 (by omega) (fun r25 w25 b25 e25 f25 hw25 => ?_)
      refine r_ifeq (pc := 28) (tgt := 33) dX1_mode_28 rfl (by omega) (fun h28 => ?_) (fun h28 => ?_)
      · have E25 : (∀ p, t = .inr p → hT T len p ≠ 67) ∧ TS w25 T len t := by
          rcases e25 with ⟨p, q1, q2, q3, q4⟩ | ⟨q1, q2, q3⟩
          · omega
          · exact ⟨q1, q3⟩
        refine r_aload_n (pc := 33) dX1_mode_33 rfl ?_
        refine r_bipush (pc := 34) (n := 77) dX1_mode_34 (by decide) ?_
        refine c_X1_31 (pc := 36) rfl dX1_mode_36 (by first | assumption | rfl) (by omega) (Nat.le_of_ble_eq_true rfl) ?_
        refine a_accept (d - 1) (by omega) (by assumption) E25.2 (by omega) (fun r36 w36 b36 e36 f36 hw36 => ?_)
        refine r_ifeq (pc := 39) (tgt := 44) dX1_mode_39 rfl (by omega) (fun h39 => ?_) (fun h39 => ?_)
        · have E36 : (∀ p, t = .inr p → hT T len p ≠ 77) ∧ TS w36 T len t := by
            rcases e36 with ⟨p, q1, q2, q3, q4⟩ | ⟨q1, q2, q3⟩
            · omega
            · exact ⟨q1, q3⟩
          refine r_aload_n (pc := 44) dX1_mode_44 rfl ?_
          refine r_bipush (pc := 45) (n := 72) dX1_mode_45 (by decide) ?_
          refine c_X1_31 (pc := 47) rfl dX1_mode_47 (by first | assumption | rfl) (by omega) (Nat.le_of_ble_eq_true rfl) ?_
          refine a_accept (d - 1) (by omega) (by assumption) E36.2 (by omega) (fun r47 w47 b47 e47 f47 hw47 => ?_)
          refine r_ifeq (pc := 50) (tgt := 56) dX1_mode_50 rfl (by omega) (fun h50 => ?_) (fun h50 => ?_)
          · have E47 : (∀ p, t = .inr p → hT T len p ≠ 72) ∧ TS w47 T len t := by
              rcases e47 with ⟨p, q1, q2, q3, q4⟩ | ⟨q1, q2, q3⟩
              · omega
              · exact ⟨q1, q3⟩
            refine r_aload_n (pc := 56) dX1_mode_56 rfl ?_
            refine r_bipush (pc := 57) (n := 65) dX1_mode_57 (by decide) ?_
            refine c_X1_31 (pc := 59) rfl dX1_mode_59 (by first | assumption | rfl) (by omega) (Nat.le_of_ble_eq_true rfl) ?_
            refine a_accept (d - 1) (by omega) (by assumption) E47.2 (by omega) (fun r59 w59 b59 e59 f59 hw59 => ?_)
            refine r_pop (pc := 62) dX1_mode_62 rfl ?_
            refine r_iconst (pc := 63) (n := 3) dX1_mode_63 ?_
            exact f_iret (pc := 64) dX1_mode_64 rfl (by assumption) (by
                have G : mdV T len t = 3 ∧ TS w59 T len (mdT T len t) := by
                  rcases e59 with ⟨p, q1, q2, q3, q4⟩ | ⟨q1, q2, q3⟩
                  · subst q1
                    have z := md_y (T := T) (len := len) (p := p) (m := 3) (by rw [q2]; rfl) (by omega)
                    exact ⟨z.1.symm, by rw [z.2]; exact q4⟩
                  · have z := md_n (T := T) (len := len) (t := t) (fun p hp => by have := E3.1 p hp; have := E14.1 p hp; have := E25.1 p hp; have := E36.1 p hp; have := E47.1 p hp; have := q1 p hp; exact mdS_n (by omega))
                    exact ⟨z.1, by rw [z.2]; exact q3⟩
                exact hQ _ _ G.1.symm G.2 (((((f3.tr f14).tr f25).tr f36).tr f47).tr f59) (by assumption))
          have E : ∃ p, t = .inr p ∧ hT T len p = 72 ∧ TS w47 T len (.inr (p + 1)) := by
            rcases e47 with ⟨p, q1, q2, q3, q4⟩ | ⟨q1, q2, q3⟩
            · exact ⟨p, q1, q2, q4⟩
            · omega
          obtain ⟨p, q1, q2, q3⟩ := E
          subst q1
          refine r_bipush (pc := 53) (n := 6) dX1_mode_53 (by decide) ?_
          exact f_iret (pc := 55) dX1_mode_55 rfl (by assumption) (hQ _ _ (md_y (m := 6) (by rw [q2]; rfl) (by omega)).1 (by rw [(md_y (T := T) (len := len) (p := p) (m := 6) (by rw [q2]; rfl) (by omega)).2]; exact q3) ((((f3.tr f14).tr f25).tr f36).tr f47) (by assumption))
        have E : ∃ p, t = .inr p ∧ hT T len p = 77 ∧ TS w36 T len (.inr (p + 1)) := by
          rcases e36 with ⟨p, q1, q2, q3, q4⟩ | ⟨q1, q2, q3⟩
          · exact ⟨p, q1, q2, q4⟩
          · omega
        obtain ⟨p, q1, q2, q3⟩ := E
        subst q1
        refine r_iconst (pc := 42) (n := 5) dX1_mode_42 ?_
        exact f_iret (pc := 43) dX1_mode_43 rfl (by assumption) (hQ _ _ (md_y (m := 5) (by rw [q2]; rfl) (by omega)).1 (by rw [(md_y (T := T) (len := len) (p := p) (m := 5) (by rw [q2]; rfl) (by omega)).2]; exact q3) (((f3.tr f14).tr f25).tr f36) (by assumption))
      have E : ∃ p, t = .inr p ∧ hT T len p = 67 ∧ TS w25 T len (.inr (p + 1)) := by
        rcases e25 with ⟨p, q1, q2, q3, q4⟩ | ⟨q1, q2, q3⟩
        · exact ⟨p, q1, q2, q4⟩
        · omega
      obtain ⟨p, q1, q2, q3⟩ := E
      subst q1
      refine r_iconst (pc := 31) (n := 4) dX1_mode_31 ?_
      exact f_iret (pc := 32) dX1_mode_32 rfl (by assumption) (hQ _ _ (md_y (m := 4) (by rw [q2]; rfl) (by omega)).1 (by rw [(md_y (T := T) (len := len) (p := p) (m := 4) (by rw [q2]; rfl) (by omega)).2]; exact q3) ((f3.tr f14).tr f25) (by assumption))
    have E : ∃ p, t = .inr p ∧ hT T len p = 76 ∧ TS w14 T len (.inr (p + 1)) := by
      rcases e14 with ⟨p, q1, q2, q3, q4⟩ | ⟨q1, q2, q3⟩
      · exact ⟨p, q1, q2, q4⟩
      · omega
    obtain ⟨p, q1, q2, q3⟩ := E
    subst q1
    refine r_iconst (pc := 20) (n := 2) dX1_mode_20 ?_
    exact f_iret (pc := 21) dX1_mode_21 rfl (by assumption) (hQ _ _ (md_y (m := 2) (by rw [q2]; rfl) (by omega)).1 (by rw [(md_y (T := T) (len := len) (p := p) (m := 2) (by rw [q2]; rfl) (by omega)).2]; exact q3) (f3.tr f14) (by assumption))
  have E : ∃ p, t = .inr p ∧ hT T len p = 84 ∧ TS w3 T len (.inr (p + 1)) := by
    rcases e3 with ⟨p, q1, q2, q3, q4⟩ | ⟨q1, q2, q3⟩
    · exact ⟨p, q1, q2, q4⟩
    · omega
  obtain ⟨p, q1, q2, q3⟩ := E
  subst q1
  refine r_iconst (pc := 9) (n := 1) dX1_mode_9 ?_
  exact f_iret (pc := 10) dX1_mode_10 rfl (by assumption) (hQ _ _ (md_y (m := 1) (by rw [q2]; rfl) (by omega)).1 (by rw [(md_y (T := T) (len := len) (p := p) (m := 1) (by rw [q2]; rfl) (by omega)).2]; exact q3) f3 (by assumption))
set_option maxRecDepth 8000 in
theorem m_X1_key {Q : Option AV → Wd → Prop} {w : Wd} (d : Nat) {T : Int → Int} {len : Int} {t : Int ⊕ Int} {L : List K3} {n : Nat} (hd : 5 ≤ d) (hw : WR w) (hS : TS w T len t) (hC : KCT w t L n) (hn : n ≤ 23) (hQ : ∀ w2, FRK w w2 → TS w2 T len (pK (keyR T len (lastF L) t)) → KCT w2 (pK (keyR T len (lastF L) t)) (L ++ ck (keyR T len (lastF L) t)) (n + 1) → WR w2 → Q none w2) : M mX1_key (Rm d) [vR (some 362), vR (some 356)] (fl w) (lQ Q) := by
  have hn0 := hC.n
  have hp := hS.raw
  refine f_mofv (L0 := [some (vR (some 362)), some (vR (some 356)), none, none, none, none]) rfl (Nat.le_of_ble_eq_true rfl) rfl ?_
  have cut75 : ∀ (f s : Int) (t4 : Int ⊕ Int) (w1 : Wd), 0 ≤ f ∧ f ≤ 999 → (∀ p, t = .inr p → 1 ≤ rnD T len p ∧ rnD T len p ≤ 3 → f = nvD T p (rnD T len p).toNat) → s = sgT T len (exT T len 58 (key2 T len (lastF L) t)) → t4 = mnT T len (exT T len 58 (key2 T len (lastF L) t)) → TS w1 T len t4 → FRT w w1 → WR w1 → V mX1_key (Rm d) 0 0 75 [some (vR (some 362)), some (vR (some 356)), some (vI (w 356 1)), some (vI f), none, none] [vI s] (fl w1) (lQ Q) := by
    intro f s t4 w1 hf hfv hs ht4 hS1 f1 hw1
    have hs2 := sgT_b (T := T) (len := len) (t := exT T len 58 (key2 T len (lastF L) t))
    have hc0 : w1 363 0 = w 363 0 := by rw [f1.1 363 (by omega)]
    refine r_istore4 (pc := 75) dX1_key_75 rfl ?_
    refine r_iload (pc := 77) dX1_key_77 rfl ?_
    refine r_aload_n (pc := 79) dX1_key_79 rfl ?_
    refine c_X1_46 (pc := 80) rfl dX1_key_80 (by first | assumption | rfl) (by omega) (Nat.le_of_ble_eq_true rfl) ?_
    refine a_number (d - 1) (by omega) (by assumption) hS1 (fun r80 w80 b80 c80 e80 f80 hw80 => ?_)
    refine r_imul (pc := 83) dX1_key_83 ?_
    refine r_istore5 (pc := 84) dX1_key_84 rfl ?_
    refine r_aload_n (pc := 86) dX1_key_86 rfl ?_
    refine h_X1_12 (pc := 87) rfl dX1_key_87 ?_
    refine r_iload_n (pc := 90) dX1_key_90 rfl ?_
    refine r_iload (pc := 91) dX1_key_91 rfl ?_
    refine r_aload_n (pc := 93) dX1_key_93 rfl ?_
    refine c_X1_60 (pc := 94) rfl dX1_key_94 (by omega) (Nat.le_of_ble_eq_true rfl) ?_
    refine m_X1_mode (d - 1) (by omega) (by assumption) e80 (fun r94 w94 g94 e94 f94 hw94 => ?_)
    have hmb := mdV_b (T := T) (len := len) (t := nuT T len t4)
    have hc9 : w94 363 0 = w 363 0 := by rw [f94.1 363 (by omega), f80.1 363 (by omega)]; exact hc0
    refine r_iconst (pc := 97) (n := 0) dX1_key_97 ?_
    refine r_iconst (pc := 98) (n := 0) dX1_key_98 ?_
    refine c_X1_64 (pc := 99) rfl dX1_key_99 (by first | assumption | rfl) (by omega) (Nat.le_of_ble_eq_true rfl) ?_
    have SV : -999 ≤ s * r80 ∧ s * r80 ≤ 999 := by rcases hs2 with z | z <;> rw [hs, z] <;> omega
    refine m_X0_insert (d - 1) (by omega) (by assumption) rfl (by omega) (by omega) (by omega) (by omega) (by omega) (by omega) (fun k99 w99 b99 g99 e99 hw99 => ?_)
    refine r_pop (pc := 102) dX1_key_102 rfl ?_
    exact f_vret (pc := 103) dX1_key_103 rfl (by assumption) (by
        have F9 := (f1.tr f80).tr f94
        refine hQ _ (F9.k.tr (FRM.k g99)) ?_ ?_ (by assumption)
        · rw [keyR_p (T := T) (len := len), ← ht4]
          exact e94.kp (g99 356 (by omega)) (g99 357 (by omega))
        · exact key_end hC hn hf hfv hs ht4 c80 SV g94 F9 b99 g99 e99)
  have cut55 : ∀ (f : Int) (w1 : Wd), 0 ≤ f ∧ f ≤ 999 → (∀ p, t = .inr p → 1 ≤ rnD T len p ∧ rnD T len p ≤ 3 → f = nvD T p (rnD T len p).toNat) → TS w1 T len (key2 T len (lastF L) t) → FRT w w1 → WR w1 → V mX1_key (Rm d) 0 0 55 [some (vR (some 362)), some (vR (some 356)), some (vI (w 356 1)), some (vI f), none, none] [] (fl w1) (lQ Q) := by
    intro f w1 hf hfv hS1 f1 hw1
    refine r_aload_n (pc := 55) dX1_key_55 rfl ?_
    refine r_bipush (pc := 56) (n := 58) dX1_key_56 (by decide) ?_
    refine c_X1_35 (pc := 58) rfl dX1_key_58 (by first | assumption | rfl) (by omega) (Nat.le_of_ble_eq_true rfl) ?_
    refine a_expect (d - 1) (by omega) (by assumption) hS1 (by omega) (fun w58 e58 f58 hw58 => ?_)
    refine r_aload_n (pc := 61) dX1_key_61 rfl ?_
    refine r_bipush (pc := 62) (n := 45) dX1_key_62 (by decide) ?_
    refine c_X1_31 (pc := 64) rfl dX1_key_64 (by first | assumption | rfl) (by omega) (Nat.le_of_ble_eq_true rfl) ?_
    refine a_accept (d - 1) (by omega) (by assumption) e58 (by omega) (fun r64 w64 b64 e64 f64 hw64 => ?_)
    refine r_ifeq (pc := 67) (tgt := 74) dX1_key_67 rfl (by omega) (fun h67 => ?_) (fun h67 => ?_)
    · refine r_iconst (pc := 74) (n := 1) dX1_key_74 ?_
      have E62 := mn_n (by exact e64) (by omega)
      exact cut75 _ _ _ _ hf hfv E62.1.symm rfl (by rw [E62.2.1]; exact E62.2.2) ((f1.tr f58).tr f64) (by assumption)
    refine r_iconst (pc := 70) (n := (-1)) dX1_key_70 ?_
    refine r_goto (pc := 71) (tgt := 75) dX1_key_71 rfl ?_
    have E62 := mn_y (by exact e64) (by omega)
    exact cut75 _ _ _ _ hf hfv E62.1.symm rfl (by rw [E62.2.1]; exact E62.2.2) ((f1.tr f58).tr f64) (by assumption)
  have cut50 : ∀ (f : Int) (w1 : Wd), 0 ≤ f ∧ f ≤ 999 → (∀ p, t = .inr p → 1 ≤ rnD T len p ∧ rnD T len p ≤ 3 → f = nvD T p (rnD T len p).toNat) → (∀ p, t = .inr p → f > 480 ∨ f ≤ lastF L) → TS w1 T len (nuT T len t) → FRT w w1 → WR w1 → V mX1_key (Rm d) 0 0 50 [some (vR (some 362)), some (vR (some 356)), some (vI (w 356 1)), some (vI f), none, none] [] (fl w1) (lQ Q) := by
    intro f w1 b6 c6 hf hS1 f6 hw1
    refine r_aload_n (pc := 50) dX1_key_50 rfl ?_
    refine r_iload_n (pc := 51) dX1_key_51 rfl ?_
    refine c_X1_57 (pc := 52) rfl dX1_key_52 (by first | assumption | rfl) (by omega) (Nat.le_of_ble_eq_true rfl) ?_
    refine a_fail (d - 1) (by omega) (by assumption) hS1 (by have := hS.1; omega) (fun w52 e52 f52 hw52 => ?_)
    rw [k2_f hS b6 c6 hf] at e52
    exact cut55 _ _ b6 c6 e52 (f6.tr f52) (by assumption)
  refine r_aload_n (pc := 0) dX1_key_0 rfl ?_
  refine h_X1_43 (pc := 1) rfl dX1_key_1 (by assumption) (fun h1 => ?_)
  refine r_istore2 (pc := 4) dX1_key_4 rfl ?_
  refine r_aload_n (pc := 5) dX1_key_5 rfl ?_
  refine c_X1_46 (pc := 6) rfl dX1_key_6 (by first | assumption | rfl) (by omega) (Nat.le_of_ble_eq_true rfl) ?_
  refine a_number (d - 1) (by omega) (by assumption) hS (fun r6 w6 b6 c6 e6 f6 hw6 => ?_)
  have hc0 : w6 363 0 = w 363 0 := by rw [f6.1 363 (by omega)]
  have hc1 : w6 364 = w 364 := f6.1 364 (by omega)
  refine r_istore3 (pc := 9) dX1_key_9 rfl ?_
  refine r_iload_n (pc := 10) dX1_key_10 rfl ?_
  refine r_sipush (pc := 11) (n := 480) dX1_key_11 (by decide) ?_
  refine r_icmpgt (pc := 14) (tgt := 50) dX1_key_14 rfl (by omega) (by omega) (fun h14 => ?_) (fun h14 => ?_)
  · exact cut50 _ _ b6 c6 (fun p hp => Or.inl (by omega)) e6 f6 (by assumption)
  refine r_aload_n (pc := 17) dX1_key_17 rfl ?_
  refine h_X1_12 (pc := 18) rfl dX1_key_18 ?_
  refine h_X1_23 (pc := 21) rfl dX1_key_21 (by assumption) (fun h21 => ?_)
  refine r_ifle (pc := 24) (tgt := 55) dX1_key_24 rfl (by omega) (fun h24 => ?_) (fun h24 => ?_)
  · exact cut55 _ _ b6 c6 (by rw [k2_n hC b6 c6 (by omega) (fun p hp => k2_l0 hC hp (by omega) b6.1)]; exact e6) f6 (by assumption)
  refine r_iload_n (pc := 27) dX1_key_27 rfl ?_
  refine r_aload_n (pc := 28) dX1_key_28 rfl ?_
  refine h_X1_12 (pc := 29) rfl dX1_key_29 ?_
  refine h_X1_49 (pc := 32) rfl dX1_key_32 ?_
  refine r_aload_n (pc := 35) dX1_key_35 rfl ?_
  refine h_X1_12 (pc := 36) rfl dX1_key_36 ?_
  refine h_X1_23 (pc := 39) rfl dX1_key_39 (by assumption) (fun h39 => ?_)
  refine r_iconst (pc := 42) (n := 1) dX1_key_42 ?_
  refine r_isub (pc := 43) dX1_key_43 ?_
  refine c_X1_53 (pc := 44) rfl dX1_key_44 (by omega) (Nat.le_of_ble_eq_true rfl) ?_
  refine m_X11_at (d - 1) (by omega) (by assumption) (n := 24) (show sh 364 = 1000 + 24 from rfl) (by omega) (by omega) (fun r44 e44 b44 => ?_)
  rw [gA_in (by omega) (by omega)] at e44
  refine r_icmpgt (pc := 47) (tgt := 55) dX1_key_47 rfl (by omega) (by omega) (fun h47 => ?_) (fun h47 => ?_)
  · exact cut55 _ _ b6 c6 (by rw [k2_n hC b6 c6 (by omega) (fun p hp => by rw [← k2_last hC hp (by omega), ← hc0, ← hc1, ← e44]; omega)]; exact e6) f6 (by assumption)
  exact cut50 _ _ b6 c6 (fun p hp => Or.inr (by rw [← k2_last hC hp (by rw [hc0] at h24; omega), ← hc0, ← hc1, ← e44]; omega)) e6 f6 (by assumption)
set_option maxRecDepth 8000 in
theorem m_X1_read {Q : Option AV → Wd → Prop} {w : Wd} (d : Nat) (hd : 6 ≤ d) (hw : WR w) (hT0 : 0 ≤ w 356 0 ∧ w 356 0 ≤ 120) (hQ : ∀ r w2, FRK w w2 → RDK w2 (w 357) (w 356 0) r → WR w2 → Q (some (vI r)) w2) : M mX1_read (Rm d) [vR (some 362), vR (some 356)] (fl w) (lQ Q) := by
  obtain ⟨T, hTT⟩ : ∃ T, T = w 357 := ⟨_, rfl⟩
  obtain ⟨len, hlen⟩ : ∃ l, l = w 356 0 := ⟨_, rfl⟩
  rw [← hTT, ← hlen] at hQ
  refine f_mofv (L0 := [some (vR (some 362)), some (vR (some 356)), none]) rfl (Nat.le_of_ble_eq_true rfl) rfl ?_
  have cut45 : ∀ (r : KR) (L : List K3) (w1 : Wd), FRK w w1 → TS w1 T len (pK r) → KCT w1 (pK r) (L ++ ck r) 24 → WR w1 → crA T len = crF0 r L → ∀ o, V mX1_read (Rm d) 0 0 45 [some (vR (some 362)), some (vR (some 356)), o] [] (fl w1) (lQ Q) := by
    intro r L w1 f1 hS1 hC1 hw1 hr o
    refine r_aload_n (pc := 45) dX1_read_45 rfl ?_
    refine r_bipush (pc := 46) (n := 59) dX1_read_46 (by decide) ?_
    refine c_X1_35 (pc := 48) rfl dX1_read_48 (by first | assumption | rfl) (by omega) (Nat.le_of_ble_eq_true rfl) ?_
    refine a_expect (d - 1) (by omega) (by assumption) hS1 (by omega) (fun w48 e48 f48 hw48 => ?_)
    refine r_aload_n (pc := 51) dX1_read_51 rfl ?_
    refine c_X1_39 (pc := 52) rfl dX1_read_52 (by first | assumption | rfl) (by omega) (Nat.le_of_ble_eq_true rfl) ?_
    refine a_verdict (d - 1) (by omega) (by assumption) e48 (fun r52 w52 e52 f52 hw52 => ?_)
    exact f_iret (pc := 55) dX1_read_55 rfl (by assumption) (hQ _ _ ((f1.tr f48.k).tr f52.k) (rdk_end hr ((hC1.kp f48).kp f52) e48 e52) (by assumption))
  have loop19 : ∀ (m : Nat), m ≤ 23 → ∀ (r : KR) (L : List K3) (w1 : Wd), FRK w w1 → TS w1 T len (pK r) → KCT w1 (pK r) (L ++ ck r) (24 - m) → WR w1 → crA T len = crL T len m r L → V mX1_read (Rm d) 0 0 19 [some (vR (some 362)), some (vR (some 356)), some (vI (24 - m))] [] (fl w1) (lQ Q) := by
    refine ind_lt ?_
    intro m ih hm r L w1 f1 hS1 hC1 hw1 hr
    refine r_iload_n (pc := 19) dX1_read_19 rfl ?_
    refine r_bipush (pc := 20) (n := 24) dX1_read_20 (by decide) ?_
    refine r_icmpge (pc := 22) (tgt := 45) dX1_read_22 rfl (by omega) (by omega) (fun h22 => ?_) (fun h22 => ?_)
    · exact cut45 r L _ f1 hS1 (by rw [show 24 - m = 24 by omega] at hC1; exact hC1) (by assumption) (by rw [hr, show m = 0 by omega]; exact crL_0) _
    obtain ⟨m1, hm1⟩ : ∃ m1, m = m1 + 1 := ⟨m - 1, by omega⟩
    subst hm1
    refine r_aload_n (pc := 25) dX1_read_25 rfl ?_
    refine r_bipush (pc := 26) (n := 44) dX1_read_26 (by decide) ?_
    refine c_X1_31 (pc := 28) rfl dX1_read_28 (by first | assumption | rfl) (by omega) (Nat.le_of_ble_eq_true rfl) ?_
    refine a_accept (d - 1) (by omega) (by assumption) hS1 (by omega) (fun r28 w28 b28 e28 f28 hw28 => ?_)
    refine r_ifeq (pc := 31) (tgt := 45) dX1_read_31 rfl (by omega) (fun h31 => ?_) (fun h31 => ?_)
    · have E28 : (∀ p, pK r = .inr p → hT T len p ≠ 44) ∧ TS w28 T len (pK r) := by
        rcases e28 with ⟨p, q1, q2, q3, q4⟩ | ⟨q1, q2, q3⟩
        · omega
        · exact ⟨q1, q3⟩
      exact cut45 r L _ (f1.tr f28.k) E28.2 ((hC1.kp f28).le (by omega)) (by assumption) (by rw [hr]; exact crL_n E28.1) _
    have E28 : ∃ q k, r = .inr (q, k) ∧ hT T len q = 44 ∧ TS w28 T len (.inr (q + 1)) := by
      rcases e28 with ⟨p, q1, q2, q3, q4⟩ | ⟨q1, q2, q3⟩
      · obtain ⟨k, hk⟩ := pK_inr q1
        exact ⟨p, k, hk, q2, q4⟩
      · omega
    obtain ⟨q, k, hk, q2, q3⟩ := E28
    subst hk
    have c28 : KCT w28 (.inr (q + 1)) (L ++ [k]) (24 - (m1 + 1)) := hC1.kp f28
    refine r_aload_n (pc := 34) dX1_read_34 rfl ?_
    refine r_aload_n (pc := 35) dX1_read_35 rfl ?_
    refine c_X1_27 (pc := 36) rfl dX1_read_36 (by first | assumption | rfl) (by omega) (Nat.le_of_ble_eq_true rfl) ?_
    refine m_X1_key (T := T) (len := len) (t := .inr (q + 1)) (L := L ++ [k]) (n := 24 - (m1 + 1)) (d - 1) (by omega) (by assumption) q3 c28 (by omega) (fun w36 f36 e36 c36 hw36 => ?_)
    refine r_iinc2 (pc := 39) dX1_read_39 rfl ?_
    refine r_goto (pc := 42) (tgt := 19) dX1_read_42 rfl ?_
    rw [show 24 - ((m1 + 1 : Nat) : Int) + 1 = 24 - (m1 : Int) by omega]
    rw [show 24 - (m1 + 1) + 1 = 24 - m1 by omega] at c36
    exact ih m1 (by omega) (by omega) _ _ _ ((f1.tr f28.k).tr f36) e36 c36 (by assumption) (by rw [hr]; exact crL_s q2)
  refine r_aload_n (pc := 0) dX1_read_0 rfl ?_
  refine c_X1_18 (pc := 1) rfl dX1_read_1 (by first | assumption | rfl) (by omega) (Nat.le_of_ble_eq_true rfl) ?_
  refine m_X9_rewind (d - 1) (by omega) (by assumption)  (fun w1 e1 hw1 => ?_)
  have hS0 : TS w1 T len (.inr 0) := by
    rw [e1, hTT, hlen]
    exact ⟨rfl, rfl, hT0.2, Int.le_refl 0, hT0.1, rfl, rfl⟩
  subst e1
  refine r_aload_n (pc := 4) dX1_read_4 rfl ?_
  refine h_X1_12 (pc := 5) rfl dX1_read_5 ?_
  refine r_iconst (pc := 8) (n := 0) dX1_read_8 ?_
  refine ph_X1_23 (pc := 9) rfl dX1_read_9 (by assumption) (by omega) (fun hw9 => ?_)
  refine r_aload_n (pc := 12) dX1_read_12 rfl ?_
  refine r_aload_n (pc := 13) dX1_read_13 rfl ?_
  refine c_X1_27 (pc := 14) rfl dX1_read_14 (by first | assumption | rfl) (by omega) (Nat.le_of_ble_eq_true rfl) ?_
  refine m_X1_key (T := T) (len := len) (t := .inr 0) (L := []) (n := 0) (d - 1) (by omega) (by assumption) (hS0.kp (up_ne (by omega)) (up_ne (by omega))) ⟨up_hit, Nat.le_refl 0, ⟨fun i x hx => by simp at hx, fun i j x y _ hx => by simp at hx⟩, fun i x hx => by simp at hx⟩ (by omega) (fun w14 f14 e14 c14 hw14 => ?_)
  refine r_iconst (pc := 17) (n := 1) dX1_read_17 ?_
  refine r_istore2 (pc := 18) dX1_read_18 rfl ?_
  rw [show (1 : Int) = 24 - ((23 : Nat) : Int) by omega]
  exact loop19 23 (by omega) _ [] _ (((FRT_1.tr FRT_2).k.tr FRK_0).tr f14) e14 c14 (by assumption) rfl
