/-! readers: where they stand in the text, and what steps they have written -/
def TS (w : Wd) (T : Int → Int) (len : Int) (t : Int ⊕ Int) : Prop := w 356 0 = len ∧ w 357 = T ∧ len ≤ 120 ∧ 0 ≤ w 356 1 ∧ w 356 1 ≤ len ∧ (match t with | .inl q => w 356 2 = q ∧ 0 ≤ q ∧ q ≤ len | .inr p => w 356 2 = -1 ∧ w 356 1 = p)
def FRT (w w2 : Wd) : Prop := (∀ i, i ≠ 356 → w2 i = w i) ∧ ∀ j, j ≠ 1 → j ≠ 2 → w2 356 j = w 356 j
theorem FRT.rf (w : Wd) : FRT w w := ⟨fun _ _ => rfl, fun _ _ _ => rfl⟩
theorem FRT.tr {w w1 w2 : Wd} (h : FRT w w1) (g : FRT w1 w2) : FRT w w2 := ⟨fun i hi => (g.1 i hi).trans (h.1 i hi), fun j a b => (g.2 j a b).trans (h.2 j a b)⟩
theorem FRT_1 {w : Wd} {x : Int} : FRT w (up w 356 1 x) := ⟨fun i hi => up_ne hi, fun j a _ => by unfold up; rw [if_neg (fun z => a z.2)]⟩
theorem FRT_2 {w : Wd} {x : Int} : FRT w (up w 356 2 x) := ⟨fun i hi => up_ne hi, fun j _ a => by unfold up; rw [if_neg (fun z => a z.2)]⟩
def exT (T : Int → Int) (len l : Int) (t : Int ⊕ Int) : Int ⊕ Int := match t with
  | .inl q => .inl q
  | .inr p => if hT T len p = l then .inr (p + 1) else .inl p
def flT (q : Int) (t : Int ⊕ Int) : Int ⊕ Int := match t with
  | .inl q => .inl q
  | .inr _ => .inl q
def nuT (T : Int → Int) (len : Int) (t : Int ⊕ Int) : Int ⊕ Int := match t with
  | .inl q => .inl q
  | .inr p => if 1 ≤ rnD T len p ∧ rnD T len p ≤ 3 then .inr (p + rnD T len p) else .inl p
theorem TS.raw {w : Wd} {T : Int → Int} {len : Int} {t : Int ⊕ Int} (h : TS w T len t) : 0 ≤ w 356 1 ∧ w 356 1 ≤ w 356 0 ∧ w 356 0 ≤ 120 ∧ -1 ≤ w 356 2 ∧ w 356 2 ≤ 120 := by
  obtain ⟨h1, h2, h3, h4, h5, h6⟩ := h
  rcases t with q | p
  · have h6 : w 356 2 = q ∧ 0 ≤ q ∧ q ≤ len := h6
    omega
  · have h6 : w 356 2 = -1 ∧ w 356 1 = p := h6
    omega
def vdT (len : Int) (t : Int ⊕ Int) : Int := match t with
  | .inl q => q
  | .inr p => if p < len then p else -1000000005
def pkS (T : Int → Int) (len : Int) (t : Int ⊕ Int) : Int := match t with
  | .inl _ => -1
  | .inr p => hT T len p
theorem TS.pk {w : Wd} {T : Int → Int} {len : Int} {t : Int ⊕ Int} (h : TS w T len t) : pkT w = pkS T len t := by
  obtain ⟨h1, h2, h3, h4, h5, h6⟩ := h
  unfold pkT
  rcases t with q | p
  · have h6 : w 356 2 = q ∧ 0 ≤ q ∧ q ≤ len := h6
    rw [if_neg (by omega)]
    rfl
  · have h6 : w 356 2 = -1 ∧ w 356 1 = p := h6
    rw [if_pos h6.1, h1, h2, h6.2]
    rfl
theorem TS.mv {w : Wd} {T : Int → Int} {len p x : Int} (h : TS w T len (.inr p)) (hx : 0 ≤ x ∧ x ≤ len) : TS (up w 356 1 x) T len (.inr x) := by
  obtain ⟨h1, h2, h3, h4, h5, h6⟩ := h
  exact ⟨h1, h2, h3, hx.1, hx.2, h6.1, rfl⟩
theorem TS.fl {w : Wd} {T : Int → Int} {len p x : Int} (h : TS w T len (.inr p)) (hx : 0 ≤ x ∧ x ≤ len) : TS (up w 356 2 x) T len (.inl x) := by
  obtain ⟨h1, h2, h3, h4, h5, h6⟩ := h
  exact ⟨h1, h2, h3, h4, h5, rfl, hx⟩
theorem TS.kp {w w2 : Wd} {T : Int → Int} {len : Int} {t : Int ⊕ Int} (h : TS w T len t) (h1 : w2 356 = w 356) (h2 : w2 357 = w 357) : TS w2 T len t := by
  unfold TS at h ⊢
  rw [h1, h2]; exact h
def ACCP (T : Int → Int) (len l : Int) (t : Int ⊕ Int) (r : Int) (w2 : Wd) : Prop := (∃ p, t = .inr p ∧ hT T len p = l ∧ r = 1 ∧ TS w2 T len (.inr (p + 1))) ∨ ((∀ p, t = .inr p → hT T len p ≠ l) ∧ r = 0 ∧ TS w2 T len t)
section
variable {Q : Option AV → Wd → Prop} {w : Wd} {T : Int → Int} {len : Int} {t : Int ⊕ Int} (d : Nat)
theorem a_peek (hd : 1 ≤ d) (hw : WR w) (hS : TS w T len t) (hQ : ∀ r, r = pkS T len t → R32 r → Q (some (vI r)) w) : M mX9_peek (Rm d) [vR (some 356)] (fl w) (lQ Q) :=
  m_X9_peek d hd hw hS.raw fun r e b => hQ r (e.trans hS.pk) b
theorem a_accept {l : Int} (hd : 2 ≤ d) (hw : WR w) (hS : TS w T len t) (hl : 0 ≤ l ∧ l ≤ 1000) (hQ : ∀ r w2, (r = 0 ∨ r = 1) → ACCP T len l t r w2 → FRT w w2 → WR w2 → Q (some (vI r)) w2) : M mX9_accept (Rm d) [vR (some 356), vI l] (fl w) (lQ Q) := by
  refine m_X9_accept d hd hw hS.raw ⟨by omega, by omega⟩ fun r w2 e hw2 => ?_
  have pk := hS.pk
  rcases e with ⟨e1, e2, e3⟩ | ⟨e1, e2, e3⟩
  · subst e3
    rcases t with q | p
    · rw [e1] at pk
      have : l = -1 := pk
      omega
    · rw [e1] at pk
      have pk : l = hT T len p := pk
      have a := hT_pos (T := T) (len := len) (p := p) (by omega)
      obtain ⟨h1, h2, h3, h4, h5, h6⟩ := id hS
      have h6 : w 356 2 = -1 ∧ w 356 1 = p := h6
      refine hQ _ _ (Or.inr e2) (Or.inl ⟨p, rfl, pk.symm, e2, ?_⟩) FRT_1 hw2
      rw [h6.2]
      exact hS.mv (by omega)
  · subst e3
    refine hQ _ _ (Or.inl e2) (Or.inr ⟨fun p hp => ?_, e2, hS⟩) (FRT.rf _) hw2
    subst hp
    exact fun z => e1 (pk.trans z)
theorem a_expect {l : Int} (hd : 3 ≤ d) (hw : WR w) (hS : TS w T len t) (hl : 0 ≤ l ∧ l ≤ 1000) (hQ : ∀ w2, TS w2 T len (exT T len l t) → FRT w w2 → WR w2 → Q none w2) : M mX9_expect (Rm d) [vR (some 356), vI l] (fl w) (lQ Q) := by
  refine m_X9_expect d hd hw hS.raw ⟨by omega, by omega⟩ fun w2 e hw2 => ?_
  have pk := hS.pk
  obtain ⟨h1, h2, h3, h4, h5, h6⟩ := id hS
  rcases t with q | p
  · have h6 : w 356 2 = q ∧ 0 ≤ q ∧ q ≤ len := h6
    have pk : pkT w = -1 := pk
    rw [if_neg (by omega), if_neg (by omega)] at e
    subst e
    exact hQ _ hS (FRT.rf _) hw2
  · have h6 : w 356 2 = -1 ∧ w 356 1 = p := h6
    by_cases z : pkT w = l
    · rw [if_pos z] at e
      subst e
      rw [z] at pk
      have pk : l = hT T len p := pk
      have a := hT_pos (T := T) (len := len) (p := p) (by omega)
      refine hQ _ ?_ FRT_1 hw2
      show TS _ T len (if _ then _ else _)
      rw [if_pos pk.symm, h6.2]
      exact hS.mv (by omega)
    · rw [if_neg z, if_pos h6.1] at e
      subst e
      refine hQ _ ?_ FRT_2 hw2
      have pk : pkT w = hT T len p := pk
      show TS _ T len (if _ then _ else _)
      rw [if_neg (fun y => z (pk.trans y)), h6.2]
      exact hS.fl (by omega)
theorem a_fail {l : Int} (hd : 0 ≤ d) (hw : WR w) (hS : TS w T len t) (hl : 0 ≤ l ∧ l ≤ len) (hQ : ∀ w2, TS w2 T len (flT l t) → FRT w w2 → WR w2 → Q none w2) : M mX9_fail (Rm d) [vR (some 356), vI l] (fl w) (lQ Q) := by
  obtain ⟨h1, h2, h3, h4, h5, h6⟩ := id hS
  refine m_X9_fail d hd hw ⟨by omega, by omega⟩ fun w2 e hw2 => ?_
  rcases t with q | p
  · have h6 : w 356 2 = q ∧ 0 ≤ q ∧ q ≤ len := h6
    rw [if_neg (by omega)] at e
    subst e
    exact hQ _ hS (FRT.rf _) hw2
  · have h6 : w 356 2 = -1 ∧ w 356 1 = p := h6
    rw [if_pos h6.1] at e
    subst e
    exact hQ _ (hS.fl hl) FRT_2 hw2
theorem a_number (hd : 3 ≤ d) (hw : WR w) (hS : TS w T len t) (hQ : ∀ r w2, 0 ≤ r ∧ r ≤ 999 → (∀ p, t = .inr p → 1 ≤ rnD T len p ∧ rnD T len p ≤ 3 → r = nvD T p (rnD T len p).toNat) → TS w2 T len (nuT T len t) → FRT w w2 → WR w2 → Q (some (vI r)) w2) : M mX9_number (Rm d) [vR (some 356)] (fl w) (lQ Q) := by
  obtain ⟨h1, h2, h3, h4, h5, h6⟩ := id hS
  refine m_X9_number d hd hw hS.raw fun r w2 r0 r9 e hw2 => ?_
  rcases t with q | p
  · have h6 : w 356 2 = q ∧ 0 ≤ q ∧ q ≤ len := h6
    rcases e with e | e | e
    · omega
    · omega
    · rw [e.2]
      rw [e.2] at hw2
      exact hQ _ _ ⟨r0, r9⟩ (fun p hp => by cases hp) hS (FRT.rf _) hw2
  · have h6 : w 356 2 = -1 ∧ w 356 1 = p := h6
    rw [h1, h2, h6.2] at e
    have b := rnD_len (T := T) (len := len) (p := p) (by omega)
    rcases e with e | e | e
    · obtain ⟨e1, e2, e3, e4, e5⟩ := e
      subst e5
      refine hQ _ _ ⟨r0, r9⟩ (fun p2 hp _ => by cases hp; exact e4) ?_ FRT_1 hw2
      show TS _ T len (if _ then _ else _)
      rw [if_pos ⟨e2, e3⟩]
      exact hS.mv (by omega)
    · obtain ⟨e1, e2, e5⟩ := e
      subst e5
      refine hQ _ _ ⟨r0, r9⟩ (fun p2 hp q => by cases hp; exact absurd q e2) ?_ (FRT_1.tr FRT_2) hw2
      show TS _ T len (if _ then _ else _)
      rw [if_neg e2]
      exact (hS.mv (x := p + rnD T len p) (by omega)).fl (by omega)
    · exact absurd h6.1 e.1
theorem a_verdict (hd : 2 ≤ d) (hw : WR w) (hS : TS w T len t) (hQ : ∀ r w2, r = vdT len t → FRT w w2 → WR w2 → Q (some (vI r)) w2) : M mX9_verdict (Rm d) [vR (some 356)] (fl w) (lQ Q) := by
  obtain ⟨h1, h2, h3, h4, h5, h6⟩ := id hS
  refine m_X9_verdict d hd hw hS.raw fun r w2 e f hw2 => ?_
  rcases t with q | p
  · have h6 : w 356 2 = q ∧ 0 ≤ q ∧ q ≤ len := h6
    rw [if_pos (by omega)] at e
    rw [if_neg (by omega)] at f
    subst f
    exact hQ _ _ (e.trans h6.1) (FRT.rf _) hw2
  · have h6 : w 356 2 = -1 ∧ w 356 1 = p := h6
    rw [if_neg (by omega), h1, h6.2] at e
    refine hQ _ _ e ?_ hw2
    subst f
    split
    · exact FRT_2
    · exact FRT.rf _
end
/-! the steps -/
def pT (r : PR) : Int ⊕ Int := match r with
  | .inl q => .inl q
  | .inr (q, _) => .inr q
def cd (r : PR) : List (Int × Int) := match r with
  | .inl _ => []
  | .inr (_, e) => e.1
def tb (t : Int ⊕ Int) (f : Int → PR) : PR := match t with
  | .inl q => .inl q
  | .inr p => f p
def RWs (o : Nat) (w : Wd) (C : List (Int × Int)) : Prop := w o 0 = C.length ∧ ∀ (i : Nat) (x : Int × Int), C[i]? = some x → w (o + 1) i = x.1 ∧ w (o + 2) i = x.2
def CT (w : Wd) (t : Int ⊕ Int) (C : List (Int × Int)) (N : Int) : Prop := match t with
  | .inl _ => 0 ≤ w 359 0 ∧ w 359 0 ≤ N
  | .inr p => RWs 359 w C ∧ (C.length : Int) ≤ p
def FRR (w w2 : Wd) : Prop := (∀ i, i ≠ 356 → (i < 359 ∨ 361 < i) → w2 i = w i) ∧ ∀ j, j ≠ 1 → j ≠ 2 → w2 356 j = w 356 j
theorem FRT.r {w w2 : Wd} (h : FRT w w2) : FRR w w2 := ⟨fun i a _ => h.1 i a, h.2⟩
theorem FRR.rf (w : Wd) : FRR w w := (FRT.rf w).r
theorem FRR.tr {w w1 w2 : Wd} (h : FRR w w1) (g : FRR w1 w2) : FRR w w2 := ⟨fun i hi b => (g.1 i hi b).trans (h.1 i hi b), fun j a b => (g.2 j a b).trans (h.2 j a b)⟩
theorem FRR.trT {w w1 w2 : Wd} (h : FRR w w1) (g : FRT w1 w2) : FRR w w2 := h.tr g.r
theorem CT.kp {w w2 : Wd} {t : Int ⊕ Int} {C : List (Int × Int)} {N : Int} (h : CT w t C N) (f : FRT w w2) : CT w2 t C N := by
  have a := f.1 359 (by omega)
  have b := f.1 360 (by omega)
  have c := f.1 361 (by omega)
  rcases t with q | p
  · show 0 ≤ w2 359 0 ∧ w2 359 0 ≤ N
    rw [a]; exact h
  · show (w2 359 0 = _ ∧ ∀ (i : Nat) (x : Int × Int), C[i]? = some x → w2 360 i = x.1 ∧ w2 361 i = x.2) ∧ _
    rw [a, b, c]; exact h
theorem CT.cod {w : Wd} {t : Int ⊕ Int} {C D : List (Int × Int)} {N : Int} (h : CT w t C N) (e : ∀ p, t = .inr p → C = D) : CT w t D N := by
  rcases t with q | p
  · exact h
  · rw [← e p rfl]; exact h
theorem CT.le {w : Wd} {t : Int ⊕ Int} {C : List (Int × Int)} {N N2 : Int} (h : CT w t C N) (e : N ≤ N2) : CT w t C N2 := by
  rcases t with q | p
  · have h : 0 ≤ w 359 0 ∧ w 359 0 ≤ N := h
    exact ⟨h.1, by omega⟩
  · exact h
theorem CT.fail {w : Wd} {p q : Int} {C : List (Int × Int)} {N : Int} (h : CT w (.inr p) C N) (hp : p ≤ N) : CT w (.inl q) C N := by
  obtain ⟨⟨h1, h2⟩, h3⟩ := h
  exact ⟨by omega, by omega⟩
theorem CT.mv {w : Wd} {p q : Int} {C : List (Int × Int)} {N : Int} (h : CT w (.inr p) C N) (hp : p ≤ q) : CT w (.inr q) C N := ⟨h.1, by have := h.2; omega⟩
theorem CT.ex {w : Wd} {T : Int → Int} {len l : Int} {t : Int ⊕ Int} {C : List (Int × Int)} {N : Int} (h : CT w t C N) (hp : ∀ p, t = .inr p → p ≤ N) : CT w (exT T len l t) C N := by
  rcases t with q | p
  · exact h
  · show CT w (if _ then _ else _) C N
    split
    · exact h.mv (by omega)
    · exact h.fail (hp p rfl)
theorem CT.nu {w : Wd} {T : Int → Int} {len : Int} {t : Int ⊕ Int} {C : List (Int × Int)} {N : Int} (h : CT w t C N) (hp : ∀ p, t = .inr p → p ≤ N) : CT w (nuT T len t) C N := by
  rcases t with q | p
  · exact h
  · show CT w (if _ then _ else _) C N
    split
    · exact h.mv (by omega)
    · exact h.fail (hp p rfl)
theorem up_hit {w : Wd} {i : Nat} {j x : Int} : up w i j x i j = x := if_pos ⟨rfl, rfl⟩
theorem up_off {w : Wd} {i p : Nat} {j q x : Int} (h : ¬ (p = i ∧ q = j)) : up w i j x p q = w p q := if_neg h
theorem RWs_add {o : Nat} {w : Wd} {C : List (Int × Int)} {a b : Int} (h : RWs o w C) (hc : (C.length : Int) < 120) : RWs o (up (pA 120 (pA 120 w (o + 1) (w o 0) a) (o + 2) (w o 0) b) o 0 (w o 0 + 1)) (C ++ [(a, b)]) := by
  obtain ⟨h1, h2⟩ := h
  rw [h1, pA_in (by omega) (by omega), pA_in (by omega) (by omega)]
  refine ⟨?_, fun i x hx => ?_⟩
  · rw [List.length_append]
    exact up_hit
  · rcases Nat.lt_or_ge i C.length with z | z
    · rw [List.getElem?_append_left z] at hx
      have g := h2 i x hx
      exact ⟨by rw [up_ne (by omega), up_ne (by omega), up_off (by omega)]; exact g.1, by rw [up_ne (by omega), up_off (by omega), up_ne (by omega)]; exact g.2⟩
    · rw [List.getElem?_append_right z] at hx
      have q : i = C.length := by
        rcases Nat.eq_zero_or_pos (i - C.length) with y | y
        · omega
        · rw [List.getElem?_eq_none (by simp; omega)] at hx; cases hx
      subst q
      rw [Nat.sub_self] at hx
      have hx : (a, b) = x := by simpa using hx
      subst hx
      exact ⟨by rw [up_ne (by omega), up_ne (by omega), up_hit], by rw [up_ne (by omega), up_hit]⟩
theorem CT.add {w : Wd} {t : Int ⊕ Int} {C : List (Int × Int)} {N a b : Int} (h : CT w t C N) (hp : ∀ p, t = .inr p → (C.length : Int) < p ∧ p ≤ 120) : CT (up (pA 120 (pA 120 w 360 (w 359 0) a) 361 (w 359 0) b) 359 0 (w 359 0 + 1)) t (C ++ [(a, b)]) (N + 1) := by
  rcases t with q | p
  · have h : 0 ≤ w 359 0 ∧ w 359 0 ≤ N := h
    have g : up (pA 120 (pA 120 w 360 (w 359 0) a) 361 (w 359 0) b) 359 0 (w 359 0 + 1) 359 0 = w 359 0 + 1 := up_hit
    show 0 ≤ up _ _ _ _ _ _ ∧ up _ _ _ _ _ _ ≤ N + 1
    rw [g]
    omega
  · have g := hp p rfl
    refine ⟨RWs_add h.1 (by omega), ?_⟩
    rw [List.length_append]
    show ((C.length + 1 : Nat) : Int) ≤ p
    omega
theorem CT.n {w : Wd} {t : Int ⊕ Int} {C : List (Int × Int)} {N : Int} (h : CT w t C N) (hp : ∀ p, t = .inr p → p ≤ N) : 0 ≤ w 359 0 ∧ w 359 0 ≤ N := by
  rcases t with q | p
  · exact h
  · have h : (w 359 0 = C.length ∧ _) ∧ (C.length : Int) ≤ p := h
    have := hp p rfl
    omega
theorem TS.n {w : Wd} {T : Int → Int} {len : Int} {t : Int ⊕ Int} (h : TS w T len t) : ∀ p, t = .inr p → 0 ≤ p ∧ p ≤ len ∧ len ≤ 120 := by
  intro p hp
  subst hp
  obtain ⟨h1, h2, h3, h4, h5, h6⟩ := h
  have h6 : w 356 2 = -1 ∧ w 356 1 = p := h6
  omega
theorem FRR_add {w : Wd} {a b x : Int} : FRR w (up (pA 120 (pA 120 w 360 x a) 361 x b) 359 0 (x + 1)) := ⟨fun i h1 h2 => by rw [up_ne (by omega), pA_ne (by omega), pA_ne (by omega)], fun j _ _ => by rw [up_ne (by omega), pA_ne (by omega), pA_ne (by omega)]⟩
theorem TS.r {w w2 : Wd} {T : Int → Int} {len : Int} {t : Int ⊕ Int} {a b x : Int} (h : TS w T len t) (e : w2 = up (pA 120 (pA 120 w 360 x a) 361 x b) 359 0 (x + 1)) : TS w2 T len t := h.kp (by rw [e, up_ne (by omega), pA_ne (by omega), pA_ne (by omega)]) (by rw [e, up_ne (by omega), pA_ne (by omega), pA_ne (by omega)])
