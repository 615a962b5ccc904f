/-! the formula's reader -/
def flH (t : Int ⊕ Int) : Int ⊕ Int := match t with
  | .inl q => .inl q
  | .inr p => .inl p
def PST (w w2 : Wd) (T : Int → Int) (len : Int) (r : PR) (C : List (Int × Int)) (N : Int) : Prop := FRR w w2 ∧ TS w2 T len (pT r) ∧ CT w2 (pT r) (C ++ cd r) N
def BB : Nat → Int
  | 0 => 1
  | n + 1 => 2 * BB n + 5
theorem BB_1 : ∀ n, 1 ≤ BB n
  | 0 => Int.le_refl 1
  | n + 1 => by have := BB_1 n; unfold BB; omega
theorem BB_s (n : Nat) : BB (n + 1) = 2 * BB n + 5 := rfl
def RDC (mt : MT) (g : (Int → Int) → Int → Int → PR) (n : Nat) (e : Nat) (b : Int) : Prop := ∀ (Q : Option AV → Wd → Prop) (w : Wd) (d : Nat) (T : Int → Int) (len N : Int) (t : Int ⊕ Int) (C : List (Int × Int)), 4 * n + e ≤ d → WR w → TS w T len t → CT w t C N → 120 ≤ N → N + BB n + 3 ≤ 9000 → (∀ w2, PST w w2 T len (tb t (g T len)) C (N + b) → WR w2 → Q none w2) → M mt (Rm d) [vR (some 358), vR (some 356), vI (8 - n)] (fl w) (lQ Q)
def FACC (n : Nat) : Prop := RDC mX4_factor (fun T len => facS T len n) n 8 (BB n)
def PROC (n : Nat) : Prop := RDC mX4_product (fun T len => proS T len (facS T len n)) n 9 (BB n + 1)
def SUMC (n : Nat) : Prop := RDC mX4_sum (fun T len => sumS T len (facS T len n)) n 10 (BB n + 2)
def oS (T : Int → Int) (len : Int) : Nat → Option (Int → PR)
  | 0 => none
  | n + 1 => some (facS T len n)
def choO (T : Int → Int) (len : Int) (o : Option (Int → PR)) (k q : Int) : PR := match o with
  | none => .inl q
  | some f => choT T len f k (q + 1)
section
variable {T : Int → Int} {len : Int}
end
def OPNP (T : Int → Int) (len l k : Int) (t : Int ⊕ Int) (r : Int) (w2 : Wd) : Prop := (∃ p, t = .inr p ∧ hT T len p = l ∧ k < 8 ∧ r = 1 ∧ TS w2 T len (.inr (p + 1))) ∨ ((∀ p, t = .inr p → hT T len p ≠ l ∨ k = 8) ∧ r = 0 ∧ TS w2 T len (flH t))
section
variable {T : Int → Int} {len : Int}
theorem facS_o {n : Nat} : facS T len n = facB T len (oS T len n) := by cases n <;> rfl
theorem TS.hl {w w2 : Wd} {t : Int ⊕ Int} (h : TS w T len t) (g : TS w2 T len (flT (w 356 1) t)) : TS w2 T len (flH t) := by
  rcases t with q | p
  · exact g
  · obtain ⟨h1, h2, h3, h4, h5, h6⟩ := h
    have h6 : w 356 2 = -1 ∧ w 356 1 = p := h6
    have g : TS w2 T len (.inl (w 356 1)) := g
    rw [h6.2] at g
    exact g
theorem exT_y {p l : Int} (h : hT T len p = l) : exT T len l (.inr p) = .inr (p + 1) := if_pos h
theorem mst_y {q c : Int} {r : PR} (h : hT T len q = c) : mst T len c q r = r := if_pos h
theorem mst_n {q c : Int} {r : PR} (h : hT T len q ≠ c) : mst T len c q r = .inl q := if_neg h
theorem exT_n {p l : Int} (h : hT T len p ≠ l) : exT T len l (.inr p) = .inl p := if_neg h
theorem ex_inr {p q l : Int} (h : exT T len l (.inr p) = .inr q) : q = p + 1 := by
  by_cases z : hT T len p = l
  · rw [exT_y z] at h; cases h; rfl
  · rw [exT_n z] at h; cases h
theorem ex_inr2 {t : Int ⊕ Int} {q l : Int} (h : exT T len l t = .inr q) : ∃ p, t = .inr p ∧ q = p + 1 := by
  rcases t with p | p
  · cases h
  · exact ⟨p, rfl, ex_inr h⟩
theorem nu_inr {t : Int ⊕ Int} {q : Int} (h : nuT T len t = .inr q) : ∃ p, t = .inr p ∧ p < q ∧ q = p + rnD T len p ∧ 1 ≤ rnD T len p ∧ rnD T len p ≤ 3 := by
  rcases t with p | p
  · cases h
  · by_cases z : 1 ≤ rnD T len p ∧ rnD T len p ≤ 3
    · have e : nuT T len (.inr p) = .inr (p + rnD T len p) := if_pos z
      rw [e] at h
      cases h
      exact ⟨p, rfl, by omega, rfl, z⟩
    · have e : nuT T len (.inr p) = .inl p := if_neg z
      rw [e] at h; cases h
theorem nu_inl {p q : Int} (h : nuT T len (.inr p) = .inl q) : q = p ∧ ¬ (1 ≤ rnD T len p ∧ rnD T len p ≤ 3) := by
  by_cases z : 1 ≤ rnD T len p ∧ rnD T len p ≤ 3
  · have e : nuT T len (.inr p) = .inr (p + rnD T len p) := if_pos z
    rw [e] at h; cases h
  · have e : nuT T len (.inr p) = .inl p := if_neg z
    rw [e] at h; cases h; exact ⟨rfl, z⟩
theorem pk_inr {t : Int ⊕ Int} {r : Int} (h : r = pkS T len t) (h0 : 0 ≤ r) : ∃ p, t = .inr p ∧ hT T len p = r := by
  rcases t with q | p
  · have h : r = -1 := h
    omega
  · exact ⟨p, rfl, h.symm⟩
theorem pT_inr {r : PR} {p : Int} (h : pT r = .inr p) : ∃ e, r = .inr (p, e) := by
  rcases r with q | ⟨q, e⟩
  · cases h
  · cases h; exact ⟨e, rfl⟩
theorem pT_bn {r : PR} {g : EE → EE} : pT (bn r fun q e => .inr (q, g e)) = pT r := by
  rcases r with q | ⟨q, e⟩ <;> rfl
theorem PST.le {w w2 : Wd} {r : PR} {C : List (Int × Int)} {N N2 : Int} (h : PST w w2 T len r C N) (e : N ≤ N2) : PST w w2 T len r C N2 := ⟨h.1, h.2.1, h.2.2.le e⟩
theorem PST.kp {w w1 w2 : Wd} {r : PR} {C : List (Int × Int)} {N : Int} (h : PST w w1 T len r C N) (f : FRT w1 w2) (e : TS w2 T len (pT r)) : PST w w2 T len r C N := ⟨h.1.trT f, e, h.2.2.kp f⟩
theorem neg_len {g : Int → PR} (hG : ∀ p, p ≤ len → GP len p (g p)) {p q : Int} {C : List (Int × Int)} (hp : p + 1 ≤ len) (hC : (C.length : Int) ≤ p) (h : pT (g (p + 1)) = .inr q) : ((C ++ cd (g (p + 1))).length : Int) < q := by
  obtain ⟨e, he⟩ := pT_inr h
  have a := hG (p + 1) hp
  rw [he] at a
  obtain ⟨a1, a2, a3, a4⟩ := a
  rw [he, List.length_append]
  show ((C.length + e.1.length : Nat) : Int) < q
  omega
theorem a_add {Q : Option AV → Wd → Prop} {w : Wd} {N : Int} {t : Int ⊕ Int} {C : List (Int × Int)} {a b : Int} (d : Nat) (hd : 1 ≤ d) (hw : WR w) (hS : TS w T len t) (hC : CT w t C N) (hN : 120 ≤ N ∧ N ≤ 9990) (hp : ∀ p, t = .inr p → (C.length : Int) < p) (ha : R32 a) (hb : R32 b) (hQ : ∀ w2, FRR w w2 → TS w2 T len t → CT w2 t (C ++ [(a, b)]) (N + 1) → WR w2 → Q none w2) : M mX3_add (Rm d) [vR (some 359), vI a, vI b] (fl w) (lQ Q) := by
  have n := hC.n (fun p hp => by have := hS.n p hp; omega)
  refine m_X3_add d hd hw rfl (by omega) ha hb fun w2 e hw2 => ?_
  refine hQ _ (by rw [e]; exact FRR_add) (hS.r e) ?_ hw2
  rw [e]
  exact hC.add (fun p hq => ⟨hp p hq, by have := hS.n p hq; omega⟩)
theorem cur_r1 {p l b q : Int} (pl : p < len) (h : hT T len (p + 1) = 64) (hq : nuT T len (.inr (p + 2)) = .inr q) (c : 1 ≤ rnD T len (p + 2) ∧ rnD T len (p + 2) ≤ 3 → b = nvD T (p + 2) (rnD T len (p + 2)).toNat) : p < q ∧ q ≤ len ∧ curS T len p l = .inr (q, eC (l - 97) b) := by
  obtain ⟨p2, y1, y2, y3, y4⟩ := nu_inr hq
  cases y1
  have a := hT_pos (T := T) (len := len) (p := p + 1) (by omega)
  have b2 := rnD_len (T := T) (len := len) (p := p + 2) (by omega)
  refine ⟨by omega, by omega, ?_⟩
  unfold curS numS
  rw [if_pos h, if_pos y4, c y4, y3]
theorem cur_l1 {p l q : Int} (h : hT T len (p + 1) = 64) (hq : nuT T len (.inr (p + 2)) = .inl q) : curS T len p l = .inl q := by
  obtain ⟨y1, y2⟩ := nu_inl hq
  unfold curS numS
  rw [if_pos h, if_neg y2, y1]
theorem cur_r2 {p l q : Int} (pl : p < len) (h : hT T len (p + 1) ≠ 64) (hq : (.inr (p + 1) : Int ⊕ Int) = .inr q) : p < q ∧ q ≤ len ∧ curS T len p l = .inr (q, eC (l - 97) 0) := by
  cases hq
  refine ⟨by omega, by omega, ?_⟩
  unfold curS
  rw [if_neg h]
theorem cur_end {w w2 : Wd} {p l b N : Int} {t : Int ⊕ Int} {C : List (Int × Int)} (h1 : ∀ q, t = .inr q → p < q ∧ q ≤ len ∧ curS T len p l = .inr (q, eC (l - 97) b)) (h2 : ∀ q, t = .inl q → curS T len p l = .inl q) (f : FRR w w2) (e : TS w2 T len t) (c : CT w2 t (C ++ [(1, (l - 97) * 1000 + b)]) N) : PST w w2 T len (curS T len p l) C N := by
  rcases t with q | q
  · rw [h2 q rfl]; exact ⟨f, e, c⟩
  · rw [(h1 q rfl).2.2]; exact ⟨f, e, c⟩
theorem cho_5 {o : Option (Int → PR)} {p : Int} (h : hT T len (p + 1) = 105) : choS T len o p = tb (exT T len 110 (.inr (p + 2))) (fun q => mst T len 40 q (choO T len o 5 q)) := by
  unfold choS
  rw [if_pos h]
  by_cases z : hT T len (p + 2) = 110
  · rw [mst_y z, exT_y z, show p + 2 + 1 = p + 3 by omega]
    show _ = mst T len 40 (p + 3) (choO T len o 5 (p + 3))
    unfold choO
    rw [show p + 3 + 1 = p + 4 by omega]
    cases o <;> rfl
  · rw [mst_n z, exT_n z]; rfl
theorem cho_6 {o : Option (Int → PR)} {p : Int} (h : hT T len (p + 1) ≠ 105) : choS T len o p = tb (exT T len 120 (exT T len 97 (.inr (p + 1)))) (fun q => mst T len 40 q (choO T len o 6 q)) := by
  unfold choS
  rw [if_neg h]
  by_cases z : hT T len (p + 1) = 97
  · rw [mst_y z, exT_y z, show p + 1 + 1 = p + 2 by omega]
    by_cases z : hT T len (p + 2) = 120
    · rw [mst_y z, exT_y z, show p + 2 + 1 = p + 3 by omega]
      show _ = mst T len 40 (p + 3) (choO T len o 6 (p + 3))
      unfold choO
      rw [show p + 3 + 1 = p + 4 by omega]
      cases o <;> rfl
    · rw [mst_n z, exT_n z]; rfl
  · rw [mst_n z, exT_n z]; rfl
theorem choT_p {f : Int → PR} {k q : Int} : exT T len 41 (pT (tb (exT T len 44 (pT (sumS T len f q))) (sumS T len f))) = pT (choT T len f k q) := by
  unfold choT
  rcases sumS T len f q with q1 | ⟨q1, e1⟩
  · rfl
  · rw [bn_r]
    by_cases z : hT T len q1 = 44
    · rw [mst_y z, show exT T len 44 (pT (.inr (q1, e1))) = .inr (q1 + 1) from exT_y z, show tb (.inr (q1 + 1)) (sumS T len f) = sumS T len f (q1 + 1) from rfl]
      rcases sumS T len f (q1 + 1) with q2 | ⟨q2, e2⟩
      · rfl
      · rw [bn_r]
        by_cases z : hT T len q2 = 41
        · rw [mst_y z]; exact exT_y z
        · rw [mst_n z]; exact exT_n z
    · rw [mst_n z, show exT T len 44 (pT (.inr (q1, e1))) = .inl q1 from exT_n z]; rfl
theorem choT_in {f : Int → PR} {q x : Int} (h : exT T len 41 (pT (tb (exT T len 44 (pT (sumS T len f q))) (sumS T len f))) = .inr x) : ∃ q1 e1 q2 e2, sumS T len f q = .inr (q1, e1) ∧ hT T len q1 = 44 ∧ sumS T len f (q1 + 1) = .inr (q2, e2) ∧ hT T len q2 = 41 ∧ x = q2 + 1 := by
  rcases h1 : sumS T len f q with q1 | ⟨q1, e1⟩
  · rw [h1] at h; cases h
  · rw [h1] at h
    by_cases z : hT T len q1 = 44
    · rw [show exT T len 44 (pT (.inr (q1, e1))) = .inr (q1 + 1) from exT_y z, show tb (.inr (q1 + 1)) (sumS T len f) = sumS T len f (q1 + 1) from rfl] at h
      rcases h2 : sumS T len f (q1 + 1) with q2 | ⟨q2, e2⟩
      · rw [h2] at h; cases h
      · rw [h2] at h
        by_cases y : hT T len q2 = 41
        · rw [show exT T len 41 (pT (.inr (q2, e2))) = .inr (q2 + 1) from exT_y y] at h
          cases h
          exact ⟨q1, e1, q2, e2, rfl, z, h2, y, rfl⟩
        · rw [show exT T len 41 (pT (.inr (q2, e2))) = .inl q2 from exT_n y] at h; cases h
    · rw [show exT T len 44 (pT (.inr (q1, e1))) = .inl q1 from exT_n z] at h; cases h
theorem choT_len {f : Int → PR} (hG : ∀ p, p ≤ len → GP len p (f p)) {q : Int} {C : List (Int × Int)} (hq : q ≤ len) (hC : (C.length : Int) < q) : ∀ x, exT T len 41 (pT (tb (exT T len 44 (pT (sumS T len f q))) (sumS T len f))) = .inr x → ((C ++ cd (sumS T len f q) ++ cd (tb (exT T len 44 (pT (sumS T len f q))) (sumS T len f))).length : Int) < x := by
  intro x hx
  obtain ⟨q1, e1, q2, e2, h1, h2, h3, h4, h5⟩ := choT_in hx
  have a1 := GP_sum (T := T) hG hq
  rw [h1] at a1
  obtain ⟨a1, a2, a3, a4⟩ := a1
  have p1 := hT_pos (T := T) (len := len) (p := q1) (by omega)
  have b1 := GP_sum (T := T) hG (p := q1 + 1) (by omega)
  rw [h3] at b1
  obtain ⟨b1, b2, b3, b4⟩ := b1
  rw [h1, show exT T len 44 (pT (.inr (q1, e1))) = .inr (q1 + 1) from exT_y h2, show tb (.inr (q1 + 1)) (sumS T len f) = sumS T len f (q1 + 1) from rfl, h3, List.length_append, List.length_append]
  show ((C.length + e1.1.length + e2.1.length : Nat) : Int) < x
  omega
theorem choT_c {f : Int → PR} {k q : Int} {C : List (Int × Int)} : ∀ x, exT T len 41 (pT (tb (exT T len 44 (pT (sumS T len f q))) (sumS T len f))) = .inr x → C ++ cd (sumS T len f q) ++ cd (tb (exT T len 44 (pT (sumS T len f q))) (sumS T len f)) ++ [(k, 0)] = C ++ cd (choT T len f k q) := by
  intro x hx
  obtain ⟨q1, e1, q2, e2, h1, h2, h3, h4, h5⟩ := choT_in hx
  unfold choT
  rw [h1, bn_r, mst_y h2, show exT T len 44 (pT (.inr (q1, e1))) = .inr (q1 + 1) from exT_y h2, show tb (.inr (q1 + 1)) (sumS T len f) = sumS T len f (q1 + 1) from rfl, h3, bn_r, mst_y h4]
  show C ++ e1.1 ++ e2.1 ++ [(k, 0)] = C ++ (e1.1 ++ e2.1 ++ [(k, 0)])
  rw [List.append_assoc C, List.append_assoc C]
theorem cho_no {w w2 : Wd} {n : Nat} {p k l N : Int} {t : Int ⊕ Int} {C : List (Int × Int)} (hch : choS T len (oS T len n) p = tb (exT T len l t) (fun q => mst T len 40 q (choO T len (oS T len n) k q))) (h : ∀ q, exT T len l t = .inr q → hT T len q ≠ 40 ∨ 8 - (n : Int) = 8) (f : FRR w w2) (e : TS w2 T len (flH (exT T len l t))) (c : CT w2 (exT T len l t) C N) (hN : ∀ q, exT T len l t = .inr q → q ≤ N) : PST w w2 T len (choS T len (oS T len n) p) C N := by
  rw [hch]
  revert h e c hN
  generalize exT T len l t = u
  intro h e c hN
  rcases u with q | q
  · exact ⟨f, e, by rw [show C ++ cd (tb (.inl q) _) = C ++ [] from rfl, List.append_nil]; exact c⟩
  · have z : tb (.inr q) (fun q => mst T len 40 q (choO T len (oS T len n) k q)) = .inl q := by
      show mst T len 40 q _ = _
      by_cases y : hT T len q = 40
      · rw [mst_y y]
        have : n = 0 := by have := h q rfl; omega
        subst this
        rfl
      · exact mst_n y
    rw [z]
    exact ⟨f, e, by rw [show C ++ cd (.inl q) = C ++ [] from rfl, List.append_nil]; exact c.fail (hN q rfl)⟩
theorem bm_p {r : PR} {l : Int} {g : EE → EE} : exT T len l (pT r) = pT (bn r fun q e => mst T len l q (.inr (q + 1, g e))) := by
  rcases r with q | ⟨q, e⟩
  · rfl
  · rw [bn_r]
    by_cases z : hT T len q = l
    · rw [mst_y z]; exact exT_y z
    · rw [mst_n z]; exact exT_n z
theorem bm_c {r : PR} {l x : Int} (h : exT T len l (pT r) = .inr x) : cd (bn r fun q e => mst T len l q (.inr (q + 1, e))) = cd r := by
  rcases r with q | ⟨q, e⟩
  · rfl
  · rw [bn_r]
    by_cases z : hT T len q = l
    · rw [mst_y z]; rfl
    · rw [show exT T len l (pT (.inr (q, e))) = .inl q from exT_n z] at h; cases h
theorem fac_c {n : Nat} {p : Int} (h : 97 ≤ hT T len p ∧ hT T len p ≤ 100) : facS T len n p = curS T len p (hT T len p) := by
  rw [facS_o]
  exact if_pos h
theorem fac_m {n : Nat} {p : Int} (h : hT T len p = 109) : facS T len n p = choS T len (oS T len n) p := by
  rw [facS_o]
  unfold facB
  rw [if_neg (by omega), if_pos h]
theorem fac_par {w w2 : Wd} {m : Nat} {p N : Int} {C : List (Int × Int)} (h : hT T len p = 40) (f : FRR w w2) (e : TS w2 T len (exT T len 41 (pT (tb (.inr (p + 1)) (sumS T len (facS T len m)))))) (c : CT w2 (exT T len 41 (pT (tb (.inr (p + 1)) (sumS T len (facS T len m))))) (C ++ cd (tb (.inr (p + 1)) (sumS T len (facS T len m)))) N) : PST w w2 T len (tb (.inr p) (facS T len (m + 1))) C N := by
  have z : tb (.inr p) (facS T len (m + 1)) = bn (sumS T len (facS T len m) (p + 1)) fun q e => mst T len 41 q (.inr (q + 1, e)) := by
    show facB T len (some (facS T len m)) p = _
    unfold facB
    rw [if_neg (by omega), if_neg (by omega), if_pos h]
  rw [z]
  refine ⟨f, ?_, ?_⟩
  · rw [← bm_p]; exact e
  · rw [← bm_p]
    refine CT.cod c fun x hx => ?_
    rw [bm_c hx]; rfl
theorem fac_neg {w w2 : Wd} {m : Nat} {p N : Int} {C : List (Int × Int)} (h : hT T len p = 45) (f : FRR w w2) (e : TS w2 T len (pT (tb (.inr (p + 1)) (facS T len m)))) (c : CT w2 (pT (tb (.inr (p + 1)) (facS T len m))) (C ++ cd (tb (.inr (p + 1)) (facS T len m)) ++ [(7, 0)]) N) : PST w w2 T len (tb (.inr p) (facS T len (m + 1))) C N := by
  have z : tb (.inr p) (facS T len (m + 1)) = bn (facS T len m (p + 1)) fun q e => .inr (q, eG e) := by
    show facB T len (some (facS T len m)) p = _
    unfold facB
    rw [if_neg (by omega), if_neg (by omega), if_neg (by omega), if_pos h]
  rw [z]
  refine ⟨f, ?_, ?_⟩
  · rw [pT_bn]; exact e
  · rw [pT_bn]
    refine CT.cod c fun x hx => ?_
    obtain ⟨e1, he⟩ := pT_inr (show pT (facS T len m (p + 1)) = .inr x from hx)
    rw [show tb (.inr (p + 1)) (facS T len m) = facS T len m (p + 1) from rfl, he]
    show C ++ e1.1 ++ [(7, 0)] = C ++ (e1.1 ++ [(7, 0)])
    rw [List.append_assoc]
theorem fac_no0 {w w2 : Wd} {n : Nat} {p N : Int} {C : List (Int × Int)} (hn : n = 0) (h : hT T len p = 40 ∨ hT T len p = 45) (f : FRT w w2) (e : TS w2 T len (.inl p)) (c : CT w2 (.inr p) C N) (hS : TS w T len (.inr p)) (hN : 120 ≤ N ∧ 1 ≤ BB n) : PST w w2 T len (tb (.inr p) (facS T len n)) C (N + BB n) := by
  subst hn
  have z : tb (.inr p) (facS T len 0) = .inl p := by
    show facB T len none p = _
    unfold facB
    rw [if_neg (by omega), if_neg (by omega)]
    rcases h with h | h
    · rw [if_pos h]
    · rw [if_neg (by omega), if_pos h]
  rw [z]
  have b := hS.n p rfl
  refine ⟨f.r, e, ?_⟩
  show CT w2 (.inl p) (C ++ []) _
  rw [List.append_nil]
  exact (c.fail (by omega)).le (by omega)
theorem fac_num {w w2 : Wd} {n : Nat} {l x N : Int} {t : Int ⊕ Int} {C : List (Int × Int)} (hl : l = pkS T len t) (h1 : ¬ (97 ≤ l ∧ l ≤ 100)) (h2 : l ≠ 109) (h3 : l ≠ 40) (h4 : l ≠ 45) (cx : ∀ p, t = .inr p → 1 ≤ rnD T len p ∧ rnD T len p ≤ 3 → x = nvD T p (rnD T len p).toNat) (f : FRR w w2) (e : TS w2 T len (nuT T len t)) (c : CT w2 (nuT T len t) (C ++ [(0, x)]) N) : PST w w2 T len (tb t (facS T len n)) C N := by
  rcases t with q | p
  · exact ⟨f, e, c⟩
  · have hl : l = hT T len p := hl
    rw [hl] at h1 h2 h3 h4
    have z : tb (.inr p) (facS T len n) = numS T len p fun q n => .inr (q, eN n) := by
      show facS T len n p = _
      rw [facS_o]
      unfold facB
      rw [if_neg h1, if_neg h2, if_neg h3, if_neg h4]
    rw [z]
    by_cases y : 1 ≤ rnD T len p ∧ rnD T len p ≤ 3
    · have e2 : nuT T len (.inr p) = .inr (p + rnD T len p) := if_pos y
      have e3 : (numS T len p fun q n => .inr (q, eN n)) = .inr (p + rnD T len p, eN x) := by
        unfold numS
        rw [if_pos y, cx p rfl y]
      rw [e2] at e c
      rw [e3]
      exact ⟨f, e, c⟩
    · have e2 : nuT T len (.inr p) = .inl p := if_neg y
      have e3 : (numS T len p fun q n => .inr (q, eN n)) = .inl p := if_neg y
      rw [e2] at e c
      rw [e3]
      exact ⟨f, e, c⟩
theorem bn_0 {r : PR} : (bn r fun q e => .inr (q, e)) = r := by
  rcases r with q | ⟨q, e⟩ <;> rfl
theorem bn_p0 {r : PR} {f : Int → PR} : (bn r fun q e => proL T len f 0 q e) = r := by
  rcases r with q | ⟨q, e⟩ <;> rfl
theorem bn_s0 {r : PR} {f : Int → PR} : (bn r fun q e => sumL T len f 0 q e) = r := by
  rcases r with q | ⟨q, e⟩ <;> rfl
theorem pro_tb {t : Int ⊕ Int} {f : Int → PR} : tb t (proS T len f) = bn (tb t f) (fun q e => proL T len f 120 q e) := by
  rcases t with q | p <;> rfl
theorem sum_tb {t : Int ⊕ Int} {f : Int → PR} : tb t (sumS T len f) = bn (tb t (proS T len f)) (fun q e => sumL T len f 120 q e) := by
  rcases t with q | p <;> rfl
theorem proL_s {f : Int → PR} {m : Nat} {q : Int} {e : EE} (h : hT T len q = 42) : bn (.inr (q, e)) (fun q e => proL T len f (m + 1) q e) = bn (bn (tb (.inr (q + 1)) f) fun q2 e2 => .inr (q2, eB 4 e e2)) (fun q e => proL T len f m q e) := by
  show proL T len f (m + 1) q e = _
  rw [show proL T len f (m + 1) q e = bn (f (q + 1)) fun q2 e2 => proL T len f m q2 (eB 4 e e2) from if_pos h, show tb (.inr (q + 1)) f = f (q + 1) from rfl]
  rcases f (q + 1) with a | ⟨a, b⟩ <;> rfl
theorem proL_n {f : Int → PR} {m : Nat} {r : PR} (h : ∀ p, pT r = .inr p → hT T len p ≠ 42) : bn r (fun q e => proL T len f (m + 1) q e) = r := by
  rcases r with q | ⟨q, e⟩
  · rfl
  · exact if_neg (h q rfl)
theorem sumL_s {f : Int → PR} {m : Nat} {q k : Int} {e : EE} (h : hT T len q = 43 ∧ k = 2 ∨ hT T len q = 45 ∧ k = 3) : bn (.inr (q, e)) (fun q e => sumL T len f (m + 1) q e) = bn (bn (tb (.inr (q + 1)) (proS T len f)) fun q2 e2 => .inr (q2, eB k e e2)) (fun q e => sumL T len f m q e) := by
  show sumL T len f (m + 1) q e = _
  have hk : (if hT T len q = 43 then 2 else 3 : Int) = k := by split <;> omega
  rw [show sumL T len f (m + 1) q e = bn (proS T len f (q + 1)) fun q2 e2 => sumL T len f m q2 (eB (if hT T len q = 43 then 2 else 3) e e2) from if_pos (by omega), hk, show tb (.inr (q + 1)) (proS T len f) = proS T len f (q + 1) from rfl]
  rcases proS T len f (q + 1) with a | ⟨a, b⟩ <;> rfl
theorem sumL_n {f : Int → PR} {m : Nat} {r : PR} (h : ∀ p, pT r = .inr p → hT T len p ≠ 43) (h2 : ∀ p, pT r = .inr p → hT T len p ≠ 45) : bn r (fun q e => sumL T len f (m + 1) q e) = r := by
  rcases r with q | ⟨q, e⟩
  · rfl
  · exact if_neg (by have := h q rfl; have := h2 q rfl; omega)
theorem it_P {w w2 : Wd} {r : PR} {C : List (Int × Int)} {N k : Int} {e : EE} (f : FRR w w2) (h : TS w2 T len (pT r)) (c : CT w2 (pT r) (C ++ e.1 ++ cd r ++ [(k, 0)]) N) : PST w w2 T len (bn r fun q2 e2 => .inr (q2, eB k e e2)) C N := by
  refine ⟨f, ?_, ?_⟩
  · rw [pT_bn]; exact h
  · rw [pT_bn]
    refine CT.cod c fun x hx => ?_
    obtain ⟨e1, he⟩ := pT_inr hx
    rw [he]
    show C ++ e.1 ++ e1.1 ++ [(k, 0)] = C ++ (e.1 ++ e1.1 ++ [(k, 0)])
    rw [List.append_assoc C, List.append_assoc C]
end
set_option maxRecDepth 8000 in
theorem m_X4_opens {Q : Option AV → Wd → Prop} {w : Wd} (d : Nat) {T : Int → Int} {len : Int} {t : Int ⊕ Int} {l k : Int} (hd : 3 ≤ d) (hw : WR w) (hS : TS w T len t) (hl : 0 ≤ l ∧ l ≤ 1000) (hk : 0 ≤ k ∧ k ≤ 8) (hQ : ∀ r w2, (r = 0 ∨ r = 1) → OPNP T len l k t r w2 → FRT w w2 → WR w2 → Q (some (vI r)) w2) : M mX4_opens (Rm d) [vR (some 356), vI l, vI k] (fl w) (lQ Q) := by
  refine f_mofv (L0 := [some (vR (some 356)), some (vI l), some (vI k)]) rfl (Nat.le_of_ble_eq_true rfl) rfl ?_
  have cut16 : ∀ w1, TS w1 T len t → FRT w w1 → WR w1 → (∀ p, t = .inr p → hT T len p ≠ l ∨ k = 8) → V mX4_opens (Rm d) 0 0 16 [some (vR (some 356)), some (vI l), some (vI k)] [] (fl w1) (lQ Q) := by
    intro w1 hS1 f1 hw1 hh
    have b1 := hS1.raw
    refine r_aload_n (pc := 16) dX4_opens_16 rfl ?_
    refine r_aload_n (pc := 17) dX4_opens_17 rfl ?_
    refine h_X4_69 (pc := 18) rfl dX4_opens_18 (by assumption) (fun h18 => ?_)
    refine c_X4_72 (pc := 21) rfl dX4_opens_21 (by first | assumption | rfl) (by omega) (Nat.le_of_ble_eq_true rfl) ?_
    refine a_fail (d - 1) (by omega) (by assumption) hS1 (by have := hS1.1; omega) (fun w21 e21 f21 hw21 => ?_)
    refine r_iconst (pc := 24) (n := 0) dX4_opens_24 ?_
    exact f_zret (pc := 25) dX4_opens_25 rfl (by first | exact Or.inl rfl | exact Or.inr rfl | omega) (by assumption) (hQ _ _ (Or.inl rfl) (Or.inr ⟨hh, rfl, hS1.hl e21⟩) (f1.tr f21) (by assumption))
  refine r_iload_n (pc := 0) dX4_opens_0 rfl ?_
  refine r_bipush (pc := 1) (n := 8) dX4_opens_1 (by decide) ?_
  refine r_icmpge (pc := 3) (tgt := 16) dX4_opens_3 rfl (by omega) (by omega) (fun h3 => ?_) (fun h3 => ?_)
  · exact cut16 _ hS (FRT.rf _) (by assumption) (fun p _ => Or.inr (by omega))
  refine r_aload_n (pc := 6) dX4_opens_6 rfl ?_
  refine r_iload_n (pc := 7) dX4_opens_7 rfl ?_
  refine c_X4_41 (pc := 8) rfl dX4_opens_8 (by first | assumption | rfl) (by omega) (Nat.le_of_ble_eq_true rfl) ?_
  refine a_accept (d - 1) (by omega) (by assumption) hS (by omega) (fun r8 w8 b8 e8 f8 hw8 => ?_)
  refine r_ifeq (pc := 11) (tgt := 16) dX4_opens_11 rfl (by omega) (fun h11 => ?_) (fun h11 => ?_)
  · rcases e8 with ⟨p, q1, q2, q3, q4⟩ | ⟨q1, q2, q3⟩
    · omega
    · exact cut16 _ q3 f8 (by assumption) (fun p hp => Or.inl (q1 p hp))
  refine r_iconst (pc := 14) (n := 1) dX4_opens_14 ?_
  exact f_zret (pc := 15) dX4_opens_15 rfl (by first | exact Or.inl rfl | exact Or.inr rfl | omega) (by assumption) (hQ _ _ (Or.inr rfl) (by
      rcases e8 with ⟨p, q1, q2, q3, q4⟩ | ⟨q1, q2, q3⟩
      · exact Or.inl ⟨p, q1, q2, by omega, rfl, q4⟩
      · omega) f8 (by assumption))
set_option maxRecDepth 8000 in
theorem m_X4_curve {Q : Option AV → Wd → Prop} {w : Wd} (d : Nat) {T : Int → Int} {len N : Int} {C : List (Int × Int)} {l p : Int} (hd : 4 ≤ d) (hw : WR w) (hS : TS w T len (.inr p)) (hC : CT w (.inr p) C N) (hN : 120 ≤ N ∧ N ≤ 9000) (hl : hT T len p = l) (hl2 : 97 ≤ l ∧ l ≤ 100) (hQ : ∀ w2, PST w w2 T len (curS T len p l) C (N + 1) → WR w2 → Q none w2) : M mX4_curve (Rm d) [vR (some 358), vR (some 356), vI l] (fl w) (lQ Q) := by
  have pl := hT_pos (T := T) (len := len) (p := p) (by omega)
  have hl8 := (hS.n p rfl).2.2
  refine f_mofv (L0 := [some (vR (some 358)), some (vR (some 356)), some (vI l), none]) rfl (Nat.le_of_ble_eq_true rfl) rfl ?_
  have cut22 : ∀ (b : Int) (t2 : Int ⊕ Int) (w1 : Wd), 0 ≤ b ∧ b ≤ 999 → TS w1 T len t2 → CT w1 t2 C N → FRT w w1 → WR w1 → (∀ q, t2 = .inr q → p < q ∧ q ≤ len ∧ curS T len p l = .inr (q, eC (l - 97) b)) → (∀ q, t2 = .inl q → curS T len p l = .inl q) → V mX4_curve (Rm d) 0 0 22 [some (vR (some 358)), some (vR (some 356)), some (vI l), none] [vI b] (fl w1) (lQ Q) := by
    intro b t2 w1 hb hS1 hC1 f1 hw1 h1 h2
    refine r_istore3 (pc := 22) dX4_curve_22 rfl ?_
    refine r_aload_n (pc := 23) dX4_curve_23 rfl ?_
    refine h_X4_12 (pc := 24) rfl dX4_curve_24 ?_
    refine r_iconst (pc := 27) (n := 1) dX4_curve_27 ?_
    refine r_iload_n (pc := 28) dX4_curve_28 rfl ?_
    refine r_bipush (pc := 29) (n := 97) dX4_curve_29 (by decide) ?_
    refine r_isub (pc := 31) dX4_curve_31 ?_
    refine r_sipush (pc := 32) (n := 1000) dX4_curve_32 (by decide) ?_
    refine r_imul (pc := 35) dX4_curve_35 ?_
    refine r_iload_n (pc := 36) dX4_curve_36 rfl ?_
    refine r_iadd (pc := 37) dX4_curve_37 ?_
    refine c_X4_45 (pc := 38) rfl dX4_curve_38 (by first | assumption | rfl) (by omega) (Nat.le_of_ble_eq_true rfl) ?_
    refine a_add (N := N) (d - 1) (by omega) (by assumption) hS1 hC1 (by omega) (fun q hq => by have := hC.2; have := h1 q hq; omega) (by omega) (by omega) (fun w38 f38 e38 c38 hw38 => ?_)
    exact f_vret (pc := 41) dX4_curve_41 rfl (by assumption) (hQ _ (cur_end h1 h2 (f1.r.tr f38) e38 c38) (by assumption))
  refine r_aload_n (pc := 0) dX4_curve_0 rfl ?_
  refine r_iload_n (pc := 1) dX4_curve_1 rfl ?_
  refine c_X4_62 (pc := 2) rfl dX4_curve_2 (by first | assumption | rfl) (by omega) (Nat.le_of_ble_eq_true rfl) ?_
  refine a_expect (d - 1) (by omega) (by assumption) hS (by omega) (fun w2 e2 f2 hw2 => ?_)
  rw [exT_y hl] at e2
  refine r_aload_n (pc := 5) dX4_curve_5 rfl ?_
  refine r_bipush (pc := 6) (n := 64) dX4_curve_6 (by decide) ?_
  refine c_X4_41 (pc := 8) rfl dX4_curve_8 (by first | assumption | rfl) (by omega) (Nat.le_of_ble_eq_true rfl) ?_
  refine a_accept (d - 1) (by omega) (by assumption) e2 (by omega) (fun r8 w8 b8 e8 f8 hw8 => ?_)
  refine r_ifeq (pc := 11) (tgt := 21) dX4_curve_11 rfl (by omega) (fun h11 => ?_) (fun h11 => ?_)
  · have E8 : hT T len (p + 1) ≠ 64 ∧ TS w8 T len (.inr (p + 1)) := by
      rcases e8 with ⟨p, q1, q2, q3, q4⟩ | ⟨q1, q2, q3⟩
      · omega
      · exact ⟨q1 _ rfl, q3⟩
    refine r_iconst (pc := 21) (n := 0) dX4_curve_21 ?_
    exact cut22 _ _ _ (by omega) E8.2 ((hC.kp (f2.tr f8)).mv (show p ≤ p + 1 by omega)) (f2.tr f8) (by assumption) (fun q hq => cur_r2 pl E8.1 hq) (fun q hq => by cases hq)
  have E8 : hT T len (p + 1) = 64 ∧ TS w8 T len (.inr (p + 2)) := by
    rcases e8 with ⟨p2, q1, q2, q3, q4⟩ | ⟨q1, q2, q3⟩
    · cases q1
      exact ⟨q2, by rw [show p + 2 = p + 1 + 1 by omega]; exact q4⟩
    · omega
  refine r_aload_n (pc := 14) dX4_curve_14 rfl ?_
  refine c_X4_66 (pc := 15) rfl dX4_curve_15 (by first | assumption | rfl) (by omega) (Nat.le_of_ble_eq_true rfl) ?_
  have pl2 := hT_pos (T := T) (len := len) (p := p + 1) (by omega)
  refine a_number (d - 1) (by omega) (by assumption) E8.2 (fun r15 w15 b15 c15 e15 f15 hw15 => ?_)
  have C15 := (((hC.kp (f2.tr f8)).mv (show p ≤ p + 2 by omega)).nu (T := T) (len := len) (fun q hq => by cases hq; omega)).kp f15
  refine r_goto (pc := 18) (tgt := 22) dX4_curve_18 rfl ?_
  exact cut22 _ _ _ (by omega) e15 C15 (f2.tr (f8.tr f15)) (by assumption) (fun q hq => cur_r1 pl E8.1 hq (c15 _ rfl)) (fun q hq => cur_l1 E8.1 hq)
set_option maxRecDepth 8000 in
theorem m_X4_choice {Q : Option AV → Wd → Prop} {w : Wd} (d : Nat) {T : Int → Int} {len N : Int} {C : List (Int × Int)} {n : Nat} {p : Int} (hn : n ≤ 8) (hsub : ∀ m, n = m + 1 → SUMC m) (hd : 4 * n + 7 ≤ d) (hw : WR w) (hS : TS w T len (.inr p)) (hC : CT w (.inr p) C N) (hN : 120 ≤ N ∧ N + BB n + 3 ≤ 9000) (hl : hT T len p = 109) (hQ : ∀ w2, PST w w2 T len (choS T len (oS T len n) p) C (N + BB n) → WR w2 → Q none w2) : M mX4_choice (Rm d) [vR (some 358), vR (some 356), vI (8 - n)] (fl w) (lQ Q) := by
  have pl := hT_pos (T := T) (len := len) (p := p) (by omega)
  have hl8 := (hS.n p rfl).2.2
  have B1 := BB_1 n
  refine f_mofv (L0 := [some (vR (some 358)), some (vR (some 356)), some (vI (8 - n)), none]) rfl (Nat.le_of_ble_eq_true rfl) rfl ?_
  have cut90 : ∀ (z k : Int) (w1 : Wd), (k = if z = 0 then 6 else 5) → ∀ (t1 : Int ⊕ Int) (D : List (Int × Int)), TS w1 T len t1 → CT w1 t1 D (N + BB n - 1) → FRR w w1 → WR w1 → (∀ q, t1 = .inr q → (D.length : Int) < q) → t1 = pT (choS T len (oS T len n) p) → (∀ q, t1 = .inr q → D ++ [(k, 0)] = C ++ cd (choS T len (oS T len n) p)) → V mX4_choice (Rm d) 0 0 90 [some (vR (some 358)), some (vR (some 356)), some (vI (8 - n)), some (vI z)] [vI k, vR (some 359)] (fl w1) (lQ Q) := by
    intro z k w1 hk t1 D hS1 hC1 f1 hw1 hD ht hc
    have hkb : R32 k := by rw [hk]; split <;> constructor <;> omega
    refine r_iconst (pc := 90) (n := 0) dX4_choice_90 ?_
    refine c_X4_45 (pc := 91) rfl dX4_choice_91 (by first | assumption | rfl) (by omega) (Nat.le_of_ble_eq_true rfl) ?_
    refine a_add (N := (N + BB n - 1)) (d - 1) (by omega) (by assumption) hS1 hC1 (by omega) hD (by omega) (by omega) (fun w91 f91 e91 c91 hw91 => ?_)
    exact f_vret (pc := 94) dX4_choice_94 rfl (by assumption) (hQ _ ⟨f1.tr f91, by rw [← ht]; exact e91, by rw [← ht]; exact (c91.le (by omega)).cod hc⟩ (by assumption))
  have cut35 : ∀ (z l k : Int) (t1 : Int ⊕ Int) (w1 : Wd), (z = 1 ∧ l = 110 ∧ k = 5 ∨ z = 0 ∧ l = 120 ∧ k = 6) → TS w1 T len t1 → CT w1 t1 C N → FRT w w1 → WR w1 → (∀ q, t1 = .inr q → p < q) → choS T len (oS T len n) p = tb (exT T len l t1) (fun q => mst T len 40 q (choO T len (oS T len n) k q)) → V mX4_choice (Rm d) 0 0 35 [some (vR (some 358)), some (vR (some 356)), some (vI (8 - n)), some (vI z)] [vI l, vR (some 356)] (fl w1) (lQ Q) := by
    intro z l k t1 w1 hz hS1 hC1 f1 hw1 hq1 hch
    have hz2 : k = if z = 0 then 6 else 5 := by split <;> omega
    refine c_X4_62 (pc := 35) rfl dX4_choice_35 (by first | assumption | rfl) (by omega) (Nat.le_of_ble_eq_true rfl) ?_
    refine a_expect (d - 1) (by omega) (by assumption) hS1 (by omega) (fun w35 e35 f35 hw35 => ?_)
    have c35 := (hC1.ex (T := T) (len := len) (l := l) (fun q hq => by have := hS1.n q hq; omega)).kp f35
    refine r_aload_n (pc := 38) dX4_choice_38 rfl ?_
    refine r_bipush (pc := 39) (n := 40) dX4_choice_39 (by decide) ?_
    refine r_iload_n (pc := 41) dX4_choice_41 rfl ?_
    refine c_X4_58 (pc := 42) rfl dX4_choice_42 (by omega) (Nat.le_of_ble_eq_true rfl) ?_
    refine m_X4_opens (d - 1) (by omega) (by assumption) e35 (by omega) (by omega) (fun r42 w42 b42 e42 f42 hw42 => ?_)
    refine r_ifeq (pc := 45) (tgt := 94) dX4_choice_45 rfl (by omega) (fun h45 => ?_) (fun h45 => ?_)
    · have E42 : (∀ q, exT T len l t1 = .inr q → hT T len q ≠ 40 ∨ 8 - (n : Int) = 8) ∧ TS w42 T len (flH (exT T len l t1)) := by
        rcases e42 with ⟨p, q1, q2, q3, q4, q5⟩ | ⟨q1, q2, q3⟩
        · omega
        · exact ⟨q1, q3⟩
      exact f_vret (pc := 94) dX4_choice_94 rfl (by assumption) (hQ _ (cho_no hch E42.1 (((f1.tr f35).tr f42).r) E42.2 ((c35.kp f42).le (by omega)) (fun q hq => by have := e35.n q hq; omega)) (by assumption))
    have E42 : ∃ q, exT T len l t1 = .inr q ∧ hT T len q = 40 ∧ 8 - (n : Int) < 8 ∧ r42 = 1 ∧ TS w42 T len (.inr (q + 1)) := by
      rcases e42 with z | ⟨q1, q2, q3⟩
      · exact z
      · omega
    refine r_aload_n (pc := 48) dX4_choice_48 rfl ?_
    refine r_aload_n (pc := 49) dX4_choice_49 rfl ?_
    refine r_iload_n (pc := 50) dX4_choice_50 rfl ?_
    refine r_iconst (pc := 51) (n := 1) dX4_choice_51 ?_
    refine r_iadd (pc := 52) dX4_choice_52 ?_
    refine c_X4_27 (pc := 53) rfl dX4_choice_53 (by first | assumption | rfl) (by omega) (Nat.le_of_ble_eq_true rfl) ?_
    obtain ⟨q, q1, q2, q3, q4, q5⟩ := E42
    obtain ⟨m, hm⟩ : ∃ m, n = m + 1 := ⟨n - 1, by omega⟩
    subst hm
    rw [show 8 - ((m + 1 : Nat) : Int) + 1 = 8 - m by omega]
    rw [q1] at c35
    obtain ⟨zz, z1, z2⟩ := ex_inr2 q1
    have pq0 := hq1 _ z1
    have pq : p < q := by omega
    have ql := hT_pos (T := T) (len := len) (p := q) (by omega)
    have BBm := BB_s m
    have B1m := BB_1 m
    refine hsub m rfl _ _ (d - 1) T len N (.inr (q + 1)) C (by omega) (by assumption) q5 ((c35.kp f42).mv (by omega)) (by omega) (by omega) (fun w53 p53 hw53 => ?_)
    obtain ⟨f53, e53, c53⟩ := p53
    refine r_aload_n (pc := 56) dX4_choice_56 rfl ?_
    refine r_bipush (pc := 57) (n := 44) dX4_choice_57 (by decide) ?_
    refine c_X4_62 (pc := 59) rfl dX4_choice_59 (by first | assumption | rfl) (by omega) (Nat.le_of_ble_eq_true rfl) ?_
    refine a_expect (d - 1) (by omega) (by assumption) e53 (by omega) (fun w59 e59 f59 hw59 => ?_)
    have c59 := (c53.ex (T := T) (len := len) (l := 44) (fun q hq => by have := e53.n q hq; omega)).kp f59
    refine r_aload_n (pc := 62) dX4_choice_62 rfl ?_
    refine r_aload_n (pc := 63) dX4_choice_63 rfl ?_
    refine r_iload_n (pc := 64) dX4_choice_64 rfl ?_
    refine r_iconst (pc := 65) (n := 1) dX4_choice_65 ?_
    refine r_iadd (pc := 66) dX4_choice_66 ?_
    refine c_X4_27 (pc := 67) rfl dX4_choice_67 (by first | assumption | rfl) (by omega) (Nat.le_of_ble_eq_true rfl) ?_
    rw [show 8 - ((m + 1 : Nat) : Int) + 1 = 8 - m by omega]
    refine hsub m rfl _ _ (d - 1) T len (N + (BB m + 2)) _ _ (by omega) (by assumption) e59 c59 (by omega) (by omega) (fun w67 p67 hw67 => ?_)
    obtain ⟨f67, e67, c67⟩ := p67
    refine r_aload_n (pc := 70) dX4_choice_70 rfl ?_
    refine r_bipush (pc := 71) (n := 41) dX4_choice_71 (by decide) ?_
    refine c_X4_62 (pc := 73) rfl dX4_choice_73 (by first | assumption | rfl) (by omega) (Nat.le_of_ble_eq_true rfl) ?_
    refine a_expect (d - 1) (by omega) (by assumption) e67 (by omega) (fun w73 e73 f73 hw73 => ?_)
    have c73 := ((c67.ex (T := T) (len := len) (l := 41) (fun q hq => by have := e67.n q hq; omega)).kp f73).le (show N + (BB m + 2) + (BB m + 2) ≤ N + BB (m + 1) - 1 by omega)
    have F73 := (((((f1.tr f35).tr f42).r.tr f53).trT f59).tr f67).trT f73
    have XX : choS T len (oS T len (m + 1)) p = choT T len (facS T len m) k (q + 1) := by rw [hch, q1]; exact mst_y q2
    have X2 : exT T len 41 (pT (tb (exT T len 44 (pT (tb (.inr (q + 1)) (sumS T len (facS T len m))))) (sumS T len (facS T len m)))) = pT (choS T len (oS T len (m + 1)) p) := by rw [XX]; exact choT_p
    have X1 := choT_len (T := T) (len := len) (f := facS T len m) (GP_fac m) (q := q + 1) (C := C) (by omega) (by have := c35.2; omega)
    have X3 := choT_c (T := T) (len := len) (f := facS T len m) (k := k) (q := q + 1) (C := C)
    rw [← XX] at X3
    refine r_aload_n (pc := 76) dX4_choice_76 rfl ?_
    refine h_X4_12 (pc := 77) rfl dX4_choice_77 ?_
    refine r_iload_n (pc := 80) dX4_choice_80 rfl ?_
    refine r_ifeq (pc := 81) (tgt := 88) dX4_choice_81 rfl (by omega) (fun h81 => ?_) (fun h81 => ?_)
    · refine r_bipush (pc := 88) (n := 6) dX4_choice_88 (by decide) ?_
      exact cut90 _ 6 _ (if_pos (show z = 0 by omega)).symm _ _ e73 c73 F73 (by assumption) X1 X2 (fun q hq => by rw [show (6 : Int) = k by rw [hz2, if_pos (show z = 0 by omega)]]; exact X3 q hq)
    refine r_iconst (pc := 84) (n := 5) dX4_choice_84 ?_
    refine r_goto (pc := 85) (tgt := 90) dX4_choice_85 rfl ?_
    exact cut90 _ 5 _ (if_neg (show ¬ z = 0 by omega)).symm _ _ e73 c73 F73 (by assumption) X1 X2 (fun q hq => by rw [show (5 : Int) = k by rw [hz2, if_neg (show ¬ z = 0 by omega)]]; exact X3 q hq)
  refine r_aload_n (pc := 0) dX4_choice_0 rfl ?_
  refine r_bipush (pc := 1) (n := 109) dX4_choice_1 (by decide) ?_
  refine c_X4_62 (pc := 3) rfl dX4_choice_3 (by first | assumption | rfl) (by omega) (Nat.le_of_ble_eq_true rfl) ?_
  refine a_expect (d - 1) (by omega) (by assumption) hS (by omega) (fun w3 e3 f3 hw3 => ?_)
  rw [exT_y hl] at e3
  refine r_aload_n (pc := 6) dX4_choice_6 rfl ?_
  refine r_bipush (pc := 7) (n := 105) dX4_choice_7 (by decide) ?_
  refine c_X4_41 (pc := 9) rfl dX4_choice_9 (by first | assumption | rfl) (by omega) (Nat.le_of_ble_eq_true rfl) ?_
  refine a_accept (d - 1) (by omega) (by assumption) e3 (by omega) (fun r9 w9 b9 e9 f9 hw9 => ?_)
  refine r_istore3 (pc := 12) dX4_choice_12 rfl ?_
  refine r_iload_n (pc := 13) dX4_choice_13 rfl ?_
  refine r_ifne (pc := 14) (tgt := 23) dX4_choice_14 rfl (by omega) (fun h14 => ?_) (fun h14 => ?_)
  · have E9 : hT T len (p + 1) = 105 ∧ TS w9 T len (.inr (p + 2)) := by
      rcases e9 with ⟨p2, q1, q2, q3, q4⟩ | ⟨q1, q2, q3⟩
      · cases q1
        exact ⟨q2, by rw [show p + 2 = p + 1 + 1 by omega]; exact q4⟩
      · omega
    refine r_aload_n (pc := 23) dX4_choice_23 rfl ?_
    refine r_iload_n (pc := 24) dX4_choice_24 rfl ?_
    refine r_ifeq (pc := 25) (tgt := 33) dX4_choice_25 rfl (by omega) (fun h25 => ?_) (fun h25 => ?_)
    · refine r_bipush (pc := 33) (n := 120) dX4_choice_33 (by decide) ?_
      first
        | omega
        | exact cut35 r9 120 6 _ _ (Or.inr ⟨by omega, rfl, rfl⟩) e20 ((CT.ex (T := T) (len := len) (l := 97) ((hC.kp (f3.tr f9)).mv (show p ≤ p + 1 by omega)) (fun q hq => by cases hq; omega)).kp f20) ((f3.tr f9).tr f20) (by assumption) (fun q hq => by have := ex_inr hq; omega) (cho_6 E9.1)
    refine r_bipush (pc := 28) (n := 110) dX4_choice_28 (by decide) ?_
    refine r_goto (pc := 30) (tgt := 35) dX4_choice_30 rfl ?_
    first
      | omega
      | exact cut35 r9 110 5 _ _ (Or.inl ⟨by omega, rfl, rfl⟩) E9.2 ((hC.kp (f3.tr f9)).mv (show p ≤ p + 2 by omega)) (f3.tr f9) (by assumption) (fun q hq => by cases hq; omega) (cho_5 E9.1)
  have E9 : hT T len (p + 1) ≠ 105 ∧ TS w9 T len (.inr (p + 1)) := by
    rcases e9 with ⟨p, q1, q2, q3, q4⟩ | ⟨q1, q2, q3⟩
    · omega
    · exact ⟨q1 _ rfl, q3⟩
  refine r_aload_n (pc := 17) dX4_choice_17 rfl ?_
  refine r_bipush (pc := 18) (n := 97) dX4_choice_18 (by decide) ?_
  refine c_X4_62 (pc := 20) rfl dX4_choice_20 (by first | assumption | rfl) (by omega) (Nat.le_of_ble_eq_true rfl) ?_
  refine a_expect (d - 1) (by omega) (by assumption) E9.2 (by omega) (fun w20 e20 f20 hw20 => ?_)
  refine r_aload_n (pc := 23) dX4_choice_23 rfl ?_
  refine r_iload_n (pc := 24) dX4_choice_24 rfl ?_
  refine r_ifeq (pc := 25) (tgt := 33) dX4_choice_25 rfl (by omega) (fun h25 => ?_) (fun h25 => ?_)
  · refine r_bipush (pc := 33) (n := 120) dX4_choice_33 (by decide) ?_
    first
      | omega
      | exact cut35 r9 120 6 _ _ (Or.inr ⟨by omega, rfl, rfl⟩) e20 ((CT.ex (T := T) (len := len) (l := 97) ((hC.kp (f3.tr f9)).mv (show p ≤ p + 1 by omega)) (fun q hq => by cases hq; omega)).kp f20) ((f3.tr f9).tr f20) (by assumption) (fun q hq => by have := ex_inr hq; omega) (cho_6 E9.1)
  refine r_bipush (pc := 28) (n := 110) dX4_choice_28 (by decide) ?_
  refine r_goto (pc := 30) (tgt := 35) dX4_choice_30 rfl ?_
  first
    | omega
    | exact cut35 r9 110 5 _ _ (Or.inl ⟨by omega, rfl, rfl⟩) E9.2 ((hC.kp (f3.tr f9)).mv (show p ≤ p + 2 by omega)) (f3.tr f9) (by assumption) (fun q hq => by cases hq; omega) (cho_5 E9.1)
set_option maxRecDepth 8000 in
theorem facC {Q : Option AV → Wd → Prop} {w : Wd} (d : Nat) {T : Int → Int} {len N : Int} {t : Int ⊕ Int} {C : List (Int × Int)} {n : Nat} (hn : n ≤ 8) (hsub : ∀ m, n = m + 1 → SUMC m ∧ FACC m) (hd : 4 * n + 8 ≤ d) (hw : WR w) (hS : TS w T len t) (hC : CT w t C N) (hN : 120 ≤ N) (hN2 : N + BB n + 3 ≤ 9000) (hQ : ∀ w2, PST w w2 T len (tb t (facS T len n)) C (N + BB n) → WR w2 → Q none w2) : M mX4_factor (Rm d) [vR (some 358), vR (some 356), vI (8 - n)] (fl w) (lQ Q) := by
  have B1 := BB_1 n
  refine f_mofv (L0 := [some (vR (some 358)), some (vR (some 356)), some (vI (8 - n)), none]) rfl (Nat.le_of_ble_eq_true rfl) rfl ?_
  have cut26 : ∀ l : Int, l = pkS T len t → R32 l → ¬ (97 ≤ l ∧ l ≤ 100) → V mX4_factor (Rm d) 0 0 26 [some (vR (some 358)), some (vR (some 356)), some (vI (8 - n)), some (vI l)] [] (fl w) (lQ Q) := by
    intro l hl hlr hn1
    refine r_iload_n (pc := 26) dX4_factor_26 rfl ?_
    refine r_bipush (pc := 27) (n := 109) dX4_factor_27 (by decide) ?_
    refine r_icmpne (pc := 29) (tgt := 41) dX4_factor_29 rfl (by omega) (by omega) (fun h29 => ?_) (fun h29 => ?_)
    · refine r_iload_n (pc := 41) dX4_factor_41 rfl ?_
      refine r_bipush (pc := 42) (n := 40) dX4_factor_42 (by decide) ?_
      refine r_icmpne (pc := 44) (tgt := 73) dX4_factor_44 rfl (by omega) (by omega) (fun h44 => ?_) (fun h44 => ?_)
      · refine r_iload_n (pc := 73) dX4_factor_73 rfl ?_
        refine r_bipush (pc := 74) (n := 45) dX4_factor_74 (by decide) ?_
        refine r_icmpne (pc := 76) (tgt := 109) dX4_factor_76 rfl (by omega) (by omega) (fun h76 => ?_) (fun h76 => ?_)
        · refine r_aload_n (pc := 109) dX4_factor_109 rfl ?_
          refine h_X4_12 (pc := 110) rfl dX4_factor_110 ?_
          refine r_iconst (pc := 113) (n := 0) dX4_factor_113 ?_
          refine r_aload_n (pc := 114) dX4_factor_114 rfl ?_
          refine c_X4_66 (pc := 115) rfl dX4_factor_115 (by first | assumption | rfl) (by omega) (Nat.le_of_ble_eq_true rfl) ?_
          refine a_number (d - 1) (by omega) (by assumption) hS (fun r115 w115 b115 c115 e115 f115 hw115 => ?_)
          have C115 := (hC.nu (T := T) (len := len) (fun q hq => by have := hS.n q hq; omega)).kp f115
          refine c_X4_45 (pc := 118) rfl dX4_factor_118 (by first | assumption | rfl) (by omega) (Nat.le_of_ble_eq_true rfl) ?_
          refine a_add (N := N) (d - 1) (by omega) (by assumption) e115 C115 (by omega) (fun q hq => by obtain ⟨p, y1, y2⟩ := nu_inr hq; subst y1; have := hC.2; omega) (by omega) (by omega) (fun w118 f118 e118 c118 hw118 => ?_)
          exact f_vret (pc := 121) dX4_factor_121 rfl (by assumption) (hQ _ (fac_num hl hn1 (by omega) (by omega) (by omega) c115 (f115.r.tr f118) e118 (c118.le (by omega))) (by assumption))
        refine r_aload_n (pc := 79) dX4_factor_79 rfl ?_
        refine r_iload_n (pc := 80) dX4_factor_80 rfl ?_
        refine r_iload_n (pc := 81) dX4_factor_81 rfl ?_
        refine c_X4_58 (pc := 82) rfl dX4_factor_82 (by omega) (Nat.le_of_ble_eq_true rfl) ?_
        obtain ⟨p, tp, hp⟩ := pk_inr hl (by omega)
        subst tp
        refine m_X4_opens (d - 1) (by omega) (by assumption) hS (by omega) (by omega) (fun r82 w82 b82 e82 f82 hw82 => ?_)
        refine r_ifeq (pc := 85) (tgt := 121) dX4_factor_85 rfl (by omega) (fun h85 => ?_) (fun h85 => ?_)
        · have E82 : n = 0 ∧ TS w82 T len (.inl p) := by
            rcases e82 with ⟨p2, q1, q2, q3, q4, q5⟩ | ⟨q1, q2, q3⟩
            · omega
            · have := q1 p rfl
              exact ⟨by omega, q3⟩
          exact f_vret (pc := 121) dX4_factor_121 rfl (by assumption) (hQ _ (fac_no0 E82.1 (Or.inr (by omega)) f82 E82.2 (hC.kp f82) hS (by omega)) (by assumption))
        have E82 : 8 - (n : Int) < 8 ∧ TS w82 T len (.inr (p + 1)) := by
          rcases e82 with ⟨p2, q1, q2, q3, q4, q5⟩ | ⟨q1, q2, q3⟩
          · cases q1
            exact ⟨q3, q5⟩
          · omega
        refine r_aload_n (pc := 88) dX4_factor_88 rfl ?_
        refine r_aload_n (pc := 89) dX4_factor_89 rfl ?_
        refine r_iload_n (pc := 90) dX4_factor_90 rfl ?_
        refine r_iconst (pc := 91) (n := 1) dX4_factor_91 ?_
        refine r_iadd (pc := 92) dX4_factor_92 ?_
        refine c_X4_49 (pc := 93) rfl dX4_factor_93 (by first | assumption | rfl) (by omega) (Nat.le_of_ble_eq_true rfl) ?_
        obtain ⟨m, hm⟩ : ∃ m, n = m + 1 := ⟨n - 1, by omega⟩
        subst hm
        rw [show 8 - ((m + 1 : Nat) : Int) + 1 = 8 - m by omega]
        have BBm := BB_s m
        have B1m := BB_1 m
        have pl := hT_pos (T := T) (len := len) (p := p) (by omega)
        refine (hsub m rfl).2 _ _ (d - 1) T len N (.inr (p + 1)) C (by omega) (by assumption) E82.2 ((hC.kp f82).mv (by omega)) (by omega) (by omega) (fun w93 p93 hw93 => ?_)
        obtain ⟨f93, e93, c93⟩ := p93
        refine r_aload_n (pc := 96) dX4_factor_96 rfl ?_
        refine h_X4_12 (pc := 97) rfl dX4_factor_97 ?_
        refine r_bipush (pc := 100) (n := 7) dX4_factor_100 (by decide) ?_
        refine r_iconst (pc := 102) (n := 0) dX4_factor_102 ?_
        refine c_X4_45 (pc := 103) rfl dX4_factor_103 (by first | assumption | rfl) (by omega) (Nat.le_of_ble_eq_true rfl) ?_
        refine a_add (N := (N + BB m)) (d - 1) (by omega) (by assumption) e93 c93 (by omega) (fun q hq => neg_len (GP_fac m) (by omega) (by have := hC.2; omega) hq) (by omega) (by omega) (fun w103 f103 e103 c103 hw103 => ?_)
        refine r_goto (pc := 106) (tgt := 121) dX4_factor_106 rfl ?_
        exact f_vret (pc := 121) dX4_factor_121 rfl (by assumption) (hQ _ (fac_neg (by omega) ((f82.r.tr f93).tr f103) e103 (c103.le (by omega))) (by assumption))
      refine r_aload_n (pc := 47) dX4_factor_47 rfl ?_
      refine r_iload_n (pc := 48) dX4_factor_48 rfl ?_
      refine r_iload_n (pc := 49) dX4_factor_49 rfl ?_
      refine c_X4_58 (pc := 50) rfl dX4_factor_50 (by omega) (Nat.le_of_ble_eq_true rfl) ?_
      obtain ⟨p, tp, hp⟩ := pk_inr hl (by omega)
      subst tp
      refine m_X4_opens (d - 1) (by omega) (by assumption) hS (by omega) (by omega) (fun r50 w50 b50 e50 f50 hw50 => ?_)
      refine r_ifeq (pc := 53) (tgt := 121) dX4_factor_53 rfl (by omega) (fun h53 => ?_) (fun h53 => ?_)
      · have E50 : n = 0 ∧ TS w50 T len (.inl p) := by
          rcases e50 with ⟨p2, q1, q2, q3, q4, q5⟩ | ⟨q1, q2, q3⟩
          · omega
          · have := q1 p rfl
            exact ⟨by omega, q3⟩
        exact f_vret (pc := 121) dX4_factor_121 rfl (by assumption) (hQ _ (fac_no0 E50.1 (Or.inl (by omega)) f50 E50.2 (hC.kp f50) hS (by omega)) (by assumption))
      have E50 : 8 - (n : Int) < 8 ∧ TS w50 T len (.inr (p + 1)) := by
        rcases e50 with ⟨p2, q1, q2, q3, q4, q5⟩ | ⟨q1, q2, q3⟩
        · cases q1
          exact ⟨q3, q5⟩
        · omega
      refine r_aload_n (pc := 56) dX4_factor_56 rfl ?_
      refine r_aload_n (pc := 57) dX4_factor_57 rfl ?_
      refine r_iload_n (pc := 58) dX4_factor_58 rfl ?_
      refine r_iconst (pc := 59) (n := 1) dX4_factor_59 ?_
      refine r_iadd (pc := 60) dX4_factor_60 ?_
      refine c_X4_27 (pc := 61) rfl dX4_factor_61 (by first | assumption | rfl) (by omega) (Nat.le_of_ble_eq_true rfl) ?_
      obtain ⟨m, hm⟩ : ∃ m, n = m + 1 := ⟨n - 1, by omega⟩
      subst hm
      rw [show 8 - ((m + 1 : Nat) : Int) + 1 = 8 - m by omega]
      have BBm := BB_s m
      have B1m := BB_1 m
      have pl := hT_pos (T := T) (len := len) (p := p) (by omega)
      refine (hsub m rfl).1 _ _ (d - 1) T len N (.inr (p + 1)) C (by omega) (by assumption) E50.2 ((hC.kp f50).mv (by omega)) (by omega) (by omega) (fun w61 p61 hw61 => ?_)
      obtain ⟨f61, e61, c61⟩ := p61
      refine r_aload_n (pc := 64) dX4_factor_64 rfl ?_
      refine r_bipush (pc := 65) (n := 41) dX4_factor_65 (by decide) ?_
      refine c_X4_62 (pc := 67) rfl dX4_factor_67 (by first | assumption | rfl) (by omega) (Nat.le_of_ble_eq_true rfl) ?_
      refine a_expect (d - 1) (by omega) (by assumption) e61 (by omega) (fun w67 e67 f67 hw67 => ?_)
      have c67 := (c61.ex (T := T) (len := len) (l := 41) (fun q hq => by have := e61.n q hq; omega)).kp f67
      refine r_goto (pc := 70) (tgt := 121) dX4_factor_70 rfl ?_
      exact f_vret (pc := 121) dX4_factor_121 rfl (by assumption) (hQ _ (fac_par (by omega) ((f50.r.tr f61).trT f67) e67 (c67.le (by omega))) (by assumption))
    refine r_aload_n (pc := 32) dX4_factor_32 rfl ?_
    refine r_aload_n (pc := 33) dX4_factor_33 rfl ?_
    refine r_iload_n (pc := 34) dX4_factor_34 rfl ?_
    refine c_X4_55 (pc := 35) rfl dX4_factor_35 (by first | assumption | rfl) (by omega) (Nat.le_of_ble_eq_true rfl) ?_
    obtain ⟨p, tp, hp⟩ := pk_inr hl (by omega)
    subst tp
    refine m_X4_choice (d - 1) hn (fun m hm => (hsub m hm).1) (by omega) (by assumption) hS hC (by omega) (by omega) (fun w35 p35 hw35 => ?_)
    refine r_goto (pc := 38) (tgt := 121) dX4_factor_38 rfl ?_
    exact f_vret (pc := 121) dX4_factor_121 rfl (by assumption) (hQ _ (by rw [show tb (.inr p) (facS T len n) = choS T len (oS T len n) p from fac_m (by omega)]; exact p35) (by assumption))
  refine r_aload_n (pc := 0) dX4_factor_0 rfl ?_
  refine c_X4_38 (pc := 1) rfl dX4_factor_1 (by first | assumption | rfl) (by omega) (Nat.le_of_ble_eq_true rfl) ?_
  refine a_peek (d - 1) (by omega) (by assumption) hS (fun r1 e1 b1 => ?_)
  refine r_istore3 (pc := 4) dX4_factor_4 rfl ?_
  refine r_iload_n (pc := 5) dX4_factor_5 rfl ?_
  refine r_bipush (pc := 6) (n := 97) dX4_factor_6 (by decide) ?_
  refine r_icmplt (pc := 8) (tgt := 26) dX4_factor_8 rfl (by omega) (by omega) (fun h8 => ?_) (fun h8 => ?_)
  · exact cut26 _ e1 b1 (by omega)
  refine r_iload_n (pc := 11) dX4_factor_11 rfl ?_
  refine r_bipush (pc := 12) (n := 100) dX4_factor_12 (by decide) ?_
  refine r_icmpgt (pc := 14) (tgt := 26) dX4_factor_14 rfl (by omega) (by omega) (fun h14 => ?_) (fun h14 => ?_)
  · exact cut26 _ e1 b1 (by omega)
  refine r_aload_n (pc := 17) dX4_factor_17 rfl ?_
  refine r_aload_n (pc := 18) dX4_factor_18 rfl ?_
  refine r_iload_n (pc := 19) dX4_factor_19 rfl ?_
  refine c_X4_52 (pc := 20) rfl dX4_factor_20 (by first | assumption | rfl) (by omega) (Nat.le_of_ble_eq_true rfl) ?_
  obtain ⟨p, tp, hp⟩ := pk_inr e1 (by omega)
  subst tp
  refine m_X4_curve (d - 1) (by omega) (by assumption) hS hC (by omega) hp (by omega) (fun w20 p20 hw20 => ?_)
  refine r_goto (pc := 23) (tgt := 121) dX4_factor_23 rfl ?_
  exact f_vret (pc := 121) dX4_factor_121 rfl (by assumption) (hQ _ (by rw [show tb (.inr p) (facS T len n) = curS T len p r1 from by rw [← hp]; exact fac_c (by omega)]; exact p20.le (by omega)) (by assumption))
set_option maxRecDepth 8000 in
theorem proC {Q : Option AV → Wd → Prop} {w : Wd} (d : Nat) {T : Int → Int} {len N : Int} {t : Int ⊕ Int} {C : List (Int × Int)} {n : Nat} (hF : FACC n) (hd : 4 * n + 9 ≤ d) (hw : WR w) (hS : TS w T len t) (hC : CT w t C N) (hN : 120 ≤ N) (hN2 : N + BB n + 3 ≤ 9000) (hQ : ∀ w2, PST w w2 T len (tb t (proS T len (facS T len n))) C (N + BB n + 1) → WR w2 → Q none w2) : M mX4_product (Rm d) [vR (some 358), vR (some 356), vI (8 - n)] (fl w) (lQ Q) := by
  have B1 := BB_1 n
  have hl8 := hS.2.2.1
  refine f_mofv (L0 := [some (vR (some 358)), some (vR (some 356)), some (vI (8 - n)), none]) rfl (Nat.le_of_ble_eq_true rfl) rfl ?_
  have loop8 : ∀ (m : Nat), m ≤ 120 → ∀ (r : PR) (w1 : Wd), PST w w1 T len r C (N + BB n + 1) → WR w1 → tb t (proS T len (facS T len n)) = bn r (fun q e => proL T len (facS T len n) m q e) → V mX4_product (Rm d) 0 0 8 [some (vR (some 358)), some (vR (some 356)), some (vI (8 - n)), some (vI (120 - m))] [] (fl w1) (lQ Q) := by
    refine ind_lt ?_
    intro m ih hm r w1 hP hw1 hr
    refine r_iload_n (pc := 8) dX4_product_8 rfl ?_
    refine r_bipush (pc := 9) (n := 120) dX4_product_9 (by decide) ?_
    refine r_icmpge (pc := 11) (tgt := 44) dX4_product_11 rfl (by omega) (by omega) (fun h11 => ?_) (fun h11 => ?_)
    · exact f_vret (pc := 44) dX4_product_44 rfl (by assumption) (hQ _ (by rw [hr, show m = 0 by omega, bn_p0]; exact hP) (by assumption))
    obtain ⟨m1, hm1⟩ : ∃ m1, m = m1 + 1 := ⟨m - 1, by omega⟩
    subst hm1
    refine r_aload_n (pc := 14) dX4_product_14 rfl ?_
    refine r_bipush (pc := 15) (n := 42) dX4_product_15 (by decide) ?_
    refine c_X4_41 (pc := 17) rfl dX4_product_17 (by first | assumption | rfl) (by omega) (Nat.le_of_ble_eq_true rfl) ?_
    refine a_accept (d - 1) (by omega) (by assumption) hP.2.1 (by omega) (fun r17 w17 b17 e17 f17 hw17 => ?_)
    refine r_ifeq (pc := 20) (tgt := 44) dX4_product_20 rfl (by omega) (fun h20 => ?_) (fun h20 => ?_)
    · have E17 : (∀ p, pT r = .inr p → hT T len p ≠ 42) ∧ TS w17 T len (pT r) := by
        rcases e17 with ⟨p, q1, q2, q3, q4⟩ | ⟨q1, q2, q3⟩
        · omega
        · exact ⟨q1, q3⟩
      exact f_vret (pc := 44) dX4_product_44 rfl (by assumption) (hQ _ (by rw [hr, proL_n E17.1]; exact hP.kp f17 E17.2) (by assumption))
    have E17 : ∃ q e, r = .inr (q, e) ∧ hT T len q = 42 ∧ TS w17 T len (.inr (q + 1)) := by
      rcases e17 with ⟨p, q1, q2, q3, q4⟩ | ⟨q1, q2, q3⟩
      · obtain ⟨e, he⟩ := pT_inr q1
        exact ⟨p, e, he, q2, q4⟩
      · omega
    obtain ⟨q, e, he, q2, q3⟩ := E17
    subst he
    have ql := hT_pos (T := T) (len := len) (p := q) (by omega)
    
    refine r_aload_n (pc := 23) dX4_product_23 rfl ?_
    refine r_aload_n (pc := 24) dX4_product_24 rfl ?_
    refine r_iload_n (pc := 25) dX4_product_25 rfl ?_
    refine c_X4_49 (pc := 26) rfl dX4_product_26 (by first | assumption | rfl) (by omega) (Nat.le_of_ble_eq_true rfl) ?_
    have c17 : CT w17 (.inr (q + 1)) (C ++ e.1) N := ((show CT w1 (.inr q) (C ++ e.1) N from hP.2.2).mv (by omega)).kp f17
    refine hF _ _ (d - 1) T len N (.inr (q + 1)) (C ++ e.1) (by omega) (by assumption) q3 c17 (by omega) (by omega) (fun w26 p26 hw26 => ?_)
    obtain ⟨f26, e26, c26⟩ := p26
    refine r_aload_n (pc := 29) dX4_product_29 rfl ?_
    refine h_X4_12 (pc := 30) rfl dX4_product_30 ?_
    refine r_iconst (pc := 33) (n := 4) dX4_product_33 ?_
    refine r_iconst (pc := 34) (n := 0) dX4_product_34 ?_
    refine c_X4_45 (pc := 35) rfl dX4_product_35 (by first | assumption | rfl) (by omega) (Nat.le_of_ble_eq_true rfl) ?_
    refine a_add (N := (N + BB n)) (d - 1) (by omega) (by assumption) e26 c26 (by omega) (fun q2 hq2 => neg_len (GP_fac n) (by omega) (by have := hP.2.2.2; exact this) hq2) (by omega) (by omega) (fun w35 f35 e35 c35 hw35 => ?_)
    refine r_iinc3 (pc := 38) dX4_product_38 rfl ?_
    refine r_goto (pc := 41) (tgt := 8) dX4_product_41 rfl ?_
    rw [show 120 - ((m1 + 1 : Nat) : Int) + 1 = 120 - (m1 : Int) by omega]
    exact ih m1 (by omega) (by omega) _ _ (it_P (k := 4) (((hP.1.trT f17).tr f26).tr f35) e35 (c35.le (by omega))) (by assumption) (by rw [hr]; exact proL_s q2)
  refine r_aload_n (pc := 0) dX4_product_0 rfl ?_
  refine r_aload_n (pc := 1) dX4_product_1 rfl ?_
  refine r_iload_n (pc := 2) dX4_product_2 rfl ?_
  refine c_X4_49 (pc := 3) rfl dX4_product_3 (by first | assumption | rfl) (by omega) (Nat.le_of_ble_eq_true rfl) ?_
  refine hF _ _ (d - 1) T len N t C (by omega) (by assumption) hS hC (by omega) (by omega) (fun w3 p3 hw3 => ?_)
  refine r_iconst (pc := 6) (n := 0) dX4_product_6 ?_
  refine r_istore3 (pc := 7) dX4_product_7 rfl ?_
  rw [show (0 : Int) = 120 - ((120 : Nat) : Int) by omega]
  exact loop8 120 (by omega) _ _ (p3.le (by omega)) (by assumption) pro_tb
set_option maxRecDepth 8000 in
theorem sumC {Q : Option AV → Wd → Prop} {w : Wd} (d : Nat) {T : Int → Int} {len N : Int} {t : Int ⊕ Int} {C : List (Int × Int)} {n : Nat} (hF : PROC n) (hd : 4 * n + 10 ≤ d) (hw : WR w) (hS : TS w T len t) (hC : CT w t C N) (hN : 120 ≤ N) (hN2 : N + BB n + 3 ≤ 9000) (hQ : ∀ w2, PST w w2 T len (tb t (sumS T len (facS T len n))) C (N + (BB n + 2)) → WR w2 → Q none w2) : M mX4_sum (Rm d) [vR (some 358), vR (some 356), vI (8 - n)] (fl w) (lQ Q) := by
  have B1 := BB_1 n
  have hl8 := hS.2.2.1
  refine f_mofv (L0 := [some (vR (some 358)), some (vR (some 356)), some (vI (8 - n)), none, none]) rfl (Nat.le_of_ble_eq_true rfl) rfl ?_
  have cut49 : ∀ (m1 : Nat) (k q : Int) (e : EE) (w1 : Wd), (hT T len q = 43 ∧ k = 2 ∨ hT T len q = 45 ∧ k = 3) → m1 + 1 ≤ 120 → FRR w w1 → TS w1 T len (.inr (q + 1)) → CT w1 (.inr q) (C ++ e.1) N → WR w1 → (∀ (r : PR) (w1 : Wd) (o : Option AV), PST w w1 T len r C (N + BB n + 2) → WR w1 → bn (.inr (q, e)) (fun q e => sumL T len (facS T len n) (m1 + 1) q e) = bn r (fun q e => sumL T len (facS T len n) m1 q e) → V mX4_sum (Rm d) 0 0 8 [some (vR (some 358)), some (vR (some 356)), some (vI (8 - n)), some (vI (120 - m1)), o] [] (fl w1) (lQ Q)) → V mX4_sum (Rm d) 0 0 49 [some (vR (some 358)), some (vR (some 356)), some (vI (8 - n)), some (vI (120 - (m1 + 1 : Nat))), some (vI k)] [] (fl w1) (lQ Q) := by
    intro m1 k q e w1 hk hm f1 hS1 hC1 hw1 kk
    have ql := hT_pos (T := T) (len := len) (p := q) (by omega)
    have kb : 2 ≤ k ∧ k ≤ 3 := by omega
    refine r_aload_n (pc := 49) dX4_sum_49 rfl ?_
    refine r_aload_n (pc := 50) dX4_sum_50 rfl ?_
    refine r_iload_n (pc := 51) dX4_sum_51 rfl ?_
    refine c_X4_35 (pc := 52) rfl dX4_sum_52 (by first | assumption | rfl) (by omega) (Nat.le_of_ble_eq_true rfl) ?_
    refine hF _ _ (d - 1) T len N (.inr (q + 1)) (C ++ e.1) (by omega) (by assumption) hS1 (hC1.mv (by omega)) (by omega) (by omega) (fun w52 p52 hw52 => ?_)
    obtain ⟨f52, e52, c52⟩ := p52
    have c52 : CT w52 (pT (tb (.inr (q + 1)) (proS T len (facS T len n)))) (C ++ e.1 ++ cd (tb (.inr (q + 1)) (proS T len (facS T len n)))) (N + BB n + 1) := c52.le (by omega)
    refine r_aload_n (pc := 55) dX4_sum_55 rfl ?_
    refine h_X4_12 (pc := 56) rfl dX4_sum_56 ?_
    refine r_iload (pc := 59) dX4_sum_59 rfl ?_
    refine r_iconst (pc := 61) (n := 0) dX4_sum_61 ?_
    refine c_X4_45 (pc := 62) rfl dX4_sum_62 (by first | assumption | rfl) (by omega) (Nat.le_of_ble_eq_true rfl) ?_
    refine a_add (N := (N + BB n + 1)) (d - 1) (by omega) (by assumption) e52 c52 (by omega) (fun q2 hq2 => neg_len (fun p hp => GP_pro (GP_fac n) hp) (by omega) (by have := hC1.2; exact this) hq2) (by omega) (by omega) (fun w62 f62 e62 c62 hw62 => ?_)
    refine r_iinc3 (pc := 65) dX4_sum_65 rfl ?_
    refine r_goto (pc := 68) (tgt := 8) dX4_sum_68 rfl ?_
    rw [show 120 - ((m1 + 1 : Nat) : Int) + 1 = 120 - (m1 : Int) by omega]
    exact kk _ _ _ (it_P (k := k) ((f1.tr f52).tr f62) e62 (c62.le (by omega))) (by assumption) (sumL_s hk)
  have loop8 : ∀ (m : Nat), m ≤ 120 → ∀ (r : PR) (w1 : Wd) (o : Option AV), PST w w1 T len r C (N + BB n + 2) → WR w1 → tb t (sumS T len (facS T len n)) = bn r (fun q e => sumL T len (facS T len n) m q e) → V mX4_sum (Rm d) 0 0 8 [some (vR (some 358)), some (vR (some 356)), some (vI (8 - n)), some (vI (120 - m)), o] [] (fl w1) (lQ Q) := by
    refine ind_lt ?_
    intro m ih hm r w1 o hP hw1 hr
    have cut28 : ∀ m1 : Nat, m = m1 + 1 → ∀ k : Int, k = (if pkS T len (pT r) = 43 then 2 else 3) → V mX4_sum (Rm d) 0 0 28 [some (vR (some 358)), some (vR (some 356)), some (vI (8 - n)), some (vI (120 - m)), o] [vI k] (fl w1) (lQ Q) := by
      intro m1 hm1 k hk
      subst hm1
      refine r_istore4 (pc := 28) dX4_sum_28 rfl ?_
      refine r_aload_n (pc := 30) dX4_sum_30 rfl ?_
      refine r_bipush (pc := 31) (n := 43) dX4_sum_31 (by decide) ?_
      refine c_X4_41 (pc := 33) rfl dX4_sum_33 (by first | assumption | rfl) (by omega) (Nat.le_of_ble_eq_true rfl) ?_
      refine a_accept (d - 1) (by omega) (by assumption) hP.2.1 (by omega) (fun r33 w33 b33 e33 f33 hw33 => ?_)
      refine r_ifne (pc := 36) (tgt := 49) dX4_sum_36 rfl (by omega) (fun h36 => ?_) (fun h36 => ?_)
      · have E33 : ∃ q e, r = .inr (q, e) ∧ hT T len q = 43 ∧ TS w33 T len (.inr (q + 1)) := by
          rcases e33 with ⟨p, q1, q2, q3, q4⟩ | ⟨q1, q2, q3⟩
          · obtain ⟨e, he⟩ := pT_inr q1
            exact ⟨p, e, he, q2, q4⟩
          · omega
        obtain ⟨q, e, he, q2, q3⟩ := E33
        subst he
        have ql := hT_pos (T := T) (len := len) (p := q) (by omega)
        
        exact cut49 m1 k q e _ (Or.inl ⟨q2, by rw [hk]; exact if_pos q2⟩) hm (hP.1.trT f33) q3 (CT.kp (show CT w1 (.inr q) (C ++ e.1) N from hP.2.2) f33) (by assumption) (fun r w1 o a b c => ih m1 (by omega) (by omega) r w1 o a b (hr.trans c))
      have E33 : (∀ p, pT r = .inr p → hT T len p ≠ 43) ∧ TS w33 T len (pT r) := by
        rcases e33 with ⟨p, q1, q2, q3, q4⟩ | ⟨q1, q2, q3⟩
        · omega
        · exact ⟨q1, q3⟩
      refine r_aload_n (pc := 39) dX4_sum_39 rfl ?_
      refine r_bipush (pc := 40) (n := 45) dX4_sum_40 (by decide) ?_
      refine c_X4_41 (pc := 42) rfl dX4_sum_42 (by first | assumption | rfl) (by omega) (Nat.le_of_ble_eq_true rfl) ?_
      refine a_accept (d - 1) (by omega) (by assumption) E33.2 (by omega) (fun r42 w42 b42 e42 f42 hw42 => ?_)
      refine r_ifne (pc := 45) (tgt := 49) dX4_sum_45 rfl (by omega) (fun h45 => ?_) (fun h45 => ?_)
      · have E42 : ∃ q e, r = .inr (q, e) ∧ hT T len q = 45 ∧ TS w42 T len (.inr (q + 1)) := by
          rcases e42 with ⟨p, q1, q2, q3, q4⟩ | ⟨q1, q2, q3⟩
          · obtain ⟨e, he⟩ := pT_inr q1
            exact ⟨p, e, he, q2, q4⟩
          · omega
        obtain ⟨q, e, he, q2, q3⟩ := E42
        subst he
        have ql := hT_pos (T := T) (len := len) (p := q) (by omega)
        
        exact cut49 m1 k q e _ (Or.inr ⟨q2, by rw [hk]; exact if_neg (show ¬ hT T len q = 43 by omega)⟩) hm ((hP.1.trT f33).trT f42) q3 (CT.kp (show CT w1 (.inr q) (C ++ e.1) N from hP.2.2) (f33.tr f42)) (by assumption) (fun r w1 o a b c => ih m1 (by omega) (by omega) r w1 o a b (hr.trans c))
      have E42 : (∀ p, pT r = .inr p → hT T len p ≠ 45) ∧ TS w42 T len (pT r) := by
        rcases e42 with ⟨p, q1, q2, q3, q4⟩ | ⟨q1, q2, q3⟩
        · omega
        · exact ⟨q1, q3⟩
      exact f_vret (pc := 48) dX4_sum_48 rfl (by assumption) (hQ _ (by rw [hr, sumL_n E33.1 E42.1]; exact (hP.kp (f33.tr f42) E42.2).le (by omega)) (by assumption))
    refine r_iload_n (pc := 8) dX4_sum_8 rfl ?_
    refine r_bipush (pc := 9) (n := 120) dX4_sum_9 (by decide) ?_
    refine r_icmpge (pc := 11) (tgt := 71) dX4_sum_11 rfl (by omega) (by omega) (fun h11 => ?_) (fun h11 => ?_)
    · exact f_vret (pc := 71) dX4_sum_71 rfl (by assumption) (hQ _ (by rw [hr, show m = 0 by omega, bn_s0]; exact hP.le (by omega)) (by assumption))
    obtain ⟨m1, hm1⟩ : ∃ m1, m = m1 + 1 := ⟨m - 1, by omega⟩
    subst hm1
    refine r_aload_n (pc := 14) dX4_sum_14 rfl ?_
    refine c_X4_38 (pc := 15) rfl dX4_sum_15 (by first | assumption | rfl) (by omega) (Nat.le_of_ble_eq_true rfl) ?_
    refine a_peek (d - 1) (by omega) (by assumption) hP.2.1 (fun r15 e15 b15 => ?_)
    refine r_bipush (pc := 18) (n := 43) dX4_sum_18 (by decide) ?_
    refine r_icmpne (pc := 20) (tgt := 27) dX4_sum_20 rfl (by omega) (by omega) (fun h20 => ?_) (fun h20 => ?_)
    · refine r_iconst (pc := 27) (n := 3) dX4_sum_27 ?_
      exact cut28 m1 rfl _ (by rw [← e15, if_neg (show ¬ r15 = 43 by omega)])
    refine r_iconst (pc := 23) (n := 2) dX4_sum_23 ?_
    refine r_goto (pc := 24) (tgt := 28) dX4_sum_24 rfl ?_
    exact cut28 m1 rfl _ (by rw [← e15, if_pos (show r15 = 43 by omega)])
  refine r_aload_n (pc := 0) dX4_sum_0 rfl ?_
  refine r_aload_n (pc := 1) dX4_sum_1 rfl ?_
  refine r_iload_n (pc := 2) dX4_sum_2 rfl ?_
  refine c_X4_35 (pc := 3) rfl dX4_sum_3 (by first | assumption | rfl) (by omega) (Nat.le_of_ble_eq_true rfl) ?_
  refine hF _ _ (d - 1) T len N t C (by omega) (by assumption) hS hC (by omega) (by omega) (fun w3 p3 hw3 => ?_)
  refine r_iconst (pc := 6) (n := 0) dX4_sum_6 ?_
  refine r_istore3 (pc := 7) dX4_sum_7 rfl ?_
  rw [show (0 : Int) = 120 - ((120 : Nat) : Int) by omega]
  exact loop8 120 (by omega) _ _ _ (p3.le (by omega)) (by assumption) sum_tb
theorem FAC_of {n : Nat} (hn : n ≤ 8) (h : ∀ m, n = m + 1 → SUMC m ∧ FACC m) : FACC n := fun Q w d T len N t C hd hw hS hC hN hN2 hQ => facC d hn h hd hw hS hC hN (by omega) hQ
theorem PRO_of {n : Nat} (h : FACC n) : PROC n := fun Q w d T len N t C hd hw hS hC hN hN2 hQ => proC d h hd hw hS hC hN (by omega) (fun w2 p => hQ w2 (p.le (by omega)))
theorem SUM_of {n : Nat} (h : PROC n) : SUMC n := fun Q w d T len N t C hd hw hS hC hN hN2 hQ => sumC d h hd hw hS hC hN (by omega) hQ
theorem FAC_all : ∀ n : Nat, n ≤ 8 → FACC n
  | 0, h => FAC_of h (fun m hm => by omega)
  | n + 1, h => FAC_of h (fun m hm => by
    have e : m = n := by omega
    subst e
    exact ⟨SUM_of (PRO_of (FAC_all m (by omega))), FAC_all m (by omega)⟩)
theorem SUM_8 : SUMC 8 := SUM_of (PRO_of (FAC_all 8 (by omega)))
