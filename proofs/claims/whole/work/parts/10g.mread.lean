/-! the model's readers, whole -/
def FRF (w w2 : Wd) : Prop := (∀ i, i ≠ 385 → (i < 395 ∨ 401 < i) → w2 i = w i) ∧ ∀ j, (j < 11 ∨ 16 < j) → j ≠ 23 → j ≠ 24 → j ≠ 26 → w2 385 j = w 385 j
theorem FRF.tr {w w1 w2 : Wd} (h : FRF w w1) (g : FRF w1 w2) : FRF w w2 := ⟨fun i e z => (g.1 i e z).trans (h.1 i e z), fun j a b c d => (g.2 j a b c d).trans (h.2 j a b c d)⟩
theorem FRP.f {w w2 : Wd} (h : FRP w w2) : FRF w w2 := ⟨fun i a b => h.1 i a (by omega), fun j a b c d => h.2 j (by omega) (by omega) (by omega) (by omega) b c⟩
theorem FRX.f {w w2 : Wd} (h : FRX w w2) : FRF w w2 := h.p.f
theorem FRF_b {w : Wd} {o f : Int} : FRF w (up (up (up (up (up (up w 385 11 o) 385 12 0) 385 13 (-1)) 385 14 0) 385 15 0) 385 16 f) := ⟨fun i a b => by rw [up_ne a, up_ne a, up_ne a, up_ne a, up_ne a, up_ne a], fun j a b c d => by rw [up_off (by omega), up_off (by omega), up_off (by omega), up_off (by omega), up_off (by omega), up_off (by omega)]⟩
theorem FRF_26 {w : Wd} {x : Int} : FRF w (up w 385 26 x) := ⟨fun i a b => up_ne a, fun j a b c d => up_off (by omega)⟩
def SMR (w : Wd) (T : Int → Int) (len : Int) (w2 : Wd) (r : Int) : Prop := (∃ q, sumS T len (facS T len 8) 0 = .inl q ∧ MS w2 T len (.inl q)) ∨ (∃ q e, sumS T len (facS T len 8) 0 = .inr (q, e) ∧ MS w2 T len (.inr q) ∧ r = e.2 (Vm w) ∧ w2 385 15 = lfs e.1)
def vdM (len : Int) (t : Int ⊕ Int) : Int := match t with
  | .inl q => q
  | .inr p => if p < len then p else -1
theorem bg_ms {w : Wd} {o f len : Int} {T : Int → Int} (h : TXT (up (up (up (up (up (up w 385 11 o) 385 12 0) 385 13 (-1)) 385 14 0) 385 15 0) 385 16 f) T len) : MS (up (up (up (up (up (up w 385 11 o) 385 12 0) 385 13 (-1)) 385 14 0) 385 15 0) 385 16 f) T len (.inr 0) := ⟨h, by
  rw [up_off (by omega), up_off (by omega), up_off (by omega), up_hit], by
  rw [up_off (by omega), up_off (by omega), up_off (by omega), up_off (by omega), up_hit], Int.le_refl 0, h.2.2.1⟩
theorem bg_txt {w : Wd} {f len : Int} {T : Int → Int} (h1 : w 385 4 = len) (h2 : ∀ j, 0 ≤ j → j < len → w 388 j = T j) (h3 : 0 ≤ len ∧ len ≤ 120) : TXT (up (up (up (up (up (up w 385 11 0) 385 12 0) 385 13 (-1)) 385 14 0) 385 15 0) 385 16 f) T len := by
  refine ⟨fun _ => ⟨?_, fun j a b => ?_⟩, fun z => ?_, h3⟩
  · rw [up_off (by omega), up_off (by omega), up_off (by omega), up_off (by omega), up_off (by omega), up_off (by omega)]; exact h1
  · rw [up_ne (by omega), up_ne (by omega), up_ne (by omega), up_ne (by omega), up_ne (by omega), up_ne (by omega)]; exact h2 j a b
  · rw [up_off (by omega), up_off (by omega), up_off (by omega), up_off (by omega), up_off (by omega), up_hit] at z
    exact absurd rfl z
theorem bg_own {w : Wd} {f len : Int} {T : Int → Int} (h1 : w 386 530 = len) (h2 : ∀ j, 0 ≤ j → j < len → w 386 (531 + j) = T j) (h3 : 0 ≤ len ∧ len ≤ 120) : TXT (up (up (up (up (up (up w 385 11 1) 385 12 0) 385 13 (-1)) 385 14 0) 385 15 0) 385 16 f) T len := by
  refine ⟨fun z => ?_, fun _ => ⟨?_, fun j a b => ?_⟩, h3⟩
  · rw [up_off (by omega), up_off (by omega), up_off (by omega), up_off (by omega), up_off (by omega), up_hit] at z
    omega
  · rw [up_ne (by omega), up_ne (by omega), up_ne (by omega), up_ne (by omega), up_ne (by omega), up_ne (by omega)]; exact h1
  · rw [up_ne (by omega), up_ne (by omega), up_ne (by omega), up_ne (by omega), up_ne (by omega), up_ne (by omega)]; exact h2 j a b
theorem bg_mx {w : Wd} {o f q : Int} : mx (up (up (up (up (up (up w 385 11 o) 385 12 0) 385 13 (-1)) 385 14 0) 385 15 0) 385 16 f) q = mx w q := by
  unfold mx
  rw [up_ne (by omega), up_ne (by omega), up_ne (by omega), up_ne (by omega), up_ne (by omega), up_ne (by omega)]
theorem bg_env {w : Wd} {o f : Int} (hI : ∀ q, 0 ≤ q → q ≤ 3 → CI (mx w q)) (hf : 0 ≤ f ∧ f ≤ 960) : ENVM (up (up (up (up (up (up w 385 11 o) 385 12 0) 385 13 (-1)) 385 14 0) 385 15 0) 385 16 f) := ⟨fun q a b => by rw [bg_mx]; exact hI q a b, by rw [up_hit]; exact hf.1, by rw [up_hit]; exact hf.2⟩
theorem bg_vm {w : Wd} {o f : Int} : Vm (up (up (up (up (up (up w 385 11 o) 385 12 0) 385 13 (-1)) 385 14 0) 385 15 0) 385 16 f) = fun c b => valS (mx w c) (max 0 (f - b)) := by
  funext c b
  unfold Vm
  rw [bg_mx, up_hit]
/-- a curve's text -/
def KMT (w : Wd) (t : Int ⊕ Int) (L : List K3) (n : Nat) : Prop := match t with
  | .inl _ => 0 ≤ w 385 26 ∧ w 385 26 ≤ n
  | .inr _ => w 385 26 = L.length ∧ L.length ≤ n ∧ okL L ∧ ∀ (i : Nat) (x : K3), L[i]? = some x → w 401 (3 * i) = x.1 ∧ w 401 (3 * i + 1) = x.2.1 ∧ w 401 (3 * i + 2) = x.2.2
theorem KMT.n {w : Wd} {t : Int ⊕ Int} {L : List K3} {n : Nat} (h : KMT w t L n) : 0 ≤ w 385 26 ∧ w 385 26 ≤ n := by
  rcases t with q | p
  · exact h
  · have h : w 385 26 = L.length ∧ L.length ≤ n ∧ _ := h
    omega
theorem KMT.kp {w w2 : Wd} {t : Int ⊕ Int} {L : List K3} {n : Nat} (h : KMT w t L n) (f : FRX w w2) : KMT w2 t L n := by
  have e := f.2 26 (by omega) (by omega)
  rcases t with q | p
  · show 0 ≤ w2 385 26 ∧ _
    rw [e]; exact h
  · obtain ⟨h1, h2, h3, h4⟩ := h
    exact ⟨by rw [e]; exact h1, h2, h3, fun i x hx => by rw [f.1 401 (by omega)]; exact h4 i x hx⟩
theorem KMT.le {w : Wd} {t : Int ⊕ Int} {L : List K3} {n m : Nat} (h : KMT w t L n) (e : n ≤ m) : KMT w t L m := by
  rcases t with q | p
  · have h : 0 ≤ w 385 26 ∧ w 385 26 ≤ n := h
    exact ⟨h.1, by omega⟩
  · obtain ⟨h1, h2, h3⟩ := h
    exact ⟨h1, by omega, h3⟩
theorem km_last {w : Wd} {L : List K3} {n : Nat} {p : Int} (h : KMT w (.inr p) L n) (h0 : ¬ w 385 26 ≤ 0) : w 401 (3 * w 385 26 - 3) = lastF L := by
  obtain ⟨h1, h2, h3, h4⟩ := h
  obtain ⟨x, hx⟩ : ∃ x, L[L.length - 1]? = some x := ⟨L[L.length - 1]'(by omega), List.getElem?_eq_getElem (by omega)⟩
  rw [lastF_i hx (by omega), ← (h4 _ x hx).1, h1]
  congr 1
  omega
theorem km_l0 {w : Wd} {L : List K3} {n : Nat} {p f : Int} (h : KMT w (.inr p) L n) (h0 : w 385 26 ≤ 0) (hf : 0 ≤ f) : ¬ f ≤ lastF L := by
  obtain ⟨h1, h2, h3, h4⟩ := h
  have : L = [] := List.length_eq_zero_iff.mp (by omega)
  rw [this, lastF_0]
  omega
theorem k2m_n {T : Int → Int} {len last : Int} {t : Int ⊕ Int} {f : Int} (hv : ∀ p, t = .inr p → 1 ≤ rnD T len p ∧ rnD T len p ≤ 3 → f = nvD T p (rnD T len p).toNat) (h8 : f ≤ 480) (hl : ∀ p, t = .inr p → ¬ f ≤ last) : key2 T len last t = nuT T len t := by
  unfold key2
  rcases t with q | p
  · show (if _ then _ else _) = _
    split <;> rfl
  · by_cases z : 1 ≤ rnD T len p ∧ rnD T len p ≤ 3
    · have e := hv p rfl z
      have e2 := hl p rfl
      exact if_neg (by show ¬ (nvD T p (rnD T len p).toNat > 480 ∨ nvD T p (rnD T len p).toNat ≤ last); omega)
    · rw [show nuT T len (.inr p) = .inl p from if_neg z]
      split <;> rfl
theorem k2m_f {T : Int → Int} {len last x : Int} {t : Int ⊕ Int} {f : Int} (h : ∀ p, t = .inr p → x = p) (hv : ∀ p, t = .inr p → 1 ≤ rnD T len p ∧ rnD T len p ≤ 3 → f = nvD T p (rnD T len p).toNat) (hl : ∀ p, t = .inr p → f > 480 ∨ f ≤ last) : flT x (nuT T len t) = key2 T len last t := by
  unfold key2
  rcases t with q | p
  · show _ = (if _ then _ else _)
    split <;> rfl
  · by_cases z : 1 ≤ rnD T len p ∧ rnD T len p ≤ 3
    · have e := hv p rfl z
      have e2 := hl p rfl
      rw [h p rfl]
      exact (if_pos (by show nvD T p (rnD T len p).toNat > 480 ∨ nvD T p (rnD T len p).toNat ≤ last; omega)).symm
    · rw [show nuT T len (.inr p) = .inl p from if_neg z]
      split <;> rfl
theorem nuT_ps {T : Int → Int} {len q : Int} {t : Int ⊕ Int} (h : nuT T len t = .inr q) : ∃ p, t = .inr p := by
  obtain ⟨p, e, -⟩ := nu_inr h
  exact ⟨p, e⟩
def FRY (w w2 : Wd) : Prop := (∀ i, i ≠ 385 → i ≠ 401 → w2 i = w i) ∧ ∀ j, j ≠ 12 → j ≠ 13 → j ≠ 26 → w2 385 j = w 385 j
theorem FRY.tr {w w1 w2 : Wd} (h : FRY w w1) (g : FRY w1 w2) : FRY w w2 := ⟨fun i e z => (g.1 i e z).trans (h.1 i e z), fun j a b c => (g.2 j a b c).trans (h.2 j a b c)⟩
theorem FRX.y {w w2 : Wd} (h : FRX w w2) : FRY w w2 := ⟨fun i e _ => h.1 i e, fun j a b _ => h.2 j a b⟩
theorem FRY.f {w w2 : Wd} (h : FRY w w2) : FRF w w2 := ⟨fun i a b => h.1 i a (by omega), fun j a b c d => h.2 j (by omega) (by omega) d⟩
theorem FRY.ms {w w2 : Wd} {T : Int → Int} {len : Int} {t : Int ⊕ Int} (f : FRY w w2) (h : MS w T len t) (e1 : w2 385 12 = w 385 12) (e2 : w2 385 13 = w 385 13) : MS w2 T len t := h.kp2 (f.2 11 (by omega) (by omega) (by omega)) (f.2 4 (by omega) (by omega) (by omega)) (f.1 386 (by omega) (by omega)) (f.1 388 (by omega) (by omega)) e1 e2
theorem keym_end {w w1 : Wd} {T : Int → Int} {len f s v m : Int} {t t4 : Int ⊕ Int} {L : List K3} {n : Nat} (hC : KMT w t L n) (hn : n ≤ 23) (hfv : ∀ p, t = .inr p → 1 ≤ rnD T len p ∧ rnD T len p ≤ 3 → f = nvD T p (rnD T len p).toNat) (hs : s = sgT T len (exT T len 58 (key2 T len (lastF L) t))) (ht4 : t4 = mnT T len (exT T len 58 (key2 T len (lastF L) t))) (hv : ∀ p, t4 = .inr p → 1 ≤ rnD T len p ∧ rnD T len p ≤ 3 → v = nvD T p (rnD T len p).toNat) (hm : m = mdV T len (nuT T len t4)) (f0 : 0 ≤ f) (F : FRX w w1) (x y z : Int) (hx : x = 3 * w 385 26) (hy : y = s * v) : KMT (up (up (up (up w1 401 x f) 401 (x + 1) y) 401 (x + 2) m) 385 26 (w 385 26 + 1)) (pK (keyR T len (lastF L) t)) (L ++ ck (keyR T len (lastF L) t)) (n + 1) := by
  have cn := hC.n
  have hs2 := sgT_b (T := T) (len := len) (t := exT T len 58 (key2 T len (lastF L) t))
  rcases hr : keyR T len (lastF L) t with q | ⟨q, k⟩
  · show 0 ≤ up _ 385 26 _ 385 26 ∧ up _ 385 26 _ 385 26 ≤ ((n + 1 : Nat) : Int)
    rw [up_hit]
    omega
  · obtain ⟨p, p4, z1, z2, z3, z4, z5, z6, z7⟩ := keyR_in hr
    subst z1
    obtain ⟨h1, h2, h3, h4⟩ := hC
    have ef : nf T len (.inr p) = f := (hfv p rfl z2).symm
    rw [← ht4] at z5 z7
    have ev : nf T len t4 = v := by rw [z5]; exact (hv p4 z5 z6).symm
    rw [ef, ← hs, ev, ← hm, ← hy] at z7
    rw [ef] at z3 z4
    subst z7
    have mb := mdV_b (T := T) (len := len) (t := nuT T len t4)
    rw [← hm] at mb
    have vb : 0 ≤ v ∧ v ≤ 999 := by
      rcases (show rnD T len p4 = 1 ∨ rnD T len p4 = 2 ∨ rnD T len p4 = 3 by omega) with _ | _ | _ <;>
      · have l4 : p4 ≤ len := by
          rcases Int.lt_or_le len p4 with a | a
          · exfalso
            have k := kb_KB (dgt T len p4) 1 (len - p4).toNat
            have e : (len - p4).toNat = 0 := by omega
            have e2 : rnD T len p4 = 0 := by unfold rnD; rw [e]; rfl
            omega
          · exact a
        have b := nvD_in (T := T) (len := len) (p := p4) l4 z6
        rw [hv p4 z5 z6]
        exact b
    have yb : -999 ≤ y ∧ y ≤ 999 := by rcases hs2 with a | a <;> rw [hy, hs, a] <;> omega
    refine ⟨by rw [up_hit, List.length_append, h1]; rfl, by rw [List.length_append]; show L.length + 1 ≤ n + 1; omega, okL_s h3 ⟨f0, z3, yb.1, yb.2, by show 0 ≤ m; omega, by show m ≤ 6; omega⟩ z4, fun i a ha => ?_⟩
    rw [up_ne (by omega)]
    rcases Nat.lt_or_ge i L.length with c | c
    · have ha : (L ++ [(f, y, m)])[i]? = some a := ha
      rw [List.getElem?_append_left c] at ha
      rw [up_off (by omega), up_off (by omega), up_off (by omega), up_off (by omega), up_off (by omega), up_off (by omega), up_off (by omega), up_off (by omega), up_off (by omega), F.1 401 (by omega)]
      exact h4 i a ha
    · have ha : (L ++ [(f, y, m)])[i]? = some a := ha
      rw [List.getElem?_append_right c] at ha
      rcases Nat.eq_zero_or_pos (i - L.length) with b | b
      · rw [b] at ha
        have ha : (f, y, m) = a := by simpa using ha
        subst ha
        have ei : 3 * (i : Int) = x := by omega
        rw [ei]
        refine ⟨?_, ?_, ?_⟩
        · rw [up_off (by omega), up_off (by omega), up_hit]
        · rw [up_off (by omega), up_hit]
        · rw [up_hit]
      · rw [List.getElem?_eq_none (by simp; omega)] at ha; cases ha
def RDM (w : Wd) (T : Int → Int) (len r : Int) : Prop := (∃ q, crS T len = .inl q ∧ r = q ∧ 0 ≤ q ∧ q ≤ 120) ∨ (∃ L, crS T len = .inr L ∧ r = -1 ∧ w 385 26 = L.length ∧ L.length ≤ 24 ∧ okL L ∧ ∀ (i : Nat) (x : K3), L[i]? = some x → w 401 (3 * i) = x.1 ∧ w 401 (3 * i + 1) = x.2.1 ∧ w 401 (3 * i + 2) = x.2.2)
theorem rdm_end {w w1 : Wd} {T : Int → Int} {len x : Int} {r : KR} {L : List K3} (hr : crA T len = crF0 r L) (hC : KMT w (pK r) (L ++ ck r) 24) (e : MS w1 T len (exT T len 59 (pK r))) (h : x = vdM len (exT T len 59 (pK r))) : RDM w T len x := by
  have ln := e.ln
  rcases r with q | ⟨q, k⟩
  · have h : x = q := h
    have e2 : w1 385 13 = q ∧ 0 ≤ q ∧ q ≤ len := e.2
    refine Or.inl ⟨q, ?_, h, by omega, by omega⟩
    unfold crS
    rw [hr]; rfl
  · have hr : crA T len = .inr (q, L ++ [k]) := hr
    by_cases z : hT T len q = 59
    · rw [show exT T len 59 (pK (.inr (q, k))) = .inr (q + 1) from exT_y z] at h e
      have n := e.inr
      by_cases y : q + 1 < len
      · have h : x = q + 1 := h.trans (if_pos y)
        refine Or.inl ⟨q + 1, ?_, h, by omega, by omega⟩
        unfold crS
        rw [hr]
        show (if _ then _ else _) = _
        rw [if_pos z, if_pos y]
      · have h : x = -1 := h.trans (if_neg y)
        refine Or.inr ⟨L ++ [k], ?_, h, hC.1, hC.2.1, hC.2.2.1, hC.2.2.2⟩
        unfold crS
        rw [hr]
        show (if _ then _ else _) = _
        rw [if_pos z, if_neg y]
    · rw [show exT T len 59 (pK (.inr (q, k))) = .inl q from exT_n z] at h e
      have h : x = q := h
      have e2 : w1 385 13 = q ∧ 0 ≤ q ∧ q ≤ len := e.2
      refine Or.inl ⟨q, ?_, h, by omega, by omega⟩
      unfold crS
      rw [hr]
      show (if _ then _ else _) = _
      rw [if_neg z]
theorem mdS_p {l : Int} (h : mdS l ≠ -1) : 0 ≤ l := by
  rcases Int.lt_or_le l 0 with z | z
  · exact absurd (mdS_n (l := l) (by omega)) h
  · exact z
theorem mnm_n {T : Int → Int} {len : Int} {t : Int ⊕ Int} (h : ∀ p, t = .inr p → hT T len p ≠ 45) : mnT T len t = t := by
  rcases t with q | p
  · rfl
  · exact if_neg (h p rfl)
theorem sgm_n {T : Int → Int} {len : Int} {t : Int ⊕ Int} (h : ∀ p, t = .inr p → hT T len p ≠ 45) : sgT T len t = 1 := by
  rcases t with q | p
  · rfl
  · exact if_neg (h p rfl)
theorem rdm_kp {w w2 : Wd} {T : Int → Int} {len x : Int} (f : FRX w w2) (h : RDM w T len x) : RDM w2 T len x := by
  rcases h with h | ⟨L, h1, h2, h3, h4, h5, h6⟩
  · exact Or.inl h
  · exact Or.inr ⟨L, h1, h2, by rw [f.2 26 (by omega) (by omega)]; exact h3, h4, h5, fun i x hx => by rw [f.1 401 (by omega)]; exact h6 i x hx⟩
theorem crL_nn {T : Int → Int} {len : Int} {r : KR} {L : List K3} (m : Nat) (h : ∀ p, pK r = .inr p → hT T len p ≠ 44) : crL T len m r L = crF0 r L := by
  cases m with
  | zero => exact crL_0
  | succ m => exact crL_n h
theorem crS_25 {T : Int → Int} {len q : Int} {k : K3} {L : List K3} (h : crA T len = crF0 (.inr (q, k)) L) (hq : hT T len q = 44) : crS T len = .inl q := by
  unfold crS
  rw [h]
  show (if _ then _ else _) = _
  rw [if_neg (by omega)]
set_option maxRecDepth 8000 in
theorem m_X12_sum {Q : Option AV → Wd → Prop} {w : Wd} (d : Nat) {T : Int → Int} {len : Int} (hd : 10 ≤ d) (hw : WR w) (hS : MS w T len (.inr 0)) (h14 : w 385 14 = 0) (h15 : w 385 15 = 0) (hE : ENVM w) (hQ : ∀ r w2, FRP w w2 → SMR w T len w2 r → R32 r → WR w2 → Q (some (vI r)) w2) : M mX12_sum (Rm d) [vR (some 385)] (fl w) (lQ Q) := by
  have ln := hS.ln
  refine f_mofv (L0 := [some (vR (some 385)), none, none]) rfl (Nat.le_of_ble_eq_true rfl) rfl ?_
  refine r_aload_n (pc := 0) dX12_sum_0 rfl ?_
  refine r_iconst (pc := 1) (n := (-1)) dX12_sum_1 ?_
  refine ph_X12_238 (pc := 2) rfl dX12_sum_2 (by assumption) (by omega) (fun hw2 => ?_)
  refine r_aload_n (pc := 5) dX12_sum_5 rfl ?_
  refine r_iconst (pc := 6) (n := 0) dX12_sum_6 ?_
  refine c_X12_257 (pc := 7) rfl dX12_sum_7 (by first | assumption | rfl) (by omega) (Nat.le_of_ble_eq_true rfl) ?_
  refine m_X12_opens (St := []) (d - 1) (by omega) (by assumption) (by omega) (by rw [up_off (by omega)]; omega) (Or.inl rfl) (by rw [up_hit]; rfl) trivial (Nat.zero_le _) (fun w7 x7 y7 z7 s7 o7 p7 f7 hw7 => ?_)
  have F7 : FRP w w7 := (FRP_fld (by omega)).tr f7.p
  have M7 : MP w7 T len (.inr 0) [(0, 0, x7, y7, 0, z7)] 0 := ⟨f7.ms (hS.fld (by omega)), s7, o7, by rw [p7, up_off (by omega), h14]; rfl, by rw [f7.2 15 (by omega) (by omega), up_off (by omega)]; exact h15, rfl, by show 1 ≤ 9; omega, fun p e => by cases e; omega⟩
  refine r_iconst (pc := 10) (n := 1) dX12_sum_10 ?_
  refine r_istore1 (pc := 11) dX12_sum_11 rfl ?_
  exact (B_of (Q := Q) (w0 := w) (d := d) (n := 8) (GP_fac 8) (A_of hd hE ln.2 8 (by omega)) ln.2 (k := 0) (x := x7) (y := y7) (z := z7) (p := 0) (fa := 0) (R := []) rfl (by omega) ⟨by omega, ln.1⟩ (fun q hq => fun w2 r rr f m hw2 => hQ _ _ f (Or.inl ⟨q, hq, m⟩) rr hw2) (fun q e y2 hq => P_o0 hd rfl (fun w2 f m hw2 rr => hQ _ _ f (Or.inr ⟨q, e, hq, m.1, rfl, by rw [m.2.2.2.2.1]; omega⟩) rr hw2))) w7 _ F7 M7 (by assumption)
set_option maxRecDepth 8000 in
theorem m_X12_formulaFault {Q : Option AV → Wd → Prop} {w : Wd} (d : Nat) {T : Int → Int} {len : Int} (hd : 11 ≤ d) (hw : WR w) (h4 : w 385 4 = len) (hT : ∀ j, 0 ≤ j → j < len → w 388 j = T j) (hl : 0 ≤ len ∧ len ≤ 120) (hI : ∀ q, 0 ≤ q → q ≤ 3 → CI (mx w q)) (hQ : ∀ r w2, FRF w w2 → ((∃ q, prsS T len = .inl q ∧ r = q ∧ 0 ≤ q ∧ q ≤ 120) ∨ (∃ q e, prsS T len = .inr (q, e) ∧ r = -1 ∧ w2 385 15 = lfs e.1)) → WR w2 → Q (some (vI r)) w2) : M mX12_formulaFault (Rm d) [vR (some 385)] (fl w) (lQ Q) := by
  refine f_mofv (L0 := [some (vR (some 385)), none]) rfl (Nat.le_of_ble_eq_true rfl) rfl ?_
  have cut37 : ∀ (w1 : Wd) (t : Int ⊕ Int) (o : Option AV), FRF w w1 → MS w1 T len t → ((∃ q, prsS T len = .inl q ∧ t = .inl q ∧ 0 ≤ q ∧ q ≤ 120) ∨ (∃ q e p, prsS T len = .inr (q, e) ∧ t = .inr p ∧ w1 385 15 = lfs e.1)) → WR w1 → V mX12_formulaFault (Rm d) 0 0 37 [some (vR (some 385)), o] [] (fl w1) (lQ Q) := by
    intro w1 t o hf1 hS1 hr hw1
    refine r_aload_n (pc := 37) dX12_formulaFault_37 rfl ?_
    refine h_X12_216 (pc := 38) rfl dX12_formulaFault_38 (by assumption) (fun h38 => ?_)
    exact f_iret (pc := 41) dX12_formulaFault_41 rfl (by assumption) (hQ _ _ hf1 (by
          rcases hr with ⟨q, a, b, c, g⟩ | ⟨q, e, p, a, b, c⟩
          · subst b
            exact Or.inl ⟨q, a, hS1.inl.1, c, g⟩
          · subst b
            exact Or.inr ⟨q, e, a, hS1.inr.1, c⟩) (by assumption))
  refine r_aload_n (pc := 0) dX12_formulaFault_0 rfl ?_
  refine r_iconst (pc := 1) (n := 0) dX12_formulaFault_1 ?_
  refine r_iconst (pc := 2) (n := 0) dX12_formulaFault_2 ?_
  refine c_X12_270 (pc := 3) rfl dX12_formulaFault_3 (by first | assumption | rfl) (by omega) (Nat.le_of_ble_eq_true rfl) ?_
  refine m_X12_begins (d - 1) (by omega) (by assumption) (by omega) (by omega) (fun w3 e3 hw3 => ?_)
  have T3 := bg_txt (f := 0) h4 hT hl
  have E3 := bg_env (o := 0) (f := 0) hI (by omega)
  have F3 := FRF_b (w := w) (o := 0) (f := 0)
  rw [← e3] at T3 E3 F3
  have M3 : MS w3 T len (.inr 0) := by
    rw [e3] at T3 ⊢
    exact bg_ms T3
  have l3 : w3 385 4 = len := by rw [F3.2 4 (by omega) (by omega) (by omega) (by omega)]; exact h4
  refine r_aload_n (pc := 6) dX12_formulaFault_6 rfl ?_
  refine c_X12_274 (pc := 7) rfl dX12_formulaFault_7 (by first | assumption | rfl) (by omega) (Nat.le_of_ble_eq_true rfl) ?_
  refine m_X12_sum (d - 1) (by omega) (by assumption) M3 (by rw [e3, up_off (by omega), up_off (by omega), up_hit]) (by rw [e3, up_off (by omega), up_hit]) E3 (fun r7 w7 f7 e7 b7 hw7 => ?_)
  have F7 := F3.tr f7.f
  have l7 : w7 385 4 = len := by rw [F7.2 4 (by omega) (by omega) (by omega) (by omega)]; exact h4
  refine r_istore1 (pc := 10) dX12_formulaFault_10 rfl ?_
  refine r_aload_n (pc := 11) dX12_formulaFault_11 rfl ?_
  refine h_X12_216 (pc := 12) rfl dX12_formulaFault_12 (by assumption) (fun h12 => ?_)
  refine r_ifge (pc := 15) (tgt := 37) dX12_formulaFault_15 rfl (by omega) (fun h15 => ?_) (fun h15 => ?_)
  · obtain ⟨q0, s7, m7⟩ : ∃ q0, sumS T len (facS T len 8) 0 = .inl q0 ∧ MS w7 T len (.inl q0) := by
      rcases e7 with ⟨q0, a, b⟩ | ⟨q0, e0, a, b, c, g⟩
      · exact ⟨q0, a, b⟩
      · have := b.inr; omega
    have ml := m7.inl
    exact cut37 w7 (.inl q0) _ F7 m7 (Or.inl ⟨q0, by unfold prsS; rw [s7]; rfl, rfl, by omega, by omega⟩) (by assumption)
  obtain ⟨q0, e0, s7, m7, v7, c7⟩ : ∃ q0 e0, sumS T len (facS T len 8) 0 = .inr (q0, e0) ∧ MS w7 T len (.inr q0) ∧ r7 = e0.2 (Vm w3) ∧ w7 385 15 = lfs e0.1 := by
    rcases e7 with ⟨q0, a, b⟩ | h
    · have := b.inl; omega
    · exact h
  obtain ⟨y1, y2, y3, y4⟩ := m7.inr
  refine r_aload_n (pc := 18) dX12_formulaFault_18 rfl ?_
  refine h_X12_213 (pc := 19) rfl dX12_formulaFault_19 (by assumption) (fun h19 => ?_)
  refine r_aload_n (pc := 22) dX12_formulaFault_22 rfl ?_
  refine h_X12_206 (pc := 23) rfl dX12_formulaFault_23 (by assumption) (fun h23 => ?_)
  refine r_icmpge (pc := 26) (tgt := 37) dX12_formulaFault_26 rfl (by omega) (by omega) (fun h26 => ?_) (fun h26 => ?_)
  · exact cut37 w7 (.inr q0) _ F7 m7 (Or.inr ⟨q0, e0, q0, by unfold prsS; rw [s7, bn_r, if_neg (by omega)], rfl, c7⟩) (by assumption)
  refine r_aload_n (pc := 29) dX12_formulaFault_29 rfl ?_
  refine r_aload_n (pc := 30) dX12_formulaFault_30 rfl ?_
  refine h_X12_213 (pc := 31) rfl dX12_formulaFault_31 (by assumption) (fun h31 => ?_)
  refine c_X12_226 (pc := 34) rfl dX12_formulaFault_34 (by first | assumption | rfl) (by omega) (Nat.le_of_ble_eq_true rfl) ?_
  refine m_X12_faults (d - 1) (by omega) (by assumption) m7 (fun p z => by omega) (by omega) (fun w34 e34 f34 p34 hw34 => ?_)
  exact cut37 w34 (.inl (w7 385 12)) _ (F7.tr f34.f) e34 (Or.inl ⟨w7 385 12, by unfold prsS; rw [s7, bn_r, y2, if_pos (by omega)], rfl, by omega, by omega⟩) (by assumption)
set_option maxRecDepth 8000 in
theorem m_X12_mixed {Q : Option AV → Wd → Prop} {w : Wd} (d : Nat) {T : Int → Int} {len f q : Int} {e : EE} (hd : 11 ≤ d) (hw : WR w) (h5 : w 386 530 = len) (hT : ∀ j, 0 ≤ j → j < len → w 386 (531 + j) = T j) (hl : 0 ≤ len ∧ len ≤ 120) (hI : ∀ q, 0 ≤ q → q ≤ 3 → CI (mx w q)) (hf : 0 ≤ f ∧ f ≤ 960) (hp : prsS T len = .inr (q, e)) (hQ : ∀ r w2, FRF w w2 → r = e.2 (fun c b => valS (mx w c) (max 0 (f - b))) → R32 r → WR w2 → Q (some (vI r)) w2) : M mX12_mixed (Rm d) [vR (some 385), vI f] (fl w) (lQ Q) := by
  have hs : sumS T len (facS T len 8) 0 = .inr (q, e) := by
    unfold prsS at hp
    rcases hz : sumS T len (facS T len 8) 0 with a | ⟨a, b⟩
    · rw [hz] at hp; cases hp
    · rw [hz, bn_r] at hp
      split at hp
      · cases hp
      · cases hp; rfl
  refine f_mofv (L0 := [some (vR (some 385)), some (vI f)]) rfl (Nat.le_of_ble_eq_true rfl) rfl ?_
  refine r_aload_n (pc := 0) dX12_mixed_0 rfl ?_
  refine r_iconst (pc := 1) (n := 1) dX12_mixed_1 ?_
  refine r_iload_n (pc := 2) dX12_mixed_2 rfl ?_
  refine c_X12_270 (pc := 3) rfl dX12_mixed_3 (by first | assumption | rfl) (by omega) (Nat.le_of_ble_eq_true rfl) ?_
  refine m_X12_begins (d - 1) (by omega) (by assumption) (by omega) (by omega) (fun w3 e3 hw3 => ?_)
  have T3 := bg_own (f := f) h5 hT hl
  have E3 := bg_env (o := 1) (f := f) hI hf
  have F3 := FRF_b (w := w) (o := 1) (f := f)
  have V3 := bg_vm (w := w) (o := 1) (f := f)
  rw [← e3] at T3 E3 F3 V3
  have M3 : MS w3 T len (.inr 0) := by
    rw [e3] at T3 ⊢
    exact bg_ms T3
  refine r_aload_n (pc := 6) dX12_mixed_6 rfl ?_
  refine c_X12_274 (pc := 7) rfl dX12_mixed_7 (by first | assumption | rfl) (by omega) (Nat.le_of_ble_eq_true rfl) ?_
  refine m_X12_sum (d - 1) (by omega) (by assumption) M3 (by rw [e3, up_off (by omega), up_off (by omega), up_hit]) (by rw [e3, up_off (by omega), up_hit]) E3 (fun r7 w7 f7 e7 b7 hw7 => ?_)
  exact f_iret (pc := 10) dX12_mixed_10 rfl (by assumption) (hQ _ _ (F3.tr f7.f) (by
        rcases e7 with ⟨q0, a, -⟩ | ⟨q0, e0, a, b, c, g⟩
        · rw [hs] at a; cases a
        · rw [hs] at a
          cases a
          rw [c, V3]) b7 (by assumption))
set_option maxRecDepth 8000 in
theorem m_X12_modeBy {Q : Option AV → Wd → Prop} {w : Wd} (d : Nat) {l : Int} (hd : 0 ≤ d) (hw : WR w) (hl : R32 l) (hQ : ∀ r, r = mdS l → -1 ≤ r → r ≤ 6 → Q (some (vI r)) w) : M mX12_modeBy (Rm d) [vI l] (fl w) (lQ Q) := by
  refine f_mofv (L0 := [some (vI l)]) rfl (Nat.le_of_ble_eq_true rfl) rfl ?_
  refine r_iload_n (pc := 0) dX12_modeBy_0 rfl ?_
  rcases (show l = 65 ∨ l = 67 ∨ l = 72 ∨ l = 76 ∨ l = 77 ∨ l = 84 ∨ l = 66 ∨ l = 68 ∨ l = 69 ∨ l = 70 ∨ l = 71 ∨ l = 73 ∨ l = 74 ∨ l = 75 ∨ l = 78 ∨ l = 79 ∨ l = 80 ∨ l = 81 ∨ l = 82 ∨ l = 83 ∨ (l < 65 ∨ 84 < l) by omega) with m | m | m | m | m | m | m | m | m | m | m | m | m | m | m | m | m | m | m | m | m
  · subst m
    refine r_tableIn (pc := 1) (tgt := 100) (x := 65) (off := 99) dX12_modeBy_1 (by omega) (by omega) (by omega) rfl rfl ?_
    refine r_iconst (pc := 100) (n := 3) dX12_modeBy_100 ?_
    exact f_iret (pc := 101) dX12_modeBy_101 rfl (by assumption) (hQ _ (by unfold mdS; first | rfl | (simp; done) | (repeat rw [if_neg (by omega)])) (by omega) (by omega))
  · subst m
    refine r_tableIn (pc := 1) (tgt := 102) (x := 67) (off := 101) dX12_modeBy_1 (by omega) (by omega) (by omega) rfl rfl ?_
    refine r_iconst (pc := 102) (n := 4) dX12_modeBy_102 ?_
    exact f_iret (pc := 103) dX12_modeBy_103 rfl (by assumption) (hQ _ (by unfold mdS; first | rfl | (simp; done) | (repeat rw [if_neg (by omega)])) (by omega) (by omega))
  · subst m
    refine r_tableIn (pc := 1) (tgt := 106) (x := 72) (off := 105) dX12_modeBy_1 (by omega) (by omega) (by omega) rfl rfl ?_
    refine r_bipush (pc := 106) (n := 6) dX12_modeBy_106 (by decide) ?_
    exact f_iret (pc := 108) dX12_modeBy_108 rfl (by assumption) (hQ _ (by unfold mdS; first | rfl | (simp; done) | (repeat rw [if_neg (by omega)])) (by omega) (by omega))
  · subst m
    refine r_tableIn (pc := 1) (tgt := 98) (x := 76) (off := 97) dX12_modeBy_1 (by omega) (by omega) (by omega) rfl rfl ?_
    refine r_iconst (pc := 98) (n := 2) dX12_modeBy_98 ?_
    exact f_iret (pc := 99) dX12_modeBy_99 rfl (by assumption) (hQ _ (by unfold mdS; first | rfl | (simp; done) | (repeat rw [if_neg (by omega)])) (by omega) (by omega))
  · subst m
    refine r_tableIn (pc := 1) (tgt := 104) (x := 77) (off := 103) dX12_modeBy_1 (by omega) (by omega) (by omega) rfl rfl ?_
    refine r_iconst (pc := 104) (n := 5) dX12_modeBy_104 ?_
    exact f_iret (pc := 105) dX12_modeBy_105 rfl (by assumption) (hQ _ (by unfold mdS; first | rfl | (simp; done) | (repeat rw [if_neg (by omega)])) (by omega) (by omega))
  · subst m
    refine r_tableIn (pc := 1) (tgt := 96) (x := 84) (off := 95) dX12_modeBy_1 (by omega) (by omega) (by omega) rfl rfl ?_
    refine r_iconst (pc := 96) (n := 1) dX12_modeBy_96 ?_
    exact f_iret (pc := 97) dX12_modeBy_97 rfl (by assumption) (hQ _ (by unfold mdS; first | rfl | (simp; done) | (repeat rw [if_neg (by omega)])) (by omega) (by omega))
  · subst m
    refine r_tableIn (pc := 1) (tgt := 109) (x := 66) (off := 108) dX12_modeBy_1 (by omega) (by omega) (by omega) rfl rfl ?_
    refine r_iconst (pc := 109) (n := (-1)) dX12_modeBy_109 ?_
    exact f_iret (pc := 110) dX12_modeBy_110 rfl (by assumption) (hQ _ (by unfold mdS; first | rfl | (simp; done) | (repeat rw [if_neg (by omega)])) (by omega) (by omega))
  · subst m
    refine r_tableIn (pc := 1) (tgt := 109) (x := 68) (off := 108) dX12_modeBy_1 (by omega) (by omega) (by omega) rfl rfl ?_
    refine r_iconst (pc := 109) (n := (-1)) dX12_modeBy_109 ?_
    exact f_iret (pc := 110) dX12_modeBy_110 rfl (by assumption) (hQ _ (by unfold mdS; first | rfl | (simp; done) | (repeat rw [if_neg (by omega)])) (by omega) (by omega))
  · subst m
    refine r_tableIn (pc := 1) (tgt := 109) (x := 69) (off := 108) dX12_modeBy_1 (by omega) (by omega) (by omega) rfl rfl ?_
    refine r_iconst (pc := 109) (n := (-1)) dX12_modeBy_109 ?_
    exact f_iret (pc := 110) dX12_modeBy_110 rfl (by assumption) (hQ _ (by unfold mdS; first | rfl | (simp; done) | (repeat rw [if_neg (by omega)])) (by omega) (by omega))
  · subst m
    refine r_tableIn (pc := 1) (tgt := 109) (x := 70) (off := 108) dX12_modeBy_1 (by omega) (by omega) (by omega) rfl rfl ?_
    refine r_iconst (pc := 109) (n := (-1)) dX12_modeBy_109 ?_
    exact f_iret (pc := 110) dX12_modeBy_110 rfl (by assumption) (hQ _ (by unfold mdS; first | rfl | (simp; done) | (repeat rw [if_neg (by omega)])) (by omega) (by omega))
  · subst m
    refine r_tableIn (pc := 1) (tgt := 109) (x := 71) (off := 108) dX12_modeBy_1 (by omega) (by omega) (by omega) rfl rfl ?_
    refine r_iconst (pc := 109) (n := (-1)) dX12_modeBy_109 ?_
    exact f_iret (pc := 110) dX12_modeBy_110 rfl (by assumption) (hQ _ (by unfold mdS; first | rfl | (simp; done) | (repeat rw [if_neg (by omega)])) (by omega) (by omega))
  · subst m
    refine r_tableIn (pc := 1) (tgt := 109) (x := 73) (off := 108) dX12_modeBy_1 (by omega) (by omega) (by omega) rfl rfl ?_
    refine r_iconst (pc := 109) (n := (-1)) dX12_modeBy_109 ?_
    exact f_iret (pc := 110) dX12_modeBy_110 rfl (by assumption) (hQ _ (by unfold mdS; first | rfl | (simp; done) | (repeat rw [if_neg (by omega)])) (by omega) (by omega))
  · subst m
    refine r_tableIn (pc := 1) (tgt := 109) (x := 74) (off := 108) dX12_modeBy_1 (by omega) (by omega) (by omega) rfl rfl ?_
    refine r_iconst (pc := 109) (n := (-1)) dX12_modeBy_109 ?_
    exact f_iret (pc := 110) dX12_modeBy_110 rfl (by assumption) (hQ _ (by unfold mdS; first | rfl | (simp; done) | (repeat rw [if_neg (by omega)])) (by omega) (by omega))
  · subst m
    refine r_tableIn (pc := 1) (tgt := 109) (x := 75) (off := 108) dX12_modeBy_1 (by omega) (by omega) (by omega) rfl rfl ?_
    refine r_iconst (pc := 109) (n := (-1)) dX12_modeBy_109 ?_
    exact f_iret (pc := 110) dX12_modeBy_110 rfl (by assumption) (hQ _ (by unfold mdS; first | rfl | (simp; done) | (repeat rw [if_neg (by omega)])) (by omega) (by omega))
  · subst m
    refine r_tableIn (pc := 1) (tgt := 109) (x := 78) (off := 108) dX12_modeBy_1 (by omega) (by omega) (by omega) rfl rfl ?_
    refine r_iconst (pc := 109) (n := (-1)) dX12_modeBy_109 ?_
    exact f_iret (pc := 110) dX12_modeBy_110 rfl (by assumption) (hQ _ (by unfold mdS; first | rfl | (simp; done) | (repeat rw [if_neg (by omega)])) (by omega) (by omega))
  · subst m
    refine r_tableIn (pc := 1) (tgt := 109) (x := 79) (off := 108) dX12_modeBy_1 (by omega) (by omega) (by omega) rfl rfl ?_
    refine r_iconst (pc := 109) (n := (-1)) dX12_modeBy_109 ?_
    exact f_iret (pc := 110) dX12_modeBy_110 rfl (by assumption) (hQ _ (by unfold mdS; first | rfl | (simp; done) | (repeat rw [if_neg (by omega)])) (by omega) (by omega))
  · subst m
    refine r_tableIn (pc := 1) (tgt := 109) (x := 80) (off := 108) dX12_modeBy_1 (by omega) (by omega) (by omega) rfl rfl ?_
    refine r_iconst (pc := 109) (n := (-1)) dX12_modeBy_109 ?_
    exact f_iret (pc := 110) dX12_modeBy_110 rfl (by assumption) (hQ _ (by unfold mdS; first | rfl | (simp; done) | (repeat rw [if_neg (by omega)])) (by omega) (by omega))
  · subst m
    refine r_tableIn (pc := 1) (tgt := 109) (x := 81) (off := 108) dX12_modeBy_1 (by omega) (by omega) (by omega) rfl rfl ?_
    refine r_iconst (pc := 109) (n := (-1)) dX12_modeBy_109 ?_
    exact f_iret (pc := 110) dX12_modeBy_110 rfl (by assumption) (hQ _ (by unfold mdS; first | rfl | (simp; done) | (repeat rw [if_neg (by omega)])) (by omega) (by omega))
  · subst m
    refine r_tableIn (pc := 1) (tgt := 109) (x := 82) (off := 108) dX12_modeBy_1 (by omega) (by omega) (by omega) rfl rfl ?_
    refine r_iconst (pc := 109) (n := (-1)) dX12_modeBy_109 ?_
    exact f_iret (pc := 110) dX12_modeBy_110 rfl (by assumption) (hQ _ (by unfold mdS; first | rfl | (simp; done) | (repeat rw [if_neg (by omega)])) (by omega) (by omega))
  · subst m
    refine r_tableIn (pc := 1) (tgt := 109) (x := 83) (off := 108) dX12_modeBy_1 (by omega) (by omega) (by omega) rfl rfl ?_
    refine r_iconst (pc := 109) (n := (-1)) dX12_modeBy_109 ?_
    exact f_iret (pc := 110) dX12_modeBy_110 rfl (by assumption) (hQ _ (by unfold mdS; first | rfl | (simp; done) | (repeat rw [if_neg (by omega)])) (by omega) (by omega))
  · have q := m
    refine r_tableOut (pc := 1) (tgt := 109) dX12_modeBy_1 (by omega) (by omega) rfl ?_
    refine r_iconst (pc := 109) (n := (-1)) dX12_modeBy_109 ?_
    exact f_iret (pc := 110) dX12_modeBy_110 rfl (by assumption) (hQ _ (by unfold mdS; first | rfl | (simp; done) | (repeat rw [if_neg (by omega)])) (by omega) (by omega))
set_option maxRecDepth 8000 in
theorem m_X12_key {Q : Option AV → Wd → Prop} {w : Wd} (d : Nat) {T : Int → Int} {len : Int} {t : Int ⊕ Int} {L : List K3} {n : Nat} (hd : 4 ≤ d) (hw : WR w) (hS : MS w T len t) (hC : KMT w t L n) (hn : n ≤ 23) (hQ : ∀ w2, FRY w w2 → MS w2 T len (pK (keyR T len (lastF L) t)) → KMT w2 (pK (keyR T len (lastF L) t)) (L ++ ck (keyR T len (lastF L) t)) (n + 1) → WR w2 → Q none w2) : M mX12_key (Rm d) [vR (some 385)] (fl w) (lQ Q) := by
  have hn0 := hC.n
  have ln := hS.ln
  obtain ⟨x0, hx0⟩ : ∃ x0, x0 = w 385 12 := ⟨_, rfl⟩
  have hps : ∀ p, t = .inr p → x0 = p := fun p e => by rw [hx0]; exact (hS.pl p e).1
  have hpb : ∀ p, t = .inr p → 0 ≤ x0 ∧ x0 ≤ len := fun p e => by have := hS.pl p e; omega
  have x0r : R32 x0 := by rw [hx0]; exact hw _ _
  refine f_mofv (L0 := [some (vR (some 385)), none, none, none, none, none]) rfl (Nat.le_of_ble_eq_true rfl) rfl ?_
  have cut185 : ∀ (f : Int) (w1 : Wd), 0 ≤ f → f ≤ 9999 → (∀ p, t = .inr p → 1 ≤ rnD T len p ∧ rnD T len p ≤ 3 → f = nvD T p (rnD T len p).toNat) → FRX w w1 → MS w1 T len (mdT T len (nuT T len (mnT T len (exT T len 58 (key2 T len (lastF L) t))))) → WR w1 → ∀ (s v y g : Int) (o5 : Option AV), (s = 0 ∨ s = 1) → s = (if sgT T len (exT T len 58 (key2 T len (lastF L) t)) = -1 then 1 else 0) → 0 ≤ v → v ≤ 9999 → (∀ p, (mnT T len (exT T len 58 (key2 T len (lastF L) t))) = .inr p → 1 ≤ rnD T len p ∧ rnD T len p ≤ 3 → v = nvD T p (rnD T len p).toNat) → y = sgT T len (exT T len 58 (key2 T len (lastF L) t)) * v → WR (up (up w1 401 (3 * w 385 26) f) 401 (3 * w 385 26 + 1) y) → ∀ z : Int, z = mdV T len (nuT T len (mnT T len (exT T len 58 (key2 T len (lastF L) t)))) → V mX12_key (Rm d) 0 0 185 [some (vR (some 385)), some (vI x0), some (vI f), some (vI s), some (vI v), o5] [vI z, vI (3 * w 385 26 + 2), vR (some 401)] (fl (up (up w1 401 (3 * w 385 26) f) 401 (3 * w 385 26 + 1) y)) (lQ Q) := by
    intro f w1 f0 f9 hfv hf1 hS1 hw1 s v y g o5 hs01 hs v0 v9 hv hy hw2 z hz
    have t26 : w1 385 26 = w 385 26 := hf1.2 26 (by omega) (by omega)
    have mb := mdV_b (T := T) (len := len) (t := (nuT T len (mnT T len (exT T len 58 (key2 T len (lastF L) t)))))
    have KE := keym_end (f := f) (v := v) (m := z) (x := 3 * w 385 26) (y := y) (z := 0) hC hn hfv rfl rfl hv hz f0 hf1 rfl hy
    refine f_iast (pc := 185) dX12_key_185 (n := 75) (by assumption) (by first | assumption | rfl) (by omega) (by omega) (by omega) (by omega) (fun hw185 => ?_)
    refine r_aload_n (pc := 186) dX12_key_186 rfl ?_
    refine r_dup (pc := 187) dX12_key_187 rfl ?_
    refine h_X12_277 (pc := 188) rfl dX12_key_188 (by assumption) (fun h188 => ?_)
    rw [up_ne (by omega), up_ne (by omega), up_ne (by omega), t26] at h188 ⊢
    refine r_iconst (pc := 191) (n := 1) dX12_key_191 ?_
    refine r_iadd (pc := 192) dX12_key_192 ?_
    refine ph_X12_277 (pc := 193) rfl dX12_key_193 (by assumption) (by omega) (fun hw193 => ?_)
    exact f_vret (pc := 196) dX12_key_196 rfl (by assumption) (by
          have F2 : FRY w1 (up (up (up (up w1 401 (3 * w 385 26) f) 401 (3 * w 385 26 + 1) y) 401 (3 * w 385 26 + 2) z) 385 26 (w 385 26 + 1)) := ⟨fun i a b => by rw [up_ne a, up_ne b, up_ne b, up_ne b], fun j a b c => by rw [up_off (by omega), up_ne (by omega), up_ne (by omega), up_ne (by omega)]⟩
          refine hQ _ (hf1.y.tr F2) ?_ KE (by assumption)
          rw [keyR_p]
          exact F2.ms hS1 (by rw [up_off (by omega), up_ne (by omega), up_ne (by omega), up_ne (by omega)]) (by rw [up_off (by omega), up_ne (by omega), up_ne (by omega), up_ne (by omega)]))
  have cut161 : ∀ (f : Int) (w1 : Wd), 0 ≤ f → f ≤ 9999 → (∀ p, t = .inr p → 1 ≤ rnD T len p ∧ rnD T len p ≤ 3 → f = nvD T p (rnD T len p).toNat) → FRX w w1 → MS w1 T len (mdT T len (nuT T len (mnT T len (exT T len 58 (key2 T len (lastF L) t))))) → WR w1 → ∀ (s v m : Int), (s = 0 ∨ s = 1) → s = (if sgT T len (exT T len 58 (key2 T len (lastF L) t)) = -1 then 1 else 0) → 0 ≤ v → v ≤ 9999 → (∀ p, (mnT T len (exT T len 58 (key2 T len (lastF L) t))) = .inr p → 1 ≤ rnD T len p ∧ rnD T len p ≤ 3 → v = nvD T p (rnD T len p).toNat) → ((∃ p, (nuT T len (mnT T len (exT T len 58 (key2 T len (lastF L) t)))) = .inr p ∧ m = mdS (hT T len p)) ∨ (∃ q, (nuT T len (mnT T len (exT T len 58 (key2 T len (lastF L) t)))) = .inl q ∧ m = -1)) → -1 ≤ m → m ≤ 6 → WR (up w1 401 (3 * w 385 26) f) → ∀ y : Int, y = sgT T len (exT T len 58 (key2 T len (lastF L) t)) * v → -9999 ≤ y → y ≤ 9999 → V mX12_key (Rm d) 0 0 161 [some (vR (some 385)), some (vI x0), some (vI f), some (vI s), some (vI v), some (vI m)] [vI y, vI (3 * w 385 26 + 1), vR (some 401)] (fl (up w1 401 (3 * w 385 26) f)) (lQ Q) := by
    intro f w1 f0 f9 hfv hf1 hS1 hw1 s v m hs01 hs v0 v9 hv hm m0 m9 hw2 y hy y0 y9
    have t26 : w1 385 26 = w 385 26 := hf1.2 26 (by omega) (by omega)
    refine f_iast (pc := 161) dX12_key_161 (n := 75) (by assumption) (by first | assumption | rfl) (by omega) (by omega) (by omega) (by omega) (fun hw161 => ?_)
    refine r_aload_n (pc := 162) dX12_key_162 rfl ?_
    refine h_X12_57 (pc := 163) rfl dX12_key_163 ?_
    refine r_iconst (pc := 166) (n := 3) dX12_key_166 ?_
    refine r_aload_n (pc := 167) dX12_key_167 rfl ?_
    refine h_X12_277 (pc := 168) rfl dX12_key_168 (by assumption) (fun h168 => ?_)
    rw [up_ne (by omega), up_ne (by omega), t26] at h168 ⊢
    refine r_imul (pc := 171) dX12_key_171 ?_
    refine r_iconst (pc := 172) (n := 2) dX12_key_172 ?_
    refine r_iadd (pc := 173) dX12_key_173 ?_
    refine r_iload (pc := 174) dX12_key_174 rfl ?_
    refine r_ifge (pc := 176) (tgt := 183) dX12_key_176 rfl (by omega) (fun h176 => ?_) (fun h176 => ?_)
    · refine r_iload (pc := 183) dX12_key_183 rfl ?_
      exact cut185 f w1 f0 f9 hfv hf1 hS1 hw1 s v y 0 _ hs01 hs v0 v9 hv hy (by assumption) _ (by
            rcases hm with ⟨p, a, b⟩ | ⟨q, a, b⟩
            · rw [a, b]; exact (if_neg (by omega)).symm
            · omega)
    refine r_iconst (pc := 179) (n := 3) dX12_key_179 ?_
    refine r_goto (pc := 180) (tgt := 185) dX12_key_180 rfl ?_
    exact cut185 f w1 f0 f9 hfv hf1 hS1 hw1 s v y 0 _ hs01 hs v0 v9 hv hy (by assumption) _ (by
          rcases hm with ⟨p, a, b⟩ | ⟨q, a, b⟩
          · rw [a]; exact (if_pos (by omega)).symm
          · rw [a]; rfl)
  have cut125 : ∀ (f : Int) (w1 : Wd), 0 ≤ f → f ≤ 9999 → (∀ p, t = .inr p → 1 ≤ rnD T len p ∧ rnD T len p ≤ 3 → f = nvD T p (rnD T len p).toNat) → FRX w w1 → MS w1 T len (mdT T len (nuT T len (mnT T len (exT T len 58 (key2 T len (lastF L) t))))) → WR w1 → ∀ (s v m : Int), (s = 0 ∨ s = 1) → s = (if sgT T len (exT T len 58 (key2 T len (lastF L) t)) = -1 then 1 else 0) → 0 ≤ v → v ≤ 9999 → (∀ p, (mnT T len (exT T len 58 (key2 T len (lastF L) t))) = .inr p → 1 ≤ rnD T len p ∧ rnD T len p ≤ 3 → v = nvD T p (rnD T len p).toNat) → ((∃ p, (nuT T len (mnT T len (exT T len 58 (key2 T len (lastF L) t)))) = .inr p ∧ m = mdS (hT T len p)) ∨ (∃ q, (nuT T len (mnT T len (exT T len 58 (key2 T len (lastF L) t)))) = .inl q ∧ m = -1)) → -1 ≤ m → m ≤ 6 → V mX12_key (Rm d) 0 0 125 [some (vR (some 385)), some (vI x0), some (vI f), some (vI s), some (vI v), some (vI m)] [] (fl w1) (lQ Q) := by
    intro f w1 f0 f9 hfv hf1 hS1 hw1 s v m hs01 hs v0 v9 hv hm m0 m9
    have t26 : w1 385 26 = w 385 26 := hf1.2 26 (by omega) (by omega)
    have sb := sgT_b (T := T) (len := len) (t := (exT T len 58 (key2 T len (lastF L) t)))
    have sy : s ≠ 0 → sgT T len (exT T len 58 (key2 T len (lastF L) t)) = -1 := fun q => by split at hs <;> omega
    have sn : s = 0 → sgT T len (exT T len 58 (key2 T len (lastF L) t)) = 1 := fun q => by split at hs <;> omega
    refine r_aload_n (pc := 125) dX12_key_125 rfl ?_
    refine h_X12_57 (pc := 126) rfl dX12_key_126 ?_
    refine r_iconst (pc := 129) (n := 3) dX12_key_129 ?_
    refine r_aload_n (pc := 130) dX12_key_130 rfl ?_
    refine h_X12_277 (pc := 131) rfl dX12_key_131 (by assumption) (fun h131 => ?_)
    rw [t26] at h131 ⊢
    refine r_imul (pc := 134) dX12_key_134 ?_
    refine r_iload_n (pc := 135) dX12_key_135 rfl ?_
    refine f_iast (pc := 136) dX12_key_136 (n := 75) (by assumption) (by first | assumption | rfl) (by omega) (by omega) (by omega) (by omega) (fun hw136 => ?_)
    refine r_aload_n (pc := 137) dX12_key_137 rfl ?_
    refine h_X12_57 (pc := 138) rfl dX12_key_138 ?_
    refine r_iconst (pc := 141) (n := 3) dX12_key_141 ?_
    refine r_aload_n (pc := 142) dX12_key_142 rfl ?_
    refine h_X12_277 (pc := 143) rfl dX12_key_143 (by assumption) (fun h143 => ?_)
    rw [up_ne (by omega), t26] at h143 ⊢
    refine r_imul (pc := 146) dX12_key_146 ?_
    refine r_iconst (pc := 147) (n := 1) dX12_key_147 ?_
    refine r_iadd (pc := 148) dX12_key_148 ?_
    refine r_iload_n (pc := 149) dX12_key_149 rfl ?_
    refine r_ifeq (pc := 150) (tgt := 159) dX12_key_150 rfl (by clear hm hs; omega) (fun h150 => ?_) (fun h150 => ?_)
    · refine r_iload (pc := 159) dX12_key_159 rfl ?_
      exact cut161 f w1 f0 f9 hfv hf1 hS1 hw1 s v m hs01 hs v0 v9 hv hm m0 m9 (by assumption) _ (by rw [sn (by omega)]; omega) (by omega) (by omega)
    refine r_iload (pc := 153) dX12_key_153 rfl ?_
    refine r_ineg (pc := 155) dX12_key_155 ?_
    refine r_goto (pc := 156) (tgt := 161) dX12_key_156 rfl ?_
    exact cut161 f w1 f0 f9 hfv hf1 hS1 hw1 s v m hs01 hs v0 v9 hv hm m0 m9 (by assumption) _ (by rw [sy (by omega)]; omega) (by omega) (by omega)
  have cut108 : ∀ (f : Int) (w1 : Wd), 0 ≤ f → f ≤ 9999 → (∀ p, t = .inr p → 1 ≤ rnD T len p ∧ rnD T len p ≤ 3 → f = nvD T p (rnD T len p).toNat) → FRX w w1 → MS w1 T len (nuT T len (mnT T len (exT T len 58 (key2 T len (lastF L) t)))) → WR w1 → ∀ (s v : Int) (o5 : Option AV), (s = 0 ∨ s = 1) → s = (if sgT T len (exT T len 58 (key2 T len (lastF L) t)) = -1 then 1 else 0) → 0 ≤ v → v ≤ 9999 → (∀ p, (mnT T len (exT T len 58 (key2 T len (lastF L) t))) = .inr p → 1 ≤ rnD T len p ∧ rnD T len p ≤ 3 → v = nvD T p (rnD T len p).toNat) → ∀ m : Int, ((∃ p, (nuT T len (mnT T len (exT T len 58 (key2 T len (lastF L) t)))) = .inr p ∧ m = mdS (hT T len p)) ∨ (∃ q, (nuT T len (mnT T len (exT T len 58 (key2 T len (lastF L) t)))) = .inl q ∧ m = -1)) → -1 ≤ m → m ≤ 6 → V mX12_key (Rm d) 0 0 108 [some (vR (some 385)), some (vI x0), some (vI f), some (vI s), some (vI v), o5] [vI m] (fl w1) (lQ Q) := by
    intro f w1 f0 f9 hfv hf1 hS1 hw1 s v o5 hs01 hs v0 v9 hv m hm m0 m9
    refine r_istore5 (pc := 108) dX12_key_108 rfl ?_
    refine r_iload (pc := 110) dX12_key_110 rfl ?_
    refine r_iflt (pc := 112) (tgt := 125) dX12_key_112 rfl (by omega) (fun h112 => ?_) (fun h112 => ?_)
    · exact cut125 f w1 f0 f9 hfv hf1 (by
            rcases hm with ⟨p, a, b⟩ | ⟨q, a, b⟩
            · rw [a, show mdT T len (.inr p) = .inr p from if_pos (by have := mdS_b (hT T len p); omega), ← a]; exact hS1
            · rw [a, show mdT T len (.inl q) = .inl q from rfl, ← a]; exact hS1) hw1 s v m hs01 hs v0 v9 hv hm m0 m9
    have PL0 : w1 385 12 + 1 ≤ 121 ∧ 0 ≤ w1 385 12 := by
      rcases hm with ⟨p, a, b⟩ | ⟨q, a, b⟩
      · have hS2 := hS1
        rw [a] at hS2
        obtain ⟨u1, u2, u3, u4⟩ := hS2.inr
        clear hs hv hfv
        omega
      · omega
    refine r_aload_n (pc := 115) dX12_key_115 rfl ?_
    refine r_dup (pc := 116) dX12_key_116 rfl ?_
    refine h_X12_213 (pc := 117) rfl dX12_key_117 (by assumption) (fun h117 => ?_)
    refine r_iconst (pc := 120) (n := 1) dX12_key_120 ?_
    refine r_iadd (pc := 121) dX12_key_121 ?_
    refine ph_X12_213 (pc := 122) rfl dX12_key_122 (by assumption) (by omega) (fun hw122 => ?_)
    exact cut125 f _ f0 f9 hfv (hf1.tr FRX_12) (by
          rcases hm with ⟨p, a, b⟩ | ⟨q, a, b⟩
          · have hS2 := hS1
            rw [a] at hS2
            obtain ⟨u1, u2, u3, u4⟩ := hS2.inr
            rw [a, show mdT T len (.inr p) = .inr (p + 1) from if_neg (by omega), u2]
            exact hS2.mv (by have := hT_pos (T := T) (len := len) (p := p) (mdS_p (by omega)); omega)
          · omega) (by assumption) s v m hs01 hs v0 v9 hv hm m0 m9
  have cut88 : ∀ (f : Int) (w1 : Wd), 0 ≤ f → f ≤ 9999 → (∀ p, t = .inr p → 1 ≤ rnD T len p ∧ rnD T len p ≤ 3 → f = nvD T p (rnD T len p).toNat) → FRX w w1 → MS w1 T len (nuT T len (mnT T len (exT T len 58 (key2 T len (lastF L) t)))) → WR w1 → ∀ (s : Int) (o4 o5 : Option AV), (s = 0 ∨ s = 1) → s = (if sgT T len (exT T len 58 (key2 T len (lastF L) t)) = -1 then 1 else 0) → ∀ v : Int, 0 ≤ v → v ≤ 9999 → (∀ p, (mnT T len (exT T len 58 (key2 T len (lastF L) t))) = .inr p → 1 ≤ rnD T len p ∧ rnD T len p ≤ 3 → v = nvD T p (rnD T len p).toNat) → V mX12_key (Rm d) 0 0 88 [some (vR (some 385)), some (vI x0), some (vI f), some (vI s), o4, o5] [vI v] (fl w1) (lQ Q) := by
    intro f w1 f0 f9 hfv hf1 hS1 hw1 s o4 o5 hs01 hs v v0 v9 hv
    refine r_istore4 (pc := 88) dX12_key_88 rfl ?_
    refine r_aload_n (pc := 90) dX12_key_90 rfl ?_
    refine h_X12_216 (pc := 91) rfl dX12_key_91 (by assumption) (fun h91 => ?_)
    refine r_ifge (pc := 94) (tgt := 107) dX12_key_94 rfl (by omega) (fun h94 => ?_) (fun h94 => ?_)
    · obtain ⟨q5, a5, u1, u2, u3⟩ := hS1.bad (by omega)
      refine r_iconst (pc := 107) (n := (-1)) dX12_key_107 ?_
      exact cut108 f w1 f0 f9 hfv hf1 hS1 hw1 s v _ hs01 hs v0 v9 hv _ (Or.inr ⟨q5, a5, rfl⟩) (by omega) (by omega)
    obtain ⟨p5, a5, u1, u2, u3, u4⟩ := hS1.ok (by omega)
    refine r_aload_n (pc := 97) dX12_key_97 rfl ?_
    refine c_X12_219 (pc := 98) rfl dX12_key_98 (by first | assumption | rfl) (by omega) (Nat.le_of_ble_eq_true rfl) ?_
    refine m_X12_here (p := p5) (d - 1) (by omega) (by assumption) hS1.1 u2 u3 (fun r98 e98 b98 => ?_)
    refine c_X12_280 (pc := 101) rfl dX12_key_101 (by omega) (Nat.le_of_ble_eq_true rfl) ?_
    refine m_X12_modeBy (d - 1) (by omega) (by assumption) (by omega) (fun r101 e101 b101 c101 => ?_)
    refine r_goto (pc := 104) (tgt := 108) dX12_key_104 rfl ?_
    exact cut108 f w1 f0 f9 hfv hf1 hS1 hw1 s v _ hs01 hs v0 v9 hv _ (Or.inl ⟨p5, a5, by rw [e101, e98]⟩) (by omega) (by omega)
  have cut73 : ∀ (f : Int) (w1 : Wd), 0 ≤ f → f ≤ 9999 → (∀ p, t = .inr p → 1 ≤ rnD T len p ∧ rnD T len p ≤ 3 → f = nvD T p (rnD T len p).toNat) → FRX w w1 → MS w1 T len (mnT T len (exT T len 58 (key2 T len (lastF L) t))) → WR w1 → ∀ (s : Int) (o4 o5 : Option AV), (s = 0 ∨ s = 1) → s = (if sgT T len (exT T len 58 (key2 T len (lastF L) t)) = -1 then 1 else 0) → V mX12_key (Rm d) 0 0 73 [some (vR (some 385)), some (vI x0), some (vI f), some (vI s), o4, o5] [] (fl w1) (lQ Q) := by
    intro f w1 f0 f9 hfv hf1 hS1 hw1 s o4 o5 hs01 hs
    refine r_aload_n (pc := 73) dX12_key_73 rfl ?_
    refine h_X12_216 (pc := 74) rfl dX12_key_74 (by assumption) (fun h74 => ?_)
    refine r_ifge (pc := 77) (tgt := 87) dX12_key_77 rfl (by omega) (fun h77 => ?_) (fun h77 => ?_)
    · obtain ⟨q4, a4, u1, u2, u3⟩ := hS1.bad (by omega)
      refine r_iconst (pc := 87) (n := 0) dX12_key_87 ?_
      exact cut88 f w1 f0 f9 hfv hf1 (by rw [a4, show nuT T len (.inl q4) = .inl q4 from rfl, ← a4]; exact hS1) hw1 s _ _ hs01 hs 0 (by omega) (by omega) (fun p z => by rw [a4] at z; cases z)
    refine r_aload_n (pc := 80) dX12_key_80 rfl ?_
    refine c_X12_251 (pc := 81) rfl dX12_key_81 (by first | assumption | rfl) (by omega) (Nat.le_of_ble_eq_true rfl) ?_
    refine ma_number (d - 1) (by omega) (by assumption) hS1 (fun r81 w81 a81 b81 n81 e81 f81 hw81 => ?_)
    refine r_goto (pc := 84) (tgt := 88) dX12_key_84 rfl ?_
    exact cut88 f w81 f0 f9 hfv (hf1.tr f81) e81 (by assumption) s _ _ hs01 hs _ a81 b81 n81
  have cut46 : ∀ (f : Int) (w1 : Wd), 0 ≤ f → f ≤ 9999 → (∀ p, t = .inr p → 1 ≤ rnD T len p ∧ rnD T len p ≤ 3 → f = nvD T p (rnD T len p).toNat) → FRX w w1 → MS w1 T len (key2 T len (lastF L) t) → WR w1 → ∀ (o3 o4 o5 : Option AV), V mX12_key (Rm d) 0 0 46 [some (vR (some 385)), some (vI x0), some (vI f), o3, o4, o5] [] (fl w1) (lQ Q) := by
    intro f w1 f0 f9 hfv hf1 hS1 hw1 o3 o4 o5
    refine r_aload_n (pc := 46) dX12_key_46 rfl ?_
    refine r_bipush (pc := 47) (n := 58) dX12_key_47 (by decide) ?_
    refine c_X12_241 (pc := 49) rfl dX12_key_49 (by first | assumption | rfl) (by omega) (Nat.le_of_ble_eq_true rfl) ?_
    refine m_X12_must (d - 1) (by omega) (by assumption) hS1 (by omega) (fun w49 e49 f49 hw49 => ?_)
    refine r_aload_n (pc := 52) dX12_key_52 rfl ?_
    refine r_bipush (pc := 53) (n := 45) dX12_key_53 (by decide) ?_
    refine c_X12_223 (pc := 55) rfl dX12_key_55 (by first | assumption | rfl) (by omega) (Nat.le_of_ble_eq_true rfl) ?_
    refine m_X12_is (d - 1) (by omega) (by assumption) e49 (by omega) (fun r55 b55 e55 => ?_)
    refine r_istore3 (pc := 58) dX12_key_58 rfl ?_
    refine r_iload_n (pc := 59) dX12_key_59 rfl ?_
    refine r_ifeq (pc := 60) (tgt := 73) dX12_key_60 rfl (by omega) (fun h60 => ?_) (fun h60 => ?_)
    · exact cut73 f w49 f0 f9 hfv (hf1.tr f49) (by rw [mnm_n (e55.n (by omega))]; exact e49) (by assumption) _ _ _ (by omega) (by rw [sgm_n (e55.n (by omega))]; simp; omega)
    obtain ⟨p3, q3, E3⟩ := e55.y (by omega)
    have M3 := e49
    rw [q3] at M3
    obtain ⟨u1, u2, u3, u4⟩ := M3.inr
    have p3l := hT_pos (T := T) (len := len) (p := p3) (by omega)
    refine r_aload_n (pc := 63) dX12_key_63 rfl ?_
    refine r_dup (pc := 64) dX12_key_64 rfl ?_
    refine h_X12_213 (pc := 65) rfl dX12_key_65 (by assumption) (fun h65 => ?_)
    refine r_iconst (pc := 68) (n := 1) dX12_key_68 ?_
    refine r_iadd (pc := 69) dX12_key_69 ?_
    refine ph_X12_213 (pc := 70) rfl dX12_key_70 (by assumption) (by omega) (fun hw70 => ?_)
    exact cut73 f _ f0 f9 hfv ((hf1.tr f49).tr FRX_12) (by rw [q3, show mnT T len (.inr p3) = .inr (p3 + 1) from if_pos E3, u2]; exact M3.mv (by omega)) (by assumption) _ _ _ (by omega) (by rw [q3, show sgT T len (.inr p3) = -1 from if_pos E3]; simp; omega)
  have cut41 : ∀ (f : Int) (w1 : Wd), 0 ≤ f → f ≤ 9999 → (∀ p, t = .inr p → 1 ≤ rnD T len p ∧ rnD T len p ≤ 3 → f = nvD T p (rnD T len p).toNat) → FRX w w1 → MS w1 T len (nuT T len t) → WR w1 → (∀ p, t = .inr p → f > 480 ∨ f ≤ lastF L) → ∀ (o3 o4 o5 : Option AV), V mX12_key (Rm d) 0 0 41 [some (vR (some 385)), some (vI x0), some (vI f), o3, o4, o5] [] (fl w1) (lQ Q) := by
    intro f w1 f0 f9 hfv hf1 hS1 hw1 hl o3 o4 o5
    refine r_aload_n (pc := 41) dX12_key_41 rfl ?_
    refine r_iload_n (pc := 42) dX12_key_42 rfl ?_
    refine c_X12_226 (pc := 43) rfl dX12_key_43 (by first | assumption | rfl) (by omega) (Nat.le_of_ble_eq_true rfl) ?_
    refine m_X12_faults (d - 1) (by omega) (by assumption) hS1 (fun p e => by obtain ⟨p1, hp1⟩ := nuT_ps e; exact hpb p1 hp1) x0r (fun w43 e43 f43 p43 hw43 => ?_)
    exact cut46 _ w43 f0 f9 hfv (hf1.tr f43) (by rw [← k2m_f hps hfv hl]; exact e43) (by assumption) _ _ _
  refine r_aload_n (pc := 0) dX12_key_0 rfl ?_
  refine h_X12_213 (pc := 1) rfl dX12_key_1 (by assumption) (fun h1 => ?_)
  rw [← hx0]
  refine r_istore1 (pc := 4) dX12_key_4 rfl ?_
  refine r_aload_n (pc := 5) dX12_key_5 rfl ?_
  refine c_X12_251 (pc := 6) rfl dX12_key_6 (by first | assumption | rfl) (by omega) (Nat.le_of_ble_eq_true rfl) ?_
  refine ma_number (d - 1) (by omega) (by assumption) hS (fun r6 w6 a6 b6 n6 e6 f6 hw6 => ?_)
  have t26 : w6 385 26 = w 385 26 := f6.2 26 (by omega) (by omega)
  have t401 : w6 401 = w 401 := f6.1 401 (by omega)
  refine r_istore2 (pc := 9) dX12_key_9 rfl ?_
  refine r_iload_n (pc := 10) dX12_key_10 rfl ?_
  refine r_sipush (pc := 11) (n := 480) dX12_key_11 (by decide) ?_
  refine r_icmpgt (pc := 14) (tgt := 41) dX12_key_14 rfl (by omega) (by omega) (fun h14 => ?_) (fun h14 => ?_)
  · exact cut41 _ w6 a6 b6 n6 f6 e6 (by assumption) (fun p hp => Or.inl (by omega)) _ _ _
  refine r_aload_n (pc := 17) dX12_key_17 rfl ?_
  refine h_X12_277 (pc := 18) rfl dX12_key_18 (by assumption) (fun h18 => ?_)
  rw [t26] at h18 ⊢
  refine r_ifle (pc := 21) (tgt := 46) dX12_key_21 rfl (by omega) (fun h21 => ?_) (fun h21 => ?_)
  · exact cut46 _ w6 a6 b6 n6 f6 (by rw [k2m_n n6 (by omega) (fun p hp => by subst hp; exact km_l0 hC (by omega) a6)]; exact e6) (by assumption) _ _ _
  refine r_iload_n (pc := 24) dX12_key_24 rfl ?_
  refine r_aload_n (pc := 25) dX12_key_25 rfl ?_
  refine h_X12_57 (pc := 26) rfl dX12_key_26 ?_
  refine r_iconst (pc := 29) (n := 3) dX12_key_29 ?_
  refine r_aload_n (pc := 30) dX12_key_30 rfl ?_
  refine h_X12_277 (pc := 31) rfl dX12_key_31 (by assumption) (fun h31 => ?_)
  refine r_imul (pc := 34) dX12_key_34 ?_
  refine r_iconst (pc := 35) (n := 3) dX12_key_35 ?_
  refine r_isub (pc := 36) dX12_key_36 ?_
  refine f_iald (pc := 37) dX12_key_37 (n := 75) (by assumption) (by first | assumption | rfl) (by omega) (by omega) (by omega) (fun h37 => ?_)
  rw [t26, t401] at h37 ⊢
  refine r_icmpgt (pc := 38) (tgt := 46) dX12_key_38 rfl (by omega) (by omega) (fun h38 => ?_) (fun h38 => ?_)
  · exact cut46 _ w6 a6 b6 n6 f6 (by rw [k2m_n n6 (by omega) (fun p hp => by subst hp; have := km_last hC (by omega); omega)]; exact e6) (by assumption) _ _ _
  exact cut41 _ w6 a6 b6 n6 f6 e6 (by assumption) (fun p hp => Or.inr (by subst hp; have := km_last hC (by omega); omega)) _ _ _
set_option maxRecDepth 8000 in
theorem m_X12_curveFault {Q : Option AV → Wd → Prop} {w : Wd} (d : Nat) {T : Int → Int} {len : Int} (hd : 5 ≤ d) (hw : WR w) (h4 : w 385 4 = len) (hT : ∀ j, 0 ≤ j → j < len → w 388 j = T j) (hl : 0 ≤ len ∧ len ≤ 120) (hQ : ∀ r w2, FRF w w2 → RDM w2 T len r → WR w2 → Q (some (vI r)) w2) : M mX12_curveFault (Rm d) [vR (some 385)] (fl w) (lQ Q) := by
  refine f_mofv (L0 := [some (vR (some 385))]) rfl (Nat.le_of_ble_eq_true rfl) rfl ?_
  have cut93 : ∀ (w1 : Wd) (x : Int), FRF w w1 → w1 385 13 = x → RDM w1 T len x → WR w1 → V mX12_curveFault (Rm d) 0 0 93 [some (vR (some 385))] [] (fl w1) (lQ Q) := by
    intro w1 x hf1 hx hr hw1
    refine r_aload_n (pc := 93) dX12_curveFault_93 rfl ?_
    refine h_X12_216 (pc := 94) rfl dX12_curveFault_94 (by assumption) (fun h94 => ?_)
    exact f_iret (pc := 97) dX12_curveFault_97 rfl (by assumption) (hQ _ _ hf1 (by rw [hx]; exact hr) (by assumption))
  have cut67 : ∀ (w2 : Wd) (t6 : Int ⊕ Int), FRF w w2 → w2 385 4 = len → MS w2 T len t6 → (∀ x, x = vdM len t6 → RDM w2 T len x) → WR w2 → V mX12_curveFault (Rm d) 0 0 67 [some (vR (some 385))] [] (fl w2) (lQ Q) := by
    intro w2 t6 hf2 hl2 hS2 hr2 hw2
    refine r_aload_n (pc := 67) dX12_curveFault_67 rfl ?_
    refine h_X12_216 (pc := 68) rfl dX12_curveFault_68 (by assumption) (fun h68 => ?_)
    refine r_ifge (pc := 71) (tgt := 93) dX12_curveFault_71 rfl (by omega) (fun h71 => ?_) (fun h71 => ?_)
    · obtain ⟨q5, a5, u1, u2, u3⟩ := hS2.bad (by omega)
      exact cut93 _ _ hf2 rfl (hr2 _ (by rw [a5, u1]; rfl)) hw2
    obtain ⟨p5, a5, u1, u2, u3, u4⟩ := hS2.ok (by omega)
    refine r_aload_n (pc := 74) dX12_curveFault_74 rfl ?_
    refine h_X12_213 (pc := 75) rfl dX12_curveFault_75 (by assumption) (fun h75 => ?_)
    refine r_aload_n (pc := 78) dX12_curveFault_78 rfl ?_
    refine h_X12_206 (pc := 79) rfl dX12_curveFault_79 (by assumption) (fun h79 => ?_)
    refine r_icmpge (pc := 82) (tgt := 93) dX12_curveFault_82 rfl (by omega) (by omega) (fun h82 => ?_) (fun h82 => ?_)
    · exact cut93 _ _ hf2 rfl (hr2 _ (by rw [a5, u1]; exact (if_neg (by omega)).symm)) hw2
    refine r_aload_n (pc := 85) dX12_curveFault_85 rfl ?_
    refine r_aload_n (pc := 86) dX12_curveFault_86 rfl ?_
    refine h_X12_213 (pc := 87) rfl dX12_curveFault_87 (by assumption) (fun h87 => ?_)
    refine c_X12_226 (pc := 90) rfl dX12_curveFault_90 (by first | assumption | rfl) (by omega) (Nat.le_of_ble_eq_true rfl) ?_
    refine m_X12_faults (d - 1) (by omega) (by assumption) (a5 ▸ hS2) (fun p e => by cases e; omega) (by omega) (fun w90 e90 f90 p90 hw90 => ?_)
    exact cut93 w90 _ (hf2.tr f90.f) rfl (rdm_kp f90 (hr2 _ (by rw [a5, e90.inl.1, u2]; exact (if_pos (by omega)).symm))) (by assumption)
  have cut61 : ∀ (w1 : Wd) (t5 : Int ⊕ Int), FRF w w1 → w1 385 4 = len → MS w1 T len t5 → (∀ w2, FRX w1 w2 → MS w2 T len (exT T len 59 t5) → ∀ x, x = vdM len (exT T len 59 t5) → RDM w2 T len x) → WR w1 → V mX12_curveFault (Rm d) 0 0 61 [some (vR (some 385))] [] (fl w1) (lQ Q) := by
    intro w1 t5 hf1 hl1 hS1 hr1 hw1
    refine r_aload_n (pc := 61) dX12_curveFault_61 rfl ?_
    refine r_bipush (pc := 62) (n := 59) dX12_curveFault_62 (by decide) ?_
    refine c_X12_241 (pc := 64) rfl dX12_curveFault_64 (by first | assumption | rfl) (by omega) (Nat.le_of_ble_eq_true rfl) ?_
    refine m_X12_must (d - 1) (by omega) (by assumption) hS1 (by omega) (fun w64 e64 f64 hw64 => ?_)
    exact cut67 w64 _ (hf1.tr f64.f) (by rw [f64.2 4 (by omega) (by omega)]; exact hl1) e64 (fun x hx => hr1 w64 f64 e64 x hx) (by assumption)
  have cut15F : ∀ (w1 : Wd) (q : Int), FRF w w1 → w1 385 4 = len → MS w1 T len (.inl q) → crS T len = .inl q → WR w1 → V mX12_curveFault (Rm d) 0 0 15 [some (vR (some 385))] [] (fl w1) (lQ Q) := by
    intro w1 q hf1 hl1 hS1 hq hw1
    refine r_aload_n (pc := 15) dX12_curveFault_15 rfl ?_
    refine r_bipush (pc := 16) (n := 44) dX12_curveFault_16 (by decide) ?_
    refine c_X12_223 (pc := 18) rfl dX12_curveFault_18 (by first | assumption | rfl) (by omega) (Nat.le_of_ble_eq_true rfl) ?_
    refine m_X12_is (d - 1) (by omega) (by assumption) hS1 (by omega) (fun r18 b18 e18 => ?_)
    refine r_ifeq (pc := 21) (tgt := 61) dX12_curveFault_21 rfl (by omega) (fun h21 => ?_) (fun h21 => ?_)
    · exact cut61 w1 (.inl q) hf1 hl1 hS1 (fun w2 f e x hx => by
        have hx : x = q := hx
        have ml := hS1.inl
        exact Or.inl ⟨q, hq, hx, by omega, by omega⟩) hw1
    obtain ⟨p, tp, -⟩ := e18.y (by omega)
    cases tp
    --stop
  have loop15 : ∀ m : Nat, m ≤ 23 → ∀ (r : KR) (L : List K3) (w1 : Wd), FRF w w1 → w1 385 4 = len → MS w1 T len (pK r) → KMT w1 (pK r) (L ++ ck r) (24 - m) → (∀ q k, r = .inr (q, k) → L.length = 23 - m) → WR w1 → crA T len = crL T len m r L → V mX12_curveFault (Rm d) 0 0 15 [some (vR (some 385))] [] (fl w1) (lQ Q) := by
    refine ind_lt ?_
    intro m ih hm r L w1 hf1 hl1 hS1 hC1 hLm hw1 hr
    refine r_aload_n (pc := 15) dX12_curveFault_15 rfl ?_
    refine r_bipush (pc := 16) (n := 44) dX12_curveFault_16 (by decide) ?_
    refine c_X12_223 (pc := 18) rfl dX12_curveFault_18 (by first | assumption | rfl) (by omega) (Nat.le_of_ble_eq_true rfl) ?_
    refine m_X12_is (d - 1) (by omega) (by assumption) hS1 (by omega) (fun r18 b18 e18 => ?_)
    refine r_ifeq (pc := 21) (tgt := 61) dX12_curveFault_21 rfl (by omega) (fun h21 => ?_) (fun h21 => ?_)
    · exact cut61 w1 (pK r) hf1 hl1 hS1 (fun w2 f e x hx => rdm_end (by rw [hr]; exact crL_nn m (e18.n (by omega))) ((hC1.kp f).le (by omega)) e hx) hw1
    obtain ⟨q, tq, q2⟩ := e18.y (by omega)
    obtain ⟨k, hk⟩ := pK_inr tq
    subst hk
    obtain ⟨u1, u2, u3, u4⟩ := hS1.inr
    have ql := hT_pos (T := T) (len := len) (p := q) (by omega)
    have te := hC1.1
    have te2 : w1 385 26 = L.length + 1 := by rw [te, List.length_append]; rfl
    have Lm := hLm q k rfl
    refine r_aload_n (pc := 24) dX12_curveFault_24 rfl ?_
    refine h_X12_277 (pc := 25) rfl dX12_curveFault_25 (by assumption) (fun h25 => ?_)
    refine r_bipush (pc := 28) (n := 24) dX12_curveFault_28 (by decide) ?_
    refine r_icmpne (pc := 30) (tgt := 44) dX12_curveFault_30 rfl (by omega) (by omega) (fun h30 => ?_) (fun h30 => ?_)
    · obtain ⟨m1, hm1⟩ : ∃ m1, m = m1 + 1 := ⟨m - 1, by omega⟩
      refine r_aload_n (pc := 44) dX12_curveFault_44 rfl ?_
      refine r_dup (pc := 45) dX12_curveFault_45 rfl ?_
      refine h_X12_213 (pc := 46) rfl dX12_curveFault_46 (by assumption) (fun h46 => ?_)
      rw [u2]
      refine r_iconst (pc := 49) (n := 1) dX12_curveFault_49 ?_
      refine r_iadd (pc := 50) dX12_curveFault_50 ?_
      refine ph_X12_213 (pc := 51) rfl dX12_curveFault_51 (by assumption) (by omega) (fun hw51 => ?_)
      refine r_aload_n (pc := 54) dX12_curveFault_54 rfl ?_
      refine c_X12_283 (pc := 55) rfl dX12_curveFault_55 (by first | assumption | rfl) (by omega) (Nat.le_of_ble_eq_true rfl) ?_
      have M51 : MS (up w1 385 12 (q + 1)) T len (.inr (q + 1)) := hS1.mv (by omega)
      refine m_X12_key (T := T) (len := len) (t := .inr (q + 1)) (L := L ++ [k]) (n := 24 - m) (d - 1) (by omega) (by assumption) M51 (hC1.kp FRX_12) (by omega) (fun w55 f55 e55 c55 hw55 => ?_)
      rw [show 24 - m + 1 = 24 - m1 by omega] at c55
      refine r_goto (pc := 58) (tgt := 15) dX12_curveFault_58 rfl ?_
      exact ih m1 (by omega) (by omega) _ _ w55 ((hf1.tr FRX_12.f).tr f55.f) (by rw [f55.2 4 (by omega) (by omega) (by omega), up_off (by omega)]; exact hl1) e55 c55 (fun q0 k0 z => by rw [List.length_append]; show L.length + 1 = _; omega) (by assumption) (by rw [hr, show m = m1 + 1 by omega]; exact crL_s q2)
    refine r_aload_n (pc := 33) dX12_curveFault_33 rfl ?_
    refine r_aload_n (pc := 34) dX12_curveFault_34 rfl ?_
    refine h_X12_213 (pc := 35) rfl dX12_curveFault_35 (by assumption) (fun h35 => ?_)
    refine c_X12_226 (pc := 38) rfl dX12_curveFault_38 (by first | assumption | rfl) (by omega) (Nat.le_of_ble_eq_true rfl) ?_
    refine m_X12_faults (d - 1) (by omega) (by assumption) hS1 (fun p e => by cases e; omega) (by omega) (fun w38 e38 f38 p38 hw38 => ?_)
    refine r_goto (pc := 41) (tgt := 15) dX12_curveFault_41 rfl ?_
    exact cut15F w38 q (hf1.tr f38.f) (by rw [f38.2 4 (by omega) (by omega)]; exact hl1) (by have e := e38; rw [u2] at e; exact e) (crS_25 (k := k) (L := L) (by rw [hr, show m = 0 by have := hLm q k rfl; have := hC1.1; rw [List.length_append] at this; have e : (ck (.inr (q, k))).length = 1 := rfl; omega]; rfl) q2) (by assumption)
  refine r_aload_n (pc := 0) dX12_curveFault_0 rfl ?_
  refine r_iconst (pc := 1) (n := 0) dX12_curveFault_1 ?_
  refine r_iconst (pc := 2) (n := 0) dX12_curveFault_2 ?_
  refine c_X12_270 (pc := 3) rfl dX12_curveFault_3 (by first | assumption | rfl) (by omega) (Nat.le_of_ble_eq_true rfl) ?_
  refine m_X12_begins (d - 1) (by omega) (by assumption) (by omega) (by omega) (fun w3 e3 hw3 => ?_)
  have T3 := bg_txt (f := 0) h4 hT hl
  have F3 := FRF_b (w := w) (o := 0) (f := 0)
  rw [← e3] at T3 F3
  have M3 : MS w3 T len (.inr 0) := by
    rw [e3] at T3 ⊢
    exact bg_ms T3
  have l3 : w3 385 4 = len := by rw [F3.2 4 (by omega) (by omega) (by omega) (by omega)]; exact h4
  refine r_aload_n (pc := 6) dX12_curveFault_6 rfl ?_
  refine r_iconst (pc := 7) (n := 0) dX12_curveFault_7 ?_
  refine ph_X12_277 (pc := 8) rfl dX12_curveFault_8 (by assumption) (by omega) (fun hw8 => ?_)
  refine r_aload_n (pc := 11) dX12_curveFault_11 rfl ?_
  refine c_X12_283 (pc := 12) rfl dX12_curveFault_12 (by first | assumption | rfl) (by omega) (Nat.le_of_ble_eq_true rfl) ?_
  refine m_X12_key (T := T) (len := len) (t := .inr 0) (L := []) (n := 0) (d - 1) (by omega) (by assumption) (M3.kp2 (up_off (by omega)) (up_off (by omega)) (up_ne (by omega)) (up_ne (by omega)) (up_off (by omega)) (up_off (by omega))) ⟨up_hit, Nat.le_refl 0, ⟨fun i x hx => by simp at hx, fun i j x y _ hx => by simp at hx⟩, fun i x hx => by simp at hx⟩ (by omega) (fun w12 f12 e12 c12 hw12 => ?_)
  exact loop15 23 (by omega) _ [] _ ((F3.tr FRF_26).tr f12.f) (by rw [f12.2 4 (by omega) (by omega) (by omega), up_off (by omega)]; exact l3) e12 c12 (fun q k z => rfl) (by assumption) rfl
