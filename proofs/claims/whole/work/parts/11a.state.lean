/-! the whole state, and how both programs hold it -/
abbrev SS : Type := (Int → CP) × Int × (Int → Int) × (Int → Int) × EE
abbrev SS.c (S : SS) : Int → CP := S.1
abbrev SS.n (S : SS) : Int := S.2.1
abbrev SS.s (S : SS) : Int → Int := S.2.2.1
abbrev SS.g (S : SS) : Int → Int := S.2.2.2.1
abbrev SS.f (S : SS) : EE := S.2.2.2.2
abbrev GS : Type := SS × Int × (Int → SS) × Int × (Int → Int)
abbrev GS.now (G : GS) : SS := G.1
abbrev GS.k (G : GS) : Int := G.2.1
abbrev GS.past (G : GS) : Int → SS := G.2.2.1
abbrev GS.len (G : GS) : Int := G.2.2.2.1
abbrev GS.T (G : GS) : Int → Int := G.2.2.2.2
def OKS (S : SS) : Prop := MI S.n S.s S.g ∧ GE S.f ∧ S.f.1.length ≤ 120
def GOK (G : GS) : Prop := OKS G.now ∧ (0 ≤ G.k ∧ G.k ≤ 10) ∧ (∀ i, 0 ≤ i → i < G.k → OKS (G.past i)) ∧ 0 ≤ G.len ∧ G.len ≤ 120
def SCL (S : SS) (w : Wd) (o : Nat) : Prop := (∀ q : Nat, q < 4 → CEV (S.c q) (cx w (o + 8 + 6 * q)) ∧ CI (cx w (o + 8 + 6 * q))) ∧ w (o + 1) 0 = S.n ∧ (∀ j, 0 ≤ j → j < S.n → w (o + 2) j = S.s j ∧ w (o + 3) j = S.g j) ∧ RWs (o + 4) w S.f.1
def CLG (G : GS) (w : Wd) : Prop := SCL G.now w 2 ∧ w 34 1 = G.k ∧ (0 ≤ w 34 0 ∧ w 34 0 < 10) ∧ (∀ (i : Int) (q : Nat), 0 ≤ i → i < G.k → q < 10 → (q : Int) = (w 34 0 + i) % 10 → SCL (G.past i) w (36 + 32 * q)) ∧ (∀ q : Nat, q < 10 → SN w (36 + 32 * q)) ∧ w 356 0 = G.len ∧ w 357 = G.T
def FRL (w w2 : Wd) : Prop := ∀ p, (p = 0 ∨ 384 < p) → w2 p = w p
theorem FRL.rf (w : Wd) : FRL w w := fun _ _ => rfl
theorem FRL.tr {w w1 w2 : Wd} (h : FRL w w1) (g : FRL w1 w2) : FRL w w2 := fun p e => (g p e).trans (h p e)
def recG (G : GS) : GS := (G.now, (if G.k = 10 then 9 else G.k) + 1, (fun i => if i = (if G.k = 10 then 9 else G.k) then G.now else G.past (i + (if G.k = 10 then 1 else 0))), G.len, G.T)
def undG (G : GS) : GS := (G.past (G.k - 1), G.k - 1, G.past, G.len, G.T)
def setC (G : GS) (q : Int) (X : CP) : GS := ((fun p => if p = q then X else G.now.c p, G.now.2), G.2)
theorem RWs_kp {w w2 : Wd} {o o2 : Nat} {C : List (Int × Int)} (h : RWs o w C) (hl : C.length ≤ 120) (e0 : w2 o2 0 = w o 0) (e : ∀ j, 0 ≤ j → j < 120 → w2 (o2 + 1) j = w (o + 1) j ∧ w2 (o2 + 2) j = w (o + 2) j) : RWs o2 w2 C := by
  refine ⟨e0.trans h.1, fun i x hx => ?_⟩
  have li : i < C.length := by
    rcases Nat.lt_or_ge i C.length with z | z
    · exact z
    · rw [List.getElem?_eq_none z] at hx; cases hx
  have r := e i (by omega) (by omega)
  rw [r.1, r.2]
  exact h.2 i x hx
theorem SCL_sce {S : SS} {w w2 : Wd} {c e : Nat} (hS : OKS S) (h : SCL S w e) (g : SCE w2 c w e) : SCL S w2 c := by
  obtain ⟨h1, h2, h3, h4⟩ := h
  obtain ⟨g1, g2, g3, g4, g5⟩ := g
  have n8 : S.n ≤ 8 := hS.1.2.1
  refine ⟨fun q hq => ⟨(h1 q hq).1.tr (g5 q hq).sy.v, (h1 q hq).2.eq (g5 q hq).sy⟩, g1.trans h2, fun j a b => ?_, RWs_kp h4 hS.2.2 g3 g4⟩
  rw [(g2 j a (by omega)).1, (g2 j a (by omega)).2]
  exact h3 j a b
theorem SCL_kp {S : SS} {w w2 : Wd} {o : Nat} (h : SCL S w o) (f : ∀ p, o ≤ p → p ≤ o + 31 → w2 p = w p) : SCL S w2 o := by
  obtain ⟨h1, h2, h3, h4⟩ := h
  refine ⟨fun q hq => ?_, by rw [f _ (by omega) (by omega)]; exact h2, fun j a b => by rw [f (o + 2) (by omega) (by omega), f (o + 3) (by omega) (by omega)]; exact h3 j a b, ⟨by rw [f _ (by omega) (by omega)]; exact h4.1, fun i x hx => by rw [f (o + 4 + 1) (by omega) (by omega), f (o + 4 + 2) (by omega) (by omega)]; exact h4.2 i x hx⟩⟩
  have E : CEQ (cx w (o + 8 + 6 * q)) (cx w2 (o + 8 + 6 * q)) := CEQ.of_eq fun r hr j => by
    unfold cx
    rw [f _ (by omega) (by omega)]
  exact ⟨(h1 q hq).1.tr E.v, (h1 q hq).2.eq E⟩
theorem SN_kp {w w2 : Wd} {o : Nat} (h : SN w o) (f : ∀ p, o ≤ p → p ≤ o + 31 → w2 p = w p) : SN w2 o := fun q hq => by
  rw [f _ (by omega) (by omega)]
  exact h q hq
theorem SCL.sn {S : SS} {w : Wd} {o : Nat} (h : SCL S w o) : SN w o := fun q hq => (h.1 q hq).2.1
theorem CLG_kp {G : GS} {w w2 : Wd} (h : CLG G w) (f : ∀ p, p ≤ 355 → w2 p = w p) (e1 : w2 356 0 = w 356 0) (e2 : w2 357 = w 357) : CLG G w2 := by
  obtain ⟨h1, h2, h3, h4, h5, h6, h7⟩ := h
  have f34 := f 34 (by omega)
  refine ⟨SCL_kp h1 (fun p a b => f p (by omega)), by rw [f34]; exact h2, by rw [f34]; exact h3, fun i q a b c e => ?_, fun q hq => SN_kp (h5 q hq) (fun p a b => f p (by omega)), e1.trans h6, e2.trans h7⟩
  rw [f34] at e
  exact SCL_kp (h4 i q a b c e) (fun p a b => f p (by omega))
theorem CLG_all {G : GS} {w w2 : Wd} (h : CLG G w) (f : ∀ p, p ≤ 357 → w2 p = w p) : CLG G w2 := CLG_kp h (fun p e => f p (by omega)) (by rw [f 356 (by omega)]) (f 357 (by omega))
theorem CLG_rec {G : GS} {w w2 : Wd} (hG : GOK G) (h : CLG G w) (r : REC w w2) : CLG (recG G) w2 ∧ ∀ p, p ≠ 34 → (p < 36 ∨ 355 < p) → w2 p = w p := by
  obtain ⟨h1, h2, h3, h4, h5, h6, h7⟩ := h
  obtain ⟨q0, q9, r1, r2, r3, r4, r5⟩ := r
  obtain ⟨k0, k1⟩ := hG.2.1
  have F : ∀ p, p ≠ 34 → (p < 36 ∨ 355 < p) → w2 p = w p := fun p a b => r4 p a (by omega)
  unfold recO recK at r1
  unfold recO at r2
  unfold recK at r3
  rw [h2] at r1 r2 r3
  have N : SCL G.now w2 (36 + 32 * q0) := SCL_sce hG.1 h1 r5
  have o2 : 0 ≤ w2 34 0 ∧ w2 34 0 < 10 := by rw [r2]; split <;> omega
  refine ⟨⟨SCL_kp h1 (fun p a b => F p (by omega) (by omega)), r3, o2, fun i q a b c e => ?_, fun q hq => ?_, by rw [F 356 (by omega) (by omega)]; exact h6, by rw [F 357 (by omega) (by omega)]; exact h7⟩, F⟩
  · have b : i < (if G.k = 10 then 9 else G.k) + 1 := b
    show SCL (if i = (if G.k = 10 then 9 else G.k) then G.now else G.past (i + (if G.k = 10 then 1 else 0))) w2 (36 + 32 * q)
    by_cases z : i = (if G.k = 10 then 9 else G.k)
    · rw [if_pos z]
      have : q = q0 := by rw [r2] at e; rw [z] at e; split at e <;> split at r1 <;> omega
      rw [this]; exact N
    · rw [if_neg z]
      have ne : q ≠ q0 := fun y => by rw [r2] at e; split at e <;> split at r1 <;> split at z <;> split at b <;> omega
      refine SCL_kp (h4 (i + (if G.k = 10 then 1 else 0)) q ?_ ?_ c ?_) (fun p a b => r4 p (by omega) (by omega))
      · split <;> omega
      · split <;> split at b <;> split at z <;> omega
      · rw [r2] at e
        split <;> split at e <;> omega
  · by_cases z : q = q0
    · rw [z]; exact N.sn
    · exact SN_kp (h5 q hq) (fun p a b => r4 p (by omega) (by omega))
theorem CLG_und {G : GS} {w w2 : Wd} (hG : GOK G) (hk : G.k ≠ 0) (h : CLG G w) (r : REST w w2) : CLG (undG G) w2 ∧ FRL w w2 := by
  obtain ⟨h1, h2, h3, h4, h5, h6, h7⟩ := h
  obtain ⟨q0, q9, r1, r2, r3, r4, r5⟩ := r
  obtain ⟨k0, k1⟩ := hG.2.1
  rw [h2] at r1 r3
  refine ⟨⟨SCL_sce (hG.2.2.1 _ (by omega) (by omega)) (h4 (G.k - 1) q0 (by omega) (by omega) q9 r1) r5, r3, by rw [r2]; exact h3, fun i q a b c e => ?_, fun q hq => SN_kp (h5 q hq) (fun p a b => r4 p (by omega) (by omega)), by rw [r4 356 (by omega) (by omega)]; exact h6, by rw [r4 357 (by omega) (by omega)]; exact h7⟩, fun p e => r4 p (by omega) (by omega)⟩
  have b : i < G.k - 1 := b
  rw [r2] at e
  exact SCL_kp (h4 i q a (by omega) c e) (fun p a b => r4 p (by omega) (by omega))
theorem CLG_cur {G : GS} {w w2 : Wd} {q : Nat} {X : CP} (hq : q < 4) (h : CLG G w) (f : ∀ p, p ≤ 357 → (p < 2 + 8 + 6 * q ∨ 2 + 8 + 6 * q + 5 < p) → w2 p = w p) (e : CEV X (cx w2 (2 + 8 + 6 * q))) (hI : CI (cx w2 (2 + 8 + 6 * q))) : CLG (setC G q X) w2 := by
  obtain ⟨h1, h2, h3, h4, h5, h6, h7⟩ := h
  have f34 := f 34 (by omega) (by omega)
  refine ⟨⟨fun p hp => ?_, by rw [f _ (by omega) (by omega)]; exact h1.2.1, fun j a b => by rw [f (2 + 2) (by omega) (by omega), f (2 + 3) (by omega) (by omega)]; exact h1.2.2.1 j a b, ⟨by rw [f _ (by omega) (by omega)]; exact h1.2.2.2.1, fun i x hx => by rw [f (2 + 4 + 1) (by omega) (by omega), f (2 + 4 + 2) (by omega) (by omega)]; exact h1.2.2.2.2 i x hx⟩⟩, by rw [f34]; exact h2, by rw [f34]; exact h3, fun i p a b c e => ?_, fun p hp => SN_kp (h5 p hp) (fun i a b => f i (by omega) (by omega)), by rw [f 356 (by omega) (by omega)]; exact h6, by rw [f 357 (by omega) (by omega)]; exact h7⟩
  · show CEV (if (p : Int) = q then X else G.now.c p) _ ∧ _
    by_cases z : p = q
    · rw [if_pos (by omega), z]; exact ⟨e, hI⟩
    · rw [if_neg (by omega)]
      have E : CEQ (cx w (2 + 8 + 6 * p)) (cx w2 (2 + 8 + 6 * p)) := CEQ.of_eq fun r hr j => by
        unfold cx
        rw [f _ (by omega) (by omega)]
      exact ⟨(h1.1 p hp).1.tr E.v, (h1.1 p hp).2.eq E⟩
  · rw [f34] at e
    exact SCL_kp (h4 i p a b c e) (fun i a b => f i (by omega) (by omega))
theorem CLG.cv {G : GS} {w : Wd} (h : CLG G w) {q : Nat} (hq : q < 4) : CEV (G.now.c q) (cx w (2 + 8 + 6 * q)) := (h.1.1 q hq).1
theorem CLG.ci {G : GS} {w : Wd} (h : CLG G w) {q : Nat} (hq : q < 4) : CI (cx w (2 + 8 + 6 * q)) := (h.1.1 q hq).2
theorem GOK_rec {G : GS} (h : GOK G) : GOK (recG G) := by
  obtain ⟨h1, h2, h3, h4⟩ := h
  refine ⟨h1, ⟨?_, ?_⟩, fun i a b => ?_, h4⟩
  · show 0 ≤ (if G.k = 10 then 9 else G.k) + 1
    split <;> omega
  · show (if G.k = 10 then 9 else G.k) + 1 ≤ 10
    split <;> omega
  · have b : i < (if G.k = 10 then 9 else G.k) + 1 := b
    show OKS (if i = (if G.k = 10 then 9 else G.k) then G.now else G.past (i + (if G.k = 10 then 1 else 0)))
    by_cases z : i = (if G.k = 10 then 9 else G.k)
    · rw [if_pos z]; exact h1
    · rw [if_neg z]
      refine h3 _ ?_ ?_
      · split <;> omega
      · split <;> split at b <;> split at z <;> omega
theorem GOK_und {G : GS} (h : GOK G) (hk : G.k ≠ 0) : GOK (undG G) := by
  obtain ⟨h1, h2, h3, h4⟩ := h
  exact ⟨h3 _ (by omega) (by omega), ⟨show 0 ≤ G.k - 1 by omega, show G.k - 1 ≤ 10 by omega⟩, fun i a b => h3 i a (by have b : i < G.k - 1 := b; omega), h4⟩
theorem GOK_cur {G : GS} {q : Int} {X : CP} (h : GOK G) : GOK (setC G q X) := h
/-! the map's numbers depend on its points alone -/
theorem MI_cg {n : Int} {s g s2 g2 : Int → Int} (h : MI n s g) (e : ∀ j, 0 ≤ j → j < n → s2 j = s j ∧ g2 j = g j) : MI n s2 g2 := by
  obtain ⟨h1, h2, h3, h4⟩ := h
  refine ⟨h1, h2, fun j a b => ?_, fun i j a b c => ?_⟩
  · rw [(e j a b).1, (e j a b).2]; exact h3 j a b
  · rw [(e i a (by omega)).1, (e i a (by omega)).2, (e j (by omega) c).1, (e j (by omega) c).2]; exact h4 i j a b c
theorem sndS_cg {n f : Int} {s g s2 g2 : Int → Int} (hn : 0 ≤ n) (e : ∀ j, 0 ≤ j → j < n → s2 j = s j ∧ g2 j = g j) : sndS n s2 g2 f = sndS n s g f := by
  have ek : kb s2 f n.toNat = kb s f n.toNat := kb_cg (fun j a b => (e j a (by omega)).1)
  have K := kb_KB s f n.toNat
  unfold sndS
  rw [ek]
  obtain ⟨k, hk⟩ : ∃ k, k = kb s f n.toNat := ⟨_, rfl⟩
  rw [← hk] at K ⊢
  have K1 := K.1
  have K2 := K.2.1
  by_cases h0 : n = 0
  · rw [if_pos h0, if_pos h0]
  rw [if_neg h0, if_neg h0]
  by_cases h1 : k = 0
  · rw [if_pos h1, if_pos h1, (e 0 (by omega) (by omega)).1, (e 0 (by omega) (by omega)).2]
  rw [if_neg h1, if_neg h1]
  by_cases h2 : k = n
  · rw [if_pos h2, if_pos h2, (e (n - 1) (by omega) (by omega)).1, (e (n - 1) (by omega) (by omega)).2]
  · rw [if_neg h2, if_neg h2, (e (k - 1) (by omega) (by omega)).1, (e (k - 1) (by omega) (by omega)).2, (e k (by omega) (by omega)).1, (e k (by omega) (by omega)).2]
theorem strS_cg {n x f o : Int} {s g s2 g2 : Int → Int} (hn : 0 ≤ n) (e : ∀ j, 0 ≤ j → j < n → s2 j = s j ∧ g2 j = g j) : strS n s2 g2 x f o = strS n s g x f o := by
  have ek : kb s2 (f + o) n.toNat = kb s (f + o) n.toNat := kb_cg (fun j a b => (e j a (by omega)).1)
  have K := kb_KB s (f + o) n.toNat
  unfold strS
  rw [ek]
  obtain ⟨k, hk⟩ : ∃ k, k = kb s (f + o) n.toNat := ⟨_, rfl⟩
  rw [← hk] at K ⊢
  have K1 := K.1
  have K2 := K.2.1
  by_cases h1 : k = 0 ∨ k = n
  · rw [if_pos h1, if_pos h1]
  · rw [if_neg h1, if_neg h1, (e (k - 1) (by omega) (by omega)).1, (e (k - 1) (by omega) (by omega)).2, (e k (by omega) (by omega)).1, (e k (by omega) (by omega)).2]
theorem mapH_cg {h n : Int} {s g s2 g2 : Int → Int} : ∀ m : Nat, (∀ j : Int, 0 ≤ j → j < m → s2 j = s j ∧ g2 j = g j) → mapH h n s2 g2 m = mapH h n s g m
  | 0, _ => rfl
  | m + 1, e => by
    unfold mapH
    rw [mapH_cg m (fun j a b => e j a (by omega)), (e m (by omega) (by omega)).1, (e m (by omega) (by omega)).2]
theorem curHk_cg {h : Int} {X Y : CP} (e : CEV X Y) : ∀ k : Nat, (k : Int) ≤ X 0 0 → curHk h X k = curHk h Y k
  | 0, _ => by unfold curHk; rw [e.1]
  | k + 1, hk => by
    unfold curHk
    rw [curHk_cg e k (by omega), e.row (r := 1) (by omega) (by omega) (by omega) (by omega), e.row (r := 2) (by omega) (by omega) (by omega) (by omega), e.row (r := 3) (by omega) (by omega) (by omega) (by omega), slp_cg e ⟨by omega, by omega⟩, slp_cg e ⟨by omega, by omega⟩]
theorem curHv_cg {h : Int} {X Y : CP} (hI : CI X) (e : CEV X Y) : ∀ i : Nat, curHv h X i = curHv h Y i
  | 0 => by
    have n := hI.1.1
    unfold curHv
    rw [curHk_cg e _ (by omega), e.1, e.2.1, e.2.2.1]
  | i + 1 => by
    unfold curHv
    rw [curHv_cg hI e i, valS_cg hI e]
theorem curH_cg {h : Int} {X Y : CP} (hI : CI X) (e : CEV X Y) : curH h X = curH h Y := by
  unfold curH
  rw [curHv_cg hI e, curHv_cg hI e, e.1]
