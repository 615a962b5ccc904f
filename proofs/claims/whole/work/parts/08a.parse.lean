/-! formulas and curves as texts: what a reader makes of them -/
abbrev EE : Type := List (Int × Int) × ((Int → Int → Int) → Int)
abbrev PR : Type := Int ⊕ (Int × EE)
def bn (r : PR) (k : Int → EE → PR) : PR := match r with
  | .inl q => .inl q
  | .inr (q, e) => k q e
theorem bn_l {q : Int} {k : Int → EE → PR} : bn (.inl q) k = .inl q := rfl
theorem bn_r {q : Int} {e : EE} {k : Int → EE → PR} : bn (.inr (q, e)) k = k q e := rfl
def cmb (k x y : Int) : Int := if k = 2 then lim (x + y) 1000000 else if k = 3 then lim (x - y) 1000000 else if k = 4 then lim (rndW (x * y) 64) 1000000 else if k = 5 then min x y else max x y
def eN (n : Int) : EE := ([(0, n)], fun _ => 64 * n)
def eC (c b : Int) : EE := ([(1, c * 1000 + b)], fun V => V c b)
def eG (e : EE) : EE := (e.1 ++ [(7, 0)], fun V => lim (-(e.2 V)) 1000000)
def eB (k : Int) (a b : EE) : EE := (a.1 ++ b.1 ++ [(k, 0)], fun V => cmb k (a.2 V) (b.2 V))
section
variable (T : Int → Int) (len : Int)
/-- the letter at a place; -1 behind the text -/
def hT (p : Int) : Int := if p < len then T p else -1
def dgt (p j : Int) : Int := if 48 ≤ hT T len (p + j) ∧ hT T len (p + j) ≤ 57 then 0 else 1
/-- how many digits stand at a place -/
def rnD (p : Int) : Int := kb (dgt T len p) 1 (len - p).toNat
def nvD (p : Int) : Nat → Int
  | 0 => 0
  | m + 1 => if m < 3 then 10 * nvD p m + T (p + m) - 48 else nvD p m
def numS (p : Int) (k : Int → Int → PR) : PR := if 1 ≤ rnD T len p ∧ rnD T len p ≤ 3 then k (p + rnD T len p) (nvD T p (rnD T len p).toNat) else .inl p
def curS (p c : Int) : PR := if hT T len (p + 1) = 64 then numS T len (p + 2) fun q n => .inr (q, eC (c - 97) n) else .inr (p + 1, eC (c - 97) 0)
def proL (f : Int → PR) : Nat → Int → EE → PR
  | 0, q, e => .inr (q, e)
  | m + 1, q, e => if hT T len q = 42 then bn (f (q + 1)) fun q2 e2 => proL f m q2 (eB 4 e e2) else .inr (q, e)
def proS (f : Int → PR) (p : Int) : PR := bn (f p) fun q e => proL T len f 120 q e
def sumL (f : Int → PR) : Nat → Int → EE → PR
  | 0, q, e => .inr (q, e)
  | m + 1, q, e => if hT T len q = 43 ∨ hT T len q = 45 then bn (proS T len f (q + 1)) fun q2 e2 => sumL f m q2 (eB (if hT T len q = 43 then 2 else 3) e e2) else .inr (q, e)
def sumS (f : Int → PR) (p : Int) : PR := bn (proS T len f p) fun q e => sumL T len f 120 q e
/-- the letter must stand at the place -/
def mst (c p : Int) (r : PR) : PR := if hT T len p = c then r else .inl p
def choT (f : Int → PR) (k p : Int) : PR := bn (sumS T len f p) fun q e => mst T len 44 q (bn (sumS T len f (q + 1)) fun q2 e2 => mst T len 41 q2 (.inr (q2 + 1, eB k e e2)))
def choS (o : Option (Int → PR)) (p : Int) : PR :=
  if hT T len (p + 1) = 105 then mst T len 110 (p + 2) (mst T len 40 (p + 3) (match o with | none => .inl (p + 3) | some f => choT T len f 5 (p + 4)))
  else mst T len 97 (p + 1) (mst T len 120 (p + 2) (mst T len 40 (p + 3) (match o with | none => .inl (p + 3) | some f => choT T len f 6 (p + 4))))
def facB (o : Option (Int → PR)) (p : Int) : PR :=
  if 97 ≤ hT T len p ∧ hT T len p ≤ 100 then curS T len p (hT T len p)
  else if hT T len p = 109 then choS T len o p
  else if hT T len p = 40 then (match o with | none => .inl p | some f => bn (sumS T len f (p + 1)) fun q e => mst T len 41 q (.inr (q + 1, e)))
  else if hT T len p = 45 then (match o with | none => .inl p | some f => bn (f (p + 1)) fun q e => .inr (q, eG e))
  else numS T len p fun q n => .inr (q, eN n)
def facS : Nat → Int → PR
  | 0 => facB T len none
  | n + 1 => facB T len (some (facS n))
/-- a whole text as a formula -/
def prsS : PR := bn (sumS T len (facS T len 8) 0) fun q e => if q < len then .inl q else .inr (q, e)
end
/-! evaluation of steps over a stack -/
def stp (V : Int → Int → Int) (x : Int × Int) (st : List Int) : Option (List Int) :=
  if x.1 = 0 then some (64 * x.2 :: st) else if x.1 = 1 then some (V (x.2 / 1000) (x.2 % 1000) :: st)
  else if x.1 = 7 then (match st with | [] => none | a :: r => some (lim (-a) 1000000 :: r))
  else (match st with | [] => none | [_] => none | b :: a :: r => some (cmb x.1 a b :: r))
def exO (V : Int → Int → Int) : List (Int × Int) → List Int → Option (List Int)
  | [], st => some st
  | x :: C, st => match stp V x st with
    | none => none
    | some s2 => exO V C s2
theorem exO_c {V : Int → Int → Int} {x : Int × Int} {C : List (Int × Int)} {st : List Int} : exO V (x :: C) st = (match stp V x st with | none => none | some s2 => exO V C s2) := rfl
theorem exO_app {V : Int → Int → Int} : ∀ {C D : List (Int × Int)} {st s2 : List Int}, exO V C st = some s2 → exO V (C ++ D) st = exO V D s2
  | [], D, st, s2, h => by
    have : st = s2 := by simpa [exO] using h
    rw [this]; rfl
  | x :: C, D, st, s2, h => by
    rw [List.cons_append, exO_c]
    rw [exO_c] at h
    cases hs : stp V x st with
    | none => rw [hs] at h; cases h
    | some s3 => rw [hs] at h; exact exO_app h
def GE (e : EE) : Prop := (∀ V st, exO V e.1 st = some (e.2 V :: st)) ∧ (∀ x ∈ e.1, (x.1 = 0 ∧ 0 ≤ x.2 ∧ x.2 ≤ 999) ∨ (x.1 = 1 ∧ 0 ≤ x.2 ∧ x.2 ≤ 3999) ∨ (2 ≤ x.1 ∧ x.1 ≤ 7 ∧ x.2 = 0))
theorem GE_N {n : Int} (h : 0 ≤ n ∧ n ≤ 999) : GE (eN n) := ⟨fun V st => rfl, fun x hx => by
  rw [List.mem_singleton.mp (show x ∈ [((0 : Int), n)] from hx)]
  exact Or.inl ⟨rfl, h⟩⟩
theorem GE_C {c b : Int} (hc : 0 ≤ c ∧ c ≤ 3) (h : 0 ≤ b ∧ b ≤ 999) : GE (eC c b) := ⟨fun V st => by
  show some (V ((c * 1000 + b) / 1000) ((c * 1000 + b) % 1000) :: st) = some (V c b :: st)
  rw [show (c * 1000 + b) / 1000 = c by omega, show (c * 1000 + b) % 1000 = b by omega], fun x hx => by
  rw [List.mem_singleton.mp (show x ∈ [((1 : Int), c * 1000 + b)] from hx)]
  exact Or.inr (Or.inl ⟨rfl, show 0 ≤ c * 1000 + b by omega, show c * 1000 + b ≤ 3999 by omega⟩)⟩
theorem GE_G {e : EE} (h : GE e) : GE (eG e) := ⟨fun V st => by
  show exO V (e.1 ++ [(7, 0)]) st = some (lim (-(e.2 V)) 1000000 :: st)
  rw [exO_app (h.1 V st)]
  rfl, fun x hx => by
  rcases List.mem_append.mp (show x ∈ e.1 ++ [(7, 0)] from hx) with z | z
  · exact h.2 x z
  · rw [List.mem_singleton.mp z]
    exact Or.inr (Or.inr ⟨show (2 : Int) ≤ 7 by omega, Int.le_refl 7, rfl⟩)⟩
theorem GE_B {k : Int} {a b : EE} (hk : 2 ≤ k ∧ k ≤ 6) (ha : GE a) (hb : GE b) : GE (eB k a b) := ⟨fun V st => by
  show exO V (a.1 ++ b.1 ++ [(k, 0)]) st = some (cmb k (a.2 V) (b.2 V) :: st)
  rw [List.append_assoc, exO_app (ha.1 V st), exO_app (hb.1 V _)]
  unfold exO stp
  dsimp only
  rw [if_neg (show ¬ k = 0 by omega), if_neg (show ¬ k = 1 by omega), if_neg (show ¬ k = 7 by omega)]
  rfl, fun x hx => by
  rcases List.mem_append.mp (show x ∈ a.1 ++ b.1 ++ [(k, 0)] from hx) with z | z
  · rcases List.mem_append.mp z with y | y
    · exact ha.2 x y
    · exact hb.2 x y
  · rw [List.mem_singleton.mp z]
    exact Or.inr (Or.inr ⟨hk.1, show k ≤ 7 by omega, rfl⟩)⟩
def lfs (C : List (Int × Int)) : Int := match C with
  | [] => 0
  | x :: C => lfs C + (if x.1 = 0 ∨ x.1 = 1 then 1 else 0)
theorem lfs_cons (x : Int × Int) (C : List (Int × Int)) : lfs (x :: C) = lfs C + (if x.1 = 0 ∨ x.1 = 1 then 1 else 0) := rfl
theorem lfs_app : ∀ (C D : List (Int × Int)), lfs (C ++ D) = lfs C + lfs D
  | [], D => by simp [lfs]
  | x :: C, D => by
    rw [List.cons_append, lfs_cons, lfs_cons, lfs_app C D]
    omega
theorem lfs_N (n : Int) : lfs (eN n).1 = 1 := rfl
theorem lfs_C (c b : Int) : lfs (eC c b).1 = 1 := rfl
theorem lfs_G (e : EE) : lfs (eG e).1 = lfs e.1 := by
  show lfs (e.1 ++ [(7, 0)]) = _
  rw [lfs_app]
  show lfs e.1 + 0 = _
  omega
theorem lfs_B {k : Int} (hk : 2 ≤ k) (a b : EE) : lfs (eB k a b).1 = lfs a.1 + lfs b.1 := by
  show lfs (a.1 ++ b.1 ++ [(k, 0)]) = _
  rw [lfs_app, lfs_app]
  show _ + (0 + if k = 0 ∨ k = 1 then 1 else 0) = _
  rw [if_neg (by omega)]
  omega
/-! what every result keeps -/
section
variable {T : Int → Int} {len : Int}
theorem hT_pos {p : Int} (h : 0 ≤ hT T len p) : p < len := by
  unfold hT at h
  rcases Int.lt_or_le p len with z | z
  · exact z
  · rw [if_neg (by omega)] at h; omega
theorem hT_eq {p : Int} (h : p < len) : hT T len p = T p := if_pos h
theorem rnD_KB {p : Int} (hp : p ≤ len) : KB (len - p) (dgt T len p) 1 (rnD T len p) := by
  have h := kb_KB (dgt T len p) 1 (len - p).toNat
  rwa [show (((len - p).toNat : Nat) : Int) = len - p by omega] at h
theorem dgt_d {p j : Int} (h : dgt T len p j < 1) : 48 ≤ hT T len (p + j) ∧ hT T len (p + j) ≤ 57 := by
  unfold dgt at h
  rcases Decidable.em (48 ≤ hT T len (p + j) ∧ hT T len (p + j) ≤ 57) with z | z
  · exact z
  · rw [if_neg z] at h; omega
theorem rnD_len {p : Int} (hp : p ≤ len) : 0 ≤ rnD T len p ∧ p + rnD T len p ≤ len := by
  obtain ⟨h1, h2, h3, h4⟩ := rnD_KB (T := T) hp
  exact ⟨h1, by omega⟩
theorem nvD_bd {p : Int} : ∀ m : Nat, m ≤ 3 → (∀ j : Nat, j < m → 48 ≤ T (p + j) ∧ T (p + j) ≤ 57) → 0 ≤ nvD T p m ∧ nvD T p m < 10 ^ m
  | 0, _, _ => by simp [nvD]
  | m + 1, hm, h => by
    have a := nvD_bd m (by omega) (fun j hj => h j (by omega))
    have b := h m (by omega)
    unfold nvD
    rw [if_pos (by omega)]
    have e : (10 : Int) ^ (m + 1) = 10 ^ m * 10 := rfl
    omega
theorem nvD_in {p : Int} (hp : p ≤ len) (h : 1 ≤ rnD T len p ∧ rnD T len p ≤ 3) : 0 ≤ nvD T p (rnD T len p).toNat ∧ nvD T p (rnD T len p).toNat ≤ 999 := by
  have g := nvD_bd (T := T) (p := p) (rnD T len p).toNat (by omega) (fun j hj => by
    have a := dgt_d ((rnD_KB (T := T) hp).2.2.1 j (by omega) (by omega))
    have b := hT_pos (T := T) (len := len) (p := p + j) (by omega)
    rw [hT_eq b] at a
    exact a)
  have : (10 : Int) ^ (rnD T len p).toNat ≤ 1000 := by
    rcases (show (rnD T len p).toNat = 1 ∨ (rnD T len p).toNat = 2 ∨ (rnD T len p).toNat = 3 by omega) with e | e | e <;> rw [e] <;> decide
  omega
/-- a good result: behind its place, in the text, with steps for no more than its letters -/
def GP (len p : Int) (r : PR) : Prop := match r with
  | .inl q => p ≤ q ∧ q ≤ len
  | .inr (q, e) => p < q ∧ q ≤ len ∧ GE e ∧ (e.1.length : Int) ≤ q - p
theorem GP.l {p q : Int} (h1 : p ≤ q) (h2 : q ≤ len) : GP len p (.inl q) := ⟨h1, h2⟩
theorem GP_num {p : Int} (hp : p ≤ len) {k : Int → Int → PR} (h : ∀ q n, p < q → q ≤ len → 0 ≤ n → n ≤ 999 → GP len p (k q n)) : GP len p (numS T len p k) := by
  unfold numS
  by_cases z : 1 ≤ rnD T len p ∧ rnD T len p ≤ 3
  · rw [if_pos z]
    have a := nvD_in hp z
    exact h _ _ (by omega) (rnD_len hp).2 a.1 a.2
  · rw [if_neg z]; exact GP.l (Int.le_refl _) hp
theorem GP_cur {p c : Int} (hp : p < len) (hc : 97 ≤ c ∧ c ≤ 100) : GP len p (curS T len p c) := by
  unfold curS
  by_cases z : hT T len (p + 1) = 64
  · rw [if_pos z]
    have a := hT_pos (T := T) (len := len) (p := p + 1) (by omega)
    have b := GP_num (T := T) (p := p + 2) (show p + 2 ≤ len by omega) (k := fun q n => .inr (q, eC (c - 97) n)) (fun q n h1 h2 h3 h4 => ⟨h1, h2, GE_C (by omega) ⟨h3, h4⟩, show (1 : Int) ≤ _ by omega⟩)
    revert b
    generalize numS T len (p + 2) (fun q n => .inr (q, eC (c - 97) n)) = r
    rcases r with q | ⟨q, e⟩
    · exact fun b => ⟨by have := b.1; omega, b.2⟩
    · exact fun b => ⟨by have := b.1; omega, b.2.1, b.2.2.1, by have := b.2.2.2; omega⟩
  · rw [if_neg z]
    exact ⟨by omega, by omega, GE_C (by omega) (by omega), show (1 : Int) ≤ _ by omega⟩
theorem GP_proL {f : Int → PR} (hf : ∀ p, p ≤ len → GP len p (f p)) {p0 : Int} : ∀ (m : Nat) (q : Int) (e : EE), GP len p0 (.inr (q, e)) → GP len p0 (proL T len f m q e)
  | 0, q, e, h => h
  | m + 1, q, e, h => by
    unfold proL
    by_cases z : hT T len q = 42
    · rw [if_pos z]
      have a := hT_pos (T := T) (len := len) (p := q) (by omega)
      have b := hf (q + 1) (by omega)
      obtain ⟨h1, h2, h3, h4⟩ := h
      revert b
      generalize f (q + 1) = r
      rcases r with q2 | ⟨q2, e2⟩
      · exact fun b => ⟨by have := b.1; omega, b.2⟩
      · intro ⟨b1, b2, b3, b4⟩
        refine GP_proL hf m q2 _ ⟨by omega, b2, GE_B (by omega) h3 b3, ?_⟩
        show (((e.1 ++ e2.1 ++ [((4 : Int), (0 : Int))]).length : Nat) : Int) ≤ _
        simp only [List.length_append, List.length_singleton]
        omega
    · rw [if_neg z]; exact h
theorem GP_pro {f : Int → PR} (hf : ∀ p, p ≤ len → GP len p (f p)) {p : Int} (hp : p ≤ len) : GP len p (proS T len f p) := by
  unfold proS
  have b := hf p hp
  revert b
  generalize f p = r
  rcases r with q | ⟨q, e⟩
  · exact fun b => b
  · exact fun b => GP_proL hf 120 q e b
theorem GP_sumL {f : Int → PR} (hf : ∀ p, p ≤ len → GP len p (f p)) {p0 : Int} : ∀ (m : Nat) (q : Int) (e : EE), GP len p0 (.inr (q, e)) → GP len p0 (sumL T len f m q e)
  | 0, q, e, h => h
  | m + 1, q, e, h => by
    unfold sumL
    by_cases z : hT T len q = 43 ∨ hT T len q = 45
    · rw [if_pos z]
      have a := hT_pos (T := T) (len := len) (p := q) (by omega)
      have b := GP_pro (T := T) hf (p := q + 1) (by omega)
      obtain ⟨h1, h2, h3, h4⟩ := h
      revert b
      generalize proS T len f (q + 1) = r
      rcases r with q2 | ⟨q2, e2⟩
      · exact fun b => ⟨by have := b.1; omega, b.2⟩
      · intro ⟨b1, b2, b3, b4⟩
        refine GP_sumL hf m q2 _ ⟨by omega, b2, GE_B (by split <;> omega) h3 b3, ?_⟩
        show (((e.1 ++ e2.1 ++ [((if hT T len q = 43 then 2 else 3 : Int), (0 : Int))]).length : Nat) : Int) ≤ _
        simp only [List.length_append, List.length_singleton]
        omega
    · rw [if_neg z]; exact h
theorem GP_sum {f : Int → PR} (hf : ∀ p, p ≤ len → GP len p (f p)) {p : Int} (hp : p ≤ len) : GP len p (sumS T len f p) := by
  unfold sumS
  have b := GP_pro (T := T) hf hp
  revert b
  generalize proS T len f p = r
  rcases r with q | ⟨q, e⟩
  · exact fun b => b
  · exact fun b => GP_sumL hf 120 q e b
theorem GP_mst {c p p0 : Int} {r : PR} (hp : p0 ≤ p ∧ p ≤ len) (hc : 0 ≤ c) (h : p < len → GP len p0 r) : GP len p0 (mst T len c p r) := by
  unfold mst
  by_cases z : hT T len p = c
  · rw [if_pos z]; exact h (hT_pos (T := T) (by omega))
  · rw [if_neg z]; exact GP.l hp.1 hp.2
theorem GP_choT {f : Int → PR} (hf : ∀ p, p ≤ len → GP len p (f p)) {p0 p k : Int} (hk : 2 ≤ k ∧ k ≤ 6) (h0 : p0 < p) (hp : p ≤ len) : GP len p0 (choT T len f k p) := by
  unfold choT
  have b := GP_sum (T := T) hf hp
  revert b
  generalize sumS T len f p = r
  rcases r with q | ⟨q, e⟩
  · exact fun b => ⟨by have := b.1; omega, b.2⟩
  · intro ⟨b1, b2, b3, b4⟩
    refine GP_mst ⟨by omega, b2⟩ (by omega) (fun hq => ?_)
    have c := GP_sum (T := T) hf (p := q + 1) (by omega)
    revert c
    generalize sumS T len f (q + 1) = r
    rcases r with q2 | ⟨q2, e2⟩
    · exact fun c => ⟨by have := c.1; omega, c.2⟩
    · intro ⟨c1, c2, c3, c4⟩
      refine GP_mst ⟨by omega, c2⟩ (by omega) (fun hq2 => ⟨by omega, by omega, GE_B hk b3 c3, ?_⟩)
      show (((e.1 ++ e2.1 ++ [(k, (0 : Int))]).length : Nat) : Int) ≤ _
      simp only [List.length_append, List.length_singleton]
      omega
def okO (len : Int) (o : Option (Int → PR)) : Prop := ∀ f, o = some f → ∀ p, p ≤ len → GP len p (f p)
theorem GP_cho {o : Option (Int → PR)} (ho : okO len o) {p : Int} (hp : p < len) : GP len p (choS T len o p) := by
  unfold choS
  have last : ∀ k, 2 ≤ k ∧ k ≤ 6 → p + 3 < len → GP len p (match o with | none => .inl (p + 3) | some f => choT T len f k (p + 4)) := fun k hk h3 => by
    cases o with
    | none => exact ⟨by omega, by omega⟩
    | some f => exact GP_choT (ho f rfl) hk (by omega) (by omega)
  by_cases z : hT T len (p + 1) = 105
  · rw [if_pos z]
    have a := hT_pos (T := T) (len := len) (p := p + 1) (by omega)
    exact GP_mst (by omega) (by omega) (fun h2 => GP_mst (by omega) (by omega) (fun h3 => last 5 (by omega) h3))
  · rw [if_neg z]
    exact GP_mst (by omega) (by omega) (fun h1 => GP_mst (by omega) (by omega) (fun h2 => GP_mst (by omega) (by omega) (fun h3 => last 6 (by omega) h3)))
theorem GP_facB {o : Option (Int → PR)} (ho : okO len o) {p : Int} (hp : p ≤ len) : GP len p (facB T len o p) := by
  unfold facB
  by_cases z1 : 97 ≤ hT T len p ∧ hT T len p ≤ 100
  · rw [if_pos z1]; exact GP_cur (hT_pos (T := T) (by omega)) z1
  rw [if_neg z1]
  by_cases z2 : hT T len p = 109
  · rw [if_pos z2]; exact GP_cho ho (hT_pos (T := T) (by omega))
  rw [if_neg z2]
  by_cases z3 : hT T len p = 40
  · rw [if_pos z3]
    have a := hT_pos (T := T) (len := len) (p := p) (by omega)
    cases o with
    | none => exact ⟨Int.le_refl _, hp⟩
    | some f =>
      have b := GP_sum (T := T) (ho f rfl) (p := p + 1) (by omega)
      revert b
      dsimp only
      generalize sumS T len f (p + 1) = r
      rcases r with q | ⟨q, e⟩
      · exact fun b => ⟨by have := b.1; omega, b.2⟩
      · intro ⟨b1, b2, b3, b4⟩
        exact GP_mst ⟨by omega, b2⟩ (by omega) (fun hq => ⟨by omega, by omega, b3, by omega⟩)
  rw [if_neg z3]
  by_cases z4 : hT T len p = 45
  · rw [if_pos z4]
    have a := hT_pos (T := T) (len := len) (p := p) (by omega)
    cases o with
    | none => exact ⟨Int.le_refl _, hp⟩
    | some f =>
      have b := ho f rfl (p + 1) (by omega)
      revert b
      dsimp only
      generalize f (p + 1) = r
      rcases r with q | ⟨q, e⟩
      · exact fun b => ⟨by have := b.1; omega, b.2⟩
      · intro ⟨b1, b2, b3, b4⟩
        refine ⟨by omega, b2, GE_G b3, ?_⟩
        show (((e.1 ++ [((7 : Int), (0 : Int))]).length : Nat) : Int) ≤ _
        simp only [List.length_append, List.length_singleton]
        omega
  rw [if_neg z4]
  exact GP_num hp (fun q n h1 h2 h3 h4 => ⟨h1, h2, GE_N ⟨h3, h4⟩, show (1 : Int) ≤ _ by omega⟩)
theorem GP_fac : ∀ (n : Nat) (p : Int), p ≤ len → GP len p (facS T len n p)
  | 0, p, hp => GP_facB (fun f h => by cases h) hp
  | n + 1, p, hp => GP_facB (fun f h => by cases h; exact GP_fac n) hp
end
