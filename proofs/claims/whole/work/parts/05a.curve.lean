/-! curves: pictures, and what the places of a curve's object are -/
theorem sh_curve0 : ∀ c, c < 402 → sh c = 0 → (sh (c + 1) = 1000 + 24 ∧ sh (c + 2) = 1000 + 24 ∧ sh (c + 3) = 1000 + 24 ∧ sh (c + 4) = 1000 + 24 ∧ sh (c + 5) = 1000 + 24) := by decide +kernel
theorem sh_curve {c : Nat} (h : sh c = 0) : sh (c + 1) = 1000 + 24 ∧ sh (c + 2) = 1000 + 24 ∧ sh (c + 3) = 1000 + 24 ∧ sh (c + 4) = 1000 + 24 ∧ sh (c + 5) = 1000 + 24 := by
  have h1 := sh_in h (by decide) (by decide)
  exact sh_curve0 c (by omega) h
theorem gA_in {n : Nat} {w : Wd} {a : Nat} {j : Int} (h1 : 0 ≤ j) (h2 : j < n) : gA n w a j = w a j := if_pos ⟨h1, h2⟩
theorem pA_in {n : Nat} {w : Wd} {a : Nat} {j x : Int} (h1 : 0 ≤ j) (h2 : j < n) : pA n w a j x = up w a j x := if_pos ⟨h1, h2⟩
abbrev CP : Type := Nat → Int → Int
def cx (w : Wd) (c : Nat) : CP := fun r j => w (c + r) j
def CEQ (X Y : CP) : Prop := X 0 0 = Y 0 0 ∧ X 0 1 = Y 0 1 ∧ X 0 2 = Y 0 2 ∧ ∀ r, 1 ≤ r → r ≤ 5 → ∀ j, 0 ≤ j → j < X 0 0 → X r j = Y r j
def FRM (c : Nat) (w w2 : Wd) : Prop := ∀ i, (i < c ∨ c + 5 < i) → w2 i = w i
def KB (n : Int) (f : Int → Int) (t r : Int) : Prop := 0 ≤ r ∧ r ≤ n ∧ (∀ j, 0 ≤ j → j < r → f j < t) ∧ (r < n → t ≤ f r)
theorem KB_one {n : Int} {f : Int → Int} {t r s : Int} (h1 : KB n f t r) (h2 : KB n f t s) : r = s := by
  obtain ⟨a1, a2, a3, a4⟩ := h1
  obtain ⟨b1, b2, b3, b4⟩ := h2
  rcases Int.lt_trichotomy r s with h | h | h
  · have := b3 r a1 h
    have := a4 (by omega)
    omega
  · exact h
  · have := a3 s b1 h
    have := b4 (by omega)
    omega
def insX (X : CP) (k : Int) (v : Nat → Int) : CP := fun r j => if r = 0 then (if j = 0 then X 0 0 + 1 else X 0 j) else if j < k then X r j else if j = k then v r else X r (j - 1)
def delX (X : CP) (k : Int) : CP := fun r j => if r = 0 then (if j = 0 then X 0 0 - 1 else X 0 j) else if j < k then X r j else X r (j + 1)
def v5 (a b c d e : Int) : Nat → Int := fun r => if r = 1 then a else if r = 2 then b else if r = 3 then c else if r = 4 then d else e
def shW (w : Wd) (c : Nat) (f t : Int) : Wd := fun p j => if c + 1 ≤ p ∧ p ≤ c + 5 ∧ j = t then w p f else w p j
def insW (w : Wd) (c : Nat) (i n : Int) : Wd := fun p j => if c + 1 ≤ p ∧ p ≤ c + 5 ∧ i < j ∧ j ≤ n then w p (j - 1) else w p j
def delW (w : Wd) (c : Nat) (k i : Int) : Wd := fun p j => if c + 1 ≤ p ∧ p ≤ c + 5 ∧ k ≤ j ∧ j < i - 1 then w p (j + 1) else w p j
theorem sh5 {w : Wd} {c : Nat} {f t : Int} (hne : f ≠ t) : up (up (up (up (up w (c + 1) t (w (c + 1) f)) (c + 2) t (w (c + 2) f)) (c + 3) t (w (c + 3) f)) (c + 4) t (w (c + 4) f)) (c + 5) t (w (c + 5) f) = shW w c f t := by
  funext p j
  unfold up shW
  grind
theorem insW_step {w : Wd} {c : Nat} {i n : Int} (h : i ≤ n) : shW (insW w c i n) c (i - 1) i = insW w c (i - 1) n := by
  funext p j
  unfold shW insW
  grind
theorem insW_0 {w : Wd} {c : Nat} {n : Int} : insW w c n n = w := by
  funext p j
  unfold insW
  grind
theorem delW_step {w : Wd} {c : Nat} {k i : Int} (h : k + 1 ≤ i) : shW (delW w c k i) c i (i - 1) = delW w c k (i + 1) := by
  funext p j
  unfold shW delW
  grind
theorem delW_0 {w : Wd} {c : Nat} {k : Int} : delW w c k (k + 1) = w := by
  funext p j
  unfold delW
  grind
theorem ins_end {w w2 : Wd} {c : Nat} {k n t h m a b : Int} (hn : w c 0 = n) (hk : 0 ≤ k) (hkn : k ≤ n) (e : w2 = up (up (up (up (up (up (insW w c k n) c 0 (n + 1)) (c + 1) k t) (c + 2) k h) (c + 3) k m) (c + 4) k a) (c + 5) k b) : FRM c w w2 ∧ CEQ (cx w2 c) (insX (cx w c) k (v5 t h m a b)) := by
  subst e
  refine ⟨fun i hi => ?_, ?_, ?_, ?_, ?_⟩
  · funext j
    unfold up insW
    grind
  · unfold cx insX up insW; grind
  · unfold cx insX up insW; grind
  · unfold cx insX up insW; grind
  · intro r h1 h5 j h0 hj
    have hj2 : j < n + 1 := by simpa [cx, up, insW] using hj
    unfold cx insX up insW v5
    grind
theorem del_end {w w2 : Wd} {c : Nat} {k n : Int} (hn : w c 0 = n) (hk : 0 ≤ k) (hkn : k < n) (e : w2 = up (delW w c k n) c 0 (n - 1)) : FRM c w w2 ∧ CEQ (cx w2 c) (delX (cx w c) k) := by
  subst e
  refine ⟨fun i hi => ?_, ?_, ?_, ?_, ?_⟩
  · funext j
    unfold up delW
    grind
  · unfold cx delX up delW; grind
  · unfold cx delX up delW; grind
  · unfold cx delX up delW; grind
  · intro r h1 h5 j h0 hj
    have hj2 : j < n - 1 := by simpa [cx, up, delW] using hj
    unfold cx delX up delW
    grind
