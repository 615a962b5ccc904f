/-! the model's row of numbers -/
theorem b2i_i {p : Prop} [Decidable p] {r : Int} (h : r = b2i p) : (p ∧ r = 1) ∨ (¬ p ∧ r = 0) := by
  unfold b2i at h
  split at h
  · exact Or.inl ⟨by assumption, h⟩
  · exact Or.inr ⟨by assumption, h⟩
theorem b2i_y {p : Prop} [Decidable p] (h : p) : 1 = b2i p := (if_pos h).symm
theorem b2i_n {p : Prop} [Decidable p] (h : ¬ p) : 0 = b2i p := (if_neg h).symm
def EQ24 (X Y : CP) : Prop := ∀ r j, (r = 0 ∧ 0 ≤ j ∧ j ≤ 2 ∨ 1 ≤ r ∧ r ≤ 5 ∧ 0 ≤ j ∧ j < 24) → X r j = Y r j
theorem EQ24.ceq {X Y : CP} (h : EQ24 X Y) (hn : X 0 0 ≤ 24) : CEQ X Y := ⟨h 0 0 (by omega), h 0 1 (by omega), h 0 2 (by omega), fun r a b j c d => h r j (by omega)⟩
theorem EQ24.tr {X Y Z : CP} (h : EQ24 X Y) (g : EQ24 Y Z) : EQ24 X Z := fun r j e => (h r j e).trans (g r j e)
theorem EQ24.st {X Y : CP} (h : EQ24 X Y) (r : Nat) (j x : Int) : EQ24 (stX X r j x) (stX Y r j x) := fun p i e => by
  unfold stX
  split
  · rfl
  · exact h p i e
def FV (w w2 : Wd) : Prop := ∀ i, i ≠ 386 → w2 i = w i
def FQ (q : Int) (w w2 : Wd) : Prop := (∀ i, i ≠ 386 → w2 i = w i) ∧ ∀ j, (j < 128 * q ∨ 128 * q + 128 ≤ j) → w2 386 j = w 386 j
theorem FQ.rf (q : Int) (w : Wd) : FQ q w w := ⟨fun _ _ => rfl, fun _ _ => rfl⟩
theorem FQ.tr {q : Int} {w w1 w2 : Wd} (h : FQ q w w1) (g : FQ q w1 w2) : FQ q w w2 := ⟨fun i e => (g.1 i e).trans (h.1 i e), fun j e => (g.2 j e).trans (h.2 j e)⟩
theorem FQ_up {q : Int} {w : Wd} {i x : Int} (h : 128 * q ≤ i ∧ i < 128 * q + 128) : FQ q w (up w 386 i x) := ⟨fun p e => up_ne e, fun j e => by rw [up_off (by omega)]⟩
theorem mx_up {w : Wd} {q : Int} {r : Nat} {k i x : Int} (hi : i = 128 * q + (24 * (r : Int) - 20) + k) (hr : 1 ≤ r ∧ r ≤ 5) (hk : 0 ≤ k ∧ k < 24) : EQ24 (mx (up w 386 i x) q) (stX (mx w q) r k x) := fun p j e => by
  unfold mx stX up
  by_cases h : p = r ∧ j = k
  · rw [if_pos h, if_pos ⟨rfl, by rw [if_neg (by omega), h.1, h.2]; omega⟩]
  · rw [if_neg h, if_neg (fun z => h (by
      have z := z.2
      rcases e with e | e
      · rw [if_pos e.1] at z; omega
      · rw [if_neg (by omega)] at z; omega))]
theorem mx_up0 {w : Wd} {q k i x : Int} (hi : i = 128 * q + k) (hk : 0 ≤ k ∧ k ≤ 2) : EQ24 (mx (up w 386 i x) q) (stX (mx w q) 0 k x) := fun p j e => by
  unfold mx stX up
  by_cases h : p = 0 ∧ j = k
  · rw [if_pos h, if_pos ⟨rfl, by rw [if_pos h.1, h.2]; omega⟩]
  · rw [if_neg h, if_neg (fun z => h (by
      have z := z.2
      rcases e with e | e
      · rw [if_pos e.1] at z; omega
      · rw [if_neg (by omega)] at z; omega))]
theorem mx_kp {w w2 : Wd} {q : Int} (h : ∀ j, 128 * q ≤ j → j < 128 * q + 128 → w2 386 j = w 386 j) : EQ24 (mx w q) (mx w2 q) := fun r j e => by
  unfold mx
  rcases e with e | e
  · rw [if_pos e.1, h _ (by omega) (by omega)]
  · rw [if_neg (by omega), h _ (by omega) (by omega)]
def finX (X : CP) (t : Int) : Int := if kbX X t < X 0 0 ∧ X 1 (kbX X t) = t then kbX X t else -1
theorem fin_y {X : CP} (h : CI X) {k t : Int} (h0 : 0 ≤ k) (h1 : k < X 0 0) (e : X 1 k = t) : finX X t = k := by
  have z : k = kbX X t := kbX_of h.1.1 ⟨h0, by omega, fun j j0 j1 => by have := h.2.2.1 j k j0 j1 h1; omega, fun _ => by omega⟩
  unfold finX
  rw [← z, if_pos ⟨h1, e⟩]
theorem fin_n {X : CP} (h : CI X) {t : Int} (e : ∀ j, 0 ≤ j → j < X 0 0 → X 1 j ≠ t) : finX X t = -1 := by
  have z := kbX_KB h.1.1 t
  unfold finX
  rw [if_neg (fun y => e _ z.1 y.1 y.2)]
theorem fin_in {X : CP} (h : CI X) {t k : Int} (e : k = finX X t) (h0 : 0 ≤ k) : k < X 0 0 ∧ X 1 k = t := by
  have z := kbX_KB h.1.1 t
  unfold finX at e
  split at e
  · rename_i y
    rw [e]; exact y
  · omega
theorem fin_no {X : CP} (h : CI X) {t k : Int} (e : k = finX X t) (h0 : k < 0) : ∀ j, 0 ≤ j → j < X 0 0 → X 1 j ≠ t := fun j j0 j1 y => by
  rw [fin_y h j0 j1 y] at e
  omega
theorem fin_b {X : CP} (h : CI X) {t k : Int} (e : k = finX X t) : -1 ≤ k ∧ k < 24 := by
  obtain ⟨z1, z2, -, -⟩ := kbX_KB h.1.1 t
  have n := h.1
  unfold finX at e
  split at e
  · rename_i y
    have := y.1
    omega
  · omega
theorem fin_cg {X Y : CP} (e : CEV X Y) (h0 : 0 ≤ X 0 0) (t : Int) : finX X t = finX Y t := by
  have z := kbX_KB h0 t
  unfold finX
  rw [← kbX_cg e, ← e.1]
  by_cases y : kbX X t < X 0 0
  · rw [← e.row (by omega) (by omega) z.1 y]
  · rw [if_neg (fun q => y q.1), if_neg (fun q => y q.1)]
/-- the past, moved -/
def shP (w : Wd) (k : Int) : Wd := fun p j => if p = 387 ∧ 0 ≤ j ∧ j < k then w 387 (j + 660) else w p j
theorem shP_s {w : Wd} {k : Int} (h : 0 ≤ k ∧ k < 5940) : up (shP w k) 387 k (shP w k 387 (k + 660)) = shP w (k + 1) := by
  funext p j
  unfold up shP
  grind
theorem shP_0 {w : Wd} : shP w 0 = w := by
  funext p j
  unfold shP
  rw [if_neg (by omega)]
def cpP (w : Wd) (b k : Int) : Wd := fun p j => if p = 387 ∧ b ≤ j ∧ j < b + k then w 386 (j - b) else w p j
theorem cpP_s {w : Wd} {b k : Int} (h : 0 ≤ k) : up (cpP w b k) 387 (b + k) (cpP w b k 386 k) = cpP w b (k + 1) := by
  funext p j
  unfold up cpP
  grind
theorem cpP_0 {w : Wd} {b : Int} : cpP w b 0 = w := by
  funext p j
  unfold cpP
  rw [if_neg (by omega)]
def chP (w : Wd) : Int := if w 385 2 = 10 then 9 else w 385 2
def chO (w : Wd) : Int := if w 385 2 = 10 then 660 else 0
def CHG (w w2 : Wd) : Prop := (∀ i, i ≠ 385 → i ≠ 387 → w2 i = w i) ∧ (∀ j, j ≠ 2 → w2 385 j = w 385 j) ∧ w2 385 2 = chP w + 1 ∧ (∀ k, 0 ≤ k → k < 660 * chP w → w2 387 k = w 387 (k + chO w)) ∧ ∀ k, 0 ≤ k → k < 660 → w2 387 (660 * chP w + k) = w 386 k
theorem chg_end {w w1 : Wd} {p : Int} (hp : p = chP w) (hp2 : 0 ≤ p ∧ p ≤ 9) (f1 : ∀ i, i ≠ 385 → i ≠ 387 → w1 i = w i) (f2 : ∀ j, j ≠ 2 → w1 385 j = w 385 j) (f3 : w1 385 2 = p) (f4 : ∀ k, 0 ≤ k → k < 660 * p → w1 387 k = w 387 (k + chO w)) : CHG w (up (cpP w1 (660 * p) 660) 385 2 (cpP w1 (660 * p) 660 385 2 + 1)) := by
  have e : cpP w1 (660 * p) 660 385 2 = p := by unfold cpP; rw [if_neg (by omega)]; exact f3
  refine ⟨fun i a b => ?_, fun j a => ?_, ?_, fun k a b => ?_, fun k a b => ?_⟩
  · rw [up_ne a]
    funext j
    unfold cpP
    rw [if_neg (by omega), f1 i a b]
  · rw [up_off (by omega)]
    unfold cpP
    rw [if_neg (by omega), f2 j a]
  · rw [up_hit, e, hp]
  · rw [up_ne (by omega), ← f4 k a (by rw [hp]; exact b)]
    unfold cpP
    rw [if_neg (by omega)]
  · rw [up_ne (by omega), ← hp]
    unfold cpP
    rw [if_pos ⟨rfl, by omega, by omega⟩, f1 386 (by omega) (by omega)]
    congr 1
    omega
/-- a key's numbers moved by a place; all of the keys behind one moved -/
def shN (w : Wd) (q k c s : Int) : Wd := fun p j => if p = 386 ∧ 128 * q + 4 + k ≤ j ∧ j < 128 * q + 4 + k + 24 * c ∧ (j - (128 * q + 4 + k)) % 24 = 0 then w 386 (j + s) else w p j
theorem shN_0 {w : Wd} {q k s : Int} : shN w q k 0 s = w := by
  funext p j
  unfold shN
  rw [if_neg (by omega)]
theorem shN_s {w : Wd} {q k c s : Int} (hs : s = 1 ∨ s = -1) (hc : 0 ≤ c) : up (shN w q k c s) 386 (128 * q + (4 + 24 * c) + k) (shN w q k c s 386 (128 * q + (4 + 24 * c) + (k + s))) = shN w q k (c + 1) s := by
  have e : shN w q k c s 386 (128 * q + (4 + 24 * c) + (k + s)) = w 386 (128 * q + (4 + 24 * c) + (k + s)) := by
    unfold shN
    rw [if_neg (by omega)]
  rw [e]
  funext p j
  by_cases h : p = 386 ∧ j = 128 * q + (4 + 24 * c) + k
  · obtain ⟨h1, h2⟩ := h
    subst h1
    subst h2
    rw [up_hit]
    unfold shN
    rw [if_pos (by omega)]
    congr 1
    omega
  · rw [up_off h]
    unfold shN
    by_cases z : p = 386 ∧ 128 * q + 4 + k ≤ j ∧ j < 128 * q + 4 + k + 24 * c ∧ (j - (128 * q + 4 + k)) % 24 = 0
    · rw [if_pos z, if_pos (by omega)]
    · rw [if_neg z, if_neg (by omega)]
def pl (q j : Int) : Int := (j - (128 * q + 4)) % 24
def insM (w : Wd) (q k n : Int) : Wd := fun p j => if p = 386 ∧ 128 * q + 4 ≤ j ∧ j < 128 * q + 124 ∧ k < (j - (128 * q + 4)) % 24 ∧ (j - (128 * q + 4)) % 24 ≤ n then w 386 (j - 1) else w p j
theorem insM_0 {w : Wd} {q n : Int} : insM w q n n = w := by
  funext p j
  unfold insM
  rw [if_neg (by omega)]
theorem insM_s {w : Wd} {q k n : Int} (hk : 1 ≤ k ∧ k ≤ n) (hn : n ≤ 23) : shN (insM w q k n) q k 5 (-1) = insM w q (k - 1) n := by
  funext p j
  unfold shN
  by_cases z : p = 386 ∧ 128 * q + 4 + k ≤ j ∧ j < 128 * q + 4 + k + 24 * 5 ∧ (j - (128 * q + 4 + k)) % 24 = 0
  · rw [if_pos z]
    unfold insM
    rw [if_neg (by omega), if_pos (by omega), show j + -1 = j - 1 by omega]
  · rw [if_neg z]
    unfold insM
    by_cases y : p = 386 ∧ 128 * q + 4 ≤ j ∧ j < 128 * q + 124 ∧ k < (j - (128 * q + 4)) % 24 ∧ (j - (128 * q + 4)) % 24 ≤ n
    · rw [if_pos y, if_pos (by omega)]
    · rw [if_neg y, if_neg (by omega)]
def delM (w : Wd) (q k i : Int) : Wd := fun p j => if p = 386 ∧ 128 * q + 4 ≤ j ∧ j < 128 * q + 124 ∧ k ≤ (j - (128 * q + 4)) % 24 ∧ (j - (128 * q + 4)) % 24 < i then w 386 (j + 1) else w p j
theorem delM_0 {w : Wd} {q k : Int} : delM w q k k = w := by
  funext p j
  unfold delM
  rw [if_neg (by omega)]
theorem delM_s {w : Wd} {q k i : Int} (hk : 0 ≤ k ∧ k ≤ i) (hn : i ≤ 22) : shN (delM w q k i) q i 5 1 = delM w q k (i + 1) := by
  funext p j
  unfold shN
  by_cases z : p = 386 ∧ 128 * q + 4 + i ≤ j ∧ j < 128 * q + 4 + i + 24 * 5 ∧ (j - (128 * q + 4 + i)) % 24 = 0
  · rw [if_pos z]
    unfold delM
    rw [if_neg (by omega), if_pos (by omega)]
  · rw [if_neg z]
    unfold delM
    by_cases y : p = 386 ∧ 128 * q + 4 ≤ j ∧ j < 128 * q + 124 ∧ k ≤ (j - (128 * q + 4)) % 24 ∧ (j - (128 * q + 4)) % 24 < i
    · rw [if_pos y, if_pos (by omega)]
    · rw [if_neg y, if_neg (by omega)]
theorem mx_insM {w : Wd} {q k n : Int} (hk : 0 ≤ k ∧ k ≤ n) (hn : n ≤ 23) {r : Nat} {j : Int} (hr : 1 ≤ r ∧ r ≤ 5) (hj : 0 ≤ j ∧ j < 24) : mx (insM w q k n) q r j = if k < j ∧ j ≤ n then mx w q r (j - 1) else mx w q r j := by
  unfold mx insM
  rw [if_neg (show ¬ r = 0 by omega)]
  by_cases y : k < j ∧ j ≤ n
  · rw [if_pos (by omega), if_pos y]
    congr 1
    omega
  · rw [if_neg (by omega), if_neg y]
theorem mx_delM {w : Wd} {q k n : Int} (hk : 0 ≤ k ∧ k ≤ n) (hn : n ≤ 23) {r : Nat} {j : Int} (hr : 1 ≤ r ∧ r ≤ 5) (hj : 0 ≤ j ∧ j < 24) : mx (delM w q k n) q r j = if k ≤ j ∧ j < n then mx w q r (j + 1) else mx w q r j := by
  unfold mx delM
  rw [if_neg (show ¬ r = 0 by omega)]
  by_cases y : k ≤ j ∧ j < n
  · rw [if_pos (by omega), if_pos y]
    congr 1
    omega
  · rw [if_neg (by omega), if_neg y]
theorem mx_insM0 {w : Wd} {q k n j : Int} (hj : 0 ≤ j ∧ j ≤ 2) : mx (insM w q k n) q 0 j = mx w q 0 j := by
  unfold mx insM
  rw [if_pos rfl, if_neg (by omega)]
theorem mx_delM0 {w : Wd} {q k n j : Int} (hj : 0 ≤ j ∧ j ≤ 2) : mx (delM w q k n) q 0 j = mx w q 0 j := by
  unfold mx delM
  rw [if_pos rfl, if_neg (by omega)]
theorem FQ_insM {w : Wd} {q k n : Int} : FQ q w (insM w q k n) := ⟨fun i e => by
  funext j
  unfold insM
  rw [if_neg (by omega)], fun j e => by
  unfold insM
  rw [if_neg (by omega)]⟩
theorem FQ_delM {w : Wd} {q k n : Int} : FQ q w (delM w q k n) := ⟨fun i e => by
  funext j
  unfold delM
  rw [if_neg (by omega)], fun j e => by
  unfold delM
  rw [if_neg (by omega)]⟩
theorem minsX {w : Wd} {q k n t h m a b : Int} (hq : 0 ≤ q) (hk : 0 ≤ k ∧ k ≤ n) (hn : n ≤ 23) (e : mx w q 0 0 = n) : FQ q w (up (up (up (up (up (up (insM w q k n) 386 (128 * q + 4 + k) t) 386 (128 * q + 28 + k) h) 386 (128 * q + 52 + k) m) 386 (128 * q + 76 + k) a) 386 (128 * q + 100 + k) b) 386 (128 * q + 0 + 0) (n + 1)) ∧ CEQ (mx (up (up (up (up (up (up (insM w q k n) 386 (128 * q + 4 + k) t) 386 (128 * q + 28 + k) h) 386 (128 * q + 52 + k) m) 386 (128 * q + 76 + k) a) 386 (128 * q + 100 + k) b) 386 (128 * q + 0 + 0) (n + 1)) q) (insX (mx w q) k (v5 t h m a b)) := by
  refine ⟨((((((FQ_insM.tr (FQ_up (by omega))).tr (FQ_up (by omega))).tr (FQ_up (by omega))).tr (FQ_up (by omega))).tr (FQ_up (by omega))).tr (FQ_up (by omega))), ?_⟩
  have E := (((((((mx_up (w := insM w q k n) (q := q) (r := 1) (k := k) (i := 128 * q + 4 + k) (x := t) (by omega) (by omega) (by omega)).st 2 k h).st 3 k m).st 4 k a).st 5 k b).st 0 0 (n + 1)))
  have E2 := ((((mx_up (w := up (insM w q k n) 386 (128 * q + 4 + k) t) (q := q) (r := 2) (k := k) (i := 128 * q + 28 + k) (x := h) (by omega) (by omega) (by omega)).st 3 k m).st 4 k a).st 5 k b).st 0 0 (n + 1)
  have E3 := (((mx_up (w := up (up (insM w q k n) 386 (128 * q + 4 + k) t) 386 (128 * q + 28 + k) h) (q := q) (r := 3) (k := k) (i := 128 * q + 52 + k) (x := m) (by omega) (by omega) (by omega)).st 4 k a).st 5 k b).st 0 0 (n + 1)
  have E4 := ((mx_up (w := up (up (up (insM w q k n) 386 (128 * q + 4 + k) t) 386 (128 * q + 28 + k) h) 386 (128 * q + 52 + k) m) (q := q) (r := 4) (k := k) (i := 128 * q + 76 + k) (x := a) (by omega) (by omega) (by omega)).st 5 k b).st 0 0 (n + 1)
  have E5 := (mx_up (w := up (up (up (up (insM w q k n) 386 (128 * q + 4 + k) t) 386 (128 * q + 28 + k) h) 386 (128 * q + 52 + k) m) 386 (128 * q + 76 + k) a) (q := q) (r := 5) (k := k) (i := 128 * q + 100 + k) (x := b) (by omega) (by omega) (by omega)).st 0 0 (n + 1)
  have E6 := mx_up0 (w := up (up (up (up (up (insM w q k n) 386 (128 * q + 4 + k) t) 386 (128 * q + 28 + k) h) 386 (128 * q + 52 + k) m) 386 (128 * q + 76 + k) a) 386 (128 * q + 100 + k) b) (q := q) (k := 0) (i := 128 * q + 0 + 0) (x := n + 1) (by omega) (by omega)
  have A := E6.tr (E5.tr (E4.tr (E3.tr (E2.tr E))))
  refine (A.ceq (by rw [A 0 0 (by omega), stX_hit]; omega)).tr ⟨by rw [stX_hit, insX_n, e], ?_, ?_, fun r e1 e2 j e3 e4 => ?_⟩
  · rw [stX_off (by omega), stX_0 (by omega), stX_0 (by omega), stX_0 (by omega), stX_0 (by omega), stX_0 (by omega), mx_insM0 (by omega), insX_0 (by omega)]
  · rw [stX_off (by omega), stX_0 (by omega), stX_0 (by omega), stX_0 (by omega), stX_0 (by omega), stX_0 (by omega), mx_insM0 (by omega), insX_0 (by omega)]
  · rw [stX_hit] at e4
    rw [stX_off (by omega)]
    rcases Int.lt_trichotomy j k with z | z | z
    · rw [stX_off (by omega), stX_off (by omega), stX_off (by omega), stX_off (by omega), stX_off (by omega), mx_insM hk hn ⟨e1, e2⟩ (by omega), if_neg (by omega), insX_lt e1 z]
    · subst z
      rw [insX_eq e1]
      rcases (show r = 1 ∨ r = 2 ∨ r = 3 ∨ r = 4 ∨ r = 5 by omega) with y | y | y | y | y <;> subst y
      · rw [stX_off (by omega), stX_off (by omega), stX_off (by omega), stX_off (by omega), stX_hit]; rfl
      · rw [stX_off (by omega), stX_off (by omega), stX_off (by omega), stX_hit]; rfl
      · rw [stX_off (by omega), stX_off (by omega), stX_hit]; rfl
      · rw [stX_off (by omega), stX_hit]; rfl
      · rw [stX_hit]; rfl
    · rw [stX_off (by omega), stX_off (by omega), stX_off (by omega), stX_off (by omega), stX_off (by omega), mx_insM hk hn ⟨e1, e2⟩ (by omega), insX_gt e1 z, if_pos ⟨z, by omega⟩]
theorem minsN {w : Wd} {q k n t h m a b : Int} (hk : 0 ≤ k ∧ k ≤ 23) (e : mx w q 0 0 = n) : up (up (up (up (up (insM w q k n) 386 (128 * q + 4 + k) t) 386 (128 * q + 28 + k) h) 386 (128 * q + 52 + k) m) 386 (128 * q + 76 + k) a) 386 (128 * q + 100 + k) b 386 (128 * q + 0 + 0) = n := by
  rw [up_off (by omega), up_off (by omega), up_off (by omega), up_off (by omega), up_off (by omega), ← e]
  unfold insM mx
  rw [if_neg (by omega), if_pos rfl]
theorem mdelX {w : Wd} {q k n : Int} (hq : 0 ≤ q) (hk : 0 ≤ k ∧ k < n) (hn : n ≤ 24) (e : mx w q 0 0 = n) : FQ q w (delM (up w 386 (128 * q + 0 + 0) (n - 1)) q k (n - 1)) ∧ CEQ (mx (delM (up w 386 (128 * q + 0 + 0) (n - 1)) q k (n - 1)) q) (delX (mx w q) k) := by
  have A := mx_up0 (w := w) (q := q) (k := 0) (i := 128 * q + 0 + 0) (x := n - 1) (by omega) (by omega)
  have N : mx (up w 386 (128 * q + 0 + 0) (n - 1)) q 0 0 = n - 1 := by rw [A 0 0 (by omega), stX_hit]
  refine ⟨(FQ_up (by omega)).tr FQ_delM, ?_, ?_, ?_, fun r e1 e2 j e3 e4 => ?_⟩
  · rw [mx_delM0 (by omega), N, delX_n, e]
  · rw [mx_delM0 (by omega), A 0 1 (by omega), stX_off (by omega), delX_0 (by omega)]
  · rw [mx_delM0 (by omega), A 0 2 (by omega), stX_off (by omega), delX_0 (by omega)]
  · rw [mx_delM0 (by omega), N] at e4
    rw [mx_delM ⟨by omega, by omega⟩ (by omega) ⟨e1, e2⟩ (by omega)]
    rcases Int.lt_or_le j k with z | z
    · rw [if_neg (by omega), A r j (by omega), stX_off (by omega), delX_lt e1 z]
    · rw [if_pos ⟨z, e4⟩, A r (j + 1) (by omega), stX_off (by omega), delX_ge e1 z]
def frX (X : CP) (k : Int) : CP := stX (stX (stX X 4 k (lim (slp X k 0) 9999)) 5 k (lim (slp X k 1) 9999)) 3 k 0
theorem lim_id {x m : Int} (h1 : -m ≤ x) (h2 : x ≤ m) : lim x m = x := by
  unfold lim
  rw [if_neg (by omega), if_neg (by omega)]
theorem frX_chm {X : CP} (h : CI X) {k : Int} (hk : 0 ≤ k ∧ k < X 0 0) : CEQ (frX X k) (chmX X k 0) := by
  have P := h.2.1 k hk.1 hk.2
  unfold chmX
  by_cases e : X 3 k = 0
  · rw [if_neg (by omega)]
    have s0 : slp X k 0 = X 4 k := by unfold slp; rw [if_pos e]; rfl
    have s1 : slp X k 1 = X 5 k := by unfold slp; rw [if_pos e]; rfl
    unfold frX
    rw [s0, s1, lim_id (by omega) (by omega), lim_id (by omega) (by omega)]
    refine CEQ.of_eq fun r _ j => ?_
    by_cases h3 : r = 3 ∧ j = k
    · rw [h3.1, h3.2, stX_hit, stX_hit]
    · rw [stX_off h3, stX_off h3]
      by_cases h5 : r = 5 ∧ j = k
      · rw [h5.1, h5.2, stX_hit]
      · rw [stX_off h5]
        by_cases h4 : r = 4 ∧ j = k
        · rw [h4.1, h4.2, stX_hit]
        · rw [stX_off h4]
  · rw [if_pos ⟨rfl, e⟩]
    exact CEQ.rf _
def cutP (k A B : Int) : Int := if k ≤ A then k else if k ≤ B then A else A + (k - B)
theorem out_s {X : CP} (h : CI X) {k a b : Int} (hab : a ≤ b + 1) (h0 : 0 ≤ k) (h1 : k < X 0 0) : cutP (k + 1) (kbX X a) (kbX X (b + 1)) = cutP k (kbX X a) (kbX X (b + 1)) + (if a ≤ X 1 k ∧ X 1 k ≤ b then 0 else 1) := by
  obtain ⟨a0, a1, a2, a3⟩ := kbX_KB h.1.1 a
  obtain ⟨b0, b1, b2, b3⟩ := kbX_KB h.1.1 (b + 1)
  have m := kbX_mono h.1.1 hab
  have ka : kbX X a ≤ k → a ≤ X 1 k := fun z => by
    have := a3 (by omega)
    have := frs_le h a0 z h1
    omega
  have kb : kbX X (b + 1) ≤ k → b + 1 ≤ X 1 k := fun z => by
    have := b3 (by omega)
    have := frs_le h b0 z h1
    omega
  have la : k < kbX X a → X 1 k < a := fun z => a2 k h0 z
  have lb : k < kbX X (b + 1) → X 1 k < b + 1 := fun z => b2 k h0 z
  unfold cutP
  rcases Int.lt_or_le k (kbX X a) with z | z
  · have := la z
    rw [if_pos (by omega), if_pos (by omega), if_neg (by omega)]
  · have := ka z
    rcases Int.lt_or_le k (kbX X (b + 1)) with y | y
    · have := lb y
      rw [if_neg (by omega), if_pos (by omega), if_pos (show a ≤ X 1 k ∧ X 1 k ≤ b by omega)]
      split
      · omega
      · rw [if_pos (by omega)]; omega
    · have := kb y
      rw [if_neg (by omega), if_neg (by omega), if_neg (show ¬ (a ≤ X 1 k ∧ X 1 k ≤ b) by omega)]
      split
      · omega
      · split <;> omega
theorem out_n {X : CP} (h : CI X) {a b : Int} (hab : a ≤ b + 1) : cutP (X 0 0) (kbX X a) (kbX X (b + 1)) = X 0 0 - (kbX X (b + 1) - kbX X a) := by
  obtain ⟨a0, a1, a2, a3⟩ := kbX_KB h.1.1 a
  obtain ⟨b0, b1, b2, b3⟩ := kbX_KB h.1.1 (b + 1)
  have m := kbX_mono h.1.1 hab
  unfold cutP
  split
  · omega
  · split <;> omega
set_option maxRecDepth 8000 in
theorem m_X12_isKey {Q : Option AV → Wd → Prop} {w : Wd} (d : Nat) {q k : Int} (hd : 2 ≤ d) (hw : WR w) (hq : R32 q) (hk : R32 k) (hI : 0 ≤ q ∧ q ≤ 3 → CI (mx w q)) (hQ : ∀ r, r = b2i ((0 ≤ q ∧ q ≤ 3) ∧ 0 ≤ k ∧ k < mx w q 0 0) → (r = 0 ∨ r = 1) → Q (some (vI r)) w) : M mX12_isKey (Rm d) [vR (some 385), vI q, vI k] (fl w) (lQ Q) := by
  refine f_mofv (L0 := [some (vR (some 385)), some (vI q), some (vI k)]) rfl (Nat.le_of_ble_eq_true rfl) rfl ?_
  refine r_iload_n (pc := 0) dX12_isKey_0 rfl ?_
  refine c_X12_74 (pc := 1) rfl dX12_isKey_1 (by omega) (Nat.le_of_ble_eq_true rfl) ?_
  refine m_X12_isCurve (d - 1) (by omega) (by assumption) (by omega) (fun r1 e1 b1 => ?_)
  have i1 := b2i_i e1
  refine r_ifeq (pc := 4) (tgt := 26) dX12_isKey_4 rfl (by omega) (fun h4 => ?_) (fun h4 => ?_)
  · have hq3 : ¬ (0 ≤ q ∧ q ≤ 3) := by omega
    refine r_iconst (pc := 26) (n := 0) dX12_isKey_26 ?_
    exact f_zret (pc := 27) dX12_isKey_27 rfl (by first | exact Or.inl rfl | exact Or.inr rfl | omega) (by assumption) (hQ _ (by first | exact b2i_n (by omega) | exact b2i_y (by omega)) (by omega))
  have hq3 : 0 ≤ q ∧ q ≤ 3 := by omega
  have n3 := (hI hq3).1
  refine r_iload_n (pc := 7) dX12_isKey_7 rfl ?_
  refine r_iconst (pc := 8) (n := 0) dX12_isKey_8 ?_
  refine r_aload_n (pc := 9) dX12_isKey_9 rfl ?_
  refine r_iload_n (pc := 10) dX12_isKey_10 rfl ?_
  refine c_X12_78 (pc := 11) rfl dX12_isKey_11 (by first | assumption | rfl) (by omega) (Nat.le_of_ble_eq_true rfl) ?_
  refine m_X12_many (d - 1) (by omega) (by assumption) (by omega) (fun r11 e11 b11 => ?_)
  refine r_iconst (pc := 14) (n := 1) dX12_isKey_14 ?_
  refine r_isub (pc := 15) dX12_isKey_15 ?_
  refine c_X12_66 (pc := 16) rfl dX12_isKey_16 (by omega) (Nat.le_of_ble_eq_true rfl) ?_
  refine m_X12_in (d - 1) (by omega) (by assumption) (by omega) (by omega) (by omega) (fun r16 e16 b16 => ?_)
  have i16 := b2i_i e16
  refine r_ifeq (pc := 19) (tgt := 26) dX12_isKey_19 rfl (by omega) (fun h19 => ?_) (fun h19 => ?_)
  · refine r_iconst (pc := 26) (n := 0) dX12_isKey_26 ?_
    exact f_zret (pc := 27) dX12_isKey_27 rfl (by first | exact Or.inl rfl | exact Or.inr rfl | omega) (by assumption) (hQ _ (by first | exact b2i_n (by omega) | exact b2i_y (by omega)) (by omega))
  refine r_iconst (pc := 22) (n := 1) dX12_isKey_22 ?_
  refine r_goto (pc := 23) (tgt := 27) dX12_isKey_23 rfl ?_
  exact f_zret (pc := 27) dX12_isKey_27 rfl (by first | exact Or.inl rfl | exact Or.inr rfl | omega) (by assumption) (hQ _ (by first | exact b2i_n (by omega) | exact b2i_y (by omega)) (by omega))
set_option maxRecDepth 8000 in
theorem m_X12_find {Q : Option AV → Wd → Prop} {w : Wd} (d : Nat) {q t : Int} (hd : 2 ≤ d) (hw : WR w) (hq : 0 ≤ q ∧ q ≤ 3) (hI : CI (mx w q)) (ht : R32 t) (hQ : ∀ r, r = finX (mx w q) t → -1 ≤ r → r < 24 → Q (some (vI r)) w) : M mX12_find (Rm d) [vR (some 385), vI q, vI t] (fl w) (lQ Q) := by
  have hn := hI.1
  refine f_mofv (L0 := [some (vR (some 385)), some (vI q), some (vI t), none]) rfl (Nat.le_of_ble_eq_true rfl) rfl ?_
  have loop2 : ∀ n0 : Nat, ∀ k : Int, (mx w q 0 0 - k).toNat = n0 → 0 ≤ k → k ≤ mx w q 0 0 → (∀ j, 0 ≤ j → j < k → mx w q 1 j ≠ t) → V mX12_find (Rm d) 0 0 2 [some (vR (some 385)), some (vI q), some (vI t), some (vI k)] [] (fl w) (lQ Q) := by
    refine ind_lt ?_
    intro n0 ih k hm hk0 hkn hj
    refine r_iload_n (pc := 2) dX12_find_2 rfl ?_
    refine r_aload_n (pc := 3) dX12_find_3 rfl ?_
    refine r_iload_n (pc := 4) dX12_find_4 rfl ?_
    refine c_X12_78 (pc := 5) rfl dX12_find_5 (by first | assumption | rfl) (by omega) (Nat.le_of_ble_eq_true rfl) ?_
    refine m_X12_many (d - 1) (by omega) (by assumption) (by omega) (fun r5 e5 b5 => ?_)
    refine r_icmpge (pc := 8) (tgt := 29) dX12_find_8 rfl (by omega) (by omega) (fun h8 => ?_) (fun h8 => ?_)
    · refine r_iconst (pc := 29) (n := (-1)) dX12_find_29 ?_
      exact f_iret (pc := 30) dX12_find_30 rfl (by assumption) (hQ _ (fin_n hI (fun j j0 j1 => hj j j0 (by omega))).symm (by omega) (by omega))
    refine r_aload_n (pc := 11) dX12_find_11 rfl ?_
    refine r_iload_n (pc := 12) dX12_find_12 rfl ?_
    refine r_iload_n (pc := 13) dX12_find_13 rfl ?_
    refine c_X12_82 (pc := 14) rfl dX12_find_14 (by first | assumption | rfl) (by omega) (Nat.le_of_ble_eq_true rfl) ?_
    refine m_X12_frame (d - 1) (by omega) (by assumption) (by omega) (by omega) (fun r14 e14 b14 => ?_)
    refine r_iload_n (pc := 17) dX12_find_17 rfl ?_
    refine r_icmpne (pc := 18) (tgt := 23) dX12_find_18 rfl (by omega) (by omega) (fun h18 => ?_) (fun h18 => ?_)
    · refine r_iinc3 (pc := 23) dX12_find_23 rfl ?_
      refine r_goto (pc := 26) (tgt := 2) dX12_find_26 rfl ?_
      exact ih _ (by omega) (k + 1) rfl (by omega) (by omega) (fun j h1 h2 => by
        rcases Int.lt_or_le j k with z | z
        · exact hj j h1 z
        · rw [show j = k by omega]; omega)
    refine r_iload_n (pc := 21) dX12_find_21 rfl ?_
    exact f_iret (pc := 22) dX12_find_22 rfl (by assumption) (hQ _ (fin_y hI hk0 (by omega) (by omega)).symm (by omega) (by omega))
  refine r_iconst (pc := 0) (n := 0) dX12_find_0 ?_
  refine r_istore3 (pc := 1) dX12_find_1 rfl ?_
  exact loop2 _ 0 rfl (by omega) (by omega) (fun j h1 h2 => by omega)
set_option maxRecDepth 8000 in
theorem m_X12_changes {Q : Option AV → Wd → Prop} {w : Wd} (d : Nat) (hd : 0 ≤ d) (hw : WR w) (hp : 0 ≤ w 385 2 ∧ w 385 2 ≤ 10) (hQ : ∀ w2, CHG w w2 → WR w2 → Q none w2) : M mX12_changes (Rm d) [vR (some 385)] (fl w) (lQ Q) := by
  refine f_mofv (L0 := [some (vR (some 385)), none]) rfl (Nat.le_of_ble_eq_true rfl) rfl ?_
  have loop48 : ∀ (p : Int) (w0 : Wd), p = chP w → 0 ≤ p ∧ p ≤ 9 → (∀ i, i ≠ 385 → i ≠ 387 → w0 i = w i) → (∀ j, j ≠ 2 → w0 385 j = w 385 j) → w0 385 2 = p → (∀ k, 0 ≤ k → k < 660 * p → w0 387 k = w 387 (k + chO w)) → ∀ n0 : Nat, ∀ k : Int, (660 - k).toNat = n0 → 0 ≤ k → k ≤ 660 → ∀ w1 : Wd, w1 = cpP w0 (660 * p) k → WR w1 → V mX12_changes (Rm d) 0 0 48 [some (vR (some 385)), some (vI k)] [] (fl w1) (lQ Q) := by
    intro p w0 hpp hp2 f1 f2 f3 f4
    refine ind_lt ?_
    intro n0 ih k hm hk0 hkn w1 e1 hw1
    have g3 : w1 385 2 = p := by rw [e1]; unfold cpP; rw [if_neg (by omega)]; exact f3
    refine r_iload_n (pc := 48) dX12_changes_48 rfl ?_
    refine r_sipush (pc := 49) (n := 660) dX12_changes_49 (by decide) ?_
    refine r_icmpge (pc := 52) (tgt := 82) dX12_changes_52 rfl (by omega) (by omega) (fun h52 => ?_) (fun h52 => ?_)
    · have ek : k = 660 := by omega
      subst ek
      have gg : R32 (w1 385 2 + 1) := by omega
      refine r_aload_n (pc := 82) dX12_changes_82 rfl ?_
      refine r_dup (pc := 83) dX12_changes_83 rfl ?_
      refine h_X12_86 (pc := 84) rfl dX12_changes_84 (by assumption) (fun h84 => ?_)
      refine r_iconst (pc := 87) (n := 1) dX12_changes_87 ?_
      refine r_iadd (pc := 88) dX12_changes_88 ?_
      refine ph_X12_86 (pc := 89) rfl dX12_changes_89 (by assumption) (by omega) (fun hw89 => ?_)
      exact f_vret (pc := 92) dX12_changes_92 rfl (by assumption) (hQ _ (by rw [e1]; exact chg_end hpp hp2 f1 f2 f3 f4) (by assumption))
    refine r_aload_n (pc := 55) dX12_changes_55 rfl ?_
    refine h_X12_13 (pc := 56) rfl dX12_changes_56 ?_
    refine r_sipush (pc := 59) (n := 660) dX12_changes_59 (by decide) ?_
    refine r_aload_n (pc := 62) dX12_changes_62 rfl ?_
    refine h_X12_86 (pc := 63) rfl dX12_changes_63 (by assumption) (fun h63 => ?_)
    refine r_imul (pc := 66) dX12_changes_66 ?_
    refine r_iload_n (pc := 67) dX12_changes_67 rfl ?_
    refine r_iadd (pc := 68) dX12_changes_68 ?_
    rw [g3]
    refine r_aload_n (pc := 69) dX12_changes_69 rfl ?_
    refine h_X12_7 (pc := 70) rfl dX12_changes_70 ?_
    refine r_iload_n (pc := 73) dX12_changes_73 rfl ?_
    refine f_iald (pc := 74) dX12_changes_74 (n := 660) (by assumption) (by first | assumption | rfl) (by omega) (by omega) (by omega) (fun h74 => ?_)
    refine f_iast (pc := 75) dX12_changes_75 (n := 6600) (by assumption) (by first | assumption | rfl) (by omega) (by omega) (by omega) (by omega) (fun hw75 => ?_)
    refine r_iinc1 (pc := 76) dX12_changes_76 rfl ?_
    refine r_goto (pc := 79) (tgt := 48) dX12_changes_79 rfl ?_
    exact ih _ (by omega) (k + 1) rfl (by omega) (by omega) _ (by rw [e1]; exact cpP_s hk0) (by assumption)
  have cut46 : ∀ (p : Int) (w1 : Wd) (o : Option AV), p = chP w → 0 ≤ p ∧ p ≤ 9 → (∀ i, i ≠ 385 → i ≠ 387 → w1 i = w i) → (∀ j, j ≠ 2 → w1 385 j = w 385 j) → w1 385 2 = p → (∀ k, 0 ≤ k → k < 660 * p → w1 387 k = w 387 (k + chO w)) → WR w1 → V mX12_changes (Rm d) 0 0 46 [some (vR (some 385)), o] [] (fl w1) (lQ Q) := by
    intro p w1 o hpp hp2 f1 f2 f3 f4 hw1
    refine r_iconst (pc := 46) (n := 0) dX12_changes_46 ?_
    refine r_istore1 (pc := 47) dX12_changes_47 rfl ?_
    exact loop48 p w1 hpp hp2 f1 f2 f3 f4 _ 0 rfl (by omega) (by omega) _ cpP_0.symm (by assumption)
  have loop11 : ∀ n0 : Nat, ∀ k : Int, (5940 - k).toNat = n0 → 0 ≤ k → k ≤ 5940 → ∀ w1 : Wd, w1 = shP w k → WR w1 → w 385 2 = 10 → V mX12_changes (Rm d) 0 0 11 [some (vR (some 385)), some (vI k)] [] (fl w1) (lQ Q) := by
    refine ind_lt ?_
    intro n0 ih k hm hk0 hkn w1 e1 hw1 h10
    refine r_iload_n (pc := 11) dX12_changes_11 rfl ?_
    refine r_sipush (pc := 12) (n := 5940) dX12_changes_12 (by decide) ?_
    refine r_icmpge (pc := 15) (tgt := 40) dX12_changes_15 rfl (by omega) (by omega) (fun h15 => ?_) (fun h15 => ?_)
    · refine r_aload_n (pc := 40) dX12_changes_40 rfl ?_
      refine r_bipush (pc := 41) (n := 9) dX12_changes_41 (by decide) ?_
      refine ph_X12_86 (pc := 43) rfl dX12_changes_43 (by assumption) (by omega) (fun hw43 => ?_)
      exact cut46 9 _ _ (if_pos (by omega)).symm (by omega) (fun i a b => by rw [up_ne a, e1]; funext j; unfold shP; rw [if_neg (by omega)]) (fun j a => by rw [up_off (by omega), e1]; unfold shP; rw [if_neg (by omega)]) up_hit (fun j a b => by rw [up_ne (by omega), e1]; unfold shP chO; rw [if_pos (by omega), if_pos h10]) (by assumption)
    refine r_aload_n (pc := 18) dX12_changes_18 rfl ?_
    refine h_X12_13 (pc := 19) rfl dX12_changes_19 ?_
    refine r_iload_n (pc := 22) dX12_changes_22 rfl ?_
    refine r_aload_n (pc := 23) dX12_changes_23 rfl ?_
    refine h_X12_13 (pc := 24) rfl dX12_changes_24 ?_
    refine r_iload_n (pc := 27) dX12_changes_27 rfl ?_
    refine r_sipush (pc := 28) (n := 660) dX12_changes_28 (by decide) ?_
    refine r_iadd (pc := 31) dX12_changes_31 ?_
    refine f_iald (pc := 32) dX12_changes_32 (n := 6600) (by assumption) (by first | assumption | rfl) (by omega) (by omega) (by omega) (fun h32 => ?_)
    refine f_iast (pc := 33) dX12_changes_33 (n := 6600) (by assumption) (by first | assumption | rfl) (by omega) (by omega) (by omega) (by omega) (fun hw33 => ?_)
    refine r_iinc1 (pc := 34) dX12_changes_34 rfl ?_
    refine r_goto (pc := 37) (tgt := 11) dX12_changes_37 rfl ?_
    exact ih _ (by omega) (k + 1) rfl (by omega) (by omega) _ (by rw [e1]; exact shP_s (by omega)) (by assumption) h10
  refine r_aload_n (pc := 0) dX12_changes_0 rfl ?_
  refine h_X12_86 (pc := 1) rfl dX12_changes_1 (by assumption) (fun h1 => ?_)
  refine r_bipush (pc := 4) (n := 10) dX12_changes_4 (by decide) ?_
  refine r_icmpne (pc := 6) (tgt := 46) dX12_changes_6 rfl (by omega) (by omega) (fun h6 => ?_) (fun h6 => ?_)
  · exact cut46 (w 385 2) w _ (if_neg (by omega)).symm (by omega) (fun _ _ _ => rfl) (fun _ _ => rfl) rfl (fun k _ _ => by unfold chO; rw [if_neg (by omega), Int.add_zero]) (by assumption)
  refine r_iconst (pc := 9) (n := 0) dX12_changes_9 ?_
  refine r_istore1 (pc := 10) dX12_changes_10 rfl ?_
  exact loop11 _ 0 rfl (by omega) (by omega) _ shP_0.symm (by assumption) (by omega)
set_option maxRecDepth 8000 in
theorem m_X12_inserts {Q : Option AV → Wd → Prop} {w : Wd} (d : Nat) {q t h m a b : Int} (hd : 2 ≤ d) (hw : WR w) (hq : 0 ≤ q ∧ q ≤ 3) (hI : CI (mx w q)) (hn : mx w q 0 0 ≤ 23) (hne : ∀ j, 0 ≤ j → j < mx w q 0 0 → mx w q 1 j ≠ t) (ht : R32 t) (hh : R32 h) (hm : R32 m) (ha : R32 a) (hb : R32 b) (hQ : ∀ k w2, KB (mx w q 0 0) (mx w q 1) t k → FQ q w w2 → CEQ (mx w2 q) (insX (mx w q) k (v5 t h m a b)) → WR w2 → Q (some (vI k)) w2) : M mX12_inserts (Rm d) [vR (some 385), vI q, vI t, vI h, vI m, vI a, vI b] (fl w) (lQ Q) := by
  have hn0 := hI.1
  obtain ⟨n, hnn⟩ : ∃ n, n = mx w q 0 0 := ⟨_, rfl⟩
  refine f_mofv (L0 := [some (vR (some 385)), some (vI q), some (vI t), some (vI h), some (vI m), some (vI a), some (vI b), none, none]) rfl (Nat.le_of_ble_eq_true rfl) rfl ?_
  have cut75 : ∀ k : Int, 0 ≤ k → k ≤ mx w q 0 0 → KB (mx w q 0 0) (mx w q 1) t k → ∀ (w1 : Wd) (o8 : Option AV), w1 = insM w q k (mx w q 0 0) → WR w1 → V mX12_inserts (Rm d) 0 0 75 [some (vR (some 385)), some (vI q), some (vI t), some (vI h), some (vI m), some (vI a), some (vI b), some (vI k), o8] [] (fl w1) (lQ Q) := by
    intro k hk0 hkn hkb w1 o8 e1 hw1
    have MI := minsX (w := w) (q := q) (k := k) (n := mx w q 0 0) (t := t) (h := h) (m := m) (a := a) (b := b) hq.1 ⟨hk0, hkn⟩ hn rfl
    have MN := minsN (w := w) (q := q) (k := k) (n := mx w q 0 0) (t := t) (h := h) (m := m) (a := a) (b := b) (by omega) rfl
    subst e1
    refine r_aload_n (pc := 75) dX12_inserts_75 rfl ?_
    refine h_X12_7 (pc := 76) rfl dX12_inserts_76 ?_
    refine r_iload_n (pc := 79) dX12_inserts_79 rfl ?_
    refine r_iconst (pc := 80) (n := 4) dX12_inserts_80 ?_
    refine r_iload (pc := 81) dX12_inserts_81 rfl ?_
    refine c_X12_70 (pc := 83) rfl dX12_inserts_83 (by omega) (Nat.le_of_ble_eq_true rfl) ?_
    refine m_X12_at (d - 1) (by omega) (by assumption)  (fun r83 e83 => ?_)
    subst e83
    refine r_iload_n (pc := 86) dX12_inserts_86 rfl ?_
    refine f_iast (pc := 87) dX12_inserts_87 (n := 660) (by assumption) (by first | assumption | rfl) (by omega) (by omega) (by omega) (by omega) (fun hw87 => ?_)
    refine r_aload_n (pc := 88) dX12_inserts_88 rfl ?_
    refine h_X12_7 (pc := 89) rfl dX12_inserts_89 ?_
    refine r_iload_n (pc := 92) dX12_inserts_92 rfl ?_
    refine r_bipush (pc := 93) (n := 28) dX12_inserts_93 (by decide) ?_
    refine r_iload (pc := 95) dX12_inserts_95 rfl ?_
    refine c_X12_70 (pc := 97) rfl dX12_inserts_97 (by omega) (Nat.le_of_ble_eq_true rfl) ?_
    refine m_X12_at (d - 1) (by omega) (by assumption)  (fun r97 e97 => ?_)
    subst e97
    refine r_iload_n (pc := 100) dX12_inserts_100 rfl ?_
    refine f_iast (pc := 101) dX12_inserts_101 (n := 660) (by assumption) (by first | assumption | rfl) (by omega) (by omega) (by omega) (by omega) (fun hw101 => ?_)
    refine r_aload_n (pc := 102) dX12_inserts_102 rfl ?_
    refine h_X12_7 (pc := 103) rfl dX12_inserts_103 ?_
    refine r_iload_n (pc := 106) dX12_inserts_106 rfl ?_
    refine r_bipush (pc := 107) (n := 52) dX12_inserts_107 (by decide) ?_
    refine r_iload (pc := 109) dX12_inserts_109 rfl ?_
    refine c_X12_70 (pc := 111) rfl dX12_inserts_111 (by omega) (Nat.le_of_ble_eq_true rfl) ?_
    refine m_X12_at (d - 1) (by omega) (by assumption)  (fun r111 e111 => ?_)
    subst e111
    refine r_iload (pc := 114) dX12_inserts_114 rfl ?_
    refine f_iast (pc := 116) dX12_inserts_116 (n := 660) (by assumption) (by first | assumption | rfl) (by omega) (by omega) (by omega) (by omega) (fun hw116 => ?_)
    refine r_aload_n (pc := 117) dX12_inserts_117 rfl ?_
    refine h_X12_7 (pc := 118) rfl dX12_inserts_118 ?_
    refine r_iload_n (pc := 121) dX12_inserts_121 rfl ?_
    refine r_bipush (pc := 122) (n := 76) dX12_inserts_122 (by decide) ?_
    refine r_iload (pc := 124) dX12_inserts_124 rfl ?_
    refine c_X12_70 (pc := 126) rfl dX12_inserts_126 (by omega) (Nat.le_of_ble_eq_true rfl) ?_
    refine m_X12_at (d - 1) (by omega) (by assumption)  (fun r126 e126 => ?_)
    subst e126
    refine r_iload (pc := 129) dX12_inserts_129 rfl ?_
    refine f_iast (pc := 131) dX12_inserts_131 (n := 660) (by assumption) (by first | assumption | rfl) (by omega) (by omega) (by omega) (by omega) (fun hw131 => ?_)
    refine r_aload_n (pc := 132) dX12_inserts_132 rfl ?_
    refine h_X12_7 (pc := 133) rfl dX12_inserts_133 ?_
    refine r_iload_n (pc := 136) dX12_inserts_136 rfl ?_
    refine r_bipush (pc := 137) (n := 100) dX12_inserts_137 (by decide) ?_
    refine r_iload (pc := 139) dX12_inserts_139 rfl ?_
    refine c_X12_70 (pc := 141) rfl dX12_inserts_141 (by omega) (Nat.le_of_ble_eq_true rfl) ?_
    refine m_X12_at (d - 1) (by omega) (by assumption)  (fun r141 e141 => ?_)
    subst e141
    refine r_iload (pc := 144) dX12_inserts_144 rfl ?_
    refine f_iast (pc := 146) dX12_inserts_146 (n := 660) (by assumption) (by first | assumption | rfl) (by omega) (by omega) (by omega) (by omega) (fun hw146 => ?_)
    refine r_aload_n (pc := 147) dX12_inserts_147 rfl ?_
    refine h_X12_7 (pc := 148) rfl dX12_inserts_148 ?_
    refine r_iload_n (pc := 151) dX12_inserts_151 rfl ?_
    refine r_iconst (pc := 152) (n := 0) dX12_inserts_152 ?_
    refine r_iconst (pc := 153) (n := 0) dX12_inserts_153 ?_
    refine c_X12_70 (pc := 154) rfl dX12_inserts_154 (by omega) (Nat.le_of_ble_eq_true rfl) ?_
    refine m_X12_at (d - 1) (by omega) (by assumption)  (fun r154 e154 => ?_)
    subst e154
    refine r_dup2_11 (pc := 157) dX12_inserts_157 rfl rfl ?_
    refine f_iald (pc := 158) dX12_inserts_158 (n := 660) (by assumption) (by first | assumption | rfl) (by omega) (by omega) (by omega) (fun h158 => ?_)
    rw [MN]
    refine r_iconst (pc := 159) (n := 1) dX12_inserts_159 ?_
    refine r_iadd (pc := 160) dX12_inserts_160 ?_
    refine f_iast (pc := 161) dX12_inserts_161 (n := 660) (by assumption) (by first | assumption | rfl) (by omega) (by omega) (by omega) (by omega) (fun hw161 => ?_)
    refine r_iload (pc := 162) dX12_inserts_162 rfl ?_
    exact f_iret (pc := 164) dX12_inserts_164 rfl (by assumption) (hQ _ _ hkb MI.1 MI.2 (by assumption))
  have loop28 : ∀ n1 : Nat, (∀ m1 : Nat, m1 < n1 → ∀ k : Int, k.toNat = m1 → 0 ≤ k → k ≤ mx w q 0 0 → (∀ j, k ≤ j → j < mx w q 0 0 → t < mx w q 1 j) → ∀ (w1 : Wd) (o8 : Option AV), w1 = insM w q k (mx w q 0 0) → WR w1 → V mX12_inserts (Rm d) 0 0 7 [some (vR (some 385)), some (vI q), some (vI t), some (vI h), some (vI m), some (vI a), some (vI b), some (vI k), o8] [] (fl w1) (lQ Q)) → ∀ k : Int, k.toNat = n1 → 1 ≤ k → k ≤ mx w q 0 0 → (∀ j, k ≤ j → j < mx w q 0 0 → t < mx w q 1 j) → t < mx w q 1 (k - 1) → ∀ n2 : Nat, ∀ c : Int, (5 - c).toNat = n2 → 0 ≤ c → c ≤ 5 → ∀ (w1 : Wd) (x : Int), x = 4 + 24 * c → w1 = shN (insM w q k (mx w q 0 0)) q k c (-1) → WR w1 → V mX12_inserts (Rm d) 0 0 28 [some (vR (some 385)), some (vI q), some (vI t), some (vI h), some (vI m), some (vI a), some (vI b), some (vI k), some (vI x)] [] (fl w1) (lQ Q) := by
    intro n1 ih k hmk hk1 hkn hgt hgk
    refine ind_lt ?_
    intro n2 ih2 c hmc hc0 hc5 w1 x hx e1 hw1
    refine r_iload (pc := 28) dX12_inserts_28 rfl ?_
    refine r_bipush (pc := 30) (n := 100) dX12_inserts_30 (by decide) ?_
    refine r_icmpgt (pc := 32) (tgt := 69) dX12_inserts_32 rfl (by omega) (by omega) (fun h32 => ?_) (fun h32 => ?_)
    · refine r_iinc7 (pc := 69) dX12_inserts_69 rfl ?_
      refine r_goto (pc := 72) (tgt := 7) dX12_inserts_72 rfl ?_
      exact ih _ (by omega) (k + -1) rfl (by omega) (by omega) (fun j j0 j1 => by
        rcases Int.lt_or_le j k with z | z
        · rw [show j = k - 1 by omega]; omega
        · exact hgt j z j1) _ _ (by rw [e1, show c = 5 by omega, insM_s (by omega) (by omega), show k - 1 = k + -1 by omega]) (by assumption)
    refine r_aload_n (pc := 35) dX12_inserts_35 rfl ?_
    refine h_X12_7 (pc := 36) rfl dX12_inserts_36 ?_
    refine r_iload_n (pc := 39) dX12_inserts_39 rfl ?_
    refine r_iload (pc := 40) dX12_inserts_40 rfl ?_
    refine r_iload (pc := 42) dX12_inserts_42 rfl ?_
    refine c_X12_70 (pc := 44) rfl dX12_inserts_44 (by omega) (Nat.le_of_ble_eq_true rfl) ?_
    refine m_X12_at (d - 1) (by omega) (by assumption)  (fun r44 e44 => ?_)
    refine r_aload_n (pc := 47) dX12_inserts_47 rfl ?_
    refine h_X12_7 (pc := 48) rfl dX12_inserts_48 ?_
    refine r_iload_n (pc := 51) dX12_inserts_51 rfl ?_
    refine r_iload (pc := 52) dX12_inserts_52 rfl ?_
    refine r_iload (pc := 54) dX12_inserts_54 rfl ?_
    refine r_iconst (pc := 56) (n := 1) dX12_inserts_56 ?_
    refine r_isub (pc := 57) dX12_inserts_57 ?_
    refine c_X12_70 (pc := 58) rfl dX12_inserts_58 (by omega) (Nat.le_of_ble_eq_true rfl) ?_
    refine m_X12_at (d - 1) (by omega) (by assumption)  (fun r58 e58 => ?_)
    refine f_iald (pc := 61) dX12_inserts_61 (n := 660) (by assumption) (by first | assumption | rfl) (by omega) (by omega) (by omega) (fun h61 => ?_)
    refine f_iast (pc := 62) dX12_inserts_62 (n := 660) (by assumption) (by first | assumption | rfl) (by omega) (by omega) (by omega) (by omega) (fun hw62 => ?_)
    refine r_iinc8 (pc := 63) dX12_inserts_63 rfl ?_
    refine r_goto (pc := 66) (tgt := 28) dX12_inserts_66 rfl ?_
    exact ih2 _ (by omega) (c + 1) rfl (by omega) (by omega) _ _ (by omega) (by rw [e1, e44, e58, hx, show k - 1 = k + -1 by omega]; exact shN_s (Or.inr rfl) hc0) (by assumption)
  have loop7 : ∀ n1 : Nat, ∀ k : Int, k.toNat = n1 → 0 ≤ k → k ≤ mx w q 0 0 → (∀ j, k ≤ j → j < mx w q 0 0 → t < mx w q 1 j) → ∀ (w1 : Wd) (o8 : Option AV), w1 = insM w q k (mx w q 0 0) → WR w1 → V mX12_inserts (Rm d) 0 0 7 [some (vR (some 385)), some (vI q), some (vI t), some (vI h), some (vI m), some (vI a), some (vI b), some (vI k), o8] [] (fl w1) (lQ Q) := by
    refine ind_lt ?_
    intro n1 ih k hmk hk0 hkn hgt w1 o8 e1 hw1
    refine r_iload (pc := 7) dX12_inserts_7 rfl ?_
    refine r_ifle (pc := 9) (tgt := 75) dX12_inserts_9 rfl (by omega) (fun h9 => ?_) (fun h9 => ?_)
    · exact cut75 k hk0 hkn ⟨hk0, hkn, fun j j0 j1 => by omega, fun z => by have := hgt k (Int.le_refl k) z; omega⟩ w1 _ e1 (by assumption)
    refine r_aload_n (pc := 12) dX12_inserts_12 rfl ?_
    refine r_iload_n (pc := 13) dX12_inserts_13 rfl ?_
    refine r_iload (pc := 14) dX12_inserts_14 rfl ?_
    refine r_iconst (pc := 16) (n := 1) dX12_inserts_16 ?_
    refine r_isub (pc := 17) dX12_inserts_17 ?_
    refine c_X12_82 (pc := 18) rfl dX12_inserts_18 (by first | assumption | rfl) (by omega) (Nat.le_of_ble_eq_true rfl) ?_
    refine m_X12_frame (d - 1) (by omega) (by assumption) (by omega) (by omega) (fun r18 e18 b18 => ?_)
    rw [e1, mx_insM ⟨hk0, hkn⟩ hn (by omega) (by omega), if_neg (by omega)] at e18
    refine r_iload_n (pc := 21) dX12_inserts_21 rfl ?_
    refine r_icmple (pc := 22) (tgt := 75) dX12_inserts_22 rfl (by omega) (by omega) (fun h22 => ?_) (fun h22 => ?_)
    · exact cut75 k hk0 hkn ⟨hk0, hkn, fun j j0 j1 => by
        have n1 := hne (k - 1) (by omega) (by omega)
        have := frs_le hI j0 (show j ≤ k - 1 by omega) (by omega)
        omega, fun z => by have := hgt k (Int.le_refl k) z; omega⟩ w1 _ e1 (by assumption)
    refine r_iconst (pc := 25) (n := 4) dX12_inserts_25 ?_
    refine r_istore8 (pc := 26) dX12_inserts_26 rfl ?_
    exact loop28 n1 ih k hmk (by omega) hkn hgt (by omega) _ 0 rfl (by omega) (by omega) w1 4 (by omega) (by rw [e1]; exact shN_0.symm) (by assumption)
  refine r_aload_n (pc := 0) dX12_inserts_0 rfl ?_
  refine r_iload_n (pc := 1) dX12_inserts_1 rfl ?_
  refine c_X12_78 (pc := 2) rfl dX12_inserts_2 (by first | assumption | rfl) (by omega) (Nat.le_of_ble_eq_true rfl) ?_
  refine m_X12_many (d - 1) (by omega) (by assumption) (by omega) (fun r2 e2 b2 => ?_)
  subst e2
  refine r_istore7 (pc := 5) dX12_inserts_5 rfl ?_
  exact loop7 _ (mx w q 0 0) rfl (by omega) (Int.le_refl _) (fun j j0 j1 => by omega) w _ insM_0.symm (by assumption)
set_option maxRecDepth 8000 in
theorem m_X12_removes {Q : Option AV → Wd → Prop} {w : Wd} (d : Nat) {q k : Int} (hd : 2 ≤ d) (hw : WR w) (hq : 0 ≤ q ∧ q ≤ 3) (hn : 0 ≤ mx w q 0 0 ∧ mx w q 0 0 ≤ 24) (hk : 0 ≤ k ∧ k < mx w q 0 0) (hQ : ∀ w2, FQ q w w2 → CEQ (mx w2 q) (delX (mx w q) k) → WR w2 → Q none w2) : M mX12_removes (Rm d) [vR (some 385), vI q, vI k] (fl w) (lQ Q) := by
  have N0 : mx (up w 386 (128 * q + 0 + 0) (mx w q 0 0 - 1)) q 0 0 = mx w q 0 0 - 1 := by
    have A := mx_up0 (w := w) (q := q) (k := 0) (i := 128 * q + 0 + 0) (x := mx w q 0 0 - 1) (by omega) (by omega)
    rw [A 0 0 (by omega), stX_hit]
  have M0 : w 386 (128 * q + 0 + 0) = mx w q 0 0 := mxR0 (by omega)
  refine f_mofv (L0 := [some (vR (some 385)), some (vI q), some (vI k), none, none]) rfl (Nat.le_of_ble_eq_true rfl) rfl ?_
  have loop29 : ∀ n1 : Nat, (∀ m1 : Nat, m1 < n1 → ∀ i : Int, (mx w q 0 0 - i).toNat = m1 → k ≤ i → i ≤ mx w q 0 0 - 1 → ∀ (w1 : Wd) (o4 : Option AV), w1 = delM (up w 386 (128 * q + 0 + 0) (mx w q 0 0 - 1)) q k i → WR w1 → V mX12_removes (Rm d) 0 0 17 [some (vR (some 385)), some (vI q), some (vI k), some (vI i), o4] [] (fl w1) (lQ Q)) → ∀ i : Int, (mx w q 0 0 - i).toNat = n1 → k ≤ i → i < mx w q 0 0 - 1 → ∀ n2 : Nat, ∀ c : Int, (5 - c).toNat = n2 → 0 ≤ c → c ≤ 5 → ∀ (w1 : Wd) (x : Int), x = 4 + 24 * c → w1 = shN (delM (up w 386 (128 * q + 0 + 0) (mx w q 0 0 - 1)) q k i) q i c 1 → WR w1 → V mX12_removes (Rm d) 0 0 29 [some (vR (some 385)), some (vI q), some (vI k), some (vI i), some (vI x)] [] (fl w1) (lQ Q) := by
    intro n1 ih i hmi hki hin
    refine ind_lt ?_
    intro n2 ih2 c hmc hc0 hc5 w1 x hx e1 hw1
    refine r_iload (pc := 29) dX12_removes_29 rfl ?_
    refine r_bipush (pc := 31) (n := 100) dX12_removes_31 (by decide) ?_
    refine r_icmpgt (pc := 33) (tgt := 68) dX12_removes_33 rfl (by omega) (by omega) (fun h33 => ?_) (fun h33 => ?_)
    · refine r_iinc3 (pc := 68) dX12_removes_68 rfl ?_
      refine r_goto (pc := 71) (tgt := 17) dX12_removes_71 rfl ?_
      exact ih _ (by omega) (i + 1) rfl (by omega) (by omega) _ _ (by rw [e1, show c = 5 by omega, delM_s ⟨hk.1, hki⟩ (by omega)]) (by assumption)
    refine r_aload_n (pc := 36) dX12_removes_36 rfl ?_
    refine h_X12_7 (pc := 37) rfl dX12_removes_37 ?_
    refine r_iload_n (pc := 40) dX12_removes_40 rfl ?_
    refine r_iload (pc := 41) dX12_removes_41 rfl ?_
    refine r_iload_n (pc := 43) dX12_removes_43 rfl ?_
    refine c_X12_70 (pc := 44) rfl dX12_removes_44 (by omega) (Nat.le_of_ble_eq_true rfl) ?_
    refine m_X12_at (d - 1) (by omega) (by assumption)  (fun r44 e44 => ?_)
    refine r_aload_n (pc := 47) dX12_removes_47 rfl ?_
    refine h_X12_7 (pc := 48) rfl dX12_removes_48 ?_
    refine r_iload_n (pc := 51) dX12_removes_51 rfl ?_
    refine r_iload (pc := 52) dX12_removes_52 rfl ?_
    refine r_iload_n (pc := 54) dX12_removes_54 rfl ?_
    refine r_iconst (pc := 55) (n := 1) dX12_removes_55 ?_
    refine r_iadd (pc := 56) dX12_removes_56 ?_
    refine c_X12_70 (pc := 57) rfl dX12_removes_57 (by omega) (Nat.le_of_ble_eq_true rfl) ?_
    refine m_X12_at (d - 1) (by omega) (by assumption)  (fun r57 e57 => ?_)
    refine f_iald (pc := 60) dX12_removes_60 (n := 660) (by assumption) (by first | assumption | rfl) (by omega) (by omega) (by omega) (fun h60 => ?_)
    refine f_iast (pc := 61) dX12_removes_61 (n := 660) (by assumption) (by first | assumption | rfl) (by omega) (by omega) (by omega) (by omega) (fun hw61 => ?_)
    refine r_iinc4 (pc := 62) dX12_removes_62 rfl ?_
    refine r_goto (pc := 65) (tgt := 29) dX12_removes_65 rfl ?_
    exact ih2 _ (by omega) (c + 1) rfl (by omega) (by omega) _ _ (by omega) (by rw [e1, e44, e57, hx]; exact shN_s (Or.inl rfl) hc0) (by assumption)
  have loop17 : ∀ n1 : Nat, ∀ i : Int, (mx w q 0 0 - i).toNat = n1 → k ≤ i → i ≤ mx w q 0 0 - 1 → ∀ (w1 : Wd) (o4 : Option AV), w1 = delM (up w 386 (128 * q + 0 + 0) (mx w q 0 0 - 1)) q k i → WR w1 → V mX12_removes (Rm d) 0 0 17 [some (vR (some 385)), some (vI q), some (vI k), some (vI i), o4] [] (fl w1) (lQ Q) := by
    refine ind_lt ?_
    intro n1 ih i hmi hki hin w1 o4 e1 hw1
    have n1c : mx w1 q 0 0 = mx w q 0 0 - 1 := by rw [e1, mx_delM0 (by omega), N0]
    refine r_iload_n (pc := 17) dX12_removes_17 rfl ?_
    refine r_aload_n (pc := 18) dX12_removes_18 rfl ?_
    refine r_iload_n (pc := 19) dX12_removes_19 rfl ?_
    refine c_X12_78 (pc := 20) rfl dX12_removes_20 (by first | assumption | rfl) (by omega) (Nat.le_of_ble_eq_true rfl) ?_
    refine m_X12_many (d - 1) (by omega) (by assumption) (by omega) (fun r20 e20 b20 => ?_)
    rw [n1c] at e20
    subst e20
    refine r_icmpge (pc := 23) (tgt := 74) dX12_removes_23 rfl (by omega) (by omega) (fun h23 => ?_) (fun h23 => ?_)
    · exact f_vret (pc := 74) dX12_removes_74 rfl (by assumption) (hQ _ (by rw [e1, show i = mx w q 0 0 - 1 by omega]; exact (mdelX hq.1 hk hn.2 rfl).1) (by rw [e1, show i = mx w q 0 0 - 1 by omega]; exact (mdelX hq.1 hk hn.2 rfl).2) (by assumption))
    refine r_iconst (pc := 26) (n := 4) dX12_removes_26 ?_
    refine r_istore4 (pc := 27) dX12_removes_27 rfl ?_
    exact loop29 n1 ih i hmi hki (by omega) _ 0 rfl (by omega) (by omega) w1 4 (by omega) (by rw [e1]; exact shN_0.symm) (by assumption)
  refine r_aload_n (pc := 0) dX12_removes_0 rfl ?_
  refine h_X12_7 (pc := 1) rfl dX12_removes_1 ?_
  refine r_iload_n (pc := 4) dX12_removes_4 rfl ?_
  refine r_iconst (pc := 5) (n := 0) dX12_removes_5 ?_
  refine r_iconst (pc := 6) (n := 0) dX12_removes_6 ?_
  refine c_X12_70 (pc := 7) rfl dX12_removes_7 (by omega) (Nat.le_of_ble_eq_true rfl) ?_
  refine m_X12_at (d - 1) (by omega) (by assumption)  (fun r7 e7 => ?_)
  subst e7
  refine r_dup2_11 (pc := 10) dX12_removes_10 rfl rfl ?_
  refine f_iald (pc := 11) dX12_removes_11 (n := 660) (by assumption) (by first | assumption | rfl) (by omega) (by omega) (by omega) (fun h11 => ?_)
  rw [M0] at h11 ⊢
  refine r_iconst (pc := 12) (n := 1) dX12_removes_12 ?_
  refine r_isub (pc := 13) dX12_removes_13 ?_
  refine f_iast (pc := 14) dX12_removes_14 (n := 660) (by assumption) (by first | assumption | rfl) (by omega) (by omega) (by omega) (by omega) (fun hw14 => ?_)
  refine r_iload_n (pc := 15) dX12_removes_15 rfl ?_
  refine r_istore3 (pc := 16) dX12_removes_16 rfl ?_
  exact loop17 _ k rfl (Int.le_refl k) (by omega) _ _ (by rw [← M0]; exact delM_0.symm) (by assumption)
set_option maxRecDepth 8000 in
theorem m_X12_frees {Q : Option AV → Wd → Prop} {w : Wd} (d : Nat) {q k : Int} (hd : 6 ≤ d) (hw : WR w) (hq : 0 ≤ q ∧ q ≤ 3) (hI : CI (mx w q)) (hk : 0 ≤ k ∧ k < mx w q 0 0) (hQ : ∀ w2, FQ q w w2 → CEQ (mx w2 q) (frX (mx w q) k) → WR w2 → Q none w2) : M mX12_frees (Rm d) [vR (some 385), vI q, vI k] (fl w) (lQ Q) := by
  have hn := hI.1
  refine f_mofv (L0 := [some (vR (some 385)), some (vI q), some (vI k), none, none]) rfl (Nat.le_of_ble_eq_true rfl) rfl ?_
  refine r_aload_n (pc := 0) dX12_frees_0 rfl ?_
  refine r_iload_n (pc := 1) dX12_frees_1 rfl ?_
  refine r_iload_n (pc := 2) dX12_frees_2 rfl ?_
  refine r_iconst (pc := 3) (n := 0) dX12_frees_3 ?_
  refine c_X12_122 (pc := 4) rfl dX12_frees_4 (by first | assumption | rfl) (by omega) (Nat.le_of_ble_eq_true rfl) ?_
  refine m_X12_slopeOf (d - 1) (by omega) (by assumption) (by assumption) (by assumption) ⟨by omega, by omega⟩ (by omega) (fun r4 e4 b4 => ?_)
  refine r_i2l (pc := 7) dX12_frees_7 (by first | assumption | omega) ?_
  refine r_sipush (pc := 8) (n := 9999) dX12_frees_8 (by decide) ?_
  refine c_X12_108 (pc := 11) rfl dX12_frees_11 (by omega) (Nat.le_of_ble_eq_true rfl) ?_
  refine m_X12_bound (d - 1) (by omega) (by assumption) (by omega) (by omega) (fun r11 e11 b11 => ?_)
  refine r_istore3 (pc := 14) dX12_frees_14 rfl ?_
  refine r_aload_n (pc := 15) dX12_frees_15 rfl ?_
  refine r_iload_n (pc := 16) dX12_frees_16 rfl ?_
  refine r_iload_n (pc := 17) dX12_frees_17 rfl ?_
  refine r_iconst (pc := 18) (n := 1) dX12_frees_18 ?_
  refine c_X12_122 (pc := 19) rfl dX12_frees_19 (by first | assumption | rfl) (by omega) (Nat.le_of_ble_eq_true rfl) ?_
  refine m_X12_slopeOf (d - 1) (by omega) (by assumption) (by assumption) (by assumption) ⟨by omega, by omega⟩ (by omega) (fun r19 e19 b19 => ?_)
  refine r_i2l (pc := 22) dX12_frees_22 (by first | assumption | omega) ?_
  refine r_sipush (pc := 23) (n := 9999) dX12_frees_23 (by decide) ?_
  refine c_X12_108 (pc := 26) rfl dX12_frees_26 (by omega) (Nat.le_of_ble_eq_true rfl) ?_
  refine m_X12_bound (d - 1) (by omega) (by assumption) (by omega) (by omega) (fun r26 e26 b26 => ?_)
  refine r_istore4 (pc := 29) dX12_frees_29 rfl ?_
  refine r_aload_n (pc := 31) dX12_frees_31 rfl ?_
  refine h_X12_7 (pc := 32) rfl dX12_frees_32 ?_
  refine r_iload_n (pc := 35) dX12_frees_35 rfl ?_
  refine r_bipush (pc := 36) (n := 76) dX12_frees_36 (by decide) ?_
  refine r_iload_n (pc := 38) dX12_frees_38 rfl ?_
  refine c_X12_70 (pc := 39) rfl dX12_frees_39 (by omega) (Nat.le_of_ble_eq_true rfl) ?_
  refine m_X12_at (d - 1) (by omega) (by assumption)  (fun r39 e39 => ?_)
  subst e39
  refine r_iload_n (pc := 42) dX12_frees_42 rfl ?_
  refine f_iast (pc := 43) dX12_frees_43 (n := 660) (by assumption) (by first | assumption | rfl) (by omega) (by omega) (by omega) (by omega) (fun hw43 => ?_)
  refine r_aload_n (pc := 44) dX12_frees_44 rfl ?_
  refine h_X12_7 (pc := 45) rfl dX12_frees_45 ?_
  refine r_iload_n (pc := 48) dX12_frees_48 rfl ?_
  refine r_bipush (pc := 49) (n := 100) dX12_frees_49 (by decide) ?_
  refine r_iload_n (pc := 51) dX12_frees_51 rfl ?_
  refine c_X12_70 (pc := 52) rfl dX12_frees_52 (by omega) (Nat.le_of_ble_eq_true rfl) ?_
  refine m_X12_at (d - 1) (by omega) (by assumption)  (fun r52 e52 => ?_)
  subst e52
  refine r_iload (pc := 55) dX12_frees_55 rfl ?_
  refine f_iast (pc := 57) dX12_frees_57 (n := 660) (by assumption) (by first | assumption | rfl) (by omega) (by omega) (by omega) (by omega) (fun hw57 => ?_)
  refine r_aload_n (pc := 58) dX12_frees_58 rfl ?_
  refine h_X12_7 (pc := 59) rfl dX12_frees_59 ?_
  refine r_iload_n (pc := 62) dX12_frees_62 rfl ?_
  refine r_bipush (pc := 63) (n := 52) dX12_frees_63 (by decide) ?_
  refine r_iload_n (pc := 65) dX12_frees_65 rfl ?_
  refine c_X12_70 (pc := 66) rfl dX12_frees_66 (by omega) (Nat.le_of_ble_eq_true rfl) ?_
  refine m_X12_at (d - 1) (by omega) (by assumption)  (fun r66 e66 => ?_)
  subst e66
  refine r_iconst (pc := 69) (n := 0) dX12_frees_69 ?_
  refine f_iast (pc := 70) dX12_frees_70 (n := 660) (by assumption) (by first | assumption | rfl) (by omega) (by omega) (by omega) (by omega) (fun hw70 => ?_)
  exact f_vret (pc := 71) dX12_frees_71 rfl (by assumption) (by
      have A := (((mx_up (w := w) (q := q) (r := 4) (k := k) (i := 128 * q + 76 + k) (x := r11) (by omega) (by omega) (by omega)).st 5 k r26).st 3 k 0)
      have B := (mx_up (w := up w 386 (128 * q + 76 + k) r11) (q := q) (r := 5) (k := k) (i := 128 * q + 100 + k) (x := r26) (by omega) (by omega) (by omega)).st 3 k 0
      have C := mx_up (w := up (up w 386 (128 * q + 76 + k) r11) 386 (128 * q + 100 + k) r26) (q := q) (r := 3) (k := k) (i := 128 * q + 52 + k) (x := 0) (by omega) (by omega) (by omega)
      have D := C.tr (B.tr A)
      refine hQ _ (((FQ_up (by omega)).tr (FQ_up (by omega))).tr (FQ_up (by omega))) ?_ (by assumption)
      have E := D.ceq (by rw [D 0 0 (by omega), stX_0 (by omega), stX_0 (by omega), stX_0 (by omega)]; omega)
      rw [e11, e4, e26, e19] at E ⊢
      exact E)
set_option maxRecDepth 8000 in
theorem m_X12_outside {Q : Option AV → Wd → Prop} {w : Wd} (d : Nat) {q a b : Int} (hd : 2 ≤ d) (hw : WR w) (hq : 0 ≤ q ∧ q ≤ 3) (hI : CI (mx w q)) (hab : a ≤ b + 1) (ha : R32 a) (hb : R32 b) (hQ : ∀ r, r = mx w q 0 0 - (kbX (mx w q) (b + 1) - kbX (mx w q) a) → 0 ≤ r → r ≤ 24 → Q (some (vI r)) w) : M mX12_outside (Rm d) [vR (some 385), vI q, vI a, vI b] (fl w) (lQ Q) := by
  have hn := hI.1
  have kb0 := kbX_KB hI.1.1 a
  have kb1 := kbX_KB hI.1.1 (b + 1)
  have km := kbX_mono hI.1.1 hab
  refine f_mofv (L0 := [some (vR (some 385)), some (vI q), some (vI a), some (vI b), none, none]) rfl (Nat.le_of_ble_eq_true rfl) rfl ?_
  have cut38 : ∀ n0 : Nat, (∀ n1 : Nat, n1 < n0 → ∀ k : Int, (mx w q 0 0 - k).toNat = n1 → 0 ≤ k → k ≤ mx w q 0 0 → ∀ x : Int, x = cutP k (kbX (mx w q) a) (kbX (mx w q) (b + 1)) → 0 ≤ x → x ≤ k → V mX12_outside (Rm d) 0 0 6 [some (vR (some 385)), some (vI q), some (vI a), some (vI b), some (vI x), some (vI k)] [] (fl w) (lQ Q)) → ∀ k : Int, (mx w q 0 0 - k).toNat = n0 → 0 ≤ k → k < mx w q 0 0 → ∀ x z y : Int, x + z = cutP (k + 1) (kbX (mx w q) a) (kbX (mx w q) (b + 1)) → 0 ≤ x → x ≤ k → (z = 0 ∨ z = 1) → V mX12_outside (Rm d) 0 0 38 [some (vR (some 385)), some (vI q), some (vI a), some (vI b), some (vI y), some (vI k)] [vI z, vI x] (fl w) (lQ Q) := by
    intro n0 ih k hm hk0 hkn x z y hz hx0 hx1 hz1
    refine r_iadd (pc := 38) dX12_outside_38 ?_
    refine r_istore4 (pc := 39) dX12_outside_39 rfl ?_
    refine r_iinc5 (pc := 41) dX12_outside_41 rfl ?_
    refine r_goto (pc := 44) (tgt := 6) dX12_outside_44 rfl ?_
    exact ih _ (by omega) (k + 1) rfl (by omega) (by omega) _ hz (by omega) (by omega)
  have loop6 : ∀ n0 : Nat, ∀ k : Int, (mx w q 0 0 - k).toNat = n0 → 0 ≤ k → k ≤ mx w q 0 0 → ∀ x : Int, x = cutP k (kbX (mx w q) a) (kbX (mx w q) (b + 1)) → 0 ≤ x → x ≤ k → V mX12_outside (Rm d) 0 0 6 [some (vR (some 385)), some (vI q), some (vI a), some (vI b), some (vI x), some (vI k)] [] (fl w) (lQ Q) := by
    refine ind_lt ?_
    intro n0 ih k hm hk0 hkn x hx hx0 hx1
    refine r_iload (pc := 6) dX12_outside_6 rfl ?_
    refine r_aload_n (pc := 8) dX12_outside_8 rfl ?_
    refine r_iload_n (pc := 9) dX12_outside_9 rfl ?_
    refine c_X12_78 (pc := 10) rfl dX12_outside_10 (by first | assumption | rfl) (by omega) (Nat.le_of_ble_eq_true rfl) ?_
    refine m_X12_many (d - 1) (by omega) (by assumption) (by omega) (fun r10 e10 b10 => ?_)
    refine r_icmpge (pc := 13) (tgt := 47) dX12_outside_13 rfl (by omega) (by omega) (fun h13 => ?_) (fun h13 => ?_)
    · refine r_iload (pc := 47) dX12_outside_47 rfl ?_
      exact f_iret (pc := 49) dX12_outside_49 rfl (by assumption) (hQ _ (by rw [hx, show k = mx w q 0 0 by omega]; exact out_n hI hab) hx0 (by omega))
    refine r_iload (pc := 16) dX12_outside_16 rfl ?_
    refine r_aload_n (pc := 18) dX12_outside_18 rfl ?_
    refine r_iload_n (pc := 19) dX12_outside_19 rfl ?_
    refine r_iload (pc := 20) dX12_outside_20 rfl ?_
    refine c_X12_82 (pc := 22) rfl dX12_outside_22 (by first | assumption | rfl) (by omega) (Nat.le_of_ble_eq_true rfl) ?_
    refine m_X12_frame (d - 1) (by omega) (by assumption) (by omega) (by omega) (fun r22 e22 b22 => ?_)
    refine r_iload_n (pc := 25) dX12_outside_25 rfl ?_
    refine r_iload_n (pc := 26) dX12_outside_26 rfl ?_
    refine c_X12_66 (pc := 27) rfl dX12_outside_27 (by omega) (Nat.le_of_ble_eq_true rfl) ?_
    refine m_X12_in (d - 1) (by omega) (by assumption) (by omega) (by omega) (by omega) (fun r27 e27 b27 => ?_)
    rw [e22] at e27
    have i27 := b2i_i e27
    refine r_ifeq (pc := 30) (tgt := 37) dX12_outside_30 rfl (by omega) (fun h30 => ?_) (fun h30 => ?_)
    · refine r_iconst (pc := 37) (n := 1) dX12_outside_37 ?_
      exact cut38 n0 ih k hm hk0 (by omega) x 1 _ (by rw [out_s hI hab hk0 (by omega), if_neg (by omega), hx]) hx0 hx1 (by omega)
    refine r_iconst (pc := 33) (n := 0) dX12_outside_33 ?_
    refine r_goto (pc := 34) (tgt := 38) dX12_outside_34 rfl ?_
    exact cut38 n0 ih k hm hk0 (by omega) x 0 _ (by rw [out_s hI hab hk0 (by omega), if_pos (by omega), hx]) hx0 hx1 (by omega)
  refine r_iconst (pc := 0) (n := 0) dX12_outside_0 ?_
  refine r_istore4 (pc := 1) dX12_outside_1 rfl ?_
  refine r_iconst (pc := 3) (n := 0) dX12_outside_3 ?_
  refine r_istore5 (pc := 4) dX12_outside_4 rfl ?_
  exact loop6 _ 0 rfl (by omega) (by omega) _ (by unfold cutP; rw [if_pos (by have := kb0.1; omega)]) (by omega) (by omega)
set_option maxRecDepth 8000 in
theorem m_X12_isRange {Q : Option AV → Wd → Prop} {w : Wd} (d : Nat) {q a b : Int} (hd : 2 ≤ d) (hw : WR w) (hq : R32 q) (ha : R32 a) (hb : R32 b) (hQ : ∀ r, r = b2i ((0 ≤ q ∧ q ≤ 3) ∧ (0 ≤ a ∧ a ≤ 960) ∧ (a ≤ b ∧ b ≤ 960) ∧ 0 < mx w q 0 0) → (r = 0 ∨ r = 1) → Q (some (vI r)) w) : M mX12_isRange (Rm d) [vR (some 385), vI q, vI a, vI b] (fl w) (lQ Q) := by
  refine f_mofv (L0 := [some (vR (some 385)), some (vI q), some (vI a), some (vI b)]) rfl (Nat.le_of_ble_eq_true rfl) rfl ?_
  refine r_iload_n (pc := 0) dX12_isRange_0 rfl ?_
  refine c_X12_74 (pc := 1) rfl dX12_isRange_1 (by omega) (Nat.le_of_ble_eq_true rfl) ?_
  refine m_X12_isCurve (d - 1) (by omega) (by assumption) (by omega) (fun r1 e1 b1 => ?_)
  have i1 := b2i_i e1
  refine r_ifeq (pc := 4) (tgt := 41) dX12_isRange_4 rfl (by omega) (fun h4 => ?_) (fun h4 => ?_)
  · refine r_iconst (pc := 41) (n := 0) dX12_isRange_41 ?_
    exact f_zret (pc := 42) dX12_isRange_42 rfl (by first | exact Or.inl rfl | exact Or.inr rfl | omega) (by assumption) (hQ _ (by first | exact b2i_n (by omega) | exact b2i_y (by omega)) (by omega))
  have hq3 : 0 ≤ q ∧ q ≤ 3 := by omega
  refine r_iload_n (pc := 7) dX12_isRange_7 rfl ?_
  refine r_iconst (pc := 8) (n := 0) dX12_isRange_8 ?_
  refine r_sipush (pc := 9) (n := 960) dX12_isRange_9 (by decide) ?_
  refine c_X12_66 (pc := 12) rfl dX12_isRange_12 (by omega) (Nat.le_of_ble_eq_true rfl) ?_
  refine m_X12_in (d - 1) (by omega) (by assumption) (by omega) (by omega) (by omega) (fun r12 e12 b12 => ?_)
  have i12 := b2i_i e12
  refine r_ifeq (pc := 15) (tgt := 41) dX12_isRange_15 rfl (by omega) (fun h15 => ?_) (fun h15 => ?_)
  · refine r_iconst (pc := 41) (n := 0) dX12_isRange_41 ?_
    exact f_zret (pc := 42) dX12_isRange_42 rfl (by first | exact Or.inl rfl | exact Or.inr rfl | omega) (by assumption) (hQ _ (by first | exact b2i_n (by omega) | exact b2i_y (by omega)) (by omega))
  refine r_iload_n (pc := 18) dX12_isRange_18 rfl ?_
  refine r_iload_n (pc := 19) dX12_isRange_19 rfl ?_
  refine r_sipush (pc := 20) (n := 960) dX12_isRange_20 (by decide) ?_
  refine c_X12_66 (pc := 23) rfl dX12_isRange_23 (by omega) (Nat.le_of_ble_eq_true rfl) ?_
  refine m_X12_in (d - 1) (by omega) (by assumption) (by omega) (by omega) (by omega) (fun r23 e23 b23 => ?_)
  have i23 := b2i_i e23
  refine r_ifeq (pc := 26) (tgt := 41) dX12_isRange_26 rfl (by omega) (fun h26 => ?_) (fun h26 => ?_)
  · refine r_iconst (pc := 41) (n := 0) dX12_isRange_41 ?_
    exact f_zret (pc := 42) dX12_isRange_42 rfl (by first | exact Or.inl rfl | exact Or.inr rfl | omega) (by assumption) (hQ _ (by first | exact b2i_n (by omega) | exact b2i_y (by omega)) (by omega))
  refine r_aload_n (pc := 29) dX12_isRange_29 rfl ?_
  refine r_iload_n (pc := 30) dX12_isRange_30 rfl ?_
  refine c_X12_78 (pc := 31) rfl dX12_isRange_31 (by first | assumption | rfl) (by omega) (Nat.le_of_ble_eq_true rfl) ?_
  refine m_X12_many (d - 1) (by omega) (by assumption) (by omega) (fun r31 e31 b31 => ?_)
  refine r_ifle (pc := 34) (tgt := 41) dX12_isRange_34 rfl (by omega) (fun h34 => ?_) (fun h34 => ?_)
  · refine r_iconst (pc := 41) (n := 0) dX12_isRange_41 ?_
    exact f_zret (pc := 42) dX12_isRange_42 rfl (by first | exact Or.inl rfl | exact Or.inr rfl | omega) (by assumption) (hQ _ (by first | exact b2i_n (by omega) | exact b2i_y (by omega)) (by omega))
  refine r_iconst (pc := 37) (n := 1) dX12_isRange_37 ?_
  refine r_goto (pc := 38) (tgt := 42) dX12_isRange_38 rfl ?_
  exact f_zret (pc := 42) dX12_isRange_42 rfl (by first | exact Or.inl rfl | exact Or.inr rfl | omega) (by assumption) (hQ _ (by first | exact b2i_n (by omega) | exact b2i_y (by omega)) (by omega))
set_option maxRecDepth 8000 in
theorem m_X12_isBaking {Q : Option AV → Wd → Prop} {w : Wd} (d : Nat) {a b c : Int} (hd : 1 ≤ d) (hw : WR w) (ha : R32 a) (hb : R32 b) (hc : R32 c) (hQ : ∀ r, r = b2i ((0 ≤ a ∧ a ≤ 480) ∧ (a ≤ b ∧ b ≤ 480) ∧ 1 ≤ c ∧ c ≤ 480) → (r = 0 ∨ r = 1) → Q (some (vI r)) w) : M mX12_isBaking (Rm d) [vI a, vI b, vI c] (fl w) (lQ Q) := by
  refine f_mofv (L0 := [some (vI a), some (vI b), some (vI c)]) rfl (Nat.le_of_ble_eq_true rfl) rfl ?_
  refine r_iload_n (pc := 0) dX12_isBaking_0 rfl ?_
  refine r_iconst (pc := 1) (n := 0) dX12_isBaking_1 ?_
  refine r_sipush (pc := 2) (n := 480) dX12_isBaking_2 (by decide) ?_
  refine c_X12_66 (pc := 5) rfl dX12_isBaking_5 (by omega) (Nat.le_of_ble_eq_true rfl) ?_
  refine m_X12_in (d - 1) (by omega) (by assumption) (by omega) (by omega) (by omega) (fun r5 e5 b5 => ?_)
  have i5 := b2i_i e5
  refine r_ifeq (pc := 8) (tgt := 37) dX12_isBaking_8 rfl (by omega) (fun h8 => ?_) (fun h8 => ?_)
  · refine r_iconst (pc := 37) (n := 0) dX12_isBaking_37 ?_
    exact f_zret (pc := 38) dX12_isBaking_38 rfl (by first | exact Or.inl rfl | exact Or.inr rfl | omega) (by assumption) (hQ _ (by first | exact b2i_n (by omega) | exact b2i_y (by omega)) (by omega))
  refine r_iload_n (pc := 11) dX12_isBaking_11 rfl ?_
  refine r_iload_n (pc := 12) dX12_isBaking_12 rfl ?_
  refine r_sipush (pc := 13) (n := 480) dX12_isBaking_13 (by decide) ?_
  refine c_X12_66 (pc := 16) rfl dX12_isBaking_16 (by omega) (Nat.le_of_ble_eq_true rfl) ?_
  refine m_X12_in (d - 1) (by omega) (by assumption) (by omega) (by omega) (by omega) (fun r16 e16 b16 => ?_)
  have i16 := b2i_i e16
  refine r_ifeq (pc := 19) (tgt := 37) dX12_isBaking_19 rfl (by omega) (fun h19 => ?_) (fun h19 => ?_)
  · refine r_iconst (pc := 37) (n := 0) dX12_isBaking_37 ?_
    exact f_zret (pc := 38) dX12_isBaking_38 rfl (by first | exact Or.inl rfl | exact Or.inr rfl | omega) (by assumption) (hQ _ (by first | exact b2i_n (by omega) | exact b2i_y (by omega)) (by omega))
  refine r_iload_n (pc := 22) dX12_isBaking_22 rfl ?_
  refine r_iconst (pc := 23) (n := 1) dX12_isBaking_23 ?_
  refine r_sipush (pc := 24) (n := 480) dX12_isBaking_24 (by decide) ?_
  refine c_X12_66 (pc := 27) rfl dX12_isBaking_27 (by omega) (Nat.le_of_ble_eq_true rfl) ?_
  refine m_X12_in (d - 1) (by omega) (by assumption) (by omega) (by omega) (by omega) (fun r27 e27 b27 => ?_)
  have i27 := b2i_i e27
  refine r_ifeq (pc := 30) (tgt := 37) dX12_isBaking_30 rfl (by omega) (fun h30 => ?_) (fun h30 => ?_)
  · refine r_iconst (pc := 37) (n := 0) dX12_isBaking_37 ?_
    exact f_zret (pc := 38) dX12_isBaking_38 rfl (by first | exact Or.inl rfl | exact Or.inr rfl | omega) (by assumption) (hQ _ (by first | exact b2i_n (by omega) | exact b2i_y (by omega)) (by omega))
  refine r_iconst (pc := 33) (n := 1) dX12_isBaking_33 ?_
  refine r_goto (pc := 34) (tgt := 38) dX12_isBaking_34 rfl ?_
  exact f_zret (pc := 38) dX12_isBaking_38 rfl (by first | exact Or.inl rfl | exact Or.inr rfl | omega) (by assumption) (hQ _ (by first | exact b2i_n (by omega) | exact b2i_y (by omega)) (by omega))
