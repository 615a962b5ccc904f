/-! what each call answers, and what it leaves -/
abbrev inC (q : Int) : Prop := 0 ≤ q ∧ q ≤ 3
def o_setKey (G : GS) (q f v : Int) : Int × GS := if ¬ inC q then (-1000000001, G) else if ¬ ((0 ≤ f ∧ f ≤ 480) ∧ -999 ≤ v ∧ v ≤ 999) then (-1000000002, G) else if finX (G.now.c q) f < 0 ∧ 24 ≤ G.now.c q 0 0 then (-1000000003, G) else if finX (G.now.c q) f < 0 then (G.now.c q 0 0 + 1, setC (recG G) q (insX (G.now.c q) (kbX (G.now.c q) f) (v5 f v 3 0 0))) else (G.now.c q 0 0, setC (recG G) q (stX (G.now.c q) 2 (finX (G.now.c q) f) v))
def o_removeKey (G : GS) (q f : Int) : Int × GS := if ¬ inC q then (-1000000001, G) else if finX (G.now.c q) f < 0 then (-1000000001, G) else (G.now.c q 0 0 - 1, setC (recG G) q (delX (G.now.c q) (finX (G.now.c q) f)))
def o_moveKey (G : GS) (q f t : Int) : Int × GS := if ¬ inC q then (-1000000001, G) else if finX (G.now.c q) f < 0 then (-1000000001, G) else if ¬ (0 ≤ t ∧ t ≤ 480) then (-1000000002, G) else if t ≠ f ∧ 0 ≤ finX (G.now.c q) t then (-1000000004, G) else (kbX (delX (G.now.c q) (finX (G.now.c q) f)) t, setC (recG G) q (movX (G.now.c q) (finX (G.now.c q) f) t))
def o_setMode (G : GS) (q f m : Int) : Int × GS := if ¬ inC q then (-1000000001, G) else if finX (G.now.c q) f < 0 then (-1000000001, G) else if ¬ (0 ≤ m ∧ m ≤ 6) then (-1000000002, G) else (G.now.c q 3 (finX (G.now.c q) f), setC (recG G) q (chmX (G.now.c q) (finX (G.now.c q) f) m))
def o_setSlopes (G : GS) (q f a b : Int) : Int × GS := if ¬ inC q then (-1000000001, G) else if finX (G.now.c q) f < 0 then (-1000000001, G) else if ¬ ((-9999 ≤ a ∧ a ≤ 9999) ∧ -9999 ≤ b ∧ b ≤ 9999) then (-1000000002, G) else (G.now.c q 3 (finX (G.now.c q) f), setC (recG G) q (stX (stX (stX (G.now.c q) 4 (finX (G.now.c q) f) a) 5 (finX (G.now.c q) f) b) 3 (finX (G.now.c q) f) 0))
def o_split (G : GS) (q f : Int) : Int × GS := if ¬ inC q then (-1000000001, G) else if kbX (G.now.c q) f < 1 ∨ G.now.c q 0 0 ≤ kbX (G.now.c q) f ∨ 0 ≤ finX (G.now.c q) f then (-1000000002, G) else if 24 ≤ G.now.c q 0 0 then (-1000000003, G) else (kbX (spY (G.now.c q) (kbX (G.now.c q) f)) f, setC (recG G) q (spX (G.now.c q) f (kbX (G.now.c q) f)))
def o_clear (G : GS) (q : Int) : Int × GS := if ¬ inC q then (-1000000001, G) else (G.now.c q 0 0, setC (recG G) q (stX (stX (stX (G.now.c q) 0 0 0) 0 1 0) 0 2 0))
def o_setExtrapolation (G : GS) (q a b : Int) : Int × GS := if ¬ inC q then (-1000000001, G) else if ¬ ((0 ≤ a ∧ a ≤ 4) ∧ 0 ≤ b ∧ b ≤ 4) then (-1000000002, G) else (10 * G.now.c q 0 1 + G.now.c q 0 2, setC (recG G) q (stX (stX (G.now.c q) 0 1 a) 0 2 b))
def o_keys (G : GS) (q : Int) : Int := if ¬ inC q then -1000000001 else G.now.c q 0 0
def o_rowOf (r : Nat) (G : GS) (q k : Int) : Int := if ¬ inC q then -1000000001 else if ¬ (0 ≤ k ∧ k < G.now.c q 0 0) then -1000000001 else G.now.c q r k
def o_slope (G : GS) (q k o : Int) : Int := if ¬ inC q then -1000000001 else if ¬ (0 ≤ k ∧ k < G.now.c q 0 0) then -1000000001 else slp (G.now.c q) k o
def o_value (G : GS) (q f : Int) : Int := if ¬ inC q then -1000000001 else if ¬ (0 ≤ f ∧ f ≤ 960) then -1000000002 else if G.now.c q 0 0 = 0 then -1000000005 else valS (G.now.c q) f
def o_undo (G : GS) : Int × GS := if G.k = 0 then (-1000000005, G) else (G.k - 1, undG G)
/-! curves alike stay alike -/
theorem stX_y {X : CP} {r : Nat} {j x : Int} : stX X r j x r j = x := if_pos ⟨rfl, rfl⟩
theorem stX_r {X : CP} {r p : Nat} {i j x : Int} (h : p ≠ r) : stX X r j x p i = X p i := if_neg (fun z => h z.1)
theorem stX_j {X : CP} {r p : Nat} {i j x : Int} (h : i ≠ j) : stX X r j x p i = X p i := if_neg (fun z => h z.2)
theorem CEV.st {X Y : CP} (e : CEV X Y) {r : Nat} (k x : Int) (h : 1 ≤ r) (h3 : r ≠ 3) : CEV (stX X r k x) (stX Y r k x) := by
  obtain ⟨e0, e1, e2, e3⟩ := e
  refine ⟨by rw [stX_r (by omega), stX_r (by omega)]; exact e0, by rw [stX_r (by omega), stX_r (by omega)]; exact e1, by rw [stX_r (by omega), stX_r (by omega)]; exact e2, fun j a b => ?_⟩
  rw [stX_r (by omega)] at b
  have g := e3 j a b
  unfold stX
  grind
theorem CEV.st3 {X Y : CP} (e : CEV X Y) {k m : Int} (h : m = 0 → X 4 k = Y 4 k ∧ X 5 k = Y 5 k) : CEV (stX X 3 k m) (stX Y 3 k m) := by
  obtain ⟨e0, e1, e2, e3⟩ := e
  refine ⟨by rw [stX_r (by omega), stX_r (by omega)]; exact e0, by rw [stX_r (by omega), stX_r (by omega)]; exact e1, by rw [stX_r (by omega), stX_r (by omega)]; exact e2, fun j a b => ?_⟩
  rw [stX_r (by omega)] at b
  have g := e3 j a b
  unfold stX
  grind
theorem CEV.st0 {X Y : CP} (e : CEV X Y) {i : Int} (x : Int) (h : i ≠ 0) : CEV (stX X 0 i x) (stX Y 0 i x) := by
  obtain ⟨e0, e1, e2, e3⟩ := e
  refine ⟨by rw [stX_j (by omega), stX_j (by omega)]; exact e0, ?_, ?_, fun j a b => ?_⟩
  · unfold stX; grind
  · unfold stX; grind
  · rw [stX_j (by omega)] at b
    have g := e3 j a b
    unfold stX
    grind
theorem CEV.clr {X Y : CP} (e : CEV X Y) : CEV (stX X 0 0 0) (stX Y 0 0 0) := ⟨rfl, by rw [stX_j (by omega), stX_j (by omega)]; exact e.2.1, by rw [stX_j (by omega), stX_j (by omega)]; exact e.2.2.1, fun j a b => by
  have b : j < 0 := b
  omega⟩
theorem CEV.chm {X Y : CP} (e : CEV X Y) {k m : Int} (hk : 0 ≤ k ∧ k < X 0 0) : CEV (chmX X k m) (chmX Y k m) := by
  have g := e.2.2.2 k hk.1 hk.2
  unfold chmX
  rw [← g.2.2.1, ← slp_cg e hk, ← slp_cg e hk]
  by_cases h : m = 0 ∧ X 3 k ≠ 0
  · rw [if_pos h, if_pos h]
    refine ((e.st k _ (by omega) (by omega)).st k _ (by omega) (by omega)).st3 (fun _ => ⟨?_, ?_⟩)
    · rw [stX_r (by omega), stX_y, stX_r (by omega), stX_y]
    · rw [stX_y, stX_y]
  · rw [if_neg h, if_neg h]
    exact e.st3 (fun z => g.2.2.2 (by omega))
theorem CEV.fre {X Y : CP} (e : CEV X Y) {k : Int} (hk : 0 ≤ k ∧ k < X 0 0) : CEV (freX X k) (freX Y k) := by
  have g := e.2.2.2 k hk.1 hk.2
  unfold freX
  rw [← g.2.2.1]
  by_cases h : X 3 k = 6
  · rw [if_pos h, if_pos h]; exact e
  · rw [if_neg h, if_neg h]; exact e.chm hk
theorem CEV.mov {X Y : CP} (e : CEV X Y) {k t : Int} (hk : 0 ≤ k ∧ k < X 0 0) : CEV (movX X k t) (movX Y k t) := by
  have g := e.2.2.2 k hk.1 hk.2
  have d := delX_cv e hk.1
  have K := kbX_KB (X := delX X k) (by rw [delX_n]; omega) t
  unfold movX
  rw [← kbX_cg d]
  exact insX_cv d ⟨K.1, K.2.1⟩ rfl g.2.1 g.2.2.1 g.2.2.2
theorem CEV.spl {X Y : CP} (hX : CI Y) (e : CEV X Y) {f b : Int} (hb : 1 ≤ b ∧ b < X 0 0) : CEV (spX X f b) (spX Y f b) := by
  have e1 := e.fre (k := b - 1) ⟨by omega, by omega⟩
  have e2 : CEV (spY X b) (spY Y b) := e1.fre ⟨by omega, by rw [freX_n]; omega⟩
  have K := kbX_KB (X := spY X b) (by show 0 ≤ freX (freX X (b - 1)) b 0 0; rw [freX_n, freX_n]; omega) f
  have V : ∀ t, valS X t = valS Y t := fun t => (valS_cg hX e.sy t).symm
  have g := e.2.2.2 (b - 1) (by omega) (by omega)
  unfold spX spH spS
  rw [← kbX_cg e2, V, V, V, ← g.2.2.1, ← g.2.1]
  exact insX_cv e2 ⟨K.1, K.2.1⟩ rfl rfl rfl (fun _ => ⟨rfl, rfl⟩)
theorem CEV.dl {X Y : CP} (e : CEV X Y) {b i : Int} (hi : 0 ≤ i ∧ i ≤ b) : CEV (dlX X b i) (dlX Y b i) := by
  obtain ⟨e0, e1, e2, e3⟩ := e
  refine ⟨by show X 0 0 - i = Y 0 0 - i; rw [e0], e1, e2, fun j a c => ?_⟩
  have c : j < X 0 0 - i := c
  have lo : ∀ (Z : CP) (r : Nat), 1 ≤ r → j < b - i → dlX Z b i r j = Z r j := fun Z r h z => by
    unfold dlX
    rw [if_neg (by omega), if_pos z]
  have hi2 : ∀ (Z : CP) (r : Nat), 1 ≤ r → ¬ j < b - i → dlX Z b i r j = Z r (j + i) := fun Z r h z => by
    unfold dlX
    rw [if_neg (by omega), if_neg z]
  by_cases z : j < b - i
  · rw [lo X 1 (by omega) z, lo X 2 (by omega) z, lo X 3 (by omega) z, lo X 4 (by omega) z, lo X 5 (by omega) z, lo Y 1 (by omega) z, lo Y 2 (by omega) z, lo Y 3 (by omega) z, lo Y 4 (by omega) z, lo Y 5 (by omega) z]
    exact e3 j a (by omega)
  · rw [hi2 X 1 (by omega) z, hi2 X 2 (by omega) z, hi2 X 3 (by omega) z, hi2 X 4 (by omega) z, hi2 X 5 (by omega) z, hi2 Y 1 (by omega) z, hi2 Y 2 (by omega) z, hi2 Y 3 (by omega) z, hi2 Y 4 (by omega) z, hi2 Y 5 (by omega) z]
    exact e3 (j + i) (by omega) (by omega)
theorem CEV.inn {X Y : CP} (e : CEV X Y) (h0 : 0 ≤ X 0 0) {g : Int → Int} {f d : Int} : ∀ i : Nat, CEV (inN X g f d i) (inN Y g f d i) ∧ 0 ≤ inN X g f d i 0 0
  | 0 => ⟨e, h0⟩
  | i + 1 => by
    obtain ⟨a, b⟩ := CEV.inn e h0 (g := g) (f := f) (d := d) i
    have K := kbX_KB b (f + i * d)
    rw [inN_s, inN_s, ← kbX_cg a]
    exact ⟨insX_cv a ⟨K.1, K.2.1⟩ rfl rfl rfl (fun _ => ⟨rfl, rfl⟩), by rw [insX_n]; omega⟩
theorem fin_KB {X : CP} {t k r : Int} (hn : 0 ≤ X 0 0) (h : KB (X 0 0) (X 1) t k) (hr : r = if k < X 0 0 ∧ X 1 k = t then k else -1) : r = finX X t := by
  rw [kbX_of hn h] at hr
  exact hr
