/-! what the other calls answer -/
def exA (X : CP) (a o : Int) : Nat → Int × Int
  | 0 => (a, valS X a)
  | m + 1 => if (o = 0 ∧ valS X (a + m + 1) < (exA X a o m).2) ∨ (o ≠ 0 ∧ (exA X a o m).2 < valS X (a + m + 1)) then (a + m + 1, valS X (a + m + 1)) else exA X a o m
def csA (X : CP) (l a : Int) : Nat → Int
  | 0 => 0
  | m + 1 => csA X l a m + (if (valS X (a + m) < 64 * l ∧ ¬ valS X (a + m + 1) < 64 * l) ∨ (¬ valS X (a + m) < 64 * l ∧ valS X (a + m + 1) < 64 * l) then 1 else 0)
def meA (X : CP) (a : Int) : Nat → Int
  | 0 => 0
  | m + 1 => meA X a m + valS X (a + m)
def o_extreme (G : GS) (q a b o : Int) : Int := if ¬ inC q then -1000000001 else if ¬ (0 ≤ a ∧ a ≤ b ∧ b ≤ 960) then -1000000002 else if G.now.c q 0 0 = 0 then -1000000005 else (exA (G.now.c q) a o (b - a).toNat).1
def o_crossings (G : GS) (q a b l : Int) : Int := if ¬ inC q then -1000000001 else if ¬ ((0 ≤ a ∧ a ≤ b ∧ b ≤ 960) ∧ -999 ≤ l ∧ l ≤ 999) then -1000000002 else if G.now.c q 0 0 = 0 then -1000000005 else csA (G.now.c q) l a (b - a).toNat
def o_units (G : GS) (q f : Int) : UInt32 := if inC q ∧ (0 ≤ f ∧ f ≤ 960) ∧ G.now.c q 0 0 ≠ 0 then FP.fdiv (FP.i2f (Int32.ofInt (valS (G.now.c q) f))) (1115684864 : UInt32) else FP.fconst0
def o_mean (G : GS) (q a b : Int) : UInt64 := if inC q ∧ (0 ≤ a ∧ a ≤ b ∧ b ≤ 960) ∧ G.now.c q 0 0 ≠ 0 then FP.ddiv (FP.l2d (Int64.ofInt (meA (G.now.c q) a (b - a + 1).toNat))) (FP.dmul (4634204016564240384 : UInt64) (FP.i2d (Int32.ofInt (b - a + 1)))) else FP.dconst0
def setM (G : GS) (n : Int) (s g : Int → Int) : GS := ((G.now.c, n, s, g, G.now.f), G.2)
def setF (G : GS) (e : EE) : GS := ((G.now.c, G.now.n, G.now.s, G.now.g, e), G.2)
def setT (G : GS) (len : Int) (T : Int → Int) : GS := (G.now, G.k, G.past, len, T)
def o_addPoint (G : GS) (a b : Int) : Int × GS := if ¬ ((0 ≤ a ∧ a ≤ 480) ∧ (0 ≤ b ∧ b ≤ 480) ∧ (G.now.n = 0 ∨ (a > G.now.s (G.now.n - 1) ∧ b > G.now.g (G.now.n - 1)))) then (-1000000002, G) else if 8 ≤ G.now.n then (-1000000003, G) else (G.now.n + 1, setM (recG G) (G.now.n + 1) (updI G.now.s G.now.n a) (updI G.now.g G.now.n b))
def o_clearMap (G : GS) : Int × GS := (G.now.n, setM (recG G) 0 G.now.s G.now.g)
def snF (G : GS) (f : Int) : Int := sndS G.now.n G.now.s G.now.g f
def o_mapped (G : GS) (f : Int) : Int := if 0 ≤ f ∧ f ≤ 480 then snF G f else -1000000002
abbrev rtO (X : CP) (F : Int → Int) : Prop := ∀ k : Nat, k < (X 0 0).toNat → (0 ≤ F (X 1 k) ∧ F (X 1 k) ≤ 480) ∧ (0 < k → F (X 1 ((k : Int) - 1)) < F (X 1 k))
def chC (X : CP) (F : Int → Int) : Nat → Int
  | 0 => 0
  | m + 1 => chC X F m + (if F (X 1 m) = X 1 m then 0 else 1)
def rtX (X : CP) (S : SS) : CP := retX X S.n S.s S.g (fun j => sndS S.n S.s S.g (X 1 j)) (X 0 0)
def o_retime (G : GS) (q : Int) : Int × GS := if ¬ inC q then (-1000000001, G) else if ¬ rtO (G.now.c q) (snF G) then (-1000000004, G) else (chC (G.now.c q) (snF G) (G.now.c q 0 0).toNat, setC (recG G) q (rtX (G.now.c q) G.now))
def mixS (G : GS) (f : Int) : Int := G.now.f.2 (fun c b => valS (G.now.c c) (max 0 (f - b)))
def ouN (X : CP) (a b : Int) : Int := X 0 0 - (kbX X (b + 1) - kbX X a)
def bkX (X : CP) (g : Int → Int) (a b e : Int) : CP := inN (dlX X (kbX X (b + 1)) (kbX X (b + 1) - kbX X a)) g a e ((b - a) / e + 1).toNat
def rnV (x : Int) : Int := lim (rndW x 64) 999
def o_bake (G : GS) (q a b e : Int) : Int × GS := if ¬ inC q then (-1000000001, G) else if ¬ ((0 ≤ a ∧ a ≤ b ∧ b ≤ 480) ∧ 1 ≤ e ∧ e ≤ 480) then (-1000000002, G) else if G.now.c q 0 0 = 0 then (-1000000004, G) else if 24 < ouN (G.now.c q) a b + ((b - a) / e + 1) then (-1000000003, G) else (ouN (G.now.c q) a b + ((b - a) / e + 1), setC (recG G) q (bkX (G.now.c q) (fun i => rnV (valS (G.now.c q) (a + i * e))) a b e))
def o_bakeFormula (G : GS) (q a b e : Int) : Int × GS := if ¬ inC q then (-1000000001, G) else if ¬ ((0 ≤ a ∧ a ≤ b ∧ b ≤ 480) ∧ 1 ≤ e ∧ e ≤ 480) then (-1000000002, G) else if 24 < ouN (G.now.c q) a b + ((b - a) / e + 1) then (-1000000003, G) else (ouN (G.now.c q) a b + ((b - a) / e + 1), setC (recG G) q (bkX (G.now.c q) (fun i => rnV (mixS G (a + i * e))) a b e))
def o_polyline (G : GS) (q a b t i : Int) : Int := if ¬ inC q then -1000000001 else if ¬ ((0 ≤ a ∧ a ≤ 960) ∧ (a + 1 ≤ b ∧ b ≤ a + 40 ∧ b ≤ 960) ∧ (0 ≤ t ∧ t ≤ 9999) ∧ -1 ≤ i) then -1000000002 else if G.now.c q 0 0 = 0 then -1000000004 else plS (fun j => valS (G.now.c q) (a + j)) t (b - a) i a
def o_decimate (G : GS) (q t : Int) : Int × GS := if ¬ inC q then (-1000000001, G) else if ¬ (0 ≤ t ∧ t ≤ 9999) then (-1000000002, G) else (G.now.c q 0 0 - decX (G.now.c q) t 0 0, setC (recG G) q (decX (G.now.c q) t))
def o_append (G : GS) (l : Int) : Int × GS := if ¬ (0 ≤ l ∧ l ≤ 127) then (-1000000002, G) else if 120 ≤ G.len then (-1000000003, G) else (G.len + 1, setT G (G.len + 1) (updI G.T G.len l))
def o_clearText (G : GS) : Int × GS := (G.len, setT G 0 G.T)
def fltS (r : PR) : Int := match r with
  | .inl q => q
  | .inr _ => -1000000005
def fltC (r : Int ⊕ List K3) : Int := match r with
  | .inl q => q
  | .inr _ => -1000000005
def o_fault (G : GS) (o : Int) : Int := if o = 0 then fltC (crS G.T G.len) else fltS (prsS G.T G.len)
def rdX (X : CP) (L : List K3) : CP := fun r j => if r = 0 then (if j = 0 then L.length else X 0 j) else match L[j.toNat]? with
  | some x => if r = 1 then x.1 else if r = 2 then x.2.1 else if r = 3 then x.2.2 else 0
  | none => 0
def rdC (G : GS) (q : Int) (r : Int ⊕ List K3) : Int × GS := match r with
  | .inl _ => (-1000000002, G)
  | .inr L => (L.length, setC (recG G) q (rdX (G.now.c q) L))
def o_readCurve (G : GS) (q : Int) : Int × GS := if ¬ inC q then (-1000000001, G) else rdC G q (crS G.T G.len)
def rdF (G : GS) (r : PR) : Int × GS := match r with
  | .inl _ => (-1000000002, G)
  | .inr p => (lfs p.2.1, setF (recG G) p.2)
def o_readFormula (G : GS) : Int × GS := rdF G (prsS G.T G.len)
def o_mix (G : GS) (f : Int) : Int := if 0 ≤ f ∧ f ≤ 960 then mixS G f else -1000000002
def ckA (G : GS) (h : Int) : Nat → Int
  | 0 => h
  | m + 1 => 31 * ckA G h m + mixS G (60 * m)
def o_checksum (G : GS) : Int := ckA G (mapH (curH (curH (curH (curH 23 (G.now.c 0)) (G.now.c 1)) (G.now.c 2)) (G.now.c 3)) G.now.n G.now.s G.now.g G.now.n.toNat) 17
/-! numbers of curves alike -/
theorem exA_cg {X Y : CP} (hI : CI X) (e : CEV X Y) (a o : Int) : ∀ m : Nat, exA X a o m = exA Y a o m
  | 0 => by unfold exA; rw [valS_cg hI e]
  | m + 1 => by unfold exA; rw [exA_cg hI e a o m, valS_cg hI e]
theorem csA_cg {X Y : CP} (hI : CI X) (e : CEV X Y) (l a : Int) : ∀ m : Nat, csA X l a m = csA Y l a m
  | 0 => rfl
  | m + 1 => by unfold csA; rw [csA_cg hI e l a m, valS_cg hI e, valS_cg hI e]
theorem meA_cg {X Y : CP} (hI : CI X) (e : CEV X Y) (a : Int) : ∀ m : Nat, meA X a m = meA Y a m
  | 0 => rfl
  | m + 1 => by unfold meA; rw [meA_cg hI e a m, valS_cg hI e]
theorem plS_cg {X Y : CP} (hI : CI X) (e : CEV X Y) (a t n i : Int) : plS (fun j => valS X (a + j)) t n i a = plS (fun j => valS Y (a + j)) t n i a := by
  rw [show (fun j => valS X (a + j)) = fun j => valS Y (a + j) from funext fun j => valS_cg hI e _]
theorem decS_n0 {s : Int → Int} {t a b : Int} : ∀ (m : Nat) (Y : CP), CI Y → CI (decS s t a b m Y)
  | 0, Y, h => h
  | m + 1, Y, h => by
    unfold decS
    split
    · rename_i z
      refine decS_n0 m _ (CI_del h ⟨by omega, ?_⟩)
      have := chS_in (g := fun k => erS (delX Y k) s a b) (t := t) (Y 0 0 - 2).toNat
      have n := h.1
      unfold dcS at z ⊢
      omega
    · exact h
theorem CI_dec {X : CP} (h : CI X) (t : Int) : CI (decX X t) := decS_n0 24 X h
theorem decS_cv {s : Int → Int} {t a b : Int} : ∀ (m : Nat) (Y Z : CP), CI Y → CEV Y Z → CEV (decS s t a b m Y) (decS s t a b m Z)
  | 0, Y, Z, _, e => e
  | m + 1, Y, Z, h, e => by
    unfold decS
    rw [← dcS_cg h e]
    split
    · rename_i z
      refine decS_cv m _ _ (CI_del h ⟨by omega, ?_⟩) (delX_cv e (by omega))
      have := chS_in (g := fun k => erS (delX Y k) s a b) (t := t) (Y 0 0 - 2).toNat
      have n := h.1
      unfold dcS at z ⊢
      omega
    · exact e
theorem CEV.dec {X Y : CP} (h : CI X) (e : CEV X Y) (t : Int) : CEV (decX X t) (decX Y t) := by
  by_cases z : 1 ≤ X 0 0
  · unfold decX
    rw [show valS Y = valS X from funext fun f => (valS_cg h e f).symm, ← e.1, ← e.row (r := 1) (j := 0) (by omega) (by omega) (by omega) (by omega), ← e.row (r := 1) (j := X 0 0 - 1) (by omega) (by omega) (by omega) (by omega)]
    exact decS_cv 24 X Y h e
  · have n := h.1
    have d0 : ∀ (Z : CP) (s : Int → Int) (a b : Int), Z 0 0 = 0 → decS s t a b 24 Z = Z := fun Z s a b hz => decS_n rfl (by
      have := chS_in (g := fun k => erS (delX Z k) s a b) (t := t) (Z 0 0 - 2).toNat
      unfold dcS
      omega) 24
    unfold decX
    rw [d0 X _ _ _ (by omega), d0 Y _ _ _ (by rw [← e.1]; omega)]
    exact e
/-! what a formula says depends on the four curves -/
theorem exO_cg {V U : Int → Int → Int} (h : ∀ c b, 0 ≤ c → c ≤ 3 → 0 ≤ b → V c b = U c b) : ∀ (C : List (Int × Int)) (st : List Int), (∀ x ∈ C, (x.1 = 0 ∧ 0 ≤ x.2 ∧ x.2 ≤ 999) ∨ (x.1 = 1 ∧ 0 ≤ x.2 ∧ x.2 ≤ 3999) ∨ (2 ≤ x.1 ∧ x.1 ≤ 7 ∧ x.2 = 0)) → exO V C st = exO U C st
  | [], st, _ => rfl
  | x :: C, st, hC => by
    have e : stp V x st = stp U x st := by
      have b := hC x (List.mem_cons_self ..)
      unfold stp
      by_cases z : x.1 = 1
      · rw [if_neg (by omega), if_pos z, if_neg (by omega), if_pos z, h _ _ (by omega) (by omega) (by omega)]
      · rw [if_neg z, if_neg z]
    rw [exO_c, exO_c, e]
    cases stp U x st with
    | none => rfl
    | some s2 => exact exO_cg h C s2 (fun y hy => hC y (List.mem_cons_of_mem _ hy))
theorem GE_cg {e : EE} (hG : GE e) {V U : Int → Int → Int} (h : ∀ c b, 0 ≤ c → c ≤ 3 → 0 ≤ b → V c b = U c b) : e.2 V = e.2 U := by
  have a := hG.1 V []
  rw [exO_cg h e.1 [] hG.2, hG.1 U []] at a
  have a : e.2 U :: [] = e.2 V :: [] := Option.some.inj a
  exact (List.cons.inj a).1.symm
theorem cntL_lf {f : Int → Int} {C : List (Int × Int)} (h : ∀ (i : Nat) (x : Int × Int), C[i]? = some x → f i = x.1) : ∀ n : Nat, n ≤ C.length → cntL f n = lfs (C.take n)
  | 0, _ => rfl
  | n + 1, hn => by
    have e : C[n]? = some (C[n]'(by omega)) := List.getElem?_eq_getElem (by omega)
    unfold cntL
    rw [cntL_lf h n (by omega), h n _ e, List.take_succ, e, lfs_app]
    show _ = lfs (C.take n) + lfs [C[n]'(by omega)]
    rw [lfs_cons, show lfs [] = 0 from rfl, Int.zero_add]
theorem cntL_lfs {f : Int → Int} {C : List (Int × Int)} (h : ∀ (i : Nat) (x : Int × Int), C[i]? = some x → f i = x.1) : cntL f C.length = lfs C := by
  rw [cntL_lf h _ (Nat.le_refl _), List.take_length]
/-! frames sent keep their order -/
theorem rdi_mono {x y d B : Int} (hd : 0 < d) (hd2 : d ≤ 1000000000) (hB : 0 ≤ B) (hB2 : B ≤ 1000000000) (h1 : -B ≤ x) (h2 : x ≤ y) (h3 : y ≤ B) : rdi x d ≤ rdi y d := by
  rw [rdi_eq hd hd2 hB hB2 h1 (by omega), rdi_eq hd hd2 hB hB2 (by omega) h3]
  exact Int.ediv_le_ediv (by omega) (by omega)
theorem rdq {d y : Int} (hd : 0 < d) : (2 * (d * y) + d) / (2 * d) = y := by
  rw [show 2 * (d * y) + d = d + y * (2 * d) by rw [Int.mul_comm y (2 * d), Int.mul_assoc, Int.add_comm], Int.add_mul_ediv_right _ _ (by omega), Int.ediv_eq_zero_of_lt (by omega) (by omega)]
  omega
theorem snd_mono {n f h : Int} {s g : Int → Int} (hM : MI n s g) (h0 : 0 ≤ f) (h1 : f ≤ h) (h2 : h ≤ 480) : sndS n s g f ≤ sndS n s g h := by
  obtain ⟨n0, n8, P, O⟩ := hM
  by_cases z : n = 0
  · unfold sndS; rw [if_pos z, if_pos z]; exact h1
  have K := kb_KB s f n.toNat
  have L := kb_KB s h n.toNat
  rw [show ((n.toNat : Nat) : Int) = n by omega] at K L
  have le : kb s f n.toNat ≤ kb s h n.toNat := KB_mono h1 K L
  obtain ⟨k, hk⟩ : ∃ k, k = kb s f n.toNat := ⟨_, rfl⟩
  obtain ⟨l, hl⟩ : ∃ l, l = kb s h n.toNat := ⟨_, rfl⟩
  rw [← hk] at K le
  rw [← hl] at L le
  obtain ⟨k0, k1, k2, k3⟩ := K
  obtain ⟨l0, l1, l2, l3⟩ := L
  have B : ∀ j, 0 < j → j < n → (0 ≤ g j - g (j - 1) ∧ g j - g (j - 1) ≤ 480) ∧ 0 < s j - s (j - 1) ∧ s j - s (j - 1) ≤ 480 := fun j a b => by
    have o := O (j - 1) j (by omega) (by omega) b
    have p := P j (by omega) b
    have q := P (j - 1) (by omega) (by omega)
    omega
  have up : k < n → sndS n s g f ≤ g k := fun kn => by
    have fs := k3 kn
    by_cases y : k = 0
    · rw [sndS_end (k := 0) z hk (Or.inl ⟨y, rfl⟩)]
      rw [y] at fs ⊢
      omega
    · have b := B k (by omega) kn
      have fl := k2 (k - 1) (by omega) (by omega)
      rw [sndS_mid z hk ⟨y, by omega⟩]
      have u1 : (f - s (k - 1)) * (g k - g (k - 1)) ≤ (s k - s (k - 1)) * (g k - g (k - 1)) := Int.mul_le_mul_of_nonneg_right (by omega) b.1.1
      have u2 : 0 ≤ (f - s (k - 1)) * (g k - g (k - 1)) := Int.mul_nonneg (by omega) b.1.1
      have u3 := mul_bd (a := s k - s (k - 1)) (b := g k - g (k - 1)) (P := 480) (R := 480) (by omega) (by omega) (by omega) (by omega)
      have m := rdi_mono (x := (f - s (k - 1)) * (g k - g (k - 1))) (y := (s k - s (k - 1)) * (g k - g (k - 1))) (B := 1000000) b.2.1 (by omega) (by omega) (by omega) (by omega) u1 (by omega)
      rw [rdi_eq (n := (s k - s (k - 1)) * (g k - g (k - 1))) (B := 1000000) b.2.1 (by omega) (by omega) (by omega) (by omega) (by omega), rdq b.2.1] at m
      omega
  have dn : 0 < l → g (l - 1) ≤ sndS n s g h := fun ln => by
    have fl := l2 (l - 1) (by omega) (by omega)
    by_cases y : l = n
    · rw [sndS_end (k := n - 1) z hl (Or.inr ⟨by omega, y, rfl⟩)]
      rw [y] at fl ⊢
      omega
    · have b := B l (by omega) (by omega)
      have fs := l3 (by omega)
      rw [sndS_mid z hl ⟨by omega, y⟩]
      have u1 : (h - s (l - 1)) * (g l - g (l - 1)) ≤ (s l - s (l - 1)) * (g l - g (l - 1)) := Int.mul_le_mul_of_nonneg_right (by omega) b.1.1
      have u2 : 0 ≤ (h - s (l - 1)) * (g l - g (l - 1)) := Int.mul_nonneg (by omega) b.1.1
      have u3 := mul_bd (a := s l - s (l - 1)) (b := g l - g (l - 1)) (P := 480) (R := 480) (by omega) (by omega) (by omega) (by omega)
      have m := rdi_mono (x := 0) (y := (h - s (l - 1)) * (g l - g (l - 1))) (B := 1000000) b.2.1 (by omega) (by omega) (by omega) (by omega) u2 (by omega)
      rw [rdi_eq (n := 0) (B := 1000000) b.2.1 (by omega) (by omega) (by omega) (by omega) (by omega), show (2 * 0 + (s l - s (l - 1))) / (2 * (s l - s (l - 1))) = 0 from Int.ediv_eq_zero_of_lt (by omega) (by omega)] at m
      omega
  by_cases y : k = l
  · by_cases y0 : k = 0
    · rw [sndS_end (k := 0) z hk (Or.inl ⟨y0, rfl⟩), sndS_end (k := 0) z hl (Or.inl ⟨by omega, rfl⟩)]
      omega
    by_cases y1 : k = n
    · rw [sndS_end (k := n - 1) z hk (Or.inr ⟨y0, y1, rfl⟩), sndS_end (k := n - 1) z hl (Or.inr ⟨by omega, by omega, rfl⟩)]
      omega
    · have b := B k (by omega) (by omega)
      have fl := k2 (k - 1) (by omega) (by omega)
      have fs := l3 (by omega)
      rw [sndS_mid z hk ⟨y0, y1⟩, sndS_mid z hl ⟨by omega, by omega⟩, ← y]
      rw [← y] at fs
      have u1 : (f - s (k - 1)) * (g k - g (k - 1)) ≤ (h - s (k - 1)) * (g k - g (k - 1)) := Int.mul_le_mul_of_nonneg_right (by omega) b.1.1
      have u2 : 0 ≤ (f - s (k - 1)) * (g k - g (k - 1)) := Int.mul_nonneg (by omega) b.1.1
      have u3 := mul_bd (a := h - s (k - 1)) (b := g k - g (k - 1)) (P := 480) (R := 480) (by omega) (by omega) (by omega) (by omega)
      have m := rdi_mono (x := (f - s (k - 1)) * (g k - g (k - 1))) (y := (h - s (k - 1)) * (g k - g (k - 1))) (B := 1000000) b.2.1 (by omega) (by omega) (by omega) (by omega) u1 (by omega)
      omega
  · have a := up (by omega)
    have b := dn (by omega)
    have c : g k ≤ g (l - 1) := by
      by_cases e : k = l - 1
      · rw [e]; exact Int.le_refl _
      · have := (O k (l - 1) k0 (by omega) (by omega)).2
        omega
    omega
