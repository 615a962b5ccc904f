/-! removing keys -/
def mxA (g : Int → Int) (a : Int) : Nat → Int
  | 0 => 0
  | m + 1 => max (mxA g a m) (g (a + m))
theorem mxA_0 {g : Int → Int} {a : Int} : ∀ m : Nat, 0 ≤ mxA g a m
  | 0 => Int.le_refl 0
  | m + 1 => by have := mxA_0 (g := g) (a := a) m; unfold mxA; omega
theorem mxA_le {g : Int → Int} {a B : Int} (hB : 0 ≤ B) : ∀ m : Nat, (∀ j : Nat, j < m → g (a + j) ≤ B) → mxA g a m ≤ B
  | 0, _ => hB
  | m + 1, h => by
    have := mxA_le hB m (fun j hj => h j (by omega))
    have := h m (by omega)
    unfold mxA; omega
theorem mxA_ge {g : Int → Int} {a : Int} : ∀ (m : Nat) (j : Nat), j < m → g (a + j) ≤ mxA g a m
  | m + 1, j, h => by
    unfold mxA
    by_cases e : j = m
    · subst e; omega
    · have := mxA_ge (g := g) (a := a) m j (by omega)
      omega
theorem mxA_cg {g h : Int → Int} {a : Int} : ∀ m : Nat, (∀ j : Nat, j < m → g (a + j) = h (a + j)) → mxA g a m = mxA h a m
  | 0, _ => rfl
  | m + 1, e => by
    unfold mxA
    rw [mxA_cg m (fun j hj => e j (by omega)), e m (by omega)]
def erG (Z : CP) (s : Int → Int) (f : Int) : Int := ((valS Z f - s f).natAbs : Int)
def erS (Z : CP) (s : Int → Int) (a b : Int) : Int := mxA (erG Z s) a (b - a + 1).toNat
def COV (g : Int → Int) (a c x : Int) : Prop := ∀ f, a ≤ f → f ≤ c → g f ≤ x
theorem COV_all {Z : CP} {s : Int → Int} {a b x : Int} (h : COV (erG Z s) a b x) (h0 : 0 ≤ x) : erS Z s a b ≤ x := mxA_le h0 _ (fun j hj => h _ (by omega) (by omega))
theorem er_mem {Z : CP} {s : Int → Int} {a b f : Int} (h1 : a ≤ f) (h2 : f ≤ b) : erG Z s f ≤ erS Z s a b := by
  have := mxA_ge (g := erG Z s) (a := a) (b - a + 1).toNat (f - a).toNat (by omega)
  rw [show a + (((f - a).toNat : Nat) : Int) = f by omega] at this
  exact this
theorem erS_0 (Z : CP) (s : Int → Int) (a b : Int) : 0 ≤ erS Z s a b := mxA_0 _
theorem erS_cg {Y Z : CP} (h : CI Y) (e : CEV Y Z) (s : Int → Int) (a b : Int) : erS Y s a b = erS Z s a b := mxA_cg _ (fun j _ => by unfold erG; rw [valS_cg h e])
theorem erG_0 (Z : CP) (s : Int → Int) (f : Int) : 0 ≤ erG Z s f := Int.natCast_nonneg _
theorem valS_key {Z : CP} (h : CI Z) {k : Int} (h0 : 0 ≤ k) (h1 : k < Z 0 0) : valS Z (Z 1 k) = 64 * Z 2 k := by
  have P := h.2.1 k h0 h1
  rw [valS_in h (by omega) (frs_le h (Int.le_refl 0) h0 h1) (frs_le h h0 (by omega) (by omega)), insd_key h h0 h1, w32_id ⟨by omega, by omega⟩]
theorem valS_btw {Z : CP} (h : CI Z) {k f : Int} (h0 : 0 ≤ k) (h1 : k + 1 < Z 0 0) (h2 : Z 1 k < f) (h3 : f < Z 1 (k + 1)) : valS Z f = btw Z k f := by
  have l1 := frs_le h (Int.le_refl 0) h0 (by omega)
  have l2 := frs_le h (show 0 ≤ k + 1 by omega) (show k + 1 ≤ Z 0 0 - 1 by omega) (by omega)
  have b := insd_bd h (show 1 ≤ Z 0 0 by omega) (f := f) (by omega) (by omega)
  rw [valS_in h (by omega) (by omega) (by omega), w32_id ⟨by omega, by omega⟩]
  unfold insd
  rw [kX_at h h0 (by omega) (by omega) (fun _ => h3), if_neg (by omega)]
/-- the samples that a curve goes through at its keys, from its first to its last one -/
def DIN (Z : CP) (s : Int → Int) (a b : Int) : Prop := CI Z ∧ (1 ≤ Z 0 0 → Z 1 0 = a ∧ Z 1 (Z 0 0 - 1) = b) ∧ ∀ k, 0 ≤ k → k < Z 0 0 → s (Z 1 k) = 64 * Z 2 k
theorem DIN.eq {Z Y : CP} {s : Int → Int} {a b : Int} (h : DIN Z s a b) (e : CEQ Z Y) : DIN Y s a b := by
  obtain ⟨h1, h2, h3⟩ := h
  have r : ∀ r, 1 ≤ r → r ≤ 5 → ∀ j, 0 ≤ j → j < Z 0 0 → Y r j = Z r j := fun r a b j c d => (e.row a b c d).symm
  refine ⟨h1.eq e, fun g => ?_, fun k k0 k1 => ?_⟩
  · rw [← e.1] at g ⊢
    rw [r 1 (by omega) (by omega) _ (by omega) (by omega), r 1 (by omega) (by omega) _ (by omega) (by omega)]
    exact h2 g
  · rw [← e.1] at k1
    rw [r 1 (by omega) (by omega) k k0 k1, r 2 (by omega) (by omega) k k0 k1]
    exact h3 k k0 k1
theorem DIN.del {Z : CP} {s : Int → Int} {a b k : Int} (h : DIN Z s a b) (h0 : 0 < k) (h1 : k + 1 < Z 0 0) : DIN (delX Z k) s a b := by
  obtain ⟨c, h2, h3⟩ := h
  have a1 : (1 : Nat) ≤ 1 := by omega
  have a2 : (1 : Nat) ≤ 2 := by omega
  refine ⟨CI_del c ⟨by omega, by omega⟩, fun g => ?_, fun j j0 j1 => ?_⟩
  · rw [delX_n, delX_lt a1 (by omega), delX_ge a1 (by omega), show Z 0 0 - 1 - 1 + 1 = Z 0 0 - 1 by omega]
    exact h2 (by omega)
  · rw [delX_n] at j1
    rcases Int.lt_or_le j k with z | z
    · rw [delX_lt a1 z, delX_lt a2 z]; exact h3 j j0 (by omega)
    · rw [delX_ge a1 z, delX_ge a2 z]; exact h3 (j + 1) (by omega) (by omega)
def chS (g : Int → Int) (t : Int) : Nat → Int × Int
  | 0 => (-1, t + 1)
  | m + 1 => if g (m + 1) < (chS g t m).2 then ((m : Int) + 1, g (m + 1)) else chS g t m
theorem chS_y {g : Int → Int} {t : Int} {m : Nat} (h : g (m + 1) < (chS g t m).2) : chS g t (m + 1) = ((m : Int) + 1, g (m + 1)) := if_pos h
theorem chS_n {g : Int → Int} {t : Int} {m : Nat} (h : ¬ g (m + 1) < (chS g t m).2) : chS g t (m + 1) = chS g t m := if_neg h
theorem chS_in {g : Int → Int} {t : Int} : ∀ m : Nat, (chS g t m).1 = -1 ∨ (1 ≤ (chS g t m).1 ∧ (chS g t m).1 ≤ m)
  | 0 => Or.inl rfl
  | m + 1 => by
    have ih := chS_in (g := g) (t := t) m
    unfold chS
    split
    · exact Or.inr ⟨by show 1 ≤ (m : Int) + 1; omega, by show (m : Int) + 1 ≤ _; omega⟩
    · omega
theorem chS_b {g : Int → Int} {t : Int} (hg : ∀ k, 0 ≤ g k) (ht : 0 ≤ t) : ∀ m : Nat, 0 ≤ (chS g t m).2 ∧ (chS g t m).2 ≤ t + 1
  | 0 => ⟨by show 0 ≤ t + 1; omega, Int.le_refl _⟩
  | m + 1 => by
    have ih := chS_b hg ht m
    have := hg (m + 1)
    unfold chS
    split
    · exact ⟨this, by show g (m + 1) ≤ _; omega⟩
    · exact ih
theorem chS_cg {g h : Int → Int} {t : Int} : ∀ m : Nat, (∀ k : Int, 1 ≤ k → k ≤ m → g k = h k) → chS g t m = chS h t m
  | 0, _ => rfl
  | m + 1, e => by
    unfold chS
    rw [chS_cg m (fun k a b => e k a (by omega)), e (m + 1) (by omega) (by omega)]
def dcS (Y : CP) (s : Int → Int) (t a b : Int) : Int := (chS (fun k => erS (delX Y k) s a b) t (Y 0 0 - 2).toNat).1
theorem dcS_in (Y : CP) (s : Int → Int) (t a b : Int) : dcS Y s t a b = -1 ∨ (1 ≤ dcS Y s t a b ∧ dcS Y s t a b + 1 < Y 0 0) := by
  have := chS_in (g := fun k => erS (delX Y k) s a b) (t := t) (Y 0 0 - 2).toNat
  unfold dcS
  omega
theorem dcS_cg {Y Z : CP} (h : CI Y) (e : CEV Y Z) (s : Int → Int) (t a b : Int) : dcS Y s t a b = dcS Z s t a b := by
  unfold dcS
  rw [← e.1, chS_cg _ (fun k k0 k1 => erS_cg (CI_del h ⟨by omega, by omega⟩) (delX_cv e (by omega)) s a b)]
def decS (s : Int → Int) (t a b : Int) : Nat → CP → CP
  | 0, Y => Y
  | m + 1, Y => if 0 < dcS Y s t a b then decS s t a b m (delX Y (dcS Y s t a b)) else Y
theorem decS_y {s : Int → Int} {t a b k : Int} {m : Nat} {Y : CP} (h : k = dcS Y s t a b) (h0 : 0 < k) : decS s t a b (m + 1) Y = decS s t a b m (delX Y k) := by
  subst h
  exact if_pos h0
theorem decS_n {s : Int → Int} {t a b k : Int} {Y : CP} (h : k = dcS Y s t a b) (h0 : ¬ 0 < k) : ∀ m : Nat, decS s t a b m Y = Y
  | 0 => rfl
  | m + 1 => by
    subst h
    exact if_neg h0
def decX (X : CP) (t : Int) : CP := decS (valS X) t (X 1 0) (X 1 (X 0 0 - 1)) 24 X
theorem cut_le {w : Wd} {c : Nat} {e z : Int} (hI : CI (cx w c)) (he : e = (if w c 0 < 1 then -1 else w (c + 1) (w c 0 - 1))) (hz : z = (if w c 0 < 1 then 0 else w (c + 1) 0)) : z ≤ e + 1 := by
  by_cases q : w c 0 < 1
  · rw [hz, he, if_pos q, if_pos q]; omega
  · rw [hz, he, if_neg q, if_neg q]
    have h := frs_le hI (Int.le_refl 0) (show 0 ≤ w c 0 - 1 by omega) (by show w c 0 - 1 < w c 0; omega)
    have h : w (c + 1) 0 ≤ w (c + 1) (w c 0 - 1) := h
    omega
theorem DIN_0 {X : CP} (h : CI X) : DIN X (valS X) (X 1 0) (X 1 (X 0 0 - 1)) := ⟨h, fun _ => ⟨rfl, rfl⟩, fun k k0 k1 => valS_key h k0 k1⟩
set_option maxRecDepth 8000 in
theorem m_X0_distance {Q : Option AV → Wd → Prop} {w : Wd} (d : Nat) {c : Nat} {s : Int → Int} {en : Int} (hd : 6 ≤ d) (hw : WR w) (hs : sh c = 0) (hD : DIN (cx w c) s (w (c + 1) 0) (w (c + 1) (w c 0 - 1))) (h1 : 1 ≤ w c 0) (hsm : ∀ f, w (c + 1) 0 ≤ f → f ≤ w (c + 1) (w c 0 - 1) → w 377 f = s f ∧ -200000000 ≤ s f ∧ s f ≤ 200000000) (he : R32 en) (hQ : ∀ r, (r = (erS (cx w c) s (w (c + 1) 0) (w (c + 1) (w c 0 - 1))) ∨ (en ≤ r ∧ en ≤ (erS (cx w c) s (w (c + 1) 0) (w (c + 1) (w c 0 - 1))))) → 0 ≤ r → R32 r → Q (some (vI r)) w) : M mX0_distance (Rm d) [vR (some c), vR (some 377), vI en] (fl w) (lQ Q) := by
  obtain ⟨hI, -, hkv⟩ := hD
  obtain ⟨s1, s2, s3, s4, s5⟩ := sh_curve hs
  obtain ⟨hn, P, O, b1, b2, b3, b4⟩ := CIw hI
  have P0 := P 0 (by omega) (by omega)
  have Pl := P (w c 0 - 1) (by omega) (by omega)
  have KV : ∀ k, 0 ≤ k → k < w c 0 → erG (cx w c) s (w (c + 1) k) = 0 := fun k k0 k1 => by
    have z := valS_key hI k0 k1
    have y := hkv k k0 k1
    unfold erG
    rw [show w (c + 1) k = cx w c 1 k from rfl, z, y]
    omega
  refine f_mofv (L0 := [some (vR (some c)), some (vR (some 377)), some (vI en), none, none, none, none, none, none, none, none, none, none, none]) rfl (Nat.le_of_ble_eq_true rfl) rfl ?_
  have cut193 : ∀ n0 : Nat, (∀ n1 : Nat, n1 < n0 → ∀ k : Int, (w c 0 - k).toNat = n1 → 0 ≤ k → k < w c 0 → ∀ (x : Int) (o5 o6 o7 o8 o9 o10 o11 o12 o13 : Option AV), (0 ≤ x ∧ x ≤ (erS (cx w c) s (w (c + 1) 0) (w (c + 1) (w c 0 - 1)))) → (COV (erG (cx w c) s) (w (c + 1) 0) (w (c + 1) k) x ∨ en ≤ x) → R32 x → V mX0_distance (Rm d) 0 0 5 [some (vR (some c)), some (vR (some 377)), some (vI en), some (vI x), some (vI k), o5, o6, o7, o8, o9, o10, o11, o12, o13] [] (fl w) (lQ Q)) → ∀ k : Int, (w c 0 - k).toNat = n0 → 0 ≤ k → k + 1 < w c 0 → ∀ (x h q : Int) (o13 : Option AV), (0 ≤ x ∧ x ≤ (erS (cx w c) s (w (c + 1) 0) (w (c + 1) (w c 0 - 1)))) → (COV (erG (cx w c) s) (w (c + 1) 0) (w (c + 1) (k + 1)) x ∨ en ≤ x) → R32 x → V mX0_distance (Rm d) 0 0 193 [some (vR (some c)), some (vR (some 377)), some (vI en), some (vI x), some (vI k), some (vI (64 * w (c + 2) k)), some (vI (64 * w (c + 2) (k + 1))), some (vI h), some (vI (slp (cx w c) k 1)), some (vI (slp (cx w c) (k + 1) 0)), some (vI (w (c + 1) k)), some (vI (w (c + 1) (k + 1) - w (c + 1) k)), some (vI q), o13] [] (fl w) (lQ Q) := by
    intro n0 ih k hm hk0 hkn x h q o13 hx hcov hxr
    refine r_iinc4 (pc := 193) dX0_distance_193 rfl ?_
    refine r_goto (pc := 196) (tgt := 5) dX0_distance_196 rfl ?_
    exact ih _ (by omega) (k + 1) rfl (by omega) (by omega) _ _ _ _ _ _ _ _ _ _ hx hcov hxr
  have cut165 : ∀ n0 : Nat, (∀ n1 : Nat, n1 < n0 → ∀ k : Int, (w c 0 - k).toNat = n1 → 0 ≤ k → k < w c 0 → ∀ (x : Int) (o5 o6 o7 o8 o9 o10 o11 o12 o13 : Option AV), (0 ≤ x ∧ x ≤ (erS (cx w c) s (w (c + 1) 0) (w (c + 1) (w c 0 - 1)))) → (COV (erG (cx w c) s) (w (c + 1) 0) (w (c + 1) k) x ∨ en ≤ x) → R32 x → V mX0_distance (Rm d) 0 0 5 [some (vR (some c)), some (vR (some 377)), some (vI en), some (vI x), some (vI k), o5, o6, o7, o8, o9, o10, o11, o12, o13] [] (fl w) (lQ Q)) → ∀ k : Int, (w c 0 - k).toNat = n0 → 0 ≤ k → k + 1 < w c 0 → ∀ (h q x : Int) (o13 : Option AV), 1 ≤ q → q < w (c + 1) (k + 1) - w (c + 1) k → (0 ≤ x ∧ x ≤ (erS (cx w c) s (w (c + 1) 0) (w (c + 1) (w c 0 - 1)))) → R32 x → (∀ (x2 : Int) (o13 : Option AV), x2 = max x (erG (cx w c) s (w (c + 1) k + q)) → (0 ≤ x2 ∧ x2 ≤ (erS (cx w c) s (w (c + 1) 0) (w (c + 1) (w c 0 - 1)))) → R32 x2 → V mX0_distance (Rm d) 0 0 187 [some (vR (some c)), some (vR (some 377)), some (vI en), some (vI x2), some (vI k), some (vI (64 * w (c + 2) k)), some (vI (64 * w (c + 2) (k + 1))), some (vI h), some (vI (slp (cx w c) k 1)), some (vI (slp (cx w c) (k + 1) 0)), some (vI (w (c + 1) k)), some (vI (w (c + 1) (k + 1) - w (c + 1) k)), some (vI q), o13] [] (fl w) (lQ Q)) → ∀ z : Int, z = btw (cx w c) k (w (c + 1) k + q) → V mX0_distance (Rm d) 0 0 165 [some (vR (some c)), some (vR (some 377)), some (vI en), some (vI x), some (vI k), some (vI (64 * w (c + 2) k)), some (vI (64 * w (c + 2) (k + 1))), some (vI h), some (vI (slp (cx w c) k 1)), some (vI (slp (cx w c) (k + 1) 0)), some (vI (w (c + 1) k)), some (vI (w (c + 1) (k + 1) - w (c + 1) k)), some (vI q), o13] [vI z] (fl w) (lQ Q) := by
    intro n0 ih k hm hk0 hkn h q x o13 hq1 hql hx hxr kk z hz
    have sb1 := slp_bd hI 1 (k := k) ⟨hk0, by show k < w c 0; omega⟩
    have sb2 := slp_bd hI 0 (k := k + 1) ⟨by omega, by show k + 1 < w c 0; omega⟩
    have Pk := P k hk0 (by omega)
    have Pk2 := P (k + 1) (by omega) (by omega)
    have Ok := O k (k + 1) (by omega) (by omega) (by omega)
    have Of := frs_le hI (Int.le_refl 0) hk0 (by show k < w c 0; omega)
    have Of2 := frs_le hI (show 0 ≤ k + 1 by omega) (show k + 1 ≤ w c 0 - 1 by omega) (by show w c 0 - 1 < w c 0; omega)
    have Of : w (c + 1) 0 ≤ w (c + 1) k := Of
    have Of2 : w (c + 1) (k + 1) ≤ w (c + 1) (w c 0 - 1) := Of2
    have vb := valS_btw hI hk0 hkn (f := w (c + 1) k + q) (by show w (c + 1) k < _; omega) (by show _ < w (c + 1) (k + 1); omega)
    have vr := valS_bd hI (f := w (c + 1) k + q) (by omega)
    rw [← hz] at vb
    rw [vb] at vr
    have sm := hsm (w (c + 1) k + q) (by omega) (by omega)
    have em := er_mem (Z := cx w c) (s := s) (a := w (c + 1) 0) (b := w (c + 1) (w c 0 - 1)) (f := w (c + 1) k + q) (by omega) (by omega)
    have e0 := erG_0 (cx w c) s (w (c + 1) k + q)
    have ee : erG (cx w c) s (w (c + 1) k + q) = ((z - s (w (c + 1) k + q)).natAbs : Int) := by unfold erG; rw [vb]
    refine r_istore13 (pc := 165) dX0_distance_165 rfl ?_
    refine r_iload_n (pc := 167) dX0_distance_167 rfl ?_
    refine r_iload (pc := 168) dX0_distance_168 rfl ?_
    refine r_aload_n (pc := 170) dX0_distance_170 rfl ?_
    refine r_iload (pc := 171) dX0_distance_171 rfl ?_
    refine r_iload (pc := 173) dX0_distance_173 rfl ?_
    refine r_iadd (pc := 175) dX0_distance_175 ?_
    refine c_X0_53 (pc := 176) rfl dX0_distance_176 (by omega) (Nat.le_of_ble_eq_true rfl) ?_
    refine m_X11_at (d - 1) (by omega) (by assumption) (n := 481) (show sh 377 = 1000 + 481 from rfl) (by omega) (by omega) (fun r176 e176 b176 => ?_)
    rw [gA_in (by omega) (by omega)] at e176
    rw [sm.1] at e176
    subst e176
    refine r_isub (pc := 179) dX0_distance_179 ?_
    refine c_X0_129 (pc := 180) rfl dX0_distance_180 (by omega) (Nat.le_of_ble_eq_true rfl) ?_
    refine m_J9_abs_0f7a4 (d - 1) (by omega) (by assumption) (by omega) (fun r180 e180 b180 => ?_)
    refine c_X0_126 (pc := 183) rfl dX0_distance_183 (by omega) (Nat.le_of_ble_eq_true rfl) ?_
    refine m_J9_max_7cf53 (d - 1) (by omega) (by assumption) (by omega) (by omega) (fun r183 e183 b183 => ?_)
    refine r_istore3 (pc := 186) dX0_distance_186 rfl ?_
    exact kk _ _ (by rw [e183, e180, ee]) (by omega) (by omega) --stop
  have loop122 : ∀ n0 : Nat, (∀ n1 : Nat, n1 < n0 → ∀ k : Int, (w c 0 - k).toNat = n1 → 0 ≤ k → k < w c 0 → ∀ (x : Int) (o5 o6 o7 o8 o9 o10 o11 o12 o13 : Option AV), (0 ≤ x ∧ x ≤ (erS (cx w c) s (w (c + 1) 0) (w (c + 1) (w c 0 - 1)))) → (COV (erG (cx w c) s) (w (c + 1) 0) (w (c + 1) k) x ∨ en ≤ x) → R32 x → V mX0_distance (Rm d) 0 0 5 [some (vR (some c)), some (vR (some 377)), some (vI en), some (vI x), some (vI k), o5, o6, o7, o8, o9, o10, o11, o12, o13] [] (fl w) (lQ Q)) → ∀ k : Int, (w c 0 - k).toNat = n0 → 0 ≤ k → k + 1 < w c 0 → ∀ h : Int, (h = 0 ∨ h = 1) → (h = 1 ↔ w (c + 3) k = 6) → ∀ n2 : Nat, ∀ q : Int, (w (c + 1) (k + 1) - w (c + 1) k - q).toNat = n2 → 1 ≤ q → q ≤ w (c + 1) (k + 1) - w (c + 1) k → ∀ (x : Int) (o13 : Option AV), (0 ≤ x ∧ x ≤ (erS (cx w c) s (w (c + 1) 0) (w (c + 1) (w c 0 - 1)))) → COV (erG (cx w c) s) (w (c + 1) 0) (w (c + 1) k + q - 1) x → R32 x → V mX0_distance (Rm d) 0 0 122 [some (vR (some c)), some (vR (some 377)), some (vI en), some (vI x), some (vI k), some (vI (64 * w (c + 2) k)), some (vI (64 * w (c + 2) (k + 1))), some (vI h), some (vI (slp (cx w c) k 1)), some (vI (slp (cx w c) (k + 1) 0)), some (vI (w (c + 1) k)), some (vI (w (c + 1) (k + 1) - w (c + 1) k)), some (vI q), o13] [] (fl w) (lQ Q) := by
    intro n0 ih k hm hk0 hkn h hh hh2
    have sb1 := slp_bd hI 1 (k := k) ⟨hk0, by show k < w c 0; omega⟩
    have sb2 := slp_bd hI 0 (k := k + 1) ⟨by omega, by show k + 1 < w c 0; omega⟩
    have Pk := P k hk0 (by omega)
    have Pk2 := P (k + 1) (by omega) (by omega)
    have Ok := O k (k + 1) (by omega) (by omega) (by omega)
    refine ind_lt ?_
    intro n2 ih2 q hm2 hq1 hql x o13 hx hcov hxr
    refine r_iload (pc := 122) dX0_distance_122 rfl ?_
    refine r_iload (pc := 124) dX0_distance_124 rfl ?_
    refine r_icmpge (pc := 126) (tgt := 193) dX0_distance_126 rfl (by omega) (by omega) (fun h126 => ?_) (fun h126 => ?_)
    · exact cut193 n0 ih k hm hk0 hkn _ _ _ _ hx (Or.inl (fun f f0 f1 => by
        rcases Int.lt_or_le f (w (c + 1) (k + 1)) with z | z
        · exact hcov f f0 (by omega)
        · rw [show f = w (c + 1) (k + 1) by omega, KV (k + 1) (by omega) (by omega)]; omega)) hxr
    refine r_iload_n (pc := 129) dX0_distance_129 rfl ?_
    refine r_iload_n (pc := 130) dX0_distance_130 rfl ?_
    refine r_icmpge (pc := 131) (tgt := 193) dX0_distance_131 rfl (by omega) (by omega) (fun h131 => ?_) (fun h131 => ?_)
    · exact cut193 n0 ih k hm hk0 hkn _ _ _ _ hx (Or.inr (by omega)) hxr
    have KK : ∀ (x2 : Int) (o13 : Option AV), x2 = max x (erG (cx w c) s (w (c + 1) k + q)) → (0 ≤ x2 ∧ x2 ≤ (erS (cx w c) s (w (c + 1) 0) (w (c + 1) (w c 0 - 1)))) → R32 x2 → V mX0_distance (Rm d) 0 0 187 [some (vR (some c)), some (vR (some 377)), some (vI en), some (vI x2), some (vI k), some (vI (64 * w (c + 2) k)), some (vI (64 * w (c + 2) (k + 1))), some (vI h), some (vI (slp (cx w c) k 1)), some (vI (slp (cx w c) (k + 1) 0)), some (vI (w (c + 1) k)), some (vI (w (c + 1) (k + 1) - w (c + 1) k)), some (vI q), o13] [] (fl w) (lQ Q) := by
      intro x2 o13 e2 hx2 hxr2
      refine r_iinc12 (pc := 187) dX0_distance_187 rfl ?_
      refine r_goto (pc := 190) (tgt := 122) dX0_distance_190 rfl ?_
      exact ih2 _ (by omega) (q + 1) rfl (by omega) (by omega) _ _ hx2 (fun f f0 f1 => by
        rcases Int.lt_or_le f (w (c + 1) k + q) with z | z
        · have := hcov f f0 (by omega)
          omega
        · rw [show f = w (c + 1) k + q by omega]; omega) hxr2
    refine r_iload (pc := 134) dX0_distance_134 rfl ?_
    refine r_ifeq (pc := 136) (tgt := 144) dX0_distance_136 rfl (by omega) (fun h136 => ?_) (fun h136 => ?_)
    · refine r_iload (pc := 144) dX0_distance_144 rfl ?_
      refine r_i2l (pc := 146) dX0_distance_146 (by first | assumption | omega) ?_
      refine r_iload (pc := 147) dX0_distance_147 rfl ?_
      refine r_i2l (pc := 149) dX0_distance_149 (by first | assumption | omega) ?_
      refine r_iload (pc := 150) dX0_distance_150 rfl ?_
      refine r_i2l (pc := 152) dX0_distance_152 (by first | assumption | omega) ?_
      refine r_iload (pc := 153) dX0_distance_153 rfl ?_
      refine r_i2l (pc := 155) dX0_distance_155 (by first | assumption | omega) ?_
      refine r_iload (pc := 156) dX0_distance_156 rfl ?_
      refine r_i2l (pc := 158) dX0_distance_158 (by first | assumption | omega) ?_
      refine r_iload (pc := 159) dX0_distance_159 rfl ?_
      refine r_i2l (pc := 161) dX0_distance_161 (by first | assumption | omega) ?_
      refine c_X0_148 (pc := 162) rfl dX0_distance_162 (by omega) (Nat.le_of_ble_eq_true rfl) ?_
      refine m_X0_hermite (d - 1) (by omega) (by assumption) (by omega) (fun r162 e162 b162 => ?_)
      exact cut165 n0 ih k hm hk0 hkn h q x _ hq1 (by omega) hx hxr KK _ (by rw [e162]; refine Eq.trans ?_ (if_neg (show ¬ w (c + 3) k = 6 by omega)).symm; rw [show w (c + 1) k + q - cx w c 1 k = q by show w (c + 1) k + q - w (c + 1) k = q; omega]; rfl)
    refine r_iload (pc := 139) dX0_distance_139 rfl ?_
    refine r_goto (pc := 141) (tgt := 165) dX0_distance_141 rfl ?_
    exact cut165 n0 ih k hm hk0 hkn h q x _ hq1 (by omega) hx hxr KK _ ((if_pos (show w (c + 3) k = 6 by omega)).symm)
  have cut70 : ∀ n0 : Nat, (∀ n1 : Nat, n1 < n0 → ∀ k : Int, (w c 0 - k).toNat = n1 → 0 ≤ k → k < w c 0 → ∀ (x : Int) (o5 o6 o7 o8 o9 o10 o11 o12 o13 : Option AV), (0 ≤ x ∧ x ≤ (erS (cx w c) s (w (c + 1) 0) (w (c + 1) (w c 0 - 1)))) → (COV (erG (cx w c) s) (w (c + 1) 0) (w (c + 1) k) x ∨ en ≤ x) → R32 x → V mX0_distance (Rm d) 0 0 5 [some (vR (some c)), some (vR (some 377)), some (vI en), some (vI x), some (vI k), o5, o6, o7, o8, o9, o10, o11, o12, o13] [] (fl w) (lQ Q)) → ∀ k : Int, (w c 0 - k).toNat = n0 → 0 ≤ k → k + 1 < w c 0 → ∀ h : Int, (h = 0 ∨ h = 1) → (h = 1 ↔ w (c + 3) k = 6) → ∀ (x : Int) (o7 o8 o9 o10 o11 o12 o13 : Option AV), (0 ≤ x ∧ x ≤ (erS (cx w c) s (w (c + 1) 0) (w (c + 1) (w c 0 - 1)))) → (COV (erG (cx w c) s) (w (c + 1) 0) (w (c + 1) k) x ∨ en ≤ x) → ¬ en ≤ x → R32 x → V mX0_distance (Rm d) 0 0 70 [some (vR (some c)), some (vR (some 377)), some (vI en), some (vI x), some (vI k), some (vI (64 * w (c + 2) k)), some (vI (64 * w (c + 2) (k + 1))), o7, o8, o9, o10, o11, o12, o13] [vI h] (fl w) (lQ Q) := by
    intro n0 ih k hm hk0 hkn h hh hh2 x o7 o8 o9 o10 o11 o12 o13 hx hcov hxe hxr
    have sb1 := slp_bd hI 1 (k := k) ⟨hk0, by show k < w c 0; omega⟩
    have sb2 := slp_bd hI 0 (k := k + 1) ⟨by omega, by show k + 1 < w c 0; omega⟩
    have Pk := P k hk0 (by omega)
    have Pk2 := P (k + 1) (by omega) (by omega)
    have Ok := O k (k + 1) (by omega) (by omega) (by omega)
    refine r_istore7 (pc := 70) dX0_distance_70 rfl ?_
    refine r_aload_n (pc := 72) dX0_distance_72 rfl ?_
    refine r_iload (pc := 73) dX0_distance_73 rfl ?_
    refine r_iconst (pc := 75) (n := 1) dX0_distance_75 ?_
    refine c_X0_77 (pc := 76) rfl dX0_distance_76 (by first | assumption | rfl) (by omega) (Nat.le_of_ble_eq_true rfl) ?_
    refine m_X0_tangent (d - 1) (by omega) (by assumption) (by assumption) (by assumption) ⟨by omega, by omega⟩ (by omega) (fun r76 e76 b76 => ?_)
    subst e76
    refine r_istore8 (pc := 79) dX0_distance_79 rfl ?_
    refine r_aload_n (pc := 81) dX0_distance_81 rfl ?_
    refine r_iload (pc := 82) dX0_distance_82 rfl ?_
    refine r_iconst (pc := 84) (n := 1) dX0_distance_84 ?_
    refine r_iadd (pc := 85) dX0_distance_85 ?_
    refine r_iconst (pc := 86) (n := 0) dX0_distance_86 ?_
    refine c_X0_77 (pc := 87) rfl dX0_distance_87 (by first | assumption | rfl) (by omega) (Nat.le_of_ble_eq_true rfl) ?_
    refine m_X0_tangent (d - 1) (by omega) (by assumption) (by assumption) (by assumption) ⟨by omega, by omega⟩ (by omega) (fun r87 e87 b87 => ?_)
    subst e87
    refine r_istore9 (pc := 90) dX0_distance_90 rfl ?_
    refine r_aload_n (pc := 92) dX0_distance_92 rfl ?_
    refine g_X0_18 (pc := 93) rfl dX0_distance_93 (by first | assumption | rfl) ?_
    refine r_iload (pc := 96) dX0_distance_96 rfl ?_
    refine c_X0_53 (pc := 98) rfl dX0_distance_98 (by omega) (Nat.le_of_ble_eq_true rfl) ?_
    refine m_X11_at (d - 1) (by omega) (by assumption) (n := 24) (by assumption) (by omega) (by omega) (fun r98 e98 b98 => ?_)
    rw [gA_in (by omega) (by omega)] at e98
    subst e98
    refine r_istore10 (pc := 101) dX0_distance_101 rfl ?_
    refine r_aload_n (pc := 103) dX0_distance_103 rfl ?_
    refine g_X0_18 (pc := 104) rfl dX0_distance_104 (by first | assumption | rfl) ?_
    refine r_iload (pc := 107) dX0_distance_107 rfl ?_
    refine r_iconst (pc := 109) (n := 1) dX0_distance_109 ?_
    refine r_iadd (pc := 110) dX0_distance_110 ?_
    refine c_X0_53 (pc := 111) rfl dX0_distance_111 (by omega) (Nat.le_of_ble_eq_true rfl) ?_
    refine m_X11_at (d - 1) (by omega) (by assumption) (n := 24) (by assumption) (by omega) (by omega) (fun r111 e111 b111 => ?_)
    rw [gA_in (by omega) (by omega)] at e111
    subst e111
    refine r_iload (pc := 114) dX0_distance_114 rfl ?_
    refine r_isub (pc := 116) dX0_distance_116 ?_
    refine r_istore11 (pc := 117) dX0_distance_117 rfl ?_
    refine r_iconst (pc := 119) (n := 1) dX0_distance_119 ?_
    refine r_istore12 (pc := 120) dX0_distance_120 rfl ?_
    exact loop122 n0 ih k hm hk0 (by omega) h hh hh2 _ 1 rfl (by omega) (by omega) _ _ hx (hcov.elim (fun z => by rw [show w (c + 1) k + 1 - 1 = w (c + 1) k by omega]; exact z) (fun z => by omega)) hxr
  have loop5 : ∀ n0 : Nat, ∀ k : Int, (w c 0 - k).toNat = n0 → 0 ≤ k → k < w c 0 → ∀ (x : Int) (o5 o6 o7 o8 o9 o10 o11 o12 o13 : Option AV), (0 ≤ x ∧ x ≤ (erS (cx w c) s (w (c + 1) 0) (w (c + 1) (w c 0 - 1)))) → (COV (erG (cx w c) s) (w (c + 1) 0) (w (c + 1) k) x ∨ en ≤ x) → R32 x → V mX0_distance (Rm d) 0 0 5 [some (vR (some c)), some (vR (some 377)), some (vI en), some (vI x), some (vI k), o5, o6, o7, o8, o9, o10, o11, o12, o13] [] (fl w) (lQ Q) := by
    refine ind_lt ?_
    intro n0 ih k hm hk0 hkn x o5 o6 o7 o8 o9 o10 o11 o12 o13 hx hcov hxr
    refine r_iload (pc := 5) dX0_distance_5 rfl ?_
    refine r_iconst (pc := 7) (n := 1) dX0_distance_7 ?_
    refine r_iadd (pc := 8) dX0_distance_8 ?_
    refine r_aload_n (pc := 9) dX0_distance_9 rfl ?_
    refine g_X0_38 (pc := 10) rfl dX0_distance_10 (by assumption) (by first | assumption | rfl) (fun h10 => ?_)
    refine r_icmpge (pc := 13) (tgt := 199) dX0_distance_13 rfl (by omega) (by omega) (fun h13 => ?_) (fun h13 => ?_)
    · refine r_iload_n (pc := 199) dX0_distance_199 rfl ?_
      exact f_iret (pc := 200) dX0_distance_200 rfl (by assumption) (hQ _ (by
            rcases hcov with z | z
            · exact Or.inl (by have := COV_all (b := w (c + 1) (w c 0 - 1)) (by rw [show k = w c 0 - 1 by omega] at z; exact z) hx.1; omega)
            · exact Or.inr ⟨z, by omega⟩) hx.1 hxr)
    have Pk := P k hk0 (by omega)
    have Pk2 := P (k + 1) (by omega) (by omega)
    refine r_iload_n (pc := 16) dX0_distance_16 rfl ?_
    refine r_iload_n (pc := 17) dX0_distance_17 rfl ?_
    refine r_icmpge (pc := 18) (tgt := 199) dX0_distance_18 rfl (by omega) (by omega) (fun h18 => ?_) (fun h18 => ?_)
    · refine r_iload_n (pc := 199) dX0_distance_199 rfl ?_
      exact f_iret (pc := 200) dX0_distance_200 rfl (by assumption) (hQ _ (Or.inr ⟨by omega, by omega⟩) hx.1 hxr)
    refine r_bipush (pc := 21) (n := 64) dX0_distance_21 (by decide) ?_
    refine r_aload_n (pc := 23) dX0_distance_23 rfl ?_
    refine g_X0_22 (pc := 24) rfl dX0_distance_24 (by first | assumption | rfl) ?_
    refine r_iload (pc := 27) dX0_distance_27 rfl ?_
    refine c_X0_53 (pc := 29) rfl dX0_distance_29 (by omega) (Nat.le_of_ble_eq_true rfl) ?_
    refine m_X11_at (d - 1) (by omega) (by assumption) (n := 24) (by assumption) (by omega) (by omega) (fun r29 e29 b29 => ?_)
    rw [gA_in (by omega) (by omega)] at e29
    subst e29
    refine r_imul (pc := 32) dX0_distance_32 ?_
    refine r_istore5 (pc := 33) dX0_distance_33 rfl ?_
    refine r_bipush (pc := 35) (n := 64) dX0_distance_35 (by decide) ?_
    refine r_aload_n (pc := 37) dX0_distance_37 rfl ?_
    refine g_X0_22 (pc := 38) rfl dX0_distance_38 (by first | assumption | rfl) ?_
    refine r_iload (pc := 41) dX0_distance_41 rfl ?_
    refine r_iconst (pc := 43) (n := 1) dX0_distance_43 ?_
    refine r_iadd (pc := 44) dX0_distance_44 ?_
    refine c_X0_53 (pc := 45) rfl dX0_distance_45 (by omega) (Nat.le_of_ble_eq_true rfl) ?_
    refine m_X11_at (d - 1) (by omega) (by assumption) (n := 24) (by assumption) (by omega) (by omega) (fun r45 e45 b45 => ?_)
    rw [gA_in (by omega) (by omega)] at e45
    subst e45
    refine r_imul (pc := 48) dX0_distance_48 ?_
    refine r_istore6 (pc := 49) dX0_distance_49 rfl ?_
    refine r_aload_n (pc := 51) dX0_distance_51 rfl ?_
    refine g_X0_25 (pc := 52) rfl dX0_distance_52 (by first | assumption | rfl) ?_
    refine r_iload (pc := 55) dX0_distance_55 rfl ?_
    refine c_X0_53 (pc := 57) rfl dX0_distance_57 (by omega) (Nat.le_of_ble_eq_true rfl) ?_
    refine m_X11_at (d - 1) (by omega) (by assumption) (n := 24) (by assumption) (by omega) (by omega) (fun r57 e57 b57 => ?_)
    rw [gA_in (by omega) (by omega)] at e57
    refine r_bipush (pc := 60) (n := 6) dX0_distance_60 (by decide) ?_
    refine r_icmpne (pc := 62) (tgt := 69) dX0_distance_62 rfl (by omega) (by omega) (fun h62 => ?_) (fun h62 => ?_)
    · refine r_iconst (pc := 69) (n := 0) dX0_distance_69 ?_
      exact cut70 n0 ih k hm hk0 (by omega) _ (by omega) (by omega) _ _ _ _ _ _ _ _ hx hcov (by omega) hxr
    refine r_iconst (pc := 65) (n := 1) dX0_distance_65 ?_
    refine r_goto (pc := 66) (tgt := 70) dX0_distance_66 rfl ?_
    exact cut70 n0 ih k hm hk0 (by omega) _ (by omega) (by omega) _ _ _ _ _ _ _ _ hx hcov (by omega) hxr
  refine r_iconst (pc := 0) (n := 0) dX0_distance_0 ?_
  refine r_istore3 (pc := 1) dX0_distance_1 rfl ?_
  refine r_iconst (pc := 2) (n := 0) dX0_distance_2 ?_
  refine r_istore4 (pc := 3) dX0_distance_3 rfl ?_
  exact loop5 _ 0 rfl (by omega) (by omega) _ _ _ _ _ _ _ _ _ _ ⟨Int.le_refl 0, erS_0 _ _ _ _⟩ (Or.inl (fun f f0 f1 => by rw [show f = w (c + 1) 0 by omega, KV 0 (by omega) (by omega)]; omega)) (by omega)
set_option maxRecDepth 8000 in
theorem m_X2_cheapest {Q : Option AV → Wd → Prop} {w : Wd} (d : Nat) {c : Nat} {s : Int → Int} {t a b : Int} (hd : 7 ≤ d) (hw : WR w) (hs : sh c = 0) (hc : c + 5 < 376) (hD : DIN (cx w c) s a b) (hsm : 1 ≤ w c 0 → ∀ f, a ≤ f → f ≤ b → w 377 f = s f ∧ -200000000 ≤ s f ∧ s f ≤ 200000000) (ht : 0 ≤ t ∧ t ≤ 9999) (hQ : ∀ r w2, r = dcS (cx w c) s t a b → (∀ p, p < 378 ∨ 383 < p → w2 p = w p) → WR w2 → Q (some (vI r)) w2) : M mX2_cheapest (Rm d) [vR (some 376), vR (some c), vI t] (fl w) (lQ Q) := by
  obtain ⟨g, hg⟩ : ∃ g : Int → Int, g = fun k => erS (delX (cx w c) k) s a b := ⟨_, rfl⟩
  have gd : dcS (cx w c) s t a b = (chS g t (w c 0 - 2).toNat).1 := by rw [hg]; rfl
  have g0 : ∀ k, 0 ≤ g k := fun k => by rw [hg]; exact erS_0 _ _ _ _
  have hn : 0 ≤ w c 0 ∧ w c 0 ≤ 24 := hD.1.1
  refine f_mofv (L0 := [some (vR (some 376)), some (vR (some c)), some (vI t), none, none, none, none]) rfl (Nat.le_of_ble_eq_true rfl) rfl ?_
  have cut67 : ∀ n0 m : Nat, (∀ n1 : Nat, n1 < n0 → ∀ m : Nat, (w c 0 - m).toNat = n1 → (m = 0 ∨ m + 1 < w c 0) → ∀ (w1 : Wd) (x y k : Int) (o6 : Option AV), x = (chS g t m).1 → y = (chS g t m).2 → k = m + 1 → (∀ p, p < 378 ∨ 383 < p → w1 p = w p) → WR w1 → V mX2_cheapest (Rm d) 0 0 10 [some (vR (some 376)), some (vR (some c)), some (vI t), some (vI x), some (vI y), some (vI k), o6] [] (fl w1) (lQ Q)) → (w c 0 - m).toNat = n0 → m + 2 < w c 0 → ∀ (w2 : Wd) (x y k : Int) (o6 : Option AV), x = (chS g t (m + 1)).1 → y = (chS g t (m + 1)).2 → k = m + 1 → (∀ p, p < 378 ∨ 383 < p → w2 p = w p) → WR w2 → V mX2_cheapest (Rm d) 0 0 67 [some (vR (some 376)), some (vR (some c)), some (vI t), some (vI x), some (vI y), some (vI k), o6] [] (fl w2) (lQ Q) := by
    intro n0 m ih hm hmn w2 x y k o6 hx2 hy2 hk hf2 hw2
    refine r_iinc5 (pc := 67) dX2_cheapest_67 rfl ?_
    refine r_goto (pc := 70) (tgt := 10) dX2_cheapest_70 rfl ?_
    exact ih _ (by omega) (m + 1) rfl (by omega) _ _ _ _ _ hx2 hy2 (by omega) hf2 hw2
  have loop10 : ∀ n0 : Nat, ∀ m : Nat, (w c 0 - m).toNat = n0 → (m = 0 ∨ m + 1 < w c 0) → ∀ (w1 : Wd) (x y k : Int) (o6 : Option AV), x = (chS g t m).1 → y = (chS g t m).2 → k = m + 1 → (∀ p, p < 378 ∨ 383 < p → w1 p = w p) → WR w1 → V mX2_cheapest (Rm d) 0 0 10 [some (vR (some 376)), some (vR (some c)), some (vI t), some (vI x), some (vI y), some (vI k), o6] [] (fl w1) (lQ Q) := by
    refine ind_lt ?_
    intro n0 ih m hm hmn w1 x y k o6 hx hy hk hf1 hw1
    have cb := chS_b (g := g) g0 ht.1 m
    have ci := chS_in (g := g) (t := t) m
    have n1 : w1 c 0 = w c 0 := by rw [hf1 c (by omega)]
    refine r_iload (pc := 10) dX2_cheapest_10 rfl ?_
    refine r_aload_n (pc := 12) dX2_cheapest_12 rfl ?_
    refine g_X2_22 (pc := 13) rfl dX2_cheapest_13 (by assumption) (by first | assumption | rfl) (fun h13 => ?_)
    refine r_iconst (pc := 16) (n := 1) dX2_cheapest_16 ?_
    refine r_isub (pc := 17) dX2_cheapest_17 ?_
    refine r_icmpge (pc := 18) (tgt := 73) dX2_cheapest_18 rfl (by omega) (by omega) (fun h18 => ?_) (fun h18 => ?_)
    · refine r_iload_n (pc := 73) dX2_cheapest_73 rfl ?_
      exact f_iret (pc := 74) dX2_cheapest_74 rfl (by assumption) (hQ _ _ (by rw [gd, hx, show (w c 0 - 2).toNat = m by omega]) hf1 (by assumption))
    refine r_aload_n (pc := 21) dX2_cheapest_21 rfl ?_
    refine h_X2_18 (pc := 22) rfl dX2_cheapest_22 ?_
    refine r_aload_n (pc := 25) dX2_cheapest_25 rfl ?_
    refine c_X2_49 (pc := 26) rfl dX2_cheapest_26 (by first | assumption | rfl) (by omega) (Nat.le_of_ble_eq_true rfl) ?_
    refine m_X0_copy (d - 1) (by omega) (by assumption) rfl hs (by omega) (by omega) (fun w26 f26 e26 hw26 => ?_)
    refine r_aload_n (pc := 29) dX2_cheapest_29 rfl ?_
    refine h_X2_18 (pc := 30) rfl dX2_cheapest_30 ?_
    refine r_iload (pc := 33) dX2_cheapest_33 rfl ?_
    refine c_X2_45 (pc := 35) rfl dX2_cheapest_35 (by first | assumption | rfl) (by omega) (Nat.le_of_ble_eq_true rfl) ?_
    have n26 : w26 378 0 = w c 0 := by
      have z := e26.1
      exact z.trans n1
    refine m_X0_drop (d - 1) (by omega) (by assumption) rfl (by omega) (by omega) (fun w35 f35 e35 hw35 => ?_)
    have F26 : ∀ p, p < 378 ∨ 383 < p → w26 p = w p := fun p hp => (f26 p (by omega)).trans (hf1 p hp)
    have F35 : ∀ p, p < 378 ∨ 383 < p → w35 p = w p := fun p hp => (f35 p (by omega)).trans (F26 p hp)
    have C1 : CEQ (cx w1 c) (cx w c) := CEQ.of_eq fun r hr j => by unfold cx; rw [hf1 _ (by omega)]
    have T35 : CEQ (delX (cx w c) k) (cx w35 378) := ((e35.tr (delX_cg e26 (by omega))).tr (delX_cg C1 (by omega))).sy
    have D35 : DIN (cx w35 378) s a b := (hD.del (by omega) (by show k + 1 < w c 0; omega)).eq T35
    have N35 : w35 378 0 = w c 0 - 1 := T35.1.symm
    have A35 := D35.2.1 (by show 1 ≤ w35 378 0; omega)
    have A1 : w35 379 0 = a := A35.1
    have A2 : w35 379 (w35 378 0 - 1) = b := A35.2
    have gk : g k = g (m + 1) := by rw [hk]
    have G35 : erS (cx w35 378) s (w35 (378 + 1) 0) (w35 (378 + 1) (w35 378 0 - 1)) = g k := by
      rw [show w35 (378 + 1) 0 = a from A1, show w35 (378 + 1) (w35 378 0 - 1) = b from A2, hg]
      exact (erS_cg (CI_del hD.1 ⟨by omega, by show k < w c 0; omega⟩) T35.v s a b).symm
    refine r_aload_n (pc := 38) dX2_cheapest_38 rfl ?_
    refine h_X2_18 (pc := 39) rfl dX2_cheapest_39 ?_
    refine r_aload_n (pc := 42) dX2_cheapest_42 rfl ?_
    refine h_X2_9 (pc := 43) rfl dX2_cheapest_43 ?_
    refine r_iload (pc := 46) dX2_cheapest_46 rfl ?_
    refine c_X2_53 (pc := 48) rfl dX2_cheapest_48 (by first | assumption | rfl) (by omega) (Nat.le_of_ble_eq_true rfl) ?_
    refine m_X0_distance (s := s) (d - 1) (by omega) (by assumption) rfl (by rw [show w35 (378 + 1) 0 = a from A1, show w35 (378 + 1) (w35 378 0 - 1) = b from A2]; exact D35) (by omega) (by rw [show w35 (378 + 1) 0 = a from A1, show w35 (378 + 1) (w35 378 0 - 1) = b from A2]; intro f f0 f1; rw [F35 377 (by omega)]; exact hsm (by omega) f f0 f1) (by omega) (fun r48 e48 z48 b48 => ?_)
    rw [G35] at e48
    refine r_istore6 (pc := 51) dX2_cheapest_51 rfl ?_
    refine r_iload (pc := 53) dX2_cheapest_53 rfl ?_
    refine r_iload (pc := 55) dX2_cheapest_55 rfl ?_
    refine r_icmpge (pc := 57) (tgt := 67) dX2_cheapest_57 rfl (by omega) (by omega) (fun h57 => ?_) (fun h57 => ?_)
    · exact cut67 n0 m ih hm (by omega) _ _ _ _ _ (by rw [chS_n (by rw [← gk]; omega)]; exact hx) (by rw [chS_n (by rw [← gk]; omega)]; exact hy) hk F35 (by assumption)
    refine r_iload (pc := 60) dX2_cheapest_60 rfl ?_
    refine r_istore3 (pc := 62) dX2_cheapest_62 rfl ?_
    refine r_iload (pc := 63) dX2_cheapest_63 rfl ?_
    refine r_istore4 (pc := 65) dX2_cheapest_65 rfl ?_
    exact cut67 n0 m ih hm (by omega) _ _ _ _ _ (by rw [chS_y (by rw [← gk]; omega)]; exact hk) (by rw [chS_y (by rw [← gk]; omega), ← gk]; show r48 = g k; omega) hk F35 (by assumption)
  refine r_iconst (pc := 0) (n := (-1)) dX2_cheapest_0 ?_
  refine r_istore3 (pc := 1) dX2_cheapest_1 rfl ?_
  refine r_iload_n (pc := 2) dX2_cheapest_2 rfl ?_
  refine r_iconst (pc := 3) (n := 1) dX2_cheapest_3 ?_
  refine r_iadd (pc := 4) dX2_cheapest_4 ?_
  refine r_istore4 (pc := 5) dX2_cheapest_5 rfl ?_
  refine r_iconst (pc := 7) (n := 1) dX2_cheapest_7 ?_
  refine r_istore5 (pc := 8) dX2_cheapest_8 rfl ?_
  exact loop10 _ 0 rfl (Or.inl rfl) _ _ _ _ _ rfl rfl rfl (fun _ _ => rfl) (by assumption)
set_option maxRecDepth 8000 in
theorem m_X2_reduce {Q : Option AV → Wd → Prop} {w : Wd} (d : Nat) {c : Nat} {t : Int} (hd : 8 ≤ d) (hw : WR w) (hs : sh c = 0) (hc : c + 5 < 376) (hI : CI (cx w c)) (ht : 0 ≤ t ∧ t ≤ 9999) (hQ : ∀ r w2, r = w c 0 - decX (cx w c) t 0 0 → CEQ (cx w2 c) (decX (cx w c) t) → (∀ p, (p < c ∨ c + 5 < p) → (p < 377 ∨ 383 < p) → w2 p = w p) → WR w2 → Q (some (vI r)) w2) : M mX2_reduce (Rm d) [vR (some 376), vR (some c), vI t] (fl w) (lQ Q) := by
  obtain ⟨s1, s2, s3, s4, s5⟩ := sh_curve hs
  obtain ⟨hn, P, O, b1, b2, b3, b4⟩ := CIw hI
  have D0 : DIN (cx w c) (valS (cx w c)) (w (c + 1) 0) (w (c + 1) (w c 0 - 1)) := DIN_0 hI
  refine f_mofv (L0 := [some (vR (some 376)), some (vR (some c)), some (vI t), none, none, none, none]) rfl (Nat.le_of_ble_eq_true rfl) rfl ?_
  have cut116 : ∀ (Z : CP) (w1 : Wd) (k i : Int) (e5 : Int), CEQ Z (cx w1 c) → decX (cx w c) t = Z → (∀ p, (p < c ∨ c + 5 < p) → (p < 377 ∨ 383 < p) → w1 p = w p) → WR w1 → V mX2_reduce (Rm d) 0 0 116 [some (vR (some 376)), some (vR (some c)), some (vI t), some (vI (w c 0)), some (vI e5), some (vI k), some (vI i)] [] (fl w1) (lQ Q) := by
    intro Z w1 k i e5 hZ hdec hf1 hw1
    have nZ : w1 c 0 = Z 0 0 := hZ.1.symm
    refine r_iload_n (pc := 116) dX2_reduce_116 rfl ?_
    refine r_aload_n (pc := 117) dX2_reduce_117 rfl ?_
    refine g_X2_22 (pc := 118) rfl dX2_reduce_118 (by assumption) (by first | assumption | rfl) (fun h118 => ?_)
    refine r_isub (pc := 121) dX2_reduce_121 ?_
    exact f_iret (pc := 122) dX2_reduce_122 rfl (by assumption) (hQ _ _ (by rw [hdec, nZ]) (by rw [hdec]; exact hZ.sy) hf1 (by assumption))
  have loop84 : ∀ n0 : Nat, n0 ≤ 24 → ∀ (Z : CP) (w1 : Wd) (k i : Int) (e5 : Int), i = 24 - n0 → CEQ Z (cx w1 c) → DIN Z (valS (cx w c)) (w (c + 1) 0) (w (c + 1) (w c 0 - 1)) → (1 ≤ Z 0 0 → 1 ≤ w c 0) → (1 ≤ w c 0 → ∀ f, w (c + 1) 0 ≤ f → f ≤ w (c + 1) (w c 0 - 1) → w1 377 f = valS (cx w c) f ∧ -200000000 ≤ valS (cx w c) f ∧ valS (cx w c) f ≤ 200000000) → k = dcS Z (valS (cx w c)) t (w (c + 1) 0) (w (c + 1) (w c 0 - 1)) → decX (cx w c) t = decS (valS (cx w c)) t (w (c + 1) 0) (w (c + 1) (w c 0 - 1)) n0 Z → (∀ p, (p < c ∨ c + 5 < p) → (p < 377 ∨ 383 < p) → w1 p = w p) → WR w1 → V mX2_reduce (Rm d) 0 0 84 [some (vR (some 376)), some (vR (some c)), some (vI t), some (vI (w c 0)), some (vI e5), some (vI k), some (vI i)] [] (fl w1) (lQ Q) := by
    intro n0
    induction n0 with
    | zero =>
      intro h24 Z w1 k i e5 hi hZ hD hZ1 hsm hk hdec hf1 hw1
      refine r_iload (pc := 84) dX2_reduce_84 rfl ?_
      refine r_bipush (pc := 86) (n := 24) dX2_reduce_86 (by decide) ?_
      refine r_icmpge (pc := 88) (tgt := 116) dX2_reduce_88 rfl (by omega) (by omega) (fun h88 => ?_) (fun h88 => ?_)
      · exact cut116 Z _ _ _ _ hZ (by rw [hdec]; rfl) hf1 hw1
      · omega
    | succ n0 ih => ?_
    intro h24 Z w1 k i e5 hi hZ hD hZ1 hsm hk hdec hf1 hw1
    have kin := dcS_in Z (valS (cx w c)) t (w (c + 1) 0) (w (c + 1) (w c 0 - 1))
    rw [← hk] at kin
    have nZ : w1 c 0 = Z 0 0 := hZ.1.symm
    have cZ : 0 ≤ Z 0 0 ∧ Z 0 0 ≤ 24 := hD.1.1
    refine r_iload (pc := 84) dX2_reduce_84 rfl ?_
    refine r_bipush (pc := 86) (n := 24) dX2_reduce_86 (by decide) ?_
    refine r_icmpge (pc := 88) (tgt := 116) dX2_reduce_88 rfl (by omega) (by omega) (fun h88 => ?_) (fun h88 => ?_)
    · omega
    refine r_iload (pc := 91) dX2_reduce_91 rfl ?_
    refine r_ifle (pc := 93) (tgt := 116) dX2_reduce_93 rfl (by omega) (fun h93 => ?_) (fun h93 => ?_)
    · exact cut116 Z _ _ _ _ hZ (by rw [hdec]; exact decS_n hk (by omega) _) hf1 (by assumption)
    refine r_aload_n (pc := 96) dX2_reduce_96 rfl ?_
    refine r_iload (pc := 97) dX2_reduce_97 rfl ?_
    refine c_X2_45 (pc := 99) rfl dX2_reduce_99 (by first | assumption | rfl) (by omega) (Nat.le_of_ble_eq_true rfl) ?_
    refine m_X0_drop (d - 1) (by omega) (by assumption) hs (by omega) (by omega) (fun w99 f99 e99 hw99 => ?_)
    have C99 : CEQ (delX Z k) (cx w99 c) := (e99.tr (delX_cg hZ.sy (by omega))).sy
    have D99 := (hD.del (show 0 < k by omega) (by omega)).eq C99
    have SM99 := hsm
    rw [← f99 377 (by omega)] at SM99
    have n99 : w99 c 0 = Z 0 0 - 1 := C99.1.symm
    refine r_aload_n (pc := 102) dX2_reduce_102 rfl ?_
    refine r_aload_n (pc := 103) dX2_reduce_103 rfl ?_
    refine r_iload_n (pc := 104) dX2_reduce_104 rfl ?_
    refine c_X2_41 (pc := 105) rfl dX2_reduce_105 (by first | assumption | rfl) (by omega) (Nat.le_of_ble_eq_true rfl) ?_
    refine m_X2_cheapest (s := valS (cx w c)) (a := w (c + 1) 0) (b := w (c + 1) (w c 0 - 1)) (d - 1) (by omega) (by assumption) hs hc D99 (fun q => SM99 (hZ1 (by omega))) ht (fun r105 w105 e105 f105 hw105 => ?_)
    have C105 : CEQ (delX Z k) (cx w105 c) := C99.tr (cx_kp (fun p a b => f105 p (by omega)))
    have E105 := e105
    rw [← dcS_cg (hD.del (show 0 < k by omega) (by omega)).1 C99.v] at E105
    have SM105 := SM99
    rw [← f105 377 (by omega)] at SM105
    have F105 : ∀ p, (p < c ∨ c + 5 < p) → (p < 377 ∨ 383 < p) → w105 p = w p := fun p p1 p2 => by rw [f105 p (by omega), f99 p (by omega)]; exact hf1 p p1 p2
    refine r_istore5 (pc := 108) dX2_reduce_108 rfl ?_
    refine r_iinc6 (pc := 110) dX2_reduce_110 rfl ?_
    refine r_goto (pc := 113) (tgt := 84) dX2_reduce_113 rfl ?_
    exact ih (by omega) (delX Z k) w105 _ _ _ (by omega) C105 (hD.del (by omega) (by omega)) (fun z => hZ1 (by omega)) SM105 E105 (by rw [hdec]; exact decS_y hk (by omega)) F105 (by assumption)
  have loop45 : ∀ n0 : Nat, ∀ (f e0 f0 : Int) (w1 : Wd) (o6 : Option AV), (e0 + 1 - f).toNat = n0 → (1 ≤ w c 0 → e0 = w (c + 1) (w c 0 - 1) ∧ f0 = w (c + 1) 0) → (w c 0 < 1 → e0 = -1 ∧ f0 = 0) → f0 ≤ f → f ≤ e0 + 1 → (∀ j, f0 ≤ j → j < f → w1 377 j = valS (cx w c) j) → (∀ p, p ≠ 377 → w1 p = w p) → WR w1 → V mX2_reduce (Rm d) 0 0 45 [some (vR (some 376)), some (vR (some c)), some (vI t), some (vI (w c 0)), some (vI e0), some (vI f), o6] [] (fl w1) (lQ Q) := by
    refine ind_lt ?_
    intro n0 ih f e0 f0 w1 o6 hm hy hn0 hf0 hfe hsm hf1 hw1
    have C1 : CEQ (cx w c) (cx w1 c) := cx_kp (fun p a b => hf1 p (by omega))
    have hr : 0 ≤ f ∧ f ≤ 481 ∧ -1 ≤ e0 ∧ e0 ≤ 480 := by
      rcases Int.lt_or_le (w c 0) 1 with q | q
      · have := hn0 q; omega
      · have := hy q; have := P 0 (by omega) (by omega); have := P (w c 0 - 1) (by omega) (by omega); omega
    refine r_iload (pc := 45) dX2_reduce_45 rfl ?_
    refine r_iload (pc := 47) dX2_reduce_47 rfl ?_
    refine r_icmpgt (pc := 49) (tgt := 73) dX2_reduce_49 rfl (by omega) (by omega) (fun h49 => ?_) (fun h49 => ?_)
    · refine r_aload_n (pc := 73) dX2_reduce_73 rfl ?_
      refine r_aload_n (pc := 74) dX2_reduce_74 rfl ?_
      refine r_iload_n (pc := 75) dX2_reduce_75 rfl ?_
      refine c_X2_41 (pc := 76) rfl dX2_reduce_76 (by first | assumption | rfl) (by omega) (Nat.le_of_ble_eq_true rfl) ?_
      have SM1 : 1 ≤ w c 0 → ∀ f, w (c + 1) 0 ≤ f → f ≤ w (c + 1) (w c 0 - 1) → w1 377 f = valS (cx w c) f ∧ -200000000 ≤ valS (cx w c) f ∧ valS (cx w c) f ≤ 200000000 := fun q j j0 j1 => by
        have y := hy q
        have Pf := P 0 (by omega) (by omega)
        have Pf2 := P (w c 0 - 1) (by omega) (by omega)
        exact ⟨hsm j (by omega) (by omega), valS_bd hI (by omega)⟩
      refine m_X2_cheapest (s := valS (cx w c)) (a := w (c + 1) 0) (b := w (c + 1) (w c 0 - 1)) (d - 1) (by omega) (by assumption) hs hc (D0.eq C1) (by rw [hf1 c (by omega)]; exact SM1) ht (fun r76 w76 e76 f76 hw76 => ?_)
      rw [← dcS_cg hI C1.v] at e76
      have C76 : CEQ (cx w c) (cx w76 c) := cx_kp (fun p a b => (f76 p (by omega)).trans (hf1 p (by omega)))
      have SM76 := SM1
      rw [← f76 377 (by omega)] at SM76
      refine r_istore5 (pc := 79) dX2_reduce_79 rfl ?_
      refine r_iconst (pc := 81) (n := 0) dX2_reduce_81 ?_
      refine r_istore6 (pc := 82) dX2_reduce_82 rfl ?_
      exact loop84 24 (by omega) (cx w c) w76 _ _ _ (by omega) C76 D0 (fun z => z) SM76 e76 rfl (fun p p1 p2 => by rw [f76 p (by omega)]; exact hf1 p (by omega)) (by assumption)
    refine r_aload_n (pc := 52) dX2_reduce_52 rfl ?_
    refine h_X2_9 (pc := 53) rfl dX2_reduce_53 ?_
    refine r_iload (pc := 56) dX2_reduce_56 rfl ?_
    refine r_aload_n (pc := 58) dX2_reduce_58 rfl ?_
    refine r_iload (pc := 59) dX2_reduce_59 rfl ?_
    refine c_X2_33 (pc := 61) rfl dX2_reduce_61 (by first | assumption | rfl) (by omega) (Nat.le_of_ble_eq_true rfl) ?_
    have y := hy (by omega)
    have Pf := P 0 (by omega) (by omega)
    have Pf2 := P (w c 0 - 1) (by omega) (by omega)
    refine m_X0_partsAt (d - 1) (by omega) (by assumption) hs (hI.eq C1) (by omega) (fun r61 e61 b61 => ?_)
    refine c_X2_37 (pc := 64) rfl dX2_reduce_64 (by omega) (Nat.le_of_ble_eq_true rfl) ?_
    refine m_X11_put (d - 1) (by omega) (by assumption) (n := 481) (show sh 377 = 1000 + 481 from rfl) (by omega) (by omega) (by omega) (fun w64 e64 hw64 => ?_)
    rw [pA_in (by omega) (by omega)] at e64
    refine r_iinc5 (pc := 67) dX2_reduce_67 rfl ?_
    refine r_goto (pc := 70) (tgt := 45) dX2_reduce_70 rfl ?_
    exact ih _ (by omega) (f + 1) e0 f0 _ _ rfl hy hn0 (by omega) (by omega) (fun j j0 j1 => by
      rw [e64]
      by_cases q : j = f
      · rw [q, up_hit, e61]; exact (valS_cg hI C1.v f).symm
      · rw [up_off (by omega)]; exact hsm j j0 (by omega)) (fun p hp => by rw [e64, up_ne hp]; exact hf1 p hp) (by assumption)
  have cut43 : ∀ e0 : Int, e0 = (if w c 0 < 1 then -1 else w (c + 1) (w c 0 - 1)) → ∀ z : Int, z = (if w c 0 < 1 then 0 else w (c + 1) 0) → V mX2_reduce (Rm d) 0 0 43 [some (vR (some 376)), some (vR (some c)), some (vI t), some (vI (w c 0)), some (vI e0), none, none] [vI z] (fl w) (lQ Q) := by
    intro e0 he z hz
    refine r_istore5 (pc := 43) dX2_reduce_43 rfl ?_
    exact loop45 _ z e0 z w _ rfl (fun q => ⟨by rw [he, if_neg (by omega)], by rw [hz, if_neg (by omega)]⟩) (fun q => ⟨by rw [he, if_pos (by omega)], by rw [hz, if_pos (by omega)]⟩) (Int.le_refl _) (cut_le hI he hz) (fun j j0 j1 => by omega) (fun _ _ => rfl) (by assumption)
  have cut24 : ∀ e0 : Int, e0 = (if w c 0 < 1 then -1 else w (c + 1) (w c 0 - 1)) → V mX2_reduce (Rm d) 0 0 24 [some (vR (some 376)), some (vR (some c)), some (vI t), some (vI (w c 0)), none, none, none] [vI e0] (fl w) (lQ Q) := by
    intro e0 he
    refine r_istore4 (pc := 24) dX2_reduce_24 rfl ?_
    refine r_iload_n (pc := 26) dX2_reduce_26 rfl ?_
    refine r_iconst (pc := 27) (n := 1) dX2_reduce_27 ?_
    refine r_icmpge (pc := 28) (tgt := 35) dX2_reduce_28 rfl (by omega) (by omega) (fun h28 => ?_) (fun h28 => ?_)
    · refine r_aload_n (pc := 35) dX2_reduce_35 rfl ?_
      refine g_X2_26 (pc := 36) rfl dX2_reduce_36 (by first | assumption | rfl) ?_
      refine r_iconst (pc := 39) (n := 0) dX2_reduce_39 ?_
      refine c_X2_29 (pc := 40) rfl dX2_reduce_40 (by omega) (Nat.le_of_ble_eq_true rfl) ?_
      refine m_X11_at (d - 1) (by omega) (by assumption) (n := 24) (by assumption) (by omega) (by omega) (fun r40 e40 b40 => ?_)
      rw [gA_in (by omega) (by omega)] at e40
      exact cut43 e0 he _ (by rw [if_neg (by omega)]; exact e40)
    refine r_iconst (pc := 31) (n := 0) dX2_reduce_31 ?_
    refine r_goto (pc := 32) (tgt := 43) dX2_reduce_32 rfl ?_
    exact cut43 e0 he _ (if_pos (by omega)).symm
  refine r_aload_n (pc := 0) dX2_reduce_0 rfl ?_
  refine g_X2_22 (pc := 1) rfl dX2_reduce_1 (by assumption) (by first | assumption | rfl) (fun h1 => ?_)
  refine r_istore3 (pc := 4) dX2_reduce_4 rfl ?_
  refine r_iload_n (pc := 5) dX2_reduce_5 rfl ?_
  refine r_iconst (pc := 6) (n := 1) dX2_reduce_6 ?_
  refine r_icmpge (pc := 7) (tgt := 14) dX2_reduce_7 rfl (by omega) (by omega) (fun h7 => ?_) (fun h7 => ?_)
  · refine r_aload_n (pc := 14) dX2_reduce_14 rfl ?_
    refine g_X2_26 (pc := 15) rfl dX2_reduce_15 (by first | assumption | rfl) ?_
    refine r_iload_n (pc := 18) dX2_reduce_18 rfl ?_
    refine r_iconst (pc := 19) (n := 1) dX2_reduce_19 ?_
    refine r_isub (pc := 20) dX2_reduce_20 ?_
    refine c_X2_29 (pc := 21) rfl dX2_reduce_21 (by omega) (Nat.le_of_ble_eq_true rfl) ?_
    refine m_X11_at (d - 1) (by omega) (by assumption) (n := 24) (by assumption) (by omega) (by omega) (fun r21 e21 b21 => ?_)
    rw [gA_in (by omega) (by omega)] at e21
    exact cut24 _ (by rw [if_neg (by omega)]; exact e21)
  refine r_iconst (pc := 10) (n := (-1)) dX2_reduce_10 ?_
  refine r_goto (pc := 11) (tgt := 24) dX2_reduce_11 rfl ?_
  exact cut24 _ (if_pos (by omega)).symm
