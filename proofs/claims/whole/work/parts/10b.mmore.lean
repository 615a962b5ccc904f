/-! the model's map, baking, lines -/
theorem rdA {w : Wd} {b n : Int} {s : Int → Int} (hs : ∀ j, 0 ≤ j → j < n → w 386 (b + j) = s j) {i j : Int} (h : i = b + j) (h0 : 0 ≤ j) (h1 : j < n) : w 386 i = s j := by
  rw [h]; exact hs j h0 h1
theorem rdi_ex {d B : Int} (hd : 1 ≤ d ∧ d ≤ 480) (hB : -1000 ≤ B ∧ B ≤ 1000) : rdi (d * B) d = B := by
  have m := mul_bd (a := d) (b := B) (P := 480) (R := 1000) (by omega) hd.2 (by omega) hB.2
  rw [rdi_eq (B := 480000) (by omega) (by omega) (by omega) (by omega) (by omega) (by omega)]
  exact dvu (by omega) (by rw [Int.mul_assoc]; omega) (by rw [Int.mul_assoc]; omega)
theorem sndS_bd {n f : Int} {s t : Int → Int} (h : MI n s t) (hf : 0 ≤ f ∧ f ≤ 480) : -300000 ≤ sndS n s t f ∧ sndS n s t f ≤ 300000 := by
  obtain ⟨n0, n8, P, O⟩ := h
  obtain ⟨k0, k1, k2, k3⟩ := kb_KB s f n.toNat
  rw [show ((n.toNat : Nat) : Int) = n by omega] at k1 k3
  unfold sndS
  split
  · omega
  split
  · have := P 0 (by omega) (by omega)
    omega
  split
  · have := P (n - 1) (by omega) (by omega)
    omega
  · have p1 := P (kb s f n.toNat) (by omega) (by omega)
    have p2 := P (kb s f n.toNat - 1) (by omega) (by omega)
    have o := O (kb s f n.toNat - 1) (kb s f n.toNat) (by omega) (by omega) (by omega)
    have m := mul_bd (a := f - s (kb s f n.toNat - 1)) (b := t (kb s f n.toNat) - t (kb s f n.toNat - 1)) (P := 480) (R := 480) (by omega) (by omega) (by omega) (by omega)
    have r := rdi_bd (n := (f - s (kb s f n.toNat - 1)) * (t (kb s f n.toNat) - t (kb s f n.toNat - 1))) (d := s (kb s f n.toNat) - s (kb s f n.toNat - 1)) (B := 230400) (by omega) (by omega) (by omega) (by omega) (by omega) (by omega)
    omega
theorem snd_last {n f : Int} {s t : Int → Int} (h : MI n s t) (hn : n ≠ 0) (h1 : s 0 < f) (h2 : s (n - 1) ≤ f) : sndS n s t f = f + t (n - 1) - s (n - 1) := by
  obtain ⟨n0, n8, P, O⟩ := h
  by_cases e : f = s (n - 1)
  · have n2 : 1 < n := by
      rcases Int.lt_or_le 1 n with z | z
      · exact z
      · rw [show n - 1 = 0 by omega] at e; omega
    have p1 := P (n - 1) (by omega) (by omega)
    have p2 := P (n - 1 - 1) (by omega) (by omega)
    have o := O (n - 1 - 1) (n - 1) (by omega) (by omega) (by omega)
    rw [sndS_mid hn (kbN_of n0 (r := n - 1) ⟨by omega, by omega, fun j a b => by have := O j (n - 1) a b (by omega); omega, fun _ => by omega⟩) ⟨by omega, by omega⟩, e, rdi_ex (by omega) (by omega)]
    omega
  · have l : ∀ j, 0 ≤ j → j < n → s j < f := fun j a b => by
      rcases Int.lt_or_le j (n - 1) with z | z
      · have := O j (n - 1) a z (by omega); omega
      · rw [show j = n - 1 by omega]; omega
    exact sndS_end hn (kbN_of n0 (r := n) ⟨by omega, Int.le_refl n, l, fun z => by omega⟩) (Or.inr ⟨hn, rfl, rfl⟩)
theorem str_y {n x f o i : Int} {s t : Int → Int} (h : MI n s t) (h0 : 0 ≤ i) (h1 : i + 1 < n) (h2 : s i < f + o) (h3 : f + o ≤ s (i + 1)) : strS n s t x f o = lim (rndW (x * (s (i + 1) - s i)) (t (i + 1) - t i)) 9999 := by
  obtain ⟨n0, n8, P, O⟩ := h
  have z := strS_mid (n := n) (b := i + 1) (x := x) (f := f) (o := o) (s := s) (t := t) (kbN_of n0 ⟨by omega, by omega, fun j a b => by
    rcases Int.lt_or_le j i with z | z
    · have := O j i a z (by omega); omega
    · rw [show j = i by omega]; exact h2, fun _ => h3⟩) ⟨by omega, by omega⟩
  rw [show i + 1 - 1 = i by omega] at z
  exact z
theorem str_n {n x f o : Int} {s t : Int → Int} (h : MI n s t) (hj : ∀ j, 0 ≤ j → j + 1 < n → ¬ (s j < f + o ∧ f + o ≤ s (j + 1))) : strS n s t x f o = x := by
  obtain ⟨n0, n8, P, O⟩ := h
  obtain ⟨k0, k1, k2, k3⟩ := kb_KB s (f + o) n.toNat
  rw [show ((n.toNat : Nat) : Int) = n by omega] at k1 k3
  refine strS_end rfl ?_
  by_cases e : kb s (f + o) n.toNat = 0 ∨ kb s (f + o) n.toNat = n
  · exact e
  · exfalso
    have a := k2 (kb s (f + o) n.toNat - 1) (by omega) (by omega)
    have b := k3 (by omega)
    have c := hj (kb s (f + o) n.toNat - 1) (by omega) (by omega)
    rw [show kb s (f + o) n.toNat - 1 + 1 = kb s (f + o) n.toNat by omega] at c
    exact c ⟨a, b⟩
theorem strS_bd {n x f o : Int} {s t : Int → Int} (hx : -9999 ≤ x ∧ x ≤ 9999) : -9999 ≤ strS n s t x f o ∧ strS n s t x f o ≤ 9999 := by
  unfold strS
  split
  · exact hx
  · exact lim_bd _ (by omega)
def rmv (A B k : Int) : Int := if B ≤ k + 1 then 0 else if k + 1 ≤ A then B - A else B - (k + 1)
theorem rmv_end {A B k : Int} (h : 0 ≤ A ∧ A ≤ B) (hk : k = -1) : rmv A B k = B - A := by
  unfold rmv
  repeat' split
  all_goals omega
theorem rmv_no {A B k : Int} (h : 0 ≤ A ∧ A ≤ B) (hk : k < A ∨ B ≤ k) : rmv A B (k + -1) = rmv A B k := by
  unfold rmv
  repeat' split
  all_goals omega
theorem rmv_yes {A B k : Int} (h : 0 ≤ A ∧ A ≤ B) (hk : A ≤ k ∧ k < B) : rmv A B (k + -1) = rmv A B k + 1 := by
  unfold rmv
  repeat' split
  all_goals omega
theorem rmv_bd {A B k : Int} (h : 0 ≤ A ∧ A ≤ B) : 0 ≤ rmv A B k ∧ rmv A B k ≤ B - A ∧ (k < B → rmv A B k ≤ B - 1 - k) ∧ (A ≤ k → k < B → rmv A B k = B - 1 - k) ∧ (B ≤ k → rmv A B k = 0) := by
  unfold rmv
  repeat' split
  all_goals omega
theorem steps_ub {x e i : Int} (he : 1 ≤ e) (h : i ≤ x / e + 1) : i * e ≤ x + e := by
  have := steps_mul (i := i - 1) (x := x) he (by omega)
  rw [Int.sub_mul, Int.one_mul] at this
  omega
theorem dlX_n {X : CP} {b i : Int} : dlX X b i 0 0 = X 0 0 - i := rfl
theorem dlX_lt {X : CP} {b i j : Int} {r : Nat} (h : 1 ≤ r) (h1 : j < b - i) : dlX X b i r j = X r j := by
  unfold dlX
  rw [if_neg (show ¬ r = 0 by omega), if_pos h1]
theorem dlX_ge {X : CP} {b i j : Int} {r : Nat} (h : 1 ≤ r) (h1 : b - i ≤ j) : dlX X b i r j = X r (j + i) := by
  unfold dlX
  rw [if_neg (show ¬ r = 0 by omega), if_neg (show ¬ j < b - i by omega)]
theorem dlX_e {X : CP} {b i j : Int} (h : j ≠ 0) : dlX X b i 0 j = X 0 j := by
  unfold dlX
  rw [if_pos rfl, if_neg h]
theorem dlX_CI {X : CP} (h : CI X) {b i : Int} (hi : 0 ≤ i ∧ i ≤ b) (hb : b ≤ X 0 0) : CI (dlX X b i) := by
  obtain ⟨hn, P, O, c⟩ := h
  have a1 : (1 : Nat) ≤ 1 := by omega
  have a2 : (1 : Nat) ≤ 2 := by omega
  have a3 : (1 : Nat) ≤ 3 := by omega
  have a4 : (1 : Nat) ≤ 4 := by omega
  have a5 : (1 : Nat) ≤ 5 := by omega
  refine ⟨by rw [dlX_n]; omega, fun j h0 hj => ?_, fun p j h0 hij hj => ?_, by rw [dlX_e (by omega), dlX_e (by omega)]; exact c⟩
  · rw [dlX_n] at hj
    rcases Int.lt_or_le j (b - i) with z | z
    · rw [dlX_lt a1 z, dlX_lt a2 z, dlX_lt a3 z, dlX_lt a4 z, dlX_lt a5 z]; exact P j h0 (by omega)
    · rw [dlX_ge a1 z, dlX_ge a2 z, dlX_ge a3 z, dlX_ge a4 z, dlX_ge a5 z]; exact P (j + i) (by omega) (by omega)
  · rw [dlX_n] at hj
    rcases Int.lt_or_le j (b - i) with z | z
    · rw [dlX_lt a1 z, dlX_lt a1 (by omega)]; exact O p j h0 hij (by omega)
    · rw [dlX_ge a1 z]
      rcases Int.lt_or_le p (b - i) with y | y
      · rw [dlX_lt a1 y]; exact O p (j + i) h0 (by omega) (by omega)
      · rw [dlX_ge a1 y]; exact O (p + i) (j + i) (by omega) (by omega) (by omega)
def SEP (Y : CP) (a b : Int) : Prop := ∀ j, 0 ≤ j → j < Y 0 0 → Y 1 j < a ∨ b < Y 1 j
theorem dlX_sep {X : CP} (h : CI X) {a b : Int} : SEP (dlX X (kbX X (b + 1)) (kbX X (b + 1) - kbX X a)) a b := fun j j0 j1 => by
  obtain ⟨a0, a1, a2, a3⟩ := kbX_KB h.1.1 a
  obtain ⟨b0, b1, b2, b3⟩ := kbX_KB h.1.1 (b + 1)
  rw [dlX_n] at j1
  rcases Int.lt_or_le j (kbX X a) with z | z
  · rw [dlX_lt (by omega) (by omega)]
    exact Or.inl (a2 j j0 z)
  · rw [dlX_ge (by omega) (by omega)]
    have l := b3 (by omega)
    have f := frs_le h b0 (show kbX X (b + 1) ≤ j + (kbX X (b + 1) - kbX X a) by omega) (by omega)
    exact Or.inr (by omega)
theorem inN_s {Y : CP} {g : Int → Int} {f e : Int} {i : Nat} : inN Y g f e (i + 1) = insX (inN Y g f e i) (kbX (inN Y g f e i) (f + i * e)) (v5 (f + i * e) (g i) 2 0 0) := rfl
theorem inN_ok {Y : CP} {g : Int → Int} {a b e : Int} (hY : CI Y) (hs : SEP Y a b) (ha : 0 ≤ a) (hb : b ≤ 480) (he : 1 ≤ e) : ∀ i : Nat, Y 0 0 + i ≤ 24 → (∀ j : Nat, j < i → a + j * e ≤ b ∧ -999 ≤ g j ∧ g j ≤ 999) → CI (inN Y g a e i) ∧ SEP (inN Y g a e i) (a + i * e) b
  | 0, _, _ => ⟨hY, by rw [show a + ((0 : Nat) : Int) * e = a by simp]; exact hs⟩
  | i + 1, hn, hg => by
    obtain ⟨c, s⟩ := inN_ok hY hs ha hb he i (by omega) (fun j hj => hg j (by omega))
    have n := inN_n (Y := Y) (g := g) (f := a) (e := e) i
    obtain ⟨g1, g2, g3⟩ := hg i (by omega)
    have z := kbX_KB c.1.1 (a + i * e)
    have me : (i : Int) * e ≥ 0 := Int.mul_nonneg (by omega) (by omega)
    have es : a + ((i + 1 : Nat) : Int) * e = a + i * e + e := by
      rw [show ((i + 1 : Nat) : Int) = (i : Int) + 1 by omega, Int.add_mul, Int.one_mul]
      omega
    rw [inN_s, es]
    refine ⟨CI_ins c (by omega) z (fun h => ?_) ⟨by show 0 ≤ a + i * e; omega, by show a + i * e ≤ 480; omega, g2, g3, by show 0 ≤ (2 : Int); omega, by show (2 : Int) ≤ 6; omega, by show -9999 ≤ (0 : Int); omega, by show (0 : Int) ≤ 9999; omega, by show -9999 ≤ (0 : Int); omega, by show (0 : Int) ≤ 9999; omega⟩, fun j j0 j1 => ?_⟩
    · show _ ≠ a + i * e
      have := s _ z.1 h
      omega
    · rw [insX_n] at j1
      rcases Int.lt_trichotomy j (kbX (inN Y g a e i) (a + i * e)) with y | y | y
      · rw [insX_lt (by omega) y]
        have := s j j0 (by have := z.2.1; omega)
        omega
      · rw [y, insX_eq (by omega)]
        show a + i * e < _ ∨ _
        omega
      · rw [insX_gt (by omega) y]
        have := s (j - 1) (by have := z.1; omega) (by omega)
        omega
theorem inN_cg {Y : CP} {g h : Int → Int} {f e : Int} : ∀ i : Nat, (∀ j : Nat, j < i → g j = h j) → inN Y g f e i = inN Y h f e i
  | 0, _ => rfl
  | i + 1, z => by
    rw [inN_s, inN_s, inN_cg i (fun j hj => z j (by omega)), z i (by omega)]
/-- the model's choice of a next frame -/
def CNJ (F G s : Int → Int) (t a : Int) (m : Nat) (x y z : Int) : Prop := (m = 0 ∧ x = 100) ∨ (m ≠ 0 ∧ CNI F G s t a m x y z)
theorem CJ_y {F G s : Int → Int} {t a : Int} {m : Nat} {x y z e f g : Int} (h : CNJ F G s t a m x y z) (he : e = a + 1 + m) (hf : f = mfS s t a e) (h0 : 0 ≤ f) (hx : F e + 1 < x ∨ (F e + 1 = x ∧ f + G e < y)) (hg : g = f + G e) : CNJ F G s t a (m + 1) (F e + 1) g e := by
  refine Or.inr ⟨by omega, ?_⟩
  rcases h with ⟨h1, h2⟩ | ⟨h1, h2⟩
  · exact CN_y (x := 2147483647) (y := 2147483647) (z := 0) (by subst h1; exact ⟨rfl, rfl⟩) he hf h0 (Or.inr (Or.inr h1)) hg
  · exact CN_y h2 he hf h0 (by omega) hg
theorem CJ_n {F G s : Int → Int} {t a : Int} {m : Nat} {x y z e : Int} (h : CNJ F G s t a m x y z) (he : e = a + 1 + m) (hm : m ≠ 0) (hx : mfS s t a e < 0 ∨ (x ≤ F e + 1 ∧ (F e + 1 = x → y ≤ mfS s t a e + G e))) : CNJ F G s t a (m + 1) x y z := by
  rcases h with ⟨h1, h2⟩ | ⟨h1, h2⟩
  · exact absurd h1 hm
  · exact Or.inr ⟨by omega, CN_n h2 he hm hx⟩
theorem FQ_rows {q : Int} {w w2 : Wd} (f : FQ q w w2) {i : Nat} (h : i ≠ 386) : w2 i = w i := f.1 i h
set_option maxRecDepth 8000 in
theorem m_X12_sent {Q : Option AV → Wd → Prop} {w : Wd} (d : Nat) {t : Int} (hd : 2 ≤ d) (hw : WR w) {n : Int} {s g : Int → Int} (hn : w 386 512 = n) (hs : ∀ j, 0 ≤ j → j < n → w 386 (513 + j) = s j) (hg : ∀ j, 0 ≤ j → j < n → w 386 (521 + j) = g j) (hM : MI n s g) (ht : 0 ≤ t ∧ t ≤ 480) (hQ : ∀ r, r = sndS n s g t → -300000 ≤ r → r ≤ 300000 → Q (some (vI r)) w) : M mX12_sent (Rm d) [vR (some 385), vI t] (fl w) (lQ Q) := by
  obtain ⟨n0, n8, P, O⟩ := id hM
  have SB := sndS_bd hM ht
  have E : ∀ z, z = sndS n s g t → Q (some (vI z)) w := fun z hz => hQ z hz (by omega) (by omega)
  refine f_mofv (L0 := [some (vR (some 385)), some (vI t), none, none, none, none]) rfl (Nat.le_of_ble_eq_true rfl) rfl ?_
  have loop93 : n ≠ 0 → t < s (n - 1) → ∀ n1 : Nat, ∀ i : Int, (n - i).toNat = n1 → 0 ≤ i → i + 1 < n → s i < t → V mX12_sent (Rm d) 0 0 93 [some (vR (some 385)), some (vI t), some (vI n), some (vI i), none, none] [] (fl w) (lQ Q) := by
    intro hn0 hlt
    refine ind_lt ?_
    intro n1 ih i hm hi0 hin hsi
    have Pi := P i hi0 (by omega)
    have Pj := P (i + 1) (by omega) hin
    have Oi := O i (i + 1) hi0 (by omega) hin
    refine r_aload_n (pc := 93) dX12_sent_93 rfl ?_
    refine h_X12_7 (pc := 94) rfl dX12_sent_94 ?_
    refine r_sipush (pc := 97) (n := 513) dX12_sent_97 (by decide) ?_
    refine r_iload_n (pc := 100) dX12_sent_100 rfl ?_
    refine r_iadd (pc := 101) dX12_sent_101 ?_
    refine r_iconst (pc := 102) (n := 1) dX12_sent_102 ?_
    refine r_iadd (pc := 103) dX12_sent_103 ?_
    refine f_iald (pc := 104) dX12_sent_104 (n := 660) (by assumption) (by first | assumption | rfl) (by omega) (by omega) (by omega) (fun h104 => ?_)
    rw [rdA hs (i := 513 + i + 1) (j := i + 1) (by omega) (by omega) (by omega)] at h104 ⊢
    refine r_iload_n (pc := 105) dX12_sent_105 rfl ?_
    refine r_icmpge (pc := 106) (tgt := 115) dX12_sent_106 rfl (by omega) (by omega) (fun h106 => ?_) (fun h106 => ?_)
    · refine r_iload_n (pc := 115) dX12_sent_115 rfl ?_
      refine r_aload_n (pc := 116) dX12_sent_116 rfl ?_
      refine h_X12_7 (pc := 117) rfl dX12_sent_117 ?_
      refine r_sipush (pc := 120) (n := 513) dX12_sent_120 (by decide) ?_
      refine r_iload_n (pc := 123) dX12_sent_123 rfl ?_
      refine r_iadd (pc := 124) dX12_sent_124 ?_
      refine f_iald (pc := 125) dX12_sent_125 (n := 660) (by assumption) (by first | assumption | rfl) (by omega) (by omega) (by omega) (fun h125 => ?_)
      rw [rdA hs (i := 513 + i) (j := i) (by omega) (by omega) (by omega)] at h125 ⊢
      refine r_isub (pc := 126) dX12_sent_126 ?_
      refine r_i2l (pc := 127) dX12_sent_127 (by first | assumption | omega) ?_
      refine r_aload_n (pc := 128) dX12_sent_128 rfl ?_
      refine h_X12_7 (pc := 129) rfl dX12_sent_129 ?_
      refine r_sipush (pc := 132) (n := 521) dX12_sent_132 (by decide) ?_
      refine r_iload_n (pc := 135) dX12_sent_135 rfl ?_
      refine r_iadd (pc := 136) dX12_sent_136 ?_
      refine r_iconst (pc := 137) (n := 1) dX12_sent_137 ?_
      refine r_iadd (pc := 138) dX12_sent_138 ?_
      refine f_iald (pc := 139) dX12_sent_139 (n := 660) (by assumption) (by first | assumption | rfl) (by omega) (by omega) (by omega) (fun h139 => ?_)
      rw [rdA hg (i := 521 + i + 1) (j := i + 1) (by omega) (by omega) (by omega)] at h139 ⊢
      refine r_aload_n (pc := 140) dX12_sent_140 rfl ?_
      refine h_X12_7 (pc := 141) rfl dX12_sent_141 ?_
      refine r_sipush (pc := 144) (n := 521) dX12_sent_144 (by decide) ?_
      refine r_iload_n (pc := 147) dX12_sent_147 rfl ?_
      refine r_iadd (pc := 148) dX12_sent_148 ?_
      refine f_iald (pc := 149) dX12_sent_149 (n := 660) (by assumption) (by first | assumption | rfl) (by omega) (by omega) (by omega) (fun h149 => ?_)
      rw [rdA hg (i := 521 + i) (j := i) (by omega) (by omega) (by omega)] at h149 ⊢
      refine r_isub (pc := 150) dX12_sent_150 ?_
      refine r_i2l (pc := 151) dX12_sent_151 (by first | assumption | omega) ?_
      refine r_lmul (pc := 152) dX12_sent_152 ?_
      refine r_lstore4 (pc := 153) dX12_sent_153 rfl ?_
      refine r_aload_n (pc := 155) dX12_sent_155 rfl ?_
      refine h_X12_7 (pc := 156) rfl dX12_sent_156 ?_
      refine r_sipush (pc := 159) (n := 521) dX12_sent_159 (by decide) ?_
      refine r_iload_n (pc := 162) dX12_sent_162 rfl ?_
      refine r_iadd (pc := 163) dX12_sent_163 ?_
      refine f_iald (pc := 164) dX12_sent_164 (n := 660) (by assumption) (by first | assumption | rfl) (by omega) (by omega) (by omega) (fun h164 => ?_)
      rw [rdA hg (i := 521 + i) (j := i) (by omega) (by omega) (by omega)] at h164 ⊢
      refine r_lload (pc := 165) dX12_sent_165 rfl ?_
      refine r_aload_n (pc := 167) dX12_sent_167 rfl ?_
      refine h_X12_7 (pc := 168) rfl dX12_sent_168 ?_
      refine r_sipush (pc := 171) (n := 513) dX12_sent_171 (by decide) ?_
      refine r_iload_n (pc := 174) dX12_sent_174 rfl ?_
      refine r_iadd (pc := 175) dX12_sent_175 ?_
      refine r_iconst (pc := 176) (n := 1) dX12_sent_176 ?_
      refine r_iadd (pc := 177) dX12_sent_177 ?_
      refine f_iald (pc := 178) dX12_sent_178 (n := 660) (by assumption) (by first | assumption | rfl) (by omega) (by omega) (by omega) (fun h178 => ?_)
      rw [rdA hs (i := 513 + i + 1) (j := i + 1) (by omega) (by omega) (by omega)] at h178 ⊢
      refine r_aload_n (pc := 179) dX12_sent_179 rfl ?_
      refine h_X12_7 (pc := 180) rfl dX12_sent_180 ?_
      refine r_sipush (pc := 183) (n := 513) dX12_sent_183 (by decide) ?_
      refine r_iload_n (pc := 186) dX12_sent_186 rfl ?_
      refine r_iadd (pc := 187) dX12_sent_187 ?_
      refine f_iald (pc := 188) dX12_sent_188 (n := 660) (by assumption) (by first | assumption | rfl) (by omega) (by omega) (by omega) (fun h188 => ?_)
      rw [rdA hs (i := 513 + i) (j := i) (by omega) (by omega) (by omega)] at h188 ⊢
      refine r_isub (pc := 189) dX12_sent_189 ?_
      refine r_i2l (pc := 190) dX12_sent_190 (by first | assumption | omega) ?_
      refine c_X12_93 (pc := 191) rfl dX12_sent_191 (by omega) (Nat.le_of_ble_eq_true rfl) ?_
      have MB := mul_bd (a := t - s i) (b := g (i + 1) - g i) (P := 480) (R := 480) (by omega) (by omega) (by omega) (by omega)
      refine m_X12_round (d - 1) (by omega) (by assumption) (by omega) (fun r191 e191 => ?_)
      refine r_l2i (pc := 194) dX12_sent_194 ?_
      refine rep_I (zi_w32 _) ?_
      refine r_iadd (pc := 195) dX12_sent_195 ?_
      exact f_iret (pc := 196) dX12_sent_196 rfl (by assumption) (E _ (by rw [sndS_mid hn0 (kbN_of n0 (r := i + 1) ⟨by omega, by omega, fun j a b => by rcases Int.lt_or_le j i with z | z
        <;> first | (have := O j i a z (by omega); omega) | (rw [show j = i by omega]; exact hsi), fun _ => by omega⟩) ⟨by omega, by omega⟩, e191, show i + 1 - 1 = i by omega]; rfl))
    refine r_iinc3 (pc := 109) dX12_sent_109 rfl ?_
    refine r_goto (pc := 112) (tgt := 93) dX12_sent_112 rfl ?_
    exact ih _ (by omega) (i + 1) rfl (by omega) (by rcases Int.lt_or_le (i + 1 + 1) n with z | z
      <;> first | omega | (rw [show n - 1 = i + 1 by omega] at hlt; omega)) (by omega)
  refine r_aload_n (pc := 0) dX12_sent_0 rfl ?_
  refine h_X12_7 (pc := 1) rfl dX12_sent_1 ?_
  refine r_sipush (pc := 4) (n := 512) dX12_sent_4 (by decide) ?_
  refine f_iald (pc := 7) dX12_sent_7 (n := 660) (by assumption) (by first | assumption | rfl) (by omega) (by omega) (by omega) (fun h7 => ?_)
  rw [hn] at h7 ⊢
  refine r_istore2 (pc := 8) dX12_sent_8 rfl ?_
  refine r_iload_n (pc := 9) dX12_sent_9 rfl ?_
  refine r_ifne (pc := 10) (tgt := 15) dX12_sent_10 rfl (by omega) (fun h10 => ?_) (fun h10 => ?_)
  · have P0 := P 0 (by omega) (by omega)
    have Pl := P (n - 1) (by omega) (by omega)
    refine r_iload_n (pc := 15) dX12_sent_15 rfl ?_
    refine r_aload_n (pc := 16) dX12_sent_16 rfl ?_
    refine h_X12_7 (pc := 17) rfl dX12_sent_17 ?_
    refine r_sipush (pc := 20) (n := 513) dX12_sent_20 (by decide) ?_
    refine f_iald (pc := 23) dX12_sent_23 (n := 660) (by assumption) (by first | assumption | rfl) (by omega) (by omega) (by omega) (fun h23 => ?_)
    rw [rdA hs (i := 513) (j := 0) (by omega) (by omega) (by omega)] at h23 ⊢
    refine r_icmpgt (pc := 24) (tgt := 47) dX12_sent_24 rfl (by omega) (by omega) (fun h24 => ?_) (fun h24 => ?_)
    · refine r_iload_n (pc := 47) dX12_sent_47 rfl ?_
      refine r_aload_n (pc := 48) dX12_sent_48 rfl ?_
      refine h_X12_7 (pc := 49) rfl dX12_sent_49 ?_
      refine r_sipush (pc := 52) (n := 513) dX12_sent_52 (by decide) ?_
      refine r_iload_n (pc := 55) dX12_sent_55 rfl ?_
      refine r_iadd (pc := 56) dX12_sent_56 ?_
      refine r_iconst (pc := 57) (n := 1) dX12_sent_57 ?_
      refine r_isub (pc := 58) dX12_sent_58 ?_
      refine f_iald (pc := 59) dX12_sent_59 (n := 660) (by assumption) (by first | assumption | rfl) (by omega) (by omega) (by omega) (fun h59 => ?_)
      rw [rdA hs (i := 513 + n - 1) (j := n - 1) (by omega) (by omega) (by omega)] at h59 ⊢
      refine r_icmplt (pc := 60) (tgt := 91) dX12_sent_60 rfl (by omega) (by omega) (fun h60 => ?_) (fun h60 => ?_)
      · refine r_iconst (pc := 91) (n := 0) dX12_sent_91 ?_
        refine r_istore3 (pc := 92) dX12_sent_92 rfl ?_
        exact loop93 (by omega) h60 _ 0 rfl (by omega) (by rcases Int.lt_or_le 1 n with z | z
          <;> first | omega | (rw [show n - 1 = 0 by omega] at h60; omega)) (by omega)
      refine r_iload_n (pc := 63) dX12_sent_63 rfl ?_
      refine r_aload_n (pc := 64) dX12_sent_64 rfl ?_
      refine h_X12_7 (pc := 65) rfl dX12_sent_65 ?_
      refine r_sipush (pc := 68) (n := 521) dX12_sent_68 (by decide) ?_
      refine r_iload_n (pc := 71) dX12_sent_71 rfl ?_
      refine r_iadd (pc := 72) dX12_sent_72 ?_
      refine r_iconst (pc := 73) (n := 1) dX12_sent_73 ?_
      refine r_isub (pc := 74) dX12_sent_74 ?_
      refine f_iald (pc := 75) dX12_sent_75 (n := 660) (by assumption) (by first | assumption | rfl) (by omega) (by omega) (by omega) (fun h75 => ?_)
      rw [rdA hg (i := 521 + n - 1) (j := n - 1) (by omega) (by omega) (by omega)] at h75 ⊢
      refine r_iadd (pc := 76) dX12_sent_76 ?_
      refine r_aload_n (pc := 77) dX12_sent_77 rfl ?_
      refine h_X12_7 (pc := 78) rfl dX12_sent_78 ?_
      refine r_sipush (pc := 81) (n := 513) dX12_sent_81 (by decide) ?_
      refine r_iload_n (pc := 84) dX12_sent_84 rfl ?_
      refine r_iadd (pc := 85) dX12_sent_85 ?_
      refine r_iconst (pc := 86) (n := 1) dX12_sent_86 ?_
      refine r_isub (pc := 87) dX12_sent_87 ?_
      refine f_iald (pc := 88) dX12_sent_88 (n := 660) (by assumption) (by first | assumption | rfl) (by omega) (by omega) (by omega) (fun h88 => ?_)
      rw [rdA hs (i := 513 + n - 1) (j := n - 1) (by omega) (by omega) (by omega)] at h88 ⊢
      refine r_isub (pc := 89) dX12_sent_89 ?_
      exact f_iret (pc := 90) dX12_sent_90 rfl (by assumption) (E _ (snd_last hM (by omega) (by omega) (by omega)).symm)
    refine r_iload_n (pc := 27) dX12_sent_27 rfl ?_
    refine r_aload_n (pc := 28) dX12_sent_28 rfl ?_
    refine h_X12_7 (pc := 29) rfl dX12_sent_29 ?_
    refine r_sipush (pc := 32) (n := 521) dX12_sent_32 (by decide) ?_
    refine f_iald (pc := 35) dX12_sent_35 (n := 660) (by assumption) (by first | assumption | rfl) (by omega) (by omega) (by omega) (fun h35 => ?_)
    rw [rdA hg (i := 521) (j := 0) (by omega) (by omega) (by omega)] at h35 ⊢
    refine r_iadd (pc := 36) dX12_sent_36 ?_
    refine r_aload_n (pc := 37) dX12_sent_37 rfl ?_
    refine h_X12_7 (pc := 38) rfl dX12_sent_38 ?_
    refine r_sipush (pc := 41) (n := 513) dX12_sent_41 (by decide) ?_
    refine f_iald (pc := 44) dX12_sent_44 (n := 660) (by assumption) (by first | assumption | rfl) (by omega) (by omega) (by omega) (fun h44 => ?_)
    rw [rdA hs (i := 513) (j := 0) (by omega) (by omega) (by omega)] at h44 ⊢
    refine r_isub (pc := 45) dX12_sent_45 ?_
    exact f_iret (pc := 46) dX12_sent_46 rfl (by assumption) (E _ (sndS_end (by omega) (kbN_of n0 (r := 0) ⟨Int.le_refl 0, n0, fun j a b => by omega, fun _ => by omega⟩) (Or.inl ⟨rfl, rfl⟩)).symm)
  
  refine r_iload_n (pc := 13) dX12_sent_13 rfl ?_
  exact f_iret (pc := 14) dX12_sent_14 rfl (by assumption) (E _ (if_pos (by omega)).symm)
set_option maxRecDepth 8000 in
theorem m_X12_stretched {Q : Option AV → Wd → Prop} {w : Wd} (d : Nat) {x t o : Int} (hd : 2 ≤ d) (hw : WR w) {n : Int} {s g : Int → Int} (hn : w 386 512 = n) (hs : ∀ j, 0 ≤ j → j < n → w 386 (513 + j) = s j) (hg : ∀ j, 0 ≤ j → j < n → w 386 (521 + j) = g j) (hM : MI n s g) (hx : -9999 ≤ x ∧ x ≤ 9999) (ht : 0 ≤ t ∧ t ≤ 480) (ho : o = 0 ∨ o = 1) (hQ : ∀ r, r = strS n s g x t o → -9999 ≤ r → r ≤ 9999 → Q (some (vI r)) w) : M mX12_stretched (Rm d) [vR (some 385), vI x, vI t, vI o] (fl w) (lQ Q) := by
  obtain ⟨n0, n8, P, O⟩ := id hM
  have SB := strS_bd (n := n) (s := s) (t := g) (f := t) (o := o) hx
  have E : ∀ z, z = strS n s g x t o → Q (some (vI z)) w := fun z hz => hQ z hz (by omega) (by omega)
  refine f_mofv (L0 := [some (vR (some 385)), some (vI x), some (vI t), some (vI o), none, none, none]) rfl (Nat.le_of_ble_eq_true rfl) rfl ?_
  have cut122 : ∀ n1 : Nat, (∀ m1 : Nat, m1 < n1 → ∀ i : Int, (n - i).toNat = m1 → 0 ≤ i → i ≤ n → (∀ j, 0 ≤ j → j < i → j + 1 < n → ¬ (s j < t + o ∧ t + o ≤ s (j + 1))) → ∀ o5 o6, V mX12_stretched (Rm d) 0 0 3 [some (vR (some 385)), some (vI x), some (vI t), some (vI o), some (vI i), o5, o6] [] (fl w) (lQ Q)) → ∀ i : Int, (n - i).toNat = n1 → 0 ≤ i → i + 1 < n → (∀ j, 0 ≤ j → j < i → j + 1 < n → ¬ (s j < t + o ∧ t + o ≤ s (j + 1))) → ¬ (s i < t + o ∧ t + o ≤ s (i + 1)) → ∀ o5 o6, V mX12_stretched (Rm d) 0 0 122 [some (vR (some 385)), some (vI x), some (vI t), some (vI o), some (vI i), o5, o6] [] (fl w) (lQ Q) := by
    intro n1 ih i hm hi0 hin hj hno o5 o6
    refine r_iinc4 (pc := 122) dX12_stretched_122 rfl ?_
    refine r_goto (pc := 125) (tgt := 3) dX12_stretched_125 rfl ?_
    exact ih _ (by omega) (i + 1) rfl (by omega) (by omega) (fun j a b c => by
      rcases Int.lt_or_le j i with z | z
      · exact hj j a z c
      · rw [show j = i by omega]; exact hno) _ _
  have cut77 : ∀ i : Int, 0 ≤ i → i + 1 < n → s i < t + o → t + o ≤ s (i + 1) → V mX12_stretched (Rm d) 0 0 77 [some (vR (some 385)), some (vI x), some (vI t), some (vI o), some (vI i), some (vI (s i)), some (vI (s (i + 1)))] [] (fl w) (lQ Q) := by
    intro i hi0 hin h1 h2
    have Pi := P i hi0 (by omega)
    have Pj := P (i + 1) (by omega) (by omega)
    have Oi := O i (i + 1) hi0 (by omega) (by omega)
    refine r_iload_n (pc := 77) dX12_stretched_77 rfl ?_
    refine r_i2l (pc := 78) dX12_stretched_78 (by first | assumption | omega) ?_
    refine r_iload (pc := 79) dX12_stretched_79 rfl ?_
    refine r_iload (pc := 81) dX12_stretched_81 rfl ?_
    refine r_isub (pc := 83) dX12_stretched_83 ?_
    refine r_i2l (pc := 84) dX12_stretched_84 (by first | assumption | omega) ?_
    refine r_lmul (pc := 85) dX12_stretched_85 ?_
    refine r_aload_n (pc := 86) dX12_stretched_86 rfl ?_
    refine h_X12_7 (pc := 87) rfl dX12_stretched_87 ?_
    refine r_sipush (pc := 90) (n := 521) dX12_stretched_90 (by decide) ?_
    refine r_iload (pc := 93) dX12_stretched_93 rfl ?_
    refine r_iadd (pc := 95) dX12_stretched_95 ?_
    refine r_iconst (pc := 96) (n := 1) dX12_stretched_96 ?_
    refine r_iadd (pc := 97) dX12_stretched_97 ?_
    refine f_iald (pc := 98) dX12_stretched_98 (n := 660) (by assumption) (by first | assumption | rfl) (by omega) (by omega) (by omega) (fun h98 => ?_)
    rw [rdA hg (i := 521 + i + 1) (j := i + 1) (by omega) (by omega) (by omega)] at h98 ⊢
    refine r_aload_n (pc := 99) dX12_stretched_99 rfl ?_
    refine h_X12_7 (pc := 100) rfl dX12_stretched_100 ?_
    refine r_sipush (pc := 103) (n := 521) dX12_stretched_103 (by decide) ?_
    refine r_iload (pc := 106) dX12_stretched_106 rfl ?_
    refine r_iadd (pc := 108) dX12_stretched_108 ?_
    refine f_iald (pc := 109) dX12_stretched_109 (n := 660) (by assumption) (by first | assumption | rfl) (by omega) (by omega) (by omega) (fun h109 => ?_)
    rw [rdA hg (i := 521 + i) (j := i) (by omega) (by omega) (by omega)] at h109 ⊢
    refine r_isub (pc := 110) dX12_stretched_110 ?_
    refine r_i2l (pc := 111) dX12_stretched_111 (by first | assumption | omega) ?_
    refine c_X12_93 (pc := 112) rfl dX12_stretched_112 (by omega) (Nat.le_of_ble_eq_true rfl) ?_
    refine m_X12_round (d - 1) (by omega) (by assumption) (by omega) (fun r112 e112 => ?_)
    have R112 : R64 r112 := by rw [e112]; exact rndW_r _ _
    refine r_sipush (pc := 115) (n := 9999) dX12_stretched_115 (by decide) ?_
    refine c_X12_108 (pc := 118) rfl dX12_stretched_118 (by omega) (Nat.le_of_ble_eq_true rfl) ?_
    refine m_X12_bound (d - 1) (by omega) (by assumption) (by omega) (by omega) (fun r118 e118 b118 => ?_)
    exact f_iret (pc := 121) dX12_stretched_121 rfl (by assumption) (E _ (by rw [str_y hM hi0 hin h1 h2, e118, e112]))
  have loop3 : ∀ n1 : Nat, ∀ i : Int, (n - i).toNat = n1 → 0 ≤ i → i ≤ n → (∀ j, 0 ≤ j → j < i → j + 1 < n → ¬ (s j < t + o ∧ t + o ≤ s (j + 1))) → ∀ o5 o6, V mX12_stretched (Rm d) 0 0 3 [some (vR (some 385)), some (vI x), some (vI t), some (vI o), some (vI i), o5, o6] [] (fl w) (lQ Q) := by
    refine ind_lt ?_
    intro n1 ih i hm hi0 hin hj o5 o6
    refine r_iload (pc := 3) dX12_stretched_3 rfl ?_
    refine r_iconst (pc := 5) (n := 1) dX12_stretched_5 ?_
    refine r_iadd (pc := 6) dX12_stretched_6 ?_
    refine r_aload_n (pc := 7) dX12_stretched_7 rfl ?_
    refine h_X12_7 (pc := 8) rfl dX12_stretched_8 ?_
    refine r_sipush (pc := 11) (n := 512) dX12_stretched_11 (by decide) ?_
    refine f_iald (pc := 14) dX12_stretched_14 (n := 660) (by assumption) (by first | assumption | rfl) (by omega) (by omega) (by omega) (fun h14 => ?_)
    rw [hn] at h14 ⊢
    refine r_icmpge (pc := 15) (tgt := 128) dX12_stretched_15 rfl (by omega) (by omega) (fun h15 => ?_) (fun h15 => ?_)
    · refine r_iload_n (pc := 128) dX12_stretched_128 rfl ?_
      exact f_iret (pc := 129) dX12_stretched_129 rfl (by assumption) (E _ (str_n hM (fun j a b => hj j a (by omega) b)).symm)
    have Pi := P i hi0 (by omega)
    have Pj := P (i + 1) (by omega) (by omega)
    have Oi := O i (i + 1) hi0 (by omega) (by omega)
    refine r_aload_n (pc := 18) dX12_stretched_18 rfl ?_
    refine h_X12_7 (pc := 19) rfl dX12_stretched_19 ?_
    refine r_sipush (pc := 22) (n := 513) dX12_stretched_22 (by decide) ?_
    refine r_iload (pc := 25) dX12_stretched_25 rfl ?_
    refine r_iadd (pc := 27) dX12_stretched_27 ?_
    refine f_iald (pc := 28) dX12_stretched_28 (n := 660) (by assumption) (by first | assumption | rfl) (by omega) (by omega) (by omega) (fun h28 => ?_)
    rw [rdA hs (i := 513 + i) (j := i) (by omega) (by omega) (by omega)] at h28 ⊢
    refine r_istore5 (pc := 29) dX12_stretched_29 rfl ?_
    refine r_aload_n (pc := 31) dX12_stretched_31 rfl ?_
    refine h_X12_7 (pc := 32) rfl dX12_stretched_32 ?_
    refine r_sipush (pc := 35) (n := 513) dX12_stretched_35 (by decide) ?_
    refine r_iload (pc := 38) dX12_stretched_38 rfl ?_
    refine r_iadd (pc := 40) dX12_stretched_40 ?_
    refine r_iconst (pc := 41) (n := 1) dX12_stretched_41 ?_
    refine r_iadd (pc := 42) dX12_stretched_42 ?_
    refine f_iald (pc := 43) dX12_stretched_43 (n := 660) (by assumption) (by first | assumption | rfl) (by omega) (by omega) (by omega) (fun h43 => ?_)
    rw [rdA hs (i := 513 + i + 1) (j := i + 1) (by omega) (by omega) (by omega)] at h43 ⊢
    refine r_istore6 (pc := 44) dX12_stretched_44 rfl ?_
    refine r_iload_n (pc := 46) dX12_stretched_46 rfl ?_
    refine r_ifeq (pc := 47) (tgt := 65) dX12_stretched_47 rfl (by omega) (fun h47 => ?_) (fun h47 => ?_)
    · refine r_iload (pc := 65) dX12_stretched_65 rfl ?_
      refine r_iload_n (pc := 67) dX12_stretched_67 rfl ?_
      refine r_icmpge (pc := 68) (tgt := 122) dX12_stretched_68 rfl (by omega) (by omega) (fun h68 => ?_) (fun h68 => ?_)
      · exact cut122 n1 ih i hm hi0 (by omega) hj (by omega) _ _
      refine r_iload_n (pc := 71) dX12_stretched_71 rfl ?_
      refine r_iload (pc := 72) dX12_stretched_72 rfl ?_
      refine r_icmpgt (pc := 74) (tgt := 122) dX12_stretched_74 rfl (by omega) (by omega) (fun h74 => ?_) (fun h74 => ?_)
      · exact cut122 n1 ih i hm hi0 (by omega) hj (by omega) _ _
      exact cut77 i hi0 (by omega) (by omega) (by omega)
    refine r_iload (pc := 50) dX12_stretched_50 rfl ?_
    refine r_iload_n (pc := 52) dX12_stretched_52 rfl ?_
    refine r_icmpgt (pc := 53) (tgt := 122) dX12_stretched_53 rfl (by omega) (by omega) (fun h53 => ?_) (fun h53 => ?_)
    · exact cut122 n1 ih i hm hi0 (by omega) hj (by omega) _ _
    refine r_iload_n (pc := 56) dX12_stretched_56 rfl ?_
    refine r_iload (pc := 57) dX12_stretched_57 rfl ?_
    refine r_icmpge (pc := 59) (tgt := 122) dX12_stretched_59 rfl (by omega) (by omega) (fun h59 => ?_) (fun h59 => ?_)
    · exact cut122 n1 ih i hm hi0 (by omega) hj (by omega) _ _
    refine r_goto (pc := 62) (tgt := 77) dX12_stretched_62 rfl ?_
    exact cut77 i hi0 (by omega) (by omega) (by omega)
  refine r_iconst (pc := 0) (n := 0) dX12_stretched_0 ?_
  refine r_istore4 (pc := 1) dX12_stretched_1 rfl ?_
  exact loop3 _ 0 rfl (by omega) (by omega) (fun j a b => by omega) _ _
set_option maxRecDepth 8000 in
theorem m_X12_bakes {Q : Option AV → Wd → Prop} {w : Wd} (d : Nat) {q a b e : Int} {g : Int → Int} (hd : 3 ≤ d) (hw : WR w) (hq : 0 ≤ q ∧ q ≤ 3) (hI : CI (mx w q)) (hab : 0 ≤ a ∧ a ≤ b ∧ b ≤ 480) (he : 1 ≤ e ∧ e ≤ 480) (hfit : mx w q 0 0 - (kbX (mx w q) (b + 1) - kbX (mx w q) a) + ((b - a) / e + 1) ≤ 24) (hg : ∀ i : Nat, (i : Int) < (b - a) / e + 1 → w 389 (i * e) = g i ∧ -999 ≤ g i ∧ g i ≤ 999) (hQ : ∀ r w2, r = mx w q 0 0 - (kbX (mx w q) (b + 1) - kbX (mx w q) a) + ((b - a) / e + 1) → FQ q w w2 → CEQ (mx w2 q) (inN (dlX (mx w q) (kbX (mx w q) (b + 1)) (kbX (mx w q) (b + 1) - kbX (mx w q) a)) g a e ((b - a) / e + 1).toNat) → WR w2 → Q (some (vI r)) w2) : M mX12_bakes (Rm d) [vR (some 385), vI q, vI a, vI b, vI e] (fl w) (lQ Q) := by
  have hn := hI.1
  have KA := kbX_KB hI.1.1 a
  have KB1 := kbX_KB hI.1.1 (b + 1)
  have km := kbX_mono hI.1.1 (show a ≤ b + 1 by omega)
  have KA0 := KA.1
  have KA1 := KA.2.1
  have KB0 := KB1.1
  have KB2 := KB1.2.1
  have st := steps_bd (a := a) (b := b) (e := e) (by omega) (by omega) he.1
  have CY := dlX_CI hI (b := kbX (mx w q) (b + 1)) (i := kbX (mx w q) (b + 1) - kbX (mx w q) a) (by omega) (by omega)
  have SY := dlX_sep hI (a := a) (b := b)
  have OK := inN_ok (g := g) CY SY hab.1 hab.2.2 he.1
  refine f_mofv (L0 := [some (vR (some 385)), some (vI q), some (vI a), some (vI b), some (vI e), none, none]) rfl (Nat.le_of_ble_eq_true rfl) rfl ?_
  have cut36 : ∀ n1 : Nat, (∀ m1 : Nat, m1 < n1 → ∀ k : Int, (k + 1).toNat = m1 → -1 ≤ k → k < mx w q 0 0 → ∀ (w1 : Wd) (o6 : Option AV), FQ q w w1 → CEQ (mx w1 q) (dlX (mx w q) (kbX (mx w q) (b + 1)) (rmv (kbX (mx w q) a) (kbX (mx w q) (b + 1)) k)) → WR w1 → V mX12_bakes (Rm d) 0 0 9 [some (vR (some 385)), some (vI q), some (vI a), some (vI b), some (vI e), some (vI k), o6] [] (fl w1) (lQ Q)) → ∀ k : Int, (k + 1).toNat = n1 → 0 ≤ k → k < mx w q 0 0 → ∀ (w2 : Wd) (o6 : Option AV), FQ q w w2 → CEQ (mx w2 q) (dlX (mx w q) (kbX (mx w q) (b + 1)) (rmv (kbX (mx w q) a) (kbX (mx w q) (b + 1)) (k + -1))) → WR w2 → V mX12_bakes (Rm d) 0 0 36 [some (vR (some 385)), some (vI q), some (vI a), some (vI b), some (vI e), some (vI k), o6] [] (fl w2) (lQ Q) := by
    intro n1 ih k hm hk0 hkn w2 o6 hf2 hc2 hw2
    refine r_iinc5 (pc := 36) dX12_bakes_36 rfl ?_
    refine r_goto (pc := 39) (tgt := 9) dX12_bakes_39 rfl ?_
    exact ih _ (by omega) (k + -1) rfl (by omega) (by omega) w2 _ hf2 hc2 hw2
  have loop45 : ∀ n1 : Nat, ∀ i : Nat, ((b - a) / e + 1 - i).toNat = n1 → (i : Int) ≤ (b - a) / e + 1 → ∀ (w1 : Wd) (f : Int) (o6 : Option AV), f = a + i * e → FQ q w w1 → CEQ (mx w1 q) (inN (dlX (mx w q) (kbX (mx w q) (b + 1)) (kbX (mx w q) (b + 1) - kbX (mx w q) a)) g a e i) → WR w1 → V mX12_bakes (Rm d) 0 0 45 [some (vR (some 385)), some (vI q), some (vI a), some (vI b), some (vI e), some (vI f), o6] [] (fl w1) (lQ Q) := by
    refine ind_lt ?_
    intro n1 ih i hm hi w1 f o6 hf hf1 hc1 hw1
    have me : (0 : Int) ≤ i * e := Int.mul_nonneg (by omega) (by omega)
    have N1 := inN_n (Y := (dlX (mx w q) (kbX (mx w q) (b + 1)) (kbX (mx w q) (b + 1) - kbX (mx w q) a))) (g := g) (f := a) (e := e) i
    rw [dlX_n] at N1
    have cnt : mx w1 q 0 0 = mx w q 0 0 - (kbX (mx w q) (b + 1) - kbX (mx w q) a) + i := by rw [← N1]; exact hc1.1
    have mlt : ∀ j : Nat, (j : Int) < (b - a) / e + 1 → (j : Int) * e ≤ b - a := fun j hj => steps_mul he.1 hj
    have OKi := OK i (by rw [dlX_n]; omega) (fun j hj => ⟨by have := mlt j (by omega); omega, (hg j (by omega)).2⟩)
    have Ci : CI (mx w1 q) := OKi.1.eq hc1.sy
    have h389 : w1 389 = w 389 := hf1.1 389 (by omega)
    have mb := steps_ub (x := b - a) (i := i) he.1 hi
    refine r_iload (pc := 45) dX12_bakes_45 rfl ?_
    refine r_iload_n (pc := 47) dX12_bakes_47 rfl ?_
    refine r_icmpgt (pc := 48) (tgt := 82) dX12_bakes_48 rfl (by omega) (by omega) (fun h48 => ?_) (fun h48 => ?_)
    · have ie : (i : Int) = (b - a) / e + 1 := by
        rcases Int.lt_or_le i ((b - a) / e + 1) with z | z
        · have := mlt i z
          omega
        · omega
      refine r_aload_n (pc := 82) dX12_bakes_82 rfl ?_
      refine r_iload_n (pc := 83) dX12_bakes_83 rfl ?_
      refine c_X12_78 (pc := 84) rfl dX12_bakes_84 (by first | assumption | rfl) (by omega) (Nat.le_of_ble_eq_true rfl) ?_
      refine m_X12_many (d - 1) (by omega) (by assumption) (by omega) (fun r84 e84 b84 => ?_)
      exact f_iret (pc := 87) dX12_bakes_87 rfl (by assumption) (hQ _ _ (by rw [e84, cnt, ie]) hf1 (by rw [show ((b - a) / e + 1).toNat = i by omega]; exact hc1) (by assumption))
    have il : (i : Int) < (b - a) / e + 1 := by
      have : (i : Int) ≤ (b - a) / e := (Int.le_ediv_iff_mul_le (by omega)).mpr (by omega)
      omega
    have mi := mlt i il
    have ef : f - a = i * e := by omega
    have gi := hg i il
    refine r_aload_n (pc := 51) dX12_bakes_51 rfl ?_
    refine r_iload_n (pc := 52) dX12_bakes_52 rfl ?_
    refine r_iload (pc := 53) dX12_bakes_53 rfl ?_
    refine r_aload_n (pc := 55) dX12_bakes_55 rfl ?_
    refine h_X12_19 (pc := 56) rfl dX12_bakes_56 ?_
    refine r_iload (pc := 59) dX12_bakes_59 rfl ?_
    refine r_iload_n (pc := 61) dX12_bakes_61 rfl ?_
    refine r_isub (pc := 62) dX12_bakes_62 ?_
    refine f_iald (pc := 63) dX12_bakes_63 (n := 481) (by assumption) (by first | assumption | rfl) (by omega) (by omega) (by omega) (fun h63 => ?_)
    rw [h389] at h63 ⊢
    refine r_iconst (pc := 64) (n := 2) dX12_bakes_64 ?_
    refine r_iconst (pc := 65) (n := 0) dX12_bakes_65 ?_
    refine r_iconst (pc := 66) (n := 0) dX12_bakes_66 ?_
    refine c_X12_149 (pc := 67) rfl dX12_bakes_67 (by first | assumption | rfl) (by omega) (Nat.le_of_ble_eq_true rfl) ?_
    refine m_X12_inserts (d - 1) (by omega) (by assumption) (by omega) Ci (by omega) (fun j j0 j1 => by
      have z := OKi.2 j j0 (by rw [← hc1.1]; exact j1)
      rw [← hc1.row (by omega) (by omega) j0 j1] at z
      omega) (by omega) (by omega) (by omega) (by omega) (by omega) (fun r67 w67 b67 f67 e67 hw67 => ?_)
    refine r_istore6 (pc := 70) dX12_bakes_70 rfl ?_
    refine r_iload (pc := 72) dX12_bakes_72 rfl ?_
    refine r_iload (pc := 74) dX12_bakes_74 rfl ?_
    refine r_iadd (pc := 76) dX12_bakes_76 ?_
    refine r_istore5 (pc := 77) dX12_bakes_77 rfl ?_
    refine r_goto (pc := 79) (tgt := 45) dX12_bakes_79 rfl ?_
    exact ih _ (by omega) (i + 1) rfl (by omega) w67 _ _ (by rw [hf, show ((i + 1 : Nat) : Int) = (i : Int) + 1 by omega, Int.add_mul, Int.one_mul]; omega) (hf1.tr f67) (by refine inN_step (W := mx w1 q) (k := r67) (by omega) hc1 (by rw [← hf]; exact b67) ?_; rw [← hf, ← (hg i il).1, ← ef]; exact e67) (by assumption)
  have loop9 : ∀ n1 : Nat, ∀ k : Int, (k + 1).toNat = n1 → -1 ≤ k → k < mx w q 0 0 → ∀ (w1 : Wd) (o6 : Option AV), FQ q w w1 → CEQ (mx w1 q) (dlX (mx w q) (kbX (mx w q) (b + 1)) (rmv (kbX (mx w q) a) (kbX (mx w q) (b + 1)) k)) → WR w1 → V mX12_bakes (Rm d) 0 0 9 [some (vR (some 385)), some (vI q), some (vI a), some (vI b), some (vI e), some (vI k), o6] [] (fl w1) (lQ Q) := by
    refine ind_lt ?_
    intro n1 ih k hm hk0 hkn w1 o6 hf1 hc1 hw1
    have cnt : mx w1 q 0 0 = mx w q 0 0 - rmv (kbX (mx w q) a) (kbX (mx w q) (b + 1)) k := hc1.1
    refine r_iload (pc := 9) dX12_bakes_9 rfl ?_
    refine r_iflt (pc := 11) (tgt := 42) dX12_bakes_11 rfl (by omega) (fun h11 => ?_) (fun h11 => ?_)
    · refine r_iload_n (pc := 42) dX12_bakes_42 rfl ?_
      refine r_istore5 (pc := 43) dX12_bakes_43 rfl ?_
      exact loop45 _ 0 rfl (by omega) w1 a _ (by simp) hf1 (by rw [rmv_end ⟨KA0, km⟩ (by omega)] at hc1; exact hc1) (by assumption)
    have r0 := rmv_bd (k := k) ⟨KA0, km⟩
    have Fk : mx w1 q 1 k = mx w q 1 k := by
      rw [hc1.row (by omega) (by omega) (by omega) (by omega)]
      by_cases z : k < kbX (mx w q) (b + 1)
      · exact dlX_lt (by omega) (by omega)
      · rw [dlX_ge (by omega) (by omega), show k + rmv (kbX (mx w q) a) (kbX (mx w q) (b + 1)) k = k by omega]
    have Lk : k < kbX (mx w q) a → mx w q 1 k < a := fun z => KA.2.2.1 k (by omega) z
    have Ge : kbX (mx w q) a ≤ k → a ≤ mx w q 1 k := fun z => by have := KA.2.2.2 (by omega); have := frs_le hI KA0 z hkn; omega
    have Lb : k < kbX (mx w q) (b + 1) → mx w q 1 k < b + 1 := fun z => KB1.2.2.1 k (by omega) z
    have Gb : kbX (mx w q) (b + 1) ≤ k → b + 1 ≤ mx w q 1 k := fun z => by have := KB1.2.2.2 (by omega); have := frs_le hI KB0 z hkn; omega
    refine r_aload_n (pc := 14) dX12_bakes_14 rfl ?_
    refine r_iload_n (pc := 15) dX12_bakes_15 rfl ?_
    refine r_iload (pc := 16) dX12_bakes_16 rfl ?_
    refine c_X12_82 (pc := 18) rfl dX12_bakes_18 (by first | assumption | rfl) (by omega) (Nat.le_of_ble_eq_true rfl) ?_
    refine m_X12_frame (d - 1) (by omega) (by assumption) (by omega) (by omega) (fun r18 e18 b18 => ?_)
    rw [Fk] at e18
    refine r_iload_n (pc := 21) dX12_bakes_21 rfl ?_
    refine r_iload_n (pc := 22) dX12_bakes_22 rfl ?_
    refine c_X12_66 (pc := 23) rfl dX12_bakes_23 (by omega) (Nat.le_of_ble_eq_true rfl) ?_
    refine m_X12_in (d - 1) (by omega) (by assumption) (by omega) (by omega) (by omega) (fun r23 e23 b23 => ?_)
    have i23 := b2i_i e23
    refine r_ifeq (pc := 26) (tgt := 36) dX12_bakes_26 rfl (by omega) (fun h26 => ?_) (fun h26 => ?_)
    · have rk : k < kbX (mx w q) a ∨ kbX (mx w q) (b + 1) ≤ k := by omega
      exact cut36 n1 ih k hm (by omega) hkn w1 _ hf1 (by rw [rmv_no ⟨KA0, km⟩ rk]; exact hc1) (by assumption)
    have rk : kbX (mx w q) a ≤ k ∧ k < kbX (mx w q) (b + 1) := by omega
    have rkk := r0.2.2.2.1 rk.1 rk.2
    refine r_aload_n (pc := 29) dX12_bakes_29 rfl ?_
    refine r_iload_n (pc := 30) dX12_bakes_30 rfl ?_
    refine r_iload (pc := 31) dX12_bakes_31 rfl ?_
    refine c_X12_153 (pc := 33) rfl dX12_bakes_33 (by first | assumption | rfl) (by omega) (Nat.le_of_ble_eq_true rfl) ?_
    refine m_X12_removes (d - 1) (by omega) (by assumption) (by omega) (by omega) (by omega) (fun w33 f33 e33 hw33 => ?_)
    exact cut36 n1 ih k hm (by omega) hkn w33 _ (hf1.tr f33) (by rw [rmv_yes ⟨KA0, km⟩ rk]; exact dlX_step (by omega) hc1 (by rw [show kbX (mx w q) (b + 1) - 1 - rmv (kbX (mx w q) a) (kbX (mx w q) (b + 1)) k = k by omega]; exact e33)) (by assumption)
  refine r_aload_n (pc := 0) dX12_bakes_0 rfl ?_
  refine r_iload_n (pc := 1) dX12_bakes_1 rfl ?_
  refine c_X12_78 (pc := 2) rfl dX12_bakes_2 (by first | assumption | rfl) (by omega) (Nat.le_of_ble_eq_true rfl) ?_
  refine m_X12_many (d - 1) (by omega) (by assumption) (by omega) (fun r2 e2 b2 => ?_)
  subst e2
  refine r_iconst (pc := 5) (n := 1) dX12_bakes_5 ?_
  refine r_isub (pc := 6) dX12_bakes_6 ?_
  refine r_istore5 (pc := 7) dX12_bakes_7 rfl ?_
  exact loop9 _ _ rfl (by omega) (by omega) w _ (FQ.rf q w) (by rw [show rmv (kbX (mx w q) a) (kbX (mx w q) (b + 1)) (mx w q 0 0 - 1) = 0 from if_pos (by omega), dlX_0]; exact CEQ.rf _) (by assumption)
