def REST (w w2 : Wd) : Prop := ∃ q : Nat, q < 10 ∧ (q : Int) = (w 34 0 + (w 34 1 - 1)) % 10 ∧ w2 34 0 = w 34 0 ∧ w2 34 1 = w 34 1 - 1 ∧ (∀ i, i ≠ 34 → (i < 2 ∨ 33 < i) → w2 i = w i) ∧ SCE w2 2 w (36 + 32 * q)
theorem REST_end {w w2 : Wd} {q : Nat} (hq9 : q < 10) (hq : (q : Int) = (w 34 0 + (w 34 1 - 1)) % 10) (f : FRS 2 (up w 34 1 (w 34 1 - 1)) w2) (e : SCE w2 2 (up w 34 1 (w 34 1 - 1)) (36 + 32 * q)) : REST w w2 := by
  have g := f 34 (by omega)
  refine ⟨q, hq9, hq, ?_, ?_, fun i hi hi2 => ?_, ?_⟩
  · rw [g]; rfl
  · rw [g]; rfl
  · rw [f i (by omega), up_ne hi]
  · exact e.src (by omega) (fun i a b => up_ne (by omega))
/-- i keys are gone that stood before place b -/
def dlX (X : CP) (b i : Int) : CP := fun r j => if r = 0 then (if j = 0 then X 0 0 - i else X 0 j) else if j < b - i then X r j else X r (j + i)
theorem dlX_0 {X : CP} {b : Int} : dlX X b 0 = X := by
  funext r j
  unfold dlX
  grind
theorem dlX_d {X : CP} {b i : Int} (h : 0 ≤ i) : delX (dlX X b i) (b - 1 - i) = dlX X b (i + 1) := by
  funext r j
  unfold delX dlX
  grind
theorem dlX_step {X Y Z : CP} {b i : Int} (h : 0 ≤ i ∧ 0 ≤ b - 1 - i) (e : CEQ Y (dlX X b i)) (g : CEQ Z (delX Y (b - 1 - i))) : CEQ Z (dlX X b (i + 1)) := by
  rw [← dlX_d h.1]
  exact g.tr (delX_cg e h.2)
/-- keys come in, one each step -/
def inN (Y : CP) (g : Int → Int) (f e : Int) : Nat → CP
  | 0 => Y
  | i + 1 => insX (inN Y g f e i) (kbX (inN Y g f e i) (f + i * e)) (v5 (f + i * e) (g i) 2 0 0)
theorem inN_n {Y : CP} {g : Int → Int} {f e : Int} : ∀ i : Nat, inN Y g f e i 0 0 = Y 0 0 + i
  | 0 => by simp [inN]
  | i + 1 => by
    unfold inN
    rw [insX_n, inN_n i]
    omega
theorem inN_step {Y W Z : CP} {g : Int → Int} {f e k : Int} {i : Nat} (h : 0 ≤ W 0 0) (a : CEQ W (inN Y g f e i)) (b : KB (W 0 0) (W 1) (f + i * e) k) (c : CEQ Z (insX W k (v5 (f + i * e) (g i) 2 0 0))) : CEQ Z (inN Y g f e (i + 1)) := by
  have z := kbX_of (X := W) h b
  have z2 := kbX_KB h (f + i * e)
  rw [z] at c
  refine c.tr ?_
  unfold inN
  rw [← kbX_cg a.v]
  exact insX_cg a _ ⟨z2.1, z2.2.1⟩
theorem KB_mono {n s t a b : Int} {f : Int → Int} (h : s ≤ t) (ha : KB n f s a) (hb : KB n f t b) : a ≤ b := by
  obtain ⟨a1, a2, a3, a4⟩ := ha
  obtain ⟨b1, b2, b3, b4⟩ := hb
  rcases Int.lt_or_le b a with z | z
  · have := a3 b b1 z
    have := b4 (by omega)
    omega
  · exact z
theorem kbX_mono {X : CP} (hn : 0 ≤ X 0 0) {s t : Int} (h : s ≤ t) : kbX X s ≤ kbX X t := KB_mono h (kbX_KB hn s) (kbX_KB hn t)
theorem steps_bd {a b e : Int} (h : a ≤ b) (hb : b - a ≤ 480) (he : 1 ≤ e) : 0 ≤ (b - a) / e ∧ (b - a) / e ≤ 480 := by
  refine ⟨Int.ediv_nonneg (by omega) (by omega), ?_⟩
  have := Int.ediv_le_self (a := b - a) e (by omega)
  omega
theorem steps_mul {x e i : Int} (he : 1 ≤ e) (h : i < x / e + 1) : i * e ≤ x := by
  have h2 : i ≤ x / e := by omega
  have h3 := Int.mul_le_mul_of_nonneg_right h2 (show 0 ≤ e by omega)
  have h4 := Int.ediv_mul_le x (show e ≠ 0 by omega)
  omega
/-- the first k keys retimed -/
def retX (X : CP) (n : Int) (s t g : Int → Int) (k : Int) : CP := fun r j => if 0 ≤ j ∧ j < k then (if r = 1 then g j else if r = 4 ∧ X 3 j = 0 then strS n s t (X 4 j) (X 1 j) 0 else if r = 5 ∧ X 3 j = 0 then strS n s t (X 5 j) (X 1 j) 1 else X r j) else X r j
def retM (X : CP) (n : Int) (s t g : Int → Int) (k : Int) : CP := if X 3 k = 0 then stX (stX (retX X n s t g k) 4 k (strS n s t (X 4 k) (X 1 k) 0)) 5 k (strS n s t (X 5 k) (X 1 k) 1) else retX X n s t g k
theorem retX_0 {X : CP} {n : Int} {s t g : Int → Int} : retX X n s t g 0 = X := by
  funext r j
  unfold retX
  rw [if_neg (by omega)]
theorem retX_n {X : CP} {n k : Int} {s t g : Int → Int} {j : Int} : retX X n s t g k 0 j = X 0 j := by
  unfold retX
  split <;> simp
theorem retX_k {X : CP} {n k : Int} {s t g : Int → Int} {r : Nat} {j : Int} (h : k ≤ j) : retX X n s t g k r j = X r j := by
  unfold retX
  rw [if_neg (by omega)]
theorem retM_n {X : CP} {n k : Int} {s t g : Int → Int} (h : X 3 k ≠ 0) : retM X n s t g k = retX X n s t g k := if_neg h
theorem retM_f {X : CP} {n k : Int} {s t g : Int → Int} (h : X 3 k = 0) : retM X n s t g k = stX (stX (retX X n s t g k) 4 k (strS n s t (X 4 k) (X 1 k) 0)) 5 k (strS n s t (X 5 k) (X 1 k) 1) := if_pos h
theorem retX_s {X : CP} {n k : Int} {s t g : Int → Int} (h : 0 ≤ k) : stX (retM X n s t g k) 1 k (g k) = retX X n s t g (k + 1) := by
  funext r j
  unfold retM retX
  split <;> unfold stX <;> grind
theorem kw_X5_33 : Jvm.Cond.constant RX5 33 (-1000000005 : Int32) ∈ gW := gw_t 799 (by decide +kernel) (by decide +kernel)
set_option maxRecDepth 8000 in
theorem m_X5_restore {Q : Option AV → Wd → Prop} {w : Wd} (d : Nat) (hd : 5 ≤ d) (hw : WR w) (hh : (0 ≤ w 34 0 ∧ w 34 0 < 10) ∧ 0 ≤ w 34 1 ∧ w 34 1 ≤ 10) (hn : ∀ q : Nat, q < 10 → SN w (36 + 32 * q)) (hQ : ∀ r w2, (w 34 1 = 0 ∧ w2 = w ∧ r = -1000000005) ∨ (w 34 1 ≠ 0 ∧ REST w w2 ∧ r = w 34 1 - 1) → WR w2 → Q (some (vI r)) w2) : M mX5_restore (Rm d) [vR (some 34), vR (some 2)] (fl w) (lQ Q) := by
  refine f_mofv (L0 := [some (vR (some 34)), some (vR (some 2)), none]) rfl (Nat.le_of_ble_eq_true rfl) rfl ?_
  refine r_aload_n (pc := 0) dX5_restore_0 rfl ?_
  refine h_X5_18 (pc := 1) rfl dX5_restore_1 (by assumption) (fun h1 => ?_)
  refine r_ifne (pc := 4) (tgt := 10) dX5_restore_4 rfl (by omega) (fun h4 => ?_) (fun h4 => ?_)
  · refine r_aload_n (pc := 10) dX5_restore_10 rfl ?_
    refine r_dup (pc := 11) dX5_restore_11 rfl ?_
    refine h_X5_18 (pc := 12) rfl dX5_restore_12 (by assumption) (fun h12 => ?_)
    refine r_iconst (pc := 15) (n := 1) dX5_restore_15 ?_
    refine r_isub (pc := 16) dX5_restore_16 ?_
    refine ph_X5_18 (pc := 17) rfl dX5_restore_17 (by assumption) (by omega) (fun hw17 => ?_)
    refine r_aload_n (pc := 20) dX5_restore_20 rfl ?_
    have k1 : 1 ≤ w 34 1 := by omega
    refine r_aload_n (pc := 21) dX5_restore_21 rfl ?_
    refine h_X5_22 (pc := 22) rfl dX5_restore_22 (by assumption) (fun h22 => ?_)
    refine r_aload_n (pc := 25) dX5_restore_25 rfl ?_
    refine h_X5_18 (pc := 26) rfl dX5_restore_26 (by assumption) (fun h26 => ?_)
    rw [show up w 34 1 (w 34 1 - 1) 34 1 = w 34 1 - 1 from rfl, show up w 34 1 (w 34 1 - 1) 34 0 = w 34 0 from rfl]
    refine r_iadd (pc := 29) dX5_restore_29 ?_
    refine r_bipush (pc := 30) (n := 10) dX5_restore_30 (by decide) ?_
    refine r_irem (pc := 32) dX5_restore_32 (by omega) (by omega) (by omega) ?_
    have m0 := tmod10 (x := w 34 0 + (w 34 1 - 1)) (by omega)
    rw [m0.1]
    refine c_X5_25 (pc := 33) rfl dX5_restore_33 (by first | assumption | rfl) (by omega) (Nat.le_of_ble_eq_true rfl) ?_
    obtain ⟨q, hq⟩ : ∃ q : Nat, (q : Int) = (w 34 0 + (w 34 1 - 1)) % 10 := ⟨((w 34 0 + (w 34 1 - 1)) % 10).toNat, by omega⟩
    have hq9 : q < 10 := by omega
    have sq := sh_st q hq9
    rw [← hq]
    refine m_X5_stateAt (q := q) (d - 1) (by omega) (by assumption) hq9 rfl ?_
    refine r_astore2 (pc := 36) dX5_restore_36 rfl ?_
    refine r_aload_n (pc := 37) dX5_restore_37 rfl ?_
    refine r_ifnull_s (pc := 38) dX5_restore_38 ?_
    refine r_aload_n (pc := 41) dX5_restore_41 rfl ?_
    refine r_aload_n (pc := 42) dX5_restore_42 rfl ?_
    refine c_X5_29 (pc := 43) rfl dX5_restore_43 (by first | assumption | rfl) (by omega) (Nat.le_of_ble_eq_true rfl) ?_
    have nn : SN (up w 34 1 (w 34 1 - 1)) (36 + 32 * q) := fun p hp => by rw [up_ne (by omega)]; exact hn q hq9 p hp
    refine m_X8_copyAll (d - 1) (by omega) (by assumption) rfl (by assumption) (by omega) (by assumption) (fun w43 f43 e43 hw43 => ?_)
    refine r_aload_n (pc := 46) dX5_restore_46 rfl ?_
    refine h_X5_18 (pc := 47) rfl dX5_restore_47 (by assumption) (fun h47 => ?_)
    exact f_iret (pc := 50) dX5_restore_50 rfl (by assumption) (hQ _ _ (Or.inr ⟨by omega, REST_end hq9 hq f43 e43, by rw [f43 34 (by omega)]; rfl⟩) (by assumption))
  refine r_ldc (pc := 7) (n := -1000000005) dX5_restore_7 kw_X5_33 rfl ?_
  exact f_iret (pc := 9) dX5_restore_9 rfl (by assumption) (hQ _ _ (Or.inl ⟨by omega, rfl, rfl⟩) (by assumption))
set_option maxRecDepth 8000 in
theorem m_X0_replaceRange {Q : Option AV → Wd → Prop} {w : Wd} (d : Nat) {c : Nat} {p : Nat} {a b e : Int} (hd : 3 ≤ d) (hw : WR w) (hs : sh c = 0) (hp : sh p = 1000 + 24) (hcp : c + 5 < p) (hn : 0 ≤ w c 0 ∧ w c 0 ≤ 24) (hab : 0 ≤ a ∧ a ≤ b ∧ b ≤ 480) (he : 1 ≤ e ∧ e ≤ 480) (hfit : w c 0 - (kbX (cx w c) (b + 1) - kbX (cx w c) a) + ((b - a) / e + 1) ≤ 24) (hQ : ∀ w2, FRM c w w2 → CEQ (cx w2 c) (inN (dlX (cx w c) (kbX (cx w c) (b + 1)) (kbX (cx w c) (b + 1) - kbX (cx w c) a)) (w p) a e ((b - a) / e + 1).toNat) → WR w2 → Q none w2) : M mX0_replaceRange (Rm d) [vR (some c), vI a, vI b, vI e, vR (some p)] (fl w) (lQ Q) := by
  obtain ⟨s1, s2, s3, s4, s5⟩ := sh_curve hs
  have k2 := kbX_KB (X := cx w c) hn.1 a
  have k3 := kbX_KB (X := cx w c) hn.1 (b + 1)
  have kle := kbX_mono (X := cx w c) hn.1 (show a ≤ b + 1 by omega)
  have st := steps_bd (a := a) (b := b) (e := e) (by omega) (by omega) (by omega)
  refine f_mofv (L0 := [some (vR (some c)), some (vI a), some (vI b), some (vI e), some (vR (some p)), none, none, none]) rfl (Nat.le_of_ble_eq_true rfl) rfl ?_
  have loop48 : ∀ n0 : Nat, ∀ i : Nat, ((b - a) / e + 1 - i).toNat = n0 → (i : Int) ≤ (b - a) / e + 1 → ∀ (w1 : Wd) (o : Option AV), WR w1 → FRM c w w1 → CEQ (cx w1 c) (inN (dlX (cx w c) (kbX (cx w c) (b + 1)) (kbX (cx w c) (b + 1) - kbX (cx w c) a)) (w p) a e i) → V mX0_replaceRange (Rm d) 0 0 48 [some (vR (some c)), some (vI a), some (vI b), some (vI e), some (vR (some p)), o, some (vI ((b - a) / e + 1)), some (vI i)] [] (fl w1) (lQ Q) := by
    refine ind_lt ?_
    intro n0 ih i hm hi w1 o hw1 f1 e1
    have c1 := inN_n (Y := dlX (cx w c) (kbX (cx w c) (b + 1)) (kbX (cx w c) (b + 1) - kbX (cx w c) a)) (g := w p) (f := a) (e := e) i
    have c2 : w1 c 0 = w c 0 - (kbX (cx w c) (b + 1) - kbX (cx w c) a) + i := e1.1.trans c1
    clear c1
    have k4 := k2.1
    have k5 := k3.2.1
    have k6 : cx w c 0 0 = w c 0 := rfl
    refine r_iload (pc := 48) dX0_replaceRange_48 rfl ?_
    refine r_iload (pc := 50) dX0_replaceRange_50 rfl ?_
    refine r_icmpge (pc := 52) (tgt := 82) dX0_replaceRange_52 rfl (by omega) (by omega) (fun h52 => ?_) (fun h52 => ?_)
    · exact f_vret (pc := 82) dX0_replaceRange_82 rfl (by assumption) (hQ _ f1 (by rw [show ((b - a) / e + 1).toNat = i by omega]; exact e1) (by assumption))
    refine r_aload_n (pc := 55) dX0_replaceRange_55 rfl ?_
    refine r_iload_n (pc := 56) dX0_replaceRange_56 rfl ?_
    refine r_iload (pc := 57) dX0_replaceRange_57 rfl ?_
    refine r_iload_n (pc := 59) dX0_replaceRange_59 rfl ?_
    have im : (i : Int) * e ≤ b - a := steps_mul (by omega) (by omega)
    have im0 : 0 ≤ (i : Int) * e := Int.mul_nonneg (by omega) (by omega)
    refine r_imul (pc := 60) dX0_replaceRange_60 ?_
    refine r_iadd (pc := 61) dX0_replaceRange_61 ?_
    refine r_aload (pc := 62) dX0_replaceRange_62 rfl ?_
    refine r_iload (pc := 64) dX0_replaceRange_64 rfl ?_
    refine c_X0_53 (pc := 66) rfl dX0_replaceRange_66 (by omega) (Nat.le_of_ble_eq_true rfl) ?_
    refine m_X11_at (d - 1) (by omega) (by assumption) (n := 24) (by assumption) (by omega) (by omega) (fun r66 e66 b66 => ?_)
    rw [gA_in (by omega) (by omega)] at e66
    refine r_iconst (pc := 69) (n := 2) dX0_replaceRange_69 ?_
    refine r_iconst (pc := 70) (n := 0) dX0_replaceRange_70 ?_
    refine r_iconst (pc := 71) (n := 0) dX0_replaceRange_71 ?_
    refine c_X0_73 (pc := 72) rfl dX0_replaceRange_72 (by first | assumption | rfl) (by omega) (Nat.le_of_ble_eq_true rfl) ?_
    refine m_X0_insert (d - 1) (by omega) (by assumption) (by assumption) (by omega) (by omega) (by omega) (by omega) (by omega) (by omega) (fun k72 w72 b72 f72 e72 hw72 => ?_)
    refine r_pop (pc := 75) dX0_replaceRange_75 rfl ?_
    refine r_iinc7 (pc := 76) dX0_replaceRange_76 rfl ?_
    refine r_goto (pc := 79) (tgt := 48) dX0_replaceRange_79 rfl ?_
    exact ih _ (by omega) (i + 1) rfl (by omega) _ _ (by assumption) (f1.tr f72) (inN_step (show 0 ≤ w1 c 0 by omega) e1 b72 (by rw [← f1 p (by omega), ← e66]; exact e72))
  have loop18 : ∀ n0 : Nat, ∀ i : Int, (kbX (cx w c) (b + 1) - kbX (cx w c) a - i).toNat = n0 → 0 ≤ i → i ≤ kbX (cx w c) (b + 1) - kbX (cx w c) a → ∀ (w1 : Wd), WR w1 → FRM c w w1 → CEQ (cx w1 c) (dlX (cx w c) (kbX (cx w c) (b + 1)) i) → V mX0_replaceRange (Rm d) 0 0 18 [some (vR (some c)), some (vI a), some (vI b), some (vI e), some (vR (some p)), some (vI (kbX (cx w c) a)), some (vI (kbX (cx w c) (b + 1) - 1 - i)), none] [] (fl w1) (lQ Q) := by
    refine ind_lt ?_
    intro n0 ih i hm h0 hi w1 hw1 f1 e1
    have c1 : w1 c 0 = w c 0 - i := e1.1
    have k4 := k2.1
    have k5 := k3.2.1
    have k6 : cx w c 0 0 = w c 0 := rfl
    refine r_iload (pc := 18) dX0_replaceRange_18 rfl ?_
    refine r_iload (pc := 20) dX0_replaceRange_20 rfl ?_
    refine r_icmplt (pc := 22) (tgt := 37) dX0_replaceRange_22 rfl (by omega) (by omega) (fun h22 => ?_) (fun h22 => ?_)
    · refine r_iload_n (pc := 37) dX0_replaceRange_37 rfl ?_
      refine r_iload_n (pc := 38) dX0_replaceRange_38 rfl ?_
      refine r_iload_n (pc := 39) dX0_replaceRange_39 rfl ?_
      refine c_X0_69 (pc := 40) rfl dX0_replaceRange_40 (by omega) (Nat.le_of_ble_eq_true rfl) ?_
      refine m_X11_stepsIn (d - 1) (by omega) (by assumption) (by omega) (by omega) (by omega) (fun r40 e40 b40 b240 => ?_)
      subst e40
      refine r_istore6 (pc := 43) dX0_replaceRange_43 rfl ?_
      refine r_iconst (pc := 45) (n := 0) dX0_replaceRange_45 ?_
      refine r_istore7 (pc := 46) dX0_replaceRange_46 rfl ?_
      exact loop48 _ 0 rfl (by omega) _ _ (by assumption) (by assumption) (by rw [show kbX (cx w c) (b + 1) - kbX (cx w c) a = i by omega]; exact e1)
    refine r_aload_n (pc := 25) dX0_replaceRange_25 rfl ?_
    refine r_iload (pc := 26) dX0_replaceRange_26 rfl ?_
    refine c_X0_65 (pc := 28) rfl dX0_replaceRange_28 (by first | assumption | rfl) (by omega) (Nat.le_of_ble_eq_true rfl) ?_
    refine m_X0_drop (d - 1) (by omega) (by assumption) (by assumption) (by omega) (by omega) (fun w28 f28 e28 hw28 => ?_)
    refine r_iinc6 (pc := 31) dX0_replaceRange_31 rfl ?_
    refine r_goto (pc := 34) (tgt := 18) dX0_replaceRange_34 rfl ?_
    rw [show kbX (cx w c) (b + 1) - 1 - i + -1 = kbX (cx w c) (b + 1) - 1 - (i + 1) by omega]
    exact ih _ (by omega) (i + 1) rfl (by omega) (by omega) _ (by assumption) (f1.tr f28) (dlX_step (by omega) e1 e28)
  refine r_aload_n (pc := 0) dX0_replaceRange_0 rfl ?_
  refine r_iload_n (pc := 1) dX0_replaceRange_1 rfl ?_
  refine c_X0_45 (pc := 2) rfl dX0_replaceRange_2 (by first | assumption | rfl) (by omega) (Nat.le_of_ble_eq_true rfl) ?_
  refine m_X0_keysBefore (d - 1) (by omega) (by assumption) (by assumption) (by omega) (by omega) (fun r2 e2 => ?_)
  rw [kbX_of (X := cx w c) hn.1 e2]
  refine r_istore5 (pc := 5) dX0_replaceRange_5 rfl ?_
  refine r_aload_n (pc := 7) dX0_replaceRange_7 rfl ?_
  refine r_iload_n (pc := 8) dX0_replaceRange_8 rfl ?_
  refine r_iconst (pc := 9) (n := 1) dX0_replaceRange_9 ?_
  refine r_iadd (pc := 10) dX0_replaceRange_10 ?_
  refine c_X0_45 (pc := 11) rfl dX0_replaceRange_11 (by first | assumption | rfl) (by omega) (Nat.le_of_ble_eq_true rfl) ?_
  refine m_X0_keysBefore (d - 1) (by omega) (by assumption) (by assumption) (by omega) (by omega) (fun r11 e11 => ?_)
  rw [kbX_of (X := cx w c) hn.1 e11]
  have k5 := k3.2.1
  have k6 : cx w c 0 0 = w c 0 := rfl
  have k4 := k3.1
  refine r_iconst (pc := 14) (n := 1) dX0_replaceRange_14 ?_
  refine r_isub (pc := 15) dX0_replaceRange_15 ?_
  refine r_istore6 (pc := 16) dX0_replaceRange_16 rfl ?_
  rw [show kbX (cx w c) (b + 1) - 1 = kbX (cx w c) (b + 1) - 1 - 0 by omega]
  exact loop18 _ 0 rfl (by omega) (by omega) _ (by assumption) (FRM.rf _ _) (by rw [dlX_0]; exact CEQ.rf _)
set_option maxRecDepth 8000 in
theorem m_X0_retimeKeys {Q : Option AV → Wd → Prop} {w : Wd} (d : Nat) {c : Nat} {m p : Nat} (hd : 3 ≤ d) (hw : WR w) (hs : sh c = 0) (hsm : sh m = 10) (hp : sh p = 1000 + 24) (hcp : c + 5 < p) (hmc : m + 2 < c) (hI : CI (cx w c)) (hM : MI (w m 0) (w (m + 1)) (w (m + 2))) (hQ : ∀ w2, FRM c w w2 → cx w2 c = retX (cx w c) (w m 0) (w (m + 1)) (w (m + 2)) (w p) (w c 0) → WR w2 → Q none w2) : M mX0_retimeKeys (Rm d) [vR (some c), vR (some m), vR (some p)] (fl w) (lQ Q) := by
  obtain ⟨s1, s2, s3, s4, s5⟩ := sh_curve hs
  obtain ⟨hn, P, O, b1, b2, b3, b4⟩ := CIw hI
  refine f_mofv (L0 := [some (vR (some c)), some (vR (some m)), some (vR (some p)), none, none]) rfl (Nat.le_of_ble_eq_true rfl) rfl ?_
  have cut77 : ∀ k : Int, 0 ≤ k → k < w c 0 → (∀ (w1 : Wd) (o : Option AV), WR w1 → FRM c w w1 → cx w1 c = retX (cx w c) (w m 0) (w (m + 1)) (w (m + 2)) (w p) (k + 1) → V mX0_retimeKeys (Rm d) 0 0 2 [some (vR (some c)), some (vR (some m)), some (vR (some p)), some (vI (k + 1)), o] [] (fl w1) (lQ Q)) → ∀ (w4 : Wd) (o : Option AV), WR w4 → FRM c w w4 → cx w4 c = retM (cx w c) (w m 0) (w (m + 1)) (w (m + 2)) (w p) k → V mX0_retimeKeys (Rm d) 0 0 77 [some (vR (some c)), some (vR (some m)), some (vR (some p)), some (vI k), o] [] (fl w4) (lQ Q) := by
    intro k k0 kn kk w4 o hw4 f4 e4
    refine r_aload_n (pc := 77) dX0_retimeKeys_77 rfl ?_
    refine g_X0_18 (pc := 78) rfl dX0_retimeKeys_78 (by first | assumption | rfl) ?_
    refine r_iload_n (pc := 81) dX0_retimeKeys_81 rfl ?_
    refine r_aload_n (pc := 82) dX0_retimeKeys_82 rfl ?_
    refine r_iload_n (pc := 83) dX0_retimeKeys_83 rfl ?_
    refine c_X0_53 (pc := 84) rfl dX0_retimeKeys_84 (by omega) (Nat.le_of_ble_eq_true rfl) ?_
    refine m_X11_at (d - 1) (by omega) (by assumption) (n := 24) (by assumption) (by omega) (by omega) (fun r84 e84 b84 => ?_)
    rw [gA_in (by omega) (by omega)] at e84
    refine c_X0_61 (pc := 87) rfl dX0_retimeKeys_87 (by omega) (Nat.le_of_ble_eq_true rfl) ?_
    refine m_X11_put (d - 1) (by omega) (by assumption) (n := 24) (by assumption) (by omega) (by omega) (by omega) (fun w87 e87 hw87 => ?_)
    rw [pA_in (by omega) (by omega)] at e87
    refine r_iinc3 (pc := 90) dX0_retimeKeys_90 rfl ?_
    refine r_goto (pc := 93) (tgt := 2) dX0_retimeKeys_93 rfl ?_
    exact kk _ _ (by assumption) (f4.tr (by rw [e87]; exact FRM_up (r := 1) (by omega))) (by rw [e87, cx_up, e4, e84, f4 p (by omega)]; exact retX_s k0)
  have loop2 : ∀ n0 : Nat, ∀ k : Int, (w c 0 - k).toNat = n0 → 0 ≤ k → k ≤ w c 0 → ∀ (w1 : Wd) (o : Option AV), WR w1 → FRM c w w1 → cx w1 c = retX (cx w c) (w m 0) (w (m + 1)) (w (m + 2)) (w p) k → V mX0_retimeKeys (Rm d) 0 0 2 [some (vR (some c)), some (vR (some m)), some (vR (some p)), some (vI k), o] [] (fl w1) (lQ Q) := by
    refine ind_lt ?_
    intro n0 ih k hm k0 kn w1 o hw1 f1 e1
    have g : ∀ r j, w1 (c + r) j = retX (cx w c) (w m 0) (w (m + 1)) (w (m + 2)) (w p) k r j := fun r j => by rw [← e1]; rfl
    have c1 : w1 c 0 = w c 0 := (g 0 0).trans retX_n
    have gm : MI (w1 m 0) (w1 (m + 1)) (w1 (m + 2)) := by rw [f1 m (by omega), f1 (m + 1) (by omega), f1 (m + 2) (by omega)]; exact hM
    refine r_iload_n (pc := 2) dX0_retimeKeys_2 rfl ?_
    refine r_aload_n (pc := 3) dX0_retimeKeys_3 rfl ?_
    refine g_X0_38 (pc := 4) rfl dX0_retimeKeys_4 (by assumption) (by first | assumption | rfl) (fun h4 => ?_)
    refine r_icmpge (pc := 7) (tgt := 96) dX0_retimeKeys_7 rfl (by omega) (by omega) (fun h7 => ?_) (fun h7 => ?_)
    · exact f_vret (pc := 96) dX0_retimeKeys_96 rfl (by assumption) (hQ _ f1 (by rw [e1, show k = w c 0 by omega]) (by assumption))
    refine r_aload_n (pc := 10) dX0_retimeKeys_10 rfl ?_
    refine g_X0_18 (pc := 11) rfl dX0_retimeKeys_11 (by first | assumption | rfl) ?_
    refine r_iload_n (pc := 14) dX0_retimeKeys_14 rfl ?_
    refine c_X0_53 (pc := 15) rfl dX0_retimeKeys_15 (by omega) (Nat.le_of_ble_eq_true rfl) ?_
    refine m_X11_at (d - 1) (by omega) (by assumption) (n := 24) (by assumption) (by omega) (by omega) (fun r15 e15 b15 => ?_)
    rw [gA_in (by omega) (by omega)] at e15
    have z15 : r15 = w (c + 1) k := by rw [e15, g 1 k]; exact retX_k (by omega)
    have Pk := P k k0 (by omega)
    refine r_istore4 (pc := 18) dX0_retimeKeys_18 rfl ?_
    refine r_aload_n (pc := 20) dX0_retimeKeys_20 rfl ?_
    refine g_X0_25 (pc := 21) rfl dX0_retimeKeys_21 (by first | assumption | rfl) ?_
    refine r_iload_n (pc := 24) dX0_retimeKeys_24 rfl ?_
    refine c_X0_53 (pc := 25) rfl dX0_retimeKeys_25 (by omega) (Nat.le_of_ble_eq_true rfl) ?_
    refine m_X11_at (d - 1) (by omega) (by assumption) (n := 24) (by assumption) (by omega) (by omega) (fun r25 e25 b25 => ?_)
    rw [gA_in (by omega) (by omega)] at e25
    have z25 : r25 = w (c + 3) k := by rw [e25, g 3 k]; exact retX_k (by omega)
    refine r_ifne (pc := 28) (tgt := 77) dX0_retimeKeys_28 rfl (by omega) (fun h28 => ?_) (fun h28 => ?_)
    · exact cut77 k k0 (by omega) (fun w1 o a b e => ih _ (by omega) (k + 1) rfl (by omega) (by omega) w1 o a b e) _ _ (by assumption) f1 (by rw [e1]; exact (retM_n (show w (c + 3) k ≠ 0 by omega)).symm)
    refine r_aload_n (pc := 31) dX0_retimeKeys_31 rfl ?_
    refine g_X0_28 (pc := 32) rfl dX0_retimeKeys_32 (by first | assumption | rfl) ?_
    refine r_iload_n (pc := 35) dX0_retimeKeys_35 rfl ?_
    refine r_aload_n (pc := 36) dX0_retimeKeys_36 rfl ?_
    refine r_aload_n (pc := 37) dX0_retimeKeys_37 rfl ?_
    refine g_X0_28 (pc := 38) rfl dX0_retimeKeys_38 (by first | assumption | rfl) ?_
    refine r_iload_n (pc := 41) dX0_retimeKeys_41 rfl ?_
    refine c_X0_53 (pc := 42) rfl dX0_retimeKeys_42 (by omega) (Nat.le_of_ble_eq_true rfl) ?_
    refine m_X11_at (d - 1) (by omega) (by assumption) (n := 24) (by assumption) (by omega) (by omega) (fun r42 e42 b42 => ?_)
    rw [gA_in (by omega) (by omega)] at e42
    have z42 : r42 = w (c + 4) k := by rw [e42, g 4 k]; exact retX_k (by omega)
    have y0 := f1 m (by omega)
    have y1 := f1 (m + 1) (by omega)
    have y2 := f1 (m + 2) (by omega)
    refine r_iload (pc := 45) dX0_retimeKeys_45 rfl ?_
    refine r_iconst (pc := 47) (n := 0) dX0_retimeKeys_47 ?_
    refine c_X0_103 (pc := 48) rfl dX0_retimeKeys_48 (by first | assumption | rfl) (by omega) (Nat.le_of_ble_eq_true rfl) ?_
    refine m_X10_stretched (d - 1) (by omega) (by assumption) (by assumption) (by assumption) (by omega) (by omega) (by omega) (fun r48 e48 b48 => ?_)
    refine c_X0_61 (pc := 51) rfl dX0_retimeKeys_51 (by omega) (Nat.le_of_ble_eq_true rfl) ?_
    refine m_X11_put (d - 1) (by omega) (by assumption) (n := 24) (by assumption) (by omega) (by omega) (by omega) (fun w51 e51 hw51 => ?_)
    rw [pA_in (by omega) (by omega)] at e51
    have gm2 : MI (w51 m 0) (w51 (m + 1)) (w51 (m + 2)) := by rw [e51, up_ne (by omega), up_ne (by omega), up_ne (by omega)]; exact gm
    refine r_aload_n (pc := 54) dX0_retimeKeys_54 rfl ?_
    refine g_X0_31 (pc := 55) rfl dX0_retimeKeys_55 (by first | assumption | rfl) ?_
    refine r_iload_n (pc := 58) dX0_retimeKeys_58 rfl ?_
    refine r_aload_n (pc := 59) dX0_retimeKeys_59 rfl ?_
    refine r_aload_n (pc := 60) dX0_retimeKeys_60 rfl ?_
    refine g_X0_31 (pc := 61) rfl dX0_retimeKeys_61 (by first | assumption | rfl) ?_
    refine r_iload_n (pc := 64) dX0_retimeKeys_64 rfl ?_
    refine c_X0_53 (pc := 65) rfl dX0_retimeKeys_65 (by omega) (Nat.le_of_ble_eq_true rfl) ?_
    refine m_X11_at (d - 1) (by omega) (by assumption) (n := 24) (by assumption) (by omega) (by omega) (fun r65 e65 b65 => ?_)
    rw [gA_in (by omega) (by omega)] at e65
    have z65 : r65 = w (c + 5) k := by rw [e65, e51, up_ne (by omega), g 5 k]; exact retX_k (by omega)
    have x0 : w51 m = w1 m := by rw [e51, up_ne (by omega)]
    have x1 : w51 (m + 1) = w1 (m + 1) := by rw [e51, up_ne (by omega)]
    have x2 : w51 (m + 2) = w1 (m + 2) := by rw [e51, up_ne (by omega)]
    refine r_iload (pc := 68) dX0_retimeKeys_68 rfl ?_
    refine r_iconst (pc := 70) (n := 1) dX0_retimeKeys_70 ?_
    refine c_X0_103 (pc := 71) rfl dX0_retimeKeys_71 (by first | assumption | rfl) (by omega) (Nat.le_of_ble_eq_true rfl) ?_
    refine m_X10_stretched (d - 1) (by omega) (by assumption) (by assumption) (by assumption) (by omega) (by omega) (by omega) (fun r71 e71 b71 => ?_)
    rw [x0, x1, x2] at e71
    refine c_X0_61 (pc := 74) rfl dX0_retimeKeys_74 (by omega) (Nat.le_of_ble_eq_true rfl) ?_
    refine m_X11_put (d - 1) (by omega) (by assumption) (n := 24) (by assumption) (by omega) (by omega) (by omega) (fun w74 e74 hw74 => ?_)
    rw [pA_in (by omega) (by omega)] at e74
    exact cut77 k k0 (by omega) (fun w1 o a b e => ih _ (by omega) (k + 1) rfl (by omega) (by omega) w1 o a b e) _ _ (by assumption) (f1.tr (by rw [e74, e51]; exact (FRM_up (r := 4) (by omega)).tr (FRM_up (r := 5) (by omega)))) (by rw [e74, cx_up, e51, cx_up, e1, e71, e48, z42, z65, z15, y0, y1, y2]; exact (retM_f (show w (c + 3) k = 0 by omega)).symm)
  refine r_iconst (pc := 0) (n := 0) dX0_retimeKeys_0 ?_
  refine r_istore3 (pc := 1) dX0_retimeKeys_1 rfl ?_
  exact loop2 _ 0 rfl (by omega) (by omega) _ _ (by assumption) (FRM.rf _ _) retX_0.symm
