/-! what begins a factor -/
def FRC (w w2 : Wd) : Prop := (∀ i, i ≠ 385 → w2 i = w i) ∧ ∀ j, j ≠ 12 → j ≠ 13 → j ≠ 15 → w2 385 j = w 385 j
theorem FRX.c {w w2 : Wd} (h : FRX w w2) : FRC w w2 := ⟨h.1, fun j a b _ => h.2 j a b⟩
theorem FRC.p {w w2 : Wd} (h : FRC w w2) : FRP w w2 := ⟨fun i e _ => h.1 i e, fun j a b _ c _ _ => h.2 j a b c⟩
theorem FRC.tr {w w1 w2 : Wd} (h : FRC w w1) (g : FRC w1 w2) : FRC w w2 := ⟨fun i e => (g.1 i e).trans (h.1 i e), fun j a b c => (g.2 j a b c).trans (h.2 j a b c)⟩
theorem FRC_15 {w : Wd} {x : Int} : FRC w (up w 385 15 x) := ⟨fun i e => up_ne e, fun j _ _ a => up_off (by omega)⟩
section
variable {w w2 : Wd} {T : Int → Int} {len : Int} {t t2 : Int ⊕ Int}
theorem cv_n {p c : Int} (h : hT T len (p + 1) ≠ 64) : curS T len p (97 + c) = mkR (.inr (p + 1)) (eC c 0) := by
  unfold curS
  rw [if_neg h, show 97 + c - 97 = c by omega]
  rfl
theorem cv_y {p c b : Int} (hp : p < len) (h : hT T len (p + 1) = 64) (hb : ∀ q, (.inr (p + 2) : Int ⊕ Int) = .inr q → 1 ≤ rnD T len q ∧ rnD T len q ≤ 3 → b = nvD T q (rnD T len q).toNat) : curS T len p (97 + c) = mkR (nuT T len (.inr (p + 2))) (eC c b) ∧ ∀ q, nuT T len (.inr (p + 2)) = .inr q → p < q := by
  rcases hn : nuT T len (.inr (p + 2)) with q | q
  · exact ⟨cur_l1 h hn, fun x e => by cases e⟩
  · obtain ⟨h1, h2, h3⟩ := cur_r1 (l := 97 + c) hp h hn (hb _ rfl)
    rw [show 97 + c - 97 = c by omega] at h3
    exact ⟨h3, fun x e => by cases e; exact h1⟩
theorem nuT_le {p q : Int} (hp : p ≤ len) (h : nuT T len (.inr p) = .inr q) : p < q ∧ q ≤ len := by
  have a := rnD_len (T := T) hp
  have h : (if 1 ≤ rnD T len p ∧ rnD T len p ≤ 3 then (.inr (p + rnD T len p) : Int ⊕ Int) else .inl p) = .inr q := h
  split at h
  · cases h; omega
  · cases h
theorem fac_dig {n : Nat} {p b : Int} (h : 48 ≤ hT T len p ∧ hT T len p ≤ 57) (hb : 1 ≤ rnD T len p ∧ rnD T len p ≤ 3 → b = nvD T p (rnD T len p).toNat) : facS T len n p = mkR (nuT T len (.inr p)) (eN b) := by
  rw [facS_o]
  unfold facB
  rw [if_neg (by omega), if_neg (by omega), if_neg (by omega), if_neg (by omega)]
  unfold numS
  by_cases z : 1 ≤ rnD T len p ∧ rnD T len p ≤ 3
  · rw [if_pos z, show nuT T len (.inr p) = .inr (p + rnD T len p) from if_pos z, hb z]; rfl
  · rw [if_neg z, show nuT T len (.inr p) = .inl p from if_neg z]; rfl
theorem fac_els {n : Nat} {p : Int} (hp : p ≤ len) (h1 : ¬ (48 ≤ hT T len p ∧ hT T len p ≤ 57)) (h2 : ¬ (97 ≤ hT T len p ∧ hT T len p ≤ 100)) (h3 : hT T len p ≠ 109) (h4 : hT T len p ≠ 40) (h5 : hT T len p ≠ 45) : facS T len n p = .inl p := by
  rw [facS_o]
  unfold facB
  rw [if_neg h2, if_neg h3, if_neg h4, if_neg h5]
  unfold numS
  have z : (0 : Int) = rnD T len p := KB_one (n := len - p) (f := dgt T len p) (t := 1) ⟨by omega, by omega, fun j a b => by omega, fun _ => by
    unfold dgt
    rw [if_neg (by rw [show p + 0 = p by omega]; exact h1)]
    omega⟩ (rnD_KB hp)
  rw [if_neg (by omega)]
def IVN (T : Int → Int) (len : Int) (St : List FR6) (n : Nat) (p : Int) (t2 : Int ⊕ Int) (S2 : List FR6) : Prop := (∃ q, t2 = .inl q ∧ facS T len n p = .inl q) ∨ (∃ (m : Nat) (k x y z q : Int), n = m + 1 ∧ S2 = (k, 0, x, y, 0, z) :: St ∧ t2 = .inr q ∧ ((k = 1 ∧ facS T len n p = bn (sumS T len (facS T len m) q) fun q2 e => mst T len 41 q2 (.inr (q2 + 1, e))) ∨ (k = 2 ∧ facS T len n p = bn (facS T len m q) fun q2 e => .inr (q2, eG e)) ∨ (k = 3 ∧ facS T len n p = choT T len (facS T len m) 5 q) ∨ (k = 5 ∧ facS T len n p = choT T len (facS T len m) 6 q)))
theorem cho_t {n : Nat} {p r : Int} {t3 : Int ⊕ Int} (h : (r ≠ 0 ∧ hT T len (p + 1) = 105 ∧ t3 = exT T len 110 (exT T len 105 (.inr (p + 1)))) ∨ (r = 0 ∧ hT T len (p + 1) ≠ 105 ∧ t3 = exT T len 120 (exT T len 97 (.inr (p + 1))))) : choS T len (oS T len n) p = tb t3 (fun q => mst T len 40 q (choO T len (oS T len n) (if r = 0 then 6 else 5) q)) := by
  rcases h with ⟨h1, h2, h3⟩ | ⟨h1, h2, h3⟩
  · rw [if_neg h1, h3, exT_y h2, show p + 1 + 1 = p + 2 by omega]
    exact cho_5 h2
  · rw [if_pos h1, h3]
    exact cho_6 h2
theorem cho_bad {St S2 : List FR6} {n : Nat} {p k : Int} {t3 : Int ⊕ Int} (hm : hT T len p = 109) (h : choS T len (oS T len n) p = tb t3 (fun q => mst T len 40 q (choO T len (oS T len n) k q))) (hn : ∀ q, t3 = .inr q → hT T len q ≠ 40) : IVN T len St n p (exT T len 40 t3) S2 := by
  refine Or.inl ?_
  rw [fac_m hm, h]
  rcases t3 with q | q
  · exact ⟨q, rfl, rfl⟩
  · exact ⟨q, exT_n (hn q rfl), mst_n (hn q rfl)⟩
theorem cho_0 {St S2 : List FR6} {p k q : Int} (hm : hT T len p = 109) (h : choS T len (oS T len 0) p = tb (.inr q) (fun q => mst T len 40 q (choO T len (oS T len 0) k q))) (hn : hT T len q = 40) : IVN T len St 0 p (exT T len 40 (.inl q)) S2 := by
  refine Or.inl ⟨q, rfl, ?_⟩
  rw [fac_m hm, h]
  show mst T len 40 q _ = _
  rw [mst_y hn]
  rfl
theorem cho_y {St : List FR6} {n : Nat} {p r q kd x y z : Int} (hm : hT T len p = 109) (hn0 : 0 < n) (h : choS T len (oS T len n) p = tb (.inr q) (fun q => mst T len 40 q (choO T len (oS T len n) (if r = 0 then 6 else 5) q))) (hn : hT T len q = 40) (hk : (r ≠ 0 ∧ kd = 3) ∨ (r = 0 ∧ kd = 5)) : IVN T len St n p (exT T len 40 (.inr q)) ((kd, 0, x, y, 0, z) :: St) := by
  obtain ⟨m, rfl⟩ : ∃ m, n = m + 1 := ⟨n - 1, by omega⟩
  refine Or.inr ⟨m, kd, x, y, z, q + 1, rfl, rfl, exT_y hn, ?_⟩
  have e : facS T len (m + 1) p = choT T len (facS T len m) (if r = 0 then 6 else 5) (q + 1) := by
    rw [fac_m hm, h]
    show mst T len 40 q _ = _
    rw [mst_y hn]
    rfl
  rcases hk with ⟨a, b⟩ | ⟨a, b⟩
  · rw [if_neg a] at e
    exact Or.inr (Or.inr (Or.inl ⟨b, e⟩))
  · rw [if_pos a] at e
    exact Or.inr (Or.inr (Or.inr ⟨b, e⟩))
theorem par_0 {St S2 : List FR6} {p c : Int} (hc : hT T len p = c) (h : c = 40 ∨ c = 45) : IVN T len St 0 p (exT T len c (.inl p)) S2 := by
  refine Or.inl ⟨p, rfl, ?_⟩
  show facB T len none p = _
  unfold facB
  rw [if_neg (by omega), if_neg (by omega)]
  rcases h with h | h
  · rw [if_pos (by omega)]
  · rw [if_neg (by omega), if_pos (by omega)]
theorem par_y {St : List FR6} {n : Nat} {p c kd x y z : Int} (hn0 : 0 < n) (hc : hT T len p = c) (h : (c = 40 ∧ kd = 1) ∨ (c = 45 ∧ kd = 2)) : IVN T len St n p (exT T len c (.inr p)) ((kd, 0, x, y, 0, z) :: St) := by
  obtain ⟨m, rfl⟩ : ∃ m, n = m + 1 := ⟨n - 1, by omega⟩
  refine Or.inr ⟨m, kd, x, y, z, p + 1, rfl, rfl, exT_y hc, ?_⟩
  rcases h with ⟨a, b⟩ | ⟨a, b⟩
  · refine Or.inl ⟨b, ?_⟩
    show facB T len (some (facS T len m)) p = _
    unfold facB
    rw [if_neg (by omega), if_neg (by omega), if_pos (by omega)]
  · refine Or.inr (Or.inl ⟨b, ?_⟩)
    show facB T len (some (facS T len m)) p = _
    unfold facB
    rw [if_neg (by omega), if_neg (by omega), if_neg (by omega), if_pos (by omega)]
theorem MP.x {S : List FR6} {fa : Int} (h : MP w T len t S fa) (f : FRX w w2) (e : MS w2 T len t2) (hp : ∀ p, t2 = .inr p → 0 ≤ fa ∧ fa ≤ p) : MP w2 T len t2 S fa := ⟨e, h.2.1.rows (fun i a b => f.1 i (by omega)), by rw [f.2 23 (by omega) (by omega)]; exact h.2.2.1, by rw [f.2 14 (by omega) (by omega)]; exact h.2.2.2.1, by rw [f.2 15 (by omega) (by omega)]; exact h.2.2.2.2.1, h.2.2.2.2.2.1, h.2.2.2.2.2.2.1, hp⟩
theorem MP.fa {S : List FR6} {fa : Int} (h : MP w T len t S fa) : ∀ p, t = .inr p → 0 ≤ fa ∧ fa ≤ p := h.2.2.2.2.2.2.2
theorem FRO.ms (f : FRO w w2) (h : MS w T len t) : MS w2 T len t := h.kp2 (f.2 11 (by omega) (by omega)) (f.2 4 (by omega) (by omega)) (f.1 386 (by omega) (by omega)) (f.1 388 (by omega) (by omega)) (f.2 12 (by omega) (by omega)) (f.2 13 (by omega) (by omega))
theorem MP.op {S : List FR6} {fa k x y z : Int} (h : MP w T len t S fa) (f : FRO w w2) (hk : 0 < k) (hl : S.length ≤ 8) (s : STK w2 ((k, 0, x, y, 0, z) :: S)) (o : w2 385 23 = S.length) (dp : w2 385 14 = w 385 14 + (if 0 < k then 1 else 0)) : MP w2 T len t ((k, 0, x, y, 0, z) :: S) fa := by
  rw [if_pos hk] at dp
  refine ⟨f.ms h.1, s, by rw [o, List.length_cons]; omega, by rw [dp, h.2.2.2.1, List.length_cons]; omega, by rw [f.2 15 (by omega) (by omega)]; exact h.2.2.2.2.1, h.2.2.2.2.2.1.push, by rw [List.length_cons]; omega, h.2.2.2.2.2.2.2⟩
theorem MS.t_eq {p : Int} (h : MS w T len t) (e : t = .inr p) : w 385 12 = p := (h.pl p e).1
end
set_option maxRecDepth 8000 in
theorem m_X12_curveValue {Q : Option AV → Wd → Prop} {w : Wd} (d : Nat) {T : Int → Int} {len p c fa : Int} (hd : 8 ≤ d) (hw : WR w) (hS : MS w T len (.inr p)) (hpl : p < len) (hc : 0 ≤ c ∧ c ≤ 3) (hfa : w 385 15 = fa) (hfb : 0 ≤ fa ∧ fa ≤ p) (hI : ∀ q, 0 ≤ q → q ≤ 3 → CI (mx w q)) (hnow : 0 ≤ w 385 16 ∧ w 385 16 ≤ 960) (hQ : ∀ r w2 t2 e, R32 r → curS T len p (97 + c) = mkR t2 e → lfs e.1 = 1 → (∀ q, t2 = .inr q → p < q ∧ r = e.2 (Vm w)) → FRC w w2 → MS w2 T len t2 → w2 385 15 = fa + 1 → WR w2 → Q (some (vI r)) w2) : M mX12_curveValue (Rm d) [vR (some 385), vI c] (fl w) (lQ Q) := by
  obtain ⟨f1, f2, f3, f4⟩ := hS.inr
  have ln := hS.ln
  have hS1 : MS (up w 385 12 (p + 1)) T len (.inr (p + 1)) := hS.mv (by omega)
  refine f_mofv (L0 := [some (vR (some 385)), some (vI c), none]) rfl (Nat.le_of_ble_eq_true rfl) rfl ?_
  have cut36 : ∀ (b : Int) (w1 : Wd) (t2 : Int ⊕ Int), curS T len p (97 + c) = mkR t2 (eC c b) → (∀ q, t2 = .inr q → p < q ∧ 0 ≤ b ∧ b ≤ 9999) → FRX w w1 → MS w1 T len t2 → WR w1 → V mX12_curveValue (Rm d) 0 0 36 [some (vR (some 385)), some (vI c), some (vI b)] [] (fl w1) (lQ Q) := by
    intro b w1 t2 hcur hbq hf1 hS2 hw1
    have g15 : w1 385 15 = fa := by rw [hf1.2 15 (by omega) (by omega)]; exact hfa
    have FC : FRC w (up w1 385 15 (fa + 1)) := hf1.c.tr FRC_15
    have M2 : MS (up w1 385 15 (fa + 1)) T len t2 := hS2.fld (by omega)
    have hI2 : CI (mx (up w1 385 15 (fa + 1)) c) := by
      have z : mx (up w1 385 15 (fa + 1)) c = mx w c := by unfold mx; rw [FC.1 386 (by omega)]
      rw [z]; exact hI c hc.1 hc.2
    have zx : mx (up w1 385 15 (fa + 1)) c = mx w c := by unfold mx; rw [FC.1 386 (by omega)]
    have hIn := (hI c hc.1 hc.2).1
    have zn : mx (up w1 385 15 (fa + 1)) c 0 0 = mx w c 0 0 := by rw [zx]
    have z16 : up w1 385 15 (fa + 1) 385 16 = w 385 16 := FC.2 16 (by omega) (by omega) (by omega)
    refine r_aload_n (pc := 36) dX12_curveValue_36 rfl ?_
    refine r_dup (pc := 37) dX12_curveValue_37 rfl ?_
    refine h_X12_232 (pc := 38) rfl dX12_curveValue_38 (by assumption) (fun h38 => ?_)
    rw [g15] at h38 ⊢
    refine r_iconst (pc := 41) (n := 1) dX12_curveValue_41 ?_
    refine r_iadd (pc := 42) dX12_curveValue_42 ?_
    refine ph_X12_232 (pc := 43) rfl dX12_curveValue_43 (by assumption) (by omega) (fun hw43 => ?_)
    refine r_aload_n (pc := 46) dX12_curveValue_46 rfl ?_
    refine h_X12_216 (pc := 47) rfl dX12_curveValue_47 (by assumption) (fun h47 => ?_)
    refine r_ifge (pc := 50) (tgt := 61) dX12_curveValue_50 rfl (by omega) (fun h50 => ?_) (fun h50 => ?_)
    · obtain ⟨q, y1, y2, y3, y4⟩ := M2.bad (by omega)
      refine r_iconst (pc := 61) (n := 0) dX12_curveValue_61 ?_
      refine r_goto (pc := 62) (tgt := 80) dX12_curveValue_62 rfl ?_
      exact f_iret (pc := 80) dX12_curveValue_80 rfl (by assumption) (hQ _ _ _ _ (by omega) hcur (lfs_C c b) (fun q e => by rw [y1] at e; cases e) FC M2 up_hit (by assumption))
    obtain ⟨q, y1, y2, y3, y4, y5⟩ := M2.ok (by omega)
    obtain ⟨u1, u2, u3⟩ := hbq q y1
    refine r_aload_n (pc := 53) dX12_curveValue_53 rfl ?_
    refine r_iload_n (pc := 54) dX12_curveValue_54 rfl ?_
    refine c_X12_78 (pc := 55) rfl dX12_curveValue_55 (by first | assumption | rfl) (by omega) (Nat.le_of_ble_eq_true rfl) ?_
    refine m_X12_many (d - 1) (by omega) (by assumption) (by omega) (fun r55 e55 b55 => ?_)
    rw [zx] at e55
    refine r_ifne (pc := 58) (tgt := 65) dX12_curveValue_58 rfl (by omega) (fun h58 => ?_) (fun h58 => ?_)
    · refine r_aload_n (pc := 65) dX12_curveValue_65 rfl ?_
      refine r_iload_n (pc := 66) dX12_curveValue_66 rfl ?_
      refine r_iconst (pc := 67) (n := 0) dX12_curveValue_67 ?_
      refine r_aload_n (pc := 68) dX12_curveValue_68 rfl ?_
      refine h_X12_235 (pc := 69) rfl dX12_curveValue_69 (by assumption) (fun h69 => ?_)
      rw [z16]
      refine r_iload_n (pc := 72) dX12_curveValue_72 rfl ?_
      refine r_isub (pc := 73) dX12_curveValue_73 ?_
      refine c_X12_112 (pc := 74) rfl dX12_curveValue_74 (by omega) (Nat.le_of_ble_eq_true rfl) ?_
      refine m_X12_most (d - 1) (by omega) (by assumption) (by omega) (by omega) (fun r74 e74 b74 => ?_)
      refine c_X12_133 (pc := 77) rfl dX12_curveValue_77 (by first | assumption | rfl) (by omega) (Nat.le_of_ble_eq_true rfl) ?_
      refine m_X12_valueAt (d - 1) (by omega) (by assumption) (by assumption) (by assumption) (by omega) (by omega) (fun r77 e77 b77 => ?_)
      rw [zx] at e77
      exact f_iret (pc := 80) dX12_curveValue_80 rfl (by assumption) (hQ _ _ _ _ (by omega) hcur (lfs_C c b) (fun q2 e => ⟨(hbq q2 e).1, by rw [e77, e74]; rfl⟩) FC M2 up_hit (by assumption))
    refine r_iconst (pc := 61) (n := 0) dX12_curveValue_61 ?_
    refine r_goto (pc := 62) (tgt := 80) dX12_curveValue_62 rfl ?_
    exact f_iret (pc := 80) dX12_curveValue_80 rfl (by assumption) (hQ _ _ _ _ (by omega) hcur (lfs_C c b) (fun q2 e => ⟨(hbq q2 e).1, (if_pos (show mx w c 0 0 < 1 by omega)).symm⟩) FC M2 up_hit (by assumption))
  refine r_aload_n (pc := 0) dX12_curveValue_0 rfl ?_
  refine r_dup (pc := 1) dX12_curveValue_1 rfl ?_
  refine h_X12_213 (pc := 2) rfl dX12_curveValue_2 (by assumption) (fun h2 => ?_)
  rw [f2]
  refine r_iconst (pc := 5) (n := 1) dX12_curveValue_5 ?_
  refine r_iadd (pc := 6) dX12_curveValue_6 ?_
  refine ph_X12_213 (pc := 7) rfl dX12_curveValue_7 (by assumption) (by omega) (fun hw7 => ?_)
  refine r_iconst (pc := 10) (n := 0) dX12_curveValue_10 ?_
  refine r_istore2 (pc := 11) dX12_curveValue_11 rfl ?_
  refine r_aload_n (pc := 12) dX12_curveValue_12 rfl ?_
  refine r_bipush (pc := 13) (n := 64) dX12_curveValue_13 (by decide) ?_
  refine c_X12_223 (pc := 15) rfl dX12_curveValue_15 (by first | assumption | rfl) (by omega) (Nat.le_of_ble_eq_true rfl) ?_
  refine m_X12_is (d - 1) (by omega) (by assumption) hS1 (by omega) (fun r15 b15 e15 => ?_)
  refine r_ifeq (pc := 18) (tgt := 36) dX12_curveValue_18 rfl (by omega) (fun h18 => ?_) (fun h18 => ?_)
  · exact cut36 0 _ _ (cv_n (by have := e15.n h18 (p + 1) rfl; exact this)) (fun q e => by cases e; omega) FRX_12 hS1 (by assumption)
  have E64 : hT T len (p + 1) = 64 := by
    obtain ⟨x, y1, y2⟩ := e15.y h18
    cases y1; exact y2
  have pl64 := hT_pos (T := T) (len := len) (p := p + 1) (by omega)
  have hS22 : MS (up (up w 385 12 (p + 1)) 385 12 (p + 1 + 1)) T len (.inr (p + 2)) := by
    rw [show p + 1 + 1 = p + 2 by omega]
    exact hS1.mv (by omega)
  refine r_aload_n (pc := 21) dX12_curveValue_21 rfl ?_
  refine r_dup (pc := 22) dX12_curveValue_22 rfl ?_
  refine h_X12_213 (pc := 23) rfl dX12_curveValue_23 (by assumption) (fun h23 => ?_)
  rw [up_hit]
  refine r_iconst (pc := 26) (n := 1) dX12_curveValue_26 ?_
  refine r_iadd (pc := 27) dX12_curveValue_27 ?_
  refine ph_X12_213 (pc := 28) rfl dX12_curveValue_28 (by assumption) (by omega) (fun hw28 => ?_)
  refine r_aload_n (pc := 31) dX12_curveValue_31 rfl ?_
  refine c_X12_251 (pc := 32) rfl dX12_curveValue_32 (by first | assumption | rfl) (by omega) (Nat.le_of_ble_eq_true rfl) ?_
  refine ma_number (d - 1) (by omega) (by assumption) hS22 (fun r32 w32 a32 b32 n32 e32 f32 hw32 => ?_)
  refine r_istore2 (pc := 35) dX12_curveValue_35 rfl ?_
  exact cut36 r32 _ _ (cv_y hpl E64 n32).1 (fun q e => ⟨(cv_y (c := c) hpl E64 n32).2 q e, a32, b32⟩) (FRX_12.tr (FRX_12.tr f32)) e32 (by assumption)
set_option maxRecDepth 8000 in
theorem m_X12_isValue {Q : Option AV → Wd → Prop} {w : Wd} (d : Nat) {T : Int → Int} {len p fa : Int} {St : List FR6} {n : Nat} (hd : 9 ≤ d) (hw : WR w) (hM : MP w T len (.inr p) St fa) (hn : (St.length : Int) = 9 - n) (hI : ∀ q, 0 ≤ q → q ≤ 3 → CI (mx w q)) (hnow : 0 ≤ w 385 16 ∧ w 385 16 ≤ 960) (hQ1 : ∀ w2 t2 e g, facS T len n p = mkR t2 e → lfs e.1 = 1 → (∀ q, t2 = .inr q → g = e.2 (Vm w)) → FRP w w2 → MP w2 T len t2 St (fa + 1) → w2 385 24 = g → WR w2 → Q (some (vI 1)) w2) (hQ0 : ∀ w2 t2 S2, IVN T len St n p t2 S2 → FRP w w2 → MP w2 T len t2 S2 fa → WR w2 → Q (some (vI 0)) w2) : M mX12_isValue (Rm d) [vR (some 385)] (fl w) (lQ Q) := by
  obtain ⟨hS, hst, ho, hdp, hfa, hB, hl, hp⟩ := id hM
  obtain ⟨f1, f2, f3, f4⟩ := hS.inr
  have ln := hS.ln
  obtain ⟨fa0, fap⟩ := hp p rfl
  have Sl : 1 ≤ St.length := by
    cases St with
    | nil => exact absurd hB id
    | cons a b => rw [List.length_cons]; omega
  refine f_mofv (L0 := [some (vR (some 385)), none, none]) rfl (Nat.le_of_ble_eq_true rfl) rfl ?_
  have cut191 : ∀ (w2 : Wd) (t2 : Int ⊕ Int) (S2 : List FR6) (o1 o2 : Option AV), FRP w w2 → MP w2 T len t2 S2 fa → IVN T len St n p t2 S2 → WR w2 → V mX12_isValue (Rm d) 0 0 191 [some (vR (some 385)), o1, o2] [] (fl w2) (lQ Q) := by
    intro w2 t2 S2 o1 o2 hf2 hM2 hiv hw2
    refine r_iconst (pc := 191) (n := 0) dX12_isValue_191 ?_
    exact f_zret (pc := 192) dX12_isValue_192 rfl (by first | exact Or.inl rfl | exact Or.inr rfl | omega) (by assumption) (hQ0 _ _ _ hiv hf2 hM2 (by assumption))
  have cut139 : ∀ (w1 : Wd) (t4 : Int ⊕ Int) (S2 : List FR6) (o2 : Option AV), FRP w w1 → MP w1 T len t4 S2 fa → IVN T len St n p (exT T len 40 t4) S2 → WR w1 → V mX12_isValue (Rm d) 0 0 139 [some (vR (some 385)), some (vI (hT T len p)), o2] [] (fl w1) (lQ Q) := by
    intro w1 t4 S2 o2 hf1 hM1 hiv hw1
    refine r_aload_n (pc := 139) dX12_isValue_139 rfl ?_
    refine r_bipush (pc := 140) (n := 40) dX12_isValue_140 (by decide) ?_
    refine c_X12_241 (pc := 142) rfl dX12_isValue_142 (by first | assumption | rfl) (by omega) (Nat.le_of_ble_eq_true rfl) ?_
    refine m_X12_must (d - 1) (by omega) (by assumption) hM1.1 (by omega) (fun w142 e142 f142 hw142 => ?_)
    refine r_goto (pc := 145) (tgt := 191) dX12_isValue_145 rfl ?_
    exact cut191 _ _ S2 _ _ (hf1.tr f142.p) (hM1.x f142 e142 (fa_ex hM1.fa)) hiv (by assumption)
  have cut136 : hT T len p = 109 → ∀ (r : Int) (t3 : Int ⊕ Int) (q : Int) (w1 : Wd) (o2 : Option AV), FRP w w1 → MP w1 T len (.inr q) St fa → choS T len (oS T len n) p = tb (.inr q) (fun q => mst T len 40 q (choO T len (oS T len n) (if r = 0 then 6 else 5) q)) → hT T len q = 40 → WR w1 → ∀ kd : Int, (r ≠ 0 ∧ kd = 3) ∨ (r = 0 ∧ kd = 5) → V mX12_isValue (Rm d) 0 0 136 [some (vR (some 385)), some (vI (hT T len p)), o2] [vI kd, vR (some 385)] (fl w1) (lQ Q) := by
    intro hm r t3 q w1 o2 F114 M114b CHb E40 hw1 kd hkd
    have dp1 := M114b.2.2.2.1
    have op1 := M114b.2.2.1
    refine c_X12_257 (pc := 136) rfl dX12_isValue_136 (by first | assumption | rfl) (by omega) (Nat.le_of_ble_eq_true rfl) ?_
    rcases Nat.eq_zero_or_pos n with hn0 | hn0
    · refine m_X12_opensF (d - 1) (by omega) (by assumption) (by omega) (by omega) M114b.1 (fun wz ez fz pz hwz => ?_)
      subst hn0
      have ez : MS wz T len (.inl q) := by
        have a := M114b.1.t_eq rfl
        rw [a] at ez
        exact ez
      exact cut139 wz (.inl q) St _ (F114.tr fz.p) (M114b.x fz ez (fun a b => by cases b)) (cho_0 hm CHb E40) hwz
    refine m_X12_opens (St := St) (d - 1) (by omega) (by assumption) (by omega) (by omega) (by omega) op1 M114b.2.1 (by omega) (fun w136 x136 y136 z136 s136 o136 p136 f136 hw136 => ?_)
    exact cut139 _ (.inr q) _ _ (F114.tr f136.p) (M114b.op f136 (by omega) (by omega) s136 o136 p136) (cho_y hm hn0 CHb E40 hkd) (by assumption)
  have cut114 : hT T len p = 109 → ∀ (r83 : Int) (w1 : Wd) (t2 : Int ⊕ Int), (r83 = 0 ∨ r83 = 1) → FRP w w1 → MP w1 T len t2 St fa → WR w1 → ∀ l : Int, (r83 ≠ 0 ∧ l = 110 ∧ hT T len (p + 1) = 105 ∧ t2 = exT T len 105 (.inr (p + 1))) ∨ (r83 = 0 ∧ l = 120 ∧ hT T len (p + 1) ≠ 105 ∧ t2 = exT T len 97 (.inr (p + 1))) → V mX12_isValue (Rm d) 0 0 114 [some (vR (some 385)), some (vI (hT T len p)), some (vI r83)] [vI l, vR (some 385)] (fl w1) (lQ Q) := by
    intro hm r83 w1 t2 hr83 hf1 hM1 hw1 l hl2
    refine c_X12_241 (pc := 114) rfl dX12_isValue_114 (by first | assumption | rfl) (by omega) (Nat.le_of_ble_eq_true rfl) ?_
    refine m_X12_must (d - 1) (by omega) (by assumption) hM1.1 (by omega) (fun w114 e114 f114 hw114 => ?_)
    have F114 : FRP w w114 := hf1.tr f114.p
    have M114 : MP w114 T len (exT T len l t2) St fa := hM1.x f114 e114 (fa_ex hM1.fa)
    have CH := cho_t (n := n) (p := p) (r := r83) (t3 := exT T len l t2) (by rcases hl2 with ⟨a, b, c, e⟩ | ⟨a, b, c, e⟩
      <;> first | exact Or.inl ⟨a, c, by rw [b, e]⟩ | exact Or.inr ⟨a, c, by rw [b, e]⟩)
    have t3 : Int ⊕ Int := exT T len l t2
    refine r_aload_n (pc := 117) dX12_isValue_117 rfl ?_
    refine r_bipush (pc := 118) (n := 40) dX12_isValue_118 (by decide) ?_
    refine c_X12_223 (pc := 120) rfl dX12_isValue_120 (by first | assumption | rfl) (by omega) (Nat.le_of_ble_eq_true rfl) ?_
    refine m_X12_is (d - 1) (by omega) (by assumption) M114.1 (by omega) (fun r120 b120 e120 => ?_)
    refine r_ifeq (pc := 123) (tgt := 139) dX12_isValue_123 rfl (by omega) (fun h123 => ?_) (fun h123 => ?_)
    · exact cut139 _ _ St _ F114 M114 (cho_bad hm CH (e120.n (by omega))) (by assumption)
    obtain ⟨q, tq, E40⟩ := e120.y (by omega)
    have M114b : MP w114 T len (.inr q) St fa := by rw [← tq]; exact M114
    have CHb := CH
    rw [show exT T len l t2 = .inr q from tq] at CHb
    refine r_aload_n (pc := 126) dX12_isValue_126 rfl ?_
    refine r_iload_n (pc := 127) dX12_isValue_127 rfl ?_
    refine r_ifeq (pc := 128) (tgt := 135) dX12_isValue_128 rfl (by omega) (fun h128 => ?_) (fun h128 => ?_)
    · refine r_iconst (pc := 135) (n := 5) dX12_isValue_135 ?_
      exact cut136 hm r83 t3 q w114 _ F114 M114b CHb E40 (by assumption) _ (Or.inr ⟨by omega, rfl⟩)
    refine r_iconst (pc := 131) (n := 3) dX12_isValue_131 ?_
    refine r_goto (pc := 132) (tgt := 136) dX12_isValue_132 rfl ?_
    exact cut136 hm r83 t3 q w114 _ F114 M114b CHb E40 (by assumption) _ (Or.inl ⟨by omega, rfl⟩)
  have cut99 : hT T len p = 109 → ∀ (r83 : Int) (w1 : Wd), (r83 = 0 ∨ r83 = 1) → FRP w w1 → MP w1 T len (.inr (p + 1)) St fa → WR w1 → ∀ l : Int, (r83 ≠ 0 ∧ l = 105 ∧ hT T len (p + 1) = 105) ∨ (r83 = 0 ∧ l = 97 ∧ hT T len (p + 1) ≠ 105) → V mX12_isValue (Rm d) 0 0 99 [some (vR (some 385)), some (vI (hT T len p)), some (vI r83)] [vI l, vR (some 385)] (fl w1) (lQ Q) := by
    intro hm r83 w1 b83 hf1 hM1 hw1 l hl2
    refine c_X12_241 (pc := 99) rfl dX12_isValue_99 (by first | assumption | rfl) (by omega) (Nat.le_of_ble_eq_true rfl) ?_
    refine m_X12_must (d - 1) (by omega) (by assumption) hM1.1 (by omega) (fun w99 e99 f99 hw99 => ?_)
    have F99 : FRP w w99 := hf1.tr f99.p
    obtain ⟨t2, ht2⟩ : ∃ t2, t2 = exT T len l (.inr (p + 1)) := ⟨_, rfl⟩
    have M99 : MP w99 T len t2 St fa := hM1.x f99 (by rw [ht2]; exact e99) (by rw [ht2]; exact fa_ex hM1.fa)
    refine r_aload_n (pc := 102) dX12_isValue_102 rfl ?_
    refine r_iload_n (pc := 103) dX12_isValue_103 rfl ?_
    refine r_ifeq (pc := 104) (tgt := 112) dX12_isValue_104 rfl (by omega) (fun h104 => ?_) (fun h104 => ?_)
    · refine r_bipush (pc := 112) (n := 120) dX12_isValue_112 (by decide) ?_
      exact cut114 hm r83 w99 t2 b83 F99 M99 (by assumption) _ (Or.inr ⟨by omega, rfl, by omega, by rw [ht2, show l = 97 by omega]⟩)
    refine r_bipush (pc := 107) (n := 110) dX12_isValue_107 (by decide) ?_
    refine r_goto (pc := 109) (tgt := 114) dX12_isValue_109 rfl ?_
    exact cut114 hm r83 w99 t2 b83 F99 M99 (by assumption) _ (Or.inl ⟨by omega, rfl, by omega, by rw [ht2, show l = 105 by omega]⟩)
  have cut175 : ∀ (w1 : Wd) (t4 : Int ⊕ Int) (S2 : List FR6), (hT T len p = 40 ∨ hT T len p = 45) → FRP w w1 → MP w1 T len t4 S2 fa → IVN T len St n p (exT T len (hT T len p) t4) S2 → WR w1 → V mX12_isValue (Rm d) 0 0 175 [some (vR (some 385)), some (vI (hT T len p)), none] [] (fl w1) (lQ Q) := by
    intro w1 t4 S2 hc2 hf1 hM1 hiv hw1
    refine r_aload_n (pc := 175) dX12_isValue_175 rfl ?_
    refine r_iload_n (pc := 176) dX12_isValue_176 rfl ?_
    refine c_X12_241 (pc := 177) rfl dX12_isValue_177 (by first | assumption | rfl) (by omega) (Nat.le_of_ble_eq_true rfl) ?_
    refine m_X12_must (d - 1) (by omega) (by assumption) hM1.1 (by omega) (fun w177 e177 f177 hw177 => ?_)
    refine r_goto (pc := 180) (tgt := 191) dX12_isValue_180 rfl ?_
    exact cut191 _ _ S2 _ _ (hf1.tr f177.p) (hM1.x f177 e177 (fa_ex hM1.fa)) hiv (by assumption)
  have cut172 : ∀ kd : Int, (hT T len p = 40 ∧ kd = 1) ∨ (hT T len p = 45 ∧ kd = 2) → V mX12_isValue (Rm d) 0 0 172 [some (vR (some 385)), some (vI (hT T len p)), none] [vI kd, vR (some 385)] (fl w) (lQ Q) := by
    intro kd hkd
    refine c_X12_257 (pc := 172) rfl dX12_isValue_172 (by first | assumption | rfl) (by omega) (Nat.le_of_ble_eq_true rfl) ?_
    rcases Nat.eq_zero_or_pos n with hn0 | hn0
    · refine m_X12_opensF (d - 1) (by omega) (by assumption) (by omega) (by omega) hS (fun wz ez fz pz hwz => ?_)
      subst hn0
      rw [f2] at ez
      exact cut175 wz (.inl p) St (by omega) fz.p (hM.x fz ez (fun a b => by cases b)) (par_0 rfl (by omega)) hwz
    refine m_X12_opens (St := St) (d - 1) (by omega) (by assumption) (by omega) (by omega) (by omega) ho hst (by omega) (fun w172 x172 y172 z172 s172 o172 p172 f172 hw172 => ?_)
    exact cut175 _ (.inr p) _ (by omega) f172.p (hM.op f172 (by omega) (by omega) s172 o172 p172) (par_y hn0 rfl hkd) (by assumption)
  have cut160 : (hT T len p = 40 ∨ hT T len p = 45) → V mX12_isValue (Rm d) 0 0 160 [some (vR (some 385)), some (vI (hT T len p)), none] [] (fl w) (lQ Q) := by
    intro hc2
    refine r_aload_n (pc := 160) dX12_isValue_160 rfl ?_
    refine r_iload_n (pc := 161) dX12_isValue_161 rfl ?_
    refine r_bipush (pc := 162) (n := 40) dX12_isValue_162 (by decide) ?_
    refine r_icmpne (pc := 164) (tgt := 171) dX12_isValue_164 rfl (by omega) (by omega) (fun h164 => ?_) (fun h164 => ?_)
    · refine r_iconst (pc := 171) (n := 2) dX12_isValue_171 ?_
      exact cut172 _ (Or.inr ⟨by omega, rfl⟩)
    refine r_iconst (pc := 167) (n := 1) dX12_isValue_167 ?_
    refine r_goto (pc := 168) (tgt := 172) dX12_isValue_168 rfl ?_
    exact cut172 _ (Or.inl ⟨by omega, rfl⟩)
  refine r_aload_n (pc := 0) dX12_isValue_0 rfl ?_
  refine c_X12_219 (pc := 1) rfl dX12_isValue_1 (by first | assumption | rfl) (by omega) (Nat.le_of_ble_eq_true rfl) ?_
  refine m_X12_here (p := p) (d - 1) (by omega) (by assumption) hS.1 f2 f3 (fun r1 e1 b1 => ?_)
  subst e1
  refine r_istore1 (pc := 4) dX12_isValue_4 rfl ?_
  refine r_iload_n (pc := 5) dX12_isValue_5 rfl ?_
  refine r_bipush (pc := 6) (n := 48) dX12_isValue_6 (by decide) ?_
  refine r_bipush (pc := 8) (n := 57) dX12_isValue_8 (by decide) ?_
  refine c_X12_66 (pc := 10) rfl dX12_isValue_10 (by omega) (Nat.le_of_ble_eq_true rfl) ?_
  refine m_X12_in (d - 1) (by omega) (by assumption) (by omega) (by omega) (by omega) (fun r10 e10 b10 => ?_)
  have i10 := b2i_i e10
  refine r_ifeq (pc := 13) (tgt := 39) dX12_isValue_13 rfl (by omega) (fun h13 => ?_) (fun h13 => ?_)
  · refine r_iload_n (pc := 39) dX12_isValue_39 rfl ?_
    refine r_bipush (pc := 40) (n := 97) dX12_isValue_40 (by decide) ?_
    refine r_bipush (pc := 42) (n := 100) dX12_isValue_42 (by decide) ?_
    refine c_X12_66 (pc := 44) rfl dX12_isValue_44 (by omega) (Nat.le_of_ble_eq_true rfl) ?_
    refine m_X12_in (d - 1) (by omega) (by assumption) (by omega) (by omega) (by omega) (fun r44 e44 b44 => ?_)
    have i44 := b2i_i e44
    refine r_ifeq (pc := 47) (tgt := 64) dX12_isValue_47 rfl (by omega) (fun h47 => ?_) (fun h47 => ?_)
    · refine r_iload_n (pc := 64) dX12_isValue_64 rfl ?_
      refine r_bipush (pc := 65) (n := 109) dX12_isValue_65 (by decide) ?_
      refine r_icmpne (pc := 67) (tgt := 148) dX12_isValue_67 rfl (by omega) (by omega) (fun h67 => ?_) (fun h67 => ?_)
      · refine r_iload_n (pc := 148) dX12_isValue_148 rfl ?_
        refine r_bipush (pc := 149) (n := 40) dX12_isValue_149 (by decide) ?_
        refine r_icmpeq (pc := 151) (tgt := 160) dX12_isValue_151 rfl (by omega) (by omega) (fun h151 => ?_) (fun h151 => ?_)
        · exact cut160 (by omega)
        refine r_iload_n (pc := 154) dX12_isValue_154 rfl ?_
        refine r_bipush (pc := 155) (n := 45) dX12_isValue_155 (by decide) ?_
        refine r_icmpne (pc := 157) (tgt := 183) dX12_isValue_157 rfl (by omega) (by omega) (fun h157 => ?_) (fun h157 => ?_)
        · refine r_aload_n (pc := 183) dX12_isValue_183 rfl ?_
          refine r_aload_n (pc := 184) dX12_isValue_184 rfl ?_
          refine h_X12_213 (pc := 185) rfl dX12_isValue_185 (by assumption) (fun h185 => ?_)
          refine c_X12_226 (pc := 188) rfl dX12_isValue_188 (by first | assumption | rfl) (by omega) (Nat.le_of_ble_eq_true rfl) ?_
          refine m_X12_faults (d - 1) (by omega) (by assumption) hS (fun q e => by cases e; omega) (by omega) (fun w188 e188 f188 p188 hw188 => ?_)
          exact cut191 _ _ St _ _ f188.p (hM.x f188 e188 (fun q e => by cases e)) (Or.inl ⟨w 385 12, rfl, by rw [f2]; exact fac_els (by omega) (by omega) (by omega) (by omega) (by omega) (by omega)⟩) (by assumption)
        exact cut160 (by omega)
      have hm : hT T len p = 109 := by omega
      have pl109 := hT_pos (T := T) (len := len) (p := p) (by omega)
      have M77 : MP (up w 385 12 (p + 1)) T len (.inr (p + 1)) St fa := hM.x FRX_12 (hS.mv (by omega)) (fun q e => by cases e; omega)
      refine r_aload_n (pc := 70) dX12_isValue_70 rfl ?_
      refine r_dup (pc := 71) dX12_isValue_71 rfl ?_
      refine h_X12_213 (pc := 72) rfl dX12_isValue_72 (by assumption) (fun h72 => ?_)
      rw [f2]
      refine r_iconst (pc := 75) (n := 1) dX12_isValue_75 ?_
      refine r_iadd (pc := 76) dX12_isValue_76 ?_
      refine ph_X12_213 (pc := 77) rfl dX12_isValue_77 (by assumption) (by omega) (fun hw77 => ?_)
      refine r_aload_n (pc := 80) dX12_isValue_80 rfl ?_
      refine r_bipush (pc := 81) (n := 105) dX12_isValue_81 (by decide) ?_
      refine c_X12_223 (pc := 83) rfl dX12_isValue_83 (by first | assumption | rfl) (by omega) (Nat.le_of_ble_eq_true rfl) ?_
      refine m_X12_is (d - 1) (by omega) (by assumption) M77.1 (by omega) (fun r83 b83 e83 => ?_)
      have i83 := e83.pk (by omega)
      have i83 : (hT T len (p + 1) = 105 ∧ r83 = 1) ∨ (hT T len (p + 1) ≠ 105 ∧ r83 = 0) := i83
      refine r_istore2 (pc := 86) dX12_isValue_86 rfl ?_
      refine r_aload_n (pc := 87) dX12_isValue_87 rfl ?_
      refine r_iload_n (pc := 88) dX12_isValue_88 rfl ?_
      refine r_ifeq (pc := 89) (tgt := 97) dX12_isValue_89 rfl (by omega) (fun h89 => ?_) (fun h89 => ?_)
      · refine r_bipush (pc := 97) (n := 97) dX12_isValue_97 (by decide) ?_
        exact cut99 hm r83 _ b83 FRX_12.p M77 (by assumption) _ (Or.inr ⟨by omega, rfl, by omega⟩)
      refine r_bipush (pc := 92) (n := 105) dX12_isValue_92 (by decide) ?_
      refine r_goto (pc := 94) (tgt := 99) dX12_isValue_94 rfl ?_
      exact cut99 hm r83 _ b83 FRX_12.p M77 (by assumption) _ (Or.inl ⟨by omega, rfl, by omega⟩)
    have pla := hT_pos (T := T) (len := len) (p := p) (by omega)
    refine r_aload_n (pc := 50) dX12_isValue_50 rfl ?_
    refine r_aload_n (pc := 51) dX12_isValue_51 rfl ?_
    refine r_iload_n (pc := 52) dX12_isValue_52 rfl ?_
    refine r_bipush (pc := 53) (n := 97) dX12_isValue_53 (by decide) ?_
    refine r_isub (pc := 55) dX12_isValue_55 ?_
    refine c_X12_254 (pc := 56) rfl dX12_isValue_56 (by first | assumption | rfl) (by omega) (Nat.le_of_ble_eq_true rfl) ?_
    refine m_X12_curveValue (p := p) (fa := fa) (d - 1) (by omega) (by assumption) hS pla (by omega) hfa ⟨fa0, fap⟩ hI hnow (fun r56 w56 t56 e b56 cu56 lf56 v56 f56 e56 g56 hw56 => ?_)
    rw [show 97 + (hT T len p - 97) = hT T len p by omega] at cu56
    refine ph_X12_247 (pc := 59) rfl dX12_isValue_59 (by assumption) (by omega) (fun hw59 => ?_)
    refine r_iconst (pc := 62) (n := 1) dX12_isValue_62 ?_
    exact f_zret (pc := 63) dX12_isValue_63 rfl (by first | exact Or.inl rfl | exact Or.inr rfl | omega) (by assumption) (hQ1 _ t56 e r56 (by rw [fac_c (by omega)]; exact cu56) lf56 (fun q z => (v56 q z).2) (f56.p.tr (FRP_fld (by omega))) ⟨e56.fld (by omega), hst.rows (fun i a b => by rw [up_ne (by omega), f56.1 i (by omega)]), by rw [up_off (by omega), f56.2 23 (by omega) (by omega) (by omega)]; exact ho, by rw [up_off (by omega), f56.2 14 (by omega) (by omega) (by omega)]; exact hdp, by rw [up_off (by omega)]; exact g56, hB, hl, fun q z => by have := (v56 q z).1; omega⟩ up_hit (by assumption))
  have pld := hT_pos (T := T) (len := len) (p := p) (by omega)
  have M16 : MS (up w 385 15 (fa + 1)) T len (.inr p) := hS.fld (by omega)
  refine r_aload_n (pc := 16) dX12_isValue_16 rfl ?_
  refine r_dup (pc := 17) dX12_isValue_17 rfl ?_
  refine h_X12_232 (pc := 18) rfl dX12_isValue_18 (by assumption) (fun h18 => ?_)
  rw [hfa]
  refine r_iconst (pc := 21) (n := 1) dX12_isValue_21 ?_
  refine r_iadd (pc := 22) dX12_isValue_22 ?_
  refine ph_X12_232 (pc := 23) rfl dX12_isValue_23 (by assumption) (by omega) (fun hw23 => ?_)
  refine r_aload_n (pc := 26) dX12_isValue_26 rfl ?_
  refine r_bipush (pc := 27) (n := 64) dX12_isValue_27 (by decide) ?_
  refine r_aload_n (pc := 29) dX12_isValue_29 rfl ?_
  refine c_X12_251 (pc := 30) rfl dX12_isValue_30 (by first | assumption | rfl) (by omega) (Nat.le_of_ble_eq_true rfl) ?_
  refine ma_number (d - 1) (by omega) (by assumption) M16 (fun r30 w30 a30 b30 n30 e30 f30 hw30 => ?_)
  refine r_imul (pc := 33) dX12_isValue_33 ?_
  refine ph_X12_247 (pc := 34) rfl dX12_isValue_34 (by assumption) (by omega) (fun hw34 => ?_)
  refine r_iconst (pc := 37) (n := 1) dX12_isValue_37 ?_
  exact f_zret (pc := 38) dX12_isValue_38 rfl (by first | exact Or.inl rfl | exact Or.inr rfl | omega) (by assumption) (hQ1 _ (nuT T len (.inr p)) (eN r30) (64 * r30) (fac_dig (by omega) (n30 p rfl)) (lfs_N _) (fun q e => rfl) (((FRP_fld (by omega)).tr f30.p).tr (FRP_fld (by omega))) ⟨e30.fld (by omega), hst.rows (fun i a b => by rw [up_ne (by omega), f30.1 i (by omega), up_ne (by omega)]), by rw [up_off (by omega), f30.2 23 (by omega) (by omega), up_off (by omega)]; exact ho, by rw [up_off (by omega), f30.2 14 (by omega) (by omega), up_off (by omega)]; exact hdp, by rw [up_off (by omega), f30.2 15 (by omega) (by omega), up_hit], hB, hl, fun q e => by have := nuT_le (by omega) e; omega⟩ up_hit (by assumption))
