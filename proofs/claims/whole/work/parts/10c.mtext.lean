/-! the model's readers -/
def TXT (w : Wd) (T : Int → Int) (len : Int) : Prop := (w 385 11 = 0 → w 385 4 = len ∧ ∀ j, 0 ≤ j → j < len → w 388 j = T j) ∧ (w 385 11 ≠ 0 → w 386 530 = len ∧ ∀ j, 0 ≤ j → j < len → w 386 (531 + j) = T j) ∧ 0 ≤ len ∧ len ≤ 120
def MS (w : Wd) (T : Int → Int) (len : Int) (t : Int ⊕ Int) : Prop := TXT w T len ∧ (match t with | .inl q => w 385 13 = q ∧ 0 ≤ q ∧ q ≤ len | .inr p => w 385 13 = -1 ∧ w 385 12 = p ∧ 0 ≤ p ∧ p ≤ len)
def FRX (w w2 : Wd) : Prop := (∀ i, i ≠ 385 → w2 i = w i) ∧ ∀ j, j ≠ 12 → j ≠ 13 → w2 385 j = w 385 j
theorem FRX.rf (w : Wd) : FRX w w := ⟨fun _ _ => rfl, fun _ _ _ => rfl⟩
theorem FRX.tr {w w1 w2 : Wd} (h : FRX w w1) (g : FRX w1 w2) : FRX w w2 := ⟨fun i e => (g.1 i e).trans (h.1 i e), fun j a b => (g.2 j a b).trans (h.2 j a b)⟩
theorem FRX_12 {w : Wd} {x : Int} : FRX w (up w 385 12 x) := ⟨fun i e => up_ne e, fun j a _ => up_off (fun z => a z.2)⟩
theorem FRX_13 {w : Wd} {x : Int} : FRX w (up w 385 13 x) := ⟨fun i e => up_ne e, fun j _ a => up_off (fun z => a z.2)⟩
section
variable {w w2 : Wd} {T : Int → Int} {len : Int} {t : Int ⊕ Int}
theorem TXT.kp (h : TXT w T len) (f1 : w2 385 11 = w 385 11) (f2 : w2 385 4 = w 385 4) (f3 : w2 386 = w 386) (f4 : w2 388 = w 388) : TXT w2 T len := by
  unfold TXT at h ⊢
  rw [f1, f2, f3, f4]; exact h
theorem TXT.x (h : TXT w T len) (f : FRX w w2) : TXT w2 T len := h.kp (f.2 11 (by omega) (by omega)) (f.2 4 (by omega) (by omega)) (f.1 386 (by omega)) (f.1 388 (by omega))
theorem MS.ok (h : MS w T len t) (z : w 385 13 < 0) : ∃ p, t = .inr p ∧ w 385 13 = -1 ∧ w 385 12 = p ∧ 0 ≤ p ∧ p ≤ len := by
  rcases t with q | p
  · have h2 : w 385 13 = q ∧ 0 ≤ q ∧ q ≤ len := h.2
    omega
  · exact ⟨p, rfl, h.2⟩
theorem MS.bad (h : MS w T len t) (z : 0 ≤ w 385 13) : ∃ q, t = .inl q ∧ w 385 13 = q ∧ 0 ≤ q ∧ q ≤ len := by
  rcases t with q | p
  · exact ⟨q, rfl, h.2⟩
  · have h2 : w 385 13 = -1 ∧ w 385 12 = p ∧ 0 ≤ p ∧ p ≤ len := h.2
    omega
theorem MS.ln (h : MS w T len t) : 0 ≤ len ∧ len ≤ 120 := h.1.2.2
theorem MS.inr {p : Int} (h : MS w T len (.inr p)) : w 385 13 = -1 ∧ w 385 12 = p ∧ 0 ≤ p ∧ p ≤ len := h.2
theorem MS.inl {q : Int} (h : MS w T len (.inl q)) : w 385 13 = q ∧ 0 ≤ q ∧ q ≤ len := h.2
theorem MS.kp (h : MS w T len t) (f : FRX w w2) (f12 : w2 385 12 = w 385 12) (f13 : w2 385 13 = w 385 13) : MS w2 T len t := by
  refine ⟨h.1.x f, ?_⟩
  have := h.2
  rw [f12, f13]; exact this
theorem MS.kp2 (h : MS w T len t) (f1 : w2 385 11 = w 385 11) (f2 : w2 385 4 = w 385 4) (f3 : w2 386 = w 386) (f4 : w2 388 = w 388) (f12 : w2 385 12 = w 385 12) (f13 : w2 385 13 = w 385 13) : MS w2 T len t := by
  refine ⟨h.1.kp f1 f2 f3 f4, ?_⟩
  have := h.2
  rw [f12, f13]; exact this
theorem MS.mv {p x : Int} (h : MS w T len (.inr p)) (hx : 0 ≤ x ∧ x ≤ len) : MS (up w 385 12 x) T len (.inr x) := ⟨h.1.x FRX_12, h.2.1, up_hit, hx⟩
theorem MS.fl {x p : Int} (h : MS w T len (.inr p)) (hx : 0 ≤ x ∧ x ≤ len) : MS (up w 385 13 x) T len (.inl x) := ⟨h.1.x FRX_13, up_hit, hx⟩
def ISP (T : Int → Int) (len l : Int) (t : Int ⊕ Int) (r : Int) : Prop := (∃ p, t = .inr p ∧ hT T len p = l ∧ r = 1) ∨ ((∀ p, t = .inr p → hT T len p ≠ l) ∧ r = 0)
theorem ISP.y {l r : Int} (h : ISP T len l t r) (z : r ≠ 0) : ∃ p, t = .inr p ∧ hT T len p = l := by
  rcases h with ⟨p, a, b, c⟩ | ⟨a, b⟩
  · exact ⟨p, a, b⟩
  · omega
theorem ISP.n {l r : Int} (h : ISP T len l t r) (z : r = 0) : ∀ p, t = .inr p → hT T len p ≠ l := by
  rcases h with ⟨p, a, b, c⟩ | ⟨a, b⟩
  · omega
  · exact a
theorem ex_fl {l x : Int} (h : ∀ p, t = .inr p → hT T len p ≠ l) (hx : ∀ p, t = .inr p → x = p) : flT x t = exT T len l t := by
  rcases t with q | p
  · rfl
  · show Sum.inl x = (if _ then _ else _)
    rw [if_neg (h p rfl), hx p rfl]
theorem MS.pl (h : MS w T len t) : ∀ p, t = .inr p → w 385 12 = p ∧ 0 ≤ p ∧ p ≤ len := fun p e => by subst e; exact ⟨h.2.2.1, h.2.2.2⟩
end
theorem num_e {T : Int → Int} {len p : Int} {k : Nat} (hk : p + k ≤ len) (hj : ∀ j : Int, 0 ≤ j → j < k → dgt T len p j < 1) (h : p + k = len ∨ ¬ (48 ≤ hT T len (p + k) ∧ hT T len (p + k) ≤ 57)) : (k : Int) = rnD T len p := by
  refine KB_one (n := len - p) (f := dgt T len p) (t := 1) ⟨by omega, by omega, hj, fun z => ?_⟩ (rnD_KB (by omega))
  unfold dgt
  rw [if_neg (by omega)]
  omega
/-! levels -/
abbrev FR6 : Type := Int × Int × Int × Int × Int × Int
def STK (w : Wd) : List FR6 → Prop
  | [] => True
  | F :: r => (w 395 r.length = F.1 ∧ w 396 r.length = F.2.1 ∧ w 397 r.length = F.2.2.1 ∧ w 398 r.length = F.2.2.2.1 ∧ w 399 r.length = F.2.2.2.2.1 ∧ w 400 r.length = F.2.2.2.2.2) ∧ STK w r
theorem STK.kp {w w2 : Wd} : ∀ {S : List FR6}, STK w S → (∀ i, 395 ≤ i → i ≤ 400 → ∀ j : Nat, j < S.length → w2 i j = w i j) → STK w2 S
  | [], _, _ => trivial
  | F :: r, h, f => by
    rw [List.length_cons] at f
    refine ⟨?_, h.2.kp (fun i a b j c => f i a b j (by omega))⟩
    rw [f 395 (by omega) (by omega) _ (by omega), f 396 (by omega) (by omega) _ (by omega), f 397 (by omega) (by omega) _ (by omega), f 398 (by omega) (by omega) _ (by omega), f 399 (by omega) (by omega) _ (by omega), f 400 (by omega) (by omega) _ (by omega)]
    exact h.1
theorem STK.rows {w w2 : Wd} {S : List FR6} (h : STK w S) (f : ∀ i, 395 ≤ i → i ≤ 400 → w2 i = w i) : STK w2 S := h.kp (fun i a b j _ => by rw [f i a b])
def FRO (w w2 : Wd) : Prop := (∀ i, i ≠ 385 → (i < 395 ∨ 400 < i) → w2 i = w i) ∧ ∀ j, j ≠ 14 → j ≠ 23 → w2 385 j = w 385 j
set_option maxRecDepth 8000 in
theorem m_X12_here {Q : Option AV → Wd → Prop} {w : Wd} (d : Nat) {T : Int → Int} {len p : Int} (hd : 0 ≤ d) (hw : WR w) (hX : TXT w T len) (hp : w 385 12 = p) (h0 : 0 ≤ p) (hQ : ∀ r, r = hT T len p → R32 r → Q (some (vI r)) w) : M mX12_here (Rm d) [vR (some 385)] (fl w) (lQ Q) := by
  obtain ⟨x1, x2, x3, x4⟩ := hX
  refine f_mofv (L0 := [some (vR (some 385))]) rfl (Nat.le_of_ble_eq_true rfl) rfl ?_
  refine r_aload_n (pc := 0) dX12_here_0 rfl ?_
  refine h_X12_209 (pc := 1) rfl dX12_here_1 (by assumption) (fun h1 => ?_)
  refine r_ifeq (pc := 4) (tgt := 40) dX12_here_4 rfl (by omega) (fun h4 => ?_) (fun h4 => ?_)
  · obtain ⟨l1, l2⟩ := x1 h4
    refine r_aload_n (pc := 40) dX12_here_40 rfl ?_
    refine h_X12_213 (pc := 41) rfl dX12_here_41 (by assumption) (fun h41 => ?_)
    refine r_aload_n (pc := 44) dX12_here_44 rfl ?_
    refine h_X12_206 (pc := 45) rfl dX12_here_45 (by assumption) (fun h45 => ?_)
    refine r_icmpge (pc := 48) (tgt := 63) dX12_here_48 rfl (by omega) (by omega) (fun h48 => ?_) (fun h48 => ?_)
    · refine r_iconst (pc := 63) (n := (-1)) dX12_here_63 ?_
      exact f_iret (pc := 64) dX12_here_64 rfl (by assumption) (hQ _ (if_neg (show ¬ p < len by omega)).symm (by omega))
    refine r_aload_n (pc := 51) dX12_here_51 rfl ?_
    refine h_X12_16 (pc := 52) rfl dX12_here_52 ?_
    refine r_aload_n (pc := 55) dX12_here_55 rfl ?_
    refine h_X12_213 (pc := 56) rfl dX12_here_56 (by assumption) (fun h56 => ?_)
    refine f_iald (pc := 59) dX12_here_59 (n := 120) (by assumption) (by first | assumption | rfl) (by omega) (by omega) (by omega) (fun h59 => ?_)
    refine r_goto (pc := 60) (tgt := 64) dX12_here_60 rfl ?_
    exact f_iret (pc := 64) dX12_here_64 rfl (by assumption) (hQ _ (by rw [hT_eq (show p < len by omega), hp]; exact l2 p h0 (by omega)) (by omega))
  obtain ⟨l1, l2⟩ := x2 h4
  refine r_aload_n (pc := 7) dX12_here_7 rfl ?_
  refine h_X12_213 (pc := 8) rfl dX12_here_8 (by assumption) (fun h8 => ?_)
  refine r_aload_n (pc := 11) dX12_here_11 rfl ?_
  refine h_X12_7 (pc := 12) rfl dX12_here_12 ?_
  refine r_sipush (pc := 15) (n := 530) dX12_here_15 (by decide) ?_
  refine f_iald (pc := 18) dX12_here_18 (n := 660) (by assumption) (by first | assumption | rfl) (by omega) (by omega) (by omega) (fun h18 => ?_)
  refine r_icmpge (pc := 19) (tgt := 38) dX12_here_19 rfl (by omega) (by omega) (fun h19 => ?_) (fun h19 => ?_)
  · refine r_iconst (pc := 38) (n := (-1)) dX12_here_38 ?_
    exact f_iret (pc := 39) dX12_here_39 rfl (by assumption) (hQ _ (if_neg (show ¬ p < len by omega)).symm (by omega))
  refine r_aload_n (pc := 22) dX12_here_22 rfl ?_
  refine h_X12_7 (pc := 23) rfl dX12_here_23 ?_
  refine r_sipush (pc := 26) (n := 531) dX12_here_26 (by decide) ?_
  refine r_aload_n (pc := 29) dX12_here_29 rfl ?_
  refine h_X12_213 (pc := 30) rfl dX12_here_30 (by assumption) (fun h30 => ?_)
  refine r_iadd (pc := 33) dX12_here_33 ?_
  refine f_iald (pc := 34) dX12_here_34 (n := 660) (by assumption) (by first | assumption | rfl) (by omega) (by omega) (by omega) (fun h34 => ?_)
  refine r_goto (pc := 35) (tgt := 39) dX12_here_35 rfl ?_
  exact f_iret (pc := 39) dX12_here_39 rfl (by assumption) (hQ _ (by rw [hT_eq (show p < len by omega), hp]; exact l2 p h0 (by omega)) (by omega))
set_option maxRecDepth 8000 in
theorem m_X12_faults {Q : Option AV → Wd → Prop} {w : Wd} (d : Nat) {T : Int → Int} {len : Int} {t : Int ⊕ Int} {l : Int} (hd : 0 ≤ d) (hw : WR w) (hS : MS w T len t) (hl : ∀ p, t = .inr p → 0 ≤ l ∧ l ≤ len) (hlr : R32 l) (hQ : ∀ w2, MS w2 T len (flT l t) → FRX w w2 → w2 385 12 = w 385 12 → WR w2 → Q none w2) : M mX12_faults (Rm d) [vR (some 385), vI l] (fl w) (lQ Q) := by
  refine f_mofv (L0 := [some (vR (some 385)), some (vI l)]) rfl (Nat.le_of_ble_eq_true rfl) rfl ?_
  refine r_aload_n (pc := 0) dX12_faults_0 rfl ?_
  refine r_aload_n (pc := 1) dX12_faults_1 rfl ?_
  refine h_X12_216 (pc := 2) rfl dX12_faults_2 (by assumption) (fun h2 => ?_)
  refine r_ifge (pc := 5) (tgt := 12) dX12_faults_5 rfl (by omega) (fun h5 => ?_) (fun h5 => ?_)
  · obtain ⟨q, rfl, f1, f2, f3⟩ := hS.bad (by omega)
    refine r_aload_n (pc := 12) dX12_faults_12 rfl ?_
    refine h_X12_216 (pc := 13) rfl dX12_faults_13 (by assumption) (fun h13 => ?_)
    refine ph_X12_216 (pc := 16) rfl dX12_faults_16 (by assumption) (by omega) (fun hw16 => ?_)
    exact f_vret (pc := 19) dX12_faults_19 rfl (by assumption) (hQ _ (by rw [up_same rfl]; exact hS) (by rw [up_same rfl]; exact FRX.rf w) (by rw [up_same rfl]) (by assumption))
  obtain ⟨p, rfl, f1, f2, f3, f4⟩ := hS.ok (by omega)
  refine r_iload_n (pc := 8) dX12_faults_8 rfl ?_
  refine r_goto (pc := 9) (tgt := 16) dX12_faults_9 rfl ?_
  refine ph_X12_216 (pc := 16) rfl dX12_faults_16 (by assumption) (by omega) (fun hw16 => ?_)
  exact f_vret (pc := 19) dX12_faults_19 rfl (by assumption) (hQ _ (hS.fl (hl p rfl)) FRX_13 (up_off (by omega)) (by assumption))
set_option maxRecDepth 8000 in
theorem m_X12_is {Q : Option AV → Wd → Prop} {w : Wd} (d : Nat) {T : Int → Int} {len : Int} {t : Int ⊕ Int} {l : Int} (hd : 1 ≤ d) (hw : WR w) (hS : MS w T len t) (hl : R32 l) (hQ : ∀ r, (r = 0 ∨ r = 1) → ISP T len l t r → Q (some (vI r)) w) : M mX12_is (Rm d) [vR (some 385), vI l] (fl w) (lQ Q) := by
  refine f_mofv (L0 := [some (vR (some 385)), some (vI l)]) rfl (Nat.le_of_ble_eq_true rfl) rfl ?_
  refine r_aload_n (pc := 0) dX12_is_0 rfl ?_
  refine h_X12_216 (pc := 1) rfl dX12_is_1 (by assumption) (fun h1 => ?_)
  refine r_ifge (pc := 4) (tgt := 19) dX12_is_4 rfl (by omega) (fun h4 => ?_) (fun h4 => ?_)
  · obtain ⟨q, rfl, f1, f2, f3⟩ := hS.bad (by omega)
    refine r_iconst (pc := 19) (n := 0) dX12_is_19 ?_
    exact f_zret (pc := 20) dX12_is_20 rfl (by first | exact Or.inl rfl | exact Or.inr rfl | omega) (by assumption) (hQ _ (Or.inl rfl) (Or.inr ⟨fun p h => (by cases h), rfl⟩))
  obtain ⟨p, rfl, f1, f2, f3, f4⟩ := hS.ok (by omega)
  refine r_aload_n (pc := 7) dX12_is_7 rfl ?_
  refine c_X12_219 (pc := 8) rfl dX12_is_8 (by first | assumption | rfl) (by omega) (Nat.le_of_ble_eq_true rfl) ?_
  refine m_X12_here (d - 1) (by omega) (by assumption) hS.1 (by omega) (by omega) (fun r8 e8 b8 => ?_)
  refine r_iload_n (pc := 11) dX12_is_11 rfl ?_
  refine r_icmpne (pc := 12) (tgt := 19) dX12_is_12 rfl (by omega) (by omega) (fun h12 => ?_) (fun h12 => ?_)
  · refine r_iconst (pc := 19) (n := 0) dX12_is_19 ?_
    exact f_zret (pc := 20) dX12_is_20 rfl (by first | exact Or.inl rfl | exact Or.inr rfl | omega) (by assumption) (hQ _ (Or.inl rfl) (Or.inr ⟨fun p h => (by cases h; omega), rfl⟩))
  refine r_iconst (pc := 15) (n := 1) dX12_is_15 ?_
  refine r_goto (pc := 16) (tgt := 20) dX12_is_16 rfl ?_
  exact f_zret (pc := 20) dX12_is_20 rfl (by first | exact Or.inl rfl | exact Or.inr rfl | omega) (by assumption) (hQ _ (Or.inr rfl) (Or.inl ⟨p, rfl, by omega, rfl⟩))
set_option maxRecDepth 8000 in
theorem m_X12_must {Q : Option AV → Wd → Prop} {w : Wd} (d : Nat) {T : Int → Int} {len : Int} {t : Int ⊕ Int} {l : Int} (hd : 2 ≤ d) (hw : WR w) (hS : MS w T len t) (hl : 0 ≤ l ∧ l ≤ 1000) (hQ : ∀ w2, MS w2 T len (exT T len l t) → FRX w w2 → WR w2 → Q none w2) : M mX12_must (Rm d) [vR (some 385), vI l] (fl w) (lQ Q) := by
  refine f_mofv (L0 := [some (vR (some 385)), some (vI l)]) rfl (Nat.le_of_ble_eq_true rfl) rfl ?_
  refine r_aload_n (pc := 0) dX12_must_0 rfl ?_
  refine r_iload_n (pc := 1) dX12_must_1 rfl ?_
  refine c_X12_223 (pc := 2) rfl dX12_must_2 (by first | assumption | rfl) (by omega) (Nat.le_of_ble_eq_true rfl) ?_
  refine m_X12_is (d - 1) (by omega) (by assumption) (by assumption) (by omega) (fun r2 b2 e2 => ?_)
  refine r_ifeq (pc := 5) (tgt := 21) dX12_must_5 rfl (by omega) (fun h5 => ?_) (fun h5 => ?_)
  · have E2 := e2.n (by omega)
    refine r_aload_n (pc := 21) dX12_must_21 rfl ?_
    refine r_aload_n (pc := 22) dX12_must_22 rfl ?_
    refine h_X12_213 (pc := 23) rfl dX12_must_23 (by assumption) (fun h23 => ?_)
    refine c_X12_226 (pc := 26) rfl dX12_must_26 (by first | assumption | rfl) (by omega) (Nat.le_of_ble_eq_true rfl) ?_
    refine m_X12_faults (d - 1) (by omega) (by assumption) hS (fun p e => by have := hS.pl p e; omega) (by omega) (fun w26 e26 f26 p26 hw26 => ?_)
    rw [ex_fl E2 (fun p e => (hS.pl p e).1)] at e26
    exact f_vret (pc := 29) dX12_must_29 rfl (by assumption) (hQ _ e26 f26 (by assumption))
  obtain ⟨p, rfl, E2⟩ := e2.y (by omega)
  have pl := hT_pos (T := T) (len := len) (p := p) (by omega)
  obtain ⟨f1, f2, f3, f4⟩ := hS.inr
  have ln := hS.ln
  have z : exT T len l (.inr p) = .inr (p + 1) := if_pos E2
  refine r_aload_n (pc := 8) dX12_must_8 rfl ?_
  refine r_dup (pc := 9) dX12_must_9 rfl ?_
  refine h_X12_213 (pc := 10) rfl dX12_must_10 (by assumption) (fun h10 => ?_)
  refine r_iconst (pc := 13) (n := 1) dX12_must_13 ?_
  refine r_iadd (pc := 14) dX12_must_14 ?_
  refine ph_X12_213 (pc := 15) rfl dX12_must_15 (by assumption) (by omega) (fun hw15 => ?_)
  refine r_goto (pc := 18) (tgt := 29) dX12_must_18 rfl ?_
  exact f_vret (pc := 29) dX12_must_29 rfl (by assumption) (hQ _ (by rw [z, f2]; exact hS.mv (by omega)) FRX_12 (by assumption))
set_option maxRecDepth 8000 in
theorem m_X12_number {Q : Option AV → Wd → Prop} {w : Wd} (d : Nat) {T : Int → Int} {len p : Int} (hd : 2 ≤ d) (hw : WR w) (hS : MS w T len (.inr p)) (hQ : ∀ r w2, 0 ≤ r → r ≤ 9999 → (1 ≤ rnD T len p ∧ rnD T len p ≤ 3 → r = nvD T p (rnD T len p).toNat) → MS w2 T len (nuT T len (.inr p)) → FRX w w2 → WR w2 → Q (some (vI r)) w2) : M mX12_number (Rm d) [vR (some 385)] (fl w) (lQ Q) := by
  obtain ⟨f1, f2, f3, f4⟩ := hS.inr
  have len0 := hS.ln
  refine f_mofv (L0 := [some (vR (some 385)), none, none]) rfl (Nat.le_of_ble_eq_true rfl) rfl ?_
  have cut54 : ∀ n0 k : Nat, (∀ n1 : Nat, n1 < n0 → ∀ k : Nat, (len - p - k).toNat = n1 → p + k ≤ len → (∀ j : Int, 0 ≤ j → j < k → dgt T len p j < 1) → ∀ (x : Int) (w1 : Wd), (k ≤ 3 → x = nvD T p k) → 0 ≤ x → x ≤ 9999 → (k = 0 → x = 0) → (k = 1 → x ≤ 9) → (k = 2 → x ≤ 99) → (k = 3 → x ≤ 999) → FRX w w1 → MS w1 T len (.inr (p + k)) → WR w1 → V mX12_number (Rm d) 0 0 7 [some (vR (some 385)), some (vI p), some (vI x)] [] (fl w1) (lQ Q)) → (len - p - k).toNat = n0 → p + k < len → (∀ j : Int, 0 ≤ j → j < (k + 1 : Nat) → dgt T len p j < 1) → ∀ (w1 : Wd) (x0 : Int), FRX w w1 → MS w1 T len (.inr (p + k)) → WR w1 → ∀ x : Int, (k + 1 ≤ 3 → x = nvD T p (k + 1)) → 0 ≤ x → x ≤ 9999 → (k + 1 = 0 → x = 0) → (k + 1 = 1 → x ≤ 9) → (k + 1 = 2 → x ≤ 99) → (k + 1 = 3 → x ≤ 999) → V mX12_number (Rm d) 0 0 54 [some (vR (some 385)), some (vI p), some (vI x0)] [vI x] (fl w1) (lQ Q) := by
    intro n0 k ih hm hk hj w1 xo hf1 hS1 hw1 x nx x0 x9 y0 y1 y2 y3
    obtain ⟨g1, g2, g3, g4⟩ := hS1.inr
    have kk : ∀ (z : Int) (h : z = p + k + 1), WR (up w1 385 12 z) → V mX12_number (Rm d) 0 0 7 [some (vR (some 385)), some (vI p), some (vI x)] [] (fl (up w1 385 12 z)) (lQ Q) := fun z h hz => ih _ (by omega) (k + 1) rfl (by omega) hj x _ nx x0 x9 y0 y1 y2 y3 (hf1.tr FRX_12) (by rw [h, show p + (k : Int) + 1 = p + (k + 1 : Nat) by omega]; exact hS1.mv (by omega)) hz
    refine r_istore2 (pc := 54) dX12_number_54 rfl ?_
    refine r_aload_n (pc := 55) dX12_number_55 rfl ?_
    refine r_dup (pc := 56) dX12_number_56 rfl ?_
    refine h_X12_213 (pc := 57) rfl dX12_number_57 (by assumption) (fun h57 => ?_)
    refine r_iconst (pc := 60) (n := 1) dX12_number_60 ?_
    refine r_iadd (pc := 61) dX12_number_61 ?_
    rw [show w1 385 12 + 1 = p + k + 1 by omega]
    refine ph_X12_213 (pc := 62) rfl dX12_number_62 (by assumption) (by omega) (fun hw62 => ?_)
    refine r_goto (pc := 65) (tgt := 7) dX12_number_65 rfl ?_
    exact kk _ rfl (by assumption)
  have cut68 : ∀ k : Nat, (k : Int) = rnD T len p → ∀ (x : Int) (w1 : Wd), (k ≤ 3 → x = nvD T p k) → 0 ≤ x → x ≤ 9999 → (k = 0 → x = 0) → (k = 1 → x ≤ 9) → (k = 2 → x ≤ 99) → (k = 3 → x ≤ 999) → FRX w w1 → MS w1 T len (.inr (p + k)) → WR w1 → V mX12_number (Rm d) 0 0 68 [some (vR (some 385)), some (vI p), some (vI x)] [] (fl w1) (lQ Q) := by
    intro k hk x w1 nx x0 x9 y0 y1 y2 y3 hf1 hS1 hw1
    obtain ⟨g1, g2, g3, g4⟩ := hS1.inr
    refine r_aload_n (pc := 68) dX12_number_68 rfl ?_
    refine h_X12_213 (pc := 69) rfl dX12_number_69 (by assumption) (fun h69 => ?_)
    refine r_iload_n (pc := 72) dX12_number_72 rfl ?_
    refine r_icmpeq (pc := 73) (tgt := 86) dX12_number_73 rfl (by omega) (by omega) (fun h73 => ?_) (fun h73 => ?_)
    · refine r_aload_n (pc := 86) dX12_number_86 rfl ?_
      refine r_iload_n (pc := 87) dX12_number_87 rfl ?_
      refine c_X12_226 (pc := 88) rfl dX12_number_88 (by first | assumption | rfl) (by omega) (Nat.le_of_ble_eq_true rfl) ?_
      refine m_X12_faults (d - 1) (by omega) (by assumption) hS1 (fun z e => by omega) (by omega) (fun w88 e88 f88 p88 hw88 => ?_)
      refine r_iload_n (pc := 91) dX12_number_91 rfl ?_
      exact f_iret (pc := 92) dX12_number_92 rfl (by assumption) (hQ _ _ x0 x9 (fun z => by omega) (by rw [show nuT T len (.inr p) = .inl p from if_neg (by omega)]; exact e88) (hf1.tr f88) (by assumption))
    refine r_aload_n (pc := 76) dX12_number_76 rfl ?_
    refine h_X12_213 (pc := 77) rfl dX12_number_77 (by assumption) (fun h77 => ?_)
    refine r_iload_n (pc := 80) dX12_number_80 rfl ?_
    refine r_isub (pc := 81) dX12_number_81 ?_
    refine r_iconst (pc := 82) (n := 3) dX12_number_82 ?_
    refine r_icmple (pc := 83) (tgt := 91) dX12_number_83 rfl (by omega) (by omega) (fun h83 => ?_) (fun h83 => ?_)
    · refine r_iload_n (pc := 91) dX12_number_91 rfl ?_
      exact f_iret (pc := 92) dX12_number_92 rfl (by assumption) (hQ _ _ x0 x9 (fun z => by rw [← hk]; exact nx (by omega)) (by rw [show nuT T len (.inr p) = .inr (p + rnD T len p) from if_pos (by omega), ← hk]; exact hS1) hf1 (by assumption))
    refine r_aload_n (pc := 86) dX12_number_86 rfl ?_
    refine r_iload_n (pc := 87) dX12_number_87 rfl ?_
    refine c_X12_226 (pc := 88) rfl dX12_number_88 (by first | assumption | rfl) (by omega) (Nat.le_of_ble_eq_true rfl) ?_
    refine m_X12_faults (d - 1) (by omega) (by assumption) hS1 (fun z e => by omega) (by omega) (fun w88 e88 f88 p88 hw88 => ?_)
    refine r_iload_n (pc := 91) dX12_number_91 rfl ?_
    exact f_iret (pc := 92) dX12_number_92 rfl (by assumption) (hQ _ _ x0 x9 (fun z => by omega) (by rw [show nuT T len (.inr p) = .inl p from if_neg (by omega)]; exact e88) (hf1.tr f88) (by assumption))
  have loop7 : ∀ n0 : Nat, ∀ k : Nat, (len - p - k).toNat = n0 → p + k ≤ len → (∀ j : Int, 0 ≤ j → j < k → dgt T len p j < 1) → ∀ (x : Int) (w1 : Wd), (k ≤ 3 → x = nvD T p k) → 0 ≤ x → x ≤ 9999 → (k = 0 → x = 0) → (k = 1 → x ≤ 9) → (k = 2 → x ≤ 99) → (k = 3 → x ≤ 999) → FRX w w1 → MS w1 T len (.inr (p + k)) → WR w1 → V mX12_number (Rm d) 0 0 7 [some (vR (some 385)), some (vI p), some (vI x)] [] (fl w1) (lQ Q) := by
    refine ind_lt ?_
    intro n0 ih k hm hk hj x w1 nx x0 x9 y0 y1 y2 y3 hf1 hS1 hw1
    obtain ⟨g1, g2, g3, g4⟩ := hS1.inr
    refine r_aload_n (pc := 7) dX12_number_7 rfl ?_
    refine h_X12_216 (pc := 8) rfl dX12_number_8 (by assumption) (fun h8 => ?_)
    refine r_ifge (pc := 11) (tgt := 68) dX12_number_11 rfl (by omega) (fun h11 => ?_) (fun h11 => ?_)
    · omega
      --stop
    refine r_aload_n (pc := 14) dX12_number_14 rfl ?_
    refine c_X12_219 (pc := 15) rfl dX12_number_15 (by first | assumption | rfl) (by omega) (Nat.le_of_ble_eq_true rfl) ?_
    refine m_X12_here (p := p + k) (d - 1) (by omega) (by assumption) hS1.1 g2 (by omega) (fun r15 e15 b15 => ?_)
    refine r_bipush (pc := 18) (n := 48) dX12_number_18 (by decide) ?_
    refine r_bipush (pc := 20) (n := 57) dX12_number_20 (by decide) ?_
    refine c_X12_66 (pc := 22) rfl dX12_number_22 (by omega) (Nat.le_of_ble_eq_true rfl) ?_
    refine m_X12_in (d - 1) (by omega) (by assumption) (by omega) (by omega) (by omega) (fun r22 e22 b22 => ?_)
    have i22 := b2i_i e22
    refine r_ifeq (pc := 25) (tgt := 68) dX12_number_25 rfl (by omega) (fun h25 => ?_) (fun h25 => ?_)
    · exact cut68 k (num_e hk hj (Or.inr (by omega))) x w1 nx x0 x9 y0 y1 y2 y3 hf1 hS1 (by assumption)
    have kl := hT_pos (T := T) (len := len) (p := p + k) (by omega)
    have D0 : dgt T len p k < 1 := by
      unfold dgt
      rw [if_pos (by omega)]
      omega
    refine r_aload_n (pc := 28) dX12_number_28 rfl ?_
    refine h_X12_213 (pc := 29) rfl dX12_number_29 (by assumption) (fun h29 => ?_)
    refine r_iload_n (pc := 32) dX12_number_32 rfl ?_
    refine r_isub (pc := 33) dX12_number_33 ?_
    refine r_iconst (pc := 34) (n := 4) dX12_number_34 ?_
    refine r_icmpge (pc := 35) (tgt := 53) dX12_number_35 rfl (by omega) (by omega) (fun h35 => ?_) (fun h35 => ?_)
    · refine r_iload_n (pc := 53) dX12_number_53 rfl ?_
      exact cut54 n0 k ih hm kl (fun j a b => by rcases Int.lt_or_le j k with z | z
                                                            <;> first | exact hj j a z | (rw [show j = k by omega]; exact D0)) w1 x hf1 hS1 (by assumption) _ (fun z => by omega) (by omega) (by omega) (by omega) (by omega) (by omega) (by omega)
    refine r_bipush (pc := 38) (n := 10) dX12_number_38 (by decide) ?_
    refine r_iload_n (pc := 40) dX12_number_40 rfl ?_
    refine r_imul (pc := 41) dX12_number_41 ?_
    refine r_aload_n (pc := 42) dX12_number_42 rfl ?_
    refine c_X12_219 (pc := 43) rfl dX12_number_43 (by first | assumption | rfl) (by omega) (Nat.le_of_ble_eq_true rfl) ?_
    refine m_X12_here (p := p + k) (d - 1) (by omega) (by assumption) hS1.1 g2 (by omega) (fun r43 e43 b43 => ?_)
    refine r_iadd (pc := 46) dX12_number_46 ?_
    refine r_bipush (pc := 47) (n := 48) dX12_number_47 (by decide) ?_
    refine r_isub (pc := 49) dX12_number_49 ?_
    refine r_goto (pc := 50) (tgt := 54) dX12_number_50 rfl ?_
    exact cut54 n0 k ih hm kl (fun j a b => by rcases Int.lt_or_le j k with z | z
                                                          <;> first | exact hj j a z | (rw [show j = k by omega]; exact D0)) w1 x hf1 hS1 (by assumption) _ (fun z => by rw [e43, nx (by omega), hT_eq kl]; exact (nv_lt (by omega)).symm) (by omega) (by omega) (by omega) (by omega) (by omega) (by omega)
  refine r_aload_n (pc := 0) dX12_number_0 rfl ?_
  refine h_X12_213 (pc := 1) rfl dX12_number_1 (by assumption) (fun h1 => ?_)
  rw [f2]
  refine r_istore1 (pc := 4) dX12_number_4 rfl ?_
  refine r_iconst (pc := 5) (n := 0) dX12_number_5 ?_
  refine r_istore2 (pc := 6) dX12_number_6 rfl ?_
  exact loop7 _ 0 rfl (by omega) (fun j a b => by omega) 0 w (fun _ => rfl) (by omega) (by omega) (fun _ => rfl) (by omega) (by omega) (by omega) (FRX.rf w) (by rw [show p + ((0 : Nat) : Int) = p by omega]; exact hS) (by assumption)
set_option maxRecDepth 8000 in
theorem m_X12_numberF {Q : Option AV → Wd → Prop} {w : Wd} (d : Nat) {T : Int → Int} {len q : Int} (hd : 2 ≤ d) (hw : WR w) (hS : MS w T len (.inl q)) (hQ : ∀ w2, MS w2 T len (.inl q) → FRX w w2 → WR w2 → Q (some (vI 0)) w2) : M mX12_number (Rm d) [vR (some 385)] (fl w) (lQ Q) := by
  obtain ⟨f1, f2, f3⟩ := hS.inl
  refine f_mofv (L0 := [some (vR (some 385)), none, none]) rfl (Nat.le_of_ble_eq_true rfl) rfl ?_
  refine r_aload_n (pc := 0) dX12_number_0 rfl ?_
  refine h_X12_213 (pc := 1) rfl dX12_number_1 (by assumption) (fun h1 => ?_)
  refine r_istore1 (pc := 4) dX12_number_4 rfl ?_
  refine r_iconst (pc := 5) (n := 0) dX12_number_5 ?_
  refine r_istore2 (pc := 6) dX12_number_6 rfl ?_
  refine r_aload_n (pc := 7) dX12_number_7 rfl ?_
  refine h_X12_216 (pc := 8) rfl dX12_number_8 (by assumption) (fun h8 => ?_)
  refine r_ifge (pc := 11) (tgt := 68) dX12_number_11 rfl (by omega) (fun h11 => ?_) (fun h11 => ?_)
  · refine r_aload_n (pc := 68) dX12_number_68 rfl ?_
    refine h_X12_213 (pc := 69) rfl dX12_number_69 (by assumption) (fun h69 => ?_)
    refine r_iload_n (pc := 72) dX12_number_72 rfl ?_
    refine r_icmpeq (pc := 73) (tgt := 86) dX12_number_73 rfl (by omega) (by omega) (fun h73 => ?_) (fun h73 => ?_)
    · refine r_aload_n (pc := 86) dX12_number_86 rfl ?_
      refine r_iload_n (pc := 87) dX12_number_87 rfl ?_
      refine c_X12_226 (pc := 88) rfl dX12_number_88 (by first | assumption | rfl) (by omega) (Nat.le_of_ble_eq_true rfl) ?_
      refine m_X12_faults (d - 1) (by omega) (by assumption) hS (fun z e => by cases e) (by omega) (fun w88 e88 f88 p88 hw88 => ?_)
      refine r_iload_n (pc := 91) dX12_number_91 rfl ?_
      exact f_iret (pc := 92) dX12_number_92 rfl (by assumption) (hQ _ e88 f88 (by assumption))
    omega
    --stop
  omega
  --stop
theorem ma_number {Q : Option AV → Wd → Prop} {w : Wd} (d : Nat) {T : Int → Int} {len : Int} {t : Int ⊕ Int} (hd : 2 ≤ d) (hw : WR w) (hS : MS w T len t) (hQ : ∀ r w2, 0 ≤ r → r ≤ 9999 → (∀ p, t = .inr p → 1 ≤ rnD T len p ∧ rnD T len p ≤ 3 → r = nvD T p (rnD T len p).toNat) → MS w2 T len (nuT T len t) → FRX w w2 → WR w2 → Q (some (vI r)) w2) : M mX12_number (Rm d) [vR (some 385)] (fl w) (lQ Q) := by
  rcases t with q | p
  · exact m_X12_numberF d hd hw hS (fun w2 e f hw2 => hQ _ _ (by omega) (by omega) (fun p z => by cases z) e f hw2)
  · exact m_X12_number d hd hw hS (fun r w2 r0 r9 h e f hw2 => hQ _ _ r0 r9 (fun p z => by cases z; exact h) e f hw2)
set_option maxRecDepth 8000 in
theorem m_X12_begins {Q : Option AV → Wd → Prop} {w : Wd} (d : Nat) {o f : Int} (hd : 0 ≤ d) (hw : WR w) (ho : o = 0 ∨ o = 1) (hf : R32 f) (hQ : ∀ w2, w2 = up (up (up (up (up (up w 385 11 o) 385 12 0) 385 13 (-1)) 385 14 0) 385 15 0) 385 16 f → WR w2 → Q none w2) : M mX12_begins (Rm d) [vR (some 385), vI o, vI f] (fl w) (lQ Q) := by
  refine f_mofv (L0 := [some (vR (some 385)), some (vI o), some (vI f)]) rfl (Nat.le_of_ble_eq_true rfl) rfl ?_
  refine r_aload_n (pc := 0) dX12_begins_0 rfl ?_
  refine r_iload_n (pc := 1) dX12_begins_1 rfl ?_
  refine ph_X12_209 (pc := 2) rfl dX12_begins_2 (by assumption) (by omega) (fun hw2 => ?_)
  refine r_aload_n (pc := 5) dX12_begins_5 rfl ?_
  refine r_iconst (pc := 6) (n := 0) dX12_begins_6 ?_
  refine ph_X12_213 (pc := 7) rfl dX12_begins_7 (by assumption) (by omega) (fun hw7 => ?_)
  refine r_aload_n (pc := 10) dX12_begins_10 rfl ?_
  refine r_iconst (pc := 11) (n := (-1)) dX12_begins_11 ?_
  refine ph_X12_216 (pc := 12) rfl dX12_begins_12 (by assumption) (by omega) (fun hw12 => ?_)
  refine r_aload_n (pc := 15) dX12_begins_15 rfl ?_
  refine r_iconst (pc := 16) (n := 0) dX12_begins_16 ?_
  refine ph_X12_229 (pc := 17) rfl dX12_begins_17 (by assumption) (by omega) (fun hw17 => ?_)
  refine r_aload_n (pc := 20) dX12_begins_20 rfl ?_
  refine r_iconst (pc := 21) (n := 0) dX12_begins_21 ?_
  refine ph_X12_232 (pc := 22) rfl dX12_begins_22 (by assumption) (by omega) (fun hw22 => ?_)
  refine r_aload_n (pc := 25) dX12_begins_25 rfl ?_
  refine r_iload_n (pc := 26) dX12_begins_26 rfl ?_
  refine ph_X12_235 (pc := 27) rfl dX12_begins_27 (by assumption) (by omega) (fun hw27 => ?_)
  exact f_vret (pc := 30) dX12_begins_30 rfl (by assumption) (hQ _ rfl (by assumption))
set_option maxRecDepth 8000 in
theorem m_X12_opens {Q : Option AV → Wd → Prop} {w : Wd} (d : Nat) {k : Int} {St : List FR6} (hd : 1 ≤ d) (hw : WR w) (hk : 0 ≤ k ∧ k ≤ 6) (hdp : 0 ≤ w 385 14 ∧ w 385 14 ≤ 8) (hno : k = 0 ∨ w 385 14 ≠ 8) (ho : w 385 23 = St.length - 1) (hSt : STK w St) (hl : St.length ≤ 8) (hQ : ∀ w2 x y z, STK w2 ((k, 0, x, y, 0, z) :: St) → w2 385 23 = St.length → w2 385 14 = w 385 14 + (if 0 < k then 1 else 0) → FRO w w2 → WR w2 → Q none w2) : M mX12_opens (Rm d) [vR (some 385), vI k] (fl w) (lQ Q) := by
  refine f_mofv (L0 := [some (vR (some 385)), some (vI k)]) rfl (Nat.le_of_ble_eq_true rfl) rfl ?_
  have cut36 : ∀ z : Int, z = (if 0 < k then 1 else 0) → V mX12_opens (Rm d) 0 0 36 [some (vR (some 385)), some (vI k)] [vI z, vI (w 385 14), vR (some 385)] (fl w) (lQ Q) := by
    intro z hz
    have hz2 : z = 0 ∨ z = 1 := by split at hz <;> omega
    refine r_iadd (pc := 36) dX12_opens_36 ?_
    refine ph_X12_229 (pc := 37) rfl dX12_opens_37 (by assumption) (by omega) (fun hw37 => ?_)
    refine r_aload_n (pc := 40) dX12_opens_40 rfl ?_
    refine r_dup (pc := 41) dX12_opens_41 rfl ?_
    refine h_X12_238 (pc := 42) rfl dX12_opens_42 (by assumption) (fun h42 => ?_)
    refine r_iconst (pc := 45) (n := 1) dX12_opens_45 ?_
    refine r_iadd (pc := 46) dX12_opens_46 ?_
    rw [show up w 385 14 (w 385 14 + z) 385 23 + 1 = St.length by rw [up_off (by omega)]; omega]
    refine ph_X12_238 (pc := 47) rfl dX12_opens_47 (by assumption) (by omega) (fun hw47 => ?_)
    refine r_aload_n (pc := 50) dX12_opens_50 rfl ?_
    refine h_X12_38 (pc := 51) rfl dX12_opens_51 ?_
    refine r_aload_n (pc := 54) dX12_opens_54 rfl ?_
    refine h_X12_238 (pc := 55) rfl dX12_opens_55 (by assumption) (fun h55 => ?_)
    rw [up_hit] at h55 ⊢
    refine r_iload_n (pc := 58) dX12_opens_58 rfl ?_
    refine f_iast (pc := 59) dX12_opens_59 (n := 10) (by assumption) (by first | assumption | rfl) (by omega) (by omega) (by omega) (by omega) (fun hw59 => ?_)
    refine r_aload_n (pc := 60) dX12_opens_60 rfl ?_
    refine h_X12_41 (pc := 61) rfl dX12_opens_61 ?_
    refine r_aload_n (pc := 64) dX12_opens_64 rfl ?_
    refine h_X12_238 (pc := 65) rfl dX12_opens_65 (by assumption) (fun h65 => ?_)
    rw [up_ne (by omega), up_hit] at h65 ⊢
    refine r_iconst (pc := 68) (n := 0) dX12_opens_68 ?_
    refine f_iast (pc := 69) dX12_opens_69 (n := 10) (by assumption) (by first | assumption | rfl) (by omega) (by omega) (by omega) (by omega) (fun hw69 => ?_)
    refine r_aload_n (pc := 70) dX12_opens_70 rfl ?_
    refine h_X12_50 (pc := 71) rfl dX12_opens_71 ?_
    refine r_aload_n (pc := 74) dX12_opens_74 rfl ?_
    refine h_X12_238 (pc := 75) rfl dX12_opens_75 (by assumption) (fun h75 => ?_)
    rw [up_ne (by omega), up_ne (by omega), up_hit] at h75 ⊢
    refine r_iconst (pc := 78) (n := 0) dX12_opens_78 ?_
    refine f_zast (pc := 79) dX12_opens_79 (n := 10) (by assumption) (by first | assumption | rfl) (by omega) (by omega) (by omega) (by omega) (fun hw79 => ?_)
    exact f_vret (pc := 80) dX12_opens_80 rfl (by assumption) (hQ _ (w 397 St.length) (w 398 St.length) (w 400 St.length) (by
        refine ⟨⟨?_, ?_, ?_, ?_, ?_, ?_⟩, hSt.kp (fun i a b j c => ?_)⟩
        · rw [up_ne (by omega), up_ne (by omega), up_hit]
        · rw [up_ne (by omega), up_hit]
        · rw [up_ne (by omega), up_ne (by omega), up_ne (by omega), up_ne (by omega), up_ne (by omega)]
        · rw [up_ne (by omega), up_ne (by omega), up_ne (by omega), up_ne (by omega), up_ne (by omega)]
        · rw [up_hit]
        · rw [up_ne (by omega), up_ne (by omega), up_ne (by omega), up_ne (by omega), up_ne (by omega)]
        · rw [up_off (by omega), up_off (by omega), up_off (by omega), up_ne (by omega), up_ne (by omega)]) (by rw [up_ne (by omega), up_ne (by omega), up_ne (by omega), up_hit]) (by rw [up_ne (by omega), up_ne (by omega), up_ne (by omega), up_off (by omega), up_hit, hz]) ⟨fun i a b => by rw [up_ne (by omega), up_ne (by omega), up_ne (by omega), up_ne (by omega), up_ne (by omega)], fun j a b => by rw [up_ne (by omega), up_ne (by omega), up_ne (by omega), up_off (by omega), up_off (by omega)]⟩ (by assumption))
  have cut22 : V mX12_opens (Rm d) 0 0 22 [some (vR (some 385)), some (vI k)] [] (fl w) (lQ Q) := by
    skip
    refine r_aload_n (pc := 22) dX12_opens_22 rfl ?_
    refine r_dup (pc := 23) dX12_opens_23 rfl ?_
    refine h_X12_229 (pc := 24) rfl dX12_opens_24 (by assumption) (fun h24 => ?_)
    refine r_iload_n (pc := 27) dX12_opens_27 rfl ?_
    refine r_ifle (pc := 28) (tgt := 35) dX12_opens_28 rfl (by omega) (fun h28 => ?_) (fun h28 => ?_)
    · refine r_iconst (pc := 35) (n := 0) dX12_opens_35 ?_
      exact cut36 _ (if_neg (by omega)).symm
    refine r_iconst (pc := 31) (n := 1) dX12_opens_31 ?_
    refine r_goto (pc := 32) (tgt := 36) dX12_opens_32 rfl ?_
    exact cut36 _ (if_pos (by omega)).symm
  refine r_iload_n (pc := 0) dX12_opens_0 rfl ?_
  refine r_ifle (pc := 1) (tgt := 22) dX12_opens_1 rfl (by omega) (fun h1 => ?_) (fun h1 => ?_)
  · exact cut22
  refine r_aload_n (pc := 4) dX12_opens_4 rfl ?_
  refine h_X12_229 (pc := 5) rfl dX12_opens_5 (by assumption) (fun h5 => ?_)
  refine r_bipush (pc := 8) (n := 8) dX12_opens_8 (by decide) ?_
  refine r_icmpne (pc := 10) (tgt := 22) dX12_opens_10 rfl (by omega) (by omega) (fun h10 => ?_) (fun h10 => ?_)
  · exact cut22
  omega
  --stop
set_option maxRecDepth 8000 in
theorem m_X12_opensF {Q : Option AV → Wd → Prop} {w : Wd} (d : Nat) {T : Int → Int} {len : Int} {t : Int ⊕ Int} {k : Int} (hd : 1 ≤ d) (hw : WR w) (hk : 0 < k ∧ k ≤ 6) (hdp : w 385 14 = 8) (hS : MS w T len t) (hQ : ∀ w2, MS w2 T len (flT (w 385 12) t) → FRX w w2 → w2 385 12 = w 385 12 → WR w2 → Q none w2) : M mX12_opens (Rm d) [vR (some 385), vI k] (fl w) (lQ Q) := by
  refine f_mofv (L0 := [some (vR (some 385)), some (vI k)]) rfl (Nat.le_of_ble_eq_true rfl) rfl ?_
  refine r_iload_n (pc := 0) dX12_opens_0 rfl ?_
  refine r_ifle (pc := 1) (tgt := 22) dX12_opens_1 rfl (by omega) (fun h1 => ?_) (fun h1 => ?_)
  · omega
    --stop
  refine r_aload_n (pc := 4) dX12_opens_4 rfl ?_
  refine h_X12_229 (pc := 5) rfl dX12_opens_5 (by assumption) (fun h5 => ?_)
  refine r_bipush (pc := 8) (n := 8) dX12_opens_8 (by decide) ?_
  refine r_icmpne (pc := 10) (tgt := 22) dX12_opens_10 rfl (by omega) (by omega) (fun h10 => ?_) (fun h10 => ?_)
  · omega
    --stop
  refine r_aload_n (pc := 13) dX12_opens_13 rfl ?_
  refine r_aload_n (pc := 14) dX12_opens_14 rfl ?_
  refine h_X12_213 (pc := 15) rfl dX12_opens_15 (by assumption) (fun h15 => ?_)
  refine c_X12_226 (pc := 18) rfl dX12_opens_18 (by first | assumption | rfl) (by omega) (Nat.le_of_ble_eq_true rfl) ?_
  refine m_X12_faults (d - 1) (by omega) (by assumption) hS (fun p e => by have := hS.pl p e; omega) (by omega) (fun w18 e18 f18 p18 hw18 => ?_)
  exact f_vret (pc := 21) dX12_opens_21 rfl (by assumption) (hQ _ e18 f18 p18 (by assumption))
set_option maxRecDepth 8000 in
theorem m_X12_closes {Q : Option AV → Wd → Prop} {w : Wd} (d : Nat) (hd : 0 ≤ d) (hw : WR w) (h1 : 0 ≤ w 385 23) (h2 : 0 ≤ w 385 14) (hQ : ∀ w2, w2 = up (up w 385 23 (w 385 23 - 1)) 385 14 (w 385 14 - 1) → WR w2 → Q none w2) : M mX12_closes (Rm d) [vR (some 385)] (fl w) (lQ Q) := by
  refine f_mofv (L0 := [some (vR (some 385))]) rfl (Nat.le_of_ble_eq_true rfl) rfl ?_
  refine r_aload_n (pc := 0) dX12_closes_0 rfl ?_
  refine r_dup (pc := 1) dX12_closes_1 rfl ?_
  refine h_X12_238 (pc := 2) rfl dX12_closes_2 (by assumption) (fun h2 => ?_)
  refine r_iconst (pc := 5) (n := 1) dX12_closes_5 ?_
  refine r_isub (pc := 6) dX12_closes_6 ?_
  refine ph_X12_238 (pc := 7) rfl dX12_closes_7 (by assumption) (by omega) (fun hw7 => ?_)
  refine r_aload_n (pc := 10) dX12_closes_10 rfl ?_
  refine r_dup (pc := 11) dX12_closes_11 rfl ?_
  refine h_X12_229 (pc := 12) rfl dX12_closes_12 (by assumption) (fun h12 => ?_)
  rw [show up w 385 23 (w 385 23 - 1) 385 14 = w 385 14 from up_off (by omega)] at h12 ⊢
  refine r_iconst (pc := 15) (n := 1) dX12_closes_15 ?_
  refine r_isub (pc := 16) dX12_closes_16 ?_
  refine ph_X12_229 (pc := 17) rfl dX12_closes_17 (by assumption) (by omega) (fun hw17 => ?_)
  exact f_vret (pc := 20) dX12_closes_20 rfl (by assumption) (hQ _ rfl (by assumption))
