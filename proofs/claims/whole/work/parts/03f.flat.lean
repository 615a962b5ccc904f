/-! the flat world: once all objects stand, only numbers change: w i j is the number at place j of object i -/
abbrev Wd : Type := Nat → Int → Int
def up (w : Wd) (i : Nat) (j x : Int) : Wd := fun p q => if p = i ∧ q = j then x else w p q
abbrev WR (w : Wd) : Prop := ∀ i j, R32 (w i j)
theorem WR_up {w : Wd} {i : Nat} {j x : Int} (h : WR w) (hx : R32 x) : WR (up w i j x) := by
  intro p q
  unfold up
  split
  · exact hx
  · exact h p q
def shS : Nat → Nat
  | 0 => 8
  | 1 => 10
  | 2 => 1008
  | 3 => 1008
  | 4 => 3
  | 5 => 1120
  | 6 => 1120
  | 7 => 40004
  | r + 8 => if r % 6 = 0 then 0 else 1024
def shT : List Nat := [9, 1120, 4, 3, 1120, 1120, 1, 0, 1024, 1024, 1024, 1024, 1024, 6, 1120, 7, 1041, 1041, 1041, 1041, 2, 1481, 0, 1024, 1024, 1024, 1024, 1024, 1024, 12, 1660, 7600, 1120, 1481, 1041, 1041, 20041, 1041, 1005, 1010, 1010, 1010, 1010, 30010, 1010, 1075]
def sh (i : Nat) : Nat := if i = 0 then 99 else if i = 1 then 11 else if i < 34 then shS (i - 2) else if i = 34 then 5 else if i = 35 then 50010 else if i < 356 then shS ((i - 36) % 32) else shT.getD (i - 356) 98
def offc : Nat → Nat → Nat
  | 0, 3 => 1
  | 0, 4 => 2
  | 0, 5 => 3
  | 0, 6 => 4
  | 0, 7 => 5
  | 1, 0 => 1
  | 2, 0 => 1
  | 2, 1 => 2
  | 3, 1 => 1
  | 3, 2 => 2
  | 4, 0 => 1
  | 5, 2 => 1
  | 6, 0 => 1
  | 7, 1 => 1
  | 7, 2 => 2
  | 7, 3 => 3
  | 7, 4 => 4
  | 8, 0 => 1
  | 8, 1 => 4
  | 8, 2 => 7
  | 9, 3 => 1
  | 10, 1 => 1
  | 10, 2 => 2
  | 11, 0 => 1
  | 11, 1 => 33
  | 11, 2 => 355
  | 11, 3 => 357
  | 11, 4 => 361
  | 11, 5 => 368
  | 11, 6 => 370
  | 11, 7 => 375
  | 11, 8 => 383
  | 12, 0 => 1
  | 12, 1 => 2
  | 12, 3 => 3
  | 12, 5 => 4
  | 12, 6 => 5
  | 12, 7 => 6
  | 12, 8 => 7
  | 12, 9 => 8
  | 12, 10 => 9
  | 12, 17 => 10
  | 12, 18 => 11
  | 12, 19 => 12
  | 12, 20 => 13
  | 12, 21 => 14
  | 12, 22 => 15
  | 12, 25 => 16
  | _, _ => 0
def nF (c : Nat) : Nat := ([8, 1, 2, 3, 1, 3, 1, 5, 3, 4, 3, 9, 27] : List Nat).getD c 0
def fvv (ci k i : Nat) (w : Wd) : AV := if offc ci k = 0 then vI (w i k) else vR (some (i + offc ci k))
def ob (w : Wd) (i : Nat) : Ob :=
  if i = 0 then .inr (9, (w 999 0).toNat, .inl fun q => w 0 q)
  else if sh i < 13 then .inl (sh i, (List.range (nF (sh i))).map fun k => fvv (sh i) k i w)
  else if sh i < 20000 then .inr (0, sh i - 1000, .inl fun q => w i q)
  else if sh i < 30000 then .inr (1, sh i - 20000, .inl fun q => w i q)
  else if sh i < 40000 then .inr (2, sh i - 30000, .inl fun q => w i q)
  else if sh i < 50000 then .inr (3, sh i - 40000, .inr fun q => some (i + 1 + 6 * q))
  else .inr (4, sh i - 50000, .inr fun q => some (i + 1 + 32 * q))
abbrev NOB : Nat := 401
def fl (w : Wd) : GW := (NOB, ob w)
def lQ (Q : Option AV → Wd → Prop) : Option AV → GW → Prop := fun r u => ∃ w : Wd, u = fl w ∧ WR w ∧ Q r w
def Rm (d : Nat) : Room := { frames := d, cells := 0, slots := 0, locals := 41 * d }
theorem sh_big {i : Nat} (h : 401 < i) : sh i = 98 := by
  have h1 : shT.length ≤ i - 356 := by
    have e : shT.length = 46 := by decide
    omega
  unfold sh
  rw [if_neg (by omega), if_neg (by omega), if_neg (by omega), if_neg (by omega), if_neg (by omega), if_neg (by omega), List.getD_eq_getElem?_getD, List.getElem?_eq_none h1]
  rfl
theorem sh_in {i s : Nat} (h : sh i = s) (h1 : s ≠ 98) (h2 : s ≠ 99) : 1 ≤ i ∧ i ≤ 401 := by
  refine ⟨?_, ?_⟩
  · rcases Nat.eq_zero_or_pos i with rfl | q
    · exact absurd h.symm h2
    · exact q
  · by_cases q : i ≤ 401
    · exact q
    · exact absurd (h.symm.trans (sh_big (by omega))) h1
theorem fl_obj {w : Wd} {i c : Nat} (h : sh i = c) (hc : c < 13) : (fl w).2 i = .inl (c, (List.range (nF c)).map fun k => fvv c k i w) := by
  have h1 := (sh_in h (by omega) (by omega)).1
  show ob w i = _
  unfold ob
  rw [if_neg (by omega), if_pos (by omega), h]
theorem fl_int {w : Wd} {i n : Nat} (h : sh i = 1000 + n) (hn : n < 19000) : (fl w).2 i = .inr (0, n, .inl fun q => w i q) := by
  have h1 := (sh_in h (by omega) (by omega)).1
  show ob w i = _
  unfold ob
  rw [if_neg (by omega), if_neg (by omega), if_pos (by omega), h, Nat.add_sub_cancel_left]
theorem fl_long {w : Wd} {i n : Nat} (h : sh i = 20000 + n) (hn : n < 10000) : (fl w).2 i = .inr (1, n, .inl fun q => w i q) := by
  have h1 := (sh_in h (by omega) (by omega)).1
  show ob w i = _
  unfold ob
  rw [if_neg (by omega), if_neg (by omega), if_neg (by omega), if_pos (by omega), h, Nat.add_sub_cancel_left]
theorem fl_bool {w : Wd} {i n : Nat} (h : sh i = 30000 + n) (hn : n < 10000) : (fl w).2 i = .inr (2, n, .inl fun q => w i q) := by
  have h1 := (sh_in h (by omega) (by omega)).1
  show ob w i = _
  unfold ob
  rw [if_neg (by omega), if_neg (by omega), if_neg (by omega), if_neg (by omega), if_pos (by omega), h, Nat.add_sub_cancel_left]
theorem fl_cur {w : Wd} {i n : Nat} (h : sh i = 40000 + n) (hn : n < 10000) : (fl w).2 i = .inr (3, n, .inr fun q => some (i + 1 + 6 * q)) := by
  have h1 := (sh_in h (by omega) (by omega)).1
  show ob w i = _
  unfold ob
  rw [if_neg (by omega), if_neg (by omega), if_neg (by omega), if_neg (by omega), if_neg (by omega), if_pos (by omega), h, Nat.add_sub_cancel_left]
theorem fl_sta {w : Wd} {i n : Nat} (h : sh i = 50000 + n) : (fl w).2 i = .inr (4, n, .inr fun q => some (i + 1 + 32 * q)) := by
  have h1 := (sh_in h (by omega) (by omega)).1
  show ob w i = _
  unfold ob
  rw [if_neg (by omega), if_neg (by omega), if_neg (by omega), if_neg (by omega), if_neg (by omega), if_neg (by omega), h, Nat.add_sub_cancel_left]
theorem up_ne {w : Wd} {i j : Nat} {a x : Int} (h : j ≠ i) : up w i a x j = w j := by
  funext q
  simp [up, h]
theorem ob_ne {w : Wd} {i j : Nat} {a x : Int} (h : j ≠ i) (h0 : i ≠ 0) (h9 : i ≠ 999) : ob (up w i a x) j = ob w j := by
  unfold ob fvv
  rw [up_ne h, up_ne (Ne.symm h0), up_ne (Ne.symm h9)]
theorem fl_ext {w w2 : Wd} {i : Nat} {a x : Int} {o : Ob} (hi : 1 ≤ i ∧ i ≤ 401) (hw2 : w2 = up w i a x) (ho : (fl w2).2 i = o) : (NOB, uset (fl w).2 i o) = fl w2 := by
  subst hw2
  have h2 : uset (fl w).2 i o = ob (up w i a x) := by
    funext j
    unfold uset
    by_cases h : j = i
    · subst h
      rw [if_pos rfl]; exact ho.symm
    · rw [if_neg h]
      exact (ob_ne h (by omega) (by have := hi.2; omega)).symm
  rw [h2]
  rfl
theorem fl_put {w : Wd} {i c kf : Nat} {x : Int} (h : sh i = c) (hc : c < 13) (ho : offc c kf = 0) : (NOB, uset (fl w).2 i (.inl (c, ((List.range (nF c)).map fun k => fvv c k i w).set kf (vI x)))) = fl (up w i kf x) := by
  refine fl_ext (sh_in h (by omega) (by omega)) rfl ?_
  rw [fl_obj h hc]
  congr 2
  apply List.ext_getElem?
  intro q
  by_cases hq : q < nF c
  · by_cases he : q = kf
    · subst he
      rw [List.getElem?_set_self (by simpa using hq)]
      simp [hq, fvv, ho, up]
    · rw [List.getElem?_set_ne (Ne.symm he)]
      have h3 : ¬ (q : Int) = (kf : Int) := by omega
      simp [hq, fvv, up, h3]
  · rw [List.getElem?_eq_none (by simp; omega), List.getElem?_eq_none (by simp; omega)]
theorem fl_ast {w : Wd} {i t n : Nat} {j x : Int} (hs : ∀ w : Wd, (fl w).2 i = .inr (t, n, .inl fun q => w i q)) (hi : 1 ≤ i ∧ i ≤ 401) (hj : 0 ≤ j) : (NOB, uset (fl w).2 i (.inr (t, n, .inl fun q => if q = j.toNat then x else w i q))) = fl (up w i j x) := by
  refine fl_ext hi rfl ?_
  rw [hs]
  congr 4
  funext q
  unfold up
  by_cases h : q = j.toNat
  · rw [if_pos h, if_pos ⟨rfl, by omega⟩]
  · rw [if_neg h, if_neg (fun h2 => h (by have := h2.2; omega))]
theorem M_mono {k : MT} {R : Room} {av : List AV} {u : GW} {Q Q2 : Option AV → GW → Prop} (h : M k R av u Q) (hQ : ∀ r u, Q r u → Q2 r u) : M k R av u Q2 := by
  intro l g a p e ha hc hk s m args below hf happ hP hK
  obtain ⟨n, o, h1, h2, h3, d, h4, h5, h6⟩ := h l g a p e ha hc hk s m args below hf happ hP hK
  obtain ⟨⟨r, u2, q1, q2, q3⟩, q4⟩ := h5
  exact ⟨n, o, h1, h2, h3, d, h4, ⟨⟨r, u2, q1, hQ r u2 q2, q3⟩, q4⟩, h6⟩
theorem M_fl {k k2 : MT} {R R2 : Room} {cu su pc : Nat} {L : List (Option AV)} {st av : List AV} {w : Wd} {Q : Option AV → GW → Prop} (h : M k2 R2 av (fl w) (lQ fun r w2 => V k R cu su pc L (psh r st) (fl w2) Q)) : M k2 R2 av (fl w) (fun r u2 => V k R cu su pc L (psh r st) u2 Q) :=
  M_mono h fun r u ⟨w2, e, _, hv⟩ => by rw [e]; exact hv
section
variable {k : MT} {d cu su pc : Nat} {L : List (Option AV)} {st : List AV} {w : Wd} {Q : Option AV → Wd → Prop} {QG : Option AV → GW → Prop} {R : Room}
theorem f_iald {i n : Nat} {j : Int} (hd : decode k.2.1 pc = .ok (.iaload, 1)) (hw : WR w) (h : sh i = 1000 + n) (hn : n < 19000) (hj0 : 0 ≤ j) (hjn : j < n) (kk : R32 (w i j) → V k R cu su (pc + 1) L (vI (w i j) :: st) (fl w) QG) : V k R cu su pc L (vI j :: vR (some i) :: st) (fl w) QG := by
  have hi := sh_in h (by omega) (by omega)
  refine r_ialdG hd hi.1 hi.2 (fl_int h hn) ⟨by omega, by omega⟩ hj0 hjn ?_
  rw [show ((j.toNat : Nat) : Int) = j by omega]
  exact kk (hw i j)
theorem f_lald {i n : Nat} {j : Int} (hd : decode k.2.1 pc = .ok (.laload, 1)) (hw : WR w) (h : sh i = 20000 + n) (hn : n < 10000) (hj0 : 0 ≤ j) (hjn : j < n) (kk : R32 (w i j) → V k R cu su (pc + 1) L (vL (w i j) :: st) (fl w) QG) : V k R cu su pc L (vI j :: vR (some i) :: st) (fl w) QG := by
  have hi := sh_in h (by omega) (by omega)
  refine r_laldG hd hi.1 hi.2 (fl_long h hn) ⟨by omega, by omega⟩ hj0 hjn ?_
  rw [show ((j.toNat : Nat) : Int) = j by omega]
  exact kk (hw i j)
theorem f_zald {i n : Nat} {j : Int} (hd : decode k.2.1 pc = .ok (.baload, 1)) (hw : WR w) (h : sh i = 30000 + n) (hn : n < 10000) (hj0 : 0 ≤ j) (hjn : j < n) (kk : R32 (w i j) → V k R cu su (pc + 1) L (vI (w i j) :: st) (fl w) QG) : V k R cu su pc L (vI j :: vR (some i) :: st) (fl w) QG := by
  have hi := sh_in h (by omega) (by omega)
  refine r_zaldG hd hi.1 hi.2 (fl_bool h hn) ⟨by omega, by omega⟩ hj0 hjn ?_
  rw [show ((j.toNat : Nat) : Int) = j by omega]
  exact kk (hw i j)
theorem f_aaldC {i n : Nat} {j : Int} (hd : decode k.2.1 pc = .ok (.aaload, 1)) (h : sh i = 40000 + n) (hn : n < 10000) (hj0 : 0 ≤ j) (hjn : j < n) (kk : V k R cu su (pc + 1) L (vR (some (i + 1 + 6 * j.toNat)) :: st) (fl w) QG) : V k R cu su pc L (vI j :: vR (some i) :: st) (fl w) QG := by
  have hi := sh_in h (by omega) (by omega)
  exact r_aaldG hd hi.1 hi.2 (fl_cur h hn) (fun _ => rfl) ⟨by omega, by omega⟩ hj0 hjn kk
theorem f_aaldS {i n : Nat} {j : Int} (hd : decode k.2.1 pc = .ok (.aaload, 1)) (h : sh i = 50000 + n) (hn : n < 10000) (hj0 : 0 ≤ j) (hjn : j < n) (kk : V k R cu su (pc + 1) L (vR (some (i + 1 + 32 * j.toNat)) :: st) (fl w) QG) : V k R cu su pc L (vI j :: vR (some i) :: st) (fl w) QG := by
  have hi := sh_in h (by omega) (by omega)
  exact r_aaldG hd hi.1 hi.2 (fl_sta h) (fun _ => rfl) ⟨by omega, by omega⟩ hj0 hjn kk
theorem f_sld {j : Int} (hd : decode k.2.1 pc = .ok (.iaload, 1)) (hw : WR w) (hj : R32 j) (hj0 : 0 ≤ j) (hjn : j < w 999 0) (kk : R32 (w 0 j) → V k R cu su (pc + 1) L (vI (w 0 j) :: st) (fl w) QG) : V k R cu su pc L (vI j :: vR (some 0) :: st) (fl w) QG := by
  refine r_sldG hd (show (fl w).2 0 = .inr (9, (w 999 0).toNat, .inl fun q => w 0 q) from rfl) hj hj0 (by omega) ?_
  rw [show ((j.toNat : Nat) : Int) = j by omega]
  exact kk (hw 0 j)
theorem f_slen (hd : decode k.2.1 pc = .ok (.arraylength, 1)) (h0 : 0 ≤ w 999 0) (kk : V k R cu su (pc + 1) L (vI (w 999 0) :: st) (fl w) QG) : V k R cu su pc L (vR (some 0) :: st) (fl w) QG := by
  refine r_slenG hd (show (fl w).2 0 = .inr (9, (w 999 0).toNat, .inl fun q => w 0 q) from rfl) ?_
  rw [show (((w 999 0).toNat : Nat) : Int) = w 999 0 by omega]
  exact kk
theorem f_alenI {i n : Nat} (hd : decode k.2.1 pc = .ok (.arraylength, 1)) (h : sh i = 1000 + n) (hn : n < 19000) (kk : V k R cu su (pc + 1) L (vI n :: st) (fl w) QG) : V k R cu su pc L (vR (some i) :: st) (fl w) QG := by
  have hi := sh_in h (by omega) (by omega)
  exact r_alenG hd (by omega) hi.1 hi.2 (fl_int h hn) kk
theorem f_alenC {i n : Nat} (hd : decode k.2.1 pc = .ok (.arraylength, 1)) (h : sh i = 40000 + n) (hn : n < 10000) (kk : V k R cu su (pc + 1) L (vI n :: st) (fl w) QG) : V k R cu su pc L (vR (some i) :: st) (fl w) QG := by
  have hi := sh_in h (by omega) (by omega)
  exact r_alenG hd (by omega) hi.1 hi.2 (fl_cur h hn) kk
theorem f_alenS {i n : Nat} (hd : decode k.2.1 pc = .ok (.arraylength, 1)) (h : sh i = 50000 + n) (kk : V k R cu su (pc + 1) L (vI n :: st) (fl w) QG) : V k R cu su pc L (vR (some i) :: st) (fl w) QG := by
  have hi := sh_in h (by omega) (by omega)
  exact r_alenG hd (by omega) hi.1 hi.2 (fl_sta h) kk
theorem f_iast {i n : Nat} {j x : Int} (hd : decode k.2.1 pc = .ok (.iastore, 1)) (hw : WR w) (h : sh i = 1000 + n) (hn : n < 19000) (hj0 : 0 ≤ j) (hjn : j < n) (hx : R32 x) (kk : WR (up w i j x) → V k R cu su (pc + 1) L st (fl (up w i j x)) QG) : V k R cu su pc L (vI x :: vI j :: vR (some i) :: st) (fl w) QG := by
  have hi := sh_in h (by omega) (by omega)
  refine r_iastG hd hi.1 hi.2 (fl_int h hn) ⟨by omega, by omega⟩ hj0 hjn ?_
  rw [show (fl w).1 = NOB from rfl, fl_ast (fun w => fl_int h hn) hi hj0]
  exact kk (WR_up hw hx)
theorem f_last {i n : Nat} {j x : Int} (hd : decode k.2.1 pc = .ok (.lastore, 1)) (hw : WR w) (h : sh i = 20000 + n) (hn : n < 10000) (hj0 : 0 ≤ j) (hjn : j < n) (hx : R32 x) (kk : WR (up w i j x) → V k R cu su (pc + 1) L st (fl (up w i j x)) QG) : V k R cu su pc L (vL x :: vI j :: vR (some i) :: st) (fl w) QG := by
  have hi := sh_in h (by omega) (by omega)
  refine r_lastG hd hi.1 hi.2 (fl_long h hn) ⟨by omega, by omega⟩ hj0 hjn ?_
  rw [show (fl w).1 = NOB from rfl, fl_ast (fun w => fl_long h hn) hi hj0]
  exact kk (WR_up hw hx)
theorem f_zast {i n : Nat} {j x : Int} (hd : decode k.2.1 pc = .ok (.bastore, 1)) (hw : WR w) (h : sh i = 30000 + n) (hn : n < 10000) (hj0 : 0 ≤ j) (hjn : j < n) (hx : x = 0 ∨ x = 1) (kk : WR (up w i j x) → V k R cu su (pc + 1) L st (fl (up w i j x)) QG) : V k R cu su pc L (vI x :: vI j :: vR (some i) :: st) (fl w) QG := by
  have hi := sh_in h (by omega) (by omega)
  refine r_zastG hd hi.1 hi.2 (fl_bool h hn) ⟨by omega, by omega⟩ hj0 hjn hx ?_
  rw [show (fl w).1 = NOB from rfl, fl_ast (fun w => fl_bool h hn) hi hj0]
  exact kk (WR_up hw (by rcases hx with rfl | rfl <;> constructor <;> omega))
/-- arraycopy of whole int rows of the same length n -/
def upr (w : Wd) (i i2 : Nat) (n : Int) : Wd := fun p q => if p = i2 ∧ 0 ≤ q ∧ q < n then w i q else w p q
theorem WR_upr {w : Wd} {i i2 : Nat} {n : Int} (h : WR w) : WR (upr w i i2 n) := by
  intro p q
  unfold upr
  split
  · exact h i q
  · exact h p q
theorem f_copy {i i2 n idx : Nat} (hd : decode k.2.1 pc = .ok (.invokestatic idx, 3)) (hl : Cond.methodLink k.1.cls idx arraycopyName ∈ gW) (hnat : Cond.native arraycopyName ∈ gW) (hst : Cond.static arraycopyName ∈ gW) (hini : Cond.initialized "java/lang/System" ∈ gW) (hw : WR w) (h : sh i = 1000 + n) (h2 : sh i2 = 1000 + n) (hn : n < 19000) (hf : 1 ≤ d)
    (kk : WR (upr w i i2 n) → V k (Rm d) cu su (pc + 3) L st (fl (upr w i i2 n)) QG) (hs : (st.map ct).sum ≤ 8) : V k (Rm d) cu su pc L (vI n :: vI 0 :: vR (some i2) :: vI 0 :: vR (some i) :: st) (fl w) QG := by
  have hi := sh_in h (by omega) (by omega)
  have hi2 := sh_in h2 (by omega) (by omega)
  refine r_copyG hd hl hnat hst hini hi.1 hi.2 hi2.1 hi2.2 (fl_int h hn) (fl_int h2 hn) (fun n f e => by cases e) ⟨by omega, by omega⟩ (by omega) (by omega) (by omega) hf (Nat.le_trans (Nat.le_of_ble_eq_true rfl) (show 41 * 1 ≤ 41 * d by omega)) hs ?_
  have e : ((fl w).1, uset (fl w).2 i2 (.inr (0, n, .inl fun q => if q < (n : Int).toNat then w i q else w i2 q))) = fl (upr w i i2 n) := by
    have h3 : uset (fl w).2 i2 (.inr (0, n, .inl fun q => if q < (n : Int).toNat then w i q else w i2 q)) = ob (upr w i i2 n) := by
      funext j
      unfold uset
      by_cases hj : j = i2
      · subst hj
        rw [if_pos rfl]
        have h4 := fl_int (w := upr w i j n) h2 hn
        rw [show ob (upr w i j n) j = (fl (upr w i j n)).2 j from rfl, h4]
        congr 4
        funext q
        unfold upr
        by_cases hq : q < n
        · rw [if_pos (by omega), if_pos ⟨rfl, by omega, by omega⟩]
        · rw [if_neg (by omega), if_neg (by omega)]
      · rw [if_neg hj]
        have h5 : ∀ p : Nat, p ≠ i2 → upr w i i2 n p = w p := fun p hp => by
          funext q
          simp [upr, hp]
        show ob w j = _
        unfold ob fvv
        rw [h5 j hj, h5 0 (by omega), h5 999 (by have := hi2.2; omega)]
    rw [h3]; rfl
  rw [e]
  exact kk (WR_upr hw)
theorem f_iret {x : Int} (hd : decode k.2.1 pc = .ok (.ireturn, 1)) (hr : k.2.2.2 = some .int) (hw : WR w) (hQ : Q (some (vI x)) w) : V k (Rm d) 0 0 pc L [vI x] (fl w) (lQ Q) := r_iret hd hr (Nat.le_refl _) (Nat.le_refl _) ⟨w, rfl, hw, hQ⟩
theorem f_zret {x : Int} (hd : decode k.2.1 pc = .ok (.ireturn, 1)) (hr : k.2.2.2 = some .boolean) (hx : x = 0 ∨ x = 1) (hw : WR w) (hQ : Q (some (vI x)) w) : V k (Rm d) 0 0 pc L [vI x] (fl w) (lQ Q) := r_zret hd hr hx (Nat.le_refl _) (Nat.le_refl _) ⟨w, rfl, hw, hQ⟩
theorem f_lret {x : Int} (hd : decode k.2.1 pc = .ok (.lreturn, 1)) (hr : k.2.2.2 = some .long) (hw : WR w) (hQ : Q (some (vL x)) w) : V k (Rm d) 0 0 pc L [vL x] (fl w) (lQ Q) := r_lret hd hr (Nat.le_refl _) (Nat.le_refl _) ⟨w, rfl, hw, hQ⟩
theorem f_fret {x : UInt32} (hd : decode k.2.1 pc = .ok (.freturn, 1)) (hr : k.2.2.2 = some .float) (hw : WR w) (hQ : Q (some (vF x)) w) : V k (Rm d) 0 0 pc L [vF x] (fl w) (lQ Q) := r_fret hd hr (Nat.le_refl _) (Nat.le_refl _) ⟨w, rfl, hw, hQ⟩
theorem f_dret {x : UInt64} (hd : decode k.2.1 pc = .ok (.dreturn, 1)) (hr : k.2.2.2 = some .double) (hw : WR w) (hQ : Q (some (vD x)) w) : V k (Rm d) 0 0 pc L [vD x] (fl w) (lQ Q) := r_dret hd hr (Nat.le_refl _) (Nat.le_refl _) ⟨w, rfl, hw, hQ⟩
theorem f_aret {x : Option Nat} {nm : String} (hd : decode k.2.1 pc = .ok (.areturn, 1)) (hr : k.2.2.2 = some (.object nm)) (hw : WR w) (hQ : Q (some (vR x)) w) : V k (Rm d) 0 0 pc L [vR x] (fl w) (lQ Q) := r_aret hd hr (Nat.le_refl _) (Nat.le_refl _) ⟨w, rfl, hw, hQ⟩
theorem f_vret (hd : decode k.2.1 pc = .ok (.return_, 1)) (hr : k.2.2.2 = none) (hw : WR w) (hQ : Q none w) : V k (Rm d) 0 0 pc L [] (fl w) (lQ Q) := r_vret hd hr (Nat.le_refl _) (Nat.le_refl _) ⟨w, rfl, hw, hQ⟩
theorem f_mofv {av : List AV} {L0 : List (Option AV)} (hpn : plainName k.1.cls = true) (hn : (lent av).length ≤ k.2.2.1) (hL : lent av ++ List.replicate (k.2.2.1 - (lent av).length) none = L0) (h : V k (Rm d) 0 0 0 L0 [] (fl w) (lQ Q)) : M k (Rm d) av (fl w) (lQ Q) := M_of_V hpn hn (by rw [hL]; exact h)
end
