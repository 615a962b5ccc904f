/-! formulas carried out -/
theorem cx_kp {w w1 : Wd} {c : Nat} (h : ∀ i, c ≤ i → i ≤ c + 5 → w1 i = w i) : CEQ (cx w c) (cx w1 c) := CEQ.of_eq fun r hr j => by
  unfold cx
  rw [h _ (by omega) (by omega)]
theorem drop_cons {C : List (Int × Int)} {i : Nat} {x : Int × Int} (h : C[i]? = some x) : C.drop i = x :: C.drop (i + 1) := by
  obtain ⟨h1, h2⟩ := List.getElem?_eq_some_iff.mp h
  rw [List.drop_eq_getElem_cons h1, h2]
def SKc (w : Wd) (o : Nat) : List Int → Prop
  | [] => True
  | a :: r => w o r.length = a ∧ SKc w o r
theorem SKc.keep {w : Wd} {o : Nat} {x : Int} : ∀ {st : List Int} {n : Nat}, st.length ≤ n → SKc w o st → SKc (up w o n x) o st
  | [], _, _, _ => trivial
  | a :: r, n, hn, h => ⟨by rw [List.length_cons] at hn; rw [up_off (by omega)]; exact h.1, SKc.keep (by rw [List.length_cons] at hn; omega) h.2⟩
theorem SKc.push {w : Wd} {o : Nat} {x : Int} {st : List Int} (h : SKc w o st) : SKc (up w o st.length x) o (x :: st) := ⟨up_hit, h.keep (Nat.le_refl _)⟩
theorem SKc.pop {w : Wd} {o : Nat} {x : Int} {st : List Int} (h : SKc w o (x :: st)) : SKc w o st := h.2
theorem ex_0 {V : Int → Int → Int} {x : Int × Int} {C : List (Int × Int)} {st s2 : List Int} (h : x.1 = 0) (e : exO V (x :: C) st = some s2) : exO V C (64 * x.2 :: st) = some s2 := by
  rw [exO_c, show stp V x st = some (64 * x.2 :: st) from if_pos h] at e
  exact e
theorem ex_1 {V : Int → Int → Int} {x : Int × Int} {C : List (Int × Int)} {st s2 : List Int} (h : x.1 = 1) (e : exO V (x :: C) st = some s2) : exO V C (V (x.2 / 1000) (x.2 % 1000) :: st) = some s2 := by
  have z : stp V x st = some (V (x.2 / 1000) (x.2 % 1000) :: st) := by
    unfold stp
    rw [if_neg (by omega), if_pos h]
  rw [exO_c, z] at e
  exact e
theorem ex_7 {V : Int → Int → Int} {x : Int × Int} {C : List (Int × Int)} {st s2 : List Int} (h : x.1 = 7) (e : exO V (x :: C) st = some s2) : ∃ a r, st = a :: r ∧ exO V C (lim (-a) 1000000 :: r) = some s2 := by
  rw [exO_c] at e
  unfold stp at e
  rw [if_neg (by omega), if_neg (by omega), if_pos h] at e
  rcases st with _ | ⟨a, r⟩
  · cases e
  · exact ⟨a, r, rfl, e⟩
theorem ex_b {V : Int → Int → Int} {x : Int × Int} {C : List (Int × Int)} {st s2 : List Int} (h0 : x.1 ≠ 0) (h1 : x.1 ≠ 1) (h7 : x.1 ≠ 7) (e : exO V (x :: C) st = some s2) : ∃ a b r, st = b :: a :: r ∧ exO V C (cmb x.1 a b :: r) = some s2 := by
  rw [exO_c] at e
  unfold stp at e
  rw [if_neg h0, if_neg h1, if_neg h7] at e
  rcases st with _ | ⟨b, _ | ⟨a, r⟩⟩
  · cases e
  · cases e
  · exact ⟨a, b, r, rfl, e⟩
def RDF (w : Wd) (T : Int → Int) (len r : Int) : Prop := (∃ q, prsS T len = .inl q ∧ r = q ∧ 0 ≤ q ∧ q ≤ 120) ∨ (∃ q e, prsS T len = .inr (q, e) ∧ r = -1000000005 ∧ RWs 359 w e.1 ∧ e.1.length ≤ 120 ∧ GE e)
theorem rdf_end {w w1 : Wd} {T : Int → Int} {len x N : Int} {r : PR} (hr : prsS T len = bn r fun q e => if q < len then .inl q else .inr (q, e)) (hg : GP len 0 r) (hC : CT w (pT r) ([] ++ cd r) N) (e : TS w1 T len (pT r)) (h : x = vdT len (pT r)) : RDF w T len x := by
  have l120 := e.2.2.1
  rcases r with q | ⟨q, e0⟩
  · have h : x = q := h
    have hg : 0 ≤ q ∧ q ≤ len := hg
    exact Or.inl ⟨q, hr, h, hg.1, by omega⟩
  · have hg : 0 < q ∧ q ≤ len ∧ GE e0 ∧ (e0.1.length : Int) ≤ q - 0 := hg
    have hr : prsS T len = if q < len then .inl q else .inr (q, e0) := hr
    have h : x = if q < len then q else -1000000005 := h
    by_cases z : q < len
    · rw [if_pos z] at h hr
      exact Or.inl ⟨q, hr, h, by omega, by omega⟩
    · rw [if_neg z] at h hr
      refine Or.inr ⟨q, e0, hr, h, ?_, by omega, hg.2.2.1⟩
      have := hC.1
      exact this
theorem FRR_0 {w : Wd} {x : Int} : FRR w (up w 359 0 x) := ⟨fun i _ b => up_ne (by omega), fun j _ _ => by rw [up_ne (by omega)]⟩
theorem kw_X6_57 : Jvm.Cond.constant RX6 57 (1000000 : Int32) ∈ gW := gw_t 608 (by decide +kernel) (by decide +kernel)
theorem kw_X6_66 : Jvm.Cond.constantLong RX6 66 (64 : Int64) ∈ gW := gw_t 613 (by decide +kernel) (by decide +kernel)
set_option maxRecDepth 8000 in
theorem m_X6_combined {Q : Option AV → Wd → Prop} {w : Wd} (d : Nat) {k x y : Int} (hd : 2 ≤ d) (hw : WR w) (hk : 2 ≤ k ∧ k ≤ 6) (hx : R32 x) (hy : R32 y) (hQ : ∀ r, r = cmb k x y → R32 r → Q (some (vI r)) w) : M mX6_combined (Rm d) [vI k, vI x, vI y] (fl w) (lQ Q) := by
  refine f_mofv (L0 := [some (vI k), some (vI x), some (vI y)]) rfl (Nat.le_of_ble_eq_true rfl) rfl ?_
  refine r_iload_n (pc := 0) dX6_combined_0 rfl ?_
  rcases (show k = 2 ∨ k = 3 ∨ k = 4 ∨ k = 5 ∨ k = 6 by omega) with m | m | m | m | m <;> subst m
  · skip
    refine r_tableIn (pc := 1) (tgt := 32) (x := 2) (off := 31) dX6_combined_1 (by omega) (by omega) (by omega) rfl rfl ?_
    refine r_iload_n (pc := 32) dX6_combined_32 rfl ?_
    refine r_i2l (pc := 33) dX6_combined_33 (by first | assumption | omega) ?_
    refine r_iload_n (pc := 34) dX6_combined_34 rfl ?_
    refine r_i2l (pc := 35) dX6_combined_35 (by first | assumption | omega) ?_
    refine r_ladd (pc := 36) dX6_combined_36 ?_
    refine r_ldc (pc := 37) (n := 1000000) dX6_combined_37 kw_X6_57 rfl ?_
    refine c_X6_58 (pc := 39) rfl dX6_combined_39 (by omega) (Nat.le_of_ble_eq_true rfl) ?_
    refine m_X11_limited (d - 1) (by omega) (by assumption) (by omega) (by omega) (fun r39 e39 b39 => ?_)
    exact f_iret (pc := 42) dX6_combined_42 rfl (by assumption) (hQ _ (by rw [e39]; unfold cmb; simp) (by omega))
  · skip
    refine r_tableIn (pc := 1) (tgt := 43) (x := 3) (off := 42) dX6_combined_1 (by omega) (by omega) (by omega) rfl rfl ?_
    refine r_iload_n (pc := 43) dX6_combined_43 rfl ?_
    refine r_i2l (pc := 44) dX6_combined_44 (by first | assumption | omega) ?_
    refine r_iload_n (pc := 45) dX6_combined_45 rfl ?_
    refine r_i2l (pc := 46) dX6_combined_46 (by first | assumption | omega) ?_
    refine r_lsub (pc := 47) dX6_combined_47 ?_
    refine r_ldc (pc := 48) (n := 1000000) dX6_combined_48 kw_X6_57 rfl ?_
    refine c_X6_58 (pc := 50) rfl dX6_combined_50 (by omega) (Nat.le_of_ble_eq_true rfl) ?_
    refine m_X11_limited (d - 1) (by omega) (by assumption) (by omega) (by omega) (fun r50 e50 b50 => ?_)
    exact f_iret (pc := 53) dX6_combined_53 rfl (by assumption) (hQ _ (by rw [e50]; unfold cmb; simp) (by omega))
  · skip
    refine r_tableIn (pc := 1) (tgt := 54) (x := 4) (off := 53) dX6_combined_1 (by omega) (by omega) (by omega) rfl rfl ?_
    refine r_iload_n (pc := 54) dX6_combined_54 rfl ?_
    refine r_i2l (pc := 55) dX6_combined_55 (by first | assumption | omega) ?_
    refine r_iload_n (pc := 56) dX6_combined_56 rfl ?_
    refine r_i2l (pc := 57) dX6_combined_57 (by first | assumption | omega) ?_
    refine r_lmul (pc := 58) dX6_combined_58 ?_
    refine r_ldc2 (pc := 59) (n := 64) dX6_combined_59 kw_X6_66 rfl ?_
    refine c_X6_68 (pc := 62) rfl dX6_combined_62 (by omega) (Nat.le_of_ble_eq_true rfl) ?_
    refine m_X11_round (d - 1) (by omega) (by assumption) (by omega) (fun r62 e62 => ?_)
    refine r_ldc (pc := 65) (n := 1000000) dX6_combined_65 kw_X6_57 rfl ?_
    refine c_X6_58 (pc := 67) rfl dX6_combined_67 (by omega) (Nat.le_of_ble_eq_true rfl) ?_
    have R62 : R64 r62 := by
      rw [e62]
      exact rndW_r _ _
    refine m_X11_limited (d - 1) (by omega) (by assumption) (by omega) (by omega) (fun r67 e67 b67 => ?_)
    exact f_iret (pc := 70) dX6_combined_70 rfl (by assumption) (hQ _ (by rw [e67, e62]; unfold cmb; simp) (by omega))
  · skip
    refine r_tableIn (pc := 1) (tgt := 71) (x := 5) (off := 70) dX6_combined_1 (by omega) (by omega) (by omega) rfl rfl ?_
    refine r_iload_n (pc := 71) dX6_combined_71 rfl ?_
    refine r_iload_n (pc := 72) dX6_combined_72 rfl ?_
    refine c_X6_72 (pc := 73) rfl dX6_combined_73 (by omega) (Nat.le_of_ble_eq_true rfl) ?_
    refine m_J9_min_7cf53 (d - 1) (by omega) (by assumption) (by omega) (by omega) (fun r73 e73 b73 => ?_)
    exact f_iret (pc := 76) dX6_combined_76 rfl (by assumption) (hQ _ (by rw [e73]; unfold cmb; simp) (by omega))
  · skip
    refine r_tableOut (pc := 1) (tgt := 77) dX6_combined_1 (by omega) (by omega) rfl ?_
    refine r_iload_n (pc := 77) dX6_combined_77 rfl ?_
    refine r_iload_n (pc := 78) dX6_combined_78 rfl ?_
    refine c_X6_45 (pc := 79) rfl dX6_combined_79 (by omega) (Nat.le_of_ble_eq_true rfl) ?_
    refine m_J9_max_7cf53 (d - 1) (by omega) (by assumption) (by omega) (by omega) (fun r79 e79 b79 => ?_)
    exact f_iret (pc := 82) dX6_combined_82 rfl (by assumption) (hQ _ (by rw [e79]; unfold cmb; simp) (by omega))
set_option maxRecDepth 8000 in
theorem m_X6_run {Q : Option AV → Wd → Prop} {w : Wd} (d : Nat) {e : EE} {f : Int} (hd : 8 ≤ d) (hw : WR w) (hf : 0 ≤ f ∧ f ≤ 1000) (hI : ∀ q : Nat, q < 4 → CI (cx w (2 + 8 + 6 * q))) (hG : GE e) (hR : RWs 6 w e.1) (hl : e.1.length ≤ 120) (hQ : ∀ r w2, r = e.2 (fun c b => valS (cx w (2 + 8 + 6 * c.toNat)) (max 0 (f - b))) → R32 r → (∀ p, p ≠ 370 → w2 p = w p) → WR w2 → Q (some (vI r)) w2) : M mX6_run (Rm d) [vR (some 369), vR (some 2), vI f] (fl w) (lQ Q) := by
  obtain ⟨V0, hV⟩ : ∃ V0 : Int → Int → Int, V0 = fun c b => valS (cx w (2 + 8 + 6 * c.toNat)) (max 0 (f - b)) := ⟨_, rfl⟩
  obtain ⟨R0, hR0⟩ : ∃ z, z = e.2 V0 := ⟨_, rfl⟩
  rw [← hV, ← hR0] at hQ
  obtain ⟨sq1, sq4, sq7, sq⟩ := sh_sta (show sh 2 = 8 from rfl)
  refine f_mofv (L0 := [some (vR (some 369)), some (vR (some 2)), some (vI f), none, none, none, none, none, none, none]) rfl (Nat.le_of_ble_eq_true rfl) rfl ?_
  have cut202 : ∀ (n0 i : Nat), (∀ m : Nat, m < n0 → ∀ i : Nat, e.1.length - i = m → i ≤ e.1.length → ∀ (st : List Int) (w1 : Wd) (t : Int) (o6 o7 o8 o9 : Option AV), t = (st.length : Int) - 1 → st.length ≤ i → exO V0 (e.1.drop i) st = some [R0] → SKc w1 370 st → (∀ p, p ≠ 370 → w1 p = w p) → WR w1 → V mX6_run (Rm d) 0 0 11 [some (vR (some 369)), some (vR (some 2)), some (vI f), some (vR (some 6)), some (vI t), some (vI i), o6, o7, o8, o9] [] (fl w1) (lQ Q)) → e.1.length - i = n0 → i < e.1.length → ∀ (st2 : List Int) (w2 : Wd) (t2 : Int) (o6 o7 o8 o9 : Option AV), t2 = (st2.length : Int) - 1 → st2.length ≤ i + 1 → exO V0 (e.1.drop (i + 1)) st2 = some [R0] → SKc w2 370 st2 → (∀ p, p ≠ 370 → w2 p = w p) → WR w2 → V mX6_run (Rm d) 0 0 202 [some (vR (some 369)), some (vR (some 2)), some (vI f), some (vR (some 6)), some (vI t2), some (vI i), o6, o7, o8, o9] [] (fl w2) (lQ Q) := by
    intro n0 i ih hm hi st2 w2 t2 o6 o7 o8 o9 ht2 hst2 hex2 hsk2 hf2 hw2
    refine r_iinc5 (pc := 202) dX6_run_202 rfl ?_
    refine r_goto (pc := 205) (tgt := 11) dX6_run_205 rfl ?_
    exact ih _ (by omega) (i + 1) rfl (by omega) st2 w2 t2 _ _ _ _ ht2 (by omega) hex2 hsk2 hf2 hw2
  have loop11 : ∀ n0 : Nat, ∀ i : Nat, e.1.length - i = n0 → i ≤ e.1.length → ∀ (st : List Int) (w1 : Wd) (t : Int) (o6 o7 o8 o9 : Option AV), t = (st.length : Int) - 1 → st.length ≤ i → exO V0 (e.1.drop i) st = some [R0] → SKc w1 370 st → (∀ p, p ≠ 370 → w1 p = w p) → WR w1 → V mX6_run (Rm d) 0 0 11 [some (vR (some 369)), some (vR (some 2)), some (vI f), some (vR (some 6)), some (vI t), some (vI i), o6, o7, o8, o9] [] (fl w1) (lQ Q) := by
    refine ind_lt ?_
    intro n0 ih i hm hi st w1 t o6 o7 o8 o9 ht hst hex hsk hf1 hw1
    have hc6 : w1 6 0 = e.1.length := by rw [hf1 6 (by omega)]; exact hR.1
    refine r_iload (pc := 11) dX6_run_11 rfl ?_
    refine r_aload_n (pc := 13) dX6_run_13 rfl ?_
    refine g_X6_21 (pc := 14) rfl dX6_run_14 (by assumption) (by first | assumption | rfl) (fun h14 => ?_)
    refine r_icmpge (pc := 17) (tgt := 208) dX6_run_17 rfl (by omega) (by omega) (fun h17 => ?_) (fun h17 => ?_)
    · rw [List.drop_eq_nil_of_le (by omega)] at hex
      have hst1 : st = [R0] := Option.some.inj hex
      subst hst1
      have hsk1 : w1 370 0 = R0 := hsk.1
      refine r_aload_n (pc := 208) dX6_run_208 rfl ?_
      refine h_X6_9 (pc := 209) rfl dX6_run_209 ?_
      refine r_iconst (pc := 212) (n := 0) dX6_run_212 ?_
      refine c_X6_30 (pc := 213) rfl dX6_run_213 (by omega) (Nat.le_of_ble_eq_true rfl) ?_
      refine m_X11_at (d - 1) (by omega) (by assumption) (n := 120) (show sh 370 = 1000 + 120 from rfl) (by omega) (by omega) (fun r213 e213 b213 => ?_)
      rw [gA_in (by omega) (by omega)] at e213
      exact f_iret (pc := 216) dX6_run_216 rfl (by assumption) (hQ _ _ (by rw [e213]; exact hsk1) (by omega) hf1 (by assumption))
    have hil : i < e.1.length := by omega
    obtain ⟨x, hx⟩ : ∃ x, e.1[i]? = some x := ⟨e.1[i], List.getElem?_eq_getElem hil⟩
    obtain ⟨hx1, hx2⟩ := hR.2 i x hx
    rw [drop_cons hx] at hex
    have gx := hG.2 x (List.mem_of_getElem? hx)
    refine r_aload_n (pc := 20) dX6_run_20 rfl ?_
    refine g_X6_27 (pc := 21) rfl dX6_run_21 (by first | assumption | rfl) ?_
    refine r_iload (pc := 24) dX6_run_24 rfl ?_
    refine c_X6_30 (pc := 26) rfl dX6_run_26 (by omega) (Nat.le_of_ble_eq_true rfl) ?_
    refine m_X11_at (d - 1) (by omega) (by assumption) (n := 120) (show sh (6 + 1) = 1000 + 120 from rfl) (by omega) (by omega) (fun r26 e26 b26 => ?_)
    rw [gA_in (by omega) (by omega), hf1 (6 + 1) (by omega)] at e26
    rw [hx1] at e26
    refine r_istore6 (pc := 29) dX6_run_29 rfl ?_
    refine r_aload_n (pc := 31) dX6_run_31 rfl ?_
    refine g_X6_34 (pc := 32) rfl dX6_run_32 (by first | assumption | rfl) ?_
    refine r_iload (pc := 35) dX6_run_35 rfl ?_
    refine c_X6_30 (pc := 37) rfl dX6_run_37 (by omega) (Nat.le_of_ble_eq_true rfl) ?_
    refine m_X11_at (d - 1) (by omega) (by assumption) (n := 120) (show sh (6 + 2) = 1000 + 120 from rfl) (by omega) (by omega) (fun r37 e37 b37 => ?_)
    rw [gA_in (by omega) (by omega), hf1 (6 + 2) (by omega)] at e37
    rw [hx2] at e37
    subst e37
    refine r_istore7 (pc := 40) dX6_run_40 rfl ?_
    refine r_iload (pc := 42) dX6_run_42 rfl ?_
    refine r_ifne (pc := 44) (tgt := 67) dX6_run_44 rfl (by omega) (fun h44 => ?_) (fun h44 => ?_)
    · refine r_iload (pc := 67) dX6_run_67 rfl ?_
      refine r_iconst (pc := 69) (n := 1) dX6_run_69 ?_
      refine r_icmpne (pc := 70) (tgt := 130) dX6_run_70 rfl (by omega) (by omega) (fun h70 => ?_) (fun h70 => ?_)
      · refine r_iload (pc := 130) dX6_run_130 rfl ?_
        refine r_bipush (pc := 132) (n := 7) dX6_run_132 (by decide) ?_
        refine r_icmpne (pc := 134) (tgt := 165) dX6_run_134 rfl (by omega) (by omega) (fun h134 => ?_) (fun h134 => ?_)
        · obtain ⟨a, b, s1, hs, hxb⟩ := ex_b (by omega) (by omega) (by omega) hex
          subst hs
          have tl : t + -1 = (s1.length : Int) := by simp only [List.length_cons] at ht; omega
          have sb : w1 370 (s1.length + 1 : Nat) = b := hsk.1
          have sa : w1 370 s1.length = a := hsk.2.1
          have sl : s1.length + 1 < 120 := by simp only [List.length_cons] at hst; omega
          refine r_iinc4 (pc := 165) dX6_run_165 rfl ?_
          refine r_aload_n (pc := 168) dX6_run_168 rfl ?_
          refine h_X6_9 (pc := 169) rfl dX6_run_169 ?_
          refine r_iload (pc := 172) dX6_run_172 rfl ?_
          refine r_iload (pc := 174) dX6_run_174 rfl ?_
          refine r_aload_n (pc := 176) dX6_run_176 rfl ?_
          refine h_X6_9 (pc := 177) rfl dX6_run_177 ?_
          refine r_iload (pc := 180) dX6_run_180 rfl ?_
          refine c_X6_30 (pc := 182) rfl dX6_run_182 (by omega) (Nat.le_of_ble_eq_true rfl) ?_
          refine m_X11_at (d - 1) (by omega) (by assumption) (n := 120) (show sh 370 = 1000 + 120 from rfl) (by omega) (by omega) (fun r182 e182 b182 => ?_)
          rw [gA_in (by omega) (by omega)] at e182
          rw [tl, sa] at e182
          refine r_aload_n (pc := 185) dX6_run_185 rfl ?_
          refine h_X6_9 (pc := 186) rfl dX6_run_186 ?_
          refine r_iload (pc := 189) dX6_run_189 rfl ?_
          refine r_iconst (pc := 191) (n := 1) dX6_run_191 ?_
          refine r_iadd (pc := 192) dX6_run_192 ?_
          refine c_X6_30 (pc := 193) rfl dX6_run_193 (by omega) (Nat.le_of_ble_eq_true rfl) ?_
          refine m_X11_at (d - 1) (by omega) (by assumption) (n := 120) (show sh 370 = 1000 + 120 from rfl) (by omega) (by omega) (fun r193 e193 b193 => ?_)
          rw [gA_in (by omega) (by omega)] at e193
          rw [tl, show (s1.length : Int) + 1 = (s1.length + 1 : Nat) by omega, sb] at e193
          refine c_X6_62 (pc := 196) rfl dX6_run_196 (by omega) (Nat.le_of_ble_eq_true rfl) ?_
          refine m_X6_combined (d - 1) (by omega) (by assumption) (by omega) (by omega) (by omega) (fun r196 e196 b196 => ?_)
          rw [e26] at e196
          refine c_X6_37 (pc := 199) rfl dX6_run_199 (by omega) (Nat.le_of_ble_eq_true rfl) ?_
          refine m_X11_put (d - 1) (by omega) (by assumption) (n := 120) (show sh 370 = 1000 + 120 from rfl) (by omega) (by omega) (by omega) (fun w199 e199 hw199 => ?_)
          rw [pA_in (by omega) (by omega)] at e199
          exact cut202 n0 i ih hm hil (cmb x.1 a b :: s1) w199 _ _ _ _ _ (by rw [List.length_cons]; simp only [List.length_cons] at ht; omega) (by rw [List.length_cons]; simp only [List.length_cons] at hst; omega) hxb (by rw [e199, tl, e196, e182, e193]; exact (SKc.pop (SKc.pop hsk)).push) (fun p hp => by rw [e199, up_ne hp]; exact hf1 p hp) (by assumption)
        obtain ⟨a, s1, hs, hx7⟩ := ex_7 (by omega) hex
        subst hs
        have tl : t = (s1.length : Int) := by rw [List.length_cons] at ht; omega
        have sa : w1 370 s1.length = a := hsk.1
        have sl : s1.length < 120 := by rw [List.length_cons] at hst; omega
        refine r_aload_n (pc := 137) dX6_run_137 rfl ?_
        refine h_X6_9 (pc := 138) rfl dX6_run_138 ?_
        refine r_iload (pc := 141) dX6_run_141 rfl ?_
        refine r_aload_n (pc := 143) dX6_run_143 rfl ?_
        refine h_X6_9 (pc := 144) rfl dX6_run_144 ?_
        refine r_iload (pc := 147) dX6_run_147 rfl ?_
        refine c_X6_30 (pc := 149) rfl dX6_run_149 (by omega) (Nat.le_of_ble_eq_true rfl) ?_
        refine m_X11_at (d - 1) (by omega) (by assumption) (n := 120) (show sh 370 = 1000 + 120 from rfl) (by omega) (by omega) (fun r149 e149 b149 => ?_)
        rw [gA_in (by omega) (by omega)] at e149
        rw [tl, sa] at e149
        refine r_i2l (pc := 152) dX6_run_152 (by first | assumption | omega) ?_
        refine r_lneg (pc := 153) dX6_run_153 ?_
        refine r_ldc (pc := 154) (n := 1000000) dX6_run_154 kw_X6_57 rfl ?_
        refine c_X6_58 (pc := 156) rfl dX6_run_156 (by omega) (Nat.le_of_ble_eq_true rfl) ?_
        refine m_X11_limited (d - 1) (by omega) (by assumption) (by omega) (by omega) (fun r156 e156 b156 => ?_)
        refine c_X6_37 (pc := 159) rfl dX6_run_159 (by omega) (Nat.le_of_ble_eq_true rfl) ?_
        refine m_X11_put (d - 1) (by omega) (by assumption) (n := 120) (show sh 370 = 1000 + 120 from rfl) (by omega) (by omega) (by omega) (fun w159 e159 hw159 => ?_)
        rw [pA_in (by omega) (by omega)] at e159
        refine r_goto (pc := 162) (tgt := 202) dX6_run_162 rfl ?_
        exact cut202 n0 i ih hm hil (lim (-a) 1000000 :: s1) w159 _ _ _ _ _ (by rw [List.length_cons]; rw [List.length_cons] at ht; omega) (by rw [List.length_cons]; rw [List.length_cons] at hst; omega) hx7 (by rw [e159, tl, e156, e149]; exact (SKc.pop hsk).push) (fun p hp => by rw [e159, up_ne hp]; exact hf1 p hp) (by assumption)
      refine r_aload_n (pc := 73) dX6_run_73 rfl ?_
      refine r_iload (pc := 74) dX6_run_74 rfl ?_
      refine r_sipush (pc := 76) (n := 1000) dX6_run_76 (by decide) ?_
      refine r_idiv (pc := 79) dX6_run_79 (by omega) (by omega) (by omega) ?_
      refine c_X6_41 (pc := 80) rfl dX6_run_80 (by first | assumption | rfl) (by omega) (Nat.le_of_ble_eq_true rfl) ?_
      obtain ⟨q, hq⟩ : ∃ q : Nat, q = (x.2 / 1000).toNat := ⟨_, rfl⟩
      have hq4 : q < 4 := by omega
      have sqq := sq q hq4
      refine m_X8_curveAt (q := q) (d - 1) (by omega) (by assumption) rfl hq4 (by rw [Int.tdiv_eq_ediv_of_nonneg (by omega)]; omega) ?_
      refine r_astore8 (pc := 83) dX6_run_83 rfl ?_
      refine r_iconst (pc := 85) (n := 0) dX6_run_85 ?_
      refine r_iload_n (pc := 86) dX6_run_86 rfl ?_
      refine r_iload (pc := 87) dX6_run_87 rfl ?_
      refine r_sipush (pc := 89) (n := 1000) dX6_run_89 (by decide) ?_
      refine r_irem (pc := 92) dX6_run_92 (by omega) (by omega) (by omega) ?_
      refine r_isub (pc := 93) dX6_run_93 ?_
      have tm := Int.tmod_eq_emod_of_nonneg (b := 1000) (show 0 ≤ x.2 by omega)
      have tm0 := Int.emod_nonneg x.2 (show (1000 : Int) ≠ 0 by omega)
      have tm1 := Int.emod_lt_of_pos x.2 (show (0 : Int) < 1000 by omega)
      refine c_X6_45 (pc := 94) rfl dX6_run_94 (by omega) (Nat.le_of_ble_eq_true rfl) ?_
      refine m_J9_max_7cf53 (d - 1) (by omega) (by assumption) (by omega) (by omega) (fun r94 e94 b94 => ?_)
      refine r_istore9 (pc := 97) dX6_run_97 rfl ?_
      refine r_iinc4 (pc := 99) dX6_run_99 rfl ?_
      refine r_aload_n (pc := 102) dX6_run_102 rfl ?_
      refine h_X6_9 (pc := 103) rfl dX6_run_103 ?_
      refine r_iload (pc := 106) dX6_run_106 rfl ?_
      refine r_aload (pc := 108) dX6_run_108 rfl ?_
      refine r_ifnonnull_s (pc := 110) (tgt := 117) dX6_run_110 rfl ?_
      refine r_aload (pc := 117) dX6_run_117 rfl ?_
      refine r_iload (pc := 119) dX6_run_119 rfl ?_
      refine c_X6_51 (pc := 121) rfl dX6_run_121 (by first | assumption | rfl) (by omega) (Nat.le_of_ble_eq_true rfl) ?_
      have C1 : CEQ (cx w (2 + 8 + 6 * q)) (cx w1 (2 + 8 + 6 * q)) := cx_kp (fun p a b => hf1 p (by omega))
      have I1 := (hI q hq4).eq C1
      refine m_X0_partsAt (d - 1) (by omega) (by assumption) (sq q hq4) I1 (by omega) (fun r121 e121 b121 => ?_)
      have E121 : r121 = V0 (x.2 / 1000) (x.2 % 1000) := by
        rw [e121, ← valS_cg (hI q hq4) C1.v, hV, e94, Int.tmod_eq_emod_of_nonneg (show 0 ≤ x.2 by omega), hq]
      refine c_X6_37 (pc := 124) rfl dX6_run_124 (by omega) (Nat.le_of_ble_eq_true rfl) ?_
      refine m_X11_put (d - 1) (by omega) (by assumption) (n := 120) (show sh 370 = 1000 + 120 from rfl) (by omega) (by omega) (by omega) (fun w124 e124 hw124 => ?_)
      rw [pA_in (by omega) (by omega)] at e124
      refine r_goto (pc := 127) (tgt := 202) dX6_run_127 rfl ?_
      exact cut202 n0 i ih hm hil (V0 (x.2 / 1000) (x.2 % 1000) :: st) w124 _ _ _ _ _ (by rw [List.length_cons]; omega) (by rw [List.length_cons]; omega) (ex_1 (by omega) hex) (by rw [e124, show t + 1 = (st.length : Int) by omega, E121]; exact hsk.push) (fun p hp => by rw [e124, up_ne hp]; exact hf1 p hp) (by assumption)
    refine r_iinc4 (pc := 47) dX6_run_47 rfl ?_
    refine r_aload_n (pc := 50) dX6_run_50 rfl ?_
    refine h_X6_9 (pc := 51) rfl dX6_run_51 ?_
    refine r_iload (pc := 54) dX6_run_54 rfl ?_
    refine r_bipush (pc := 56) (n := 64) dX6_run_56 (by decide) ?_
    refine r_iload (pc := 58) dX6_run_58 rfl ?_
    refine r_imul (pc := 60) dX6_run_60 ?_
    refine c_X6_37 (pc := 61) rfl dX6_run_61 (by omega) (Nat.le_of_ble_eq_true rfl) ?_
    refine m_X11_put (d - 1) (by omega) (by assumption) (n := 120) (show sh 370 = 1000 + 120 from rfl) (by omega) (by omega) (by omega) (fun w61 e61 hw61 => ?_)
    rw [pA_in (by omega) (by omega)] at e61
    refine r_goto (pc := 64) (tgt := 202) dX6_run_64 rfl ?_
    exact cut202 n0 i ih hm hil (64 * x.2 :: st) w61 _ _ _ _ _ (by rw [List.length_cons]; omega) (by rw [List.length_cons]; omega) (ex_0 (by omega) hex) (by rw [e61, show t + 1 = (st.length : Int) by omega]; exact hsk.push) (fun p hp => by rw [e61, up_ne hp]; exact hf1 p hp) (by assumption)
  refine r_aload_n (pc := 0) dX6_run_0 rfl ?_
  refine g_X6_15 (pc := 1) rfl dX6_run_1 (by first | assumption | rfl) ?_
  rw [show (2 : Nat) + 4 = 6 from rfl]
  refine r_astore3 (pc := 4) dX6_run_4 rfl ?_
  refine r_iconst (pc := 5) (n := (-1)) dX6_run_5 ?_
  refine r_istore4 (pc := 6) dX6_run_6 rfl ?_
  refine r_iconst (pc := 8) (n := 0) dX6_run_8 ?_
  refine r_istore5 (pc := 9) dX6_run_9 rfl ?_
  exact loop11 _ 0 rfl (by omega) [] _ _ _ _ _ _ rfl (by exact Nat.zero_le _) (by rw [List.drop_zero, hR0]; exact hG.1 V0 []) trivial (fun _ _ => rfl) (by assumption)
set_option maxRecDepth 8000 in
theorem m_X4_read {Q : Option AV → Wd → Prop} {w : Wd} (d : Nat) (hd : 43 ≤ d) (hw : WR w) (hT0 : 0 ≤ w 356 0 ∧ w 356 0 ≤ 120) (hQ : ∀ r w2, FRR w w2 → RDF w2 (w 357) (w 356 0) r → WR w2 → Q (some (vI r)) w2) : M mX4_read (Rm d) [vR (some 358), vR (some 356)] (fl w) (lQ Q) := by
  obtain ⟨T, hTT⟩ : ∃ T, T = w 357 := ⟨_, rfl⟩
  obtain ⟨len, hlen⟩ : ∃ l, l = w 356 0 := ⟨_, rfl⟩
  rw [← hTT, ← hlen] at hQ
  refine f_mofv (L0 := [some (vR (some 358)), some (vR (some 356))]) rfl (Nat.le_of_ble_eq_true rfl) rfl ?_
  refine r_aload_n (pc := 0) dX4_read_0 rfl ?_
  refine c_X4_18 (pc := 1) rfl dX4_read_1 (by first | assumption | rfl) (by omega) (Nat.le_of_ble_eq_true rfl) ?_
  refine m_X9_rewind (d - 1) (by omega) (by assumption)  (fun w1 e1 hw1 => ?_)
  have hS0 : TS w1 T len (.inr 0) := by
    rw [e1, hTT, hlen]
    exact ⟨rfl, rfl, hT0.2, Int.le_refl 0, hT0.1, rfl, rfl⟩
  subst e1
  refine r_aload_n (pc := 4) dX4_read_4 rfl ?_
  refine h_X4_12 (pc := 5) rfl dX4_read_5 ?_
  refine r_iconst (pc := 8) (n := 0) dX4_read_8 ?_
  refine ph_X4_23 (pc := 9) rfl dX4_read_9 (by assumption) (by omega) (fun hw9 => ?_)
  refine r_aload_n (pc := 12) dX4_read_12 rfl ?_
  refine r_aload_n (pc := 13) dX4_read_13 rfl ?_
  refine r_iconst (pc := 14) (n := 0) dX4_read_14 ?_
  refine c_X4_27 (pc := 15) rfl dX4_read_15 (by first | assumption | rfl) (by omega) (Nat.le_of_ble_eq_true rfl) ?_
  refine SUM_8 _ _ (d - 1) T len 120 (.inr 0) [] (by omega) (by assumption) (hS0.kp (up_ne (by omega)) (up_ne (by omega))) ⟨⟨up_hit, fun i x hx => by simp at hx⟩, Int.le_refl 0⟩ (by omega) (by decide) (fun w15 p15 hw15 => ?_)
  obtain ⟨f15, t15, c15⟩ := p15
  refine r_aload_n (pc := 18) dX4_read_18 rfl ?_
  refine c_X4_31 (pc := 19) rfl dX4_read_19 (by first | assumption | rfl) (by omega) (Nat.le_of_ble_eq_true rfl) ?_
  refine a_verdict (d - 1) (by omega) (by assumption) t15 (fun r19 w19 e19 f19 hw19 => ?_)
  exact f_iret (pc := 22) dX4_read_22 rfl (by assumption) (hQ _ _ (((FRT_1.tr FRT_2).r.tr FRR_0).tr f15 |>.trT f19) (rdf_end (T := T) rfl (GP_sum (GP_fac 8) (by omega)) (c15.kp f19) t15 e19) (by assumption))
