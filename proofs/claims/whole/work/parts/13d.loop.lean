/-! the law's loop -/
theorem i32_r (x : Int32) : R32 x.toInt := ⟨Int32.le_toInt x, Int32.toInt_lt x⟩
theorem andI_r (x y : Int) : R32 (andI x y) := i32_r _
set_option maxRecDepth 8000 in
theorem law_loop {cu su : Nat} (hcs : cu ≤ 600000 ∧ su ≤ 7302250) {len : Int} (hl : 0 ≤ len ∧ len ≤ 3072) : ∀ n0 : Nat, ∀ (w : Wd) (G : GS) (i : Int) (o4 o5 o6 o7 : Option AV), (len - i).toNat = n0 → 0 ≤ i → i ≤ len + 6 → GOK G → CLG G w → MOG G w → WR w → w 999 0 = len → V mL_law room_1 cu su 18 [some (vR (some 0)), some (vR (some 1)), some (vR (some 385)), some (vI i), o4, o5, o6, o7] [] (fl w) (fun r _ => r = some (vI 1)) := by
  refine ind_lt ?_
  intro n0 ih w G i o4 o5 o6 o7 hm i0 i9 hG hC hM hw hlen
  refine r_iload_n (pc := 18) dL_law_18 rfl ?_
  refine r_aload_n (pc := 19) dL_law_19 rfl ?_
  refine f_slen (pc := 20) dL_law_20 (by omega) ?_
  refine r_bipush (pc := 21) (n := 6) dL_law_21 (by decide) ?_
  refine r_isub (pc := 23) dL_law_23 ?_
  refine r_icmpgt (pc := 24) (tgt := 1429) dL_law_24 rfl (by omega) (by omega) (fun h24 => ?_) (fun h24 => ?_)
  · refine r_iconst (pc := 1429) (n := 1) dL_law_1429 ?_
    exact r_zret (pc := 1430) dL_law_1430 rfl (Or.inr rfl) hcs.1 hcs.2 rfl
  have hi : 0 ≤ i ∧ i + 6 ≤ w 999 0 ∧ w 999 0 ≤ 3072 := by omega
  have NEXT : ∀ (w2 : Wd) (G2 : GS) (p4 p5 p6 p7 : Option AV), GOK G2 → CLG G2 w2 → MOG G2 w2 → WR w2 → w2 0 = w 0 → w2 999 = w 999 → V mL_law room_1 cu su 1423 [some (vR (some 0)), some (vR (some 1)), some (vR (some 385)), some (vI i), p4, p5, p6, p7] [] (fl w2) (fun r _ => r = some (vI 1)) := by
    intro w2 G2 p4 p5 p6 p7 g1 g2 g3 g4 g5 g6
    refine r_iinc3 (pc := 1423) dL_law_1423 rfl ?_
    refine r_goto (pc := 1426) (tgt := 18) dL_law_1426 rfl ?_
    exact ih _ (by omega) w2 G2 (i + 6) _ _ _ _ rfl (by omega) (by omega) g1 g2 g3 g4 (by rw [g6]; exact hlen)
  refine r_aload_n (pc := 27) dL_law_27 rfl ?_
  refine r_iload_n (pc := 28) dL_law_28 rfl ?_
  refine f_sld (pc := 29) dL_law_29 (by assumption) (by omega) (by omega) (by omega) (fun h29 => ?_)
  refine r_bipush (pc := 30) (n := 63) dL_law_30 (by decide) ?_
  refine r_iand (pc := 32) dL_law_32 ?_
  have vr := andI_r (w 0 i) 63
  generalize andI (w 0 i) 63 = v at vr
  rcases (show (v < 0 ∨ 33 < v) ∨ v = 0 ∨ v = 1 ∨ v = 2 ∨ v = 3 ∨ v = 4 ∨ v = 5 ∨ v = 6 ∨ v = 7 ∨ v = 8 ∨ v = 9 ∨ v = 10 ∨ v = 11 ∨ v = 12 ∨ v = 13 ∨ v = 14 ∨ v = 15 ∨ v = 16 ∨ v = 17 ∨ v = 18 ∨ v = 19 ∨ v = 20 ∨ v = 21 ∨ v = 22 ∨ v = 23 ∨ v = 24 ∨ v = 25 ∨ v = 26 ∨ v = 27 ∨ v = 28 ∨ v = 29 ∨ v = 30 ∨ v = 31 ∨ v = 32 ∨ v = 33 by omega) with h | h | h | h | h | h | h | h | h | h | h | h | h | h | h | h | h | h | h | h | h | h | h | h | h | h | h | h | h | h | h | h | h | h | h
  · refine r_tableOut (pc := 33) (tgt := 1423) dL_law_33 (by omega) (by omega) rfl ?_
    exact NEXT w G _ _ _ _ hG hC hM hw rfl rfl
  · subst h
    refine r_tableIn (pc := 33) (tgt := 184) (x := 0) (off := 151) dL_law_33 (by omega) (by omega) (by omega) rfl rfl ?_
    exact law_setKey hcs hw hG hC hM hi NEXT
  · subst h
    refine r_tableIn (pc := 33) (tgt := 227) (x := 1) (off := 194) dL_law_33 (by omega) (by omega) (by omega) rfl rfl ?_
    exact law_removeKey hcs hw hG hC hM hi NEXT
  · subst h
    refine r_tableIn (pc := 33) (tgt := 260) (x := 2) (off := 227) dL_law_33 (by omega) (by omega) (by omega) rfl rfl ?_
    exact law_moveKey hcs hw hG hC hM hi NEXT
  · subst h
    refine r_tableIn (pc := 33) (tgt := 303) (x := 3) (off := 270) dL_law_33 (by omega) (by omega) (by omega) rfl rfl ?_
    exact law_setMode hcs hw hG hC hM hi NEXT
  · subst h
    refine r_tableIn (pc := 33) (tgt := 346) (x := 4) (off := 313) dL_law_33 (by omega) (by omega) (by omega) rfl rfl ?_
    exact law_setSlopes hcs hw hG hC hM hi NEXT
  · subst h
    refine r_tableIn (pc := 33) (tgt := 399) (x := 5) (off := 366) dL_law_33 (by omega) (by omega) (by omega) rfl rfl ?_
    exact law_split hcs hw hG hC hM hi NEXT
  · subst h
    refine r_tableIn (pc := 33) (tgt := 432) (x := 6) (off := 399) dL_law_33 (by omega) (by omega) (by omega) rfl rfl ?_
    exact law_clear hcs hw hG hC hM hi NEXT
  · subst h
    refine r_tableIn (pc := 33) (tgt := 455) (x := 7) (off := 422) dL_law_33 (by omega) (by omega) (by omega) rfl rfl ?_
    exact law_setExtrapolation hcs hw hG hC hM hi NEXT
  · subst h
    refine r_tableIn (pc := 33) (tgt := 498) (x := 8) (off := 465) dL_law_33 (by omega) (by omega) (by omega) rfl rfl ?_
    exact law_keys hcs hw hG hC hM hi NEXT
  · subst h
    refine r_tableIn (pc := 33) (tgt := 521) (x := 9) (off := 488) dL_law_33 (by omega) (by omega) (by omega) rfl rfl ?_
    exact law_frameOf hcs hw hG hC hM hi NEXT
  · subst h
    refine r_tableIn (pc := 33) (tgt := 554) (x := 10) (off := 521) dL_law_33 (by omega) (by omega) (by omega) rfl rfl ?_
    exact law_valueOf hcs hw hG hC hM hi NEXT
  · subst h
    refine r_tableIn (pc := 33) (tgt := 587) (x := 11) (off := 554) dL_law_33 (by omega) (by omega) (by omega) rfl rfl ?_
    exact law_modeOf hcs hw hG hC hM hi NEXT
  · subst h
    refine r_tableIn (pc := 33) (tgt := 620) (x := 12) (off := 587) dL_law_33 (by omega) (by omega) (by omega) rfl rfl ?_
    exact law_slope hcs hw hG hC hM hi NEXT
  · subst h
    refine r_tableIn (pc := 33) (tgt := 679) (x := 13) (off := 646) dL_law_33 (by omega) (by omega) (by omega) rfl rfl ?_
    exact law_value hcs hw hG hC hM hi NEXT
  · subst h
    refine r_tableIn (pc := 33) (tgt := 712) (x := 14) (off := 679) dL_law_33 (by omega) (by omega) (by omega) rfl rfl ?_
    exact law_units hcs hw hG hC hM hi NEXT
  · subst h
    refine r_tableIn (pc := 33) (tgt := 775) (x := 15) (off := 742) dL_law_33 (by omega) (by omega) (by omega) rfl rfl ?_
    exact law_mean hcs hw hG hC hM hi NEXT
  · subst h
    refine r_tableIn (pc := 33) (tgt := 846) (x := 16) (off := 813) dL_law_33 (by omega) (by omega) (by omega) rfl rfl ?_
    exact law_extreme hcs hw hG hC hM hi NEXT
  · subst h
    refine r_tableIn (pc := 33) (tgt := 915) (x := 17) (off := 882) dL_law_33 (by omega) (by omega) (by omega) rfl rfl ?_
    exact law_crossings hcs hw hG hC hM hi NEXT
  · subst h
    refine r_tableIn (pc := 33) (tgt := 968) (x := 18) (off := 935) dL_law_33 (by omega) (by omega) (by omega) rfl rfl ?_
    exact law_addPoint hcs hw hG hC hM hi NEXT
  · subst h
    refine r_tableIn (pc := 33) (tgt := 1001) (x := 19) (off := 968) dL_law_33 (by omega) (by omega) (by omega) rfl rfl ?_
    exact law_clearMap hcs hw hG hC hM hi NEXT
  · subst h
    refine r_tableIn (pc := 33) (tgt := 1014) (x := 20) (off := 981) dL_law_33 (by omega) (by omega) (by omega) rfl rfl ?_
    exact law_mapped hcs hw hG hC hM hi NEXT
  · subst h
    refine r_tableIn (pc := 33) (tgt := 1037) (x := 21) (off := 1004) dL_law_33 (by omega) (by omega) (by omega) rfl rfl ?_
    exact law_retime hcs hw hG hC hM hi NEXT
  · subst h
    refine r_tableIn (pc := 33) (tgt := 1060) (x := 22) (off := 1027) dL_law_33 (by omega) (by omega) (by omega) rfl rfl ?_
    exact law_bake hcs hw hG hC hM hi NEXT
  · subst h
    refine r_tableIn (pc := 33) (tgt := 1113) (x := 23) (off := 1080) dL_law_33 (by omega) (by omega) (by omega) rfl rfl ?_
    exact law_bakeFormula hcs hw hG hC hM hi NEXT
  · subst h
    refine r_tableIn (pc := 33) (tgt := 1166) (x := 24) (off := 1133) dL_law_33 (by omega) (by omega) (by omega) rfl rfl ?_
    exact law_polyline hcs hw hG hC hM hi NEXT
  · subst h
    refine r_tableIn (pc := 33) (tgt := 1229) (x := 25) (off := 1196) dL_law_33 (by omega) (by omega) (by omega) rfl rfl ?_
    exact law_decimate hcs hw hG hC hM hi NEXT
  · subst h
    refine r_tableIn (pc := 33) (tgt := 1262) (x := 26) (off := 1229) dL_law_33 (by omega) (by omega) (by omega) rfl rfl ?_
    exact law_append hcs hw hG hC hM hi NEXT
  · subst h
    refine r_tableIn (pc := 33) (tgt := 1285) (x := 27) (off := 1252) dL_law_33 (by omega) (by omega) (by omega) rfl rfl ?_
    exact law_clearText hcs hw hG hC hM hi NEXT
  · subst h
    refine r_tableIn (pc := 33) (tgt := 1298) (x := 28) (off := 1265) dL_law_33 (by omega) (by omega) (by omega) rfl rfl ?_
    exact law_faultPosition hcs hw hG hC hM hi NEXT
  · subst h
    refine r_tableIn (pc := 33) (tgt := 1337) (x := 29) (off := 1304) dL_law_33 (by omega) (by omega) (by omega) rfl rfl ?_
    exact law_readCurve hcs hw hG hC hM hi NEXT
  · subst h
    refine r_tableIn (pc := 33) (tgt := 1360) (x := 30) (off := 1327) dL_law_33 (by omega) (by omega) (by omega) rfl rfl ?_
    exact law_readFormula hcs hw hG hC hM hi NEXT
  · subst h
    refine r_tableIn (pc := 33) (tgt := 1373) (x := 31) (off := 1340) dL_law_33 (by omega) (by omega) (by omega) rfl rfl ?_
    exact law_mix hcs hw hG hC hM hi NEXT
  · subst h
    refine r_tableIn (pc := 33) (tgt := 1396) (x := 32) (off := 1363) dL_law_33 (by omega) (by omega) (by omega) rfl rfl ?_
    exact law_undo hcs hw hG hC hM hi NEXT
  · subst h
    refine r_tableIn (pc := 33) (tgt := 1409) (x := 33) (off := 1376) dL_law_33 (by omega) (by omega) (by omega) rfl rfl ?_
    exact law_checksum hcs hw hG hC hM hi NEXT
