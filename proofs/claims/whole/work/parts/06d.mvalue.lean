set_option maxRecDepth 8000 in
theorem m_X12_valueAt {Q : Option AV → Wd → Prop} {w : Wd} (d : Nat) {q f : Int} (hd : 7 ≤ d) (hw : WR w) (hq : 0 ≤ q ∧ q ≤ 3) (hI : CI (mx w q)) (h1 : 1 ≤ mx w q 0 0) (hf : -10000 ≤ f ∧ f ≤ 10000) (hQ : ∀ r, r = valS (mx w q) f → R32 r → Q (some (vI r)) w) : M mX12_valueAt (Rm d) [vR (some 385), vI q, vI f] (fl w) (lQ Q) := by
  obtain ⟨hn, P, O, b1, b2, b3, b4⟩ := id hI
  have P0 := P 0 (by omega) (by omega)
  have Pl := P (mx w q 0 0 - 1) (by omega) (by omega)
  have NB := nea_bd (X := mx w q) f h1
  have Pn := P _ NB.1 NB.2
  have K4 := knd_bd hI f
  refine f_mofv (L0 := [some (vR (some 385)), some (vI q), some (vI f), none, none, none, none, none, none, none, none]) rfl (Nat.le_of_ble_eq_true rfl) rfl ?_
  have cut117 : ¬ (mx w q 1 0 ≤ f ∧ f ≤ mx w q 1 (mx w q 0 0 - 1)) → ∀ t : Int, (mx w q 1 (mx w q 0 0 - 1) - mx w q 1 0 ≠ 0 → t = (f - mx w q 1 0) / (mx w q 1 (mx w q 0 0 - 1) - mx w q 1 0)) → V mX12_valueAt (Rm d) 0 0 117 [some (vR (some 385)), some (vI q), some (vI f), some (vI (mx w q 0 0)), some (vI (mx w q 1 0)), some (vI (mx w q 1 (mx w q 0 0 - 1))), some (vI (nea (mx w q) f)), some (vI (knd (mx w q) f)), some (vI (mx w q 1 (mx w q 0 0 - 1) - mx w q 1 0)), none, none] [vI t] (fl w) (lQ Q) := by
    intro hout t ht
    have hL : knd (mx w q) f ≠ 0 → 1 ≤ mx w q 1 (mx w q 0 0 - 1) - mx w q 1 0 := by
      intro z
      have z1 := knd_out hI h1 hout
      have z2 : mx w q 0 0 ≠ 1 := fun e => z (by rw [z1, if_pos e])
      have z3 := ends_eq hI h1
      have z4 := frs_le hI (Int.le_refl 0) (show 0 ≤ mx w q 0 0 - 1 by omega) (by omega)
      omega
    refine r_istore9 (pc := 117) dX12_valueAt_117 rfl ?_
    refine r_iload (pc := 119) dX12_valueAt_119 rfl ?_
    rcases (show knd (mx w q) f = 0 ∨ knd (mx w q) f = 1 ∨ knd (mx w q) f = 2 ∨ knd (mx w q) f = 3 ∨ knd (mx w q) f = 4 by omega) with m | m | m | m | m <;> rw [m]
    · skip
      refine r_tableIn (pc := 121) (tgt := 152) (x := 0) (off := 31) dX12_valueAt_121 (by omega) (by omega) (by omega) rfl rfl ?_
      refine r_bipush (pc := 152) (n := 64) dX12_valueAt_152 (by decide) ?_
      refine r_aload_n (pc := 154) dX12_valueAt_154 rfl ?_
      refine h_X12_7 (pc := 155) rfl dX12_valueAt_155 ?_
      refine r_iload_n (pc := 158) dX12_valueAt_158 rfl ?_
      refine r_bipush (pc := 159) (n := 28) dX12_valueAt_159 (by decide) ?_
      refine r_iload (pc := 161) dX12_valueAt_161 rfl ?_
      refine c_X12_70 (pc := 163) rfl dX12_valueAt_163 (by omega) (Nat.le_of_ble_eq_true rfl) ?_
      refine m_X12_at (d - 1) (by omega) (by assumption)  (fun r163 e163 => ?_)
      refine f_iald (pc := 166) dX12_valueAt_166 (n := 660) (by assumption) (by first | assumption | rfl) (by omega) (by omega) (by omega) (fun h166 => ?_)
      rw [mxR2 (w := w) (q := q) (j := nea (mx w q) f) (i := r163) (by omega)] at h166 ⊢
      refine r_imul (pc := 167) dX12_valueAt_167 ?_
      exact f_iret (pc := 168) dX12_valueAt_168 rfl (by assumption) (hQ _ (by rw [valS_0 hI h1 hout m, w32_id (by omega)]) (by omega))
    · skip
      refine r_tableIn (pc := 121) (tgt := 169) (x := 1) (off := 48) dX12_valueAt_121 (by omega) (by omega) (by omega) rfl rfl ?_
      refine r_bipush (pc := 169) (n := 64) dX12_valueAt_169 (by decide) ?_
      refine r_aload_n (pc := 171) dX12_valueAt_171 rfl ?_
      refine h_X12_7 (pc := 172) rfl dX12_valueAt_172 ?_
      refine r_iload_n (pc := 175) dX12_valueAt_175 rfl ?_
      refine r_bipush (pc := 176) (n := 28) dX12_valueAt_176 (by decide) ?_
      refine r_iload (pc := 178) dX12_valueAt_178 rfl ?_
      refine c_X12_70 (pc := 180) rfl dX12_valueAt_180 (by omega) (Nat.le_of_ble_eq_true rfl) ?_
      refine m_X12_at (d - 1) (by omega) (by assumption)  (fun r180 e180 => ?_)
      refine f_iald (pc := 183) dX12_valueAt_183 (n := 660) (by assumption) (by first | assumption | rfl) (by omega) (by omega) (by omega) (fun h183 => ?_)
      rw [mxR2 (w := w) (q := q) (j := nea (mx w q) f) (i := r180) (by omega)] at h183 ⊢
      refine r_imul (pc := 184) dX12_valueAt_184 ?_
      refine r_aload_n (pc := 185) dX12_valueAt_185 rfl ?_
      refine r_iload_n (pc := 186) dX12_valueAt_186 rfl ?_
      refine r_iload (pc := 187) dX12_valueAt_187 rfl ?_
      refine r_iload_n (pc := 189) dX12_valueAt_189 rfl ?_
      refine r_iload (pc := 190) dX12_valueAt_190 rfl ?_
      refine r_icmple (pc := 192) (tgt := 199) dX12_valueAt_192 rfl (by omega) (by omega) (fun h192 => ?_) (fun h192 => ?_)
      · refine r_iconst (pc := 199) (n := 0) dX12_valueAt_199 ?_
        refine c_X12_122 (pc := 200) rfl dX12_valueAt_200 (by first | assumption | rfl) (by omega) (Nat.le_of_ble_eq_true rfl) ?_
        refine m_X12_slopeOf (d - 1) (by omega) (by assumption) (by assumption) (by assumption) ⟨by omega, by omega⟩ (by omega) (fun r200 e200 b200 => ?_)
        refine r_iload_n (pc := 203) dX12_valueAt_203 rfl ?_
        refine r_aload_n (pc := 204) dX12_valueAt_204 rfl ?_
        refine r_iload_n (pc := 205) dX12_valueAt_205 rfl ?_
        refine r_iload (pc := 206) dX12_valueAt_206 rfl ?_
        refine c_X12_82 (pc := 208) rfl dX12_valueAt_208 (by first | assumption | rfl) (by omega) (Nat.le_of_ble_eq_true rfl) ?_
        refine m_X12_frame (d - 1) (by omega) (by assumption) (by omega) (by omega) (fun r208 e208 b208 => ?_)
        refine r_isub (pc := 211) dX12_valueAt_211 ?_
        refine r_imul (pc := 212) dX12_valueAt_212 ?_
        refine r_iadd (pc := 213) dX12_valueAt_213 ?_
        refine rep_I (zi_w32 _) ?_
        exact f_iret (pc := 214) dX12_valueAt_214 rfl (by assumption) (hQ _ (by rw [valS_1 hI h1 hout m, e200, e208]; first | rw [if_pos (show f > mx w q 1 (mx w q 0 0 - 1) by omega)] | rw [if_neg (show ¬ f > mx w q 1 (mx w q 0 0 - 1) by omega)]) (w32_r _))
      refine r_iconst (pc := 195) (n := 1) dX12_valueAt_195 ?_
      refine r_goto (pc := 196) (tgt := 200) dX12_valueAt_196 rfl ?_
      refine c_X12_122 (pc := 200) rfl dX12_valueAt_200 (by first | assumption | rfl) (by omega) (Nat.le_of_ble_eq_true rfl) ?_
      refine m_X12_slopeOf (d - 1) (by omega) (by assumption) (by assumption) (by assumption) ⟨by omega, by omega⟩ (by omega) (fun r200 e200 b200 => ?_)
      refine r_iload_n (pc := 203) dX12_valueAt_203 rfl ?_
      refine r_aload_n (pc := 204) dX12_valueAt_204 rfl ?_
      refine r_iload_n (pc := 205) dX12_valueAt_205 rfl ?_
      refine r_iload (pc := 206) dX12_valueAt_206 rfl ?_
      refine c_X12_82 (pc := 208) rfl dX12_valueAt_208 (by first | assumption | rfl) (by omega) (Nat.le_of_ble_eq_true rfl) ?_
      refine m_X12_frame (d - 1) (by omega) (by assumption) (by omega) (by omega) (fun r208 e208 b208 => ?_)
      refine r_isub (pc := 211) dX12_valueAt_211 ?_
      refine r_imul (pc := 212) dX12_valueAt_212 ?_
      refine r_iadd (pc := 213) dX12_valueAt_213 ?_
      refine rep_I (zi_w32 _) ?_
      exact f_iret (pc := 214) dX12_valueAt_214 rfl (by assumption) (hQ _ (by rw [valS_1 hI h1 hout m, e200, e208]; first | rw [if_pos (show f > mx w q 1 (mx w q 0 0 - 1) by omega)] | rw [if_neg (show ¬ f > mx w q 1 (mx w q 0 0 - 1) by omega)]) (w32_r _))
    · skip
      refine r_tableIn (pc := 121) (tgt := 215) (x := 2) (off := 94) dX12_valueAt_121 (by omega) (by omega) (by omega) rfl rfl ?_
      refine r_aload_n (pc := 215) dX12_valueAt_215 rfl ?_
      refine r_iload_n (pc := 216) dX12_valueAt_216 rfl ?_
      refine r_iload_n (pc := 217) dX12_valueAt_217 rfl ?_
      refine r_iload (pc := 218) dX12_valueAt_218 rfl ?_
      refine r_iload (pc := 220) dX12_valueAt_220 rfl ?_
      refine r_imul (pc := 222) dX12_valueAt_222 ?_
      refine r_isub (pc := 223) dX12_valueAt_223 ?_
      refine c_X12_128 (pc := 224) rfl dX12_valueAt_224 (by first | assumption | rfl) (by omega) (Nat.le_of_ble_eq_true rfl) ?_
      have IB : mx w q 1 0 ≤ inn (mx w q) f ∧ inn (mx w q) f ≤ mx w q 1 (mx w q 0 0 - 1) := foldS_bd (by omega)
      have E : f - t * (mx w q 1 (mx w q 0 0 - 1) - mx w q 1 0) = inn (mx w q) f := by
        rw [inn_2 (by omega) (hL (by omega)), ht (by have := hL (by omega); omega), Int.mul_comm]
        have := mod_sub (x := f - mx w q 1 0) (L := mx w q 1 (mx w q 0 0 - 1) - mx w q 1 0)
        omega
      rw [E]
      refine m_X12_inside (d - 1) (by omega) (by assumption) (by assumption) (by assumption) (by omega) ⟨by omega, by omega⟩ (fun r224 e224 b224 => ?_)
      exact f_iret (pc := 227) dX12_valueAt_227 rfl (by assumption) (hQ _ (by rw [valS_23 h1 (Or.inl m), ← e224, w32_id b224]) b224)
    · skip
      refine r_tableIn (pc := 121) (tgt := 228) (x := 3) (off := 107) dX12_valueAt_121 (by omega) (by omega) (by omega) rfl rfl ?_
      refine r_iload_n (pc := 228) dX12_valueAt_228 rfl ?_
      refine r_iload (pc := 229) dX12_valueAt_229 rfl ?_
      refine r_isub (pc := 231) dX12_valueAt_231 ?_
      refine r_iconst (pc := 232) (n := 2) dX12_valueAt_232 ?_
      refine r_iload (pc := 233) dX12_valueAt_233 rfl ?_
      refine r_imul (pc := 235) dX12_valueAt_235 ?_
      refine r_iload_n (pc := 236) dX12_valueAt_236 rfl ?_
      refine r_iload (pc := 237) dX12_valueAt_237 rfl ?_
      refine r_isub (pc := 239) dX12_valueAt_239 ?_
      refine r_i2l (pc := 240) dX12_valueAt_240 (by first | assumption | omega) ?_
      refine r_ldc2 (pc := 241) (n := 2) dX12_valueAt_241 kw_X12_60 rfl ?_
      refine r_iload (pc := 244) dX12_valueAt_244 rfl ?_
      refine r_i2l (pc := 246) dX12_valueAt_246 (by first | assumption | omega) ?_
      refine r_lmul (pc := 247) dX12_valueAt_247 ?_
      refine c_X12_62 (pc := 248) rfl dX12_valueAt_248 (by omega) (Nat.le_of_ble_eq_true rfl) ?_
      have L1 := hL (by omega)
      refine m_X12_down (d - 1) (by omega) (by assumption) (by omega) (by omega) (by omega) (fun r248 e248 => ?_)
      refine r_l2i (pc := 251) dX12_valueAt_251 ?_
      refine r_imul (pc := 252) dX12_valueAt_252 ?_
      refine r_isub (pc := 253) dX12_valueAt_253 ?_
      obtain ⟨ov, hov⟩ : ∃ z, z = (f - mx w q 1 0) % (2 * (mx w q 1 (mx w q 0 0 - 1) - mx w q 1 0)) := ⟨_, rfl⟩
      have E0 : f - mx w q 1 0 - 2 * (mx w q 1 (mx w q 0 0 - 1) - mx w q 1 0) * r248 = ov := by
        rw [hov, e248, show mx w q 1 (mx w q 0 0 - 1) - mx w q 1 0 = mx w q 1 (mx w q 0 0 - 1) - mx w q 1 0 from rfl]
        exact mod_sub
      rw [E0]
      have o1 := Int.emod_nonneg (f - mx w q 1 0) (show 2 * (mx w q 1 (mx w q 0 0 - 1) - mx w q 1 0) ≠ 0 by omega)
      have o2 := Int.emod_lt_of_pos (f - mx w q 1 0) (show 0 < 2 * (mx w q 1 (mx w q 0 0 - 1) - mx w q 1 0) by omega)
      rw [← hov] at o1 o2
      refine r_istore10 (pc := 254) dX12_valueAt_254 rfl ?_
      refine r_aload_n (pc := 256) dX12_valueAt_256 rfl ?_
      refine r_iload_n (pc := 257) dX12_valueAt_257 rfl ?_
      refine r_iload (pc := 258) dX12_valueAt_258 rfl ?_
      refine r_iload (pc := 260) dX12_valueAt_260 rfl ?_
      refine r_icmpgt (pc := 262) (tgt := 273) dX12_valueAt_262 rfl (by omega) (by omega) (fun h262 => ?_) (fun h262 => ?_)
      · refine r_iload (pc := 273) dX12_valueAt_273 rfl ?_
        refine r_iconst (pc := 275) (n := 2) dX12_valueAt_275 ?_
        refine r_iload (pc := 276) dX12_valueAt_276 rfl ?_
        refine r_imul (pc := 278) dX12_valueAt_278 ?_
        refine r_iadd (pc := 279) dX12_valueAt_279 ?_
        refine r_iload (pc := 280) dX12_valueAt_280 rfl ?_
        refine r_isub (pc := 282) dX12_valueAt_282 ?_
        refine c_X12_128 (pc := 283) rfl dX12_valueAt_283 (by first | assumption | rfl) (by omega) (Nat.le_of_ble_eq_true rfl) ?_
        have IB : mx w q 1 0 ≤ inn (mx w q) f ∧ inn (mx w q) f ≤ mx w q 1 (mx w q 0 0 - 1) := foldS_bd (by omega)
        have L1 := hL (by omega)
        have E3 := inn_3 (X := mx w q) (f := f) m L1
        first | rw [if_pos (by omega)] at E3 | rw [if_neg (by omega)] at E3
        first | rw [show mx w q 1 0 + ov = inn (mx w q) f by omega] | rw [show mx w q 1 0 + 2 * (mx w q 1 (mx w q 0 0 - 1) - mx w q 1 0) - ov = inn (mx w q) f by omega]
        refine m_X12_inside (d - 1) (by omega) (by assumption) (by assumption) (by assumption) (by omega) ⟨by omega, by omega⟩ (fun r283 e283 b283 => ?_)
        exact f_iret (pc := 286) dX12_valueAt_286 rfl (by assumption) (hQ _ (by rw [valS_23 h1 (Or.inr m), ← e283, w32_id b283]) b283)
      refine r_iload (pc := 265) dX12_valueAt_265 rfl ?_
      refine r_iload (pc := 267) dX12_valueAt_267 rfl ?_
      refine r_iadd (pc := 269) dX12_valueAt_269 ?_
      refine r_goto (pc := 270) (tgt := 283) dX12_valueAt_270 rfl ?_
      refine c_X12_128 (pc := 283) rfl dX12_valueAt_283 (by first | assumption | rfl) (by omega) (Nat.le_of_ble_eq_true rfl) ?_
      have IB : mx w q 1 0 ≤ inn (mx w q) f ∧ inn (mx w q) f ≤ mx w q 1 (mx w q 0 0 - 1) := foldS_bd (by omega)
      have L1 := hL (by omega)
      have E3 := inn_3 (X := mx w q) (f := f) m L1
      first | rw [if_pos (by omega)] at E3 | rw [if_neg (by omega)] at E3
      first | rw [show mx w q 1 0 + ov = inn (mx w q) f by omega] | rw [show mx w q 1 0 + 2 * (mx w q 1 (mx w q 0 0 - 1) - mx w q 1 0) - ov = inn (mx w q) f by omega]
      refine m_X12_inside (d - 1) (by omega) (by assumption) (by assumption) (by assumption) (by omega) ⟨by omega, by omega⟩ (fun r283 e283 b283 => ?_)
      exact f_iret (pc := 286) dX12_valueAt_286 rfl (by assumption) (hQ _ (by rw [valS_23 h1 (Or.inr m), ← e283, w32_id b283]) b283)
    · skip
      refine r_tableOut (pc := 121) (tgt := 287) dX12_valueAt_121 (by omega) (by omega) rfl ?_
      refine r_aload_n (pc := 287) dX12_valueAt_287 rfl ?_
      refine r_iload_n (pc := 288) dX12_valueAt_288 rfl ?_
      refine r_iload_n (pc := 289) dX12_valueAt_289 rfl ?_
      refine r_iload (pc := 290) dX12_valueAt_290 rfl ?_
      refine r_iload (pc := 292) dX12_valueAt_292 rfl ?_
      refine r_imul (pc := 294) dX12_valueAt_294 ?_
      refine r_isub (pc := 295) dX12_valueAt_295 ?_
      refine c_X12_128 (pc := 296) rfl dX12_valueAt_296 (by first | assumption | rfl) (by omega) (Nat.le_of_ble_eq_true rfl) ?_
      have IB : mx w q 1 0 ≤ inn (mx w q) f ∧ inn (mx w q) f ≤ mx w q 1 (mx w q 0 0 - 1) := foldS_bd (by omega)
      have E : f - t * (mx w q 1 (mx w q 0 0 - 1) - mx w q 1 0) = inn (mx w q) f := by
        rw [inn_2 (by omega) (hL (by omega)), ht (by have := hL (by omega); omega), Int.mul_comm]
        have := mod_sub (x := f - mx w q 1 0) (L := mx w q 1 (mx w q 0 0 - 1) - mx w q 1 0)
        omega
      rw [E]
      refine m_X12_inside (d - 1) (by omega) (by assumption) (by assumption) (by assumption) (by omega) ⟨by omega, by omega⟩ (fun r296 e296 b296 => ?_)
      refine r_iload (pc := 299) dX12_valueAt_299 rfl ?_
      refine r_bipush (pc := 301) (n := 64) dX12_valueAt_301 (by decide) ?_
      refine r_imul (pc := 303) dX12_valueAt_303 ?_
      refine r_aload_n (pc := 304) dX12_valueAt_304 rfl ?_
      refine h_X12_7 (pc := 305) rfl dX12_valueAt_305 ?_
      refine r_iload_n (pc := 308) dX12_valueAt_308 rfl ?_
      refine r_bipush (pc := 309) (n := 28) dX12_valueAt_309 (by decide) ?_
      refine r_iload_n (pc := 311) dX12_valueAt_311 rfl ?_
      refine r_iconst (pc := 312) (n := 1) dX12_valueAt_312 ?_
      refine r_isub (pc := 313) dX12_valueAt_313 ?_
      refine c_X12_70 (pc := 314) rfl dX12_valueAt_314 (by omega) (Nat.le_of_ble_eq_true rfl) ?_
      refine m_X12_at (d - 1) (by omega) (by assumption)  (fun r314 e314 => ?_)
      refine f_iald (pc := 317) dX12_valueAt_317 (n := 660) (by assumption) (by first | assumption | rfl) (by omega) (by omega) (by omega) (fun h317 => ?_)
      rw [mxR2 (w := w) (q := q) (j := mx w q 0 0 - 1) (i := r314) (by omega)] at h317 ⊢
      refine r_aload_n (pc := 318) dX12_valueAt_318 rfl ?_
      refine h_X12_7 (pc := 319) rfl dX12_valueAt_319 ?_
      refine r_iload_n (pc := 322) dX12_valueAt_322 rfl ?_
      refine r_bipush (pc := 323) (n := 28) dX12_valueAt_323 (by decide) ?_
      refine r_iconst (pc := 325) (n := 0) dX12_valueAt_325 ?_
      refine c_X12_70 (pc := 326) rfl dX12_valueAt_326 (by omega) (Nat.le_of_ble_eq_true rfl) ?_
      refine m_X12_at (d - 1) (by omega) (by assumption)  (fun r326 e326 => ?_)
      refine f_iald (pc := 329) dX12_valueAt_329 (n := 660) (by assumption) (by first | assumption | rfl) (by omega) (by omega) (by omega) (fun h329 => ?_)
      rw [mxR2 (w := w) (q := q) (j := 0) (i := r326) (by omega)] at h329 ⊢
      refine r_isub (pc := 330) dX12_valueAt_330 ?_
      refine r_imul (pc := 331) dX12_valueAt_331 ?_
      refine r_iadd (pc := 332) dX12_valueAt_332 ?_
      refine rep_I (zi_w32 _) ?_
      exact f_iret (pc := 333) dX12_valueAt_333 rfl (by assumption) (hQ _ (by rw [valS_4 h1 m (hL (by omega)), ← e296, ht (by have := hL (by omega); omega)]) (w32_r _))
  have cut87 : ¬ (mx w q 1 0 ≤ f ∧ f ≤ mx w q 1 (mx w q 0 0 - 1)) → ∀ z : Int, z = knd (mx w q) f → V mX12_valueAt (Rm d) 0 0 87 [some (vR (some 385)), some (vI q), some (vI f), some (vI (mx w q 0 0)), some (vI (mx w q 1 0)), some (vI (mx w q 1 (mx w q 0 0 - 1))), some (vI (nea (mx w q) f)), none, none, none, none] [vI z] (fl w) (lQ Q) := by
    intro hout z hz
    subst hz
    refine r_istore7 (pc := 87) dX12_valueAt_87 rfl ?_
    refine r_iload (pc := 89) dX12_valueAt_89 rfl ?_
    refine r_iload (pc := 91) dX12_valueAt_91 rfl ?_
    refine r_isub (pc := 93) dX12_valueAt_93 ?_
    refine r_istore8 (pc := 94) dX12_valueAt_94 rfl ?_
    refine r_iload (pc := 96) dX12_valueAt_96 rfl ?_
    refine r_ifne (pc := 98) (tgt := 105) dX12_valueAt_98 rfl (by omega) (fun h98 => ?_) (fun h98 => ?_)
    · refine r_iload_n (pc := 105) dX12_valueAt_105 rfl ?_
      refine r_iload (pc := 106) dX12_valueAt_106 rfl ?_
      refine r_isub (pc := 108) dX12_valueAt_108 ?_
      refine r_i2l (pc := 109) dX12_valueAt_109 (by first | assumption | omega) ?_
      refine r_iload (pc := 110) dX12_valueAt_110 rfl ?_
      refine r_i2l (pc := 112) dX12_valueAt_112 (by first | assumption | omega) ?_
      refine c_X12_62 (pc := 113) rfl dX12_valueAt_113 (by omega) (Nat.le_of_ble_eq_true rfl) ?_
      have z4 := frs_le hI (Int.le_refl 0) (show 0 ≤ mx w q 0 0 - 1 by omega) (by omega)
      refine m_X12_down (d - 1) (by omega) (by assumption) (by omega) (by omega) (by omega) (fun r113 e113 => ?_)
      refine r_l2i (pc := 116) dX12_valueAt_116 ?_
      exact cut117 hout _ (fun _ => e113)
    refine r_iconst (pc := 101) (n := 0) dX12_valueAt_101 ?_
    refine r_goto (pc := 102) (tgt := 117) dX12_valueAt_102 rfl ?_
    exact cut117 hout 0 (fun z => absurd h98 z)
  have cut55 : ¬ (mx w q 1 0 ≤ f ∧ f ≤ mx w q 1 (mx w q 0 0 - 1)) → ∀ z : Int, z = nea (mx w q) f → V mX12_valueAt (Rm d) 0 0 55 [some (vR (some 385)), some (vI q), some (vI f), some (vI (mx w q 0 0)), some (vI (mx w q 1 0)), some (vI (mx w q 1 (mx w q 0 0 - 1))), none, none, none, none, none] [vI z] (fl w) (lQ Q) := by
    intro hout z hz
    subst hz
    refine r_istore6 (pc := 55) dX12_valueAt_55 rfl ?_
    refine r_iload_n (pc := 57) dX12_valueAt_57 rfl ?_
    refine r_iconst (pc := 58) (n := 1) dX12_valueAt_58 ?_
    refine r_icmpne (pc := 59) (tgt := 66) dX12_valueAt_59 rfl (by omega) (by omega) (fun h59 => ?_) (fun h59 => ?_)
    · refine r_aload_n (pc := 66) dX12_valueAt_66 rfl ?_
      refine h_X12_7 (pc := 67) rfl dX12_valueAt_67 ?_
      refine r_iload_n (pc := 70) dX12_valueAt_70 rfl ?_
      refine r_iload_n (pc := 71) dX12_valueAt_71 rfl ?_
      refine r_iload (pc := 72) dX12_valueAt_72 rfl ?_
      refine r_icmpge (pc := 74) (tgt := 81) dX12_valueAt_74 rfl (by omega) (by omega) (fun h74 => ?_) (fun h74 => ?_)
      · refine r_iconst (pc := 81) (n := 2) dX12_valueAt_81 ?_
        refine r_iconst (pc := 82) (n := 0) dX12_valueAt_82 ?_
        refine c_X12_70 (pc := 83) rfl dX12_valueAt_83 (by omega) (Nat.le_of_ble_eq_true rfl) ?_
        refine m_X12_at (d - 1) (by omega) (by assumption)  (fun r83 e83 => ?_)
        refine f_iald (pc := 86) dX12_valueAt_86 (n := 660) (by assumption) (by first | assumption | rfl) (by omega) (by omega) (by omega) (fun h86 => ?_)
        exact cut87 hout _ (by rw [knd_out hI h1 hout, if_neg (show ¬ mx w q 0 0 = 1 by omega)]; first | rw [if_pos (show f < mx w q 1 0 by omega), mxR0 (w := w) (q := q) (j := 1) (i := r83) (by omega)] | rw [if_neg (show ¬ f < mx w q 1 0 by omega), mxR0 (w := w) (q := q) (j := 2) (i := r83) (by omega)])
      refine r_iconst (pc := 77) (n := 1) dX12_valueAt_77 ?_
      refine r_goto (pc := 78) (tgt := 82) dX12_valueAt_78 rfl ?_
      refine r_iconst (pc := 82) (n := 0) dX12_valueAt_82 ?_
      refine c_X12_70 (pc := 83) rfl dX12_valueAt_83 (by omega) (Nat.le_of_ble_eq_true rfl) ?_
      refine m_X12_at (d - 1) (by omega) (by assumption)  (fun r83 e83 => ?_)
      refine f_iald (pc := 86) dX12_valueAt_86 (n := 660) (by assumption) (by first | assumption | rfl) (by omega) (by omega) (by omega) (fun h86 => ?_)
      exact cut87 hout _ (by rw [knd_out hI h1 hout, if_neg (show ¬ mx w q 0 0 = 1 by omega)]; first | rw [if_pos (show f < mx w q 1 0 by omega), mxR0 (w := w) (q := q) (j := 1) (i := r83) (by omega)] | rw [if_neg (show ¬ f < mx w q 1 0 by omega), mxR0 (w := w) (q := q) (j := 2) (i := r83) (by omega)])
    refine r_iconst (pc := 62) (n := 0) dX12_valueAt_62 ?_
    refine r_goto (pc := 63) (tgt := 87) dX12_valueAt_63 rfl ?_
    exact cut87 hout _ (by rw [knd_out hI h1 hout, if_pos (show mx w q 0 0 = 1 by omega)])
  refine r_aload_n (pc := 0) dX12_valueAt_0 rfl ?_
  refine r_iload_n (pc := 1) dX12_valueAt_1 rfl ?_
  refine c_X12_78 (pc := 2) rfl dX12_valueAt_2 (by first | assumption | rfl) (by omega) (Nat.le_of_ble_eq_true rfl) ?_
  refine m_X12_many (d - 1) (by omega) (by assumption) (by omega) (fun r2 e2 b2 => ?_)
  subst e2
  refine r_istore3 (pc := 5) dX12_valueAt_5 rfl ?_
  refine r_aload_n (pc := 6) dX12_valueAt_6 rfl ?_
  refine r_iload_n (pc := 7) dX12_valueAt_7 rfl ?_
  refine r_iconst (pc := 8) (n := 0) dX12_valueAt_8 ?_
  refine c_X12_82 (pc := 9) rfl dX12_valueAt_9 (by first | assumption | rfl) (by omega) (Nat.le_of_ble_eq_true rfl) ?_
  refine m_X12_frame (d - 1) (by omega) (by assumption) (by omega) (by omega) (fun r9 e9 b9 => ?_)
  subst e9
  refine r_istore4 (pc := 12) dX12_valueAt_12 rfl ?_
  refine r_aload_n (pc := 14) dX12_valueAt_14 rfl ?_
  refine r_iload_n (pc := 15) dX12_valueAt_15 rfl ?_
  refine r_iload_n (pc := 16) dX12_valueAt_16 rfl ?_
  refine r_iconst (pc := 17) (n := 1) dX12_valueAt_17 ?_
  refine r_isub (pc := 18) dX12_valueAt_18 ?_
  refine c_X12_82 (pc := 19) rfl dX12_valueAt_19 (by first | assumption | rfl) (by omega) (Nat.le_of_ble_eq_true rfl) ?_
  refine m_X12_frame (d - 1) (by omega) (by assumption) (by omega) (by omega) (fun r19 e19 b19 => ?_)
  subst e19
  refine r_istore5 (pc := 22) dX12_valueAt_22 rfl ?_
  refine r_iload_n (pc := 24) dX12_valueAt_24 rfl ?_
  refine r_iload (pc := 25) dX12_valueAt_25 rfl ?_
  refine r_iload (pc := 27) dX12_valueAt_27 rfl ?_
  refine c_X12_66 (pc := 29) rfl dX12_valueAt_29 (by omega) (Nat.le_of_ble_eq_true rfl) ?_
  refine m_X12_in (d - 1) (by omega) (by assumption) (by omega) (by omega) (by omega) (fun r29 e29 b29 => ?_)
  unfold b2i at e29
  refine r_ifeq (pc := 32) (tgt := 42) dX12_valueAt_32 rfl (by omega) (fun h32 => ?_) (fun h32 => ?_)
  · have hout : ¬ (mx w q 1 0 ≤ f ∧ f ≤ mx w q 1 (mx w q 0 0 - 1)) := by split at e29 <;> omega
    refine r_iload_n (pc := 42) dX12_valueAt_42 rfl ?_
    refine r_iload (pc := 43) dX12_valueAt_43 rfl ?_
    refine r_icmpge (pc := 45) (tgt := 52) dX12_valueAt_45 rfl (by omega) (by omega) (fun h45 => ?_) (fun h45 => ?_)
    · refine r_iload_n (pc := 52) dX12_valueAt_52 rfl ?_
      refine r_iconst (pc := 53) (n := 1) dX12_valueAt_53 ?_
      refine r_isub (pc := 54) dX12_valueAt_54 ?_
      exact cut55 hout _ (if_neg (show ¬ f < mx w q 1 0 by omega)).symm
    refine r_iconst (pc := 48) (n := 0) dX12_valueAt_48 ?_
    refine r_goto (pc := 49) (tgt := 55) dX12_valueAt_49 rfl ?_
    exact cut55 hout _ (if_pos (show f < mx w q 1 0 by omega)).symm
  have hin : mx w q 1 0 ≤ f ∧ f ≤ mx w q 1 (mx w q 0 0 - 1) := by split at e29 <;> omega
  refine r_aload_n (pc := 35) dX12_valueAt_35 rfl ?_
  refine r_iload_n (pc := 36) dX12_valueAt_36 rfl ?_
  refine r_iload_n (pc := 37) dX12_valueAt_37 rfl ?_
  refine c_X12_128 (pc := 38) rfl dX12_valueAt_38 (by first | assumption | rfl) (by omega) (Nat.le_of_ble_eq_true rfl) ?_
  refine m_X12_inside (d - 1) (by omega) (by assumption) (by assumption) (by assumption) (by omega) ⟨by omega, by omega⟩ (fun r38 e38 b38 => ?_)
  exact f_iret (pc := 41) dX12_valueAt_41 rfl (by assumption) (hQ _ (by rw [valS_in hI h1 hin.1 hin.2, ← e38, w32_id b38]) b38)
