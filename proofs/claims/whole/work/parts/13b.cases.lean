/-! the law's cases -/
set_option maxRecDepth 8000 in
theorem law_setKey {QG : Option AV → GW → Prop} {w : Wd} {G : GS} {i : Int} {cu su : Nat} {o4 o5 o6 o7 : Option AV} (hcs : cu ≤ 600000 ∧ su ≤ 7302250) (hw : WR w) (hG : GOK G) (hC : CLG G w) (hM : MOG G w) (hi : 0 ≤ i ∧ i + 6 ≤ w 999 0 ∧ w 999 0 ≤ 3072) (NEXT : ∀ (w2 : Wd) (G2 : GS) (p4 p5 p6 p7 : Option AV), GOK G2 → CLG G2 w2 → MOG G2 w2 → WR w2 → w2 0 = w 0 → w2 999 = w 999 → V mL_law room_1 cu su 1423 [some (vR (some 0)), some (vR (some 1)), some (vR (some 385)), some (vI i), p4, p5, p6, p7] [] (fl w2) QG) : V mL_law room_1 cu su 184 [some (vR (some 0)), some (vR (some 1)), some (vR (some 385)), some (vI i), o4, o5, o6, o7] [] (fl w) QG := by
  refine r_aload_n (pc := 184) dL_law_184 rfl ?_
  refine r_aload_n (pc := 185) dL_law_185 rfl ?_
  refine r_iload_n (pc := 186) dL_law_186 rfl ?_
  refine r_iconst (pc := 187) (n := 1) dL_law_187 ?_
  refine r_iadd (pc := 188) dL_law_188 ?_
  refine f_sld (pc := 189) dL_law_189 (by assumption) (by omega) (by omega) (by omega) (fun h189 => ?_)
  refine r_aload_n (pc := 190) dL_law_190 rfl ?_
  refine r_iload_n (pc := 191) dL_law_191 rfl ?_
  refine r_iconst (pc := 192) (n := 2) dL_law_192 ?_
  refine r_iadd (pc := 193) dL_law_193 ?_
  refine f_sld (pc := 194) dL_law_194 (by assumption) (by omega) (by omega) (by omega) (fun h194 => ?_)
  refine r_aload_n (pc := 195) dL_law_195 rfl ?_
  refine r_iload_n (pc := 196) dL_law_196 rfl ?_
  refine r_iconst (pc := 197) (n := 3) dL_law_197 ?_
  refine r_iadd (pc := 198) dL_law_198 ?_
  refine f_sld (pc := 199) dL_law_199 (by assumption) (by omega) (by omega) (by omega) (fun h199 => ?_)
  refine c_L_13 (pc := 200) dL_law_200 hcs (Nat.le_of_ble_eq_true rfl) ?_
  refine x_setKey 45 (by omega) (by assumption) hG hC (hw 0 _) (hw 0 _) (hw 0 _) (fun r200 w200 e200 c200 f200 hw200 => ?_)
  have z200 : w200 0 = w 0 := f200 0 (by omega)
  have y200 : w200 999 = w 999 := f200 999 (by omega)
  have y2200 : w200 999 0 = w 999 0 := by rw [y200]
  have m200 : MOG G w200 := MOG_fl hM f200
  refine r_aload_n (pc := 203) dL_law_203 rfl ?_
  refine r_aload_n (pc := 204) dL_law_204 rfl ?_
  refine r_iload_n (pc := 205) dL_law_205 rfl ?_
  refine r_iconst (pc := 206) (n := 1) dL_law_206 ?_
  refine r_iadd (pc := 207) dL_law_207 ?_
  refine f_sld (pc := 208) dL_law_208 (by assumption) (by omega) (by omega) (by omega) (fun h208 => ?_)
  rw [z200]
  refine r_aload_n (pc := 209) dL_law_209 rfl ?_
  refine r_iload_n (pc := 210) dL_law_210 rfl ?_
  refine r_iconst (pc := 211) (n := 2) dL_law_211 ?_
  refine r_iadd (pc := 212) dL_law_212 ?_
  refine f_sld (pc := 213) dL_law_213 (by assumption) (by omega) (by omega) (by omega) (fun h213 => ?_)
  rw [z200]
  refine r_aload_n (pc := 214) dL_law_214 rfl ?_
  refine r_iload_n (pc := 215) dL_law_215 rfl ?_
  refine r_iconst (pc := 216) (n := 3) dL_law_216 ?_
  refine r_iadd (pc := 217) dL_law_217 ?_
  refine f_sld (pc := 218) dL_law_218 (by assumption) (by omega) (by omega) (by omega) (fun h218 => ?_)
  rw [z200]
  refine c_L_17 (pc := 219) dL_law_219 hcs (Nat.le_of_ble_eq_true rfl) ?_
  refine y_setKey 45 (by omega) (by assumption) hG m200 (hw 0 _) (hw 0 _) (hw 0 _) (fun r219 w219 e219 c219 f219 hw219 => ?_)
  have ee : r219 = r200 := e219.trans e200.symm
  subst ee
  refine r_icmpeqS (pc := 222) (tgt := 1423) dL_law_222 rfl ?_
  exact NEXT w219 _ _ _ _ _ (G_setKey hG _ _ _) (CLG_fh c200 f219) c219 (by assumption) ((f219 0 (by omega)).trans z200) ((f219 999 (by omega)).trans y200)
  --stop
set_option maxRecDepth 8000 in
theorem law_removeKey {QG : Option AV → GW → Prop} {w : Wd} {G : GS} {i : Int} {cu su : Nat} {o4 o5 o6 o7 : Option AV} (hcs : cu ≤ 600000 ∧ su ≤ 7302250) (hw : WR w) (hG : GOK G) (hC : CLG G w) (hM : MOG G w) (hi : 0 ≤ i ∧ i + 6 ≤ w 999 0 ∧ w 999 0 ≤ 3072) (NEXT : ∀ (w2 : Wd) (G2 : GS) (p4 p5 p6 p7 : Option AV), GOK G2 → CLG G2 w2 → MOG G2 w2 → WR w2 → w2 0 = w 0 → w2 999 = w 999 → V mL_law room_1 cu su 1423 [some (vR (some 0)), some (vR (some 1)), some (vR (some 385)), some (vI i), p4, p5, p6, p7] [] (fl w2) QG) : V mL_law room_1 cu su 227 [some (vR (some 0)), some (vR (some 1)), some (vR (some 385)), some (vI i), o4, o5, o6, o7] [] (fl w) QG := by
  refine r_aload_n (pc := 227) dL_law_227 rfl ?_
  refine r_aload_n (pc := 228) dL_law_228 rfl ?_
  refine r_iload_n (pc := 229) dL_law_229 rfl ?_
  refine r_iconst (pc := 230) (n := 1) dL_law_230 ?_
  refine r_iadd (pc := 231) dL_law_231 ?_
  refine f_sld (pc := 232) dL_law_232 (by assumption) (by omega) (by omega) (by omega) (fun h232 => ?_)
  refine r_aload_n (pc := 233) dL_law_233 rfl ?_
  refine r_iload_n (pc := 234) dL_law_234 rfl ?_
  refine r_iconst (pc := 235) (n := 2) dL_law_235 ?_
  refine r_iadd (pc := 236) dL_law_236 ?_
  refine f_sld (pc := 237) dL_law_237 (by assumption) (by omega) (by omega) (by omega) (fun h237 => ?_)
  refine c_L_18 (pc := 238) dL_law_238 hcs (Nat.le_of_ble_eq_true rfl) ?_
  refine x_removeKey 45 (by omega) (by assumption) hG hC (hw 0 _) (hw 0 _) (fun r238 w238 e238 c238 f238 hw238 => ?_)
  have z238 : w238 0 = w 0 := f238 0 (by omega)
  have y238 : w238 999 = w 999 := f238 999 (by omega)
  have y2238 : w238 999 0 = w 999 0 := by rw [y238]
  have m238 : MOG G w238 := MOG_fl hM f238
  refine r_aload_n (pc := 241) dL_law_241 rfl ?_
  refine r_aload_n (pc := 242) dL_law_242 rfl ?_
  refine r_iload_n (pc := 243) dL_law_243 rfl ?_
  refine r_iconst (pc := 244) (n := 1) dL_law_244 ?_
  refine r_iadd (pc := 245) dL_law_245 ?_
  refine f_sld (pc := 246) dL_law_246 (by assumption) (by omega) (by omega) (by omega) (fun h246 => ?_)
  rw [z238]
  refine r_aload_n (pc := 247) dL_law_247 rfl ?_
  refine r_iload_n (pc := 248) dL_law_248 rfl ?_
  refine r_iconst (pc := 249) (n := 2) dL_law_249 ?_
  refine r_iadd (pc := 250) dL_law_250 ?_
  refine f_sld (pc := 251) dL_law_251 (by assumption) (by omega) (by omega) (by omega) (fun h251 => ?_)
  rw [z238]
  refine c_L_22 (pc := 252) dL_law_252 hcs (Nat.le_of_ble_eq_true rfl) ?_
  refine y_removeKey 45 (by omega) (by assumption) hG m238 (hw 0 _) (hw 0 _) (fun r252 w252 e252 c252 f252 hw252 => ?_)
  have ee : r252 = r238 := e252.trans e238.symm
  subst ee
  refine r_icmpeqS (pc := 255) (tgt := 1423) dL_law_255 rfl ?_
  exact NEXT w252 _ _ _ _ _ (G_removeKey hG _ _) (CLG_fh c238 f252) c252 (by assumption) ((f252 0 (by omega)).trans z238) ((f252 999 (by omega)).trans y238)
  --stop
set_option maxRecDepth 8000 in
theorem law_moveKey {QG : Option AV → GW → Prop} {w : Wd} {G : GS} {i : Int} {cu su : Nat} {o4 o5 o6 o7 : Option AV} (hcs : cu ≤ 600000 ∧ su ≤ 7302250) (hw : WR w) (hG : GOK G) (hC : CLG G w) (hM : MOG G w) (hi : 0 ≤ i ∧ i + 6 ≤ w 999 0 ∧ w 999 0 ≤ 3072) (NEXT : ∀ (w2 : Wd) (G2 : GS) (p4 p5 p6 p7 : Option AV), GOK G2 → CLG G2 w2 → MOG G2 w2 → WR w2 → w2 0 = w 0 → w2 999 = w 999 → V mL_law room_1 cu su 1423 [some (vR (some 0)), some (vR (some 1)), some (vR (some 385)), some (vI i), p4, p5, p6, p7] [] (fl w2) QG) : V mL_law room_1 cu su 260 [some (vR (some 0)), some (vR (some 1)), some (vR (some 385)), some (vI i), o4, o5, o6, o7] [] (fl w) QG := by
  refine r_aload_n (pc := 260) dL_law_260 rfl ?_
  refine r_aload_n (pc := 261) dL_law_261 rfl ?_
  refine r_iload_n (pc := 262) dL_law_262 rfl ?_
  refine r_iconst (pc := 263) (n := 1) dL_law_263 ?_
  refine r_iadd (pc := 264) dL_law_264 ?_
  refine f_sld (pc := 265) dL_law_265 (by assumption) (by omega) (by omega) (by omega) (fun h265 => ?_)
  refine r_aload_n (pc := 266) dL_law_266 rfl ?_
  refine r_iload_n (pc := 267) dL_law_267 rfl ?_
  refine r_iconst (pc := 268) (n := 2) dL_law_268 ?_
  refine r_iadd (pc := 269) dL_law_269 ?_
  refine f_sld (pc := 270) dL_law_270 (by assumption) (by omega) (by omega) (by omega) (fun h270 => ?_)
  refine r_aload_n (pc := 271) dL_law_271 rfl ?_
  refine r_iload_n (pc := 272) dL_law_272 rfl ?_
  refine r_iconst (pc := 273) (n := 3) dL_law_273 ?_
  refine r_iadd (pc := 274) dL_law_274 ?_
  refine f_sld (pc := 275) dL_law_275 (by assumption) (by omega) (by omega) (by omega) (fun h275 => ?_)
  refine c_L_23 (pc := 276) dL_law_276 hcs (Nat.le_of_ble_eq_true rfl) ?_
  refine x_moveKey 45 (by omega) (by assumption) hG hC (hw 0 _) (hw 0 _) (hw 0 _) (fun r276 w276 e276 c276 f276 hw276 => ?_)
  have z276 : w276 0 = w 0 := f276 0 (by omega)
  have y276 : w276 999 = w 999 := f276 999 (by omega)
  have y2276 : w276 999 0 = w 999 0 := by rw [y276]
  have m276 : MOG G w276 := MOG_fl hM f276
  refine r_aload_n (pc := 279) dL_law_279 rfl ?_
  refine r_aload_n (pc := 280) dL_law_280 rfl ?_
  refine r_iload_n (pc := 281) dL_law_281 rfl ?_
  refine r_iconst (pc := 282) (n := 1) dL_law_282 ?_
  refine r_iadd (pc := 283) dL_law_283 ?_
  refine f_sld (pc := 284) dL_law_284 (by assumption) (by omega) (by omega) (by omega) (fun h284 => ?_)
  rw [z276]
  refine r_aload_n (pc := 285) dL_law_285 rfl ?_
  refine r_iload_n (pc := 286) dL_law_286 rfl ?_
  refine r_iconst (pc := 287) (n := 2) dL_law_287 ?_
  refine r_iadd (pc := 288) dL_law_288 ?_
  refine f_sld (pc := 289) dL_law_289 (by assumption) (by omega) (by omega) (by omega) (fun h289 => ?_)
  rw [z276]
  refine r_aload_n (pc := 290) dL_law_290 rfl ?_
  refine r_iload_n (pc := 291) dL_law_291 rfl ?_
  refine r_iconst (pc := 292) (n := 3) dL_law_292 ?_
  refine r_iadd (pc := 293) dL_law_293 ?_
  refine f_sld (pc := 294) dL_law_294 (by assumption) (by omega) (by omega) (by omega) (fun h294 => ?_)
  rw [z276]
  refine c_L_26 (pc := 295) dL_law_295 hcs (Nat.le_of_ble_eq_true rfl) ?_
  refine y_moveKey 45 (by omega) (by assumption) hG m276 (hw 0 _) (hw 0 _) (hw 0 _) (fun r295 w295 e295 c295 f295 hw295 => ?_)
  have ee : r295 = r276 := e295.trans e276.symm
  subst ee
  refine r_icmpeqS (pc := 298) (tgt := 1423) dL_law_298 rfl ?_
  exact NEXT w295 _ _ _ _ _ (G_moveKey hG _ _ _) (CLG_fh c276 f295) c295 (by assumption) ((f295 0 (by omega)).trans z276) ((f295 999 (by omega)).trans y276)
  --stop
set_option maxRecDepth 8000 in
theorem law_setMode {QG : Option AV → GW → Prop} {w : Wd} {G : GS} {i : Int} {cu su : Nat} {o4 o5 o6 o7 : Option AV} (hcs : cu ≤ 600000 ∧ su ≤ 7302250) (hw : WR w) (hG : GOK G) (hC : CLG G w) (hM : MOG G w) (hi : 0 ≤ i ∧ i + 6 ≤ w 999 0 ∧ w 999 0 ≤ 3072) (NEXT : ∀ (w2 : Wd) (G2 : GS) (p4 p5 p6 p7 : Option AV), GOK G2 → CLG G2 w2 → MOG G2 w2 → WR w2 → w2 0 = w 0 → w2 999 = w 999 → V mL_law room_1 cu su 1423 [some (vR (some 0)), some (vR (some 1)), some (vR (some 385)), some (vI i), p4, p5, p6, p7] [] (fl w2) QG) : V mL_law room_1 cu su 303 [some (vR (some 0)), some (vR (some 1)), some (vR (some 385)), some (vI i), o4, o5, o6, o7] [] (fl w) QG := by
  refine r_aload_n (pc := 303) dL_law_303 rfl ?_
  refine r_aload_n (pc := 304) dL_law_304 rfl ?_
  refine r_iload_n (pc := 305) dL_law_305 rfl ?_
  refine r_iconst (pc := 306) (n := 1) dL_law_306 ?_
  refine r_iadd (pc := 307) dL_law_307 ?_
  refine f_sld (pc := 308) dL_law_308 (by assumption) (by omega) (by omega) (by omega) (fun h308 => ?_)
  refine r_aload_n (pc := 309) dL_law_309 rfl ?_
  refine r_iload_n (pc := 310) dL_law_310 rfl ?_
  refine r_iconst (pc := 311) (n := 2) dL_law_311 ?_
  refine r_iadd (pc := 312) dL_law_312 ?_
  refine f_sld (pc := 313) dL_law_313 (by assumption) (by omega) (by omega) (by omega) (fun h313 => ?_)
  refine r_aload_n (pc := 314) dL_law_314 rfl ?_
  refine r_iload_n (pc := 315) dL_law_315 rfl ?_
  refine r_iconst (pc := 316) (n := 3) dL_law_316 ?_
  refine r_iadd (pc := 317) dL_law_317 ?_
  refine f_sld (pc := 318) dL_law_318 (by assumption) (by omega) (by omega) (by omega) (fun h318 => ?_)
  refine c_L_27 (pc := 319) dL_law_319 hcs (Nat.le_of_ble_eq_true rfl) ?_
  refine x_setMode 45 (by omega) (by assumption) hG hC (hw 0 _) (hw 0 _) (hw 0 _) (fun r319 w319 e319 c319 f319 hw319 => ?_)
  have z319 : w319 0 = w 0 := f319 0 (by omega)
  have y319 : w319 999 = w 999 := f319 999 (by omega)
  have y2319 : w319 999 0 = w 999 0 := by rw [y319]
  have m319 : MOG G w319 := MOG_fl hM f319
  refine r_aload_n (pc := 322) dL_law_322 rfl ?_
  refine r_aload_n (pc := 323) dL_law_323 rfl ?_
  refine r_iload_n (pc := 324) dL_law_324 rfl ?_
  refine r_iconst (pc := 325) (n := 1) dL_law_325 ?_
  refine r_iadd (pc := 326) dL_law_326 ?_
  refine f_sld (pc := 327) dL_law_327 (by assumption) (by omega) (by omega) (by omega) (fun h327 => ?_)
  rw [z319]
  refine r_aload_n (pc := 328) dL_law_328 rfl ?_
  refine r_iload_n (pc := 329) dL_law_329 rfl ?_
  refine r_iconst (pc := 330) (n := 2) dL_law_330 ?_
  refine r_iadd (pc := 331) dL_law_331 ?_
  refine f_sld (pc := 332) dL_law_332 (by assumption) (by omega) (by omega) (by omega) (fun h332 => ?_)
  rw [z319]
  refine r_aload_n (pc := 333) dL_law_333 rfl ?_
  refine r_iload_n (pc := 334) dL_law_334 rfl ?_
  refine r_iconst (pc := 335) (n := 3) dL_law_335 ?_
  refine r_iadd (pc := 336) dL_law_336 ?_
  refine f_sld (pc := 337) dL_law_337 (by assumption) (by omega) (by omega) (by omega) (fun h337 => ?_)
  rw [z319]
  refine c_L_30 (pc := 338) dL_law_338 hcs (Nat.le_of_ble_eq_true rfl) ?_
  refine y_setMode 45 (by omega) (by assumption) hG m319 (hw 0 _) (hw 0 _) (hw 0 _) (fun r338 w338 e338 c338 f338 hw338 => ?_)
  have ee : r338 = r319 := e338.trans e319.symm
  subst ee
  refine r_icmpeqS (pc := 341) (tgt := 1423) dL_law_341 rfl ?_
  exact NEXT w338 _ _ _ _ _ (G_setMode hG _ _ _) (CLG_fh c319 f338) c338 (by assumption) ((f338 0 (by omega)).trans z319) ((f338 999 (by omega)).trans y319)
  --stop
set_option maxRecDepth 8000 in
theorem law_setSlopes {QG : Option AV → GW → Prop} {w : Wd} {G : GS} {i : Int} {cu su : Nat} {o4 o5 o6 o7 : Option AV} (hcs : cu ≤ 600000 ∧ su ≤ 7302250) (hw : WR w) (hG : GOK G) (hC : CLG G w) (hM : MOG G w) (hi : 0 ≤ i ∧ i + 6 ≤ w 999 0 ∧ w 999 0 ≤ 3072) (NEXT : ∀ (w2 : Wd) (G2 : GS) (p4 p5 p6 p7 : Option AV), GOK G2 → CLG G2 w2 → MOG G2 w2 → WR w2 → w2 0 = w 0 → w2 999 = w 999 → V mL_law room_1 cu su 1423 [some (vR (some 0)), some (vR (some 1)), some (vR (some 385)), some (vI i), p4, p5, p6, p7] [] (fl w2) QG) : V mL_law room_1 cu su 346 [some (vR (some 0)), some (vR (some 1)), some (vR (some 385)), some (vI i), o4, o5, o6, o7] [] (fl w) QG := by
  refine r_aload_n (pc := 346) dL_law_346 rfl ?_
  refine r_aload_n (pc := 347) dL_law_347 rfl ?_
  refine r_iload_n (pc := 348) dL_law_348 rfl ?_
  refine r_iconst (pc := 349) (n := 1) dL_law_349 ?_
  refine r_iadd (pc := 350) dL_law_350 ?_
  refine f_sld (pc := 351) dL_law_351 (by assumption) (by omega) (by omega) (by omega) (fun h351 => ?_)
  refine r_aload_n (pc := 352) dL_law_352 rfl ?_
  refine r_iload_n (pc := 353) dL_law_353 rfl ?_
  refine r_iconst (pc := 354) (n := 2) dL_law_354 ?_
  refine r_iadd (pc := 355) dL_law_355 ?_
  refine f_sld (pc := 356) dL_law_356 (by assumption) (by omega) (by omega) (by omega) (fun h356 => ?_)
  refine r_aload_n (pc := 357) dL_law_357 rfl ?_
  refine r_iload_n (pc := 358) dL_law_358 rfl ?_
  refine r_iconst (pc := 359) (n := 3) dL_law_359 ?_
  refine r_iadd (pc := 360) dL_law_360 ?_
  refine f_sld (pc := 361) dL_law_361 (by assumption) (by omega) (by omega) (by omega) (fun h361 => ?_)
  refine r_aload_n (pc := 362) dL_law_362 rfl ?_
  refine r_iload_n (pc := 363) dL_law_363 rfl ?_
  refine r_iconst (pc := 364) (n := 4) dL_law_364 ?_
  refine r_iadd (pc := 365) dL_law_365 ?_
  refine f_sld (pc := 366) dL_law_366 (by assumption) (by omega) (by omega) (by omega) (fun h366 => ?_)
  refine c_L_31 (pc := 367) dL_law_367 hcs (Nat.le_of_ble_eq_true rfl) ?_
  refine x_setSlopes 45 (by omega) (by assumption) hG hC (hw 0 _) (hw 0 _) (hw 0 _) (hw 0 _) (fun r367 w367 e367 c367 f367 hw367 => ?_)
  have z367 : w367 0 = w 0 := f367 0 (by omega)
  have y367 : w367 999 = w 999 := f367 999 (by omega)
  have y2367 : w367 999 0 = w 999 0 := by rw [y367]
  have m367 : MOG G w367 := MOG_fl hM f367
  refine r_aload_n (pc := 370) dL_law_370 rfl ?_
  refine r_aload_n (pc := 371) dL_law_371 rfl ?_
  refine r_iload_n (pc := 372) dL_law_372 rfl ?_
  refine r_iconst (pc := 373) (n := 1) dL_law_373 ?_
  refine r_iadd (pc := 374) dL_law_374 ?_
  refine f_sld (pc := 375) dL_law_375 (by assumption) (by omega) (by omega) (by omega) (fun h375 => ?_)
  rw [z367]
  refine r_aload_n (pc := 376) dL_law_376 rfl ?_
  refine r_iload_n (pc := 377) dL_law_377 rfl ?_
  refine r_iconst (pc := 378) (n := 2) dL_law_378 ?_
  refine r_iadd (pc := 379) dL_law_379 ?_
  refine f_sld (pc := 380) dL_law_380 (by assumption) (by omega) (by omega) (by omega) (fun h380 => ?_)
  rw [z367]
  refine r_aload_n (pc := 381) dL_law_381 rfl ?_
  refine r_iload_n (pc := 382) dL_law_382 rfl ?_
  refine r_iconst (pc := 383) (n := 3) dL_law_383 ?_
  refine r_iadd (pc := 384) dL_law_384 ?_
  refine f_sld (pc := 385) dL_law_385 (by assumption) (by omega) (by omega) (by omega) (fun h385 => ?_)
  rw [z367]
  refine r_aload_n (pc := 386) dL_law_386 rfl ?_
  refine r_iload_n (pc := 387) dL_law_387 rfl ?_
  refine r_iconst (pc := 388) (n := 4) dL_law_388 ?_
  refine r_iadd (pc := 389) dL_law_389 ?_
  refine f_sld (pc := 390) dL_law_390 (by assumption) (by omega) (by omega) (by omega) (fun h390 => ?_)
  rw [z367]
  refine c_L_35 (pc := 391) dL_law_391 hcs (Nat.le_of_ble_eq_true rfl) ?_
  refine y_setSlopes 45 (by omega) (by assumption) hG m367 (hw 0 _) (hw 0 _) (hw 0 _) (hw 0 _) (fun r391 w391 e391 c391 f391 hw391 => ?_)
  have ee : r391 = r367 := e391.trans e367.symm
  subst ee
  refine r_icmpeqS (pc := 394) (tgt := 1423) dL_law_394 rfl ?_
  exact NEXT w391 _ _ _ _ _ (G_setSlopes hG _ _ _ _) (CLG_fh c367 f391) c391 (by assumption) ((f391 0 (by omega)).trans z367) ((f391 999 (by omega)).trans y367)
  --stop
set_option maxRecDepth 8000 in
theorem law_split {QG : Option AV → GW → Prop} {w : Wd} {G : GS} {i : Int} {cu su : Nat} {o4 o5 o6 o7 : Option AV} (hcs : cu ≤ 600000 ∧ su ≤ 7302250) (hw : WR w) (hG : GOK G) (hC : CLG G w) (hM : MOG G w) (hi : 0 ≤ i ∧ i + 6 ≤ w 999 0 ∧ w 999 0 ≤ 3072) (NEXT : ∀ (w2 : Wd) (G2 : GS) (p4 p5 p6 p7 : Option AV), GOK G2 → CLG G2 w2 → MOG G2 w2 → WR w2 → w2 0 = w 0 → w2 999 = w 999 → V mL_law room_1 cu su 1423 [some (vR (some 0)), some (vR (some 1)), some (vR (some 385)), some (vI i), p4, p5, p6, p7] [] (fl w2) QG) : V mL_law room_1 cu su 399 [some (vR (some 0)), some (vR (some 1)), some (vR (some 385)), some (vI i), o4, o5, o6, o7] [] (fl w) QG := by
  refine r_aload_n (pc := 399) dL_law_399 rfl ?_
  refine r_aload_n (pc := 400) dL_law_400 rfl ?_
  refine r_iload_n (pc := 401) dL_law_401 rfl ?_
  refine r_iconst (pc := 402) (n := 1) dL_law_402 ?_
  refine r_iadd (pc := 403) dL_law_403 ?_
  refine f_sld (pc := 404) dL_law_404 (by assumption) (by omega) (by omega) (by omega) (fun h404 => ?_)
  refine r_aload_n (pc := 405) dL_law_405 rfl ?_
  refine r_iload_n (pc := 406) dL_law_406 rfl ?_
  refine r_iconst (pc := 407) (n := 2) dL_law_407 ?_
  refine r_iadd (pc := 408) dL_law_408 ?_
  refine f_sld (pc := 409) dL_law_409 (by assumption) (by omega) (by omega) (by omega) (fun h409 => ?_)
  refine c_L_36 (pc := 410) dL_law_410 hcs (Nat.le_of_ble_eq_true rfl) ?_
  refine x_split 45 (by omega) (by assumption) hG hC (hw 0 _) (hw 0 _) (fun r410 w410 e410 c410 f410 hw410 => ?_)
  have z410 : w410 0 = w 0 := f410 0 (by omega)
  have y410 : w410 999 = w 999 := f410 999 (by omega)
  have y2410 : w410 999 0 = w 999 0 := by rw [y410]
  have m410 : MOG G w410 := MOG_fl hM f410
  refine r_aload_n (pc := 413) dL_law_413 rfl ?_
  refine r_aload_n (pc := 414) dL_law_414 rfl ?_
  refine r_iload_n (pc := 415) dL_law_415 rfl ?_
  refine r_iconst (pc := 416) (n := 1) dL_law_416 ?_
  refine r_iadd (pc := 417) dL_law_417 ?_
  refine f_sld (pc := 418) dL_law_418 (by assumption) (by omega) (by omega) (by omega) (fun h418 => ?_)
  rw [z410]
  refine r_aload_n (pc := 419) dL_law_419 rfl ?_
  refine r_iload_n (pc := 420) dL_law_420 rfl ?_
  refine r_iconst (pc := 421) (n := 2) dL_law_421 ?_
  refine r_iadd (pc := 422) dL_law_422 ?_
  refine f_sld (pc := 423) dL_law_423 (by assumption) (by omega) (by omega) (by omega) (fun h423 => ?_)
  rw [z410]
  refine c_L_39 (pc := 424) dL_law_424 hcs (Nat.le_of_ble_eq_true rfl) ?_
  refine y_split 45 (by omega) (by assumption) hG m410 (hw 0 _) (hw 0 _) (fun r424 w424 e424 c424 f424 hw424 => ?_)
  have ee : r424 = r410 := e424.trans e410.symm
  subst ee
  refine r_icmpeqS (pc := 427) (tgt := 1423) dL_law_427 rfl ?_
  exact NEXT w424 _ _ _ _ _ (G_split hG _ _) (CLG_fh c410 f424) c424 (by assumption) ((f424 0 (by omega)).trans z410) ((f424 999 (by omega)).trans y410)
  --stop
set_option maxRecDepth 8000 in
theorem law_clear {QG : Option AV → GW → Prop} {w : Wd} {G : GS} {i : Int} {cu su : Nat} {o4 o5 o6 o7 : Option AV} (hcs : cu ≤ 600000 ∧ su ≤ 7302250) (hw : WR w) (hG : GOK G) (hC : CLG G w) (hM : MOG G w) (hi : 0 ≤ i ∧ i + 6 ≤ w 999 0 ∧ w 999 0 ≤ 3072) (NEXT : ∀ (w2 : Wd) (G2 : GS) (p4 p5 p6 p7 : Option AV), GOK G2 → CLG G2 w2 → MOG G2 w2 → WR w2 → w2 0 = w 0 → w2 999 = w 999 → V mL_law room_1 cu su 1423 [some (vR (some 0)), some (vR (some 1)), some (vR (some 385)), some (vI i), p4, p5, p6, p7] [] (fl w2) QG) : V mL_law room_1 cu su 432 [some (vR (some 0)), some (vR (some 1)), some (vR (some 385)), some (vI i), o4, o5, o6, o7] [] (fl w) QG := by
  refine r_aload_n (pc := 432) dL_law_432 rfl ?_
  refine r_aload_n (pc := 433) dL_law_433 rfl ?_
  refine r_iload_n (pc := 434) dL_law_434 rfl ?_
  refine r_iconst (pc := 435) (n := 1) dL_law_435 ?_
  refine r_iadd (pc := 436) dL_law_436 ?_
  refine f_sld (pc := 437) dL_law_437 (by assumption) (by omega) (by omega) (by omega) (fun h437 => ?_)
  refine c_L_40 (pc := 438) dL_law_438 hcs (Nat.le_of_ble_eq_true rfl) ?_
  refine x_clear 45 (by omega) (by assumption) hG hC (hw 0 _) (fun r438 w438 e438 c438 f438 hw438 => ?_)
  have z438 : w438 0 = w 0 := f438 0 (by omega)
  have y438 : w438 999 = w 999 := f438 999 (by omega)
  have y2438 : w438 999 0 = w 999 0 := by rw [y438]
  have m438 : MOG G w438 := MOG_fl hM f438
  refine r_aload_n (pc := 441) dL_law_441 rfl ?_
  refine r_aload_n (pc := 442) dL_law_442 rfl ?_
  refine r_iload_n (pc := 443) dL_law_443 rfl ?_
  refine r_iconst (pc := 444) (n := 1) dL_law_444 ?_
  refine r_iadd (pc := 445) dL_law_445 ?_
  refine f_sld (pc := 446) dL_law_446 (by assumption) (by omega) (by omega) (by omega) (fun h446 => ?_)
  rw [z438]
  refine c_L_44 (pc := 447) dL_law_447 hcs (Nat.le_of_ble_eq_true rfl) ?_
  refine y_clear 45 (by omega) (by assumption) hG m438 (hw 0 _) (fun r447 w447 e447 c447 f447 hw447 => ?_)
  have ee : r447 = r438 := e447.trans e438.symm
  subst ee
  refine r_icmpeqS (pc := 450) (tgt := 1423) dL_law_450 rfl ?_
  exact NEXT w447 _ _ _ _ _ (G_clear hG _) (CLG_fh c438 f447) c447 (by assumption) ((f447 0 (by omega)).trans z438) ((f447 999 (by omega)).trans y438)
  --stop
set_option maxRecDepth 8000 in
theorem law_setExtrapolation {QG : Option AV → GW → Prop} {w : Wd} {G : GS} {i : Int} {cu su : Nat} {o4 o5 o6 o7 : Option AV} (hcs : cu ≤ 600000 ∧ su ≤ 7302250) (hw : WR w) (hG : GOK G) (hC : CLG G w) (hM : MOG G w) (hi : 0 ≤ i ∧ i + 6 ≤ w 999 0 ∧ w 999 0 ≤ 3072) (NEXT : ∀ (w2 : Wd) (G2 : GS) (p4 p5 p6 p7 : Option AV), GOK G2 → CLG G2 w2 → MOG G2 w2 → WR w2 → w2 0 = w 0 → w2 999 = w 999 → V mL_law room_1 cu su 1423 [some (vR (some 0)), some (vR (some 1)), some (vR (some 385)), some (vI i), p4, p5, p6, p7] [] (fl w2) QG) : V mL_law room_1 cu su 455 [some (vR (some 0)), some (vR (some 1)), some (vR (some 385)), some (vI i), o4, o5, o6, o7] [] (fl w) QG := by
  refine r_aload_n (pc := 455) dL_law_455 rfl ?_
  refine r_aload_n (pc := 456) dL_law_456 rfl ?_
  refine r_iload_n (pc := 457) dL_law_457 rfl ?_
  refine r_iconst (pc := 458) (n := 1) dL_law_458 ?_
  refine r_iadd (pc := 459) dL_law_459 ?_
  refine f_sld (pc := 460) dL_law_460 (by assumption) (by omega) (by omega) (by omega) (fun h460 => ?_)
  refine r_aload_n (pc := 461) dL_law_461 rfl ?_
  refine r_iload_n (pc := 462) dL_law_462 rfl ?_
  refine r_iconst (pc := 463) (n := 2) dL_law_463 ?_
  refine r_iadd (pc := 464) dL_law_464 ?_
  refine f_sld (pc := 465) dL_law_465 (by assumption) (by omega) (by omega) (by omega) (fun h465 => ?_)
  refine r_aload_n (pc := 466) dL_law_466 rfl ?_
  refine r_iload_n (pc := 467) dL_law_467 rfl ?_
  refine r_iconst (pc := 468) (n := 3) dL_law_468 ?_
  refine r_iadd (pc := 469) dL_law_469 ?_
  refine f_sld (pc := 470) dL_law_470 (by assumption) (by omega) (by omega) (by omega) (fun h470 => ?_)
  refine c_L_45 (pc := 471) dL_law_471 hcs (Nat.le_of_ble_eq_true rfl) ?_
  refine x_setExtrapolation 45 (by omega) (by assumption) hG hC (hw 0 _) (hw 0 _) (hw 0 _) (fun r471 w471 e471 c471 f471 hw471 => ?_)
  have z471 : w471 0 = w 0 := f471 0 (by omega)
  have y471 : w471 999 = w 999 := f471 999 (by omega)
  have y2471 : w471 999 0 = w 999 0 := by rw [y471]
  have m471 : MOG G w471 := MOG_fl hM f471
  refine r_aload_n (pc := 474) dL_law_474 rfl ?_
  refine r_aload_n (pc := 475) dL_law_475 rfl ?_
  refine r_iload_n (pc := 476) dL_law_476 rfl ?_
  refine r_iconst (pc := 477) (n := 1) dL_law_477 ?_
  refine r_iadd (pc := 478) dL_law_478 ?_
  refine f_sld (pc := 479) dL_law_479 (by assumption) (by omega) (by omega) (by omega) (fun h479 => ?_)
  rw [z471]
  refine r_aload_n (pc := 480) dL_law_480 rfl ?_
  refine r_iload_n (pc := 481) dL_law_481 rfl ?_
  refine r_iconst (pc := 482) (n := 2) dL_law_482 ?_
  refine r_iadd (pc := 483) dL_law_483 ?_
  refine f_sld (pc := 484) dL_law_484 (by assumption) (by omega) (by omega) (by omega) (fun h484 => ?_)
  rw [z471]
  refine r_aload_n (pc := 485) dL_law_485 rfl ?_
  refine r_iload_n (pc := 486) dL_law_486 rfl ?_
  refine r_iconst (pc := 487) (n := 3) dL_law_487 ?_
  refine r_iadd (pc := 488) dL_law_488 ?_
  refine f_sld (pc := 489) dL_law_489 (by assumption) (by omega) (by omega) (by omega) (fun h489 => ?_)
  rw [z471]
  refine c_L_48 (pc := 490) dL_law_490 hcs (Nat.le_of_ble_eq_true rfl) ?_
  refine y_setExtrapolation 45 (by omega) (by assumption) hG m471 (hw 0 _) (hw 0 _) (hw 0 _) (fun r490 w490 e490 c490 f490 hw490 => ?_)
  have ee : r490 = r471 := e490.trans e471.symm
  subst ee
  refine r_icmpeqS (pc := 493) (tgt := 1423) dL_law_493 rfl ?_
  exact NEXT w490 _ _ _ _ _ (G_setExtrapolation hG _ _ _) (CLG_fh c471 f490) c490 (by assumption) ((f490 0 (by omega)).trans z471) ((f490 999 (by omega)).trans y471)
  --stop
set_option maxRecDepth 8000 in
theorem law_keys {QG : Option AV → GW → Prop} {w : Wd} {G : GS} {i : Int} {cu su : Nat} {o4 o5 o6 o7 : Option AV} (hcs : cu ≤ 600000 ∧ su ≤ 7302250) (hw : WR w) (hG : GOK G) (hC : CLG G w) (hM : MOG G w) (hi : 0 ≤ i ∧ i + 6 ≤ w 999 0 ∧ w 999 0 ≤ 3072) (NEXT : ∀ (w2 : Wd) (G2 : GS) (p4 p5 p6 p7 : Option AV), GOK G2 → CLG G2 w2 → MOG G2 w2 → WR w2 → w2 0 = w 0 → w2 999 = w 999 → V mL_law room_1 cu su 1423 [some (vR (some 0)), some (vR (some 1)), some (vR (some 385)), some (vI i), p4, p5, p6, p7] [] (fl w2) QG) : V mL_law room_1 cu su 498 [some (vR (some 0)), some (vR (some 1)), some (vR (some 385)), some (vI i), o4, o5, o6, o7] [] (fl w) QG := by
  refine r_aload_n (pc := 498) dL_law_498 rfl ?_
  refine r_aload_n (pc := 499) dL_law_499 rfl ?_
  refine r_iload_n (pc := 500) dL_law_500 rfl ?_
  refine r_iconst (pc := 501) (n := 1) dL_law_501 ?_
  refine r_iadd (pc := 502) dL_law_502 ?_
  refine f_sld (pc := 503) dL_law_503 (by assumption) (by omega) (by omega) (by omega) (fun h503 => ?_)
  refine c_L_49 (pc := 504) dL_law_504 hcs (Nat.le_of_ble_eq_true rfl) ?_
  refine x_keys 45 (by omega) (by assumption) hG hC (hw 0 _) (fun r504 e504 => ?_)
  refine r_aload_n (pc := 507) dL_law_507 rfl ?_
  refine r_aload_n (pc := 508) dL_law_508 rfl ?_
  refine r_iload_n (pc := 509) dL_law_509 rfl ?_
  refine r_iconst (pc := 510) (n := 1) dL_law_510 ?_
  refine r_iadd (pc := 511) dL_law_511 ?_
  refine f_sld (pc := 512) dL_law_512 (by assumption) (by omega) (by omega) (by omega) (fun h512 => ?_)
  refine c_L_52 (pc := 513) dL_law_513 hcs (Nat.le_of_ble_eq_true rfl) ?_
  refine y_keys 45 (by omega) (by assumption) hG hM (hw 0 _) (fun r513 e513 => ?_)
  have ee : r513 = r504 := e513.trans e504.symm
  subst ee
  refine r_icmpeqS (pc := 516) (tgt := 1423) dL_law_516 rfl ?_
  exact NEXT w G _ _ _ _ hG hC hM (by assumption) rfl rfl
  --stop
set_option maxRecDepth 8000 in
theorem law_frameOf {QG : Option AV → GW → Prop} {w : Wd} {G : GS} {i : Int} {cu su : Nat} {o4 o5 o6 o7 : Option AV} (hcs : cu ≤ 600000 ∧ su ≤ 7302250) (hw : WR w) (hG : GOK G) (hC : CLG G w) (hM : MOG G w) (hi : 0 ≤ i ∧ i + 6 ≤ w 999 0 ∧ w 999 0 ≤ 3072) (NEXT : ∀ (w2 : Wd) (G2 : GS) (p4 p5 p6 p7 : Option AV), GOK G2 → CLG G2 w2 → MOG G2 w2 → WR w2 → w2 0 = w 0 → w2 999 = w 999 → V mL_law room_1 cu su 1423 [some (vR (some 0)), some (vR (some 1)), some (vR (some 385)), some (vI i), p4, p5, p6, p7] [] (fl w2) QG) : V mL_law room_1 cu su 521 [some (vR (some 0)), some (vR (some 1)), some (vR (some 385)), some (vI i), o4, o5, o6, o7] [] (fl w) QG := by
  refine r_aload_n (pc := 521) dL_law_521 rfl ?_
  refine r_aload_n (pc := 522) dL_law_522 rfl ?_
  refine r_iload_n (pc := 523) dL_law_523 rfl ?_
  refine r_iconst (pc := 524) (n := 1) dL_law_524 ?_
  refine r_iadd (pc := 525) dL_law_525 ?_
  refine f_sld (pc := 526) dL_law_526 (by assumption) (by omega) (by omega) (by omega) (fun h526 => ?_)
  refine r_aload_n (pc := 527) dL_law_527 rfl ?_
  refine r_iload_n (pc := 528) dL_law_528 rfl ?_
  refine r_iconst (pc := 529) (n := 2) dL_law_529 ?_
  refine r_iadd (pc := 530) dL_law_530 ?_
  refine f_sld (pc := 531) dL_law_531 (by assumption) (by omega) (by omega) (by omega) (fun h531 => ?_)
  refine c_L_53 (pc := 532) dL_law_532 hcs (Nat.le_of_ble_eq_true rfl) ?_
  refine x_frameOf 45 (by omega) (by assumption) hG hC (hw 0 _) (hw 0 _) (fun r532 e532 => ?_)
  refine r_aload_n (pc := 535) dL_law_535 rfl ?_
  refine r_aload_n (pc := 536) dL_law_536 rfl ?_
  refine r_iload_n (pc := 537) dL_law_537 rfl ?_
  refine r_iconst (pc := 538) (n := 1) dL_law_538 ?_
  refine r_iadd (pc := 539) dL_law_539 ?_
  refine f_sld (pc := 540) dL_law_540 (by assumption) (by omega) (by omega) (by omega) (fun h540 => ?_)
  refine r_aload_n (pc := 541) dL_law_541 rfl ?_
  refine r_iload_n (pc := 542) dL_law_542 rfl ?_
  refine r_iconst (pc := 543) (n := 2) dL_law_543 ?_
  refine r_iadd (pc := 544) dL_law_544 ?_
  refine f_sld (pc := 545) dL_law_545 (by assumption) (by omega) (by omega) (by omega) (fun h545 => ?_)
  refine c_L_56 (pc := 546) dL_law_546 hcs (Nat.le_of_ble_eq_true rfl) ?_
  refine y_frameOf 45 (by omega) (by assumption) hG hM (hw 0 _) (hw 0 _) (fun r546 e546 => ?_)
  have ee : r546 = r532 := e546.trans e532.symm
  subst ee
  refine r_icmpeqS (pc := 549) (tgt := 1423) dL_law_549 rfl ?_
  exact NEXT w G _ _ _ _ hG hC hM (by assumption) rfl rfl
  --stop
set_option maxRecDepth 8000 in
theorem law_valueOf {QG : Option AV → GW → Prop} {w : Wd} {G : GS} {i : Int} {cu su : Nat} {o4 o5 o6 o7 : Option AV} (hcs : cu ≤ 600000 ∧ su ≤ 7302250) (hw : WR w) (hG : GOK G) (hC : CLG G w) (hM : MOG G w) (hi : 0 ≤ i ∧ i + 6 ≤ w 999 0 ∧ w 999 0 ≤ 3072) (NEXT : ∀ (w2 : Wd) (G2 : GS) (p4 p5 p6 p7 : Option AV), GOK G2 → CLG G2 w2 → MOG G2 w2 → WR w2 → w2 0 = w 0 → w2 999 = w 999 → V mL_law room_1 cu su 1423 [some (vR (some 0)), some (vR (some 1)), some (vR (some 385)), some (vI i), p4, p5, p6, p7] [] (fl w2) QG) : V mL_law room_1 cu su 554 [some (vR (some 0)), some (vR (some 1)), some (vR (some 385)), some (vI i), o4, o5, o6, o7] [] (fl w) QG := by
  refine r_aload_n (pc := 554) dL_law_554 rfl ?_
  refine r_aload_n (pc := 555) dL_law_555 rfl ?_
  refine r_iload_n (pc := 556) dL_law_556 rfl ?_
  refine r_iconst (pc := 557) (n := 1) dL_law_557 ?_
  refine r_iadd (pc := 558) dL_law_558 ?_
  refine f_sld (pc := 559) dL_law_559 (by assumption) (by omega) (by omega) (by omega) (fun h559 => ?_)
  refine r_aload_n (pc := 560) dL_law_560 rfl ?_
  refine r_iload_n (pc := 561) dL_law_561 rfl ?_
  refine r_iconst (pc := 562) (n := 2) dL_law_562 ?_
  refine r_iadd (pc := 563) dL_law_563 ?_
  refine f_sld (pc := 564) dL_law_564 (by assumption) (by omega) (by omega) (by omega) (fun h564 => ?_)
  refine c_L_57 (pc := 565) dL_law_565 hcs (Nat.le_of_ble_eq_true rfl) ?_
  refine x_valueOf 45 (by omega) (by assumption) hG hC (hw 0 _) (hw 0 _) (fun r565 e565 => ?_)
  refine r_aload_n (pc := 568) dL_law_568 rfl ?_
  refine r_aload_n (pc := 569) dL_law_569 rfl ?_
  refine r_iload_n (pc := 570) dL_law_570 rfl ?_
  refine r_iconst (pc := 571) (n := 1) dL_law_571 ?_
  refine r_iadd (pc := 572) dL_law_572 ?_
  refine f_sld (pc := 573) dL_law_573 (by assumption) (by omega) (by omega) (by omega) (fun h573 => ?_)
  refine r_aload_n (pc := 574) dL_law_574 rfl ?_
  refine r_iload_n (pc := 575) dL_law_575 rfl ?_
  refine r_iconst (pc := 576) (n := 2) dL_law_576 ?_
  refine r_iadd (pc := 577) dL_law_577 ?_
  refine f_sld (pc := 578) dL_law_578 (by assumption) (by omega) (by omega) (by omega) (fun h578 => ?_)
  refine c_L_60 (pc := 579) dL_law_579 hcs (Nat.le_of_ble_eq_true rfl) ?_
  refine y_valueOf 45 (by omega) (by assumption) hG hM (hw 0 _) (hw 0 _) (fun r579 e579 => ?_)
  have ee : r579 = r565 := e579.trans e565.symm
  subst ee
  refine r_icmpeqS (pc := 582) (tgt := 1423) dL_law_582 rfl ?_
  exact NEXT w G _ _ _ _ hG hC hM (by assumption) rfl rfl
  --stop
set_option maxRecDepth 8000 in
theorem law_modeOf {QG : Option AV → GW → Prop} {w : Wd} {G : GS} {i : Int} {cu su : Nat} {o4 o5 o6 o7 : Option AV} (hcs : cu ≤ 600000 ∧ su ≤ 7302250) (hw : WR w) (hG : GOK G) (hC : CLG G w) (hM : MOG G w) (hi : 0 ≤ i ∧ i + 6 ≤ w 999 0 ∧ w 999 0 ≤ 3072) (NEXT : ∀ (w2 : Wd) (G2 : GS) (p4 p5 p6 p7 : Option AV), GOK G2 → CLG G2 w2 → MOG G2 w2 → WR w2 → w2 0 = w 0 → w2 999 = w 999 → V mL_law room_1 cu su 1423 [some (vR (some 0)), some (vR (some 1)), some (vR (some 385)), some (vI i), p4, p5, p6, p7] [] (fl w2) QG) : V mL_law room_1 cu su 587 [some (vR (some 0)), some (vR (some 1)), some (vR (some 385)), some (vI i), o4, o5, o6, o7] [] (fl w) QG := by
  refine r_aload_n (pc := 587) dL_law_587 rfl ?_
  refine r_aload_n (pc := 588) dL_law_588 rfl ?_
  refine r_iload_n (pc := 589) dL_law_589 rfl ?_
  refine r_iconst (pc := 590) (n := 1) dL_law_590 ?_
  refine r_iadd (pc := 591) dL_law_591 ?_
  refine f_sld (pc := 592) dL_law_592 (by assumption) (by omega) (by omega) (by omega) (fun h592 => ?_)
  refine r_aload_n (pc := 593) dL_law_593 rfl ?_
  refine r_iload_n (pc := 594) dL_law_594 rfl ?_
  refine r_iconst (pc := 595) (n := 2) dL_law_595 ?_
  refine r_iadd (pc := 596) dL_law_596 ?_
  refine f_sld (pc := 597) dL_law_597 (by assumption) (by omega) (by omega) (by omega) (fun h597 => ?_)
  refine c_L_61 (pc := 598) dL_law_598 hcs (Nat.le_of_ble_eq_true rfl) ?_
  refine x_modeOf 45 (by omega) (by assumption) hG hC (hw 0 _) (hw 0 _) (fun r598 e598 => ?_)
  refine r_aload_n (pc := 601) dL_law_601 rfl ?_
  refine r_aload_n (pc := 602) dL_law_602 rfl ?_
  refine r_iload_n (pc := 603) dL_law_603 rfl ?_
  refine r_iconst (pc := 604) (n := 1) dL_law_604 ?_
  refine r_iadd (pc := 605) dL_law_605 ?_
  refine f_sld (pc := 606) dL_law_606 (by assumption) (by omega) (by omega) (by omega) (fun h606 => ?_)
  refine r_aload_n (pc := 607) dL_law_607 rfl ?_
  refine r_iload_n (pc := 608) dL_law_608 rfl ?_
  refine r_iconst (pc := 609) (n := 2) dL_law_609 ?_
  refine r_iadd (pc := 610) dL_law_610 ?_
  refine f_sld (pc := 611) dL_law_611 (by assumption) (by omega) (by omega) (by omega) (fun h611 => ?_)
  refine c_L_64 (pc := 612) dL_law_612 hcs (Nat.le_of_ble_eq_true rfl) ?_
  refine y_modeOf 45 (by omega) (by assumption) hG hM (hw 0 _) (hw 0 _) (fun r612 e612 => ?_)
  have ee : r612 = r598 := e612.trans e598.symm
  subst ee
  refine r_icmpeqS (pc := 615) (tgt := 1423) dL_law_615 rfl ?_
  exact NEXT w G _ _ _ _ hG hC hM (by assumption) rfl rfl
  --stop
set_option maxRecDepth 8000 in
theorem law_slope_0 {QG : Option AV → GW → Prop} {w : Wd} {G : GS} {i : Int} {cu su : Nat} {o4 o5 o6 o7 : Option AV} (hcs : cu ≤ 600000 ∧ su ≤ 7302250) (hw : WR w) (hG : GOK G) (hC : CLG G w) (hM : MOG G w) (hi : 0 ≤ i ∧ i + 6 ≤ w 999 0 ∧ w 999 0 ≤ 3072) (NEXT : ∀ (w2 : Wd) (G2 : GS) (p4 p5 p6 p7 : Option AV), GOK G2 → CLG G2 w2 → MOG G2 w2 → WR w2 → w2 0 = w 0 → w2 999 = w 999 → V mL_law room_1 cu su 1423 [some (vR (some 0)), some (vR (some 1)), some (vR (some 385)), some (vI i), p4, p5, p6, p7] [] (fl w2) QG) (hb : w 0 (i + 3) = 0) : V mL_law room_1 cu su 620 [some (vR (some 0)), some (vR (some 1)), some (vR (some 385)), some (vI i), o4, o5, o6, o7] [] (fl w) QG := by
  refine r_aload_n (pc := 620) dL_law_620 rfl ?_
  refine r_aload_n (pc := 621) dL_law_621 rfl ?_
  refine r_iload_n (pc := 622) dL_law_622 rfl ?_
  refine r_iconst (pc := 623) (n := 1) dL_law_623 ?_
  refine r_iadd (pc := 624) dL_law_624 ?_
  refine f_sld (pc := 625) dL_law_625 (by assumption) (by omega) (by omega) (by omega) (fun h625 => ?_)
  refine r_aload_n (pc := 626) dL_law_626 rfl ?_
  refine r_iload_n (pc := 627) dL_law_627 rfl ?_
  refine r_iconst (pc := 628) (n := 2) dL_law_628 ?_
  refine r_iadd (pc := 629) dL_law_629 ?_
  refine f_sld (pc := 630) dL_law_630 (by assumption) (by omega) (by omega) (by omega) (fun h630 => ?_)
  refine r_aload_n (pc := 631) dL_law_631 rfl ?_
  refine r_iload_n (pc := 632) dL_law_632 rfl ?_
  refine r_iconst (pc := 633) (n := 3) dL_law_633 ?_
  refine r_iadd (pc := 634) dL_law_634 ?_
  refine f_sld (pc := 635) dL_law_635 (by assumption) (by omega) (by omega) (by omega) (fun h635 => ?_)
  refine r_ifeq (pc := 636) (tgt := 643) dL_law_636 rfl (by omega) (fun h636 => ?_) (fun h636 => ?_)
  · refine r_iconst (pc := 643) (n := 0) dL_law_643 ?_
    refine c_L_65 (pc := 644) dL_law_644 hcs (Nat.le_of_ble_eq_true rfl) ?_
    refine x_slope 45 (by omega) (by assumption) hG hC (hw 0 _) (hw 0 _) (show R32 0 by constructor <;> omega) (Or.inl rfl) (fun r644 e644 => ?_)
    refine r_aload_n (pc := 647) dL_law_647 rfl ?_
    refine r_aload_n (pc := 648) dL_law_648 rfl ?_
    refine r_iload_n (pc := 649) dL_law_649 rfl ?_
    refine r_iconst (pc := 650) (n := 1) dL_law_650 ?_
    refine r_iadd (pc := 651) dL_law_651 ?_
    refine f_sld (pc := 652) dL_law_652 (by assumption) (by omega) (by omega) (by omega) (fun h652 => ?_)
    refine r_aload_n (pc := 653) dL_law_653 rfl ?_
    refine r_iload_n (pc := 654) dL_law_654 rfl ?_
    refine r_iconst (pc := 655) (n := 2) dL_law_655 ?_
    refine r_iadd (pc := 656) dL_law_656 ?_
    refine f_sld (pc := 657) dL_law_657 (by assumption) (by omega) (by omega) (by omega) (fun h657 => ?_)
    refine r_aload_n (pc := 658) dL_law_658 rfl ?_
    refine r_iload_n (pc := 659) dL_law_659 rfl ?_
    refine r_iconst (pc := 660) (n := 3) dL_law_660 ?_
    refine r_iadd (pc := 661) dL_law_661 ?_
    refine f_sld (pc := 662) dL_law_662 (by assumption) (by omega) (by omega) (by omega) (fun h662 => ?_)
    refine r_ifeq (pc := 663) (tgt := 670) dL_law_663 rfl (by omega) (fun h663 => ?_) (fun h663 => ?_)
    · refine r_iconst (pc := 670) (n := 0) dL_law_670 ?_
      refine c_L_69 (pc := 671) dL_law_671 hcs (Nat.le_of_ble_eq_true rfl) ?_
      refine y_slope 45 (by omega) (by assumption) hG hM (hw 0 _) (hw 0 _) (show R32 0 by constructor <;> omega) (Or.inl rfl) (fun r671 e671 => ?_)
      have ee : r671 = r644 := e671.trans e644.symm
      subst ee
      refine r_icmpeqS (pc := 674) (tgt := 1423) dL_law_674 rfl ?_
      exact NEXT w G _ _ _ _ hG hC hM (by assumption) rfl rfl
      --stop
    exfalso; omega
    --stop
  exfalso; omega
  --stop
set_option maxRecDepth 8000 in
theorem law_slope_1 {QG : Option AV → GW → Prop} {w : Wd} {G : GS} {i : Int} {cu su : Nat} {o4 o5 o6 o7 : Option AV} (hcs : cu ≤ 600000 ∧ su ≤ 7302250) (hw : WR w) (hG : GOK G) (hC : CLG G w) (hM : MOG G w) (hi : 0 ≤ i ∧ i + 6 ≤ w 999 0 ∧ w 999 0 ≤ 3072) (NEXT : ∀ (w2 : Wd) (G2 : GS) (p4 p5 p6 p7 : Option AV), GOK G2 → CLG G2 w2 → MOG G2 w2 → WR w2 → w2 0 = w 0 → w2 999 = w 999 → V mL_law room_1 cu su 1423 [some (vR (some 0)), some (vR (some 1)), some (vR (some 385)), some (vI i), p4, p5, p6, p7] [] (fl w2) QG) (hb : ¬ w 0 (i + 3) = 0) : V mL_law room_1 cu su 620 [some (vR (some 0)), some (vR (some 1)), some (vR (some 385)), some (vI i), o4, o5, o6, o7] [] (fl w) QG := by
  refine r_aload_n (pc := 620) dL_law_620 rfl ?_
  refine r_aload_n (pc := 621) dL_law_621 rfl ?_
  refine r_iload_n (pc := 622) dL_law_622 rfl ?_
  refine r_iconst (pc := 623) (n := 1) dL_law_623 ?_
  refine r_iadd (pc := 624) dL_law_624 ?_
  refine f_sld (pc := 625) dL_law_625 (by assumption) (by omega) (by omega) (by omega) (fun h625 => ?_)
  refine r_aload_n (pc := 626) dL_law_626 rfl ?_
  refine r_iload_n (pc := 627) dL_law_627 rfl ?_
  refine r_iconst (pc := 628) (n := 2) dL_law_628 ?_
  refine r_iadd (pc := 629) dL_law_629 ?_
  refine f_sld (pc := 630) dL_law_630 (by assumption) (by omega) (by omega) (by omega) (fun h630 => ?_)
  refine r_aload_n (pc := 631) dL_law_631 rfl ?_
  refine r_iload_n (pc := 632) dL_law_632 rfl ?_
  refine r_iconst (pc := 633) (n := 3) dL_law_633 ?_
  refine r_iadd (pc := 634) dL_law_634 ?_
  refine f_sld (pc := 635) dL_law_635 (by assumption) (by omega) (by omega) (by omega) (fun h635 => ?_)
  refine r_ifeq (pc := 636) (tgt := 643) dL_law_636 rfl (by omega) (fun h636 => ?_) (fun h636 => ?_)
  · exfalso; omega
    --stop
  refine r_iconst (pc := 639) (n := 1) dL_law_639 ?_
  refine r_goto (pc := 640) (tgt := 644) dL_law_640 rfl ?_
  refine c_L_65 (pc := 644) dL_law_644 hcs (Nat.le_of_ble_eq_true rfl) ?_
  refine x_slope 45 (by omega) (by assumption) hG hC (hw 0 _) (hw 0 _) (show R32 1 by constructor <;> omega) (Or.inr rfl) (fun r644 e644 => ?_)
  refine r_aload_n (pc := 647) dL_law_647 rfl ?_
  refine r_aload_n (pc := 648) dL_law_648 rfl ?_
  refine r_iload_n (pc := 649) dL_law_649 rfl ?_
  refine r_iconst (pc := 650) (n := 1) dL_law_650 ?_
  refine r_iadd (pc := 651) dL_law_651 ?_
  refine f_sld (pc := 652) dL_law_652 (by assumption) (by omega) (by omega) (by omega) (fun h652 => ?_)
  refine r_aload_n (pc := 653) dL_law_653 rfl ?_
  refine r_iload_n (pc := 654) dL_law_654 rfl ?_
  refine r_iconst (pc := 655) (n := 2) dL_law_655 ?_
  refine r_iadd (pc := 656) dL_law_656 ?_
  refine f_sld (pc := 657) dL_law_657 (by assumption) (by omega) (by omega) (by omega) (fun h657 => ?_)
  refine r_aload_n (pc := 658) dL_law_658 rfl ?_
  refine r_iload_n (pc := 659) dL_law_659 rfl ?_
  refine r_iconst (pc := 660) (n := 3) dL_law_660 ?_
  refine r_iadd (pc := 661) dL_law_661 ?_
  refine f_sld (pc := 662) dL_law_662 (by assumption) (by omega) (by omega) (by omega) (fun h662 => ?_)
  refine r_ifeq (pc := 663) (tgt := 670) dL_law_663 rfl (by omega) (fun h663 => ?_) (fun h663 => ?_)
  · exfalso; omega
    --stop
  refine r_iconst (pc := 666) (n := 1) dL_law_666 ?_
  refine r_goto (pc := 667) (tgt := 671) dL_law_667 rfl ?_
  refine c_L_69 (pc := 671) dL_law_671 hcs (Nat.le_of_ble_eq_true rfl) ?_
  refine y_slope 45 (by omega) (by assumption) hG hM (hw 0 _) (hw 0 _) (show R32 1 by constructor <;> omega) (Or.inr rfl) (fun r671 e671 => ?_)
  have ee : r671 = r644 := e671.trans e644.symm
  subst ee
  refine r_icmpeqS (pc := 674) (tgt := 1423) dL_law_674 rfl ?_
  exact NEXT w G _ _ _ _ hG hC hM (by assumption) rfl rfl
  --stop
theorem law_slope {QG : Option AV → GW → Prop} {w : Wd} {G : GS} {i : Int} {cu su : Nat} {o4 o5 o6 o7 : Option AV} (hcs : cu ≤ 600000 ∧ su ≤ 7302250) (hw : WR w) (hG : GOK G) (hC : CLG G w) (hM : MOG G w) (hi : 0 ≤ i ∧ i + 6 ≤ w 999 0 ∧ w 999 0 ≤ 3072) (NEXT : ∀ (w2 : Wd) (G2 : GS) (p4 p5 p6 p7 : Option AV), GOK G2 → CLG G2 w2 → MOG G2 w2 → WR w2 → w2 0 = w 0 → w2 999 = w 999 → V mL_law room_1 cu su 1423 [some (vR (some 0)), some (vR (some 1)), some (vR (some 385)), some (vI i), p4, p5, p6, p7] [] (fl w2) QG) : V mL_law room_1 cu su 620 [some (vR (some 0)), some (vR (some 1)), some (vR (some 385)), some (vI i), o4, o5, o6, o7] [] (fl w) QG := by
  by_cases hb : w 0 (i + 3) = 0
  · exact law_slope_0 hcs hw hG hC hM hi NEXT hb
  · exact law_slope_1 hcs hw hG hC hM hi NEXT hb
set_option maxRecDepth 8000 in
theorem law_value {QG : Option AV → GW → Prop} {w : Wd} {G : GS} {i : Int} {cu su : Nat} {o4 o5 o6 o7 : Option AV} (hcs : cu ≤ 600000 ∧ su ≤ 7302250) (hw : WR w) (hG : GOK G) (hC : CLG G w) (hM : MOG G w) (hi : 0 ≤ i ∧ i + 6 ≤ w 999 0 ∧ w 999 0 ≤ 3072) (NEXT : ∀ (w2 : Wd) (G2 : GS) (p4 p5 p6 p7 : Option AV), GOK G2 → CLG G2 w2 → MOG G2 w2 → WR w2 → w2 0 = w 0 → w2 999 = w 999 → V mL_law room_1 cu su 1423 [some (vR (some 0)), some (vR (some 1)), some (vR (some 385)), some (vI i), p4, p5, p6, p7] [] (fl w2) QG) : V mL_law room_1 cu su 679 [some (vR (some 0)), some (vR (some 1)), some (vR (some 385)), some (vI i), o4, o5, o6, o7] [] (fl w) QG := by
  refine r_aload_n (pc := 679) dL_law_679 rfl ?_
  refine r_aload_n (pc := 680) dL_law_680 rfl ?_
  refine r_iload_n (pc := 681) dL_law_681 rfl ?_
  refine r_iconst (pc := 682) (n := 1) dL_law_682 ?_
  refine r_iadd (pc := 683) dL_law_683 ?_
  refine f_sld (pc := 684) dL_law_684 (by assumption) (by omega) (by omega) (by omega) (fun h684 => ?_)
  refine r_aload_n (pc := 685) dL_law_685 rfl ?_
  refine r_iload_n (pc := 686) dL_law_686 rfl ?_
  refine r_iconst (pc := 687) (n := 2) dL_law_687 ?_
  refine r_iadd (pc := 688) dL_law_688 ?_
  refine f_sld (pc := 689) dL_law_689 (by assumption) (by omega) (by omega) (by omega) (fun h689 => ?_)
  refine c_L_70 (pc := 690) dL_law_690 hcs (Nat.le_of_ble_eq_true rfl) ?_
  refine x_value 45 (by omega) (by assumption) hG hC (hw 0 _) (hw 0 _) (fun r690 e690 => ?_)
  refine r_aload_n (pc := 693) dL_law_693 rfl ?_
  refine r_aload_n (pc := 694) dL_law_694 rfl ?_
  refine r_iload_n (pc := 695) dL_law_695 rfl ?_
  refine r_iconst (pc := 696) (n := 1) dL_law_696 ?_
  refine r_iadd (pc := 697) dL_law_697 ?_
  refine f_sld (pc := 698) dL_law_698 (by assumption) (by omega) (by omega) (by omega) (fun h698 => ?_)
  refine r_aload_n (pc := 699) dL_law_699 rfl ?_
  refine r_iload_n (pc := 700) dL_law_700 rfl ?_
  refine r_iconst (pc := 701) (n := 2) dL_law_701 ?_
  refine r_iadd (pc := 702) dL_law_702 ?_
  refine f_sld (pc := 703) dL_law_703 (by assumption) (by omega) (by omega) (by omega) (fun h703 => ?_)
  refine c_L_73 (pc := 704) dL_law_704 hcs (Nat.le_of_ble_eq_true rfl) ?_
  refine y_value 45 (by omega) (by assumption) hG hM (hw 0 _) (hw 0 _) (fun r704 e704 => ?_)
  have ee : r704 = r690 := e704.trans e690.symm
  subst ee
  refine r_icmpeqS (pc := 707) (tgt := 1423) dL_law_707 rfl ?_
  exact NEXT w G _ _ _ _ hG hC hM (by assumption) rfl rfl
  --stop
set_option maxRecDepth 8000 in
theorem law_extreme_0 {QG : Option AV → GW → Prop} {w : Wd} {G : GS} {i : Int} {cu su : Nat} {o4 o5 o6 o7 : Option AV} (hcs : cu ≤ 600000 ∧ su ≤ 7302250) (hw : WR w) (hG : GOK G) (hC : CLG G w) (hM : MOG G w) (hi : 0 ≤ i ∧ i + 6 ≤ w 999 0 ∧ w 999 0 ≤ 3072) (NEXT : ∀ (w2 : Wd) (G2 : GS) (p4 p5 p6 p7 : Option AV), GOK G2 → CLG G2 w2 → MOG G2 w2 → WR w2 → w2 0 = w 0 → w2 999 = w 999 → V mL_law room_1 cu su 1423 [some (vR (some 0)), some (vR (some 1)), some (vR (some 385)), some (vI i), p4, p5, p6, p7] [] (fl w2) QG) (hb : w 0 (i + 4) = 0) : V mL_law room_1 cu su 846 [some (vR (some 0)), some (vR (some 1)), some (vR (some 385)), some (vI i), o4, o5, o6, o7] [] (fl w) QG := by
  refine r_aload_n (pc := 846) dL_law_846 rfl ?_
  refine r_aload_n (pc := 847) dL_law_847 rfl ?_
  refine r_iload_n (pc := 848) dL_law_848 rfl ?_
  refine r_iconst (pc := 849) (n := 1) dL_law_849 ?_
  refine r_iadd (pc := 850) dL_law_850 ?_
  refine f_sld (pc := 851) dL_law_851 (by assumption) (by omega) (by omega) (by omega) (fun h851 => ?_)
  refine r_aload_n (pc := 852) dL_law_852 rfl ?_
  refine r_iload_n (pc := 853) dL_law_853 rfl ?_
  refine r_iconst (pc := 854) (n := 2) dL_law_854 ?_
  refine r_iadd (pc := 855) dL_law_855 ?_
  refine f_sld (pc := 856) dL_law_856 (by assumption) (by omega) (by omega) (by omega) (fun h856 => ?_)
  refine r_aload_n (pc := 857) dL_law_857 rfl ?_
  refine r_iload_n (pc := 858) dL_law_858 rfl ?_
  refine r_iconst (pc := 859) (n := 3) dL_law_859 ?_
  refine r_iadd (pc := 860) dL_law_860 ?_
  refine f_sld (pc := 861) dL_law_861 (by assumption) (by omega) (by omega) (by omega) (fun h861 => ?_)
  refine r_aload_n (pc := 862) dL_law_862 rfl ?_
  refine r_iload_n (pc := 863) dL_law_863 rfl ?_
  refine r_iconst (pc := 864) (n := 4) dL_law_864 ?_
  refine r_iadd (pc := 865) dL_law_865 ?_
  refine f_sld (pc := 866) dL_law_866 (by assumption) (by omega) (by omega) (by omega) (fun h866 => ?_)
  refine r_ifeq (pc := 867) (tgt := 874) dL_law_867 rfl (by omega) (fun h867 => ?_) (fun h867 => ?_)
  · refine r_iconst (pc := 874) (n := 0) dL_law_874 ?_
    refine c_L_84 (pc := 875) dL_law_875 hcs (Nat.le_of_ble_eq_true rfl) ?_
    refine x_extreme 45 (by omega) (by assumption) hG hC (hw 0 _) (hw 0 _) (hw 0 _) (show R32 0 by constructor <;> omega) (Or.inl rfl) (fun r875 e875 => ?_)
    refine r_aload_n (pc := 878) dL_law_878 rfl ?_
    refine r_aload_n (pc := 879) dL_law_879 rfl ?_
    refine r_iload_n (pc := 880) dL_law_880 rfl ?_
    refine r_iconst (pc := 881) (n := 1) dL_law_881 ?_
    refine r_iadd (pc := 882) dL_law_882 ?_
    refine f_sld (pc := 883) dL_law_883 (by assumption) (by omega) (by omega) (by omega) (fun h883 => ?_)
    refine r_aload_n (pc := 884) dL_law_884 rfl ?_
    refine r_iload_n (pc := 885) dL_law_885 rfl ?_
    refine r_iconst (pc := 886) (n := 2) dL_law_886 ?_
    refine r_iadd (pc := 887) dL_law_887 ?_
    refine f_sld (pc := 888) dL_law_888 (by assumption) (by omega) (by omega) (by omega) (fun h888 => ?_)
    refine r_aload_n (pc := 889) dL_law_889 rfl ?_
    refine r_iload_n (pc := 890) dL_law_890 rfl ?_
    refine r_iconst (pc := 891) (n := 3) dL_law_891 ?_
    refine r_iadd (pc := 892) dL_law_892 ?_
    refine f_sld (pc := 893) dL_law_893 (by assumption) (by omega) (by omega) (by omega) (fun h893 => ?_)
    refine r_aload_n (pc := 894) dL_law_894 rfl ?_
    refine r_iload_n (pc := 895) dL_law_895 rfl ?_
    refine r_iconst (pc := 896) (n := 4) dL_law_896 ?_
    refine r_iadd (pc := 897) dL_law_897 ?_
    refine f_sld (pc := 898) dL_law_898 (by assumption) (by omega) (by omega) (by omega) (fun h898 => ?_)
    refine r_ifeq (pc := 899) (tgt := 906) dL_law_899 rfl (by omega) (fun h899 => ?_) (fun h899 => ?_)
    · refine r_iconst (pc := 906) (n := 0) dL_law_906 ?_
      refine c_L_88 (pc := 907) dL_law_907 hcs (Nat.le_of_ble_eq_true rfl) ?_
      refine y_extreme 45 (by omega) (by assumption) hG hM (hw 0 _) (hw 0 _) (hw 0 _) (show R32 0 by constructor <;> omega) (Or.inl rfl) (fun r907 e907 => ?_)
      have ee : r907 = r875 := e907.trans e875.symm
      subst ee
      refine r_icmpeqS (pc := 910) (tgt := 1423) dL_law_910 rfl ?_
      exact NEXT w G _ _ _ _ hG hC hM (by assumption) rfl rfl
      --stop
    exfalso; omega
    --stop
  exfalso; omega
  --stop
set_option maxRecDepth 8000 in
theorem law_extreme_1 {QG : Option AV → GW → Prop} {w : Wd} {G : GS} {i : Int} {cu su : Nat} {o4 o5 o6 o7 : Option AV} (hcs : cu ≤ 600000 ∧ su ≤ 7302250) (hw : WR w) (hG : GOK G) (hC : CLG G w) (hM : MOG G w) (hi : 0 ≤ i ∧ i + 6 ≤ w 999 0 ∧ w 999 0 ≤ 3072) (NEXT : ∀ (w2 : Wd) (G2 : GS) (p4 p5 p6 p7 : Option AV), GOK G2 → CLG G2 w2 → MOG G2 w2 → WR w2 → w2 0 = w 0 → w2 999 = w 999 → V mL_law room_1 cu su 1423 [some (vR (some 0)), some (vR (some 1)), some (vR (some 385)), some (vI i), p4, p5, p6, p7] [] (fl w2) QG) (hb : ¬ w 0 (i + 4) = 0) : V mL_law room_1 cu su 846 [some (vR (some 0)), some (vR (some 1)), some (vR (some 385)), some (vI i), o4, o5, o6, o7] [] (fl w) QG := by
  refine r_aload_n (pc := 846) dL_law_846 rfl ?_
  refine r_aload_n (pc := 847) dL_law_847 rfl ?_
  refine r_iload_n (pc := 848) dL_law_848 rfl ?_
  refine r_iconst (pc := 849) (n := 1) dL_law_849 ?_
  refine r_iadd (pc := 850) dL_law_850 ?_
  refine f_sld (pc := 851) dL_law_851 (by assumption) (by omega) (by omega) (by omega) (fun h851 => ?_)
  refine r_aload_n (pc := 852) dL_law_852 rfl ?_
  refine r_iload_n (pc := 853) dL_law_853 rfl ?_
  refine r_iconst (pc := 854) (n := 2) dL_law_854 ?_
  refine r_iadd (pc := 855) dL_law_855 ?_
  refine f_sld (pc := 856) dL_law_856 (by assumption) (by omega) (by omega) (by omega) (fun h856 => ?_)
  refine r_aload_n (pc := 857) dL_law_857 rfl ?_
  refine r_iload_n (pc := 858) dL_law_858 rfl ?_
  refine r_iconst (pc := 859) (n := 3) dL_law_859 ?_
  refine r_iadd (pc := 860) dL_law_860 ?_
  refine f_sld (pc := 861) dL_law_861 (by assumption) (by omega) (by omega) (by omega) (fun h861 => ?_)
  refine r_aload_n (pc := 862) dL_law_862 rfl ?_
  refine r_iload_n (pc := 863) dL_law_863 rfl ?_
  refine r_iconst (pc := 864) (n := 4) dL_law_864 ?_
  refine r_iadd (pc := 865) dL_law_865 ?_
  refine f_sld (pc := 866) dL_law_866 (by assumption) (by omega) (by omega) (by omega) (fun h866 => ?_)
  refine r_ifeq (pc := 867) (tgt := 874) dL_law_867 rfl (by omega) (fun h867 => ?_) (fun h867 => ?_)
  · exfalso; omega
    --stop
  refine r_iconst (pc := 870) (n := 1) dL_law_870 ?_
  refine r_goto (pc := 871) (tgt := 875) dL_law_871 rfl ?_
  refine c_L_84 (pc := 875) dL_law_875 hcs (Nat.le_of_ble_eq_true rfl) ?_
  refine x_extreme 45 (by omega) (by assumption) hG hC (hw 0 _) (hw 0 _) (hw 0 _) (show R32 1 by constructor <;> omega) (Or.inr rfl) (fun r875 e875 => ?_)
  refine r_aload_n (pc := 878) dL_law_878 rfl ?_
  refine r_aload_n (pc := 879) dL_law_879 rfl ?_
  refine r_iload_n (pc := 880) dL_law_880 rfl ?_
  refine r_iconst (pc := 881) (n := 1) dL_law_881 ?_
  refine r_iadd (pc := 882) dL_law_882 ?_
  refine f_sld (pc := 883) dL_law_883 (by assumption) (by omega) (by omega) (by omega) (fun h883 => ?_)
  refine r_aload_n (pc := 884) dL_law_884 rfl ?_
  refine r_iload_n (pc := 885) dL_law_885 rfl ?_
  refine r_iconst (pc := 886) (n := 2) dL_law_886 ?_
  refine r_iadd (pc := 887) dL_law_887 ?_
  refine f_sld (pc := 888) dL_law_888 (by assumption) (by omega) (by omega) (by omega) (fun h888 => ?_)
  refine r_aload_n (pc := 889) dL_law_889 rfl ?_
  refine r_iload_n (pc := 890) dL_law_890 rfl ?_
  refine r_iconst (pc := 891) (n := 3) dL_law_891 ?_
  refine r_iadd (pc := 892) dL_law_892 ?_
  refine f_sld (pc := 893) dL_law_893 (by assumption) (by omega) (by omega) (by omega) (fun h893 => ?_)
  refine r_aload_n (pc := 894) dL_law_894 rfl ?_
  refine r_iload_n (pc := 895) dL_law_895 rfl ?_
  refine r_iconst (pc := 896) (n := 4) dL_law_896 ?_
  refine r_iadd (pc := 897) dL_law_897 ?_
  refine f_sld (pc := 898) dL_law_898 (by assumption) (by omega) (by omega) (by omega) (fun h898 => ?_)
  refine r_ifeq (pc := 899) (tgt := 906) dL_law_899 rfl (by omega) (fun h899 => ?_) (fun h899 => ?_)
  · exfalso; omega
    --stop
  refine r_iconst (pc := 902) (n := 1) dL_law_902 ?_
  refine r_goto (pc := 903) (tgt := 907) dL_law_903 rfl ?_
  refine c_L_88 (pc := 907) dL_law_907 hcs (Nat.le_of_ble_eq_true rfl) ?_
  refine y_extreme 45 (by omega) (by assumption) hG hM (hw 0 _) (hw 0 _) (hw 0 _) (show R32 1 by constructor <;> omega) (Or.inr rfl) (fun r907 e907 => ?_)
  have ee : r907 = r875 := e907.trans e875.symm
  subst ee
  refine r_icmpeqS (pc := 910) (tgt := 1423) dL_law_910 rfl ?_
  exact NEXT w G _ _ _ _ hG hC hM (by assumption) rfl rfl
  --stop
theorem law_extreme {QG : Option AV → GW → Prop} {w : Wd} {G : GS} {i : Int} {cu su : Nat} {o4 o5 o6 o7 : Option AV} (hcs : cu ≤ 600000 ∧ su ≤ 7302250) (hw : WR w) (hG : GOK G) (hC : CLG G w) (hM : MOG G w) (hi : 0 ≤ i ∧ i + 6 ≤ w 999 0 ∧ w 999 0 ≤ 3072) (NEXT : ∀ (w2 : Wd) (G2 : GS) (p4 p5 p6 p7 : Option AV), GOK G2 → CLG G2 w2 → MOG G2 w2 → WR w2 → w2 0 = w 0 → w2 999 = w 999 → V mL_law room_1 cu su 1423 [some (vR (some 0)), some (vR (some 1)), some (vR (some 385)), some (vI i), p4, p5, p6, p7] [] (fl w2) QG) : V mL_law room_1 cu su 846 [some (vR (some 0)), some (vR (some 1)), some (vR (some 385)), some (vI i), o4, o5, o6, o7] [] (fl w) QG := by
  by_cases hb : w 0 (i + 4) = 0
  · exact law_extreme_0 hcs hw hG hC hM hi NEXT hb
  · exact law_extreme_1 hcs hw hG hC hM hi NEXT hb
set_option maxRecDepth 8000 in
theorem law_crossings {QG : Option AV → GW → Prop} {w : Wd} {G : GS} {i : Int} {cu su : Nat} {o4 o5 o6 o7 : Option AV} (hcs : cu ≤ 600000 ∧ su ≤ 7302250) (hw : WR w) (hG : GOK G) (hC : CLG G w) (hM : MOG G w) (hi : 0 ≤ i ∧ i + 6 ≤ w 999 0 ∧ w 999 0 ≤ 3072) (NEXT : ∀ (w2 : Wd) (G2 : GS) (p4 p5 p6 p7 : Option AV), GOK G2 → CLG G2 w2 → MOG G2 w2 → WR w2 → w2 0 = w 0 → w2 999 = w 999 → V mL_law room_1 cu su 1423 [some (vR (some 0)), some (vR (some 1)), some (vR (some 385)), some (vI i), p4, p5, p6, p7] [] (fl w2) QG) : V mL_law room_1 cu su 915 [some (vR (some 0)), some (vR (some 1)), some (vR (some 385)), some (vI i), o4, o5, o6, o7] [] (fl w) QG := by
  refine r_aload_n (pc := 915) dL_law_915 rfl ?_
  refine r_aload_n (pc := 916) dL_law_916 rfl ?_
  refine r_iload_n (pc := 917) dL_law_917 rfl ?_
  refine r_iconst (pc := 918) (n := 1) dL_law_918 ?_
  refine r_iadd (pc := 919) dL_law_919 ?_
  refine f_sld (pc := 920) dL_law_920 (by assumption) (by omega) (by omega) (by omega) (fun h920 => ?_)
  refine r_aload_n (pc := 921) dL_law_921 rfl ?_
  refine r_iload_n (pc := 922) dL_law_922 rfl ?_
  refine r_iconst (pc := 923) (n := 2) dL_law_923 ?_
  refine r_iadd (pc := 924) dL_law_924 ?_
  refine f_sld (pc := 925) dL_law_925 (by assumption) (by omega) (by omega) (by omega) (fun h925 => ?_)
  refine r_aload_n (pc := 926) dL_law_926 rfl ?_
  refine r_iload_n (pc := 927) dL_law_927 rfl ?_
  refine r_iconst (pc := 928) (n := 3) dL_law_928 ?_
  refine r_iadd (pc := 929) dL_law_929 ?_
  refine f_sld (pc := 930) dL_law_930 (by assumption) (by omega) (by omega) (by omega) (fun h930 => ?_)
  refine r_aload_n (pc := 931) dL_law_931 rfl ?_
  refine r_iload_n (pc := 932) dL_law_932 rfl ?_
  refine r_iconst (pc := 933) (n := 4) dL_law_933 ?_
  refine r_iadd (pc := 934) dL_law_934 ?_
  refine f_sld (pc := 935) dL_law_935 (by assumption) (by omega) (by omega) (by omega) (fun h935 => ?_)
  refine c_L_89 (pc := 936) dL_law_936 hcs (Nat.le_of_ble_eq_true rfl) ?_
  refine x_crossings 45 (by omega) (by assumption) hG hC (hw 0 _) (hw 0 _) (hw 0 _) (hw 0 _) (fun r936 e936 => ?_)
  refine r_aload_n (pc := 939) dL_law_939 rfl ?_
  refine r_aload_n (pc := 940) dL_law_940 rfl ?_
  refine r_iload_n (pc := 941) dL_law_941 rfl ?_
  refine r_iconst (pc := 942) (n := 1) dL_law_942 ?_
  refine r_iadd (pc := 943) dL_law_943 ?_
  refine f_sld (pc := 944) dL_law_944 (by assumption) (by omega) (by omega) (by omega) (fun h944 => ?_)
  refine r_aload_n (pc := 945) dL_law_945 rfl ?_
  refine r_iload_n (pc := 946) dL_law_946 rfl ?_
  refine r_iconst (pc := 947) (n := 2) dL_law_947 ?_
  refine r_iadd (pc := 948) dL_law_948 ?_
  refine f_sld (pc := 949) dL_law_949 (by assumption) (by omega) (by omega) (by omega) (fun h949 => ?_)
  refine r_aload_n (pc := 950) dL_law_950 rfl ?_
  refine r_iload_n (pc := 951) dL_law_951 rfl ?_
  refine r_iconst (pc := 952) (n := 3) dL_law_952 ?_
  refine r_iadd (pc := 953) dL_law_953 ?_
  refine f_sld (pc := 954) dL_law_954 (by assumption) (by omega) (by omega) (by omega) (fun h954 => ?_)
  refine r_aload_n (pc := 955) dL_law_955 rfl ?_
  refine r_iload_n (pc := 956) dL_law_956 rfl ?_
  refine r_iconst (pc := 957) (n := 4) dL_law_957 ?_
  refine r_iadd (pc := 958) dL_law_958 ?_
  refine f_sld (pc := 959) dL_law_959 (by assumption) (by omega) (by omega) (by omega) (fun h959 => ?_)
  refine c_L_92 (pc := 960) dL_law_960 hcs (Nat.le_of_ble_eq_true rfl) ?_
  refine y_crossings 45 (by omega) (by assumption) hG hM (hw 0 _) (hw 0 _) (hw 0 _) (hw 0 _) (fun r960 e960 => ?_)
  have ee : r960 = r936 := e960.trans e936.symm
  subst ee
  refine r_icmpeqS (pc := 963) (tgt := 1423) dL_law_963 rfl ?_
  exact NEXT w G _ _ _ _ hG hC hM (by assumption) rfl rfl
  --stop
set_option maxRecDepth 8000 in
theorem law_addPoint {QG : Option AV → GW → Prop} {w : Wd} {G : GS} {i : Int} {cu su : Nat} {o4 o5 o6 o7 : Option AV} (hcs : cu ≤ 600000 ∧ su ≤ 7302250) (hw : WR w) (hG : GOK G) (hC : CLG G w) (hM : MOG G w) (hi : 0 ≤ i ∧ i + 6 ≤ w 999 0 ∧ w 999 0 ≤ 3072) (NEXT : ∀ (w2 : Wd) (G2 : GS) (p4 p5 p6 p7 : Option AV), GOK G2 → CLG G2 w2 → MOG G2 w2 → WR w2 → w2 0 = w 0 → w2 999 = w 999 → V mL_law room_1 cu su 1423 [some (vR (some 0)), some (vR (some 1)), some (vR (some 385)), some (vI i), p4, p5, p6, p7] [] (fl w2) QG) : V mL_law room_1 cu su 968 [some (vR (some 0)), some (vR (some 1)), some (vR (some 385)), some (vI i), o4, o5, o6, o7] [] (fl w) QG := by
  refine r_aload_n (pc := 968) dL_law_968 rfl ?_
  refine r_aload_n (pc := 969) dL_law_969 rfl ?_
  refine r_iload_n (pc := 970) dL_law_970 rfl ?_
  refine r_iconst (pc := 971) (n := 1) dL_law_971 ?_
  refine r_iadd (pc := 972) dL_law_972 ?_
  refine f_sld (pc := 973) dL_law_973 (by assumption) (by omega) (by omega) (by omega) (fun h973 => ?_)
  refine r_aload_n (pc := 974) dL_law_974 rfl ?_
  refine r_iload_n (pc := 975) dL_law_975 rfl ?_
  refine r_iconst (pc := 976) (n := 2) dL_law_976 ?_
  refine r_iadd (pc := 977) dL_law_977 ?_
  refine f_sld (pc := 978) dL_law_978 (by assumption) (by omega) (by omega) (by omega) (fun h978 => ?_)
  refine c_L_93 (pc := 979) dL_law_979 hcs (Nat.le_of_ble_eq_true rfl) ?_
  refine x_addPoint 45 (by omega) (by assumption) hG hC (hw 0 _) (hw 0 _) (fun r979 w979 e979 c979 f979 hw979 => ?_)
  have z979 : w979 0 = w 0 := f979 0 (by omega)
  have y979 : w979 999 = w 999 := f979 999 (by omega)
  have y2979 : w979 999 0 = w 999 0 := by rw [y979]
  have m979 : MOG G w979 := MOG_fl hM f979
  refine r_aload_n (pc := 982) dL_law_982 rfl ?_
  refine r_aload_n (pc := 983) dL_law_983 rfl ?_
  refine r_iload_n (pc := 984) dL_law_984 rfl ?_
  refine r_iconst (pc := 985) (n := 1) dL_law_985 ?_
  refine r_iadd (pc := 986) dL_law_986 ?_
  refine f_sld (pc := 987) dL_law_987 (by assumption) (by omega) (by omega) (by omega) (fun h987 => ?_)
  rw [z979]
  refine r_aload_n (pc := 988) dL_law_988 rfl ?_
  refine r_iload_n (pc := 989) dL_law_989 rfl ?_
  refine r_iconst (pc := 990) (n := 2) dL_law_990 ?_
  refine r_iadd (pc := 991) dL_law_991 ?_
  refine f_sld (pc := 992) dL_law_992 (by assumption) (by omega) (by omega) (by omega) (fun h992 => ?_)
  rw [z979]
  refine c_L_96 (pc := 993) dL_law_993 hcs (Nat.le_of_ble_eq_true rfl) ?_
  refine y_addPoint 45 (by omega) (by assumption) hG m979 (hw 0 _) (hw 0 _) (fun r993 w993 e993 c993 f993 hw993 => ?_)
  have ee : r993 = r979 := e993.trans e979.symm
  subst ee
  refine r_icmpeqS (pc := 996) (tgt := 1423) dL_law_996 rfl ?_
  exact NEXT w993 _ _ _ _ _ (G_addPoint hG _ _) (CLG_fh c979 f993) c993 (by assumption) ((f993 0 (by omega)).trans z979) ((f993 999 (by omega)).trans y979)
  --stop
set_option maxRecDepth 8000 in
theorem law_clearMap {QG : Option AV → GW → Prop} {w : Wd} {G : GS} {i : Int} {cu su : Nat} {o4 o5 o6 o7 : Option AV} (hcs : cu ≤ 600000 ∧ su ≤ 7302250) (hw : WR w) (hG : GOK G) (hC : CLG G w) (hM : MOG G w) (hi : 0 ≤ i ∧ i + 6 ≤ w 999 0 ∧ w 999 0 ≤ 3072) (NEXT : ∀ (w2 : Wd) (G2 : GS) (p4 p5 p6 p7 : Option AV), GOK G2 → CLG G2 w2 → MOG G2 w2 → WR w2 → w2 0 = w 0 → w2 999 = w 999 → V mL_law room_1 cu su 1423 [some (vR (some 0)), some (vR (some 1)), some (vR (some 385)), some (vI i), p4, p5, p6, p7] [] (fl w2) QG) : V mL_law room_1 cu su 1001 [some (vR (some 0)), some (vR (some 1)), some (vR (some 385)), some (vI i), o4, o5, o6, o7] [] (fl w) QG := by
  refine r_aload_n (pc := 1001) dL_law_1001 rfl ?_
  refine c_L_97 (pc := 1002) dL_law_1002 hcs (Nat.le_of_ble_eq_true rfl) ?_
  refine x_clearMap 45 (by omega) (by assumption) hG hC (fun r1002 w1002 e1002 c1002 f1002 hw1002 => ?_)
  have z1002 : w1002 0 = w 0 := f1002 0 (by omega)
  have y1002 : w1002 999 = w 999 := f1002 999 (by omega)
  have y21002 : w1002 999 0 = w 999 0 := by rw [y1002]
  have m1002 : MOG G w1002 := MOG_fl hM f1002
  refine r_aload_n (pc := 1005) dL_law_1005 rfl ?_
  refine c_L_101 (pc := 1006) dL_law_1006 hcs (Nat.le_of_ble_eq_true rfl) ?_
  refine y_clearMap 45 (by omega) (by assumption) hG m1002 (fun r1006 w1006 e1006 c1006 f1006 hw1006 => ?_)
  have ee : r1006 = r1002 := e1006.trans e1002.symm
  subst ee
  refine r_icmpeqS (pc := 1009) (tgt := 1423) dL_law_1009 rfl ?_
  exact NEXT w1006 _ _ _ _ _ (G_clearMap hG) (CLG_fh c1002 f1006) c1006 (by assumption) ((f1006 0 (by omega)).trans z1002) ((f1006 999 (by omega)).trans y1002)
  --stop
set_option maxRecDepth 8000 in
theorem law_mapped {QG : Option AV → GW → Prop} {w : Wd} {G : GS} {i : Int} {cu su : Nat} {o4 o5 o6 o7 : Option AV} (hcs : cu ≤ 600000 ∧ su ≤ 7302250) (hw : WR w) (hG : GOK G) (hC : CLG G w) (hM : MOG G w) (hi : 0 ≤ i ∧ i + 6 ≤ w 999 0 ∧ w 999 0 ≤ 3072) (NEXT : ∀ (w2 : Wd) (G2 : GS) (p4 p5 p6 p7 : Option AV), GOK G2 → CLG G2 w2 → MOG G2 w2 → WR w2 → w2 0 = w 0 → w2 999 = w 999 → V mL_law room_1 cu su 1423 [some (vR (some 0)), some (vR (some 1)), some (vR (some 385)), some (vI i), p4, p5, p6, p7] [] (fl w2) QG) : V mL_law room_1 cu su 1014 [some (vR (some 0)), some (vR (some 1)), some (vR (some 385)), some (vI i), o4, o5, o6, o7] [] (fl w) QG := by
  refine r_aload_n (pc := 1014) dL_law_1014 rfl ?_
  refine r_aload_n (pc := 1015) dL_law_1015 rfl ?_
  refine r_iload_n (pc := 1016) dL_law_1016 rfl ?_
  refine r_iconst (pc := 1017) (n := 1) dL_law_1017 ?_
  refine r_iadd (pc := 1018) dL_law_1018 ?_
  refine f_sld (pc := 1019) dL_law_1019 (by assumption) (by omega) (by omega) (by omega) (fun h1019 => ?_)
  refine c_L_102 (pc := 1020) dL_law_1020 hcs (Nat.le_of_ble_eq_true rfl) ?_
  refine x_mapped 45 (by omega) (by assumption) hG hC (hw 0 _) (fun r1020 e1020 => ?_)
  refine r_aload_n (pc := 1023) dL_law_1023 rfl ?_
  refine r_aload_n (pc := 1024) dL_law_1024 rfl ?_
  refine r_iload_n (pc := 1025) dL_law_1025 rfl ?_
  refine r_iconst (pc := 1026) (n := 1) dL_law_1026 ?_
  refine r_iadd (pc := 1027) dL_law_1027 ?_
  refine f_sld (pc := 1028) dL_law_1028 (by assumption) (by omega) (by omega) (by omega) (fun h1028 => ?_)
  refine c_L_105 (pc := 1029) dL_law_1029 hcs (Nat.le_of_ble_eq_true rfl) ?_
  refine y_mapped 45 (by omega) (by assumption) hG hM (hw 0 _) (fun r1029 e1029 => ?_)
  have ee : r1029 = r1020 := e1029.trans e1020.symm
  subst ee
  refine r_icmpeqS (pc := 1032) (tgt := 1423) dL_law_1032 rfl ?_
  exact NEXT w G _ _ _ _ hG hC hM (by assumption) rfl rfl
  --stop
set_option maxRecDepth 8000 in
theorem law_retime {QG : Option AV → GW → Prop} {w : Wd} {G : GS} {i : Int} {cu su : Nat} {o4 o5 o6 o7 : Option AV} (hcs : cu ≤ 600000 ∧ su ≤ 7302250) (hw : WR w) (hG : GOK G) (hC : CLG G w) (hM : MOG G w) (hi : 0 ≤ i ∧ i + 6 ≤ w 999 0 ∧ w 999 0 ≤ 3072) (NEXT : ∀ (w2 : Wd) (G2 : GS) (p4 p5 p6 p7 : Option AV), GOK G2 → CLG G2 w2 → MOG G2 w2 → WR w2 → w2 0 = w 0 → w2 999 = w 999 → V mL_law room_1 cu su 1423 [some (vR (some 0)), some (vR (some 1)), some (vR (some 385)), some (vI i), p4, p5, p6, p7] [] (fl w2) QG) : V mL_law room_1 cu su 1037 [some (vR (some 0)), some (vR (some 1)), some (vR (some 385)), some (vI i), o4, o5, o6, o7] [] (fl w) QG := by
  refine r_aload_n (pc := 1037) dL_law_1037 rfl ?_
  refine r_aload_n (pc := 1038) dL_law_1038 rfl ?_
  refine r_iload_n (pc := 1039) dL_law_1039 rfl ?_
  refine r_iconst (pc := 1040) (n := 1) dL_law_1040 ?_
  refine r_iadd (pc := 1041) dL_law_1041 ?_
  refine f_sld (pc := 1042) dL_law_1042 (by assumption) (by omega) (by omega) (by omega) (fun h1042 => ?_)
  refine c_L_106 (pc := 1043) dL_law_1043 hcs (Nat.le_of_ble_eq_true rfl) ?_
  refine x_retime 45 (by omega) (by assumption) hG hC (hw 0 _) (fun r1043 w1043 e1043 c1043 f1043 hw1043 => ?_)
  have z1043 : w1043 0 = w 0 := f1043 0 (by omega)
  have y1043 : w1043 999 = w 999 := f1043 999 (by omega)
  have y21043 : w1043 999 0 = w 999 0 := by rw [y1043]
  have m1043 : MOG G w1043 := MOG_fl hM f1043
  refine r_aload_n (pc := 1046) dL_law_1046 rfl ?_
  refine r_aload_n (pc := 1047) dL_law_1047 rfl ?_
  refine r_iload_n (pc := 1048) dL_law_1048 rfl ?_
  refine r_iconst (pc := 1049) (n := 1) dL_law_1049 ?_
  refine r_iadd (pc := 1050) dL_law_1050 ?_
  refine f_sld (pc := 1051) dL_law_1051 (by assumption) (by omega) (by omega) (by omega) (fun h1051 => ?_)
  rw [z1043]
  refine c_L_109 (pc := 1052) dL_law_1052 hcs (Nat.le_of_ble_eq_true rfl) ?_
  refine y_retime 45 (by omega) (by assumption) hG m1043 (hw 0 _) (fun r1052 w1052 e1052 c1052 f1052 hw1052 => ?_)
  have ee : r1052 = r1043 := e1052.trans e1043.symm
  subst ee
  refine r_icmpeqS (pc := 1055) (tgt := 1423) dL_law_1055 rfl ?_
  exact NEXT w1052 _ _ _ _ _ (G_retime hG _) (CLG_fh c1043 f1052) c1052 (by assumption) ((f1052 0 (by omega)).trans z1043) ((f1052 999 (by omega)).trans y1043)
  --stop
set_option maxRecDepth 8000 in
theorem law_bake {QG : Option AV → GW → Prop} {w : Wd} {G : GS} {i : Int} {cu su : Nat} {o4 o5 o6 o7 : Option AV} (hcs : cu ≤ 600000 ∧ su ≤ 7302250) (hw : WR w) (hG : GOK G) (hC : CLG G w) (hM : MOG G w) (hi : 0 ≤ i ∧ i + 6 ≤ w 999 0 ∧ w 999 0 ≤ 3072) (NEXT : ∀ (w2 : Wd) (G2 : GS) (p4 p5 p6 p7 : Option AV), GOK G2 → CLG G2 w2 → MOG G2 w2 → WR w2 → w2 0 = w 0 → w2 999 = w 999 → V mL_law room_1 cu su 1423 [some (vR (some 0)), some (vR (some 1)), some (vR (some 385)), some (vI i), p4, p5, p6, p7] [] (fl w2) QG) : V mL_law room_1 cu su 1060 [some (vR (some 0)), some (vR (some 1)), some (vR (some 385)), some (vI i), o4, o5, o6, o7] [] (fl w) QG := by
  refine r_aload_n (pc := 1060) dL_law_1060 rfl ?_
  refine r_aload_n (pc := 1061) dL_law_1061 rfl ?_
  refine r_iload_n (pc := 1062) dL_law_1062 rfl ?_
  refine r_iconst (pc := 1063) (n := 1) dL_law_1063 ?_
  refine r_iadd (pc := 1064) dL_law_1064 ?_
  refine f_sld (pc := 1065) dL_law_1065 (by assumption) (by omega) (by omega) (by omega) (fun h1065 => ?_)
  refine r_aload_n (pc := 1066) dL_law_1066 rfl ?_
  refine r_iload_n (pc := 1067) dL_law_1067 rfl ?_
  refine r_iconst (pc := 1068) (n := 2) dL_law_1068 ?_
  refine r_iadd (pc := 1069) dL_law_1069 ?_
  refine f_sld (pc := 1070) dL_law_1070 (by assumption) (by omega) (by omega) (by omega) (fun h1070 => ?_)
  refine r_aload_n (pc := 1071) dL_law_1071 rfl ?_
  refine r_iload_n (pc := 1072) dL_law_1072 rfl ?_
  refine r_iconst (pc := 1073) (n := 3) dL_law_1073 ?_
  refine r_iadd (pc := 1074) dL_law_1074 ?_
  refine f_sld (pc := 1075) dL_law_1075 (by assumption) (by omega) (by omega) (by omega) (fun h1075 => ?_)
  refine r_aload_n (pc := 1076) dL_law_1076 rfl ?_
  refine r_iload_n (pc := 1077) dL_law_1077 rfl ?_
  refine r_iconst (pc := 1078) (n := 4) dL_law_1078 ?_
  refine r_iadd (pc := 1079) dL_law_1079 ?_
  refine f_sld (pc := 1080) dL_law_1080 (by assumption) (by omega) (by omega) (by omega) (fun h1080 => ?_)
  refine c_L_110 (pc := 1081) dL_law_1081 hcs (Nat.le_of_ble_eq_true rfl) ?_
  refine x_bake 45 (by omega) (by assumption) hG hC (hw 0 _) (hw 0 _) (hw 0 _) (hw 0 _) (fun r1081 w1081 e1081 c1081 f1081 hw1081 => ?_)
  have z1081 : w1081 0 = w 0 := f1081 0 (by omega)
  have y1081 : w1081 999 = w 999 := f1081 999 (by omega)
  have y21081 : w1081 999 0 = w 999 0 := by rw [y1081]
  have m1081 : MOG G w1081 := MOG_fl hM f1081
  refine r_aload_n (pc := 1084) dL_law_1084 rfl ?_
  refine r_aload_n (pc := 1085) dL_law_1085 rfl ?_
  refine r_iload_n (pc := 1086) dL_law_1086 rfl ?_
  refine r_iconst (pc := 1087) (n := 1) dL_law_1087 ?_
  refine r_iadd (pc := 1088) dL_law_1088 ?_
  refine f_sld (pc := 1089) dL_law_1089 (by assumption) (by omega) (by omega) (by omega) (fun h1089 => ?_)
  rw [z1081]
  refine r_aload_n (pc := 1090) dL_law_1090 rfl ?_
  refine r_iload_n (pc := 1091) dL_law_1091 rfl ?_
  refine r_iconst (pc := 1092) (n := 2) dL_law_1092 ?_
  refine r_iadd (pc := 1093) dL_law_1093 ?_
  refine f_sld (pc := 1094) dL_law_1094 (by assumption) (by omega) (by omega) (by omega) (fun h1094 => ?_)
  rw [z1081]
  refine r_aload_n (pc := 1095) dL_law_1095 rfl ?_
  refine r_iload_n (pc := 1096) dL_law_1096 rfl ?_
  refine r_iconst (pc := 1097) (n := 3) dL_law_1097 ?_
  refine r_iadd (pc := 1098) dL_law_1098 ?_
  refine f_sld (pc := 1099) dL_law_1099 (by assumption) (by omega) (by omega) (by omega) (fun h1099 => ?_)
  rw [z1081]
  refine r_aload_n (pc := 1100) dL_law_1100 rfl ?_
  refine r_iload_n (pc := 1101) dL_law_1101 rfl ?_
  refine r_iconst (pc := 1102) (n := 4) dL_law_1102 ?_
  refine r_iadd (pc := 1103) dL_law_1103 ?_
  refine f_sld (pc := 1104) dL_law_1104 (by assumption) (by omega) (by omega) (by omega) (fun h1104 => ?_)
  rw [z1081]
  refine c_L_113 (pc := 1105) dL_law_1105 hcs (Nat.le_of_ble_eq_true rfl) ?_
  refine y_bake 45 (by omega) (by assumption) hG m1081 (hw 0 _) (hw 0 _) (hw 0 _) (hw 0 _) (fun r1105 w1105 e1105 c1105 f1105 hw1105 => ?_)
  have ee : r1105 = r1081 := e1105.trans e1081.symm
  subst ee
  refine r_icmpeqS (pc := 1108) (tgt := 1423) dL_law_1108 rfl ?_
  exact NEXT w1105 _ _ _ _ _ (G_bake hG _ _ _ _) (CLG_fh c1081 f1105) c1105 (by assumption) ((f1105 0 (by omega)).trans z1081) ((f1105 999 (by omega)).trans y1081)
  --stop
set_option maxRecDepth 8000 in
theorem law_bakeFormula {QG : Option AV → GW → Prop} {w : Wd} {G : GS} {i : Int} {cu su : Nat} {o4 o5 o6 o7 : Option AV} (hcs : cu ≤ 600000 ∧ su ≤ 7302250) (hw : WR w) (hG : GOK G) (hC : CLG G w) (hM : MOG G w) (hi : 0 ≤ i ∧ i + 6 ≤ w 999 0 ∧ w 999 0 ≤ 3072) (NEXT : ∀ (w2 : Wd) (G2 : GS) (p4 p5 p6 p7 : Option AV), GOK G2 → CLG G2 w2 → MOG G2 w2 → WR w2 → w2 0 = w 0 → w2 999 = w 999 → V mL_law room_1 cu su 1423 [some (vR (some 0)), some (vR (some 1)), some (vR (some 385)), some (vI i), p4, p5, p6, p7] [] (fl w2) QG) : V mL_law room_1 cu su 1113 [some (vR (some 0)), some (vR (some 1)), some (vR (some 385)), some (vI i), o4, o5, o6, o7] [] (fl w) QG := by
  refine r_aload_n (pc := 1113) dL_law_1113 rfl ?_
  refine r_aload_n (pc := 1114) dL_law_1114 rfl ?_
  refine r_iload_n (pc := 1115) dL_law_1115 rfl ?_
  refine r_iconst (pc := 1116) (n := 1) dL_law_1116 ?_
  refine r_iadd (pc := 1117) dL_law_1117 ?_
  refine f_sld (pc := 1118) dL_law_1118 (by assumption) (by omega) (by omega) (by omega) (fun h1118 => ?_)
  refine r_aload_n (pc := 1119) dL_law_1119 rfl ?_
  refine r_iload_n (pc := 1120) dL_law_1120 rfl ?_
  refine r_iconst (pc := 1121) (n := 2) dL_law_1121 ?_
  refine r_iadd (pc := 1122) dL_law_1122 ?_
  refine f_sld (pc := 1123) dL_law_1123 (by assumption) (by omega) (by omega) (by omega) (fun h1123 => ?_)
  refine r_aload_n (pc := 1124) dL_law_1124 rfl ?_
  refine r_iload_n (pc := 1125) dL_law_1125 rfl ?_
  refine r_iconst (pc := 1126) (n := 3) dL_law_1126 ?_
  refine r_iadd (pc := 1127) dL_law_1127 ?_
  refine f_sld (pc := 1128) dL_law_1128 (by assumption) (by omega) (by omega) (by omega) (fun h1128 => ?_)
  refine r_aload_n (pc := 1129) dL_law_1129 rfl ?_
  refine r_iload_n (pc := 1130) dL_law_1130 rfl ?_
  refine r_iconst (pc := 1131) (n := 4) dL_law_1131 ?_
  refine r_iadd (pc := 1132) dL_law_1132 ?_
  refine f_sld (pc := 1133) dL_law_1133 (by assumption) (by omega) (by omega) (by omega) (fun h1133 => ?_)
  refine c_L_114 (pc := 1134) dL_law_1134 hcs (Nat.le_of_ble_eq_true rfl) ?_
  refine x_bakeFormula 45 (by omega) (by assumption) hG hC (hw 0 _) (hw 0 _) (hw 0 _) (hw 0 _) (fun r1134 w1134 e1134 c1134 f1134 hw1134 => ?_)
  have z1134 : w1134 0 = w 0 := f1134 0 (by omega)
  have y1134 : w1134 999 = w 999 := f1134 999 (by omega)
  have y21134 : w1134 999 0 = w 999 0 := by rw [y1134]
  have m1134 : MOG G w1134 := MOG_fl hM f1134
  refine r_aload_n (pc := 1137) dL_law_1137 rfl ?_
  refine r_aload_n (pc := 1138) dL_law_1138 rfl ?_
  refine r_iload_n (pc := 1139) dL_law_1139 rfl ?_
  refine r_iconst (pc := 1140) (n := 1) dL_law_1140 ?_
  refine r_iadd (pc := 1141) dL_law_1141 ?_
  refine f_sld (pc := 1142) dL_law_1142 (by assumption) (by omega) (by omega) (by omega) (fun h1142 => ?_)
  rw [z1134]
  refine r_aload_n (pc := 1143) dL_law_1143 rfl ?_
  refine r_iload_n (pc := 1144) dL_law_1144 rfl ?_
  refine r_iconst (pc := 1145) (n := 2) dL_law_1145 ?_
  refine r_iadd (pc := 1146) dL_law_1146 ?_
  refine f_sld (pc := 1147) dL_law_1147 (by assumption) (by omega) (by omega) (by omega) (fun h1147 => ?_)
  rw [z1134]
  refine r_aload_n (pc := 1148) dL_law_1148 rfl ?_
  refine r_iload_n (pc := 1149) dL_law_1149 rfl ?_
  refine r_iconst (pc := 1150) (n := 3) dL_law_1150 ?_
  refine r_iadd (pc := 1151) dL_law_1151 ?_
  refine f_sld (pc := 1152) dL_law_1152 (by assumption) (by omega) (by omega) (by omega) (fun h1152 => ?_)
  rw [z1134]
  refine r_aload_n (pc := 1153) dL_law_1153 rfl ?_
  refine r_iload_n (pc := 1154) dL_law_1154 rfl ?_
  refine r_iconst (pc := 1155) (n := 4) dL_law_1155 ?_
  refine r_iadd (pc := 1156) dL_law_1156 ?_
  refine f_sld (pc := 1157) dL_law_1157 (by assumption) (by omega) (by omega) (by omega) (fun h1157 => ?_)
  rw [z1134]
  refine c_L_117 (pc := 1158) dL_law_1158 hcs (Nat.le_of_ble_eq_true rfl) ?_
  refine y_bakeFormula 45 (by omega) (by assumption) hG m1134 (hw 0 _) (hw 0 _) (hw 0 _) (hw 0 _) (fun r1158 w1158 e1158 c1158 f1158 hw1158 => ?_)
  have ee : r1158 = r1134 := e1158.trans e1134.symm
  subst ee
  refine r_icmpeqS (pc := 1161) (tgt := 1423) dL_law_1161 rfl ?_
  exact NEXT w1158 _ _ _ _ _ (G_bakeFormula hG _ _ _ _) (CLG_fh c1134 f1158) c1158 (by assumption) ((f1158 0 (by omega)).trans z1134) ((f1158 999 (by omega)).trans y1134)
  --stop
set_option maxRecDepth 8000 in
theorem law_polyline {QG : Option AV → GW → Prop} {w : Wd} {G : GS} {i : Int} {cu su : Nat} {o4 o5 o6 o7 : Option AV} (hcs : cu ≤ 600000 ∧ su ≤ 7302250) (hw : WR w) (hG : GOK G) (hC : CLG G w) (hM : MOG G w) (hi : 0 ≤ i ∧ i + 6 ≤ w 999 0 ∧ w 999 0 ≤ 3072) (NEXT : ∀ (w2 : Wd) (G2 : GS) (p4 p5 p6 p7 : Option AV), GOK G2 → CLG G2 w2 → MOG G2 w2 → WR w2 → w2 0 = w 0 → w2 999 = w 999 → V mL_law room_1 cu su 1423 [some (vR (some 0)), some (vR (some 1)), some (vR (some 385)), some (vI i), p4, p5, p6, p7] [] (fl w2) QG) : V mL_law room_1 cu su 1166 [some (vR (some 0)), some (vR (some 1)), some (vR (some 385)), some (vI i), o4, o5, o6, o7] [] (fl w) QG := by
  refine r_aload_n (pc := 1166) dL_law_1166 rfl ?_
  refine r_aload_n (pc := 1167) dL_law_1167 rfl ?_
  refine r_iload_n (pc := 1168) dL_law_1168 rfl ?_
  refine r_iconst (pc := 1169) (n := 1) dL_law_1169 ?_
  refine r_iadd (pc := 1170) dL_law_1170 ?_
  refine f_sld (pc := 1171) dL_law_1171 (by assumption) (by omega) (by omega) (by omega) (fun h1171 => ?_)
  refine r_aload_n (pc := 1172) dL_law_1172 rfl ?_
  refine r_iload_n (pc := 1173) dL_law_1173 rfl ?_
  refine r_iconst (pc := 1174) (n := 2) dL_law_1174 ?_
  refine r_iadd (pc := 1175) dL_law_1175 ?_
  refine f_sld (pc := 1176) dL_law_1176 (by assumption) (by omega) (by omega) (by omega) (fun h1176 => ?_)
  refine r_aload_n (pc := 1177) dL_law_1177 rfl ?_
  refine r_iload_n (pc := 1178) dL_law_1178 rfl ?_
  refine r_iconst (pc := 1179) (n := 3) dL_law_1179 ?_
  refine r_iadd (pc := 1180) dL_law_1180 ?_
  refine f_sld (pc := 1181) dL_law_1181 (by assumption) (by omega) (by omega) (by omega) (fun h1181 => ?_)
  refine r_aload_n (pc := 1182) dL_law_1182 rfl ?_
  refine r_iload_n (pc := 1183) dL_law_1183 rfl ?_
  refine r_iconst (pc := 1184) (n := 4) dL_law_1184 ?_
  refine r_iadd (pc := 1185) dL_law_1185 ?_
  refine f_sld (pc := 1186) dL_law_1186 (by assumption) (by omega) (by omega) (by omega) (fun h1186 => ?_)
  refine r_aload_n (pc := 1187) dL_law_1187 rfl ?_
  refine r_iload_n (pc := 1188) dL_law_1188 rfl ?_
  refine r_iconst (pc := 1189) (n := 5) dL_law_1189 ?_
  refine r_iadd (pc := 1190) dL_law_1190 ?_
  refine f_sld (pc := 1191) dL_law_1191 (by assumption) (by omega) (by omega) (by omega) (fun h1191 => ?_)
  refine c_L_118 (pc := 1192) dL_law_1192 hcs (Nat.le_of_ble_eq_true rfl) ?_
  refine x_polyline 45 (by omega) (by assumption) hG hC (hw 0 _) (hw 0 _) (hw 0 _) (hw 0 _) (hw 0 _) (fun r1192 w1192 e1192 c1192 f1192 hw1192 => ?_)
  have z1192 : w1192 0 = w 0 := f1192 0 (by omega)
  have y1192 : w1192 999 = w 999 := f1192 999 (by omega)
  have y21192 : w1192 999 0 = w 999 0 := by rw [y1192]
  have m1192 : MOG G w1192 := MOG_fl hM f1192
  refine r_aload_n (pc := 1195) dL_law_1195 rfl ?_
  refine r_aload_n (pc := 1196) dL_law_1196 rfl ?_
  refine r_iload_n (pc := 1197) dL_law_1197 rfl ?_
  refine r_iconst (pc := 1198) (n := 1) dL_law_1198 ?_
  refine r_iadd (pc := 1199) dL_law_1199 ?_
  refine f_sld (pc := 1200) dL_law_1200 (by assumption) (by omega) (by omega) (by omega) (fun h1200 => ?_)
  rw [z1192]
  refine r_aload_n (pc := 1201) dL_law_1201 rfl ?_
  refine r_iload_n (pc := 1202) dL_law_1202 rfl ?_
  refine r_iconst (pc := 1203) (n := 2) dL_law_1203 ?_
  refine r_iadd (pc := 1204) dL_law_1204 ?_
  refine f_sld (pc := 1205) dL_law_1205 (by assumption) (by omega) (by omega) (by omega) (fun h1205 => ?_)
  rw [z1192]
  refine r_aload_n (pc := 1206) dL_law_1206 rfl ?_
  refine r_iload_n (pc := 1207) dL_law_1207 rfl ?_
  refine r_iconst (pc := 1208) (n := 3) dL_law_1208 ?_
  refine r_iadd (pc := 1209) dL_law_1209 ?_
  refine f_sld (pc := 1210) dL_law_1210 (by assumption) (by omega) (by omega) (by omega) (fun h1210 => ?_)
  rw [z1192]
  refine r_aload_n (pc := 1211) dL_law_1211 rfl ?_
  refine r_iload_n (pc := 1212) dL_law_1212 rfl ?_
  refine r_iconst (pc := 1213) (n := 4) dL_law_1213 ?_
  refine r_iadd (pc := 1214) dL_law_1214 ?_
  refine f_sld (pc := 1215) dL_law_1215 (by assumption) (by omega) (by omega) (by omega) (fun h1215 => ?_)
  rw [z1192]
  refine r_aload_n (pc := 1216) dL_law_1216 rfl ?_
  refine r_iload_n (pc := 1217) dL_law_1217 rfl ?_
  refine r_iconst (pc := 1218) (n := 5) dL_law_1218 ?_
  refine r_iadd (pc := 1219) dL_law_1219 ?_
  refine f_sld (pc := 1220) dL_law_1220 (by assumption) (by omega) (by omega) (by omega) (fun h1220 => ?_)
  rw [z1192]
  refine c_L_122 (pc := 1221) dL_law_1221 hcs (Nat.le_of_ble_eq_true rfl) ?_
  refine y_polyline 45 (by omega) (by assumption) hG m1192 (hw 0 _) (hw 0 _) (hw 0 _) (hw 0 _) (hw 0 _) (fun r1221 w1221 e1221 c1221 f1221 hw1221 => ?_)
  have ee : r1221 = r1192 := e1221.trans e1192.symm
  subst ee
  refine r_icmpeqS (pc := 1224) (tgt := 1423) dL_law_1224 rfl ?_
  exact NEXT w1221 G _ _ _ _ hG (CLG_fh c1192 f1221) c1221 (by assumption) ((f1221 0 (by omega)).trans z1192) ((f1221 999 (by omega)).trans y1192)
  --stop
set_option maxRecDepth 8000 in
theorem law_decimate {QG : Option AV → GW → Prop} {w : Wd} {G : GS} {i : Int} {cu su : Nat} {o4 o5 o6 o7 : Option AV} (hcs : cu ≤ 600000 ∧ su ≤ 7302250) (hw : WR w) (hG : GOK G) (hC : CLG G w) (hM : MOG G w) (hi : 0 ≤ i ∧ i + 6 ≤ w 999 0 ∧ w 999 0 ≤ 3072) (NEXT : ∀ (w2 : Wd) (G2 : GS) (p4 p5 p6 p7 : Option AV), GOK G2 → CLG G2 w2 → MOG G2 w2 → WR w2 → w2 0 = w 0 → w2 999 = w 999 → V mL_law room_1 cu su 1423 [some (vR (some 0)), some (vR (some 1)), some (vR (some 385)), some (vI i), p4, p5, p6, p7] [] (fl w2) QG) : V mL_law room_1 cu su 1229 [some (vR (some 0)), some (vR (some 1)), some (vR (some 385)), some (vI i), o4, o5, o6, o7] [] (fl w) QG := by
  refine r_aload_n (pc := 1229) dL_law_1229 rfl ?_
  refine r_aload_n (pc := 1230) dL_law_1230 rfl ?_
  refine r_iload_n (pc := 1231) dL_law_1231 rfl ?_
  refine r_iconst (pc := 1232) (n := 1) dL_law_1232 ?_
  refine r_iadd (pc := 1233) dL_law_1233 ?_
  refine f_sld (pc := 1234) dL_law_1234 (by assumption) (by omega) (by omega) (by omega) (fun h1234 => ?_)
  refine r_aload_n (pc := 1235) dL_law_1235 rfl ?_
  refine r_iload_n (pc := 1236) dL_law_1236 rfl ?_
  refine r_iconst (pc := 1237) (n := 2) dL_law_1237 ?_
  refine r_iadd (pc := 1238) dL_law_1238 ?_
  refine f_sld (pc := 1239) dL_law_1239 (by assumption) (by omega) (by omega) (by omega) (fun h1239 => ?_)
  refine c_L_123 (pc := 1240) dL_law_1240 hcs (Nat.le_of_ble_eq_true rfl) ?_
  refine x_decimate 45 (by omega) (by assumption) hG hC (hw 0 _) (hw 0 _) (fun r1240 w1240 e1240 c1240 f1240 hw1240 => ?_)
  have z1240 : w1240 0 = w 0 := f1240 0 (by omega)
  have y1240 : w1240 999 = w 999 := f1240 999 (by omega)
  have y21240 : w1240 999 0 = w 999 0 := by rw [y1240]
  have m1240 : MOG G w1240 := MOG_fl hM f1240
  refine r_aload_n (pc := 1243) dL_law_1243 rfl ?_
  refine r_aload_n (pc := 1244) dL_law_1244 rfl ?_
  refine r_iload_n (pc := 1245) dL_law_1245 rfl ?_
  refine r_iconst (pc := 1246) (n := 1) dL_law_1246 ?_
  refine r_iadd (pc := 1247) dL_law_1247 ?_
  refine f_sld (pc := 1248) dL_law_1248 (by assumption) (by omega) (by omega) (by omega) (fun h1248 => ?_)
  rw [z1240]
  refine r_aload_n (pc := 1249) dL_law_1249 rfl ?_
  refine r_iload_n (pc := 1250) dL_law_1250 rfl ?_
  refine r_iconst (pc := 1251) (n := 2) dL_law_1251 ?_
  refine r_iadd (pc := 1252) dL_law_1252 ?_
  refine f_sld (pc := 1253) dL_law_1253 (by assumption) (by omega) (by omega) (by omega) (fun h1253 => ?_)
  rw [z1240]
  refine c_L_126 (pc := 1254) dL_law_1254 hcs (Nat.le_of_ble_eq_true rfl) ?_
  refine y_decimate 45 (by omega) (by assumption) hG m1240 (hw 0 _) (hw 0 _) (fun r1254 w1254 e1254 c1254 f1254 hw1254 => ?_)
  have ee : r1254 = r1240 := e1254.trans e1240.symm
  subst ee
  refine r_icmpeqS (pc := 1257) (tgt := 1423) dL_law_1257 rfl ?_
  exact NEXT w1254 _ _ _ _ _ (G_decimate hG _ _) (CLG_fh c1240 f1254) c1254 (by assumption) ((f1254 0 (by omega)).trans z1240) ((f1254 999 (by omega)).trans y1240)
  --stop
set_option maxRecDepth 8000 in
theorem law_append {QG : Option AV → GW → Prop} {w : Wd} {G : GS} {i : Int} {cu su : Nat} {o4 o5 o6 o7 : Option AV} (hcs : cu ≤ 600000 ∧ su ≤ 7302250) (hw : WR w) (hG : GOK G) (hC : CLG G w) (hM : MOG G w) (hi : 0 ≤ i ∧ i + 6 ≤ w 999 0 ∧ w 999 0 ≤ 3072) (NEXT : ∀ (w2 : Wd) (G2 : GS) (p4 p5 p6 p7 : Option AV), GOK G2 → CLG G2 w2 → MOG G2 w2 → WR w2 → w2 0 = w 0 → w2 999 = w 999 → V mL_law room_1 cu su 1423 [some (vR (some 0)), some (vR (some 1)), some (vR (some 385)), some (vI i), p4, p5, p6, p7] [] (fl w2) QG) : V mL_law room_1 cu su 1262 [some (vR (some 0)), some (vR (some 1)), some (vR (some 385)), some (vI i), o4, o5, o6, o7] [] (fl w) QG := by
  refine r_aload_n (pc := 1262) dL_law_1262 rfl ?_
  refine r_aload_n (pc := 1263) dL_law_1263 rfl ?_
  refine r_iload_n (pc := 1264) dL_law_1264 rfl ?_
  refine r_iconst (pc := 1265) (n := 1) dL_law_1265 ?_
  refine r_iadd (pc := 1266) dL_law_1266 ?_
  refine f_sld (pc := 1267) dL_law_1267 (by assumption) (by omega) (by omega) (by omega) (fun h1267 => ?_)
  refine c_L_127 (pc := 1268) dL_law_1268 hcs (Nat.le_of_ble_eq_true rfl) ?_
  refine x_append 45 (by omega) (by assumption) hG hC (hw 0 _) (fun r1268 w1268 e1268 c1268 f1268 hw1268 => ?_)
  have z1268 : w1268 0 = w 0 := f1268 0 (by omega)
  have y1268 : w1268 999 = w 999 := f1268 999 (by omega)
  have y21268 : w1268 999 0 = w 999 0 := by rw [y1268]
  have m1268 : MOG G w1268 := MOG_fl hM f1268
  refine r_aload_n (pc := 1271) dL_law_1271 rfl ?_
  refine r_aload_n (pc := 1272) dL_law_1272 rfl ?_
  refine r_iload_n (pc := 1273) dL_law_1273 rfl ?_
  refine r_iconst (pc := 1274) (n := 1) dL_law_1274 ?_
  refine r_iadd (pc := 1275) dL_law_1275 ?_
  refine f_sld (pc := 1276) dL_law_1276 (by assumption) (by omega) (by omega) (by omega) (fun h1276 => ?_)
  rw [z1268]
  refine c_L_130 (pc := 1277) dL_law_1277 hcs (Nat.le_of_ble_eq_true rfl) ?_
  refine y_append 45 (by omega) (by assumption) hG m1268 (hw 0 _) (fun r1277 w1277 e1277 c1277 f1277 hw1277 => ?_)
  have ee : r1277 = r1268 := e1277.trans e1268.symm
  subst ee
  refine r_icmpeqS (pc := 1280) (tgt := 1423) dL_law_1280 rfl ?_
  exact NEXT w1277 _ _ _ _ _ (G_append hG _) (CLG_fh c1268 f1277) c1277 (by assumption) ((f1277 0 (by omega)).trans z1268) ((f1277 999 (by omega)).trans y1268)
  --stop
set_option maxRecDepth 8000 in
theorem law_clearText {QG : Option AV → GW → Prop} {w : Wd} {G : GS} {i : Int} {cu su : Nat} {o4 o5 o6 o7 : Option AV} (hcs : cu ≤ 600000 ∧ su ≤ 7302250) (hw : WR w) (hG : GOK G) (hC : CLG G w) (hM : MOG G w) (hi : 0 ≤ i ∧ i + 6 ≤ w 999 0 ∧ w 999 0 ≤ 3072) (NEXT : ∀ (w2 : Wd) (G2 : GS) (p4 p5 p6 p7 : Option AV), GOK G2 → CLG G2 w2 → MOG G2 w2 → WR w2 → w2 0 = w 0 → w2 999 = w 999 → V mL_law room_1 cu su 1423 [some (vR (some 0)), some (vR (some 1)), some (vR (some 385)), some (vI i), p4, p5, p6, p7] [] (fl w2) QG) : V mL_law room_1 cu su 1285 [some (vR (some 0)), some (vR (some 1)), some (vR (some 385)), some (vI i), o4, o5, o6, o7] [] (fl w) QG := by
  refine r_aload_n (pc := 1285) dL_law_1285 rfl ?_
  refine c_L_131 (pc := 1286) dL_law_1286 hcs (Nat.le_of_ble_eq_true rfl) ?_
  refine x_clearText 45 (by omega) (by assumption) hG hC (fun r1286 w1286 e1286 c1286 f1286 hw1286 => ?_)
  have z1286 : w1286 0 = w 0 := f1286 0 (by omega)
  have y1286 : w1286 999 = w 999 := f1286 999 (by omega)
  have y21286 : w1286 999 0 = w 999 0 := by rw [y1286]
  have m1286 : MOG G w1286 := MOG_fl hM f1286
  refine r_aload_n (pc := 1289) dL_law_1289 rfl ?_
  refine c_L_134 (pc := 1290) dL_law_1290 hcs (Nat.le_of_ble_eq_true rfl) ?_
  refine y_clearText 45 (by omega) (by assumption) hG m1286 (fun r1290 w1290 e1290 c1290 f1290 hw1290 => ?_)
  have ee : r1290 = r1286 := e1290.trans e1286.symm
  subst ee
  refine r_icmpeqS (pc := 1293) (tgt := 1423) dL_law_1293 rfl ?_
  exact NEXT w1290 _ _ _ _ _ (G_clearText hG) (CLG_fh c1286 f1290) c1290 (by assumption) ((f1290 0 (by omega)).trans z1286) ((f1290 999 (by omega)).trans y1286)
  --stop
set_option maxRecDepth 8000 in
theorem law_faultPosition_0 {QG : Option AV → GW → Prop} {w : Wd} {G : GS} {i : Int} {cu su : Nat} {o4 o5 o6 o7 : Option AV} (hcs : cu ≤ 600000 ∧ su ≤ 7302250) (hw : WR w) (hG : GOK G) (hC : CLG G w) (hM : MOG G w) (hi : 0 ≤ i ∧ i + 6 ≤ w 999 0 ∧ w 999 0 ≤ 3072) (NEXT : ∀ (w2 : Wd) (G2 : GS) (p4 p5 p6 p7 : Option AV), GOK G2 → CLG G2 w2 → MOG G2 w2 → WR w2 → w2 0 = w 0 → w2 999 = w 999 → V mL_law room_1 cu su 1423 [some (vR (some 0)), some (vR (some 1)), some (vR (some 385)), some (vI i), p4, p5, p6, p7] [] (fl w2) QG) (hb : w 0 (i + 1) = 0) : V mL_law room_1 cu su 1298 [some (vR (some 0)), some (vR (some 1)), some (vR (some 385)), some (vI i), o4, o5, o6, o7] [] (fl w) QG := by
  refine r_aload_n (pc := 1298) dL_law_1298 rfl ?_
  refine r_aload_n (pc := 1299) dL_law_1299 rfl ?_
  refine r_iload_n (pc := 1300) dL_law_1300 rfl ?_
  refine r_iconst (pc := 1301) (n := 1) dL_law_1301 ?_
  refine r_iadd (pc := 1302) dL_law_1302 ?_
  refine f_sld (pc := 1303) dL_law_1303 (by assumption) (by omega) (by omega) (by omega) (fun h1303 => ?_)
  refine r_ifeq (pc := 1304) (tgt := 1311) dL_law_1304 rfl (by omega) (fun h1304 => ?_) (fun h1304 => ?_)
  · refine r_iconst (pc := 1311) (n := 0) dL_law_1311 ?_
    refine c_L_135 (pc := 1312) dL_law_1312 hcs (Nat.le_of_ble_eq_true rfl) ?_
    refine x_faultPosition 45 (by omega) (by assumption) hG hC (show R32 0 by constructor <;> omega) (Or.inl rfl) (fun r1312 w1312 e1312 c1312 f1312 hw1312 => ?_)
    have z1312 : w1312 0 = w 0 := f1312 0 (by omega)
    have y1312 : w1312 999 = w 999 := f1312 999 (by omega)
    have y21312 : w1312 999 0 = w 999 0 := by rw [y1312]
    have m1312 : MOG G w1312 := MOG_fl hM f1312
    refine r_aload_n (pc := 1315) dL_law_1315 rfl ?_
    refine r_aload_n (pc := 1316) dL_law_1316 rfl ?_
    refine r_iload_n (pc := 1317) dL_law_1317 rfl ?_
    refine r_iconst (pc := 1318) (n := 1) dL_law_1318 ?_
    refine r_iadd (pc := 1319) dL_law_1319 ?_
    refine f_sld (pc := 1320) dL_law_1320 (by assumption) (by omega) (by omega) (by omega) (fun h1320 => ?_)
    rw [z1312]
    refine r_ifeq (pc := 1321) (tgt := 1328) dL_law_1321 rfl (by omega) (fun h1321 => ?_) (fun h1321 => ?_)
    · refine r_iconst (pc := 1328) (n := 0) dL_law_1328 ?_
      refine c_L_139 (pc := 1329) dL_law_1329 hcs (Nat.le_of_ble_eq_true rfl) ?_
      refine y_faultPosition 45 (by omega) (by assumption) hG m1312 (show R32 0 by constructor <;> omega) (Or.inl rfl) (fun r1329 w1329 e1329 c1329 f1329 hw1329 => ?_)
      have ee : r1329 = r1312 := e1329.trans e1312.symm
      subst ee
      refine r_icmpeqS (pc := 1332) (tgt := 1423) dL_law_1332 rfl ?_
      exact NEXT w1329 G _ _ _ _ hG (CLG_fh c1312 f1329) c1329 (by assumption) ((f1329 0 (by omega)).trans z1312) ((f1329 999 (by omega)).trans y1312)
      --stop
    exfalso; omega
    --stop
  exfalso; omega
  --stop
set_option maxRecDepth 8000 in
theorem law_faultPosition_1 {QG : Option AV → GW → Prop} {w : Wd} {G : GS} {i : Int} {cu su : Nat} {o4 o5 o6 o7 : Option AV} (hcs : cu ≤ 600000 ∧ su ≤ 7302250) (hw : WR w) (hG : GOK G) (hC : CLG G w) (hM : MOG G w) (hi : 0 ≤ i ∧ i + 6 ≤ w 999 0 ∧ w 999 0 ≤ 3072) (NEXT : ∀ (w2 : Wd) (G2 : GS) (p4 p5 p6 p7 : Option AV), GOK G2 → CLG G2 w2 → MOG G2 w2 → WR w2 → w2 0 = w 0 → w2 999 = w 999 → V mL_law room_1 cu su 1423 [some (vR (some 0)), some (vR (some 1)), some (vR (some 385)), some (vI i), p4, p5, p6, p7] [] (fl w2) QG) (hb : ¬ w 0 (i + 1) = 0) : V mL_law room_1 cu su 1298 [some (vR (some 0)), some (vR (some 1)), some (vR (some 385)), some (vI i), o4, o5, o6, o7] [] (fl w) QG := by
  refine r_aload_n (pc := 1298) dL_law_1298 rfl ?_
  refine r_aload_n (pc := 1299) dL_law_1299 rfl ?_
  refine r_iload_n (pc := 1300) dL_law_1300 rfl ?_
  refine r_iconst (pc := 1301) (n := 1) dL_law_1301 ?_
  refine r_iadd (pc := 1302) dL_law_1302 ?_
  refine f_sld (pc := 1303) dL_law_1303 (by assumption) (by omega) (by omega) (by omega) (fun h1303 => ?_)
  refine r_ifeq (pc := 1304) (tgt := 1311) dL_law_1304 rfl (by omega) (fun h1304 => ?_) (fun h1304 => ?_)
  · exfalso; omega
    --stop
  refine r_iconst (pc := 1307) (n := 1) dL_law_1307 ?_
  refine r_goto (pc := 1308) (tgt := 1312) dL_law_1308 rfl ?_
  refine c_L_135 (pc := 1312) dL_law_1312 hcs (Nat.le_of_ble_eq_true rfl) ?_
  refine x_faultPosition 45 (by omega) (by assumption) hG hC (show R32 1 by constructor <;> omega) (Or.inr rfl) (fun r1312 w1312 e1312 c1312 f1312 hw1312 => ?_)
  have z1312 : w1312 0 = w 0 := f1312 0 (by omega)
  have y1312 : w1312 999 = w 999 := f1312 999 (by omega)
  have y21312 : w1312 999 0 = w 999 0 := by rw [y1312]
  have m1312 : MOG G w1312 := MOG_fl hM f1312
  refine r_aload_n (pc := 1315) dL_law_1315 rfl ?_
  refine r_aload_n (pc := 1316) dL_law_1316 rfl ?_
  refine r_iload_n (pc := 1317) dL_law_1317 rfl ?_
  refine r_iconst (pc := 1318) (n := 1) dL_law_1318 ?_
  refine r_iadd (pc := 1319) dL_law_1319 ?_
  refine f_sld (pc := 1320) dL_law_1320 (by assumption) (by omega) (by omega) (by omega) (fun h1320 => ?_)
  rw [z1312]
  refine r_ifeq (pc := 1321) (tgt := 1328) dL_law_1321 rfl (by omega) (fun h1321 => ?_) (fun h1321 => ?_)
  · exfalso; omega
    --stop
  refine r_iconst (pc := 1324) (n := 1) dL_law_1324 ?_
  refine r_goto (pc := 1325) (tgt := 1329) dL_law_1325 rfl ?_
  refine c_L_139 (pc := 1329) dL_law_1329 hcs (Nat.le_of_ble_eq_true rfl) ?_
  refine y_faultPosition 45 (by omega) (by assumption) hG m1312 (show R32 1 by constructor <;> omega) (Or.inr rfl) (fun r1329 w1329 e1329 c1329 f1329 hw1329 => ?_)
  have ee : r1329 = r1312 := e1329.trans e1312.symm
  subst ee
  refine r_icmpeqS (pc := 1332) (tgt := 1423) dL_law_1332 rfl ?_
  exact NEXT w1329 G _ _ _ _ hG (CLG_fh c1312 f1329) c1329 (by assumption) ((f1329 0 (by omega)).trans z1312) ((f1329 999 (by omega)).trans y1312)
  --stop
theorem law_faultPosition {QG : Option AV → GW → Prop} {w : Wd} {G : GS} {i : Int} {cu su : Nat} {o4 o5 o6 o7 : Option AV} (hcs : cu ≤ 600000 ∧ su ≤ 7302250) (hw : WR w) (hG : GOK G) (hC : CLG G w) (hM : MOG G w) (hi : 0 ≤ i ∧ i + 6 ≤ w 999 0 ∧ w 999 0 ≤ 3072) (NEXT : ∀ (w2 : Wd) (G2 : GS) (p4 p5 p6 p7 : Option AV), GOK G2 → CLG G2 w2 → MOG G2 w2 → WR w2 → w2 0 = w 0 → w2 999 = w 999 → V mL_law room_1 cu su 1423 [some (vR (some 0)), some (vR (some 1)), some (vR (some 385)), some (vI i), p4, p5, p6, p7] [] (fl w2) QG) : V mL_law room_1 cu su 1298 [some (vR (some 0)), some (vR (some 1)), some (vR (some 385)), some (vI i), o4, o5, o6, o7] [] (fl w) QG := by
  by_cases hb : w 0 (i + 1) = 0
  · exact law_faultPosition_0 hcs hw hG hC hM hi NEXT hb
  · exact law_faultPosition_1 hcs hw hG hC hM hi NEXT hb
set_option maxRecDepth 8000 in
theorem law_readCurve {QG : Option AV → GW → Prop} {w : Wd} {G : GS} {i : Int} {cu su : Nat} {o4 o5 o6 o7 : Option AV} (hcs : cu ≤ 600000 ∧ su ≤ 7302250) (hw : WR w) (hG : GOK G) (hC : CLG G w) (hM : MOG G w) (hi : 0 ≤ i ∧ i + 6 ≤ w 999 0 ∧ w 999 0 ≤ 3072) (NEXT : ∀ (w2 : Wd) (G2 : GS) (p4 p5 p6 p7 : Option AV), GOK G2 → CLG G2 w2 → MOG G2 w2 → WR w2 → w2 0 = w 0 → w2 999 = w 999 → V mL_law room_1 cu su 1423 [some (vR (some 0)), some (vR (some 1)), some (vR (some 385)), some (vI i), p4, p5, p6, p7] [] (fl w2) QG) : V mL_law room_1 cu su 1337 [some (vR (some 0)), some (vR (some 1)), some (vR (some 385)), some (vI i), o4, o5, o6, o7] [] (fl w) QG := by
  refine r_aload_n (pc := 1337) dL_law_1337 rfl ?_
  refine r_aload_n (pc := 1338) dL_law_1338 rfl ?_
  refine r_iload_n (pc := 1339) dL_law_1339 rfl ?_
  refine r_iconst (pc := 1340) (n := 1) dL_law_1340 ?_
  refine r_iadd (pc := 1341) dL_law_1341 ?_
  refine f_sld (pc := 1342) dL_law_1342 (by assumption) (by omega) (by omega) (by omega) (fun h1342 => ?_)
  refine c_L_140 (pc := 1343) dL_law_1343 hcs (Nat.le_of_ble_eq_true rfl) ?_
  refine x_readCurve 45 (by omega) (by assumption) hG hC (hw 0 _) (fun r1343 w1343 e1343 c1343 f1343 hw1343 => ?_)
  have z1343 : w1343 0 = w 0 := f1343 0 (by omega)
  have y1343 : w1343 999 = w 999 := f1343 999 (by omega)
  have y21343 : w1343 999 0 = w 999 0 := by rw [y1343]
  have m1343 : MOG G w1343 := MOG_fl hM f1343
  refine r_aload_n (pc := 1346) dL_law_1346 rfl ?_
  refine r_aload_n (pc := 1347) dL_law_1347 rfl ?_
  refine r_iload_n (pc := 1348) dL_law_1348 rfl ?_
  refine r_iconst (pc := 1349) (n := 1) dL_law_1349 ?_
  refine r_iadd (pc := 1350) dL_law_1350 ?_
  refine f_sld (pc := 1351) dL_law_1351 (by assumption) (by omega) (by omega) (by omega) (fun h1351 => ?_)
  rw [z1343]
  refine c_L_143 (pc := 1352) dL_law_1352 hcs (Nat.le_of_ble_eq_true rfl) ?_
  refine y_readCurve 45 (by omega) (by assumption) hG m1343 (hw 0 _) (fun r1352 w1352 e1352 c1352 f1352 hw1352 => ?_)
  have ee : r1352 = r1343 := e1352.trans e1343.symm
  subst ee
  refine r_icmpeqS (pc := 1355) (tgt := 1423) dL_law_1355 rfl ?_
  exact NEXT w1352 _ _ _ _ _ (G_readCurve hG _) (CLG_fh c1343 f1352) c1352 (by assumption) ((f1352 0 (by omega)).trans z1343) ((f1352 999 (by omega)).trans y1343)
  --stop
set_option maxRecDepth 8000 in
theorem law_readFormula {QG : Option AV → GW → Prop} {w : Wd} {G : GS} {i : Int} {cu su : Nat} {o4 o5 o6 o7 : Option AV} (hcs : cu ≤ 600000 ∧ su ≤ 7302250) (hw : WR w) (hG : GOK G) (hC : CLG G w) (hM : MOG G w) (hi : 0 ≤ i ∧ i + 6 ≤ w 999 0 ∧ w 999 0 ≤ 3072) (NEXT : ∀ (w2 : Wd) (G2 : GS) (p4 p5 p6 p7 : Option AV), GOK G2 → CLG G2 w2 → MOG G2 w2 → WR w2 → w2 0 = w 0 → w2 999 = w 999 → V mL_law room_1 cu su 1423 [some (vR (some 0)), some (vR (some 1)), some (vR (some 385)), some (vI i), p4, p5, p6, p7] [] (fl w2) QG) : V mL_law room_1 cu su 1360 [some (vR (some 0)), some (vR (some 1)), some (vR (some 385)), some (vI i), o4, o5, o6, o7] [] (fl w) QG := by
  refine r_aload_n (pc := 1360) dL_law_1360 rfl ?_
  refine c_L_144 (pc := 1361) dL_law_1361 hcs (Nat.le_of_ble_eq_true rfl) ?_
  refine x_readFormula 45 (by omega) (by assumption) hG hC (fun r1361 w1361 e1361 c1361 f1361 hw1361 => ?_)
  have z1361 : w1361 0 = w 0 := f1361 0 (by omega)
  have y1361 : w1361 999 = w 999 := f1361 999 (by omega)
  have y21361 : w1361 999 0 = w 999 0 := by rw [y1361]
  have m1361 : MOG G w1361 := MOG_fl hM f1361
  refine r_aload_n (pc := 1364) dL_law_1364 rfl ?_
  refine c_L_147 (pc := 1365) dL_law_1365 hcs (Nat.le_of_ble_eq_true rfl) ?_
  refine y_readFormula 45 (by omega) (by assumption) hG m1361 (fun r1365 w1365 e1365 c1365 f1365 hw1365 => ?_)
  have ee : r1365 = r1361 := e1365.trans e1361.symm
  subst ee
  refine r_icmpeqS (pc := 1368) (tgt := 1423) dL_law_1368 rfl ?_
  exact NEXT w1365 _ _ _ _ _ (G_readFormula hG) (CLG_fh c1361 f1365) c1365 (by assumption) ((f1365 0 (by omega)).trans z1361) ((f1365 999 (by omega)).trans y1361)
  --stop
set_option maxRecDepth 8000 in
theorem law_mix {QG : Option AV → GW → Prop} {w : Wd} {G : GS} {i : Int} {cu su : Nat} {o4 o5 o6 o7 : Option AV} (hcs : cu ≤ 600000 ∧ su ≤ 7302250) (hw : WR w) (hG : GOK G) (hC : CLG G w) (hM : MOG G w) (hi : 0 ≤ i ∧ i + 6 ≤ w 999 0 ∧ w 999 0 ≤ 3072) (NEXT : ∀ (w2 : Wd) (G2 : GS) (p4 p5 p6 p7 : Option AV), GOK G2 → CLG G2 w2 → MOG G2 w2 → WR w2 → w2 0 = w 0 → w2 999 = w 999 → V mL_law room_1 cu su 1423 [some (vR (some 0)), some (vR (some 1)), some (vR (some 385)), some (vI i), p4, p5, p6, p7] [] (fl w2) QG) : V mL_law room_1 cu su 1373 [some (vR (some 0)), some (vR (some 1)), some (vR (some 385)), some (vI i), o4, o5, o6, o7] [] (fl w) QG := by
  refine r_aload_n (pc := 1373) dL_law_1373 rfl ?_
  refine r_aload_n (pc := 1374) dL_law_1374 rfl ?_
  refine r_iload_n (pc := 1375) dL_law_1375 rfl ?_
  refine r_iconst (pc := 1376) (n := 1) dL_law_1376 ?_
  refine r_iadd (pc := 1377) dL_law_1377 ?_
  refine f_sld (pc := 1378) dL_law_1378 (by assumption) (by omega) (by omega) (by omega) (fun h1378 => ?_)
  refine c_L_148 (pc := 1379) dL_law_1379 hcs (Nat.le_of_ble_eq_true rfl) ?_
  refine x_mix 45 (by omega) (by assumption) hG hC (hw 0 _) (fun r1379 w1379 e1379 c1379 f1379 hw1379 => ?_)
  have z1379 : w1379 0 = w 0 := f1379 0 (by omega)
  have y1379 : w1379 999 = w 999 := f1379 999 (by omega)
  have y21379 : w1379 999 0 = w 999 0 := by rw [y1379]
  have m1379 : MOG G w1379 := MOG_fl hM f1379
  refine r_aload_n (pc := 1382) dL_law_1382 rfl ?_
  refine r_aload_n (pc := 1383) dL_law_1383 rfl ?_
  refine r_iload_n (pc := 1384) dL_law_1384 rfl ?_
  refine r_iconst (pc := 1385) (n := 1) dL_law_1385 ?_
  refine r_iadd (pc := 1386) dL_law_1386 ?_
  refine f_sld (pc := 1387) dL_law_1387 (by assumption) (by omega) (by omega) (by omega) (fun h1387 => ?_)
  rw [z1379]
  refine c_L_151 (pc := 1388) dL_law_1388 hcs (Nat.le_of_ble_eq_true rfl) ?_
  refine y_mix 45 (by omega) (by assumption) hG m1379 (hw 0 _) (fun r1388 w1388 e1388 c1388 f1388 hw1388 => ?_)
  have ee : r1388 = r1379 := e1388.trans e1379.symm
  subst ee
  refine r_icmpeqS (pc := 1391) (tgt := 1423) dL_law_1391 rfl ?_
  exact NEXT w1388 G _ _ _ _ hG (CLG_fh c1379 f1388) c1388 (by assumption) ((f1388 0 (by omega)).trans z1379) ((f1388 999 (by omega)).trans y1379)
  --stop
set_option maxRecDepth 8000 in
theorem law_undo {QG : Option AV → GW → Prop} {w : Wd} {G : GS} {i : Int} {cu su : Nat} {o4 o5 o6 o7 : Option AV} (hcs : cu ≤ 600000 ∧ su ≤ 7302250) (hw : WR w) (hG : GOK G) (hC : CLG G w) (hM : MOG G w) (hi : 0 ≤ i ∧ i + 6 ≤ w 999 0 ∧ w 999 0 ≤ 3072) (NEXT : ∀ (w2 : Wd) (G2 : GS) (p4 p5 p6 p7 : Option AV), GOK G2 → CLG G2 w2 → MOG G2 w2 → WR w2 → w2 0 = w 0 → w2 999 = w 999 → V mL_law room_1 cu su 1423 [some (vR (some 0)), some (vR (some 1)), some (vR (some 385)), some (vI i), p4, p5, p6, p7] [] (fl w2) QG) : V mL_law room_1 cu su 1396 [some (vR (some 0)), some (vR (some 1)), some (vR (some 385)), some (vI i), o4, o5, o6, o7] [] (fl w) QG := by
  refine r_aload_n (pc := 1396) dL_law_1396 rfl ?_
  refine c_L_152 (pc := 1397) dL_law_1397 hcs (Nat.le_of_ble_eq_true rfl) ?_
  refine x_undo 45 (by omega) (by assumption) hG hC (fun r1397 w1397 e1397 c1397 f1397 hw1397 => ?_)
  have z1397 : w1397 0 = w 0 := f1397 0 (by omega)
  have y1397 : w1397 999 = w 999 := f1397 999 (by omega)
  have y21397 : w1397 999 0 = w 999 0 := by rw [y1397]
  have m1397 : MOG G w1397 := MOG_fl hM f1397
  refine r_aload_n (pc := 1400) dL_law_1400 rfl ?_
  refine c_L_155 (pc := 1401) dL_law_1401 hcs (Nat.le_of_ble_eq_true rfl) ?_
  refine y_undo 45 (by omega) (by assumption) hG m1397 (fun r1401 w1401 e1401 c1401 f1401 hw1401 => ?_)
  have ee : r1401 = r1397 := e1401.trans e1397.symm
  subst ee
  refine r_icmpeqS (pc := 1404) (tgt := 1423) dL_law_1404 rfl ?_
  exact NEXT w1401 _ _ _ _ _ (G_undo hG) (CLG_fh c1397 f1401) c1401 (by assumption) ((f1401 0 (by omega)).trans z1397) ((f1401 999 (by omega)).trans y1397)
  --stop
set_option maxRecDepth 8000 in
theorem law_checksum {QG : Option AV → GW → Prop} {w : Wd} {G : GS} {i : Int} {cu su : Nat} {o4 o5 o6 o7 : Option AV} (hcs : cu ≤ 600000 ∧ su ≤ 7302250) (hw : WR w) (hG : GOK G) (hC : CLG G w) (hM : MOG G w) (hi : 0 ≤ i ∧ i + 6 ≤ w 999 0 ∧ w 999 0 ≤ 3072) (NEXT : ∀ (w2 : Wd) (G2 : GS) (p4 p5 p6 p7 : Option AV), GOK G2 → CLG G2 w2 → MOG G2 w2 → WR w2 → w2 0 = w 0 → w2 999 = w 999 → V mL_law room_1 cu su 1423 [some (vR (some 0)), some (vR (some 1)), some (vR (some 385)), some (vI i), p4, p5, p6, p7] [] (fl w2) QG) : V mL_law room_1 cu su 1409 [some (vR (some 0)), some (vR (some 1)), some (vR (some 385)), some (vI i), o4, o5, o6, o7] [] (fl w) QG := by
  refine r_aload_n (pc := 1409) dL_law_1409 rfl ?_
  refine c_L_156 (pc := 1410) dL_law_1410 hcs (Nat.le_of_ble_eq_true rfl) ?_
  refine x_checksum 45 (by omega) (by assumption) hG hC (fun r1410 w1410 e1410 c1410 f1410 hw1410 => ?_)
  have z1410 : w1410 0 = w 0 := f1410 0 (by omega)
  have y1410 : w1410 999 = w 999 := f1410 999 (by omega)
  have y21410 : w1410 999 0 = w 999 0 := by rw [y1410]
  have m1410 : MOG G w1410 := MOG_fl hM f1410
  refine r_aload_n (pc := 1413) dL_law_1413 rfl ?_
  refine c_L_160 (pc := 1414) dL_law_1414 hcs (Nat.le_of_ble_eq_true rfl) ?_
  refine y_checksum 45 (by omega) (by assumption) hG m1410 (fun r1414 w1414 e1414 c1414 f1414 hw1414 => ?_)
  have ee : r1414 = r1410 := e1414.trans e1410.symm
  subst ee
  refine r_lcmpS (pc := 1417) dL_law_1417 ?_
  refine r_ifeq (pc := 1418) (tgt := 1423) dL_law_1418 rfl z0r (fun _ => ?_) (fun h => absurd rfl h)
  exact NEXT w1414 G _ _ _ _ hG (CLG_fh c1410 f1414) c1414 (by assumption) ((f1414 0 (by omega)).trans z1410) ((f1414 999 (by omega)).trans y1410)
  --stop
