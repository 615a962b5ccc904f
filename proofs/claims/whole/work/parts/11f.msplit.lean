/-! the model's split -/
theorem insX_w {X Y : CP} (e : CEV X Y) {k f a b m n s t x y : Int} (hk : 0 ≤ k ∧ k ≤ X 0 0) (ha : a = b) (hm : m = n) (hs : m = 0 → s = x ∧ t = y) : CEV (insX X k (v5 f a m s t)) (insX Y k (v5 f b n x y)) := insX_cv e hk rfl ha hm hs
theorem CI_in3 {Y : CP} (D : CI Y) {k f a m s t : Int} (hn : Y 0 0 ≤ 23) (hk : KB (Y 0 0) (Y 1) f k) (hne : k < Y 0 0 → Y 1 k ≠ f) (hv : KI f a m s t) : CI (insX Y k (v5 f a m s t)) := CI_ins (v := v5 f a m s t) D hn hk hne hv
set_option maxRecDepth 8000 in
theorem y_split {Q : Option AV → Wd → Prop} {w : Wd} (d : Nat) {G : GS} {q f : Int} (hd : 9 ≤ d) (hw : WR w) (hG : GOK G) (hC : MOG G w) (rq : R32 q) (rf : R32 f) (hQ : ∀ r w2, r = (o_split G q f).1 → MOG (o_split G q f).2 w2 → FRH w w2 → WR w2 → Q (some (vI r)) w2) : M mX12_split (Rm d) [vR (some 385), vI q, vI f] (fl w) (lQ Q) := by
  have hp := MOG.hp hG hC
  have hG2 := GOK_rec hG
  refine f_mofv (L0 := [some (vR (some 385)), some (vI q), some (vI f), none, none, none, none, none]) rfl (Nat.le_of_ble_eq_true rfl) rfl ?_
  have cut197 : ∀ w65 : Wd, MOG (recG G) w65 → mx w65 q = mx w q → FRH w w65 → WR w65 → (0 ≤ q ∧ q ≤ 3) → CI (mx w q) → CEV (G.now.c q) (mx w q) → ∀ b : Int, b = kbX (mx w q) f → 1 ≤ b → b < mx w q 0 0 → mx w q 0 0 ≤ 23 → 0 ≤ f → f ≤ 480 → (∀ j, 0 ≤ j → j < mx w q 0 0 → mx w q 1 j ≠ f) → o_split G q f = (kbX (spY (G.now.c q) b) f, setC (recG G) q (spX (G.now.c q) f b)) → ∀ (x y nn : Int), x = valS (mx w q) f → R32 x → y = spS (mx w q) f → (-9999 ≤ y ∧ y ≤ 9999) → ∀ (i h : Int) (w2 : Wd), i + 1 = b → (h = 0 ∨ h = 1) → (h = 1 ↔ mx w q 3 i = 6) → FQ q w65 w2 → CEV (spY (mx w q) b) (mx w2 q) → CI (mx w2 q) → WR w2 → V mX12_split (Rm d) 0 0 197 [some (vR (some 385)), some (vI q), some (vI f), some (vI nn), some (vI x), some (vI y), some (vI i), some (vI h)] [] (fl w2) (lQ Q) := by
    intro w65 C65 X65 FL65 hw65 hq I0 CV b hb b1 b2 n23 f0 f9 NE o x y nn hx rx hy yb
    have KB0 := kbX_KB (X := mx w q) I0.1.1 f
    rw [← hb] at KB0
    obtain ⟨kb0, kb1, kb2, kb3⟩ := KB0
    intro i h w2 hi h01 hh f2 Y2 I2 hw2
    have n2 : mx w2 q 0 0 = mx w q 0 0 := by rw [← Y2.1, spY_r (by omega)]
    have R1 : ∀ j, 0 ≤ j → j < mx w2 q 0 0 → mx w2 q 1 j = mx w q 1 j := fun j j0 j1 => by rw [← Y2.row (by omega) (by omega) j0 (by rw [Y2.1]; exact j1), spY_r (by omega)]
    have P0 := I0.2.1 i (by omega) (by omega)
    refine r_iload (pc := 197) dX12_split_197 rfl ?_
    refine r_ifeq (pc := 199) (tgt := 228) dX12_split_199 rfl (by omega) (fun h199 => ?_) (fun h199 => ?_)
    · refine r_aload_n (pc := 228) dX12_split_228 rfl ?_
      refine r_iload_n (pc := 229) dX12_split_229 rfl ?_
      refine r_iload_n (pc := 230) dX12_split_230 rfl ?_
      refine r_iload (pc := 231) dX12_split_231 rfl ?_
      refine r_i2l (pc := 233) dX12_split_233 (by first | assumption | omega) ?_
      refine c_X12_161 (pc := 234) rfl dX12_split_234 (by omega) (Nat.le_of_ble_eq_true rfl) ?_
      refine m_X12_inUnits (d - 1) (by omega) (by assumption)  (fun r234 e234 b234 => ?_)
      refine r_iconst (pc := 237) (n := 0) dX12_split_237 ?_
      refine r_iload (pc := 238) dX12_split_238 rfl ?_
      refine r_iload (pc := 240) dX12_split_240 rfl ?_
      refine c_X12_149 (pc := 242) rfl dX12_split_242 (by first | assumption | rfl) (by omega) (Nat.le_of_ble_eq_true rfl) ?_
      refine m_X12_inserts (d - 1) (by omega) (by assumption) hq I2 (by omega) (fun j j0 j1 => ?_) (by omega) (by omega) (by omega) (by omega) (by omega) (fun k242 w242 b242 f242 e242 hw242 => ?_)
      · rw [R1 j j0 j1]
        exact NE j j0 (by omega)
      have kk := kbX_of I2.1.1 b242
      have CI3 : CI (mx w242 q) := (CI_in3 I2 (by omega) b242 (fun z => by rw [R1 _ b242.1 z]; exact NE _ b242.1 (by omega)) (by unfold KI; omega)).eq e242.sy
      have CE3 : CEV (spX (mx w q) f b) (mx w242 q) := by
        refine CEV.tr ?_ e242.sy.v
        unfold spX
        rw [kk, ← kbX_cg Y2]
        exact insX_w Y2 ⟨by rw [kbX_cg Y2, ← kk]; exact b242.1, by rw [kbX_cg Y2, ← kk, Y2.1]; exact b242.2.1⟩ (by unfold spH; rw [show b - 1 = i by omega, if_neg (fun z => by have := hh.mpr z; omega), e234, hx]) (by rw [show b - 1 = i by omega, if_neg (fun z => by have := hh.mpr z; omega)]) (fun _ => ⟨hy.symm, hy.symm⟩)
      have C242 := MOG_fq hG2 hq C65 (f2.tr f242) (X := spX (G.now.c q) f b) ((CV.spl I0 (by rw [CV.1]; omega)).tr CE3) CI3
      rw [← kbX_cg ((spY_cv CV (b := b) (by rw [CV.1]; omega)).tr Y2)] at kk
      exact f_iret (pc := 245) dX12_split_245 rfl (by assumption) (hQ _ _ (fst_m o kk) (snd_m o C242) (FL65.tr (fun p e => (f2.tr f242).1 p (by omega))) (by assumption))
    refine r_aload_n (pc := 202) dX12_split_202 rfl ?_
    refine r_iload_n (pc := 203) dX12_split_203 rfl ?_
    refine r_iload_n (pc := 204) dX12_split_204 rfl ?_
    refine r_aload_n (pc := 205) dX12_split_205 rfl ?_
    refine h_X12_7 (pc := 206) rfl dX12_split_206 ?_
    refine r_iload_n (pc := 209) dX12_split_209 rfl ?_
    refine r_bipush (pc := 210) (n := 28) dX12_split_210 (by decide) ?_
    refine r_iload (pc := 212) dX12_split_212 rfl ?_
    refine c_X12_70 (pc := 214) rfl dX12_split_214 (by omega) (Nat.le_of_ble_eq_true rfl) ?_
    refine m_X12_at (d - 1) (by omega) (by assumption) (fun r214 e214 => ?_)
    refine f_iald (pc := 217) dX12_split_217 (n := 660) (by assumption) (by first | assumption | rfl) (by omega) (by omega) (by omega) (fun h217 => ?_)
    rw [mxR2 (w := w2) (q := q) (j := i) (i := r214) (by omega)] at h217 ⊢
    have e2 : mx w2 q 2 i = mx w q 2 i := by rw [← Y2.row (r := 2) (j := i) (by omega) (by omega) (by omega) (by rw [spY_r (by omega)]; omega), spY_r (by omega)]
    rw [e2]
    refine r_bipush (pc := 218) (n := 6) dX12_split_218 (by decide) ?_
    refine r_iconst (pc := 220) (n := 0) dX12_split_220 ?_
    refine r_iconst (pc := 221) (n := 0) dX12_split_221 ?_
    refine c_X12_149 (pc := 222) rfl dX12_split_222 (by first | assumption | rfl) (by omega) (Nat.le_of_ble_eq_true rfl) ?_
    refine m_X12_inserts (d - 1) (by omega) (by assumption) hq I2 (by omega) (fun j j0 j1 => ?_) (by omega) (by omega) (by omega) (by omega) (by omega) (fun k222 w222 b222 f222 e222 hw222 => ?_)
    · rw [R1 j j0 j1]
      exact NE j j0 (by omega)
    have kk := kbX_of I2.1.1 b222
    have CI3 : CI (mx w222 q) := (CI_in3 I2 (by omega) b222 (fun z => by rw [R1 _ b222.1 z]; exact NE _ b222.1 (by omega)) (by unfold KI; omega)).eq e222.sy
    have CE3 : CEV (spX (mx w q) f b) (mx w222 q) := by
      refine CEV.tr ?_ e222.sy.v
      unfold spX
      rw [kk, ← kbX_cg Y2]
      exact insX_w Y2 ⟨by rw [kbX_cg Y2, ← kk]; exact b222.1, by rw [kbX_cg Y2, ← kk, Y2.1]; exact b222.2.1⟩ (by unfold spH; rw [show b - 1 = i by omega, if_pos (hh.mp (by omega))]) (by rw [show b - 1 = i by omega, if_pos (hh.mp (by omega))]) (fun z => by
        rw [show b - 1 = i by omega, if_pos (hh.mp (by omega))] at z
        omega)
    have C222 := MOG_fq hG2 hq C65 (f2.tr f222) (X := spX (G.now.c q) f b) ((CV.spl I0 (by rw [CV.1]; omega)).tr CE3) CI3
    rw [← kbX_cg ((spY_cv CV (b := b) (by rw [CV.1]; omega)).tr Y2)] at kk
    refine r_goto (pc := 225) (tgt := 245) dX12_split_225 rfl ?_
    exact f_iret (pc := 245) dX12_split_245 rfl (by assumption) (hQ _ _ (fst_m o kk) (snd_m o C222) (FL65.tr (fun p e => (f2.tr f222).1 p (by omega))) (by assumption))
  have cut168 : ∀ w65 : Wd, MOG (recG G) w65 → mx w65 q = mx w q → FRH w w65 → WR w65 → (0 ≤ q ∧ q ≤ 3) → CI (mx w q) → CEV (G.now.c q) (mx w q) → ∀ b : Int, b = kbX (mx w q) f → 1 ≤ b → b < mx w q 0 0 → mx w q 0 0 ≤ 23 → 0 ≤ f → f ≤ 480 → (∀ j, 0 ≤ j → j < mx w q 0 0 → mx w q 1 j ≠ f) → o_split G q f = (kbX (spY (G.now.c q) b) f, setC (recG G) q (spX (G.now.c q) f b)) → ∀ (x y nn : Int), x = valS (mx w q) f → R32 x → y = spS (mx w q) f → (-9999 ≤ y ∧ y ≤ 9999) → ∀ (i h : Int) (w2 : Wd), i + 1 = b → (h = 0 ∨ h = 1) → (h = 1 ↔ mx w q 3 i = 6) → FQ q w65 w2 → CEV (freX (mx w q) i) (mx w2 q) → CI (mx w2 q) → WR w2 → V mX12_split (Rm d) 0 0 168 [some (vR (some 385)), some (vI q), some (vI f), some (vI nn), some (vI x), some (vI y), some (vI i), some (vI h)] [] (fl w2) (lQ Q) := by
    intro w65 C65 X65 FL65 hw65 hq I0 CV b hb b1 b2 n23 f0 f9 NE o x y nn hx rx hy yb
    have KB0 := kbX_KB (X := mx w q) I0.1.1 f
    rw [← hb] at KB0
    obtain ⟨kb0, kb1, kb2, kb3⟩ := KB0
    intro i h w2 hi h01 hh f2 Y2 I2 hw2
    have n2 : mx w2 q 0 0 = mx w q 0 0 := by rw [← Y2.1, freX_n]
    refine r_aload_n (pc := 168) dX12_split_168 rfl ?_
    refine h_X12_7 (pc := 169) rfl dX12_split_169 ?_
    refine r_iload_n (pc := 172) dX12_split_172 rfl ?_
    refine r_bipush (pc := 173) (n := 52) dX12_split_173 (by decide) ?_
    refine r_iload (pc := 175) dX12_split_175 rfl ?_
    refine r_iconst (pc := 177) (n := 1) dX12_split_177 ?_
    refine r_iadd (pc := 178) dX12_split_178 ?_
    refine c_X12_70 (pc := 179) rfl dX12_split_179 (by omega) (Nat.le_of_ble_eq_true rfl) ?_
    refine m_X12_at (d - 1) (by omega) (by assumption) (fun r179 e179 => ?_)
    refine f_iald (pc := 182) dX12_split_182 (n := 660) (by assumption) (by first | assumption | rfl) (by omega) (by omega) (by omega) (fun h182 => ?_)
    rw [mxR3 (w := w2) (q := q) (j := i + 1) (i := r179) (by omega)] at h182 ⊢
    have e3 : mx w2 q 3 (i + 1) = freX (mx w q) i 3 (i + 1) := (Y2.row (by omega) (by omega) (by omega) (by rw [freX_n]; omega)).symm
    have P3 := I2.2.1 (i + 1) (by omega) (by omega)
    refine r_bipush (pc := 183) (n := 6) dX12_split_183 (by decide) ?_
    refine r_icmpeq (pc := 185) (tgt := 197) dX12_split_185 rfl (by omega) (by omega) (fun h185 => ?_) (fun h185 => ?_)
    · exact cut197 w65 C65 X65 FL65 hw65 hq I0 CV b hb b1 b2 n23 f0 f9 NE o x y nn hx rx hy yb i h w2 hi h01 hh f2 (by
        have z : spY (mx w q) b = freX (mx w q) i := by
          unfold spY
          rw [show b - 1 = i by omega]
          exact if_pos (by rw [← hi]; omega)
        rw [z]; exact Y2) I2 (by assumption)
    refine r_aload_n (pc := 188) dX12_split_188 rfl ?_
    refine r_iload_n (pc := 189) dX12_split_189 rfl ?_
    refine r_iload (pc := 190) dX12_split_190 rfl ?_
    refine r_iconst (pc := 192) (n := 1) dX12_split_192 ?_
    refine r_iadd (pc := 193) dX12_split_193 ?_
    refine c_X12_158 (pc := 194) rfl dX12_split_194 (by first | assumption | rfl) (by omega) (Nat.le_of_ble_eq_true rfl) ?_
    refine m_X12_frees (d - 1) (by omega) (by assumption) hq I2 (by omega) (fun w194 f194 e194 hw194 => ?_)
    have E194 : CEQ (mx w194 q) (chmX (mx w2 q) (i + 1) 0) := e194.tr (frX_chm I2 (by omega))
    exact cut197 w65 C65 X65 FL65 hw65 hq I0 CV b hb b1 b2 n23 f0 f9 NE o x y nn hx rx hy yb i h w194 hi h01 hh (f2.tr f194) (by
      have z : spY (mx w q) b = chmX (freX (mx w q) i) b 0 := by
        unfold spY
        rw [show b - 1 = i by omega]
        exact if_neg (by rw [← hi]; omega)
      rw [z, ← hi]
      exact (Y2.chm (by rw [Y2.1]; omega)).tr E194.sy.v) ((CI_chm I2 (by omega)).eq E194.sy) (by assumption)
  have cut154 : ∀ w65 : Wd, MOG (recG G) w65 → mx w65 q = mx w q → FRH w w65 → WR w65 → (0 ≤ q ∧ q ≤ 3) → CI (mx w q) → CEV (G.now.c q) (mx w q) → ∀ b : Int, b = kbX (mx w q) f → 1 ≤ b → b < mx w q 0 0 → mx w q 0 0 ≤ 23 → 0 ≤ f → f ≤ 480 → (∀ j, 0 ≤ j → j < mx w q 0 0 → mx w q 1 j ≠ f) → o_split G q f = (kbX (spY (G.now.c q) b) f, setC (recG G) q (spX (G.now.c q) f b)) → ∀ (x y nn : Int), x = valS (mx w q) f → R32 x → y = spS (mx w q) f → (-9999 ≤ y ∧ y ≤ 9999) → ∀ (i h : Int) (o7 : Option AV), i + 1 = b → (h = 0 ∨ h = 1) → (h = 1 ↔ mx w q 3 i = 6) → V mX12_split (Rm d) 0 0 154 [some (vR (some 385)), some (vI q), some (vI f), some (vI nn), some (vI x), some (vI y), some (vI i), o7] [vI h] (fl w65) (lQ Q) := by
    intro w65 C65 X65 FL65 hw65 hq I0 CV b hb b1 b2 n23 f0 f9 NE o x y nn hx rx hy yb
    have KB0 := kbX_KB (X := mx w q) I0.1.1 f
    rw [← hb] at KB0
    obtain ⟨kb0, kb1, kb2, kb3⟩ := KB0
    intro i h o7 hi h01 hh
    refine r_istore7 (pc := 154) dX12_split_154 rfl ?_
    refine r_iload (pc := 156) dX12_split_156 rfl ?_
    refine r_ifne (pc := 158) (tgt := 168) dX12_split_158 rfl (by omega) (fun h158 => ?_) (fun h158 => ?_)
    · exact cut168 w65 C65 X65 FL65 hw65 hq I0 CV b hb b1 b2 n23 f0 f9 NE o x y nn hx rx hy yb i h w65 hi h01 hh (FQ.rf _ _) (by rw [X65]; unfold freX; rw [if_pos (hh.mp (by omega))]; exact (CEQ.rf _).v) (by rw [X65]; exact I0) (by assumption)
    refine r_aload_n (pc := 161) dX12_split_161 rfl ?_
    refine r_iload_n (pc := 162) dX12_split_162 rfl ?_
    refine r_iload (pc := 163) dX12_split_163 rfl ?_
    refine c_X12_158 (pc := 165) rfl dX12_split_165 (by first | assumption | rfl) (by omega) (Nat.le_of_ble_eq_true rfl) ?_
    refine m_X12_frees (d - 1) (by omega) (by assumption) hq (by rw [X65]; exact I0) (by rw [X65]; omega) (fun w165 f165 e165 hw165 => ?_)
    rw [X65] at e165
    have E165 : CEQ (mx w165 q) (chmX (mx w q) i 0) := e165.tr (frX_chm I0 (by omega))
    exact cut168 w65 C65 X65 FL65 hw65 hq I0 CV b hb b1 b2 n23 f0 f9 NE o x y nn hx rx hy yb i h w165 hi h01 hh f165 (by unfold freX; rw [if_neg (fun z => by have := hh.mpr z; omega)]; exact E165.sy.v) ((CI_chm I0 (by omega)).eq E165.sy) (by assumption)
  have loop112 : ∀ w65 : Wd, MOG (recG G) w65 → mx w65 q = mx w q → FRH w w65 → WR w65 → (0 ≤ q ∧ q ≤ 3) → CI (mx w q) → CEV (G.now.c q) (mx w q) → ∀ b : Int, b = kbX (mx w q) f → 1 ≤ b → b < mx w q 0 0 → mx w q 0 0 ≤ 23 → 0 ≤ f → f ≤ 480 → (∀ j, 0 ≤ j → j < mx w q 0 0 → mx w q 1 j ≠ f) → o_split G q f = (kbX (spY (G.now.c q) b) f, setC (recG G) q (spX (G.now.c q) f b)) → ∀ (x y nn : Int), x = valS (mx w q) f → R32 x → y = spS (mx w q) f → (-9999 ≤ y ∧ y ≤ 9999) → ∀ n0 : Nat, ∀ (i : Int) (o7 : Option AV), (mx w q 0 0 - i).toNat = n0 → 0 ≤ i → i + 1 < mx w q 0 0 → mx w q 1 i < f → V mX12_split (Rm d) 0 0 112 [some (vR (some 385)), some (vI q), some (vI f), some (vI nn), some (vI x), some (vI y), some (vI i), o7] [] (fl w65) (lQ Q) := by
    intro w65 C65 X65 FL65 hw65 hq I0 CV b hb b1 b2 n23 f0 f9 NE o x y nn hx rx hy yb
    have KB0 := kbX_KB (X := mx w q) I0.1.1 f
    rw [← hb] at KB0
    obtain ⟨kb0, kb1, kb2, kb3⟩ := KB0
    refine ind_lt ?_
    intro n0 ih i o7 hm i0 i1 hi
    refine r_aload_n (pc := 112) dX12_split_112 rfl ?_
    refine r_iload_n (pc := 113) dX12_split_113 rfl ?_
    refine r_iload (pc := 114) dX12_split_114 rfl ?_
    refine r_iconst (pc := 116) (n := 1) dX12_split_116 ?_
    refine r_iadd (pc := 117) dX12_split_117 ?_
    refine c_X12_82 (pc := 118) rfl dX12_split_118 (by first | assumption | rfl) (by omega) (Nat.le_of_ble_eq_true rfl) ?_
    refine m_X12_frame (d - 1) (by omega) (by assumption) hq (by omega) (fun r118 e118 b118 => ?_)
    rw [X65] at e118
    refine r_iload_n (pc := 121) dX12_split_121 rfl ?_
    refine r_icmpge (pc := 122) (tgt := 131) dX12_split_122 rfl (by omega) (by omega) (fun h122 => ?_) (fun h122 => ?_)
    · have hi2 : i + 1 = b := by rw [hb]; exact kbX_nx I0 i0 i1 hi (by omega)
      refine r_aload_n (pc := 131) dX12_split_131 rfl ?_
      refine h_X12_7 (pc := 132) rfl dX12_split_132 ?_
      refine r_iload_n (pc := 135) dX12_split_135 rfl ?_
      refine r_bipush (pc := 136) (n := 52) dX12_split_136 (by decide) ?_
      refine r_iload (pc := 138) dX12_split_138 rfl ?_
      refine c_X12_70 (pc := 140) rfl dX12_split_140 (by omega) (Nat.le_of_ble_eq_true rfl) ?_
      refine m_X12_at (d - 1) (by omega) (by assumption) (fun r140 e140 => ?_)
      refine f_iald (pc := 143) dX12_split_143 (n := 660) (by assumption) (by first | assumption | rfl) (by omega) (by omega) (by omega) (fun h143 => ?_)
      rw [mxR3 (w := w65) (q := q) (j := i) (i := r140) (by omega)] at h143 ⊢
      rw [X65]
      have P0 := I0.2.1 i (by omega) (by omega)
      refine r_bipush (pc := 144) (n := 6) dX12_split_144 (by decide) ?_
      refine r_icmpne (pc := 146) (tgt := 153) dX12_split_146 rfl (by omega) (by omega) (fun h146 => ?_) (fun h146 => ?_)
      · refine r_iconst (pc := 153) (n := 0) dX12_split_153 ?_
        exact cut154 w65 C65 X65 FL65 hw65 hq I0 CV b hb b1 b2 n23 f0 f9 NE o x y nn hx rx hy yb i 0 _ (by omega) (by omega) ⟨fun z => by omega, fun z => by omega⟩
      refine r_iconst (pc := 149) (n := 1) dX12_split_149 ?_
      refine r_goto (pc := 150) (tgt := 154) dX12_split_150 rfl ?_
      exact cut154 w65 C65 X65 FL65 hw65 hq I0 CV b hb b1 b2 n23 f0 f9 NE o x y nn hx rx hy yb i 1 _ (by omega) (by omega) ⟨fun _ => by omega, fun _ => rfl⟩
    have NX : i + 1 + 1 < mx w q 0 0 := by
      rcases Int.lt_or_le (i + 1 + 1) (mx w q 0 0) with z | z
      · exact z
      · exfalso
        have a := kb3 b2
        have e : i + 1 < b := by
          rcases Int.lt_or_le (i + 1) b with y | y
          · exact y
          · rcases Int.lt_or_le b (i + 1) with u | u
            · have := I0.2.2.1 b (i + 1) kb0 u i1; omega
            · rw [show b = i + 1 by omega] at a; omega
        omega
    refine r_iinc6 (pc := 125) dX12_split_125 rfl ?_
    refine r_goto (pc := 128) (tgt := 112) dX12_split_128 rfl ?_
    exact ih _ (by omega) (i + 1) _ rfl (by omega) NX (by omega)
  refine r_iload_n (pc := 0) dX12_split_0 rfl ?_
  refine c_X12_74 (pc := 1) rfl dX12_split_1 (by omega) (Nat.le_of_ble_eq_true rfl) ?_
  refine m_X12_isCurve (d - 1) (by omega) (by assumption) (by omega) (fun r1 e1 b1 => ?_)
  have i1 := b2i_i e1
  refine r_ifne (pc := 4) (tgt := 10) dX12_split_4 rfl (by omega) (fun h4 => ?_) (fun h4 => ?_)
  · have hq : 0 ≤ q ∧ q ≤ 3 := by omega
    have iq : inC q := hq
    have CV := hC.cv hq
    have I0 := hC.ci hq
    have hn : 0 ≤ mx w q 0 0 ∧ mx w q 0 0 ≤ 24 := I0.1
    have eN : G.now.c q 0 0 = mx w q 0 0 := CV.1
    have ekb : kbX (G.now.c q) f = kbX (mx w q) f := kbX_cg CV f
    have KB0 := kbX_KB (X := mx w q) I0.1.1 f
    obtain ⟨kb0, kb1, kb2, kb3⟩ := KB0
    refine r_aload_n (pc := 10) dX12_split_10 rfl ?_
    refine r_iload_n (pc := 11) dX12_split_11 rfl ?_
    refine c_X12_78 (pc := 12) rfl dX12_split_12 (by first | assumption | rfl) (by omega) (Nat.le_of_ble_eq_true rfl) ?_
    refine m_X12_many (d - 1) (by omega) (by assumption) hq (fun r12 e12 b12 => ?_)
    subst e12
    refine r_istore3 (pc := 15) dX12_split_15 rfl ?_
    refine r_iload_n (pc := 16) dX12_split_16 rfl ?_
    refine r_iconst (pc := 17) (n := 2) dX12_split_17 ?_
    refine r_icmplt (pc := 18) (tgt := 52) dX12_split_18 rfl (by omega) (by omega) (fun h18 => ?_) (fun h18 => ?_)
    · have o : o_split G q f = (-1000000002, G) := by
        unfold o_split
        rw [if_neg (fun z => z iq), if_pos (by omega)]
      refine r_ldc (pc := 52) (n := -1000000002) dX12_split_52 kw_X12_132 rfl ?_
      exact f_iret (pc := 54) dX12_split_54 rfl (by assumption) (hQ _ _ (fst_m o (by omega)) (snd_m o hC) (FRH.rf w) (by assumption))
    refine r_iload_n (pc := 21) dX12_split_21 rfl ?_
    refine r_aload_n (pc := 22) dX12_split_22 rfl ?_
    refine r_iload_n (pc := 23) dX12_split_23 rfl ?_
    refine r_iconst (pc := 24) (n := 0) dX12_split_24 ?_
    refine c_X12_82 (pc := 25) rfl dX12_split_25 (by first | assumption | rfl) (by omega) (Nat.le_of_ble_eq_true rfl) ?_
    refine m_X12_frame (d - 1) (by omega) (by assumption) hq (by omega) (fun r25 e25 b25 => ?_)
    subst e25
    refine r_icmple (pc := 28) (tgt := 52) dX12_split_28 rfl (by omega) (by omega) (fun h28 => ?_) (fun h28 => ?_)
    · have o : o_split G q f = (-1000000002, G) := by
        have z : kbX (mx w q) f < 1 := by
          rcases Int.lt_or_le (kbX (mx w q) f) 1 with z | z
          · exact z
          · have := kb2 0 (by omega) (by omega)
            omega
        unfold o_split
        rw [if_neg (fun z => z iq), if_pos (by omega)]
      refine r_ldc (pc := 52) (n := -1000000002) dX12_split_52 kw_X12_132 rfl ?_
      exact f_iret (pc := 54) dX12_split_54 rfl (by assumption) (hQ _ _ (fst_m o (by omega)) (snd_m o hC) (FRH.rf w) (by assumption))
    refine r_iload_n (pc := 31) dX12_split_31 rfl ?_
    refine r_aload_n (pc := 32) dX12_split_32 rfl ?_
    refine r_iload_n (pc := 33) dX12_split_33 rfl ?_
    refine r_iload_n (pc := 34) dX12_split_34 rfl ?_
    refine r_iconst (pc := 35) (n := 1) dX12_split_35 ?_
    refine r_isub (pc := 36) dX12_split_36 ?_
    refine c_X12_82 (pc := 37) rfl dX12_split_37 (by first | assumption | rfl) (by omega) (Nat.le_of_ble_eq_true rfl) ?_
    refine m_X12_frame (d - 1) (by omega) (by assumption) hq (by omega) (fun r37 e37 b37 => ?_)
    subst e37
    refine r_icmpge (pc := 40) (tgt := 52) dX12_split_40 rfl (by omega) (by omega) (fun h40 => ?_) (fun h40 => ?_)
    · have o : o_split G q f = (-1000000002, G) := by
        have z : mx w q 0 0 ≤ kbX (mx w q) f ∨ 0 ≤ finX (mx w q) f := by
          rcases Int.lt_or_le (kbX (mx w q) f) (mx w q 0 0) with z | z
          · right
            have a := kb3 z
            rcases Int.lt_or_le (kbX (mx w q) f) (mx w q 0 0 - 1) with y | y
            · have := I0.2.2.1 (kbX (mx w q) f) (mx w q 0 0 - 1) kb0 y (by omega)
              omega
            · have e : kbX (mx w q) f = mx w q 0 0 - 1 := by omega
              rw [e] at a
              rw [fin_y I0 (k := mx w q 0 0 - 1) (by omega) (by omega) (by omega)]
              omega
          · exact Or.inl z
        have fc := fin_cg CV (by omega) f
        unfold o_split
        rw [if_neg (fun z => z iq), if_pos (by omega)]
      refine r_ldc (pc := 52) (n := -1000000002) dX12_split_52 kw_X12_132 rfl ?_
      exact f_iret (pc := 54) dX12_split_54 rfl (by assumption) (hQ _ _ (fst_m o (by omega)) (snd_m o hC) (FRH.rf w) (by assumption))
    have b1 : 1 ≤ kbX (mx w q) f := by
      rcases Int.lt_or_le (kbX (mx w q) f) 1 with z | z
      · have := kb3 (by omega)
        rw [show kbX (mx w q) f = 0 by omega] at this
        omega
      · exact z
    have b2 : kbX (mx w q) f < mx w q 0 0 := by
      rcases Int.lt_or_le (kbX (mx w q) f) (mx w q 0 0) with z | z
      · exact z
      · have := kb2 (mx w q 0 0 - 1) (by omega) (by omega)
        omega
    refine r_aload_n (pc := 43) dX12_split_43 rfl ?_
    refine r_iload_n (pc := 44) dX12_split_44 rfl ?_
    refine r_iload_n (pc := 45) dX12_split_45 rfl ?_
    refine c_X12_142 (pc := 46) rfl dX12_split_46 (by first | assumption | rfl) (by omega) (Nat.le_of_ble_eq_true rfl) ?_
    refine m_X12_find (d - 1) (by omega) (by assumption) hq I0 (by omega) (fun r46 e46 a46 c46 => ?_)
    have f46a := fin_in I0 e46
    have f46n : 0 ≤ r46 → r46 < mx w q 0 0 := fun z => (f46a z).1
    have f46b := fin_no I0 e46
    rw [← fin_cg CV (by omega)] at e46
    refine r_iflt (pc := 49) (tgt := 55) dX12_split_49 rfl (by omega) (fun h49 => ?_) (fun h49 => ?_)
    · refine r_iload_n (pc := 55) dX12_split_55 rfl ?_
      refine r_bipush (pc := 56) (n := 24) dX12_split_56 (by decide) ?_
      refine r_icmpne (pc := 58) (tgt := 64) dX12_split_58 rfl (by omega) (by omega) (fun h58 => ?_) (fun h58 => ?_)
      · refine r_aload_n (pc := 64) dX12_split_64 rfl ?_
        refine c_X12_146 (pc := 65) rfl dX12_split_65 (by first | assumption | rfl) (by omega) (Nat.le_of_ble_eq_true rfl) ?_
        refine m_X12_changes (d - 1) (by omega) (by assumption) hp (fun w65 c65 hw65 => ?_)
        obtain ⟨C65, F65⟩ := MOG_rec hG hC c65
        have X65 : mx w65 q = mx w q := by unfold mx; rw [F65 386 (by omega) (by omega)]
        have FL65 : FRH w w65 := fun p e => F65 p (by omega) (by omega)
        refine r_aload_n (pc := 68) dX12_split_68 rfl ?_
        refine r_iload_n (pc := 69) dX12_split_69 rfl ?_
        refine r_iload_n (pc := 70) dX12_split_70 rfl ?_
        refine c_X12_133 (pc := 71) rfl dX12_split_71 (by first | assumption | rfl) (by omega) (Nat.le_of_ble_eq_true rfl) ?_
        have P0 := I0.2.1 0 (by omega) (by omega)
        have P9 := I0.2.1 (mx w q 0 0 - 1) (by omega) (by omega)
        obtain ⟨b, hb⟩ : ∃ b, b = kbX (mx w q) f := ⟨_, rfl⟩
        have o : o_split G q f = (kbX (spY (G.now.c q) b) f, setC (recG G) q (spX (G.now.c q) f b)) := by
          unfold o_split
          rw [if_neg (fun z => z iq), if_neg (by omega), if_neg (by omega), ekb, ← hb]
        refine m_X12_valueAt (d - 1) (by omega) (by assumption) hq (by rw [X65]; exact I0) (by rw [X65]; omega) (by omega) (fun r71 e71 b71 => ?_)
        rw [X65] at e71
        refine r_istore4 (pc := 74) dX12_split_74 rfl ?_
        refine r_aload_n (pc := 76) dX12_split_76 rfl ?_
        refine r_iload_n (pc := 77) dX12_split_77 rfl ?_
        refine r_iload_n (pc := 78) dX12_split_78 rfl ?_
        refine r_iconst (pc := 79) (n := 1) dX12_split_79 ?_
        refine r_iadd (pc := 80) dX12_split_80 ?_
        refine c_X12_133 (pc := 81) rfl dX12_split_81 (by first | assumption | rfl) (by omega) (Nat.le_of_ble_eq_true rfl) ?_
        refine m_X12_valueAt (d - 1) (by omega) (by assumption) hq (by rw [X65]; exact I0) (by rw [X65]; omega) (by omega) (fun r81 e81 b81 => ?_)
        rw [X65] at e81
        refine r_i2l (pc := 84) dX12_split_84 (by first | assumption | omega) ?_
        refine r_aload_n (pc := 85) dX12_split_85 rfl ?_
        refine r_iload_n (pc := 86) dX12_split_86 rfl ?_
        refine r_iload_n (pc := 87) dX12_split_87 rfl ?_
        refine r_iconst (pc := 88) (n := 1) dX12_split_88 ?_
        refine r_isub (pc := 89) dX12_split_89 ?_
        refine c_X12_133 (pc := 90) rfl dX12_split_90 (by first | assumption | rfl) (by omega) (Nat.le_of_ble_eq_true rfl) ?_
        refine m_X12_valueAt (d - 1) (by omega) (by assumption) hq (by rw [X65]; exact I0) (by rw [X65]; omega) (by omega) (fun r90 e90 b90 => ?_)
        rw [X65] at e90
        refine r_i2l (pc := 93) dX12_split_93 (by first | assumption | omega) ?_
        refine r_lsub (pc := 94) dX12_split_94 ?_
        refine r_ldc2 (pc := 95) (n := 2) dX12_split_95 kw_X12_60 rfl ?_
        refine c_X12_93 (pc := 98) rfl dX12_split_98 (by omega) (Nat.le_of_ble_eq_true rfl) ?_
        refine m_X12_round (d - 1) (by omega) (by assumption) (by omega) (fun r98 e98 => ?_)
        have R98 : R64 r98 := by rw [e98]; exact rndW_r _ _
        refine r_sipush (pc := 101) (n := 9999) dX12_split_101 (by decide) ?_
        refine c_X12_108 (pc := 104) rfl dX12_split_104 (by omega) (Nat.le_of_ble_eq_true rfl) ?_
        refine m_X12_bound (d - 1) (by omega) (by assumption) (by omega) (by omega) (fun r104 e104 b104 => ?_)
        have E104 : r104 = spS (mx w q) f := by rw [e104, e98, e81, e90]; rfl
        refine r_istore5 (pc := 107) dX12_split_107 rfl ?_
        refine r_iconst (pc := 109) (n := 0) dX12_split_109 ?_
        refine r_istore6 (pc := 110) dX12_split_110 rfl ?_
        exact loop112 w65 C65 X65 FL65 hw65 hq I0 CV b hb (by omega) (by omega) (by omega) (by omega) (by omega) (f46b (by omega)) o _ _ _ e71 (by omega) E104 (by omega) _ _ _ rfl (by omega) (by omega) (by omega)
      have o : o_split G q f = (-1000000003, G) := by
        unfold o_split
        rw [if_neg (fun z => z iq), if_neg (by omega), if_pos (by omega)]
      refine r_ldc (pc := 61) (n := -1000000003) dX12_split_61 kw_X12_145 rfl ?_
      exact f_iret (pc := 63) dX12_split_63 rfl (by assumption) (hQ _ _ (fst_m o (by omega)) (snd_m o hC) (FRH.rf w) (by assumption))
    have o : o_split G q f = (-1000000002, G) := by
      unfold o_split
      rw [if_neg (fun z => z iq), if_pos (by omega)]
    refine r_ldc (pc := 52) (n := -1000000002) dX12_split_52 kw_X12_132 rfl ?_
    exact f_iret (pc := 54) dX12_split_54 rfl (by assumption) (hQ _ _ (fst_m o (by omega)) (snd_m o hC) (FRH.rf w) (by assumption))
  have o : o_split G q f = (-1000000001, G) := by
    unfold o_split
    exact if_pos (fun z => by have z : 0 ≤ q ∧ q ≤ 3 := z; omega)
  refine r_ldc (pc := 7) (n := -1000000001) dX12_split_7 kw_X12_131 rfl ?_
  exact f_iret (pc := 9) dX12_split_9 rfl (by assumption) (hQ _ _ (fst_m o (by omega)) (snd_m o hC) (FRH.rf w) (by assumption))
