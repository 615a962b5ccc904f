/-! the model's calls, on: retiming, baking -/
theorem steps_ge {x e i : Int} (he : 1 ≤ e) (h : x < i * e) : x / e + 1 ≤ i := (Int.ediv_lt_iff_lt_mul (show 0 < e by omega)).mpr h
theorem steps_lt {x e i : Int} (he : 1 ≤ e) (h : i * e ≤ x) : i < x / e + 1 := by
  have := (Int.le_ediv_iff_mul_le (show 0 < e by omega)).mpr h
  omega
theorem MOG.mp {G : GS} {w w1 : Wd} (hG : GOK G) (h : MOG G w) (f : ∀ j, 512 ≤ j → w1 386 j = w 386 j) : w1 386 512 = G.now.n ∧ (∀ j, 0 ≤ j → j < G.now.n → w1 386 (513 + j) = G.now.s j) ∧ (∀ j, 0 ≤ j → j < G.now.n → w1 386 (521 + j) = G.now.g j) := ⟨by rw [f _ (by omega)]; exact h.1.2.1, fun j a b => by rw [f _ (by omega)]; exact (h.1.2.2.1 j a b).1, fun j a b => by rw [f _ (by omega)]; exact (h.1.2.2.1 j a b).2⟩
theorem MOG.mpr {G : GS} {w w1 : Wd} (hG : GOK G) (h : MOG (recG G) w) (f : ∀ j, 512 ≤ j → w1 386 j = w 386 j) : w1 386 512 = G.now.n ∧ (∀ j, 0 ≤ j → j < G.now.n → w1 386 (513 + j) = G.now.s j) ∧ (∀ j, 0 ≤ j → j < G.now.n → w1 386 (521 + j) = G.now.g j) := MOG.mp (G := recG G) (GOK_rec hG) h f
theorem MOG.mx {G : GS} {w : Wd} (hG : GOK G) (h : MOG G w) (f : Int) : G.now.f.2 (fun c b => valS (mx w c) (max 0 (f - b))) = mixS G f := by
  refine GE_cg hG.1.2.1 (fun c b c0 c3 b0 => ?_)
  exact valS_cg (h.1.1 c c0 c3).2 (h.1.1 c c0 c3).1.sy _
set_option maxRecDepth 8000 in
theorem y_retime {Q : Option AV → Wd → Prop} {w : Wd} (d : Nat) {G : GS} {q : Int} (hd : 5 ≤ d) (hw : WR w) (hG : GOK G) (hC : MOG G w) (rq : R32 q) (hQ : ∀ r w2, r = (o_retime G q).1 → MOG (o_retime G q).2 w2 → FRH w w2 → WR w2 → Q (some (vI r)) w2) : M mX12_retime (Rm d) [vR (some 385), vI q] (fl w) (lQ Q) := by
  have hp := MOG.hp hG hC
  have hG2 := GOK_rec hG
  have MI0 := hG.1.1
  have n0 := MI0.1
  have n8 := MI0.2.1
  have hMn : w 386 512 = G.now.n := hC.1.2.1
  have P3 := hC.1.2.2.1
  have hMs : ∀ j, 0 ≤ j → j < G.now.n → w 386 (513 + j) = G.now.s j := fun j a b => (P3 j a b).1
  have hMg : ∀ j, 0 ≤ j → j < G.now.n → w 386 (521 + j) = G.now.g j := fun j a b => (P3 j a b).2
  refine f_mofv (L0 := [some (vR (some 385)), some (vI q), none, none, none, none]) rfl (Nat.le_of_ble_eq_true rfl) rfl ?_
  have cut182 : (0 ≤ q ∧ q ≤ 3) → CI (mx w q) → (∀ j : Nat, (j : Int) < mx w q 0 0 → (0 ≤ snF G (mx w q 1 j) ∧ snF G (mx w q 1 j) ≤ 480) ∧ (0 < j → snF G (mx w q 1 ((j : Int) - 1)) < snF G (mx w q 1 j))) → ∀ w73 : Wd, MOG (recG G) w73 → mx w73 q = mx w q → FRH w w73 → ∀ n0 : Nat, (∀ n1 : Nat, n1 < n0 → ∀ (k : Int), (mx w q 0 0 - k).toNat = n1 → 0 ≤ k → k ≤ mx w q 0 0 → ∀ (w1 : Wd) (x : Int) (o4 o5 : Option AV), EQ24 (mx w1 q) (retX (mx w q) G.now.n G.now.s G.now.g (fun j => sndS G.now.n G.now.s G.now.g (mx w q 1 j)) k) → FQ q w73 w1 → x = chC (mx w q) (snF G) k.toNat → WR w1 → V mX12_retime (Rm d) 0 0 80 [some (vR (some 385)), some (vI q), some (vI x), some (vI k), o4, o5] [] (fl w1) (lQ Q)) → ∀ (k : Int), (mx w q 0 0 - k).toNat = n0 → 0 ≤ k → k < mx w q 0 0 → ∀ (w2 : Wd) (x t to : Int), EQ24 (mx w2 q) (retM (mx w q) G.now.n G.now.s G.now.g (fun j => sndS G.now.n G.now.s G.now.g (mx w q 1 j)) k) → FQ q w73 w2 → x = chC (mx w q) (snF G) k.toNat → t = mx w q 1 k → to = snF G t → (0 ≤ to ∧ to ≤ 480) → R32 t → WR w2 → V mX12_retime (Rm d) 0 0 182 [some (vR (some 385)), some (vI q), some (vI x), some (vI k), some (vI t), some (vI to)] [] (fl w2) (lQ Q) := by
    intro hq I0 RT w73 C73 X73 FL73
    have CV := hC.cv hq
    have iq : inC q := hq
    have eN : G.now.c q 0 0 = mx w q 0 0 := CV.1
    have hn : 0 ≤ mx w q 0 0 ∧ mx w q 0 0 ≤ 24 := I0.1
    intro n0 ih k hm k0 hk w2 x t to M1 F2 hx ht hto tb rt hw2
    have E3 : EQ24 (mx (up w2 386 (128 * q + 4 + k) to) q) (retX (mx w q) G.now.n G.now.s G.now.g (fun j => sndS G.now.n G.now.s G.now.g (mx w q 1 j)) (k + 1)) := by
      rw [← retX_s k0]
      refine (mx_up (r := 1) (k := k) (by omega) (by omega) (by omega)).tr ?_
      have z := M1.st 1 k to
      rw [hto, ht] at z ⊢
      exact z
    refine r_aload_n (pc := 182) dX12_retime_182 rfl ?_
    refine h_X12_7 (pc := 183) rfl dX12_retime_183 ?_
    refine r_iload_n (pc := 186) dX12_retime_186 rfl ?_
    refine r_iconst (pc := 187) (n := 4) dX12_retime_187 ?_
    refine r_iload_n (pc := 188) dX12_retime_188 rfl ?_
    refine c_X12_70 (pc := 189) rfl dX12_retime_189 (by omega) (Nat.le_of_ble_eq_true rfl) ?_
    refine m_X12_at (d - 1) (by omega) (by assumption) (fun r189 e189 => ?_)
    subst e189
    refine r_iload (pc := 192) dX12_retime_192 rfl ?_
    refine f_iast (pc := 194) dX12_retime_194 (n := 660) (by assumption) (by first | assumption | rfl) (by omega) (by omega) (by omega) (by omega) (fun hw194 => ?_)
    refine r_iload_n (pc := 195) dX12_retime_195 rfl ?_
    refine r_iload (pc := 196) dX12_retime_196 rfl ?_
    refine r_iload (pc := 198) dX12_retime_198 rfl ?_
    refine r_icmpne (pc := 200) (tgt := 207) dX12_retime_200 rfl (by omega) (by omega) (fun h200 => ?_) (fun h200 => ?_)
    · have EC : x + 1 = chC (mx w q) (snF G) (k + 1).toNat := by
        rw [show (k + 1).toNat = k.toNat + 1 by omega, chC_s, ← hx, show ((k.toNat : Nat) : Int) = k by omega, ← ht, ← hto, if_neg (by omega)]
      refine r_iconst (pc := 207) (n := 1) dX12_retime_207 ?_
      refine r_iadd (pc := 208) dX12_retime_208 ?_
      refine r_istore2 (pc := 209) dX12_retime_209 rfl ?_
      refine r_iinc3 (pc := 210) dX12_retime_210 rfl ?_
      refine r_goto (pc := 213) (tgt := 80) dX12_retime_213 rfl ?_
      exact ih _ (by omega) (k + 1) rfl (by omega) (by omega) _ _ _ _ E3 (F2.tr (FQ_up (by omega))) EC (by assumption)
    have EC : x + 0 = chC (mx w q) (snF G) (k + 1).toNat := by
      rw [show (k + 1).toNat = k.toNat + 1 by omega, chC_s, ← hx, show ((k.toNat : Nat) : Int) = k by omega, ← ht, ← hto, if_pos (by omega)]
    refine r_iconst (pc := 203) (n := 0) dX12_retime_203 ?_
    refine r_goto (pc := 204) (tgt := 208) dX12_retime_204 rfl ?_
    refine r_iadd (pc := 208) dX12_retime_208 ?_
    refine r_istore2 (pc := 209) dX12_retime_209 rfl ?_
    refine r_iinc3 (pc := 210) dX12_retime_210 rfl ?_
    refine r_goto (pc := 213) (tgt := 80) dX12_retime_213 rfl ?_
    exact ih _ (by omega) (k + 1) rfl (by omega) (by omega) _ _ _ _ E3 (F2.tr (FQ_up (by omega))) EC (by assumption)
  have loop80 : (0 ≤ q ∧ q ≤ 3) → CI (mx w q) → (∀ j : Nat, (j : Int) < mx w q 0 0 → (0 ≤ snF G (mx w q 1 j) ∧ snF G (mx w q 1 j) ≤ 480) ∧ (0 < j → snF G (mx w q 1 ((j : Int) - 1)) < snF G (mx w q 1 j))) → ∀ w73 : Wd, MOG (recG G) w73 → mx w73 q = mx w q → FRH w w73 → ∀ n0 : Nat, ∀ (k : Int), (mx w q 0 0 - k).toNat = n0 → 0 ≤ k → k ≤ mx w q 0 0 → ∀ (w1 : Wd) (x : Int) (o4 o5 : Option AV), EQ24 (mx w1 q) (retX (mx w q) G.now.n G.now.s G.now.g (fun j => sndS G.now.n G.now.s G.now.g (mx w q 1 j)) k) → FQ q w73 w1 → x = chC (mx w q) (snF G) k.toNat → WR w1 → V mX12_retime (Rm d) 0 0 80 [some (vR (some 385)), some (vI q), some (vI x), some (vI k), o4, o5] [] (fl w1) (lQ Q) := by
    intro hq I0 RT w73 C73 X73 FL73
    have CV := hC.cv hq
    have iq : inC q := hq
    have eN : G.now.c q 0 0 = mx w q 0 0 := CV.1
    have hn : 0 ≤ mx w q 0 0 ∧ mx w q 0 0 ≤ 24 := I0.1
    refine ind_lt ?_
    intro n0 ih k hm k0 hk w1 x o4 o5 E1 F1 hx hw1
    have n1 : mx w1 q 0 0 = mx w q 0 0 := (E1 0 0 (by omega)).trans retX_n
    have MP1 := MOG.mpr hG (w1 := w1) C73 (fun j e => F1.2 j (by omega))
    refine r_iload_n (pc := 80) dX12_retime_80 rfl ?_
    refine r_aload_n (pc := 81) dX12_retime_81 rfl ?_
    refine r_iload_n (pc := 82) dX12_retime_82 rfl ?_
    refine c_X12_78 (pc := 83) rfl dX12_retime_83 (by first | assumption | rfl) (by omega) (Nat.le_of_ble_eq_true rfl) ?_
    refine m_X12_many (d - 1) (by omega) (by assumption) hq (fun r83 e83 b83 => ?_)
    rw [n1] at e83
    subst e83
    refine r_icmpge (pc := 86) (tgt := 216) dX12_retime_86 rfl (by omega) (by omega) (fun h86 => ?_) (fun h86 => ?_)
    · have X9 : EQ24 (mx w1 q) (retX (mx w q) G.now.n G.now.s G.now.g (fun j => sndS G.now.n G.now.s G.now.g (mx w q 1 j)) (mx w q 0 0)) := by have e := E1; rw [show k = mx w q 0 0 by omega] at e; exact e
      have X8 := X9.ceq (by omega)
      have G0 : ∀ j, 0 ≤ j → j < G.now.c q 0 0 → (fun j => sndS G.now.n G.now.s G.now.g (mx w q 1 j)) j = sndS G.now.n G.now.s G.now.g (G.now.c q 1 j) := fun j j0 j1 => by
        rw [CV.row (r := 1) (j := j) (by omega) (by omega) j0 j1]
      have R1 : CEV (rtX (G.now.c q) G.now) (mx w1 q) := (CV.ret hG.1.1 rfl (fun j a b => ⟨rfl, rfl⟩) G0).tr X8.sy.v
      have RTj : ∀ j : Int, 0 ≤ j → j < mx w q 0 0 → (0 ≤ (fun j => sndS G.now.n G.now.s G.now.g (mx w q 1 j)) j ∧ (fun j => sndS G.now.n G.now.s G.now.g (mx w q 1 j)) j ≤ 480) ∧ (0 < j → (fun j => sndS G.now.n G.now.s G.now.g (mx w q 1 j)) (j - 1) < (fun j => sndS G.now.n G.now.s G.now.g (mx w q 1 j)) j) := fun j j0 j1 => by
        have h := RT j.toNat (by omega)
        rw [show ((j.toNat : Nat) : Int) = j by omega] at h
        exact ⟨h.1, fun z => h.2 (by omega)⟩
      have D1 : CI (mx w1 q) := (CI_ret I0 (fun j j0 j1 => (RTj j j0 j1).1) (fun j j0 j1 => (RTj j (by omega) j1).2 j0)).eq X8.sy
      have C1 := MOG_fq hG2 hq C73 F1 (X := rtX (G.now.c q) G.now) R1 D1
      have RTG : rtO (G.now.c q) (snF G) := fun j hj => by
        have h := RT j (by omega)
        rw [CV.row (r := 1) (j := j) (by omega) (by omega) (by omega) (by omega)]
        refine ⟨h.1, fun j0 => ?_⟩
        rw [CV.row (r := 1) (j := (j : Int) - 1) (by omega) (by omega) (by omega) (by omega)]
        exact h.2 j0
      have o : o_retime G q = (chC (G.now.c q) (snF G) (G.now.c q 0 0).toNat, setC (recG G) q (rtX (G.now.c q) G.now)) := by
        unfold o_retime
        rw [if_neg (fun z => z iq), if_neg (fun z => z RTG)]
      refine r_iload_n (pc := 216) dX12_retime_216 rfl ?_
      exact f_iret (pc := 217) dX12_retime_217 rfl (by assumption) (hQ _ _ (fst_m o (by rw [hx, eN, show k = mx w q 0 0 by omega]; exact (chC_cg CV (snF G) _ (by omega)).symm)) (snd_m o C1) (FL73.tr (fun p e => F1.1 p (by omega))) (by assumption))
    refine r_aload_n (pc := 89) dX12_retime_89 rfl ?_
    refine r_iload_n (pc := 90) dX12_retime_90 rfl ?_
    refine r_iload_n (pc := 91) dX12_retime_91 rfl ?_
    refine c_X12_82 (pc := 92) rfl dX12_retime_92 (by first | assumption | rfl) (by omega) (Nat.le_of_ble_eq_true rfl) ?_
    have RK := RT k.toNat (by omega)
    rw [show ((k.toNat : Nat) : Int) = k by omega] at RK
    have P0 := I0.2.1 k (by omega) (by omega)
    have Ek : ∀ r : Nat, 1 ≤ r → r ≤ 5 → mx w1 q r k = mx w q r k := fun r a b => (E1 r k (by omega)).trans (retX_k (Int.le_refl k))
    refine m_X12_frame (d - 1) (by omega) (by assumption) hq (by omega) (fun r92 e92 b92 => ?_)
    rw [Ek 1 (by omega) (by omega)] at e92
    refine r_istore4 (pc := 95) dX12_retime_95 rfl ?_
    refine r_aload_n (pc := 97) dX12_retime_97 rfl ?_
    refine r_iload (pc := 98) dX12_retime_98 rfl ?_
    refine c_X12_168 (pc := 100) rfl dX12_retime_100 (by first | assumption | rfl) (by omega) (Nat.le_of_ble_eq_true rfl) ?_
    refine m_X12_sent (d - 1) (by omega) (by assumption) MP1.1 MP1.2.1 MP1.2.2 MI0 (by omega) (fun r100 e100 b100 c100 => ?_)
    rw [e92] at e100
    have e100 : r100 = snF G (mx w q 1 k) := e100
    refine r_istore5 (pc := 103) dX12_retime_103 rfl ?_
    refine r_aload_n (pc := 105) dX12_retime_105 rfl ?_
    refine h_X12_7 (pc := 106) rfl dX12_retime_106 ?_
    refine r_iload_n (pc := 109) dX12_retime_109 rfl ?_
    refine r_bipush (pc := 110) (n := 52) dX12_retime_110 (by decide) ?_
    refine r_iload_n (pc := 112) dX12_retime_112 rfl ?_
    refine c_X12_70 (pc := 113) rfl dX12_retime_113 (by omega) (Nat.le_of_ble_eq_true rfl) ?_
    refine m_X12_at (d - 1) (by omega) (by assumption) (fun r113 e113 => ?_)
    refine f_iald (pc := 116) dX12_retime_116 (n := 660) (by assumption) (by first | assumption | rfl) (by omega) (by omega) (by omega) (fun h116 => ?_)
    rw [mxR3 (w := w1) (q := q) (j := k) (i := r113) (by omega)] at h116 ⊢
    rw [Ek 3 (by omega) (by omega)] at h116 ⊢
    refine r_ifne (pc := 117) (tgt := 182) dX12_retime_117 rfl (by omega) (fun h117 => ?_) (fun h117 => ?_)
    · have M1 : EQ24 (mx w1 q) (retM (mx w q) G.now.n G.now.s G.now.g (fun j => sndS G.now.n G.now.s G.now.g (mx w q 1 j)) k) := by rw [retM_n (by omega)]; exact E1
      exact cut182 hq I0 RT w73 C73 X73 FL73 n0 ih k hm k0 (by omega) w1 x r92 r100 M1 F1 hx e92 (by rw [e92]; exact e100) (by omega) (by omega) (by assumption)
    refine r_aload_n (pc := 120) dX12_retime_120 rfl ?_
    refine h_X12_7 (pc := 121) rfl dX12_retime_121 ?_
    refine r_iload_n (pc := 124) dX12_retime_124 rfl ?_
    refine r_bipush (pc := 125) (n := 76) dX12_retime_125 (by decide) ?_
    refine r_iload_n (pc := 127) dX12_retime_127 rfl ?_
    refine c_X12_70 (pc := 128) rfl dX12_retime_128 (by omega) (Nat.le_of_ble_eq_true rfl) ?_
    refine m_X12_at (d - 1) (by omega) (by assumption) (fun r128 e128 => ?_)
    subst e128
    refine r_aload_n (pc := 131) dX12_retime_131 rfl ?_
    refine r_aload_n (pc := 132) dX12_retime_132 rfl ?_
    refine h_X12_7 (pc := 133) rfl dX12_retime_133 ?_
    refine r_iload_n (pc := 136) dX12_retime_136 rfl ?_
    refine r_bipush (pc := 137) (n := 76) dX12_retime_137 (by decide) ?_
    refine r_iload_n (pc := 139) dX12_retime_139 rfl ?_
    refine c_X12_70 (pc := 140) rfl dX12_retime_140 (by omega) (Nat.le_of_ble_eq_true rfl) ?_
    refine m_X12_at (d - 1) (by omega) (by assumption) (fun r140 e140 => ?_)
    refine f_iald (pc := 143) dX12_retime_143 (n := 660) (by assumption) (by first | assumption | rfl) (by omega) (by omega) (by omega) (fun h143 => ?_)
    rw [mxR4 (w := w1) (q := q) (j := k) (i := r140) (by omega)] at h143 ⊢
    rw [Ek 4 (by omega) (by omega)] at h143 ⊢
    refine r_iload (pc := 144) dX12_retime_144 rfl ?_
    refine r_iconst (pc := 146) (n := 0) dX12_retime_146 ?_
    refine c_X12_171 (pc := 147) rfl dX12_retime_147 (by first | assumption | rfl) (by omega) (Nat.le_of_ble_eq_true rfl) ?_
    refine m_X12_stretched (d - 1) (by omega) (by assumption) MP1.1 MP1.2.1 MP1.2.2 MI0 (by omega) (by omega) (Or.inl rfl) (fun r147 e147 b147 c147 => ?_)
    rw [e92] at e147
    refine f_iast (pc := 150) dX12_retime_150 (n := 660) (by assumption) (by first | assumption | rfl) (by omega) (by omega) (by omega) (by omega) (fun hw150 => ?_)
    refine r_aload_n (pc := 151) dX12_retime_151 rfl ?_
    refine h_X12_7 (pc := 152) rfl dX12_retime_152 ?_
    refine r_iload_n (pc := 155) dX12_retime_155 rfl ?_
    refine r_bipush (pc := 156) (n := 100) dX12_retime_156 (by decide) ?_
    refine r_iload_n (pc := 158) dX12_retime_158 rfl ?_
    refine c_X12_70 (pc := 159) rfl dX12_retime_159 (by omega) (Nat.le_of_ble_eq_true rfl) ?_
    refine m_X12_at (d - 1) (by omega) (by assumption) (fun r159 e159 => ?_)
    subst e159
    refine r_aload_n (pc := 162) dX12_retime_162 rfl ?_
    refine r_aload_n (pc := 163) dX12_retime_163 rfl ?_
    refine h_X12_7 (pc := 164) rfl dX12_retime_164 ?_
    refine r_iload_n (pc := 167) dX12_retime_167 rfl ?_
    refine r_bipush (pc := 168) (n := 100) dX12_retime_168 (by decide) ?_
    refine r_iload_n (pc := 170) dX12_retime_170 rfl ?_
    refine c_X12_70 (pc := 171) rfl dX12_retime_171 (by omega) (Nat.le_of_ble_eq_true rfl) ?_
    refine m_X12_at (d - 1) (by omega) (by assumption) (fun r171 e171 => ?_)
    refine f_iald (pc := 174) dX12_retime_174 (n := 660) (by assumption) (by first | assumption | rfl) (by omega) (by omega) (by omega) (fun h174 => ?_)
    rw [mxR5 (w := (up w1 386 (128 * q + 76 + k) r147)) (q := q) (j := k) (i := r171) (by omega)] at h174 ⊢
    have E5 : mx (up w1 386 (128 * q + 76 + k) r147) q 5 k = mx w q 5 k := by
      rw [mx_up (r := 4) (k := k) (i := 128 * q + 76 + k) (by omega) (by omega) (by omega) 5 k (by omega), stX_r (by omega)]
      exact Ek 5 (by omega) (by omega)
    rw [E5] at h174 ⊢
    refine r_iload (pc := 175) dX12_retime_175 rfl ?_
    refine r_iconst (pc := 177) (n := 1) dX12_retime_177 ?_
    refine c_X12_171 (pc := 178) rfl dX12_retime_178 (by first | assumption | rfl) (by omega) (Nat.le_of_ble_eq_true rfl) ?_
    have MP2 := MOG.mpr hG (w1 := up w1 386 (128 * q + 76 + k) r147) C73 (fun j e => by rw [up_off (by omega)]; exact F1.2 j (by omega))
    refine m_X12_stretched (d - 1) (by omega) (by assumption) MP2.1 MP2.2.1 MP2.2.2 MI0 (by omega) (by omega) (Or.inr rfl) (fun r178 e178 b178 c178 => ?_)
    rw [e92] at e178
    have M4 : EQ24 (mx (up (up w1 386 (128 * q + 76 + k) r147) 386 (128 * q + 100 + k) r178) q) (retM (mx w q) G.now.n G.now.s G.now.g (fun j => sndS G.now.n G.now.s G.now.g (mx w q 1 j)) k) := by
      rw [retM_f (by omega), ← e147, ← e178]
      refine (mx_up (r := 5) (k := k) (by omega) (by omega) (by omega)).tr (EQ24.st ?_ 5 k r178)
      exact (mx_up (r := 4) (k := k) (by omega) (by omega) (by omega)).tr (E1.st 4 k r147)
    refine f_iast (pc := 181) dX12_retime_181 (n := 660) (by assumption) (by first | assumption | rfl) (by omega) (by omega) (by omega) (by omega) (fun hw181 => ?_)
    exact cut182 hq I0 RT w73 C73 X73 FL73 n0 ih k hm k0 (by omega) _ x r92 r100 M4 (F1.tr ((FQ_up (by omega)).tr (FQ_up (by omega)))) hx e92 (by rw [e92]; exact e100) (by omega) (by omega) (by assumption)
  have loop12 : (0 ≤ q ∧ q ≤ 3) → CI (mx w q) → ∀ n0 : Nat, ∀ k : Nat, (mx w q 0 0 - k).toNat = n0 → (k : Int) ≤ mx w q 0 0 → ∀ (o3 o4 o5 : Option AV), (∀ j : Nat, j < k → (0 ≤ snF G (mx w q 1 j) ∧ snF G (mx w q 1 j) ≤ 480) ∧ (0 < j → snF G (mx w q 1 ((j : Int) - 1)) < snF G (mx w q 1 j))) → V mX12_retime (Rm d) 0 0 12 [some (vR (some 385)), some (vI q), some (vI k), o3, o4, o5] [] (fl w) (lQ Q) := by
    intro hq I0
    have CV := hC.cv hq
    have iq : inC q := hq
    have eN : G.now.c q 0 0 = mx w q 0 0 := CV.1
    have hn : 0 ≤ mx w q 0 0 ∧ mx w q 0 0 ≤ 24 := I0.1
    refine ind_lt ?_
    intro n0 ih k hm hk o3 o4 o5 RT
    refine r_iload_n (pc := 12) dX12_retime_12 rfl ?_
    refine r_aload_n (pc := 13) dX12_retime_13 rfl ?_
    refine r_iload_n (pc := 14) dX12_retime_14 rfl ?_
    refine c_X12_78 (pc := 15) rfl dX12_retime_15 (by first | assumption | rfl) (by omega) (Nat.le_of_ble_eq_true rfl) ?_
    refine m_X12_many (d - 1) (by omega) (by assumption) hq (fun r15 e15 b15 => ?_)
    subst e15
    refine r_icmpge (pc := 18) (tgt := 72) dX12_retime_18 rfl (by omega) (by omega) (fun h18 => ?_) (fun h18 => ?_)
    · refine r_aload_n (pc := 72) dX12_retime_72 rfl ?_
      refine c_X12_146 (pc := 73) rfl dX12_retime_73 (by first | assumption | rfl) (by omega) (Nat.le_of_ble_eq_true rfl) ?_
      refine m_X12_changes (d - 1) (by omega) (by assumption) hp (fun w73 c73 hw73 => ?_)
      obtain ⟨C73, F73⟩ := MOG_rec hG hC c73
      have X73 : mx w73 q = mx w q := by unfold mx; rw [F73 386 (by omega) (by omega)]
      have FL73 : FRH w w73 := fun p e => F73 p (by omega) (by omega)
      refine r_iconst (pc := 76) (n := 0) dX12_retime_76 ?_
      refine r_istore2 (pc := 77) dX12_retime_77 rfl ?_
      refine r_iconst (pc := 78) (n := 0) dX12_retime_78 ?_
      refine r_istore3 (pc := 79) dX12_retime_79 rfl ?_
      exact loop80 hq I0 (fun j hj => RT j (by omega)) w73 C73 X73 FL73 _ 0 rfl (by omega) (by omega) w73 _ _ _ (by rw [X73, retX_0]; exact fun _ _ _ => rfl) (FQ.rf _ _) rfl (by assumption)
    refine r_aload_n (pc := 21) dX12_retime_21 rfl ?_
    refine r_aload_n (pc := 22) dX12_retime_22 rfl ?_
    refine r_iload_n (pc := 23) dX12_retime_23 rfl ?_
    refine r_iload_n (pc := 24) dX12_retime_24 rfl ?_
    refine c_X12_82 (pc := 25) rfl dX12_retime_25 (by first | assumption | rfl) (by omega) (Nat.le_of_ble_eq_true rfl) ?_
    have P0 := I0.2.1 k (by omega) (by omega)
    refine m_X12_frame (d - 1) (by omega) (by assumption) hq (by omega) (fun r25 e25 b25 => ?_)
    subst e25
    refine c_X12_168 (pc := 28) rfl dX12_retime_28 (by first | assumption | rfl) (by omega) (Nat.le_of_ble_eq_true rfl) ?_
    refine m_X12_sent (d - 1) (by omega) (by assumption) hMn hMs hMg MI0 (by omega) (fun r28 e28 b28 c28 => ?_)
    have e28 : r28 = snF G (mx w q 1 k) := e28
    refine r_istore3 (pc := 31) dX12_retime_31 rfl ?_
    refine r_iload_n (pc := 32) dX12_retime_32 rfl ?_
    refine r_iconst (pc := 33) (n := 0) dX12_retime_33 ?_
    refine r_sipush (pc := 34) (n := 480) dX12_retime_34 (by decide) ?_
    refine c_X12_66 (pc := 37) rfl dX12_retime_37 (by omega) (Nat.le_of_ble_eq_true rfl) ?_
    refine m_X12_in (d - 1) (by omega) (by assumption) (by omega) (by omega) (by omega) (fun r37 e37 b37 => ?_)
    have i37 := b2i_i e37
    refine r_ifeq (pc := 40) (tgt := 63) dX12_retime_40 rfl (by omega) (fun h40 => ?_) (fun h40 => ?_)
    · have o : o_retime G q = (-1000000004, G) := by
        unfold o_retime
        rw [if_neg (fun z => z iq), if_pos (fun z => ?_)]
        have h := z k (by omega)
        rw [CV.row (r := 1) (j := k) (by omega) (by omega) (by omega) (by omega)] at h
        by_cases k0 : k = 0
        · omega
        · have h2 := h.2 (by omega)
          rw [CV.row (r := 1) (j := (k : Int) - 1) (by omega) (by omega) (by omega) (by omega)] at h2
          omega
      refine r_ldc (pc := 63) (n := -1000000004) dX12_retime_63 kw_X12_157 rfl ?_
      exact f_iret (pc := 65) dX12_retime_65 rfl (by assumption) (hQ _ _ (fst_m o (by omega)) (snd_m o hC) (FRH.rf w) (by assumption))
    refine r_iload_n (pc := 43) dX12_retime_43 rfl ?_
    refine r_ifle (pc := 44) (tgt := 66) dX12_retime_44 rfl (by omega) (fun h44 => ?_) (fun h44 => ?_)
    · have NE : 0 < k → snF G (mx w q 1 ((k : Int) - 1)) ≠ snF G (mx w q 1 k) := fun z => by omega
      refine r_iinc2 (pc := 66) dX12_retime_66 rfl ?_
      refine r_goto (pc := 69) (tgt := 12) dX12_retime_69 rfl ?_
      exact ih _ (by omega) (k + 1) rfl (by omega) _ _ _ (fun j hj => by
        by_cases z : j = k
        · subst z
          refine ⟨by omega, fun j0 => ?_⟩
          have P1 := I0.2.1 ((j : Int) - 1) (by omega) (by omega)
          have mo := snd_mono MI0 (f := mx w q 1 ((j : Int) - 1)) (h := mx w q 1 j) (by omega) (by have := I0.2.2.1 ((j : Int) - 1) j (by omega) (by omega) (by omega); omega) (by omega)
          have ne := NE j0
          unfold snF at *
          omega
        · exact RT j (by omega))
    refine r_aload_n (pc := 47) dX12_retime_47 rfl ?_
    refine r_aload_n (pc := 48) dX12_retime_48 rfl ?_
    refine r_iload_n (pc := 49) dX12_retime_49 rfl ?_
    refine r_iload_n (pc := 50) dX12_retime_50 rfl ?_
    refine r_iconst (pc := 51) (n := 1) dX12_retime_51 ?_
    refine r_isub (pc := 52) dX12_retime_52 ?_
    refine c_X12_82 (pc := 53) rfl dX12_retime_53 (by first | assumption | rfl) (by omega) (Nat.le_of_ble_eq_true rfl) ?_
    have P1 := I0.2.1 ((k : Int) - 1) (by omega) (by omega)
    refine m_X12_frame (d - 1) (by omega) (by assumption) hq (by omega) (fun r53 e53 b53 => ?_)
    subst e53
    refine c_X12_168 (pc := 56) rfl dX12_retime_56 (by first | assumption | rfl) (by omega) (Nat.le_of_ble_eq_true rfl) ?_
    refine m_X12_sent (d - 1) (by omega) (by assumption) hMn hMs hMg MI0 (by omega) (fun r56 e56 b56 c56 => ?_)
    have e56 : r56 = snF G (mx w q 1 ((k : Int) - 1)) := e56
    refine r_iload_n (pc := 59) dX12_retime_59 rfl ?_
    refine r_icmpne (pc := 60) (tgt := 66) dX12_retime_60 rfl (by omega) (by omega) (fun h60 => ?_) (fun h60 => ?_)
    · have NE : 0 < k → snF G (mx w q 1 ((k : Int) - 1)) ≠ snF G (mx w q 1 k) := fun z => by omega
      refine r_iinc2 (pc := 66) dX12_retime_66 rfl ?_
      refine r_goto (pc := 69) (tgt := 12) dX12_retime_69 rfl ?_
      exact ih _ (by omega) (k + 1) rfl (by omega) _ _ _ (fun j hj => by
        by_cases z : j = k
        · subst z
          refine ⟨by omega, fun j0 => ?_⟩
          have P1 := I0.2.1 ((j : Int) - 1) (by omega) (by omega)
          have mo := snd_mono MI0 (f := mx w q 1 ((j : Int) - 1)) (h := mx w q 1 j) (by omega) (by have := I0.2.2.1 ((j : Int) - 1) j (by omega) (by omega) (by omega); omega) (by omega)
          have ne := NE j0
          unfold snF at *
          omega
        · exact RT j (by omega))
    have o : o_retime G q = (-1000000004, G) := by
      unfold o_retime
      rw [if_neg (fun z => z iq), if_pos (fun z => ?_)]
      have h := z k (by omega)
      rw [CV.row (r := 1) (j := k) (by omega) (by omega) (by omega) (by omega)] at h
      by_cases k0 : k = 0
      · omega
      · have h2 := h.2 (by omega)
        rw [CV.row (r := 1) (j := (k : Int) - 1) (by omega) (by omega) (by omega) (by omega)] at h2
        omega
    refine r_ldc (pc := 63) (n := -1000000004) dX12_retime_63 kw_X12_157 rfl ?_
    exact f_iret (pc := 65) dX12_retime_65 rfl (by assumption) (hQ _ _ (fst_m o (by omega)) (snd_m o hC) (FRH.rf w) (by assumption))
  refine r_iload_n (pc := 0) dX12_retime_0 rfl ?_
  refine c_X12_74 (pc := 1) rfl dX12_retime_1 (by omega) (Nat.le_of_ble_eq_true rfl) ?_
  refine m_X12_isCurve (d - 1) (by omega) (by assumption) (by omega) (fun r1 e1 b1 => ?_)
  have i1 := b2i_i e1
  refine r_ifne (pc := 4) (tgt := 10) dX12_retime_4 rfl (by omega) (fun h4 => ?_) (fun h4 => ?_)
  · have hq : 0 ≤ q ∧ q ≤ 3 := by omega
    have iq : inC q := hq
    have CV := hC.cv hq
    have I0 := hC.ci hq
    have hn : 0 ≤ mx w q 0 0 ∧ mx w q 0 0 ≤ 24 := I0.1
    have eN : G.now.c q 0 0 = mx w q 0 0 := CV.1
    refine r_iconst (pc := 10) (n := 0) dX12_retime_10 ?_
    refine r_istore2 (pc := 11) dX12_retime_11 rfl ?_
    exact loop12 hq I0 _ 0 rfl (by omega) _ _ _ (fun j hj => absurd hj (Nat.not_lt_zero j))
  have o : o_retime G q = (-1000000001, G) := by
    unfold o_retime
    exact if_pos (fun z => by have z : 0 ≤ q ∧ q ≤ 3 := z; omega)
  refine r_ldc (pc := 7) (n := -1000000001) dX12_retime_7 kw_X12_131 rfl ?_
  exact f_iret (pc := 9) dX12_retime_9 rfl (by assumption) (hQ _ _ (fst_m o (by omega)) (snd_m o hC) (FRH.rf w) (by assumption))
