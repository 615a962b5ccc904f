/-! a formula's sum: places of its loops, with a continuation -/
def FK (Q : Option AV → Wd → Prop) (w0 : Wd) (T : Int → Int) (len q : Int) : Prop := ∀ w2 r, R32 r → FRP w0 w2 → MS w2 T len (.inl q) → WR w2 → Q (some (vI r)) w2
def C12 (Q : Option AV → Wd → Prop) (w0 : Wd) (d : Nat) (T : Int → Int) (len : Int) (S : List FR6) (t : Int ⊕ Int) (fa : Int) : Prop := ∀ (w : Wd) (o2 : Option AV), FRP w0 w → MP w T len t S fa → WR w → V mX12_sum (Rm d) 0 0 12 [some (vR (some 385)), some (vI 1), o2] [] (fl w) (lQ Q)
def C35 (Q : Option AV → Wd → Prop) (w0 : Wd) (d : Nat) (T : Int → Int) (len : Int) (S : List FR6) (t : Int ⊕ Int) (fa r : Int) : Prop := ∀ (w : Wd), FRP w0 w → MP w T len t S fa → WR w → V mX12_sum (Rm d) 0 0 35 [some (vR (some 385)), some (vI 1), some (vI r)] [] (fl w) (lQ Q)
def CG (Q : Option AV → Wd → Prop) (w0 : Wd) (d : Nat) (T : Int → Int) (len : Int) (S : List FR6) (g : Int) (t : Int ⊕ Int) (fa : Int) : Prop := C35 Q w0 d T len (gon T len S g t).1 (gon T len S g t).2.1 fa (gon T len S g t).2.2
def ENVM (w0 : Wd) : Prop := (∀ q, 0 ≤ q → q ≤ 3 → CI (mx w0 q)) ∧ 0 ≤ w0 385 16 ∧ w0 385 16 ≤ 960
theorem ENVM.kp {w0 w : Wd} (h : ENVM w0) (f : FRP w0 w) : (∀ q, 0 ≤ q → q ≤ 3 → CI (mx w q)) ∧ (0 ≤ w 385 16 ∧ w 385 16 ≤ 960) := by
  refine ⟨fun q a b => ?_, ?_⟩
  · have z : mx w q = mx w0 q := by unfold mx; rw [f.1 386 (by omega) (by omega)]
    rw [z]; exact h.1 q a b
  · rw [f.2 16 (by omega) (by omega) (by omega) (by omega) (by omega) (by omega)]; exact h.2
theorem gon_l {T : Int → Int} {len q : Int} : ∀ (S : List FR6) (g : Int), (gon T len S g (.inl q)).2.1 = .inl q
  | [], _ => rfl
  | G :: r, g => by
    unfold gon
    split
    · exact gon_l r _
    · unfold gmE
      rw [if_neg (show ¬ pkS T len (.inl q) = 42 by show ¬ (-1 : Int) = 42; omega)]
      dsimp only
      split <;> rfl
theorem gon_b {T : Int → Int} {len : Int} : ∀ (S : List FR6) (g : Int) (t : Int ⊕ Int), (gon T len S g t).2.2 = 0 ∨ (gon T len S g t).2.2 = 1
  | [], _, _ => Or.inl rfl
  | G :: r, g, t => by
    unfold gon
    split
    · exact gon_b r _ t
    · unfold gmE
      split
      · exact Or.inr rfl
      · dsimp only
        split
        · exact Or.inl rfl
        · exact Or.inr rfl
set_option maxRecDepth 8000 in
theorem P_f12 {Q : Option AV → Wd → Prop} {w0 : Wd} {d : Nat} {T : Int → Int} {len : Int} {S : List FR6} {q fa : Int} (hF : FK Q w0 T len q) : C12 Q w0 d T len S (.inl q) fa := by
  intro w o2 hf hM hw
  have hS := hM.1
  obtain ⟨y1, y2, y3⟩ := hS.inl
  refine r_iload_n (pc := 12) dX12_sum_12 rfl ?_
  refine r_ifeq (pc := 13) (tgt := 98) dX12_sum_13 rfl (by omega) (fun h13 => ?_) (fun h13 => ?_)
  · omega
    --stop
  refine r_aload_n (pc := 16) dX12_sum_16 rfl ?_
  refine h_X12_216 (pc := 17) rfl dX12_sum_17 (by assumption) (fun h17 => ?_)
  refine r_ifge (pc := 20) (tgt := 98) dX12_sum_20 rfl (by omega) (fun h20 => ?_) (fun h20 => ?_)
  · refine r_aload_n (pc := 98) dX12_sum_98 rfl ?_
    refine h_X12_247 (pc := 99) rfl dX12_sum_99 (by assumption) (fun h99 => ?_)
    exact f_iret (pc := 102) dX12_sum_102 rfl (by assumption) (hF _ _ (by omega) hf hS (by assumption))
  omega
  --stop
set_option maxRecDepth 8000 in
theorem P_f35 {Q : Option AV → Wd → Prop} {w0 : Wd} {d : Nat} {T : Int → Int} {len : Int} {S : List FR6} {q fa r : Int} (hr : R32 r) (hF : FK Q w0 T len q) : C35 Q w0 d T len S (.inl q) fa r := by
  intro w hf hM hw
  have hS := hM.1
  obtain ⟨y1, y2, y3⟩ := hS.inl
  refine r_iload_n (pc := 35) dX12_sum_35 rfl ?_
  refine r_ifeq (pc := 36) (tgt := 95) dX12_sum_36 rfl (by omega) (fun h36 => ?_) (fun h36 => ?_)
  · omega
    --stop
  refine r_iload_n (pc := 39) dX12_sum_39 rfl ?_
  refine r_ifne (pc := 40) (tgt := 95) dX12_sum_40 rfl (by omega) (fun h40 => ?_) (fun h40 => ?_)
  · refine r_goto (pc := 95) (tgt := 12) dX12_sum_95 rfl ?_
    exact P_f12 hF w _ hf hM (by assumption)
  refine r_aload_n (pc := 43) dX12_sum_43 rfl ?_
  refine h_X12_216 (pc := 44) rfl dX12_sum_44 (by assumption) (fun h44 => ?_)
  refine r_ifge (pc := 47) (tgt := 95) dX12_sum_47 rfl (by omega) (fun h47 => ?_) (fun h47 => ?_)
  · refine r_goto (pc := 95) (tgt := 12) dX12_sum_95 rfl ?_
    exact P_f12 hF w _ hf hM (by assumption)
  omega
  --stop
set_option maxRecDepth 8000 in
theorem P_more {Q : Option AV → Wd → Prop} {w0 : Wd} {d : Nat} {T : Int → Int} {len : Int} {S : List FR6} {t : Int ⊕ Int} {fa : Int} (h : C12 Q w0 d T len S t fa) : C35 Q w0 d T len S t fa 1 := by
  intro w hf hM hw
  refine r_iload_n (pc := 35) dX12_sum_35 rfl ?_
  refine r_ifeq (pc := 36) (tgt := 95) dX12_sum_36 rfl (by omega) (fun h36 => ?_) (fun h36 => ?_)
  · omega
    --stop
  refine r_iload_n (pc := 39) dX12_sum_39 rfl ?_
  refine r_ifne (pc := 40) (tgt := 95) dX12_sum_40 rfl (by omega) (fun h40 => ?_) (fun h40 => ?_)
  · refine r_goto (pc := 95) (tgt := 12) dX12_sum_95 rfl ?_
    exact h w _ hf hM (by assumption)
  omega
  --stop
set_option maxRecDepth 8000 in
theorem P_end {Q : Option AV → Wd → Prop} {d : Nat} {w : Wd} {r : Int} (hw : WR w) (hQ : Q (some (vI (w 385 24))) w) : V mX12_sum (Rm d) 0 0 35 [some (vR (some 385)), some (vI 0), some (vI r)] [] (fl w) (lQ Q) := by
  skip
  refine r_iload_n (pc := 35) dX12_sum_35 rfl ?_
  refine r_ifeq (pc := 36) (tgt := 95) dX12_sum_36 rfl (by omega) (fun h36 => ?_) (fun h36 => ?_)
  · refine r_goto (pc := 95) (tgt := 12) dX12_sum_95 rfl ?_
    refine r_iload_n (pc := 12) dX12_sum_12 rfl ?_
    refine r_ifeq (pc := 13) (tgt := 98) dX12_sum_13 rfl (by omega) (fun h13 => ?_) (fun h13 => ?_)
    · refine r_aload_n (pc := 98) dX12_sum_98 rfl ?_
      refine h_X12_247 (pc := 99) rfl dX12_sum_99 (by assumption) (fun h99 => ?_)
      exact f_iret (pc := 102) dX12_sum_102 rfl (by assumption) hQ
    omega
    --stop
  omega
  --stop
set_option maxRecDepth 8000 in
theorem P_val {Q : Option AV → Wd → Prop} {w0 : Wd} {d : Nat} {T : Int → Int} {len : Int} {St : List FR6} {p fa : Int} {n : Nat} (hd : 10 ≤ d) (hE : ENVM w0) (hn : (St.length : Int) = 9 - n) (h1 : ∀ t2 e g, facS T len n p = mkR t2 e → lfs e.1 = 1 → (∀ q, t2 = .inr q → g = e.2 (Vm w0)) → CG Q w0 d T len St g t2 (fa + 1)) (h0 : ∀ t2 S2, IVN T len St n p t2 S2 → C12 Q w0 d T len S2 t2 fa) : C12 Q w0 d T len St (.inr p) fa := by
  intro w o2 hf hM hw
  obtain ⟨y1, y2, y3, y4⟩ := hM.1.inr
  have ev := hE.kp hf
  rw [← Vm_kp hf] at h1
  refine r_iload_n (pc := 12) dX12_sum_12 rfl ?_
  refine r_ifeq (pc := 13) (tgt := 98) dX12_sum_13 rfl (by omega) (fun h13 => ?_) (fun h13 => ?_)
  · omega
    --stop
  refine r_aload_n (pc := 16) dX12_sum_16 rfl ?_
  refine h_X12_216 (pc := 17) rfl dX12_sum_17 (by assumption) (fun h17 => ?_)
  refine r_ifge (pc := 20) (tgt := 98) dX12_sum_20 rfl (by omega) (fun h20 => ?_) (fun h20 => ?_)
  · omega
    --stop
  refine r_aload_n (pc := 23) dX12_sum_23 rfl ?_
  refine c_X12_260 (pc := 24) rfl dX12_sum_24 (by first | assumption | rfl) (by omega) (Nat.le_of_ble_eq_true rfl) ?_
  refine m_X12_isValue (n := n) (d - 1) (by omega) (by assumption) hM hn ev.1 ev.2 (fun w24 t24 e24 g24 a24 b24 c24 f24 m24 x24 hw24 => ?_) (fun w24 t24 S24 i24 f24 m24 hw24 => ?_)
  · refine r_ifeq (pc := 27) (tgt := 12) dX12_sum_27 rfl (by omega) (fun h27 => ?_) (fun h27 => ?_)
    · omega
    refine r_aload_n (pc := 30) dX12_sum_30 rfl ?_
    refine c_X12_264 (pc := 31) rfl dX12_sum_31 (by first | assumption | rfl) (by omega) (Nat.le_of_ble_eq_true rfl) ?_
    refine m_X12_goesOn (d - 1) (by omega) (by assumption) m24 x24 (fun w31 f31 m31 hw31 => ?_)
    refine r_istore2 (pc := 34) dX12_sum_34 rfl ?_
    exact h1 t24 e24 g24 a24 b24 c24 w31 ((hf.tr f24).tr f31) m31 (by assumption)
  refine r_ifeq (pc := 27) (tgt := 12) dX12_sum_27 rfl (by omega) (fun h27 => ?_) (fun h27 => ?_)
  · exact h0 t24 S24 i24 w24 _ (hf.tr f24) m24 (by assumption)
  · omega
  --stop
set_option maxRecDepth 8000 in
theorem P_o0 {Q : Option AV → Wd → Prop} {w0 : Wd} {d : Nat} {T : Int → Int} {len : Int} {G : FR6} {R : List FR6} {p fa : Int} (hd : 10 ≤ d) (hk : G.1 = 0) (hQ : ∀ w2, FRP w0 w2 → MP w2 T len (.inr p) (G :: R) fa → WR w2 → R32 G.2.2.1 → Q (some (vI G.2.2.1)) w2) : C35 Q w0 d T len (G :: R) (.inr p) fa 0 := by
  intro w hf hM hw
  obtain ⟨y1, y2, y3, y4⟩ := hM.1.inr
  have ho := hM.2.2.1
  have ho : w 385 23 = R.length := by rw [ho, List.length_cons]; omega
  have hk1 := hM.2.1.1.1
  have hl := hM.2.2.2.2.2.2.1
  rw [List.length_cons] at hl
  
  refine r_iload_n (pc := 35) dX12_sum_35 rfl ?_
  refine r_ifeq (pc := 36) (tgt := 95) dX12_sum_36 rfl (by omega) (fun h36 => ?_) (fun h36 => ?_)
  · omega
    --stop
  refine r_iload_n (pc := 39) dX12_sum_39 rfl ?_
  refine r_ifne (pc := 40) (tgt := 95) dX12_sum_40 rfl (by omega) (fun h40 => ?_) (fun h40 => ?_)
  · omega
    --stop
  refine r_aload_n (pc := 43) dX12_sum_43 rfl ?_
  refine h_X12_216 (pc := 44) rfl dX12_sum_44 (by assumption) (fun h44 => ?_)
  refine r_ifge (pc := 47) (tgt := 95) dX12_sum_47 rfl (by omega) (fun h47 => ?_) (fun h47 => ?_)
  · omega
    --stop
  refine r_aload_n (pc := 50) dX12_sum_50 rfl ?_
  refine h_X12_38 (pc := 51) rfl dX12_sum_51 ?_
  refine r_aload_n (pc := 54) dX12_sum_54 rfl ?_
  refine h_X12_238 (pc := 55) rfl dX12_sum_55 (by assumption) (fun h55 => ?_)
  rw [ho] at h55 ⊢
  refine f_iald (pc := 58) dX12_sum_58 (n := 10) (by assumption) (by first | assumption | rfl) (by omega) (by omega) (by omega) (fun h58 => ?_)
  rw [hk1] at h58 ⊢
  refine r_ifle (pc := 59) (tgt := 66) dX12_sum_59 rfl (by omega) (fun h59 => ?_) (fun h59 => ?_)
  · refine r_iconst (pc := 66) (n := 0) dX12_sum_66 ?_
    refine r_istore1 (pc := 67) dX12_sum_67 rfl ?_
    refine r_aload_n (pc := 68) dX12_sum_68 rfl ?_
    refine c_X12_267 (pc := 69) rfl dX12_sum_69 (by first | assumption | rfl) (by omega) (Nat.le_of_ble_eq_true rfl) ?_
    refine m_X12_isOver (G := G) (R := R) (d - 1) (by omega) (by assumption) hM (by omega) (fun z => absurd hk z) (fun _ w69 f69 m69 g69 hw69 => ?_) (fun z => by omega) (fun z => by omega)
    refine r_ifeq (pc := 72) (tgt := 86) dX12_sum_72 rfl (by omega) (fun h72 => ?_) (fun h72 => ?_)
    · omega
      --stop
    refine r_iload_n (pc := 75) dX12_sum_75 rfl ?_
    refine r_ifeq (pc := 76) (tgt := 90) dX12_sum_76 rfl (by omega) (fun h76 => ?_) (fun h76 => ?_)
    · refine r_iconst (pc := 90) (n := 0) dX12_sum_90 ?_
      refine r_istore2 (pc := 91) dX12_sum_91 rfl ?_
      refine r_goto (pc := 92) (tgt := 35) dX12_sum_92 rfl ?_
      exact P_end (by assumption) (by rw [g69]; exact hQ w69 (hf.tr f69) m69 (by assumption) (by rw [← g69]; exact hw69 _ _))
    omega
    --stop
  omega
  --stop
set_option maxRecDepth 8000 in
theorem P_o1 {Q : Option AV → Wd → Prop} {w0 : Wd} {d : Nat} {T : Int → Int} {len : Int} {G : FR6} {R : List FR6} {p fa : Int} (hd : 10 ≤ d) (hk : G.1 = 1 ∨ G.1 = 4 ∨ G.1 = 6) (hR : R ≠ []) (h : CG Q w0 d T len R (isoG G) (exT T len 41 (.inr p)) fa) : C35 Q w0 d T len (G :: R) (.inr p) fa 0 := by
  intro w hf hM hw
  obtain ⟨y1, y2, y3, y4⟩ := hM.1.inr
  have ho := hM.2.2.1
  have ho : w 385 23 = R.length := by rw [ho, List.length_cons]; omega
  have hk1 := hM.2.1.1.1
  have hl := hM.2.2.2.2.2.2.1
  rw [List.length_cons] at hl
  have gr : ∀ z : Int, (gon T len R (isoG G) (exT T len 41 (.inr p))).2.2 = z → (z = 0 ∨ z = 1) → C35 Q w0 d T len (gon T len R (isoG G) (exT T len 41 (.inr p))).1 (gon T len R (isoG G) (exT T len 41 (.inr p))).2.1 fa z := fun z e _ => by rw [← e]; exact h
  have gb := gon_b (T := T) (len := len) R (isoG G) (exT T len 41 (.inr p))
  refine r_iload_n (pc := 35) dX12_sum_35 rfl ?_
  refine r_ifeq (pc := 36) (tgt := 95) dX12_sum_36 rfl (by omega) (fun h36 => ?_) (fun h36 => ?_)
  · omega
    --stop
  refine r_iload_n (pc := 39) dX12_sum_39 rfl ?_
  refine r_ifne (pc := 40) (tgt := 95) dX12_sum_40 rfl (by omega) (fun h40 => ?_) (fun h40 => ?_)
  · omega
    --stop
  refine r_aload_n (pc := 43) dX12_sum_43 rfl ?_
  refine h_X12_216 (pc := 44) rfl dX12_sum_44 (by assumption) (fun h44 => ?_)
  refine r_ifge (pc := 47) (tgt := 95) dX12_sum_47 rfl (by omega) (fun h47 => ?_) (fun h47 => ?_)
  · omega
    --stop
  refine r_aload_n (pc := 50) dX12_sum_50 rfl ?_
  refine h_X12_38 (pc := 51) rfl dX12_sum_51 ?_
  refine r_aload_n (pc := 54) dX12_sum_54 rfl ?_
  refine h_X12_238 (pc := 55) rfl dX12_sum_55 (by assumption) (fun h55 => ?_)
  rw [ho] at h55 ⊢
  refine f_iald (pc := 58) dX12_sum_58 (n := 10) (by assumption) (by first | assumption | rfl) (by omega) (by omega) (by omega) (fun h58 => ?_)
  rw [hk1] at h58 ⊢
  refine r_ifle (pc := 59) (tgt := 66) dX12_sum_59 rfl (by omega) (fun h59 => ?_) (fun h59 => ?_)
  · omega
    --stop
  refine r_iconst (pc := 62) (n := 1) dX12_sum_62 ?_
  refine r_goto (pc := 63) (tgt := 67) dX12_sum_63 rfl ?_
  refine r_istore1 (pc := 67) dX12_sum_67 rfl ?_
  refine r_aload_n (pc := 68) dX12_sum_68 rfl ?_
  refine c_X12_267 (pc := 69) rfl dX12_sum_69 (by first | assumption | rfl) (by omega) (Nat.le_of_ble_eq_true rfl) ?_
  refine m_X12_isOver (G := G) (R := R) (d - 1) (by omega) (by assumption) hM (by omega) (fun _ => hR) (fun z => by omega) (fun _ w69 f69 m69 g69 hw69 => ?_) (fun z => by omega)
  refine r_ifeq (pc := 72) (tgt := 86) dX12_sum_72 rfl (by omega) (fun h72 => ?_) (fun h72 => ?_)
  · omega
    --stop
  refine r_iload_n (pc := 75) dX12_sum_75 rfl ?_
  refine r_ifeq (pc := 76) (tgt := 90) dX12_sum_76 rfl (by omega) (fun h76 => ?_) (fun h76 => ?_)
  · omega
    --stop
  refine r_aload_n (pc := 79) dX12_sum_79 rfl ?_
  refine c_X12_264 (pc := 80) rfl dX12_sum_80 (by first | assumption | rfl) (by omega) (Nat.le_of_ble_eq_true rfl) ?_
  refine m_X12_goesOn (d - 1) (by omega) (by assumption) m69 g69 (fun w80 f80 m80 hw80 => ?_)
  generalize hz : (gon T len R (isoG G) (exT T len 41 (.inr p))).2.2 = z at gb ⊢
  refine r_ifeq (pc := 83) (tgt := 90) dX12_sum_83 rfl (by omega) (fun h83 => ?_) (fun h83 => ?_)
  · refine r_iconst (pc := 90) (n := 0) dX12_sum_90 ?_
    refine r_istore2 (pc := 91) dX12_sum_91 rfl ?_
    refine r_goto (pc := 92) (tgt := 35) dX12_sum_92 rfl ?_
    exact gr _ (by omega) (by omega) _ ((hf.tr f69).tr f80) m80 (by assumption)
  refine r_iconst (pc := 86) (n := 1) dX12_sum_86 ?_
  refine r_goto (pc := 87) (tgt := 91) dX12_sum_87 rfl ?_
  refine r_istore2 (pc := 91) dX12_sum_91 rfl ?_
  refine r_goto (pc := 92) (tgt := 35) dX12_sum_92 rfl ?_
  exact gr _ (by omega) (by omega) _ ((hf.tr f69).tr f80) m80 (by assumption)
set_option maxRecDepth 8000 in
theorem P_o3 {Q : Option AV → Wd → Prop} {w0 : Wd} {d : Nat} {T : Int → Int} {len : Int} {G : FR6} {R : List FR6} {p fa : Int} (hd : 10 ≤ d) (hk : G.1 = 3 ∨ G.1 = 5) (hR : R ≠ []) (h : C12 Q w0 d T len ((G.1 + 1, 0, G.2.2.1, G.2.2.2.1, 0, G.2.2.1) :: R) (exT T len 44 (.inr p)) fa) : C35 Q w0 d T len (G :: R) (.inr p) fa 0 := by
  intro w hf hM hw
  obtain ⟨y1, y2, y3, y4⟩ := hM.1.inr
  have ho := hM.2.2.1
  have ho : w 385 23 = R.length := by rw [ho, List.length_cons]; omega
  have hk1 := hM.2.1.1.1
  have hl := hM.2.2.2.2.2.2.1
  rw [List.length_cons] at hl
  
  refine r_iload_n (pc := 35) dX12_sum_35 rfl ?_
  refine r_ifeq (pc := 36) (tgt := 95) dX12_sum_36 rfl (by omega) (fun h36 => ?_) (fun h36 => ?_)
  · omega
    --stop
  refine r_iload_n (pc := 39) dX12_sum_39 rfl ?_
  refine r_ifne (pc := 40) (tgt := 95) dX12_sum_40 rfl (by omega) (fun h40 => ?_) (fun h40 => ?_)
  · omega
    --stop
  refine r_aload_n (pc := 43) dX12_sum_43 rfl ?_
  refine h_X12_216 (pc := 44) rfl dX12_sum_44 (by assumption) (fun h44 => ?_)
  refine r_ifge (pc := 47) (tgt := 95) dX12_sum_47 rfl (by omega) (fun h47 => ?_) (fun h47 => ?_)
  · omega
    --stop
  refine r_aload_n (pc := 50) dX12_sum_50 rfl ?_
  refine h_X12_38 (pc := 51) rfl dX12_sum_51 ?_
  refine r_aload_n (pc := 54) dX12_sum_54 rfl ?_
  refine h_X12_238 (pc := 55) rfl dX12_sum_55 (by assumption) (fun h55 => ?_)
  rw [ho] at h55 ⊢
  refine f_iald (pc := 58) dX12_sum_58 (n := 10) (by assumption) (by first | assumption | rfl) (by omega) (by omega) (by omega) (fun h58 => ?_)
  rw [hk1] at h58 ⊢
  refine r_ifle (pc := 59) (tgt := 66) dX12_sum_59 rfl (by omega) (fun h59 => ?_) (fun h59 => ?_)
  · omega
    --stop
  refine r_iconst (pc := 62) (n := 1) dX12_sum_62 ?_
  refine r_goto (pc := 63) (tgt := 67) dX12_sum_63 rfl ?_
  refine r_istore1 (pc := 67) dX12_sum_67 rfl ?_
  refine r_aload_n (pc := 68) dX12_sum_68 rfl ?_
  refine c_X12_267 (pc := 69) rfl dX12_sum_69 (by first | assumption | rfl) (by omega) (Nat.le_of_ble_eq_true rfl) ?_
  refine m_X12_isOver (G := G) (R := R) (d - 1) (by omega) (by assumption) hM (by omega) (fun _ => hR) (fun z => by omega) (fun z => by omega) (fun _ w69 f69 m69 hw69 => ?_)
  refine r_ifeq (pc := 72) (tgt := 86) dX12_sum_72 rfl (by omega) (fun h72 => ?_) (fun h72 => ?_)
  · refine r_iconst (pc := 86) (n := 1) dX12_sum_86 ?_
    refine r_goto (pc := 87) (tgt := 91) dX12_sum_87 rfl ?_
    refine r_istore2 (pc := 91) dX12_sum_91 rfl ?_
    refine r_goto (pc := 92) (tgt := 35) dX12_sum_92 rfl ?_
    exact P_more h w69 (hf.tr f69) m69 (by assumption)
  omega
  --stop

section
variable {Q : Option AV → Wd → Prop} {w0 : Wd} {d : Nat} {T : Int → Int} {len : Int}
theorem CG_f {S : List FR6} {g q fa : Int} (hF : FK Q w0 T len q) : CG Q w0 d T len S g (.inl q) fa := by
  have b := gon_b (T := T) (len := len) S g (.inl q)
  unfold CG
  rw [gon_l]
  exact P_f35 (by omega) hF
/-- what holds of factors at a level -/
def ACL (Q : Option AV → Wd → Prop) (w0 : Wd) (d : Nat) (T : Int → Int) (len : Int) (n : Nat) : Prop := ∀ (St : List FR6) (p fa : Int), (St.length : Int) = 9 - n → p ≤ len → (∀ q, facS T len n p = .inl q → FK Q w0 T len q) → (∀ q e, facS T len n p = .inr (q, e) → CG Q w0 d T len St (e.2 (Vm w0)) (.inr q) (fa + lfs e.1)) → C12 Q w0 d T len St (.inr p) fa
def fr (k s x y m z : Int) : FR6 := (k, s, x, y, m, z)
/-- after a value v of a product, by what the frame was -/
def CV (Q : Option AV → Wd → Prop) (w0 : Wd) (d : Nat) (T : Int → Int) (len : Int) (k s x z : Int) (R : List FR6) (v : Int) (t : Int ⊕ Int) (fa : Int) : Prop := C35 Q w0 d T len ((gmE T len (fr k s x 0 0 z) v t).1 :: R) (gmE T len (fr k s x 0 0 z) v t).2.1 fa (gmE T len (fr k s x 0 0 z) v t).2.2
theorem CG_cv {k s x y m z g fa : Int} {R : List FR6} {t : Int ⊕ Int} (hk : k ≠ 2) (h : CV Q w0 d T len k s x z R (if m = 0 then g else cmb 4 y g) t fa) : CG Q w0 d T len (fr k s x y m z :: R) g t fa := by
  unfold CG
  rw [gon_n T len (show (fr k s x y m z).1 ≠ 2 from hk)]
  exact h
theorem hT_len {q : Int} (h : len ≤ q) : hT T len q = -1 := if_neg (by omega)
theorem L_pro {n : Nat} (hG : ∀ p, p ≤ len → GP len p (facS T len n p)) (hA : ACL Q w0 d T len n) {k s x z : Int} {R : List FR6} (hl : ((fr k s x 0 0 z :: R).length : Int) = 9 - n) (hk : k ≠ 2) (hlen : len ≤ 120) {base : Int} : ∀ (m : Nat) (q : Int) (e : EE), 120 ≤ q + m → q ≤ len → (∀ q2, proL T len (facS T len n) m q e = .inl q2 → FK Q w0 T len q2) → (∀ q2 e2, proL T len (facS T len n) m q e = .inr (q2, e2) → hT T len q2 ≠ 42 → CV Q w0 d T len k s x z R (e2.2 (Vm w0)) (.inr q2) (base + lfs e2.1)) → CV Q w0 d T len k s x z R (e.2 (Vm w0)) (.inr q) (base + lfs e.1)
  | 0, q, e, h120, hq, _, hc => hc q e rfl (by rw [hT_len (by omega)]; omega)
  | m + 1, q, e, h120, hq, hf, hc => by
    by_cases h42 : hT T len q = 42
    · have pq := hT_pos (T := T) (len := len) (p := q) (by omega)
      have E : proL T len (facS T len n) (m + 1) q e = bn (facS T len n (q + 1)) fun q2 e2 => proL T len (facS T len n) m q2 (eB 4 e e2) := if_pos h42
      unfold CV
      rw [show gmE T len (fr k s x 0 0 z) (e.2 (Vm w0)) (.inr q) = (fr k s x (e.2 (Vm w0)) 1 z, .inr (q + 1), 1) from if_pos h42]
      refine P_more (hA _ _ _ hl (by omega) (fun q2 h2 => hf q2 (by rw [E, h2]; rfl)) (fun q2 e2 h2 => ?_))
      have g := hG (q + 1) (by omega)
      rw [h2] at g
      obtain ⟨g1, g2, g3, g4⟩ := g
      refine CG_cv hk ?_
      rw [if_neg (show ¬ (1 : Int) = 0 by omega)]
      have r := L_pro hG hA hl hk hlen (base := base) m q2 (eB 4 e e2) (by omega) g2 (fun q3 h3 => hf q3 (by rw [E, h2]; exact h3)) (fun q3 e3 h3 => hc q3 e3 (by rw [E, h2]; exact h3))
      rw [lfs_B (by omega), ← Int.add_assoc] at r
      exact r
    · exact hc q e (if_neg h42) h42
theorem L_sum {n : Nat} (hG : ∀ p, p ≤ len → GP len p (facS T len n p)) (hA : ACL Q w0 d T len n) {k z : Int} {R : List FR6} (hl : ((fr k 0 0 0 0 z :: R).length : Int) = 9 - n) (hk : k ≠ 2) (hlen : len ≤ 120) {base : Int} : ∀ (m : Nat) (q : Int) (e : EE) (y : Int), 0 ≤ q → 120 ≤ q + m → q ≤ len → (∀ q2, sumL T len (facS T len n) m q e = .inl q2 → FK Q w0 T len q2) → (∀ q2 e2 y2, sumL T len (facS T len n) m q e = .inr (q2, e2) → C35 Q w0 d T len (fr k 0 (e2.2 (Vm w0)) y2 0 z :: R) (.inr q2) (base + lfs e2.1) 0) → C35 Q w0 d T len (fr k (sgN T len (.inr q)) (e.2 (Vm w0)) y 0 z :: R) (if sgN T len (.inr q) = 0 then .inr q else .inr (q + 1)) (base + lfs e.1) (if sgN T len (.inr q) = 0 then 0 else 1) := by
  intro m
  induction m with
  | zero =>
    intro q e y hq0 h120 hq hf hc
    have h0 : sgN T len (.inr q) = 0 := by
      unfold sgN
      rw [show pkS T len (.inr q) = -1 from hT_len (by omega), if_neg (by omega), if_neg (by omega)]
    rw [h0, if_pos rfl, if_pos rfl]
    exact hc q e y rfl
  | succ m ih =>
    intro q e y hq0 h120 hq hf hc
    by_cases h0 : sgN T len (.inr q) = 0
    · have hn : ¬ (hT T len q = 43 ∨ hT T len q = 45) := fun z => by
        unfold sgN at h0
        rw [show pkS T len (.inr q) = hT T len q from rfl] at h0
        rcases z with z | z
        · rw [if_pos z] at h0; omega
        · rw [if_neg (by omega), if_pos z] at h0; omega
      rw [h0, if_pos rfl, if_pos rfl]
      exact hc q e y (if_neg hn)
    · obtain ⟨c, hc2⟩ : ∃ c : Int, (c = 2 ∧ sgN T len (.inr q) = 1 ∧ hT T len q = 43) ∨ (c = 3 ∧ sgN T len (.inr q) = 2 ∧ hT T len q = 45) := by
        unfold sgN at h0 ⊢
        rw [show pkS T len (.inr q) = hT T len q from rfl] at h0 ⊢
        by_cases a : hT T len q = 43
        · exact ⟨2, Or.inl ⟨rfl, by rw [if_pos a], a⟩⟩
        · rw [if_neg a] at h0 ⊢
          by_cases b : hT T len q = 45
          · exact ⟨3, Or.inr ⟨rfl, by rw [if_pos b], b⟩⟩
          · rw [if_neg b] at h0; exact absurd rfl h0
      have pq := hT_pos (T := T) (len := len) (p := q) (by omega)
      have E : sumL T len (facS T len n) (m + 1) q e = bn (proS T len (facS T len n) (q + 1)) fun q2 e2 => sumL T len (facS T len n) m q2 (eB c e e2) := by
        rw [show sumL T len (facS T len n) (m + 1) q e = bn (proS T len (facS T len n) (q + 1)) fun q2 e2 => sumL T len (facS T len n) m q2 (eB (if hT T len q = 43 then 2 else 3) e e2) from if_pos (by omega)]
        rcases hc2 with ⟨a, -, b⟩ | ⟨a, -, b⟩
        · rw [if_pos b, a]
        · rw [if_neg (by omega), a]
      rw [if_neg h0, if_neg h0]
      refine P_more (hA _ _ _ (by simpa using hl) (by omega) (fun q2 h2 => hf q2 (by rw [E]; unfold proS; rw [h2]; rfl)) (fun q2 e2 h2 => ?_))
      have g := hG (q + 1) (by omega)
      rw [h2] at g
      obtain ⟨g1, g2, g3, g4⟩ := g
      refine CG_cv hk ?_
      rw [if_pos rfl]
      have EP : proS T len (facS T len n) (q + 1) = proL T len (facS T len n) 120 q2 e2 := by
        unfold proS
        rw [h2]; rfl
      have GP2 := GP_pro (T := T) hG (p := q + 1) (by omega)
      refine L_pro hG hA (by simpa using hl) hk hlen 120 q2 e2 (by omega) g2 (fun q3 h3 => hf q3 (by rw [E, EP, h3]; rfl)) (fun q3 e3 h3 h42 => ?_)
      rw [EP, h3] at GP2
      obtain ⟨u1, u2, u3, u4⟩ := GP2
      unfold CV
      have tv : totN (fr k (sgN T len (.inr q)) (e.2 (Vm w0)) 0 0 z) (e3.2 (Vm w0)) = (eB c e e3).2 (Vm w0) := by
        show (if sgN T len (.inr q) = 0 then _ else lim (e.2 (Vm w0) + (if sgN T len (.inr q) = 2 then -(e3.2 (Vm w0)) else e3.2 (Vm w0))) 1000000) = cmb c (e.2 (Vm w0)) (e3.2 (Vm w0))
        rw [if_neg h0]
        rcases hc2 with ⟨a, b, -⟩ | ⟨a, b, -⟩
        · rw [a, b, if_neg (by omega)]
          unfold cmb
          rw [if_pos rfl]
        · rw [a, b, if_pos rfl]
          unfold cmb
          rw [if_neg (by omega), if_pos rfl]
          rfl
      rw [show gmE T len (fr k (sgN T len (.inr q)) (e.2 (Vm w0)) 0 0 z) (e3.2 (Vm w0)) (.inr q3) = (fr k (sgN T len (.inr q3)) (totN (fr k (sgN T len (.inr q)) (e.2 (Vm w0)) 0 0 z) (e3.2 (Vm w0))) (e3.2 (Vm w0)) 0 z, (if sgN T len (.inr q3) = 0 then .inr q3 else .inr (q3 + 1)), (if sgN T len (.inr q3) = 0 then 0 else 1)) from if_neg h42, tv]
      have r := ih q3 (eB c e e3) (e3.2 (Vm w0)) (by omega) (by omega) u2 (fun q4 h4 => hf q4 (by rw [E, EP, h3]; exact h4)) (fun q4 e4 y4 h4 => hc q4 e4 y4 (by rw [E, EP, h3]; exact h4))
      rw [lfs_B (by omega), ← Int.add_assoc] at r
      exact r
/-- what holds of sums at a level -/
theorem B_of {n : Nat} (hG : ∀ p, p ≤ len → GP len p (facS T len n p)) (hA : ACL Q w0 d T len n) (hlen : len ≤ 120) {k x y z p fa : Int} {R : List FR6} (hl : ((fr k 0 x y 0 z :: R).length : Int) = 9 - n) (hk : k ≠ 2) (hp : 0 ≤ p ∧ p ≤ len) (hf : ∀ q, sumS T len (facS T len n) p = .inl q → FK Q w0 T len q) (hc : ∀ q e y2, sumS T len (facS T len n) p = .inr (q, e) → C35 Q w0 d T len (fr k 0 (e.2 (Vm w0)) y2 0 z :: R) (.inr q) (fa + lfs e.1) 0) : C12 Q w0 d T len (fr k 0 x y 0 z :: R) (.inr p) fa := by
  refine hA _ _ _ hl hp.2 (fun q h => hf q (by unfold sumS proS; rw [h]; rfl)) (fun q1 e1 h1 => ?_)
  have g := hG p hp.2
  rw [h1] at g
  obtain ⟨g1, g2, g3, g4⟩ := g
  refine CG_cv hk ?_
  rw [if_pos rfl]
  have EP : proS T len (facS T len n) p = proL T len (facS T len n) 120 q1 e1 := by
    unfold proS
    rw [h1]; rfl
  have GP2 := GP_pro (T := T) hG (p := p) hp.2
  refine L_pro hG hA (by simpa using hl) hk hlen 120 q1 e1 (by omega) g2 (fun q3 h3 => hf q3 (by unfold sumS; rw [EP, h3]; rfl)) (fun q3 e3 h3 h42 => ?_)
  rw [EP, h3] at GP2
  obtain ⟨u1, u2, u3, u4⟩ := GP2
  have ES : sumS T len (facS T len n) p = sumL T len (facS T len n) 120 q3 e3 := by
    unfold sumS
    rw [EP, h3]; rfl
  unfold CV
  rw [show gmE T len (fr k 0 x 0 0 z) (e3.2 (Vm w0)) (.inr q3) = (fr k (sgN T len (.inr q3)) (e3.2 (Vm w0)) (e3.2 (Vm w0)) 0 z, (if sgN T len (.inr q3) = 0 then .inr q3 else .inr (q3 + 1)), (if sgN T len (.inr q3) = 0 then 0 else 1)) from if_neg h42]
  exact L_sum hG hA (by simpa using hl) hk hlen 120 q3 e3 _ (by omega) (by omega) u2 (fun q4 h4 => hf q4 (by rw [ES]; exact h4)) (fun q4 e4 y4 h4 => hc q4 e4 y4 (by rw [ES]; exact h4))
theorem A_of (hd : 10 ≤ d) (hE : ENVM w0) (hlen : len ≤ 120) : ∀ n : Nat, n ≤ 8 → ACL Q w0 d T len n := by
  intro n
  induction n with
  | zero =>
    intro _ St p fa hl hp hf hc
    refine P_val (n := 0) hd hE hl (fun t2 e g h1 h2 h3 => ?_) (fun t2 S2 h => ?_)
    · rcases t2 with q | q
      · exact CG_f (hf q h1)
      · have r := hc q e h1
        rw [h2, ← h3 q rfl] at r
        exact r
    · rcases h with ⟨q, rfl, h2⟩ | ⟨m, k, x, y, z, q, h1, -⟩
      · exact P_f12 (hf q h2)
      · omega
  | succ m ihm =>
    intro hn8 St p fa hl hp hf hc
    have hA := ihm (by omega)
    have hG := GP_fac (T := T) (len := len) m
    have hne : St ≠ [] := fun z => by rw [z] at hl; simp at hl; omega
    refine P_val (n := m + 1) hd hE hl (fun t2 e g h1 h2 h3 => ?_) (fun t2 S2 h => ?_)
    · rcases t2 with q | q
      · exact CG_f (hf q h1)
      · have r := hc q e h1
        rw [h2, ← h3 q rfl] at r
        exact r
    · rcases h with ⟨q, rfl, h2⟩ | ⟨m2, k, x, y, z, q, h1, h2, h3, h4⟩
      · exact P_f12 (hf q h2)
      · have em : m2 = m := by omega
        subst em
        subst h2
        subst h3
        have hl2 : ((fr k 0 x y 0 z :: St).length : Int) = 9 - m2 := by rw [List.length_cons]; omega
        have clo : ∀ (kk : Int) (f1 v y2 : Int) (qq : Int) (e3 : EE) (ff : Int), (kk = 1 ∨ kk = 4 ∨ kk = 6) → isoG (fr kk 0 v y2 0 f1) = e3.2 (Vm w0) → facS T len (m2 + 1) p = mst T len 41 qq (.inr (qq + 1, e3)) → ff = fa + lfs e3.1 → C35 Q w0 d T len (fr kk 0 v y2 0 f1 :: St) (.inr qq) ff 0 := fun kk f1 v y2 qq e3 ff hkk hi hfc hff => by
          refine P_o1 hd hkk hne ?_
          rw [hi]
          by_cases a : hT T len qq = 41
          · rw [mst_y a] at hfc
            rw [exT_y a, hff]
            exact hc _ _ hfc
          · rw [mst_n a] at hfc
            rw [exT_n a]
            exact CG_f (hf _ hfc)
        intro w o2 hfr hM hw
        have qb := hM.1.inr
        have hq : 0 ≤ q ∧ q ≤ len := ⟨qb.2.2.1, qb.2.2.2⟩
        have cho : ∀ kk c : Int, (kk = 3 ∧ c = 5 ∨ kk = 5 ∧ c = 6) → facS T len (m2 + 1) p = choT T len (facS T len m2) c q → C12 Q w0 d T len (fr kk 0 x y 0 z :: St) (.inr q) fa := fun kk c hkc he => by
          refine B_of hG hA hlen (by rw [List.length_cons]; omega) (by omega) hq (fun q2 h5 => hf q2 (by rw [he]; unfold choT; rw [h5]; rfl)) (fun q1 e1 y2 h5 => ?_)
          refine P_o3 hd (show kk = 3 ∨ kk = 5 by omega) hne ?_
          by_cases a : hT T len q1 = 44
          · rw [exT_y a]
            intro w o2 hfr hM hw
            have qb := hM.1.inr
            refine B_of hG hA hlen (k := kk + 1) (x := e1.2 (Vm w0)) (y := y2) (z := e1.2 (Vm w0)) (R := St) (p := q1 + 1) (by rw [List.length_cons]; omega) (by omega) ⟨qb.2.2.1, qb.2.2.2⟩ (fun q2 h6 => hf q2 (by rw [he]; unfold choT; rw [h5, bn_r, mst_y a, h6]; rfl)) (fun q2 e2 y3 h6 => ?_) w o2 hfr hM hw
            refine clo (kk + 1) (e1.2 (Vm w0)) (e2.2 (Vm w0)) y3 q2 (eB c e1 e2) _ (by omega) ?_ (by rw [he]; unfold choT; rw [h5, bn_r, mst_y a, h6]; rfl) (by rw [lfs_B (by omega)]; omega)
            show (if kk + 1 = 4 then min (e1.2 (Vm w0)) (e2.2 (Vm w0)) else if kk + 1 = 6 then max (e1.2 (Vm w0)) (e2.2 (Vm w0)) else e2.2 (Vm w0)) = cmb c (e1.2 (Vm w0)) (e2.2 (Vm w0))
            unfold cmb
            rcases hkc with ⟨a1, a2⟩ | ⟨a1, a2⟩
            · rw [a1, a2, if_pos (by omega), if_neg (by omega), if_neg (by omega), if_neg (by omega), if_pos rfl]
            · rw [a1, a2, if_neg (by omega), if_pos (by omega), if_neg (by omega), if_neg (by omega), if_neg (by omega), if_neg (by omega)]
          · rw [exT_n a]
            exact P_f12 (hf q1 (by rw [he]; unfold choT; rw [h5, bn_r, mst_n a]))
        rcases h4 with ⟨hk, he⟩ | ⟨hk, he⟩ | ⟨hk, he⟩ | ⟨hk, he⟩
        · subst hk
          exact B_of hG hA hlen hl2 (by omega) hq (fun q2 h5 => hf q2 (by rw [he, h5]; rfl)) (fun q2 e2 y2 h5 => clo 1 z _ y2 q2 e2 _ (Or.inl rfl) (by show (if (1 : Int) = 4 then _ else if (1 : Int) = 6 then _ else _) = _; rw [if_neg (by omega), if_neg (by omega)]; rfl) (by rw [he, h5]; rfl) rfl) w o2 hfr hM hw
        · subst hk
          refine hA _ _ _ hl2 hq.2 (fun q2 h5 => hf q2 (by rw [he, h5]; rfl)) (fun q2 e2 h5 => ?_) w o2 hfr hM hw
          have r := hc q2 (eG e2) (by rw [he, h5]; rfl)
          rw [lfs_G] at r
          unfold CG
          rw [gon_y T len (show (fr 2 0 x y 0 z).1 = 2 from rfl)]
          exact r
        · exact cho k 5 (Or.inl ⟨hk, rfl⟩) he w o2 hfr hM hw
        · exact cho k 6 (Or.inr ⟨hk, rfl⟩) he w o2 hfr hM hw
end
