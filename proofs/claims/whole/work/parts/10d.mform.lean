/-! the model's formulas -/
def BKS : List FR6 → Prop
  | [] => False
  | F :: r => match r with | [] => F.1 = 0 | _ :: _ => BKS r
theorem BKS.tl {F : FR6} {r : List FR6} (h : BKS (F :: r)) (hr : r ≠ []) : BKS r := by
  cases r with
  | nil => exact absurd rfl hr
  | cons G s => exact h
theorem BKS.ne {F : FR6} {r : List FR6} (h : BKS (F :: r)) (hF : F.1 ≠ 0) : r ≠ [] := by
  cases r with
  | nil => exact absurd h hF
  | cons G s => exact List.cons_ne_nil _ _
theorem BKS.top {F G : FR6} {r : List FR6} (h : BKS (F :: r)) (e : G.1 = F.1) : BKS (G :: r) := by
  cases r with
  | nil => exact e.trans h
  | cons a s => exact h
theorem BKS.push {F : FR6} {r : List FR6} (h : BKS r) : BKS (F :: r) := by
  cases r with
  | nil => exact absurd h id
  | cons a s => exact h
def FRP (w w2 : Wd) : Prop := (∀ i, i ≠ 385 → (i < 395 ∨ 400 < i) → w2 i = w i) ∧ ∀ j, j ≠ 12 → j ≠ 13 → j ≠ 14 → j ≠ 15 → j ≠ 23 → j ≠ 24 → w2 385 j = w 385 j
theorem FRP.rf (w : Wd) : FRP w w := ⟨fun _ _ _ => rfl, fun _ _ _ _ _ _ _ => rfl⟩
theorem FRP.tr {w w1 w2 : Wd} (h : FRP w w1) (g : FRP w1 w2) : FRP w w2 := ⟨fun i e z => (g.1 i e z).trans (h.1 i e z), fun j a b c d e f => (g.2 j a b c d e f).trans (h.2 j a b c d e f)⟩
theorem FRX.p {w w2 : Wd} (h : FRX w w2) : FRP w w2 := ⟨fun i e _ => h.1 i e, fun j a b _ _ _ _ => h.2 j a b⟩
theorem FRO.p {w w2 : Wd} (h : FRO w w2) : FRP w w2 := ⟨fun i e z => h.1 i e z, fun j _ _ a _ b _ => h.2 j a b⟩
theorem FRP_row {w : Wd} {i : Nat} {j x : Int} (h : 395 ≤ i ∧ i ≤ 400) : FRP w (up w i j x) := ⟨fun p e z => up_ne (by omega), fun j _ _ _ _ _ _ => by rw [up_ne (by omega)]⟩
theorem FRP_fld {w : Wd} {j x : Int} (h : j = 12 ∨ j = 13 ∨ j = 14 ∨ j = 15 ∨ j = 23 ∨ j = 24) : FRP w (up w 385 j x) := ⟨fun p e z => up_ne e, fun k _ _ _ _ _ _ => up_off (by omega)⟩
def Vm (w : Wd) : Int → Int → Int := fun c b => valS (mx w c) (max 0 (w 385 16 - b))
theorem Vm_kp {w w2 : Wd} (f : FRP w w2) : Vm w2 = Vm w := by
  unfold Vm mx
  rw [f.1 386 (by omega) (by omega), f.2 16 (by omega) (by omega) (by omega) (by omega) (by omega) (by omega)]
def nxT (t : Int ⊕ Int) : Int ⊕ Int := match t with
  | .inl q => .inl q
  | .inr p => .inr (p + 1)
def totN (F : FR6) (v : Int) : Int := if F.2.1 = 0 then v else lim (F.2.2.1 + (if F.2.1 = 2 then -v else v)) 1000000
def isoG (F : FR6) : Int := if F.1 = 4 then min F.2.2.2.2.2 F.2.2.1 else if F.1 = 6 then max F.2.2.2.2.2 F.2.2.1 else F.2.2.1
section
variable (T : Int → Int) (len : Int)
def sgN (t : Int ⊕ Int) : Int := if pkS T len t = 43 then 1 else if pkS T len t = 45 then 2 else 0
def gmE (F : FR6) (v : Int) (t : Int ⊕ Int) : FR6 × (Int ⊕ Int) × Int :=
  if pkS T len t = 42 then ((F.1, F.2.1, F.2.2.1, v, 1, F.2.2.2.2.2), nxT t, 1)
  else ((F.1, sgN T len t, totN F v, v, 0, F.2.2.2.2.2), if sgN T len t = 0 then t else nxT t, if sgN T len t = 0 then 0 else 1)
def gvl (F : FR6) (g : Int) : Int := if F.2.2.2.2.1 = 0 then g else cmb 4 F.2.2.2.1 g
def gon : List FR6 → Int → (Int ⊕ Int) → List FR6 × (Int ⊕ Int) × Int
  | [], _, t => ([], t, 0)
  | F :: r, g, t => if F.1 = 2 then gon r (lim (-g) 1000000) t else ((gmE T len F (gvl F g) t).1 :: r, (gmE T len F (gvl F g) t).2.1, (gmE T len F (gvl F g) t).2.2)
theorem gon_n {Gf : FR6} {r : List FR6} {g : Int} {t : Int ⊕ Int} (h : Gf.1 ≠ 2) : gon T len (Gf :: r) g t = ((gmE T len Gf (gvl Gf g) t).1 :: r, (gmE T len Gf (gvl Gf g) t).2.1, (gmE T len Gf (gvl Gf g) t).2.2) := if_neg h
theorem gon_y {Gf : FR6} {r : List FR6} {g : Int} {t : Int ⊕ Int} (h : Gf.1 = 2) : gon T len (Gf :: r) g t = gon T len r (lim (-g) 1000000) t := if_pos h
def mkR (t : Int ⊕ Int) (e : EE) : PR := match t with
  | .inl q => .inl q
  | .inr q => .inr (q, e)
end
def MP (w : Wd) (T : Int → Int) (len : Int) (t : Int ⊕ Int) (S : List FR6) (fa : Int) : Prop := MS w T len t ∧ STK w S ∧ w 385 23 = S.length - 1 ∧ w 385 14 = S.length - 1 ∧ w 385 15 = fa ∧ BKS S ∧ S.length ≤ 9 ∧ ∀ p, t = .inr p → 0 ≤ fa ∧ fa ≤ p
section
variable {w w2 : Wd} {T : Int → Int} {len : Int} {t t2 : Int ⊕ Int}
theorem MS.row {i : Nat} {j x : Int} (h : MS w T len t) (hi : 395 ≤ i ∧ i ≤ 400) : MS (up w i j x) T len t := by
  have e1 : up w i j x 385 = w 385 := up_ne (by omega)
  exact h.kp2 (by rw [e1]) (by rw [e1]) (up_ne (by omega)) (up_ne (by omega)) (by rw [e1]) (by rw [e1])
theorem MS.fld {j x : Int} (h : MS w T len t) (hj : j = 14 ∨ j = 15 ∨ j = 23 ∨ j = 24) : MS (up w 385 j x) T len t :=
  h.kp2 (up_off (by omega)) (up_off (by omega)) (up_ne (by omega)) (up_ne (by omega)) (up_off (by omega)) (up_off (by omega))
theorem MS.nx (h : MS w T len t) (hp : ∀ p, t = .inr p → p < len) (x : Int) (hx : x = w 385 12 + 1) (h0 : ∃ p, t = .inr p) : MS (up w 385 12 x) T len (nxT t) := by
  obtain ⟨p, rfl⟩ := h0
  obtain ⟨f1, f2, f3, f4⟩ := h.inr
  have := hp p rfl
  rw [hx, f2]
  exact h.mv (by omega)
theorem pk_inr2 {l : Int} (h : pkS T len t = l) (hl : 0 ≤ l) : ∃ p, t = .inr p ∧ hT T len p = l ∧ p < len := by
  rcases t with q | p
  · have h : (-1 : Int) = l := h
    omega
  · have h : hT T len p = l := h
    exact ⟨p, rfl, h, hT_pos (T := T) (by omega)⟩
theorem ISP.pk {l r : Int} (h : ISP T len l t r) (hl : 0 ≤ l) : (pkS T len t = l ∧ r = 1) ∨ (pkS T len t ≠ l ∧ r = 0) := by
  rcases h with ⟨p, rfl, b, c⟩ | ⟨a, b⟩
  · exact Or.inl ⟨b, c⟩
  · refine Or.inr ⟨fun z => ?_, b⟩
    obtain ⟨p, h1, h2, -⟩ := pk_inr2 z hl
    exact a p h1 h2
theorem fa_ex {fa l : Int} (h : ∀ p, t = .inr p → 0 ≤ fa ∧ fa ≤ p) : ∀ p, exT T len l t = .inr p → 0 ≤ fa ∧ fa ≤ p := fun p e => by
  obtain ⟨q, h1, h2⟩ := ex_inr2 e
  have := h q h1
  omega
theorem fa_nx {fa : Int} (h : ∀ p, t = .inr p → 0 ≤ fa ∧ fa ≤ p) : ∀ p, nxT t = .inr p → 0 ≤ fa ∧ fa ≤ p := fun p e => by
  rcases t with q | q
  · cases e
  · have e : (.inr (q + 1) : Int ⊕ Int) = .inr p := e
    have := h q rfl
    have e2 := Sum.inr.inj e
    omega
end
theorem kw_X12_250 : Jvm.Cond.constant RX12 250 (1000000 : Int32) ∈ gW := gw_t 1178 (by decide +kernel) (by decide +kernel)
set_option maxRecDepth 8000 in
theorem m_X12_isOver {Q : Option AV → Wd → Prop} {w : Wd} (d : Nat) {T : Int → Int} {len fa : Int} {t : Int ⊕ Int} {G : FR6} {R : List FR6} (hd : 3 ≤ d) (hw : WR w) (hM : MP w T len t (G :: R) fa) (hk : G.1 = 0 ∨ G.1 = 1 ∨ G.1 = 3 ∨ G.1 = 4 ∨ G.1 = 5 ∨ G.1 = 6) (hR : G.1 ≠ 0 → R ≠ []) (hQ0 : G.1 = 0 → ∀ w2, FRP w w2 → MP w2 T len t (G :: R) fa → w2 385 24 = G.2.2.1 → WR w2 → Q (some (vI 1)) w2) (hQ1 : (G.1 = 1 ∨ G.1 = 4 ∨ G.1 = 6) → ∀ w2, FRP w w2 → MP w2 T len (exT T len 41 t) R fa → w2 385 24 = isoG G → WR w2 → Q (some (vI 1)) w2) (hQ3 : (G.1 = 3 ∨ G.1 = 5) → ∀ w2, FRP w w2 → MP w2 T len (exT T len 44 t) ((G.1 + 1, 0, G.2.2.1, G.2.2.2.1, 0, G.2.2.1) :: R) fa → WR w2 → Q (some (vI 0)) w2) : M mX12_isOver (Rm d) [vR (some 385)] (fl w) (lQ Q) := by
  obtain ⟨hS, ⟨⟨k1, k2, k3, k4, k5, k6⟩, hRR⟩, ho, hdp, hfa, hB, hl, hp⟩ := id hM
  rw [List.length_cons] at ho hdp hl
  have ho : w 385 23 = R.length := by omega
  have hdp : w 385 14 = R.length := by omega
  refine f_mofv (L0 := [some (vR (some 385)), none, none]) rfl (Nat.le_of_ble_eq_true rfl) rfl ?_
  have cut30 : (G.1 = 3 ∨ G.1 = 5) → V mX12_isOver (Rm d) 0 0 30 [some (vR (some 385)), some (vI G.1), some (vI G.2.2.1)] [] (fl w) (lQ Q) := by
    intro hk3
    have Rl : 0 < R.length := by
      have := hR (by omega)
      exact List.length_pos_iff.mpr this
    have q3 : R32 G.2.2.1 := by rw [← k3]; exact hw _ _
    refine r_aload_n (pc := 30) dX12_isOver_30 rfl ?_
    refine r_bipush (pc := 31) (n := 44) dX12_isOver_31 (by decide) ?_
    refine c_X12_241 (pc := 33) rfl dX12_isOver_33 (by first | assumption | rfl) (by omega) (Nat.le_of_ble_eq_true rfl) ?_
    refine m_X12_must (d - 1) (by omega) (by assumption) hS (by omega) (fun w33 e33 f33 hw33 => ?_)
    refine r_aload_n (pc := 36) dX12_isOver_36 rfl ?_
    refine h_X12_54 (pc := 37) rfl dX12_isOver_37 ?_
    refine r_aload_n (pc := 40) dX12_isOver_40 rfl ?_
    refine h_X12_238 (pc := 41) rfl dX12_isOver_41 (by assumption) (fun h41 => ?_)
    rw [show w33 385 23 = R.length by rw [f33.2 23 (by omega) (by omega)]; exact ho] at h41 ⊢
    refine r_iload_n (pc := 44) dX12_isOver_44 rfl ?_
    refine f_iast (pc := 45) dX12_isOver_45 (n := 10) (by assumption) (by first | assumption | rfl) (by omega) (by omega) (by omega) (by omega) (fun hw45 => ?_)
    refine r_aload_n (pc := 46) dX12_isOver_46 rfl ?_
    refine h_X12_38 (pc := 47) rfl dX12_isOver_47 ?_
    refine r_aload_n (pc := 50) dX12_isOver_50 rfl ?_
    refine h_X12_238 (pc := 51) rfl dX12_isOver_51 (by assumption) (fun h51 => ?_)
    rw [up_ne (by omega), show w33 385 23 = R.length by rw [f33.2 23 (by omega) (by omega)]; exact ho] at h51 ⊢
    refine r_dup2_11 (pc := 54) dX12_isOver_54 rfl rfl ?_
    refine f_iald (pc := 55) dX12_isOver_55 (n := 10) (by assumption) (by first | assumption | rfl) (by omega) (by omega) (by omega) (fun h55 => ?_)
    rw [show up w33 400 R.length G.2.2.1 395 R.length = G.1 by rw [up_ne (by omega), f33.1 395 (by omega)]; exact k1] at h55 ⊢
    refine r_iconst (pc := 56) (n := 1) dX12_isOver_56 ?_
    refine r_iadd (pc := 57) dX12_isOver_57 ?_
    refine f_iast (pc := 58) dX12_isOver_58 (n := 10) (by assumption) (by first | assumption | rfl) (by omega) (by omega) (by omega) (by omega) (fun hw58 => ?_)
    refine r_aload_n (pc := 59) dX12_isOver_59 rfl ?_
    refine h_X12_41 (pc := 60) rfl dX12_isOver_60 ?_
    refine r_aload_n (pc := 63) dX12_isOver_63 rfl ?_
    refine h_X12_238 (pc := 64) rfl dX12_isOver_64 (by assumption) (fun h64 => ?_)
    rw [up_ne (by omega), up_ne (by omega), show w33 385 23 = R.length by rw [f33.2 23 (by omega) (by omega)]; exact ho] at h64 ⊢
    refine r_iconst (pc := 67) (n := 0) dX12_isOver_67 ?_
    refine f_iast (pc := 68) dX12_isOver_68 (n := 10) (by assumption) (by first | assumption | rfl) (by omega) (by omega) (by omega) (by omega) (fun hw68 => ?_)
    refine r_aload_n (pc := 69) dX12_isOver_69 rfl ?_
    refine h_X12_50 (pc := 70) rfl dX12_isOver_70 ?_
    refine r_aload_n (pc := 73) dX12_isOver_73 rfl ?_
    refine h_X12_238 (pc := 74) rfl dX12_isOver_74 (by assumption) (fun h74 => ?_)
    rw [up_ne (by omega), up_ne (by omega), up_ne (by omega), show w33 385 23 = R.length by rw [f33.2 23 (by omega) (by omega)]; exact ho] at h74 ⊢
    refine r_iconst (pc := 77) (n := 0) dX12_isOver_77 ?_
    refine f_zast (pc := 78) dX12_isOver_78 (n := 10) (by assumption) (by first | assumption | rfl) (by omega) (by omega) (by omega) (by omega) (fun hw78 => ?_)
    refine r_iconst (pc := 79) (n := 0) dX12_isOver_79 ?_
    exact f_zret (pc := 80) dX12_isOver_80 rfl (by first | exact Or.inl rfl | exact Or.inr rfl | omega) (by assumption) (hQ3 hk3 _ ((((f33.p.tr (FRP_row (by omega))).tr (FRP_row (by omega))).tr (FRP_row (by omega))).tr (FRP_row (by omega))) ⟨(((e33.row (by omega)).row (by omega)).row (by omega)).row (by omega), ⟨⟨by rw [up_ne (by omega), up_ne (by omega), up_hit], by rw [up_ne (by omega), up_hit], by rw [up_ne (by omega), up_ne (by omega), up_ne (by omega), up_ne (by omega), f33.1 397 (by omega)]; exact k3, by rw [up_ne (by omega), up_ne (by omega), up_ne (by omega), up_ne (by omega), f33.1 398 (by omega)]; exact k4, by rw [up_hit], by rw [up_ne (by omega), up_ne (by omega), up_ne (by omega), up_hit]⟩, hRR.kp (fun i a b j c => by rw [up_off (by omega), up_off (by omega), up_off (by omega), up_off (by omega), f33.1 i (by omega)])⟩, by rw [up_ne (by omega), up_ne (by omega), up_ne (by omega), up_ne (by omega), f33.2 23 (by omega) (by omega), List.length_cons]; omega, by rw [up_ne (by omega), up_ne (by omega), up_ne (by omega), up_ne (by omega), f33.2 14 (by omega) (by omega), List.length_cons]; omega, by rw [up_ne (by omega), up_ne (by omega), up_ne (by omega), up_ne (by omega), f33.2 15 (by omega) (by omega)]; exact hfa, (hB.tl (hR (by omega))).push, by rw [List.length_cons]; omega, fa_ex hp⟩ (by assumption))
  have cut123 : (G.1 = 0 ∨ G.1 = 1 ∨ G.1 = 4 ∨ G.1 = 6) → ∀ v : Int, R32 v → v = isoG G → V mX12_isOver (Rm d) 0 0 123 [some (vR (some 385)), some (vI G.1), some (vI v)] [] (fl w) (lQ Q) := by
    intro hk4 v hvr hv
    refine r_iload_n (pc := 123) dX12_isOver_123 rfl ?_
    refine r_ifle (pc := 124) (tgt := 137) dX12_isOver_124 rfl (by omega) (fun h124 => ?_) (fun h124 => ?_)
    · refine r_aload_n (pc := 137) dX12_isOver_137 rfl ?_
      refine r_iload_n (pc := 138) dX12_isOver_138 rfl ?_
      refine ph_X12_247 (pc := 139) rfl dX12_isOver_139 (by assumption) (by omega) (fun hw139 => ?_)
      refine r_iconst (pc := 142) (n := 1) dX12_isOver_142 ?_
      exact f_zret (pc := 143) dX12_isOver_143 rfl (by first | exact Or.inl rfl | exact Or.inr rfl | omega) (by assumption) (hQ0 (by omega) _ (FRP_fld (by omega)) ⟨hS.fld (by omega), hM.2.1.rows (fun i a b => up_ne (by omega)), by rw [up_off (by omega), List.length_cons]; omega, by rw [up_off (by omega), List.length_cons]; omega, by rw [up_off (by omega)]; exact hfa, hB, hM.2.2.2.2.2.2.1, hp⟩ (by rw [up_hit, hv]; unfold isoG; rw [if_neg (by omega), if_neg (by omega)]) (by assumption))
    have Rne := hR (by omega)
    have Rl : 0 < R.length := List.length_pos_iff.mpr Rne
    refine r_aload_n (pc := 127) dX12_isOver_127 rfl ?_
    refine r_bipush (pc := 128) (n := 41) dX12_isOver_128 (by decide) ?_
    refine c_X12_241 (pc := 130) rfl dX12_isOver_130 (by first | assumption | rfl) (by omega) (Nat.le_of_ble_eq_true rfl) ?_
    refine m_X12_must (d - 1) (by omega) (by assumption) hS (by omega) (fun w130 e130 f130 hw130 => ?_)
    have o130 : w130 385 23 = R.length := by rw [f130.2 23 (by omega) (by omega)]; exact ho
    have d130 : w130 385 14 = R.length := by rw [f130.2 14 (by omega) (by omega)]; exact hdp
    refine r_aload_n (pc := 133) dX12_isOver_133 rfl ?_
    refine c_X12_244 (pc := 134) rfl dX12_isOver_134 (by first | assumption | rfl) (by omega) (Nat.le_of_ble_eq_true rfl) ?_
    refine m_X12_closes (d - 1) (by omega) (by assumption) (by omega) (by omega) (fun w134 e134 hw134 => ?_)
    refine r_aload_n (pc := 137) dX12_isOver_137 rfl ?_
    refine r_iload_n (pc := 138) dX12_isOver_138 rfl ?_
    refine ph_X12_247 (pc := 139) rfl dX12_isOver_139 (by assumption) (by omega) (fun hw139 => ?_)
    refine r_iconst (pc := 142) (n := 1) dX12_isOver_142 ?_
    exact f_zret (pc := 143) dX12_isOver_143 rfl (by first | exact Or.inl rfl | exact Or.inr rfl | omega) (by assumption) (by
          have F134 : FRP w130 w134 := by
            rw [e134]
            exact (FRP_fld (by omega)).tr (FRP_fld (by omega))
          refine hQ1 (by omega) _ ((f130.p.tr F134).tr (FRP_fld (by omega))) ?_ (by rw [up_hit]; exact hv) (by assumption)
          rw [e134]
          exact ⟨((e130.fld (by omega)).fld (by omega)).fld (by omega), hRR.rows (fun i a b => by rw [up_ne (by omega), up_ne (by omega), up_ne (by omega), f130.1 i (by omega)]), by rw [up_off (by omega), up_off (by omega), up_hit, o130], by rw [up_off (by omega), up_hit, d130], by rw [up_off (by omega), up_off (by omega), up_off (by omega), f130.2 15 (by omega) (by omega)]; exact hfa, hB.tl Rne, by omega, fa_ex hp⟩)
  refine r_aload_n (pc := 0) dX12_isOver_0 rfl ?_
  refine h_X12_38 (pc := 1) rfl dX12_isOver_1 ?_
  refine r_aload_n (pc := 4) dX12_isOver_4 rfl ?_
  refine h_X12_238 (pc := 5) rfl dX12_isOver_5 (by assumption) (fun h5 => ?_)
  rw [ho] at h5 ⊢
  refine f_iald (pc := 8) dX12_isOver_8 (n := 10) (by assumption) (by first | assumption | rfl) (by omega) (by omega) (by omega) (fun h8 => ?_)
  rw [k1] at h8 ⊢
  refine r_istore1 (pc := 9) dX12_isOver_9 rfl ?_
  refine r_aload_n (pc := 10) dX12_isOver_10 rfl ?_
  refine h_X12_44 (pc := 11) rfl dX12_isOver_11 ?_
  refine r_aload_n (pc := 14) dX12_isOver_14 rfl ?_
  refine h_X12_238 (pc := 15) rfl dX12_isOver_15 (by assumption) (fun h15 => ?_)
  rw [ho] at h15 ⊢
  refine f_iald (pc := 18) dX12_isOver_18 (n := 10) (by assumption) (by first | assumption | rfl) (by omega) (by omega) (by omega) (fun h18 => ?_)
  rw [k3] at h18 ⊢
  refine r_istore2 (pc := 19) dX12_isOver_19 rfl ?_
  refine r_iload_n (pc := 20) dX12_isOver_20 rfl ?_
  refine r_iconst (pc := 21) (n := 3) dX12_isOver_21 ?_
  refine r_icmpeq (pc := 22) (tgt := 30) dX12_isOver_22 rfl (by omega) (by omega) (fun h22 => ?_) (fun h22 => ?_)
  · exact cut30 (by omega)
  refine r_iload_n (pc := 25) dX12_isOver_25 rfl ?_
  refine r_iconst (pc := 26) (n := 5) dX12_isOver_26 ?_
  refine r_icmpne (pc := 27) (tgt := 81) dX12_isOver_27 rfl (by omega) (by omega) (fun h27 => ?_) (fun h27 => ?_)
  · refine r_iload_n (pc := 81) dX12_isOver_81 rfl ?_
    refine r_iconst (pc := 82) (n := 4) dX12_isOver_82 ?_
    refine r_icmpne (pc := 83) (tgt := 103) dX12_isOver_83 rfl (by omega) (by omega) (fun h83 => ?_) (fun h83 => ?_)
    · refine r_iload_n (pc := 103) dX12_isOver_103 rfl ?_
      refine r_bipush (pc := 104) (n := 6) dX12_isOver_104 (by decide) ?_
      refine r_icmpne (pc := 106) (tgt := 123) dX12_isOver_106 rfl (by omega) (by omega) (fun h106 => ?_) (fun h106 => ?_)
      · exact cut123 (by omega) _ (by omega) (by unfold isoG; rw [if_neg (by omega), if_neg (by omega)])
      refine r_aload_n (pc := 109) dX12_isOver_109 rfl ?_
      refine h_X12_54 (pc := 110) rfl dX12_isOver_110 ?_
      refine r_aload_n (pc := 113) dX12_isOver_113 rfl ?_
      refine h_X12_238 (pc := 114) rfl dX12_isOver_114 (by assumption) (fun h114 => ?_)
      rw [ho] at h114 ⊢
      refine f_iald (pc := 117) dX12_isOver_117 (n := 10) (by assumption) (by first | assumption | rfl) (by omega) (by omega) (by omega) (fun h117 => ?_)
      rw [k6] at h117 ⊢
      refine r_iload_n (pc := 118) dX12_isOver_118 rfl ?_
      refine c_X12_112 (pc := 119) rfl dX12_isOver_119 (by omega) (Nat.le_of_ble_eq_true rfl) ?_
      refine m_X12_most (d - 1) (by omega) (by assumption) (by omega) (by omega) (fun r119 e119 b119 => ?_)
      refine r_istore2 (pc := 122) dX12_isOver_122 rfl ?_
      exact cut123 (by omega) _ (by omega) (by unfold isoG; rw [if_neg (by omega), if_pos (by omega)]; exact e119)
    refine r_aload_n (pc := 86) dX12_isOver_86 rfl ?_
    refine h_X12_54 (pc := 87) rfl dX12_isOver_87 ?_
    refine r_aload_n (pc := 90) dX12_isOver_90 rfl ?_
    refine h_X12_238 (pc := 91) rfl dX12_isOver_91 (by assumption) (fun h91 => ?_)
    rw [ho] at h91 ⊢
    refine f_iald (pc := 94) dX12_isOver_94 (n := 10) (by assumption) (by first | assumption | rfl) (by omega) (by omega) (by omega) (fun h94 => ?_)
    rw [k6] at h94 ⊢
    refine r_iload_n (pc := 95) dX12_isOver_95 rfl ?_
    refine c_X12_105 (pc := 96) rfl dX12_isOver_96 (by omega) (Nat.le_of_ble_eq_true rfl) ?_
    refine m_X12_least (d - 1) (by omega) (by assumption) (by omega) (by omega) (fun r96 e96 b96 => ?_)
    refine r_istore2 (pc := 99) dX12_isOver_99 rfl ?_
    refine r_goto (pc := 100) (tgt := 123) dX12_isOver_100 rfl ?_
    exact cut123 (by omega) _ (by omega) (by unfold isoG; rw [if_pos (by omega)]; exact e96)
  exact cut30 (by omega)
set_option maxRecDepth 8000 in
theorem m_X12_goesOn {Q : Option AV → Wd → Prop} {w : Wd} (d : Nat) {T : Int → Int} {len fa g : Int} {t : Int ⊕ Int} {St : List FR6} (hd : 3 ≤ d) (hw : WR w) (hM : MP w T len t St fa) (hg : w 385 24 = g) (hQ : ∀ w2, FRP w w2 → MP w2 T len (gon T len St g t).2.1 (gon T len St g t).1 fa → WR w2 → Q (some (vI (gon T len St g t).2.2)) w2) : M mX12_goesOn (Rm d) [vR (some 385)] (fl w) (lQ Q) := by
  obtain ⟨G0, hG0⟩ : ∃ G0, G0 = gon T len St g t := ⟨_, rfl⟩
  rw [← hG0] at hQ
  refine f_mofv (L0 := [some (vR (some 385)), none, none, none]) rfl (Nat.le_of_ble_eq_true rfl) rfl ?_
  have cut274 : ∀ (Gf : FR6) (r : List FR6) (w1 : Wd), Gf.1 ≠ 2 → FRP w w1 → MP w1 T len t (Gf :: r) fa → WR w1 → ∀ v m y x z s : Int, R32 v → m = 0 → pkS T len t ≠ 42 → ((gmE T len Gf v t).1 :: r, (gmE T len Gf v t).2.1, (gmE T len Gf v t).2.2) = G0 → x = totN Gf v → z = sgN T len t → s = (if z = 0 then 0 else 1) → (z ≠ 0 → ∃ p, t = .inr p ∧ p < len) → WR (up (up (up (up (up w1 398 r.length v) 399 r.length m) 397 r.length x) 396 r.length z) 385 12 (w1 385 12 + s)) → ∀ u : Int, u = s → V mX12_goesOn (Rm d) 0 0 274 [some (vR (some 385)), some (vI v), some (vL y), none] [vI u] (fl (up (up (up (up (up w1 398 r.length v) 399 r.length m) 397 r.length x) 396 r.length z) 385 12 (w1 385 12 + s))) (lQ Q) := by
    intro Gf r w1 hne hf1 hM1 hw1 v m y x z s hvr hm hpk hG hx hz hs PL hw5 u hu
    have u01 : u = 0 ∨ u = 1 := by split at hs <;> omega
    obtain ⟨hS1, ⟨⟨k1, k2, k3, k4, k5, k6⟩, hRR⟩, ho, hdp, hfa, hB, hl, hp⟩ := id hM1
    rw [List.length_cons] at ho hdp hl
    have ho : w1 385 23 = r.length := by omega
    have hdp : w1 385 14 = r.length := by omega
    exact f_zret (pc := 274) dX12_goesOn_274 rfl (by first | exact Or.inl rfl | exact Or.inr rfl | omega) (by assumption) (by
          have z2 : gmE T len Gf v t = ((Gf.1, z, x, v, 0, Gf.2.2.2.2.2), (if z = 0 then t else nxT t), (if z = 0 then 0 else 1)) := by
            unfold gmE
            rw [if_neg hpk, ← hz, ← hx]
          rw [z2] at hG
          rw [← hG] at hQ
          have q := hQ (up (up (up (up (up w1 398 r.length v) 399 r.length m) 397 r.length x) 396 r.length z) 385 12 (w1 385 12 + s)) (((((hf1.tr (FRP_row (by omega))).tr (FRP_row (by omega))).tr (FRP_row (by omega))).tr (FRP_row (by omega))).tr (FRP_fld (by omega))) ⟨?_, ⟨⟨?_, ?_, ?_, ?_, ?_, ?_⟩, hRR.kp (fun i a b j c => by rw [up_ne (by omega), up_off (by omega), up_off (by omega), up_off (by omega), up_off (by omega)])⟩, ?_, ?_, ?_, hB.top rfl, hM1.2.2.2.2.2.2.1, ?_⟩ (by assumption)
          · rw [show (if z = 0 then (0 : Int) else 1) = u from by rw [hu, hs]] at q; exact q
          · have hS5 := (((hS1.row (i := 398) (j := r.length) (x := v) (by omega)).row (i := 399) (j := r.length) (x := m) (by omega)).row (i := 397) (j := r.length) (x := x) (by omega)).row (i := 396) (j := r.length) (x := z) (by omega)
            by_cases y0 : z = 0
            · rw [if_pos y0] at hs ⊢
              rw [hs, Int.add_zero, up_same (by rw [up_ne (by omega), up_ne (by omega), up_ne (by omega), up_ne (by omega)])]
              exact hS5
            · rw [if_neg y0] at hs ⊢
              obtain ⟨p, a1, a3⟩ := PL y0
              rw [hs]
              exact hS5.nx (fun q h => by rw [a1] at h; cases h; exact a3) _ (by rw [up_ne (by omega), up_ne (by omega), up_ne (by omega), up_ne (by omega)]) ⟨p, a1⟩
          · rw [up_ne (by omega), up_ne (by omega), up_ne (by omega), up_ne (by omega), up_ne (by omega)]; exact k1
          · rw [up_ne (by omega), up_hit]
          · rw [up_ne (by omega), up_ne (by omega), up_hit]
          · rw [up_ne (by omega), up_ne (by omega), up_ne (by omega), up_ne (by omega), up_hit]
          · rw [up_ne (by omega), up_ne (by omega), up_ne (by omega), up_hit]; exact hm
          · rw [up_ne (by omega), up_ne (by omega), up_ne (by omega), up_ne (by omega), up_ne (by omega)]; exact k6
          · rw [up_off (by omega), up_ne (by omega), up_ne (by omega), up_ne (by omega), up_ne (by omega), List.length_cons]; omega
          · rw [up_off (by omega), up_ne (by omega), up_ne (by omega), up_ne (by omega), up_ne (by omega), List.length_cons]; omega
          · rw [up_off (by omega), up_ne (by omega), up_ne (by omega), up_ne (by omega), up_ne (by omega)]; exact hfa
          · by_cases y0 : z = 0
            · rw [if_pos y0]; exact hp
            · rw [if_neg y0]; exact fa_nx hp)
  have cut253 : ∀ (Gf : FR6) (r : List FR6) (w1 : Wd), Gf.1 ≠ 2 → FRP w w1 → MP w1 T len t (Gf :: r) fa → WR w1 → ∀ v m y x z : Int, R32 v → m = 0 → pkS T len t ≠ 42 → ((gmE T len Gf v t).1 :: r, (gmE T len Gf v t).2.1, (gmE T len Gf v t).2.2) = G0 → x = totN Gf v → z = sgN T len t → (z = 0 ∨ z = 1 ∨ z = 2) → WR (up (up (up (up w1 398 r.length v) 399 r.length m) 397 r.length x) 396 r.length z) → ∀ s : Int, s = (if z = 0 then 0 else 1) → V mX12_goesOn (Rm d) 0 0 253 [some (vR (some 385)), some (vI v), some (vL y), none] [vI s, vI (w1 385 12), vR (some 385)] (fl (up (up (up (up w1 398 r.length v) 399 r.length m) 397 r.length x) 396 r.length z)) (lQ Q) := by
    intro Gf r w1 hne hf1 hM1 hw1 v m y x z hvr hm hpk hG hx hz hz3 hw4 s hs
    obtain ⟨hS1, ⟨⟨k1, k2, k3, k4, k5, k6⟩, hRR⟩, ho, hdp, hfa, hB, hl, hp⟩ := id hM1
    rw [List.length_cons] at ho hdp hl
    have ho : w1 385 23 = r.length := by omega
    have hdp : w1 385 14 = r.length := by omega
    have PL : z ≠ 0 → ∃ p, t = .inr p ∧ p < len := fun q => by
      unfold sgN at hz
      by_cases a : pkS T len t = 43
      · obtain ⟨p, a1, a2, a3⟩ := pk_inr2 a (by omega)
        exact ⟨p, a1, a3⟩
      · rw [if_neg a] at hz
        by_cases b : pkS T len t = 45
        · obtain ⟨p, a1, a2, a3⟩ := pk_inr2 b (by omega)
          exact ⟨p, a1, a3⟩
        · rw [if_neg b] at hz; exact absurd hz q
    have pb : z ≠ 0 → R32 (w1 385 12 + 1) := fun q => by
      obtain ⟨p, rfl, a⟩ := PL q
      obtain ⟨f1, f2, f3, f4⟩ := hS1.inr
      have := hS1.ln
      omega
    have w12r := hw1 385 12
    have s01 : s = 0 ∨ s = 1 := by split at hs <;> omega
    have sb : R32 (w1 385 12 + s) := by
      rcases Decidable.em (z = 0) with q | q
      · rw [if_pos q] at hs; omega
      · have := pb q; rw [if_neg q] at hs; omega
    refine r_iadd (pc := 253) dX12_goesOn_253 ?_
    refine ph_X12_213 (pc := 254) rfl dX12_goesOn_254 (by assumption) (by omega) (fun hw254 => ?_)
    refine r_aload_n (pc := 257) dX12_goesOn_257 rfl ?_
    refine h_X12_41 (pc := 258) rfl dX12_goesOn_258 ?_
    refine r_aload_n (pc := 261) dX12_goesOn_261 rfl ?_
    refine h_X12_238 (pc := 262) rfl dX12_goesOn_262 (by assumption) (fun h262 => ?_)
    rw [up_off (by omega), up_ne (by omega), up_ne (by omega), up_ne (by omega), up_ne (by omega), ho] at h262 ⊢
    refine f_iald (pc := 265) dX12_goesOn_265 (n := 10) (by assumption) (by first | assumption | rfl) (by omega) (by omega) (by omega) (fun h265 => ?_)
    rw [up_ne (by omega), up_hit] at h265 ⊢
    refine r_ifle (pc := 266) (tgt := 273) dX12_goesOn_266 rfl (by omega) (fun h266 => ?_) (fun h266 => ?_)
    · have z0 : z = 0 := by clear hs hz hx PL pb sb; omega
      refine r_iconst (pc := 273) (n := 0) dX12_goesOn_273 ?_
      exact cut274 Gf r w1 hne hf1 hM1 hw1 v m y x z s hvr hm hpk hG hx hz hs PL (by assumption) _ (by rw [hs, if_pos z0])
    have z1 : ¬ z = 0 := by clear hs hz hx PL pb sb; omega
    refine r_iconst (pc := 269) (n := 1) dX12_goesOn_269 ?_
    refine r_goto (pc := 270) (tgt := 274) dX12_goesOn_270 rfl ?_
    exact cut274 Gf r w1 hne hf1 hM1 hw1 v m y x z s hvr hm hpk hG hx hz hs PL (by assumption) _ (by rw [hs, if_neg z1])
  have cut230 : ∀ (Gf : FR6) (r : List FR6) (w1 : Wd), Gf.1 ≠ 2 → FRP w w1 → MP w1 T len t (Gf :: r) fa → WR w1 → ∀ v m y x : Int, R32 v → m = 0 → pkS T len t ≠ 42 → ((gmE T len Gf v t).1 :: r, (gmE T len Gf v t).2.1, (gmE T len Gf v t).2.2) = G0 → x = totN Gf v → WR (up (up (up w1 398 r.length v) 399 r.length m) 397 r.length x) → ∀ z : Int, z = sgN T len t → V mX12_goesOn (Rm d) 0 0 230 [some (vR (some 385)), some (vI v), some (vL y), none] [vI z, vI r.length, vR (some 396)] (fl (up (up (up w1 398 r.length v) 399 r.length m) 397 r.length x)) (lQ Q) := by
    intro Gf r w1 hne hf1 hM1 hw1 v m y x hvr hm hpk hG hx hw3 z hz
    have hz3 : z = 0 ∨ z = 1 ∨ z = 2 := by
      unfold sgN at hz
      split at hz
      · omega
      · split at hz <;> omega
    obtain ⟨hS1, ⟨⟨k1, k2, k3, k4, k5, k6⟩, hRR⟩, ho, hdp, hfa, hB, hl, hp⟩ := id hM1
    rw [List.length_cons] at ho hdp hl
    have ho : w1 385 23 = r.length := by omega
    have hdp : w1 385 14 = r.length := by omega
    refine f_iast (pc := 230) dX12_goesOn_230 (n := 10) (by assumption) (by first | assumption | rfl) (by omega) (by omega) (by omega) (by omega) (fun hw230 => ?_)
    refine r_aload_n (pc := 231) dX12_goesOn_231 rfl ?_
    refine r_dup (pc := 232) dX12_goesOn_232 rfl ?_
    refine h_X12_213 (pc := 233) rfl dX12_goesOn_233 (by assumption) (fun h233 => ?_)
    rw [up_ne (by omega), up_ne (by omega), up_ne (by omega), up_ne (by omega)] at h233 ⊢
    refine r_aload_n (pc := 236) dX12_goesOn_236 rfl ?_
    refine h_X12_41 (pc := 237) rfl dX12_goesOn_237 ?_
    refine r_aload_n (pc := 240) dX12_goesOn_240 rfl ?_
    refine h_X12_238 (pc := 241) rfl dX12_goesOn_241 (by assumption) (fun h241 => ?_)
    rw [up_ne (by omega), up_ne (by omega), up_ne (by omega), up_ne (by omega), ho] at h241 ⊢
    refine f_iald (pc := 244) dX12_goesOn_244 (n := 10) (by assumption) (by first | assumption | rfl) (by omega) (by omega) (by omega) (fun h244 => ?_)
    rw [up_hit] at h244 ⊢
    refine r_ifle (pc := 245) (tgt := 252) dX12_goesOn_245 rfl (by omega) (fun h245 => ?_) (fun h245 => ?_)
    · refine r_iconst (pc := 252) (n := 0) dX12_goesOn_252 ?_
      exact cut253 Gf r w1 hne hf1 hM1 hw1 v m y x z hvr hm hpk hG hx hz hz3 (by assumption) _ (if_pos (by omega)).symm
    refine r_iconst (pc := 248) (n := 1) dX12_goesOn_248 ?_
    refine r_goto (pc := 249) (tgt := 253) dX12_goesOn_249 rfl ?_
    exact cut253 Gf r w1 hne hf1 hM1 hw1 v m y x z hvr hm hpk hG hx hz hz3 (by assumption) _ (if_neg (by omega)).symm
  have cut194 : ∀ (Gf : FR6) (r : List FR6) (w1 : Wd), Gf.1 ≠ 2 → FRP w w1 → MP w1 T len t (Gf :: r) fa → WR w1 → ∀ v m y : Int, R32 v → m = 0 → pkS T len t ≠ 42 → ((gmE T len Gf v t).1 :: r, (gmE T len Gf v t).2.1, (gmE T len Gf v t).2.2) = G0 → WR (up (up w1 398 r.length v) 399 r.length m) → ∀ x : Int, R32 x → x = totN Gf v → V mX12_goesOn (Rm d) 0 0 194 [some (vR (some 385)), some (vI v), some (vL y), none] [vI x, vI r.length, vR (some 397)] (fl (up (up w1 398 r.length v) 399 r.length m)) (lQ Q) := by
    intro Gf r w1 hne hf1 hM1 hw1 v m y hvr hm hpk hG hw2 x hxr hx
    obtain ⟨hS1, ⟨⟨k1, k2, k3, k4, k5, k6⟩, hRR⟩, ho, hdp, hfa, hB, hl, hp⟩ := id hM1
    rw [List.length_cons] at ho hdp hl
    have ho : w1 385 23 = r.length := by omega
    have hdp : w1 385 14 = r.length := by omega
    refine f_iast (pc := 194) dX12_goesOn_194 (n := 10) (by assumption) (by first | assumption | rfl) (by omega) (by omega) (by omega) (by omega) (fun hw194 => ?_)
    refine r_aload_n (pc := 195) dX12_goesOn_195 rfl ?_
    refine h_X12_41 (pc := 196) rfl dX12_goesOn_196 ?_
    refine r_aload_n (pc := 199) dX12_goesOn_199 rfl ?_
    refine h_X12_238 (pc := 200) rfl dX12_goesOn_200 (by assumption) (fun h200 => ?_)
    rw [up_ne (by omega), up_ne (by omega), up_ne (by omega), ho] at h200 ⊢
    refine r_aload_n (pc := 203) dX12_goesOn_203 rfl ?_
    refine r_bipush (pc := 204) (n := 43) dX12_goesOn_204 (by decide) ?_
    refine c_X12_223 (pc := 206) rfl dX12_goesOn_206 (by first | assumption | rfl) (by omega) (Nat.le_of_ble_eq_true rfl) ?_
    refine m_X12_is (d - 1) (by omega) (by assumption) (((hS1.row (by omega)).row (by omega)).row (by omega)) (by omega) (fun r206 b206 e206 => ?_)
    have i206 := e206.pk (by omega)
    refine r_ifeq (pc := 209) (tgt := 216) dX12_goesOn_209 rfl (by omega) (fun h209 => ?_) (fun h209 => ?_)
    · refine r_aload_n (pc := 216) dX12_goesOn_216 rfl ?_
      refine r_bipush (pc := 217) (n := 45) dX12_goesOn_217 (by decide) ?_
      refine c_X12_223 (pc := 219) rfl dX12_goesOn_219 (by first | assumption | rfl) (by omega) (Nat.le_of_ble_eq_true rfl) ?_
      refine m_X12_is (d - 1) (by omega) (by assumption) (((hS1.row (by omega)).row (by omega)).row (by omega)) (by omega) (fun r219 b219 e219 => ?_)
      have i219 := e219.pk (by omega)
      refine r_ifeq (pc := 222) (tgt := 229) dX12_goesOn_222 rfl (by omega) (fun h222 => ?_) (fun h222 => ?_)
      · refine r_iconst (pc := 229) (n := 0) dX12_goesOn_229 ?_
        exact cut230 Gf r w1 hne hf1 hM1 hw1 v m y x hvr hm hpk hG hx (by assumption) _ (by unfold sgN; rw [if_neg (by omega), if_neg (by omega)])
      refine r_iconst (pc := 225) (n := 2) dX12_goesOn_225 ?_
      refine r_goto (pc := 226) (tgt := 230) dX12_goesOn_226 rfl ?_
      exact cut230 Gf r w1 hne hf1 hM1 hw1 v m y x hvr hm hpk hG hx (by assumption) _ (by unfold sgN; rw [if_neg (by omega), if_pos (by omega)])
    refine r_iconst (pc := 212) (n := 1) dX12_goesOn_212 ?_
    refine r_goto (pc := 213) (tgt := 230) dX12_goesOn_213 rfl ?_
    exact cut230 Gf r w1 hne hf1 hM1 hw1 v m y x hvr hm hpk hG hx (by assumption) _ (by unfold sgN; rw [if_pos (by omega)])
  have cut152 : ∀ (Gf : FR6) (r : List FR6) (w1 : Wd), Gf.1 ≠ 2 → FRP w w1 → MP w1 T len t (Gf :: r) fa → WR w1 → ∀ v m : Int, R32 v → m = 0 → pkS T len t ≠ 42 → ((gmE T len Gf v t).1 :: r, (gmE T len Gf v t).2.1, (gmE T len Gf v t).2.2) = G0 → WR (up (up w1 398 r.length v) 399 r.length m) → ∀ y : Int, y = (if Gf.2.1 = 2 then -v else v) → V mX12_goesOn (Rm d) 0 0 152 [some (vR (some 385)), some (vI v), none, none] [vL y] (fl (up (up w1 398 r.length v) 399 r.length m)) (lQ Q) := by
    intro Gf r w1 hne hf1 hM1 hw1 v m hvr hm hpk hG hw2 y hy
    obtain ⟨hS1, ⟨⟨k1, k2, k3, k4, k5, k6⟩, hRR⟩, ho, hdp, hfa, hB, hl, hp⟩ := id hM1
    rw [List.length_cons] at ho hdp hl
    have ho : w1 385 23 = r.length := by omega
    have hdp : w1 385 14 = r.length := by omega
    refine r_lstore2 (pc := 152) dX12_goesOn_152 rfl ?_
    refine r_aload_n (pc := 153) dX12_goesOn_153 rfl ?_
    refine h_X12_44 (pc := 154) rfl dX12_goesOn_154 ?_
    refine r_aload_n (pc := 157) dX12_goesOn_157 rfl ?_
    refine h_X12_238 (pc := 158) rfl dX12_goesOn_158 (by assumption) (fun h158 => ?_)
    rw [up_ne (by omega), up_ne (by omega), ho] at h158 ⊢
    refine r_aload_n (pc := 161) dX12_goesOn_161 rfl ?_
    refine h_X12_41 (pc := 162) rfl dX12_goesOn_162 ?_
    refine r_aload_n (pc := 165) dX12_goesOn_165 rfl ?_
    refine h_X12_238 (pc := 166) rfl dX12_goesOn_166 (by assumption) (fun h166 => ?_)
    rw [up_ne (by omega), up_ne (by omega), ho] at h166 ⊢
    refine f_iald (pc := 169) dX12_goesOn_169 (n := 10) (by assumption) (by first | assumption | rfl) (by omega) (by omega) (by omega) (fun h169 => ?_)
    rw [up_ne (by omega), up_ne (by omega), k2] at h169 ⊢
    refine r_ifne (pc := 170) (tgt := 177) dX12_goesOn_170 rfl (by omega) (fun h170 => ?_) (fun h170 => ?_)
    · refine r_aload_n (pc := 177) dX12_goesOn_177 rfl ?_
      refine h_X12_44 (pc := 178) rfl dX12_goesOn_178 ?_
      refine r_aload_n (pc := 181) dX12_goesOn_181 rfl ?_
      refine h_X12_238 (pc := 182) rfl dX12_goesOn_182 (by assumption) (fun h182 => ?_)
      rw [up_ne (by omega), up_ne (by omega), ho] at h182 ⊢
      refine f_iald (pc := 185) dX12_goesOn_185 (n := 10) (by assumption) (by first | assumption | rfl) (by omega) (by omega) (by omega) (fun h185 => ?_)
      rw [up_ne (by omega), up_ne (by omega), k3] at h185 ⊢
      refine r_i2l (pc := 186) dX12_goesOn_186 (by first | assumption | omega) ?_
      refine r_lload_n (pc := 187) dX12_goesOn_187 rfl ?_
      refine r_ladd (pc := 188) dX12_goesOn_188 ?_
      refine r_ldc (pc := 189) (n := 1000000) dX12_goesOn_189 kw_X12_250 rfl ?_
      refine c_X12_108 (pc := 191) rfl dX12_goesOn_191 (by omega) (Nat.le_of_ble_eq_true rfl) ?_
      have yb : -2147483648 ≤ y ∧ y ≤ 2147483648 := by split at hy <;> omega
      refine m_X12_bound (d - 1) (by omega) (by assumption) (by omega) (by omega) (fun r191 e191 b191 => ?_)
      exact cut194 Gf r w1 hne hf1 hM1 hw1 v m y hvr hm hpk hG hw2 _ (by omega) (by unfold totN; rw [if_neg (by omega), e191, hy])
    refine r_iload_n (pc := 173) dX12_goesOn_173 rfl ?_
    refine r_goto (pc := 174) (tgt := 194) dX12_goesOn_174 rfl ?_
    exact cut194 Gf r w1 hne hf1 hM1 hw1 v m y hvr hm hpk hG hw2 _ (by omega) (by unfold totN; rw [if_pos (by omega)])
  have cut81 : ∀ (Gf : FR6) (r : List FR6) (w1 : Wd), Gf.1 ≠ 2 → FRP w w1 → MP w1 T len t (Gf :: r) fa → WR w1 → ∀ v : Int, R32 v → ((gmE T len Gf v t).1 :: r, (gmE T len Gf v t).2.1, (gmE T len Gf v t).2.2) = G0 → V mX12_goesOn (Rm d) 0 0 81 [some (vR (some 385)), none, none, none] [vI v] (fl w1) (lQ Q) := by
    intro Gf r w1 hne hf1 hM1 hw1 v hvr hG
    obtain ⟨hS1, ⟨⟨k1, k2, k3, k4, k5, k6⟩, hRR⟩, ho, hdp, hfa, hB, hl, hp⟩ := id hM1
    rw [List.length_cons] at ho hdp hl
    have ho : w1 385 23 = r.length := by omega
    have hdp : w1 385 14 = r.length := by omega
    refine r_istore1 (pc := 81) dX12_goesOn_81 rfl ?_
    refine r_aload_n (pc := 82) dX12_goesOn_82 rfl ?_
    refine h_X12_47 (pc := 83) rfl dX12_goesOn_83 ?_
    refine r_aload_n (pc := 86) dX12_goesOn_86 rfl ?_
    refine h_X12_238 (pc := 87) rfl dX12_goesOn_87 (by assumption) (fun h87 => ?_)
    rw [ho] at h87 ⊢
    refine r_iload_n (pc := 90) dX12_goesOn_90 rfl ?_
    refine f_iast (pc := 91) dX12_goesOn_91 (n := 10) (by assumption) (by first | assumption | rfl) (by omega) (by omega) (by omega) (by omega) (fun hw91 => ?_)
    refine r_aload_n (pc := 92) dX12_goesOn_92 rfl ?_
    refine h_X12_50 (pc := 93) rfl dX12_goesOn_93 ?_
    refine r_aload_n (pc := 96) dX12_goesOn_96 rfl ?_
    refine h_X12_238 (pc := 97) rfl dX12_goesOn_97 (by assumption) (fun h97 => ?_)
    rw [up_ne (by omega), ho] at h97 ⊢
    refine r_aload_n (pc := 100) dX12_goesOn_100 rfl ?_
    refine r_bipush (pc := 101) (n := 42) dX12_goesOn_101 (by decide) ?_
    refine c_X12_223 (pc := 103) rfl dX12_goesOn_103 (by first | assumption | rfl) (by omega) (Nat.le_of_ble_eq_true rfl) ?_
    refine m_X12_is (d - 1) (by omega) (by assumption) (hS1.row (by omega)) (by omega) (fun r103 b103 e103 => ?_)
    have i103 := e103.pk (by omega)
    refine f_zast (pc := 106) dX12_goesOn_106 (n := 10) (by assumption) (by first | assumption | rfl) (by omega) (by omega) (by omega) (by omega) (fun hw106 => ?_)
    refine r_aload_n (pc := 107) dX12_goesOn_107 rfl ?_
    refine h_X12_50 (pc := 108) rfl dX12_goesOn_108 ?_
    refine r_aload_n (pc := 111) dX12_goesOn_111 rfl ?_
    refine h_X12_238 (pc := 112) rfl dX12_goesOn_112 (by assumption) (fun h112 => ?_)
    rw [up_ne (by omega), up_ne (by omega), ho] at h112 ⊢
    refine f_zald (pc := 115) dX12_goesOn_115 (n := 10) (by assumption) (by first | assumption | rfl) (by omega) (by omega) (by omega) (fun h115 => ?_)
    rw [up_hit] at h115 ⊢
    refine r_ifeq (pc := 116) (tgt := 131) dX12_goesOn_116 rfl (by omega) (fun h116 => ?_) (fun h116 => ?_)
    · have pk42 : pkS T len t ≠ 42 := by omega
      refine r_aload_n (pc := 131) dX12_goesOn_131 rfl ?_
      refine h_X12_41 (pc := 132) rfl dX12_goesOn_132 ?_
      refine r_aload_n (pc := 135) dX12_goesOn_135 rfl ?_
      refine h_X12_238 (pc := 136) rfl dX12_goesOn_136 (by assumption) (fun h136 => ?_)
      rw [up_ne (by omega), up_ne (by omega), ho] at h136 ⊢
      refine f_iald (pc := 139) dX12_goesOn_139 (n := 10) (by assumption) (by first | assumption | rfl) (by omega) (by omega) (by omega) (fun h139 => ?_)
      rw [up_ne (by omega), up_ne (by omega), k2] at h139 ⊢
      refine r_iconst (pc := 140) (n := 2) dX12_goesOn_140 ?_
      refine r_icmpne (pc := 141) (tgt := 150) dX12_goesOn_141 rfl (by omega) (by omega) (fun h141 => ?_) (fun h141 => ?_)
      · refine r_iload_n (pc := 150) dX12_goesOn_150 rfl ?_
        refine r_i2l (pc := 151) dX12_goesOn_151 (by first | assumption | omega) ?_
        exact cut152 Gf r w1 hne hf1 hM1 hw1 v r103 hvr (by omega) (by omega) hG (by assumption) _ (if_neg (by omega)).symm
      refine r_iload_n (pc := 144) dX12_goesOn_144 rfl ?_
      refine r_i2l (pc := 145) dX12_goesOn_145 (by first | assumption | omega) ?_
      refine r_lneg (pc := 146) dX12_goesOn_146 ?_
      refine r_goto (pc := 147) (tgt := 152) dX12_goesOn_147 rfl ?_
      exact cut152 Gf r w1 hne hf1 hM1 hw1 v r103 hvr (by omega) (by omega) hG (by assumption) _ (if_pos (by omega)).symm
    have pk42 : pkS T len t = 42 := by omega
    obtain ⟨p, a1, a2, a3⟩ := pk_inr2 pk42 (by omega)
    have pb : R32 (w1 385 12 + 1) := by
      obtain ⟨f1, f2, f3, f4⟩ := (a1 ▸ hS1).inr
      have := hS1.ln
      omega
    refine r_aload_n (pc := 119) dX12_goesOn_119 rfl ?_
    refine r_dup (pc := 120) dX12_goesOn_120 rfl ?_
    refine h_X12_213 (pc := 121) rfl dX12_goesOn_121 (by assumption) (fun h121 => ?_)
    rw [up_ne (by omega), up_ne (by omega)] at h121 ⊢
    refine r_iconst (pc := 124) (n := 1) dX12_goesOn_124 ?_
    refine r_iadd (pc := 125) dX12_goesOn_125 ?_
    refine ph_X12_213 (pc := 126) rfl dX12_goesOn_126 (by assumption) (by omega) (fun hw126 => ?_)
    refine r_iconst (pc := 129) (n := 1) dX12_goesOn_129 ?_
    exact f_zret (pc := 130) dX12_goesOn_130 rfl (by first | exact Or.inl rfl | exact Or.inr rfl | omega) (by assumption) (by
          have z : gmE T len Gf v t = ((Gf.1, Gf.2.1, Gf.2.2.1, v, 1, Gf.2.2.2.2.2), nxT t, 1) := if_pos pk42
          rw [z] at hG
          have r1 : r103 = 1 := by omega
          rw [← hG] at hQ
          refine hQ _ (((hf1.tr (FRP_row (by omega))).tr (FRP_row (by omega))).tr (FRP_fld (by omega))) ⟨((hS1.row (by omega)).row (by omega)).nx (fun q h => by rw [a1] at h; cases h; exact a3) _ (by rw [up_ne (by omega), up_ne (by omega)]) ⟨p, a1⟩, ⟨⟨?_, ?_, ?_, ?_, ?_, ?_⟩, hRR.kp (fun i a b j c => by rw [up_ne (by omega), up_off (by omega), up_off (by omega)])⟩, ?_, ?_, ?_, hB.top rfl, hM1.2.2.2.2.2.2.1, fa_nx hp⟩ (by assumption)
          · rw [up_ne (by omega), up_ne (by omega), up_ne (by omega)]; exact k1
          · rw [up_ne (by omega), up_ne (by omega), up_ne (by omega)]; exact k2
          · rw [up_ne (by omega), up_ne (by omega), up_ne (by omega)]; exact k3
          · rw [up_ne (by omega), up_ne (by omega), up_hit]
          · rw [up_ne (by omega), up_hit]; exact r1
          · rw [up_ne (by omega), up_ne (by omega), up_ne (by omega)]; exact k6
          · rw [up_off (by omega), up_ne (by omega), up_ne (by omega), List.length_cons]; omega
          · rw [up_off (by omega), up_ne (by omega), up_ne (by omega), List.length_cons]; omega
          · rw [up_off (by omega), up_ne (by omega), up_ne (by omega)]; exact hfa)
  have loop0 : ∀ n0 : Nat, ∀ (St : List FR6) (g : Int) (w1 : Wd), St.length = n0 → FRP w w1 → MP w1 T len t St fa → w1 385 24 = g → gon T len St g t = G0 → WR w1 → V mX12_goesOn (Rm d) 0 0 0 [some (vR (some 385)), none, none, none] [] (fl w1) (lQ Q) := by
    refine ind_lt ?_
    intro n0 ih St g w1 hn hf1 hM1 hg1 hG hw1
    cases St with
    | nil => exact absurd hM1.2.2.2.2.2.1 id
    | cons Gf r => ?_
    obtain ⟨hS1, ⟨⟨k1, k2, k3, k4, k5, k6⟩, hRR⟩, ho, hdp, hfa, hB, hl, hp⟩ := id hM1
    rw [List.length_cons] at ho hdp hl
    have ho : w1 385 23 = r.length := by omega
    have hdp : w1 385 14 = r.length := by omega
    refine r_aload_n (pc := 0) dX12_goesOn_0 rfl ?_
    refine h_X12_38 (pc := 1) rfl dX12_goesOn_1 ?_
    refine r_aload_n (pc := 4) dX12_goesOn_4 rfl ?_
    refine h_X12_238 (pc := 5) rfl dX12_goesOn_5 (by assumption) (fun h5 => ?_)
    rw [ho] at h5 ⊢
    refine f_iald (pc := 8) dX12_goesOn_8 (n := 10) (by assumption) (by first | assumption | rfl) (by omega) (by omega) (by omega) (fun h8 => ?_)
    rw [k1] at h8 ⊢
    refine r_iconst (pc := 9) (n := 2) dX12_goesOn_9 ?_
    refine r_icmpne (pc := 10) (tgt := 35) dX12_goesOn_10 rfl (by omega) (by omega) (fun h10 => ?_) (fun h10 => ?_)
    · refine r_aload_n (pc := 35) dX12_goesOn_35 rfl ?_
      refine h_X12_50 (pc := 36) rfl dX12_goesOn_36 ?_
      refine r_aload_n (pc := 39) dX12_goesOn_39 rfl ?_
      refine h_X12_238 (pc := 40) rfl dX12_goesOn_40 (by assumption) (fun h40 => ?_)
      rw [ho] at h40 ⊢
      refine f_zald (pc := 43) dX12_goesOn_43 (n := 10) (by assumption) (by first | assumption | rfl) (by omega) (by omega) (by omega) (fun h43 => ?_)
      rw [k5] at h43 ⊢
      refine r_ifeq (pc := 44) (tgt := 77) dX12_goesOn_44 rfl (by omega) (fun h44 => ?_) (fun h44 => ?_)
      · refine r_aload_n (pc := 77) dX12_goesOn_77 rfl ?_
        refine h_X12_247 (pc := 78) rfl dX12_goesOn_78 (by assumption) (fun h78 => ?_)
        exact cut81 Gf r w1 (by omega) hf1 hM1 (by assumption) _ (by omega) (by rw [← hG, gon_n T len (by omega), show gvl Gf g = w1 385 24 from (if_pos (by omega)).trans hg1.symm])
      refine r_aload_n (pc := 47) dX12_goesOn_47 rfl ?_
      refine h_X12_47 (pc := 48) rfl dX12_goesOn_48 ?_
      refine r_aload_n (pc := 51) dX12_goesOn_51 rfl ?_
      refine h_X12_238 (pc := 52) rfl dX12_goesOn_52 (by assumption) (fun h52 => ?_)
      rw [ho] at h52 ⊢
      refine f_iald (pc := 55) dX12_goesOn_55 (n := 10) (by assumption) (by first | assumption | rfl) (by omega) (by omega) (by omega) (fun h55 => ?_)
      rw [k4] at h55 ⊢
      refine r_i2l (pc := 56) dX12_goesOn_56 (by first | assumption | omega) ?_
      refine r_aload_n (pc := 57) dX12_goesOn_57 rfl ?_
      refine h_X12_247 (pc := 58) rfl dX12_goesOn_58 (by assumption) (fun h58 => ?_)
      rw [hg1] at h58 ⊢
      refine r_i2l (pc := 61) dX12_goesOn_61 (by first | assumption | omega) ?_
      refine r_lmul (pc := 62) dX12_goesOn_62 ?_
      refine r_ldc2 (pc := 63) (n := 64) dX12_goesOn_63 kw_X12_91 rfl ?_
      refine c_X12_93 (pc := 66) rfl dX12_goesOn_66 (by omega) (Nat.le_of_ble_eq_true rfl) ?_
      refine m_X12_round (d - 1) (by omega) (by assumption) (by omega) (fun r66 e66 => ?_)
      have R66 : R64 r66 := by rw [e66]; exact rndW_r _ _
      refine r_ldc (pc := 69) (n := 1000000) dX12_goesOn_69 kw_X12_250 rfl ?_
      refine c_X12_108 (pc := 71) rfl dX12_goesOn_71 (by omega) (Nat.le_of_ble_eq_true rfl) ?_
      refine m_X12_bound (d - 1) (by omega) (by assumption) (by omega) (by omega) (fun r71 e71 b71 => ?_)
      refine r_goto (pc := 74) (tgt := 81) dX12_goesOn_74 rfl ?_
      exact cut81 Gf r w1 (by omega) hf1 hM1 (by assumption) _ (by omega) (by rw [← hG, gon_n T len (by omega), show gvl Gf g = r71 from by unfold gvl; rw [if_neg (by omega), e71, e66]; unfold cmb; simp])
    have hk2 : Gf.1 = 2 := by omega
    have Rne := hB.ne (by omega)
    have Rl : 0 < r.length := List.length_pos_iff.mpr Rne
    refine r_aload_n (pc := 13) dX12_goesOn_13 rfl ?_
    refine r_aload_n (pc := 14) dX12_goesOn_14 rfl ?_
    refine h_X12_247 (pc := 15) rfl dX12_goesOn_15 (by assumption) (fun h15 => ?_)
    rw [hg1] at h15 ⊢
    refine r_i2l (pc := 18) dX12_goesOn_18 (by first | assumption | omega) ?_
    refine r_lneg (pc := 19) dX12_goesOn_19 ?_
    refine r_ldc (pc := 20) (n := 1000000) dX12_goesOn_20 kw_X12_250 rfl ?_
    refine c_X12_108 (pc := 22) rfl dX12_goesOn_22 (by omega) (Nat.le_of_ble_eq_true rfl) ?_
    refine m_X12_bound (d - 1) (by omega) (by assumption) (by omega) (by omega) (fun r22 e22 b22 => ?_)
    refine ph_X12_247 (pc := 25) rfl dX12_goesOn_25 (by assumption) (by omega) (fun hw25 => ?_)
    refine r_aload_n (pc := 28) dX12_goesOn_28 rfl ?_
    refine c_X12_244 (pc := 29) rfl dX12_goesOn_29 (by first | assumption | rfl) (by omega) (Nat.le_of_ble_eq_true rfl) ?_
    refine m_X12_closes (d - 1) (by omega) (by assumption) (by rw [up_off (by omega)]; omega) (by rw [up_off (by omega)]; omega) (fun w29 e29 hw29 => ?_)
    rw [up_off (by omega), up_off (by omega), ho, hdp] at e29
    have F29 : FRP w1 w29 := by
      rw [e29]
      exact ((FRP_fld (by omega)).tr (FRP_fld (by omega))).tr (FRP_fld (by omega))
    have G29 : w29 385 24 = lim (-g) 1000000 := by rw [e29, up_off (by omega), up_off (by omega), up_hit]; exact e22
    have M29 : MP w29 T len t r fa := by
      rw [e29]
      exact ⟨((hS1.fld (by omega)).fld (by omega)).fld (by omega), hRR.rows (fun i a b => by rw [up_ne (by omega), up_ne (by omega), up_ne (by omega)]), by rw [up_off (by omega), up_hit], by rw [up_hit], by rw [up_off (by omega), up_off (by omega), up_off (by omega)]; exact hfa, hB.tl Rne, by omega, hp⟩
    refine r_goto (pc := 32) (tgt := 0) dX12_goesOn_32 rfl ?_
    exact ih r.length (by rw [← hn, List.length_cons]; omega) r _ w29 rfl (hf1.tr F29) M29 G29 (by rw [← hG]; exact (if_pos (by omega)).symm) (by assumption)
  exact loop0 _ St g w rfl (FRP.rf w) hM hg hG0.symm hw
