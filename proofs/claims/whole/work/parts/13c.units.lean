/-! the law's cases of numbers in units -/
def dcI (x y : UInt64) : Int := (Op.cmpValue (FP.dcmp x y) .l).toInt
theorem dcI_c (x y : UInt64) : dcI x y = -1 ∨ dcI x y = 0 ∨ dcI x y = 1 := by
  unfold dcI
  cases FP.dcmp x y with
  | none => exact Or.inl rfl
  | some o =>
    cases o with
    | lt => exact Or.inl rfl
    | eq => exact Or.inr (Or.inl rfl)
    | gt => exact Or.inr (Or.inr rfl)
theorem dcI_r (x y : UInt64) : R32 (dcI x y) := by
  have := dcI_c x y
  omega
theorem dc_n {x : UInt64} (h : isNaN64 x = true) : dcI x x ≠ 0 := by
  have e : FP.dcmp x x = none := (FP.Core.dcmp_none x x).mpr (Or.inl ((FP.Core.dIsNaN_iff x).mp ((nan_link x).mp h)))
  unfold dcI
  rw [e]
  exact (by decide : (Op.cmpValue none .l).toInt ≠ 0)
theorem dc_e {x : UInt64} (h : ¬ isNaN64 x = true) : dcI x x = 0 := by
  have e : FP.dcmp x x = some .eq := FP.Core.dcmp_self (fun z => h ((nan_link x).mpr ((FP.Core.dIsNaN_iff x).mpr z)))
  unfold dcI
  rw [e]
  rfl
theorem dc_alike {p q v : UInt64} (hp : alike64 p v = true) (hq : alike64 q v = true) : dcI p q = 0 ∨ (dcI p p ≠ 0 ∧ dcI q q ≠ 0) := by
  by_cases z : isNaN64 v = true
  · refine Or.inr ⟨dc_n ?_, dc_n ?_⟩
    · rcases alike64_or hp with e | e
      · rw [e]; exact z
      · exact e.1
    · rcases alike64_or hq with e | e
      · rw [e]; exact z
      · exact e.1
  · have a : p = v := (alike64_or hp).elim id (fun e => absurd e.2 z)
    have b : q = v := (alike64_or hq).elim id (fun e => absurd e.2 z)
    rw [a, b]
    exact Or.inl (dc_e z)
theorem nan_link32 (x : UInt32) : isNaN32 x = true ↔ FP.Core.fIsNaN x = true := by
  have e : x.toNat &&& 2147483647 = x.toNat % 2 ^ 31 := Nat.and_two_pow_sub_one_eq_mod x.toNat 31
  constructor
  · intro h
    have h := isNaN32_iff.mp h
    exact (FP.Core.isNaN_bits32 x).mpr (by rw [← e]; exact h)
  · intro h
    have h := (FP.Core.isNaN_bits32 x).mp h
    rw [← e] at h
    exact isNaN32_iff.mpr h
theorem alike_f2d {x y : UInt32} {r : UInt64} (h : alike32 x y = true) (g : alike64 r (FP.f2d x) = true) : alike64 r (FP.f2d y) = true := by
  unfold alike32 at h
  rcases (Bool.or_eq_true_iff.mp h) with a | a
  · rw [← of_decide_eq_true a]; exact g
  · have b := Bool.and_eq_true_iff.mp a
    have n : ∀ u, isNaN32 u = true → isNaN64 (FP.f2d u) = true := fun u hu => (nan_link _).mpr ((FP.f2d_nan u).trans ((nan_link32 u).mp hu))
    refine alike64_nn ?_ (n y b.2)
    rcases alike64_or g with e | e
    · rw [e]; exact n x b.1
    · exact e.1
section
variable {k : MT} {R : Room} {cu su pc : Nat} {L : List (Option AV)} {st : List AV} {u : GW} {Q : Option AV → GW → Prop}
theorem r_dcmp {x y : UInt64} (hd : decode k.2.1 pc = .ok (.dcmp .l, 1)) (kk : V k R cu su (pc + 1) L (vI (dcI x y) :: st) u Q) : V k R cu su pc L (vD y :: vD x :: st) u Q := by
  intro g a p l e s m args below meth c Z C H locs ls d0 hd0 hl hH
  have K := kk g a p l e s m args below meth c Z C H locs ls d0 hd0 hl hH
  refine lv_dcmp C.1 C.2.1 hd ?_
  have E : Int32.ofInt (dcI x y) = Op.cmpValue (FP.dcmp x y) .l := Int32.ofInt_toInt _
  rw [← E]
  exact K
end
set_option maxRecDepth 8000 in
theorem law_units {QG : Option AV → GW → Prop} {w : Wd} {G : GS} {i : Int} {cu su : Nat} {o4 o5 o6 o7 : Option AV} (hcs : cu ≤ 600000 ∧ su ≤ 7302250) (hw : WR w) (hG : GOK G) (hC : CLG G w) (hM : MOG G w) (hi : 0 ≤ i ∧ i + 6 ≤ w 999 0 ∧ w 999 0 ≤ 3072) (NEXT : ∀ (w2 : Wd) (G2 : GS) (p4 p5 p6 p7 : Option AV), GOK G2 → CLG G2 w2 → MOG G2 w2 → WR w2 → w2 0 = w 0 → w2 999 = w 999 → V mL_law room_1 cu su 1423 [some (vR (some 0)), some (vR (some 1)), some (vR (some 385)), some (vI i), p4, p5, p6, p7] [] (fl w2) QG) : V mL_law room_1 cu su 712 [some (vR (some 0)), some (vR (some 1)), some (vR (some 385)), some (vI i), o4, o5, o6, o7] [] (fl w) QG := by
  refine r_aload_n (pc := 712) dL_law_712 rfl ?_
  refine r_aload_n (pc := 713) dL_law_713 rfl ?_
  refine r_iload_n (pc := 714) dL_law_714 rfl ?_
  refine r_iconst (pc := 715) (n := 1) dL_law_715 ?_
  refine r_iadd (pc := 716) dL_law_716 ?_
  refine f_sld (pc := 717) dL_law_717 (by assumption) (by omega) (by omega) (by omega) (fun h717 => ?_)
  refine r_aload_n (pc := 718) dL_law_718 rfl ?_
  refine r_iload_n (pc := 719) dL_law_719 rfl ?_
  refine r_iconst (pc := 720) (n := 2) dL_law_720 ?_
  refine r_iadd (pc := 721) dL_law_721 ?_
  refine f_sld (pc := 722) dL_law_722 (by assumption) (by omega) (by omega) (by omega) (fun h722 => ?_)
  refine c_L_74 (pc := 723) dL_law_723 hcs (Nat.le_of_ble_eq_true rfl) ?_
  refine x_units 45 (by omega) (by assumption) hG hC (hw 0 _) (hw 0 _) (fun r723 e723 => ?_)
  refine r_f2d (pc := 726) dL_law_726 (fun r726 a726 => ?_)
  refine r_dstore4 (pc := 727) dL_law_727 rfl ?_
  refine r_aload_n (pc := 729) dL_law_729 rfl ?_
  refine r_aload_n (pc := 730) dL_law_730 rfl ?_
  refine r_iload_n (pc := 731) dL_law_731 rfl ?_
  refine r_iconst (pc := 732) (n := 1) dL_law_732 ?_
  refine r_iadd (pc := 733) dL_law_733 ?_
  refine f_sld (pc := 734) dL_law_734 (by assumption) (by omega) (by omega) (by omega) (fun h734 => ?_)
  refine r_aload_n (pc := 735) dL_law_735 rfl ?_
  refine r_iload_n (pc := 736) dL_law_736 rfl ?_
  refine r_iconst (pc := 737) (n := 2) dL_law_737 ?_
  refine r_iadd (pc := 738) dL_law_738 ?_
  refine f_sld (pc := 739) dL_law_739 (by assumption) (by omega) (by omega) (by omega) (fun h739 => ?_)
  refine c_L_78 (pc := 740) dL_law_740 hcs (Nat.le_of_ble_eq_true rfl) ?_
  refine y_units 45 (by omega) (by assumption) hG hM (hw 0 _) (hw 0 _) (fun r740 e740 => ?_)
  refine r_f2d (pc := 743) dL_law_743 (fun r743 a743 => ?_)
  refine r_dstore6 (pc := 744) dL_law_744 rfl ?_
  refine r_dload (pc := 746) dL_law_746 rfl ?_
  refine r_dload (pc := 748) dL_law_748 rfl ?_
  have DC := dc_alike (alike_f2d e723 a726) (alike_f2d e740 a743)
  refine r_dcmp (pc := 750) dL_law_750 ?_
  refine r_ifeq (pc := 751) (tgt := 772) dL_law_751 rfl (dcI_r _ _) (fun h751 => ?_) (fun h751 => ?_)
  · refine r_goto (pc := 772) (tgt := 1423) dL_law_772 rfl ?_
    exact NEXT w G _ _ _ _ hG hC hM (by assumption) rfl rfl
  refine r_dload (pc := 754) dL_law_754 rfl ?_
  refine r_dload (pc := 756) dL_law_756 rfl ?_
  refine r_dcmp (pc := 758) dL_law_758 ?_
  refine r_ifeq (pc := 759) (tgt := 770) dL_law_759 rfl (dcI_r _ _) (fun h759 => ?_) (fun h759 => ?_)
  · exfalso; omega
    --stop
  refine r_dload (pc := 762) dL_law_762 rfl ?_
  refine r_dload (pc := 764) dL_law_764 rfl ?_
  refine r_dcmp (pc := 766) dL_law_766 ?_
  refine r_ifne (pc := 767) (tgt := 772) dL_law_767 rfl (dcI_r _ _) (fun h767 => ?_) (fun h767 => ?_)
  · refine r_goto (pc := 772) (tgt := 1423) dL_law_772 rfl ?_
    exact NEXT w G _ _ _ _ hG hC hM (by assumption) rfl rfl
  exfalso; omega
  --stop
set_option maxRecDepth 8000 in
theorem law_mean {QG : Option AV → GW → Prop} {w : Wd} {G : GS} {i : Int} {cu su : Nat} {o4 o5 o6 o7 : Option AV} (hcs : cu ≤ 600000 ∧ su ≤ 7302250) (hw : WR w) (hG : GOK G) (hC : CLG G w) (hM : MOG G w) (hi : 0 ≤ i ∧ i + 6 ≤ w 999 0 ∧ w 999 0 ≤ 3072) (NEXT : ∀ (w2 : Wd) (G2 : GS) (p4 p5 p6 p7 : Option AV), GOK G2 → CLG G2 w2 → MOG G2 w2 → WR w2 → w2 0 = w 0 → w2 999 = w 999 → V mL_law room_1 cu su 1423 [some (vR (some 0)), some (vR (some 1)), some (vR (some 385)), some (vI i), p4, p5, p6, p7] [] (fl w2) QG) : V mL_law room_1 cu su 775 [some (vR (some 0)), some (vR (some 1)), some (vR (some 385)), some (vI i), o4, o5, o6, o7] [] (fl w) QG := by
  refine r_aload_n (pc := 775) dL_law_775 rfl ?_
  refine r_aload_n (pc := 776) dL_law_776 rfl ?_
  refine r_iload_n (pc := 777) dL_law_777 rfl ?_
  refine r_iconst (pc := 778) (n := 1) dL_law_778 ?_
  refine r_iadd (pc := 779) dL_law_779 ?_
  refine f_sld (pc := 780) dL_law_780 (by assumption) (by omega) (by omega) (by omega) (fun h780 => ?_)
  refine r_aload_n (pc := 781) dL_law_781 rfl ?_
  refine r_iload_n (pc := 782) dL_law_782 rfl ?_
  refine r_iconst (pc := 783) (n := 2) dL_law_783 ?_
  refine r_iadd (pc := 784) dL_law_784 ?_
  refine f_sld (pc := 785) dL_law_785 (by assumption) (by omega) (by omega) (by omega) (fun h785 => ?_)
  refine r_aload_n (pc := 786) dL_law_786 rfl ?_
  refine r_iload_n (pc := 787) dL_law_787 rfl ?_
  refine r_iconst (pc := 788) (n := 3) dL_law_788 ?_
  refine r_iadd (pc := 789) dL_law_789 ?_
  refine f_sld (pc := 790) dL_law_790 (by assumption) (by omega) (by omega) (by omega) (fun h790 => ?_)
  refine c_L_79 (pc := 791) dL_law_791 hcs (Nat.le_of_ble_eq_true rfl) ?_
  refine x_mean 45 (by omega) (by assumption) hG hC (hw 0 _) (hw 0 _) (hw 0 _) (fun r791 e791 => ?_)
  refine r_dstore4 (pc := 794) dL_law_794 rfl ?_
  refine r_aload_n (pc := 796) dL_law_796 rfl ?_
  refine r_aload_n (pc := 797) dL_law_797 rfl ?_
  refine r_iload_n (pc := 798) dL_law_798 rfl ?_
  refine r_iconst (pc := 799) (n := 1) dL_law_799 ?_
  refine r_iadd (pc := 800) dL_law_800 ?_
  refine f_sld (pc := 801) dL_law_801 (by assumption) (by omega) (by omega) (by omega) (fun h801 => ?_)
  refine r_aload_n (pc := 802) dL_law_802 rfl ?_
  refine r_iload_n (pc := 803) dL_law_803 rfl ?_
  refine r_iconst (pc := 804) (n := 2) dL_law_804 ?_
  refine r_iadd (pc := 805) dL_law_805 ?_
  refine f_sld (pc := 806) dL_law_806 (by assumption) (by omega) (by omega) (by omega) (fun h806 => ?_)
  refine r_aload_n (pc := 807) dL_law_807 rfl ?_
  refine r_iload_n (pc := 808) dL_law_808 rfl ?_
  refine r_iconst (pc := 809) (n := 3) dL_law_809 ?_
  refine r_iadd (pc := 810) dL_law_810 ?_
  refine f_sld (pc := 811) dL_law_811 (by assumption) (by omega) (by omega) (by omega) (fun h811 => ?_)
  refine c_L_83 (pc := 812) dL_law_812 hcs (Nat.le_of_ble_eq_true rfl) ?_
  refine y_mean 45 (by omega) (by assumption) hG hM (hw 0 _) (hw 0 _) (hw 0 _) (fun r812 e812 => ?_)
  refine r_dstore6 (pc := 815) dL_law_815 rfl ?_
  refine r_dload (pc := 817) dL_law_817 rfl ?_
  refine r_dload (pc := 819) dL_law_819 rfl ?_
  have DC := dc_alike e791 e812
  refine r_dcmp (pc := 821) dL_law_821 ?_
  refine r_ifeq (pc := 822) (tgt := 843) dL_law_822 rfl (dcI_r _ _) (fun h822 => ?_) (fun h822 => ?_)
  · refine r_goto (pc := 843) (tgt := 1423) dL_law_843 rfl ?_
    exact NEXT w G _ _ _ _ hG hC hM (by assumption) rfl rfl
  refine r_dload (pc := 825) dL_law_825 rfl ?_
  refine r_dload (pc := 827) dL_law_827 rfl ?_
  refine r_dcmp (pc := 829) dL_law_829 ?_
  refine r_ifeq (pc := 830) (tgt := 841) dL_law_830 rfl (dcI_r _ _) (fun h830 => ?_) (fun h830 => ?_)
  · exfalso; omega
    --stop
  refine r_dload (pc := 833) dL_law_833 rfl ?_
  refine r_dload (pc := 835) dL_law_835 rfl ?_
  refine r_dcmp (pc := 837) dL_law_837 ?_
  refine r_ifne (pc := 838) (tgt := 843) dL_law_838 rfl (dcI_r _ _) (fun h838 => ?_) (fun h838 => ?_)
  · refine r_goto (pc := 843) (tgt := 1423) dL_law_843 rfl ?_
    exact NEXT w G _ _ _ _ hG hC hM (by assumption) rfl rfl
  exfalso; omega
  --stop
