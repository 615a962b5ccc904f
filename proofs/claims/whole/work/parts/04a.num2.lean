/-! numbers, second part: what round, floorDiv and the like answer -/
def b2i (p : Prop) [Decidable p] : Int := if p then 1 else 0
def gA (n : Nat) (w : Wd) (a : Nat) (j : Int) : Int := if 0 ≤ j ∧ j < n then w a j else 0
def pA (n : Nat) (w : Wd) (a : Nat) (j x : Int) : Wd := if 0 ≤ j ∧ j < n then up w a j x else w
def w64 (z : Int) : Int := z.bmod (2 ^ 64)
def w32 (z : Int) : Int := z.bmod (2 ^ 32)
theorem w64_r (z : Int) : R64 (w64 z) := by
  unfold w64 Int.bmod
  simp only [show ((2 ^ 64 : Nat) : Int) = 18446744073709551616 from rfl]
  split <;> constructor <;> omega
theorem w32_r (z : Int) : R32 (w32 z) := by
  unfold w32 Int.bmod
  simp only [show ((2 ^ 32 : Nat) : Int) = 4294967296 from rfl]
  split <;> constructor <;> omega
theorem w64_id {z : Int} (h : R64 z) : w64 z = z := zl_bm h
theorem w32_id {z : Int} (h : R32 z) : w32 z = z := zi_bm h
theorem zl_w64 (z : Int) : Int64.ofInt z = Int64.ofInt (w64 z) := (zl_bb z).symm
theorem zi_w32 (z : Int) : Int32.ofInt z = Int32.ofInt (w32 z) := (zi_bb z).symm
def rndW (n d : Int) : Int := if 0 < d then w64 (2 * n + d) / (2 * d) else 0
def rdi (n d : Int) : Int := w32 (rndW n d)
def lim (x m : Int) : Int := if x > m then m else if x < -m then -m else x
theorem dvu {x y q : Int} (hy : 0 < y) (h1 : y * q ≤ x) (h2 : x < y * q + y) : x / y = q := by
  have e1 : q ≤ x / y := (Int.le_ediv_iff_mul_le hy).mpr (by rw [Int.mul_comm]; exact h1)
  have e2 : x / y < q + 1 := (Int.ediv_lt_iff_lt_mul hy).mpr (by rw [Int.add_mul, Int.one_mul, Int.mul_comm q y]; exact h2)
  omega
theorem fd_mod {x y : Int} (hy : 0 < y) : (if x.tmod y < 0 then x.tdiv y - 1 else x.tdiv y) = x / y := by
  have h1 := Int.mul_tdiv_add_tmod x y
  obtain ⟨b1, b2⟩ := tmod_bounds (a := x) hy
  split
  · rename_i h
    refine (dvu hy ?_ ?_).symm
    · rw [Int.mul_sub, Int.mul_one]; omega
    · rw [Int.mul_sub, Int.mul_one]; omega
  · rename_i h
    exact (dvu hy (by omega) (by omega)).symm
theorem tmod_sg {x y : Int} (hy : 0 < y) : (0 ≤ x → 0 ≤ x.tmod y) ∧ (x < 0 → x.tmod y ≤ 0) := by
  refine ⟨fun h => Int.tmod_nonneg y h, fun h => ?_⟩
  have h2 := Int.tmod_nonneg y (show 0 ≤ -x by omega)
  rw [Int.neg_tmod] at h2
  omega
theorem fd_sg {x y : Int} (hy : 0 < y) : (if x < 0 ∧ x.tdiv y * y ≠ x then x.tdiv y - 1 else x.tdiv y) = x / y := by
  rw [← fd_mod hy]
  have h1 := Int.mul_tdiv_add_tmod x y
  obtain ⟨s1, s2⟩ := tmod_sg (x := x) hy
  have e : x.tdiv y * y = y * x.tdiv y := Int.mul_comm _ _
  by_cases h : x < 0 ∧ x.tdiv y * y ≠ x
  · have : x.tmod y < 0 := by
      have := s2 h.1
      have h2 := h.2
      omega
    rw [if_pos h, if_pos this]
  · have : ¬ x.tmod y < 0 := by
      intro q
      apply h
      refine ⟨?_, by omega⟩
      rcases Int.lt_or_le x 0 with z | z
      · exact z
      · exact absurd (s1 z) (by omega)
    rw [if_neg h, if_neg this]
theorem fm_sg {x y : Int} (hy : 0 < y) : (if x < 0 ∧ x.tmod y ≠ 0 then x.tmod y + y else x.tmod y) = x % y := by
  have h1 := Int.mul_tdiv_add_tmod x y
  have h2 := fd_sg (x := x) hy
  have h3 := Int.mul_ediv_add_emod x y
  have e : x.tdiv y * y = y * x.tdiv y := Int.mul_comm _ _
  by_cases h : x < 0 ∧ x.tmod y ≠ 0
  · rw [if_pos h]
    rw [if_pos ⟨h.1, by omega⟩] at h2
    rw [← h2, Int.mul_sub, Int.mul_one] at h3
    omega
  · rw [if_neg h]
    rw [if_neg (fun q => h ⟨q.1, by have := q.2; omega⟩)] at h2
    rw [← h2] at h3
    omega
theorem xorI_sg {x y : Int} (hx : R32 x) (hy : R32 y) : xorI x y < 0 ↔ ¬ (x < 0 ↔ y < 0) := by
  have m1 : (Int32.ofInt x).toBitVec.msb = decide (x < 0) := by
    rw [BitVec.msb_eq_toInt, show (Int32.ofInt x).toBitVec.toInt = (Int32.ofInt x).toInt from rfl, zi_ti hx]
  have m2 : (Int32.ofInt y).toBitVec.msb = decide (y < 0) := by
    rw [BitVec.msb_eq_toInt, show (Int32.ofInt y).toBitVec.toInt = (Int32.ofInt y).toInt from rfl, zi_ti hy]
  have m3 : ((Int32.ofInt x).toBitVec ^^^ (Int32.ofInt y).toBitVec).msb = decide (xorI x y < 0) := by
    rw [BitVec.msb_eq_toInt]; rfl
  rw [BitVec.msb_xor, m1, m2] at m3
  by_cases h1 : x < 0 <;> by_cases h2 : y < 0 <;> simp_all <;> omega
theorem xorL_sg {x y : Int} (hx : R64 x) (hy : R64 y) : xorL x y < 0 ↔ ¬ (x < 0 ↔ y < 0) := by
  have m1 : (Int64.ofInt x).toBitVec.msb = decide (x < 0) := by
    rw [BitVec.msb_eq_toInt, show (Int64.ofInt x).toBitVec.toInt = (Int64.ofInt x).toInt from rfl, zl_ti hx]
  have m2 : (Int64.ofInt y).toBitVec.msb = decide (y < 0) := by
    rw [BitVec.msb_eq_toInt, show (Int64.ofInt y).toBitVec.toInt = (Int64.ofInt y).toInt from rfl, zl_ti hy]
  have m3 : ((Int64.ofInt x).toBitVec ^^^ (Int64.ofInt y).toBitVec).msb = decide (xorL x y < 0) := by
    rw [BitVec.msb_eq_toInt]; rfl
  rw [BitVec.msb_xor, m1, m2] at m3
  by_cases h1 : x < 0 <;> by_cases h2 : y < 0 <;> simp_all <;> omega
theorem xorI_r (x y : Int) : R32 (xorI x y) := zi_rng _
theorem xorL_r (x y : Int) : R64 (xorL x y) := zl_rng _
theorem cmpZ_r (x y : Int) : R32 (cmpZ x y) := by
  unfold cmpZ
  split
  · constructor <;> omega
  · split <;> constructor <;> omega
theorem cmpZ_lt {x y : Int} : cmpZ x y < 0 ↔ x < y := by
  unfold cmpZ
  split
  · omega
  · split <;> omega
theorem cmpZ_gt {x y : Int} : 0 < cmpZ x y ↔ y < x := by
  unfold cmpZ
  split
  · omega
  · split <;> omega
theorem cmpZ_eq {x y : Int} : cmpZ x y = 0 ↔ x = y := by
  unfold cmpZ
  split
  · omega
  · split <;> omega
theorem tdiv_bd {x y : Int} (hx : R32 x) (hy : 0 < y) : -2147483648 ≤ x.tdiv y ∧ x.tdiv y < 2147483648 := by
  have h := fd_mod (x := x) hy
  have h1 : -2147483648 ≤ x / y := (Int.le_ediv_iff_mul_le hy).mpr (by have : -2147483648 * y ≤ -2147483648 * 1 := Int.mul_le_mul_of_nonpos_left (by omega) (by omega); omega)
  have h2 : x / y < 2147483648 := (Int.ediv_lt_iff_lt_mul hy).mpr (by have : 2147483648 * 1 ≤ 2147483648 * y := Int.mul_le_mul_of_nonneg_left (by omega) (by omega); omega)
  split at h
  · have h3 := Int.mul_tdiv_add_tmod x y
    rename_i h4
    obtain ⟨s1, s2⟩ := tmod_sg (x := x) hy
    have h5 : x < 0 := by
      rcases Int.lt_or_le x 0 with z | z
      · exact z
      · exact absurd (s1 z) (by omega)
    have h6 : x / y < 0 := (Int.ediv_lt_iff_lt_mul hy).mpr (by omega)
    omega
  · omega
theorem tdiv_bdL {x y : Int} (hx : R64 x) (hy : 0 < y) : R64 (x.tdiv y) := by
  have h := fd_mod (x := x) hy
  have h1 : -9223372036854775808 ≤ x / y := (Int.le_ediv_iff_mul_le hy).mpr (by have : -9223372036854775808 * y ≤ -9223372036854775808 * 1 := Int.mul_le_mul_of_nonpos_left (by omega) (by omega); omega)
  have h2 : x / y < 9223372036854775808 := (Int.ediv_lt_iff_lt_mul hy).mpr (by have : 9223372036854775808 * 1 ≤ 9223372036854775808 * y := Int.mul_le_mul_of_nonneg_left (by omega) (by omega); omega)
  split at h
  · have h3 := Int.mul_tdiv_add_tmod x y
    rename_i h4
    obtain ⟨s1, s2⟩ := tmod_sg (x := x) hy
    have h5 : x < 0 := by
      rcases Int.lt_or_le x 0 with z | z
      · exact z
      · exact absurd (s1 z) (by omega)
    have h6 : x / y < 0 := (Int.ediv_lt_iff_lt_mul hy).mpr (by omega)
    constructor <;> omega
  · constructor <;> omega
/-- x = y * q + r bounds its product with the divisor -/
theorem tdiv_mul_bd {x y : Int} (hx : R64 x) (hy : 0 < y) : R64 (x.tdiv y * y) := by
  have h1 := Int.mul_tdiv_add_tmod x y
  have e : x.tdiv y * y = y * x.tdiv y := Int.mul_comm _ _
  obtain ⟨s1, s2⟩ := tmod_sg (x := x) hy
  rcases Int.lt_or_le x 0 with z | z
  · have := s2 z
    have h2 : y * x.tdiv y ≤ 0 := by
      obtain ⟨b1, b2⟩ := tmod_bounds (a := x) hy
      have h3 : x.tdiv y ≤ 0 := by
        rcases Int.lt_or_le 0 (x.tdiv y) with q | q
        · have : y * 1 ≤ y * x.tdiv y := Int.mul_le_mul_of_nonneg_left (by omega) (by omega)
          omega
        · exact q
      exact Int.mul_nonpos_of_nonneg_of_nonpos (by omega) h3
    rw [e]; constructor <;> omega
  · have := s1 z
    have h2 : 0 ≤ y * x.tdiv y := by
      obtain ⟨b1, b2⟩ := tmod_bounds (a := x) hy
      have h3 : 0 ≤ x.tdiv y := by
        rcases Int.lt_or_le (x.tdiv y) 0 with q | q
        · have : y * x.tdiv y ≤ y * (-1) := Int.mul_le_mul_of_nonneg_left (by omega) (by omega)
          omega
        · exact q
      exact Int.mul_nonneg (by omega) h3
    rw [e]; constructor <;> omega
theorem rep_L {x y : Int} (h : Int64.ofInt x = Int64.ofInt y) {k : MT} {R : Room} {cu su pc : Nat} {L : List (Option AV)} {st : List AV} {u : GW} {Q : Option AV → GW → Prop} (kk : V k R cu su pc L (vL y :: st) u Q) : V k R cu su pc L (vL x :: st) u Q := by
  intro g a p l e s m args below meth c Z C H locs ls d0 hd0 hl hH
  have K := kk g a p l e s m args below meth c Z C H locs ls d0 hd0 hl hH
  have e : dn a (vL x) = dn a (vL y) := congrArg Value.long h
  rw [List.map_cons, e]
  exact K
theorem rep_I {x y : Int} (h : Int32.ofInt x = Int32.ofInt y) {k : MT} {R : Room} {cu su pc : Nat} {L : List (Option AV)} {st : List AV} {u : GW} {Q : Option AV → GW → Prop} (kk : V k R cu su pc L (vI y :: st) u Q) : V k R cu su pc L (vI x :: st) u Q := by
  intro g a p l e s m args below meth c Z C H locs ls d0 hd0 hl hH
  have K := kk g a p l e s m args below meth c Z C H locs ls d0 hd0 hl hH
  have e : dn a (vI x) = dn a (vI y) := congrArg Value.int h
  rw [List.map_cons, e]
  exact K
theorem ind_lt {P : Nat → Prop} (h : ∀ n, (∀ m, m < n → P m) → P n) : ∀ n, P n := fun n => Nat.strongRecOn n h
/-- a contract's entry for a method of a class of which some methods are run by entries: this one isn't -/
theorem MetD_ofWF {cs : List Choice} {l : Launch} {y : MethodName} {ws ws' : List Cond} {rm : Room} {Pc : Array Value → State → Prop} {Qc : Array Value → State → Outcome → State → Prop} {mc ms : Nat} {free : Addr → Prop} {cc : ByteArray} {maxL : Nat} {ret : Option FieldType}
    (hy : plainFor y = true) (hw : ws = Cond.code y cc maxL ret :: ws')
    (body : ∀ p e s m args below meth c s₁, BodyLoose p l y (headSpec ws rm) cc maxL ret e s m args below meth c s₁ → c.maxLocals = maxL → Pc args s → s.drawn.sameBut s.drawn cs →
      W p l e (headSpec ws rm).room (s.setDrawn s.drawn) m args below meth c s.heap [] 0 0 (MQD cs below Qc args s mc ms free) (entryFrame m args maxL)) : MetD cs l y ws rm Pc Qc mc ms free := by
  refine MetFree.of_bodySF (code := cc) (maxLocals := maxL) (ret := ret) hy ?_ ?_
  · intro args s m h hn
    obtain ⟨meth, c, h1, h2, h3, h4, h5, h6, -, -⟩ := Cond.code_spec hn (atoms_spec (ws := ws) h _ (by rw [hw]; exact List.mem_cons_self))
    exact ⟨meth, c, h1, h2, h3, h4, h5, h6⟩
  · intro p e s m args below meth c s₁ B hml hP _
    have hh0 : s₁.heap = s.heap := by rw [B.state]; rfl
    have X0 : Stand p l e (headSpec ws rm).room (s.setDrawn s.drawn) m args below meth c s₁ [] 0 0 := Stand.of_body B
    obtain ⟨t, a1, d, hd, o, b1, b2, b3, b4⟩ := body p e s m args below meth c s₁ B hml hP (Drawn.sameBut.refl _ _) s₁ hh0 X0
    exact ⟨t, o, a1, b1, b2, d, hd, b3, b4⟩
/-- the entry: from the walk to the contract -/
theorem M_of_VF {k : MT} {R : Room} {av : List AV} {u : GW} {Q : Option AV → GW → Prop} (hpn : plainFor k.1 = true) (hn : (lent av).length ≤ k.2.2.1)
    (h : V k R 0 0 0 (lent av ++ List.replicate (k.2.2.1 - (lent av).length) none) [] u Q) : M k R av u Q := by
  intro l g a
  refine MetD_ofWF (cc := k.2.1) (maxL := k.2.2.1) (ret := k.2.2.2) hpn rfl ?_
  intro p e s m args below meth c s₁ B hml hv hd0
  obtain ⟨rfl, hHR, hKX⟩ := hv
  have hts := atoms_spec (ws := wsM k) B.pre
  have hnm : k.1.name = "<init>" → meth.name = "<init>" := fun h1 => (name_of_methodNamed B.named B.method).1.trans h1
  have hr := B.returns
  have hlocks := B.notSynchronized
  rw [lg_entry_eq]
  refine h g a p l e s m _ below meth c _ ⟨B.exec, B.bytes, hml, findClass_of_methodNamed B.named, fun w hw => hts w (List.mem_cons_of_mem _ hw), hKX, hnm, by have := hHR.1; omega, ?_⟩ s.heap [] _ s.drawn hd0 (lm.enter av _ hn) ⟨va_S.rf, hHR⟩
  intro pc r u1 H locs ls d0 cu su hcu hsu hRA hQ hd hH
  refine W.widen hcu hsu (W.endD hd ?_)
  have hq : ∀ t : State, t.heap = H → (s.setDrawn d0).WarmedH t.vm → QM g a Q (av.map (dn a)).toArray (s.setDrawn d0) (.returned (r.map (dn a))) t := by
    intro t ht hW
    exact ⟨⟨r, u1, rfl, hQ, by rw [ht]; exact hH.2.vm hW.alike⟩, hH.1.F (s := s) ht⟩
  rcases r with _ | x | x | r | x | x
  · exact W.vret B.exec B.bytes (by rw [hr]; exact hRA.2) hq hH.1.2.2 hRA.1 hlocks
  · obtain ⟨h1, ty, h2, h3⟩ := hRA
    exact W.zret B.exec B.bytes (by rw [hr]; exact h2) h3 hq hH.1.2.2 h1 hlocks
  · exact W.lret B.exec B.bytes (by rw [hr]; exact hRA.2) hq hH.1.2.2 hRA.1 hlocks
  · obtain ⟨h1, n, h2⟩ := hRA
    exact W.aret B.exec B.bytes (by rw [hr]; exact h2) (Or.inl ⟨n, rfl⟩) (by cases r <;> simp [dn, va_rf]) hq hH.1.2.2 h1 hlocks
  · exact W.fret B.exec B.bytes (by rw [hr]; exact hRA.2) hq hH.1.2.2 hRA.1 hlocks
  · exact W.dret B.exec B.bytes (by rw [hr]; exact hRA.2) hq hH.1.2.2 hRA.1 hlocks
theorem f_mofvF {k : MT} {d : Nat} {w : Wd} {Q : Option AV → Wd → Prop} {av : List AV} {L0 : List (Option AV)} (hpn : plainFor k.1 = true) (hn : (lent av).length ≤ k.2.2.1) (hL : lent av ++ List.replicate (k.2.2.1 - (lent av).length) none = L0) (h : V k (Rm d) 0 0 0 L0 [] (fl w) (lQ Q)) : M k (Rm d) av (fl w) (lQ Q) := M_of_VF hpn hn (by rw [hL]; exact h)
