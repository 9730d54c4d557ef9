def BD (bd : Int32) : Prop := bd = nI 0 ∨ ∃ n, 0 < n ∧ n < 100 ∧ bd = nI n
theorem bdd {n : Nat} (h : n < 100 := by decide) : BD (nI n) := by
  by_cases h0 : n = 0
  · subst h0; exact Or.inl rfl
  · exact Or.inr ⟨n, by omega, h, rfl⟩
def QA (ci : Nat → Nat → Nat → Int32) (cn : Nat → Nat → Nat → Nat) (co : Nat → Option Nat) (go : Int32) (r : Option mm_V) (μ1 μ2 : mm_M) : Prop := ∃ xj xd xf xo xi xn bd, r = some (vi bd) ∧ BD bd ∧ μ2.2.1 6 43 = bd ∧ μ2.2.1 6 44 = go ∧ RC ci cn co xj xd xf xo xi xn μ1.2.1 μ1.2.2.1 μ1.2.2.2.1 μ1.2.2.2.2.1 μ1.2.2.2.2.2.1 μ1.2.2.2.2.2.2.1 μ1.2.2.2.2.2.2.2 ∧ RM ci cn co xj xd xf xo xi xn μ2.2.1 μ2.2.2.1 μ2.2.2.2.2.1
theorem tR_s (i : Nat) : tR (some i) = some (94 + 4 * i) := rfl
theorem tR_n : tR none = none := rfl
theorem eI_s (i : Nat) : eI (some i) = nI i := rfl
theorem eI_n : eI none = -(nI 1) := rfl
theorem e_nm {i : Nat} (h : i < 10000) : (nI i = -(nI 1)) ↔ False := by
  refine iff_false_intro (fun e => ?_)
  have h1 := congrArg Int32.toInt e
  rw [nI_toInt (by omega), show (-(nI 1)).toInt = -1 from by decide] at h1
  omega
theorem e_mm : ((-(nI 1) : Int32) = -(nI 1)) ↔ True := iff_true_intro rfl
theorem l_lt {x y : Int64} : x < y ↔ x.toInt < y.toInt := Int64.lt_iff_toInt_lt
theorem l_le {x y : Int64} : x ≤ y ↔ x.toInt ≤ y.toInt := Int64.le_iff_toInt_le
theorem l_eq {x y : Int64} : x = y ↔ x.toInt = y.toInt := Int64.toInt_inj.symm
theorem j_lt {x y : Int32} : x < y ↔ x.toInt < y.toInt := Int32.lt_iff_toInt_lt
theorem j_le {x y : Int32} : x ≤ y ↔ x.toInt ≤ y.toInt := Int32.le_iff_toInt_le
theorem j_eq {x y : Int32} : x = y ↔ x.toInt = y.toInt := Int32.toInt_inj.symm
theorem l_z : Int64.toInt 0 = 0 := rfl
theorem j_z : Int32.toInt 0 = 0 := rfl
theorem lN_t {n : Nat} (h : n < 10000) : (lN n).toInt = (n : Int) := lN_toInt (by omega)
theorem nI_tl {n : Nat} (h : n < 10000) : ((nI n).toInt64).toInt = (n : Int) := by rw [Int32.toInt_toInt64, nI_toInt (by omega)]
theorem n_s1 {n : Nat} (h : n < 10000) : (nI n - nI 1).toInt64.toInt = (n : Int) - 1 := by
  rw [Int32.toInt_toInt64]
  rcases Nat.eq_zero_or_pos n with rfl | hp
  · decide
  · rw [pk_sub hp, nI_toInt (by omega)]; omega
theorem eLi (o : Option Nat) : (eL o).toInt32 = eI o := by unfold eL; exact Int32.toInt32_toInt64 _
theorem eL_s (i : Nat) : eL (some i) = (nI i).toInt64 := rfl
theorem eL_n : eL none = (-(nI 1)).toInt64 := rfl
theorem mkz (x : Nat) : 3 * x + 0 = 3 * x := rfl
theorem ixc (v : Int64) (n : Nat) : (∃ j, j < n ∧ v = lN j) ∨ ¬ (0 ≤ v.toInt ∧ v.toInt < (n : Int)) := by
  by_cases h : 0 ≤ v.toInt ∧ v.toInt < (n : Int)
  · refine Or.inl ⟨v.toInt.toNat, by omega, ?_⟩
    apply Int64.toInt_inj.mp
    have h2 := v.toInt_lt
    rw [show (lN v.toInt.toNat).toInt = ((v.toInt.toNat : Nat) : Int) from lg_ofNat_toInt (by omega)]
    omega
  · exact Or.inr h
theorem l_sl (y : Int64) : (y &&& lN 63).toInt32.toInt64 &&& 63 = y.toInt32.toInt64 &&& 63 := by
  apply Int64.toBitVec_inj.mp
  rw [Int64.toBitVec_and, Int64.toBitVec_and, Int32.toBitVec_toInt64, Int32.toBitVec_toInt64, Int64.toBitVec_toInt32, Int64.toBitVec_toInt32, Int64.toBitVec_and]
  apply BitVec.eq_of_getLsbD_eq
  intro i hi
  rw [BitVec.getLsbD_and, BitVec.getLsbD_and]
  by_cases h6 : i < 6
  · have h1 : (lN 63).toBitVec.getLsbD i = true := (by decide : ∀ i, i < 6 → (lN 63).toBitVec.getLsbD i = true) i h6
    have h2 : i < 32 := by omega
    simp only [BitVec.getLsbD_signExtend, BitVec.getLsbD_and, hi, h2, h1, if_true, decide_true, Bool.true_and, Bool.and_true]
  · rw [(by decide : ∀ i, i < 64 → 6 ≤ i → (63 : Int64).toBitVec.getLsbD i = false) i hi (by omega), Bool.and_false, Bool.and_false]
theorem l_su (y : Int64) : (y &&& lN 63).toInt32.toInt64.toUInt64 &&& Int64.toUInt64 63 = y.toInt32.toInt64.toUInt64 &&& Int64.toUInt64 63 := congrArg Int64.toUInt64 (l_sl y)
theorem i_su (y : Int32) : (y &&& nI 31).toUInt32 &&& Int32.toUInt32 31 = y.toUInt32 &&& Int32.toUInt32 31 := congrArg Int32.toUInt32 (i_sl y)
theorem n_ti {n : Nat} (h : n < 10000) : (nI n).toInt = (n : Int) := nI_toInt (by omega)
theorem i_tl2 (x : Int32) : x.toInt64.toInt32 = x := Int32.toInt32_toInt64 x
theorem e_mn {i : Nat} (h : i < 10000) : (-(nI 1) = nI i) ↔ False := iff_false_intro (fun e => (e_nm h).mp e.symm)
/-! floats beside doubles -/
theorem d2f_i {x : UInt64} : vf_n32 (FP.d2f x) ↔ vf_n64 x := by
  constructor
  · intro h
    have := n32n h
    rw [show FP.Core.fIsNaN (FP.d2f x) = FP.Core.dIsNaN x from FP.d2f_nan x] at this
    exact n64o this
  · intro h
    refine n32o ?_
    rw [show FP.Core.fIsNaN (FP.d2f x) = FP.Core.dIsNaN x from FP.d2f_nan x]
    exact n64n h
theorem f2d_i {x : UInt32} : vf_n64 (FP.f2d x) ↔ vf_n32 x := by
  constructor
  · intro h
    have := n64n h
    rw [show FP.Core.dIsNaN (FP.f2d x) = FP.Core.fIsNaN x from FP.f2d_nan x] at this
    exact n32o this
  · intro h
    refine n64o ?_
    rw [show FP.Core.dIsNaN (FP.f2d x) = FP.Core.fIsNaN x from FP.f2d_nan x]
    exact n32n h
theorem d2f_n {x : UInt64} (h : vf_n64 x) : vf_n32 (FP.d2f x) := d2f_i.mpr h
theorem f2d_n {x : UInt32} (h : vf_n32 x) : vf_n64 (FP.f2d x) := f2d_i.mpr h
theorem dff {x : UInt32} (h : vf_n32 x) : FP.d2f (FP.f2d x) = x := by
  have h1 := n32n h
  have h2 : FP.Core.dIsNaN (FP.Core.f2d x) = false := by rw [FP.Core.f2d_nan]; exact h1
  rw [FP.f2d_core h1, FP.d2f_core h2]
  exact FP.Core.d2f_f2d (n32v h)
theorem i_lk2 : (lN 2 : Int64) = (nI 2).toInt64 := by decide
theorem i_lk3 : (lN 3 : Int64) = (nI 3).toInt64 := by decide
theorem l2f_n (n : Int64) : vf_n32 (FP.l2f n) := n32o (FP.Core.l2f_notNaN n)
theorem i2f_n (n : Int32) : vf_n32 (FP.i2f n) := n32o ((FP.Core.i2f_fin n).notNaN)
theorem dinf {x : UInt64} (h : vf_n64 x) : x.toNat % 2 ^ 63 = 9218868437227405312 ↔ ∃ s, FP.Core.val64 x = .inf s := by
  have h1 := (n64i x).mp h
  have h2 := FP.Core.fin_bits x
  constructor
  · intro e
    cases hv : FP.Core.val64 x with
    | nan => exact absurd hv (n64v h)
    | inf s => exact ⟨s, rfl⟩
    | fin s c q => have := h2.mp ⟨s, c, q, hv⟩; omega
  · rintro ⟨s, hs⟩
    apply Nat.le_antisymm h1
    apply Nat.le_of_not_lt
    intro hl
    exact (h2.mpr hl).ne_inf s hs
theorem dsgn {x : UInt64} {s : Bool} (h : FP.Core.val64 x = .inf s) : s = true ↔ 2 ^ 63 ≤ x.toNat := FP.Core.sign_bits (Or.inr h)
theorem add_n {x y : UInt64} (hx : vf_n64 x) (hy : vf_n64 y) (h : ¬ (x.toNat % 2 ^ 63 = 9218868437227405312 ∧ y.toNat % 2 ^ 63 = 9218868437227405312 ∧ ¬ (2 ^ 63 ≤ x.toNat ↔ 2 ^ 63 ≤ y.toNat))) : vf_n64 (FP.dadd x y) := by
  refine n64o (FP.Core.not_true (FP.Core.dadd_nan_iff x y) ?_)
  rintro (g | g | ⟨s, g1, g2⟩)
  · exact n64v hx g
  · exact n64v hy g
  · have e1 := (dinf hx).mpr ⟨s, g1⟩
    have e2 := (dinf hy).mpr ⟨_, g2⟩
    have e3 := dsgn g1
    have e4 := dsgn g2
    refine h ⟨e1, e2, ?_⟩
    rw [← e3, ← e4]
    cases s <;> decide
theorem sub_n {x y : UInt64} (hx : vf_n64 x) (hy : vf_n64 y) (h : ¬ (x.toNat % 2 ^ 63 = 9218868437227405312 ∧ y.toNat % 2 ^ 63 = 9218868437227405312 ∧ (2 ^ 63 ≤ x.toNat ↔ 2 ^ 63 ≤ y.toNat))) : vf_n64 (FP.dsub x y) := by
  refine n64o (FP.Core.not_true (FP.Core.dsub_nan_iff x y) ?_)
  rintro (g | g | ⟨s, g1, g2⟩)
  · exact n64v hx g
  · exact n64v hy g
  · have e1 := (dinf hx).mpr ⟨s, g1⟩
    have e2 := (dinf hy).mpr ⟨_, g2⟩
    have e3 := dsgn g1
    have e4 := dsgn g2
    refine h ⟨e1, e2, ?_⟩
    rw [← e3, ← e4]
theorem dzer (x : UInt64) : FP.Core.DZero x ↔ x.toNat % 2 ^ 63 = 0 := FP.Core.zero_bits2 x
theorem mul_n {x y : UInt64} (hx : vf_n64 x) (hy : vf_n64 y) (h : ¬ ((x.toNat % 2 ^ 63 = 0 ∧ y.toNat % 2 ^ 63 = 9218868437227405312) ∨ (x.toNat % 2 ^ 63 = 9218868437227405312 ∧ y.toNat % 2 ^ 63 = 0))) : vf_n64 (FP.dmul x y) := by
  refine n64o (FP.Core.not_true (FP.Core.dmul_nan_iff x y) ?_)
  rintro (g | g | ⟨s, g1, g2⟩ | ⟨s, g1, g2⟩)
  · exact n64v hx g
  · exact n64v hy g
  · exact h (Or.inr ⟨(dinf hx).mpr ⟨s, g1⟩, (dzer y).mp g2⟩)
  · exact h (Or.inl ⟨(dzer x).mp g1, (dinf hy).mpr ⟨s, g2⟩⟩)
theorem div_n {x y : UInt64} (hx : vf_n64 x) (hy : vf_n64 y) (h : ¬ ((x.toNat % 2 ^ 63 = 0 ∧ y.toNat % 2 ^ 63 = 0) ∨ (x.toNat % 2 ^ 63 = 9218868437227405312 ∧ y.toNat % 2 ^ 63 = 9218868437227405312))) : vf_n64 (FP.ddiv x y) := by
  refine n64o (FP.Core.not_true (FP.Core.ddiv_nan_iff x y) ?_)
  rintro (g | g | ⟨s, t, g1, g2⟩ | ⟨g1, g2⟩)
  · exact n64v hx g
  · exact n64v hy g
  · exact h (Or.inr ⟨(dinf hx).mpr ⟨s, g1⟩, (dinf hy).mpr ⟨t, g2⟩⟩)
  · exact h (Or.inl ⟨(dzer x).mp g1, (dzer y).mp g2⟩)
theorem rem_n {x y : UInt64} (hx : vf_n64 x) (hy : vf_n64 y) (h : ¬ (y.toNat % 2 ^ 63 = 0 ∨ x.toNat % 2 ^ 63 = 9218868437227405312)) : vf_n64 (FP.drem x y) := by
  refine n64o (FP.Core.not_true (FP.Core.drem_nan_iff x y) ?_)
  rintro (g | g | ⟨s, g1⟩ | g1)
  · exact n64v hx g
  · exact n64v hy g
  · exact h (Or.inr ((dinf hx).mpr ⟨s, g1⟩))
  · exact h (Or.inl ((dzer y).mp g1))
theorem mks0 (x : Nat) : 3 * x + 6 - 6 = 3 * x := by omega
theorem mks1 (x : Nat) : 3 * x + 7 - 6 = 3 * x + 1 := by omega
theorem mks2 (x : Nat) : 3 * x + 8 - 6 = 3 * x + 2 := by omega
theorem rm_mk0 {ci : Nat → Nat → Nat → Int32} {cn : Nat → Nat → Nat → Nat} {co : Nat → Option Nat} {xj : Nat → Nat → Nat → Int64} {xd : Nat → Nat → Nat → UInt64} {xf : Nat → Nat → Nat → UInt32} {xo : Nat → Nat → Nat → Option Nat} {xi : Nat → Nat → Nat → Int32} {xn : Nat → Nat → Nat → Nat} {I : Nat → Nat → Int32} {J : Nat → Nat → Int64} {D : Nat → Nat → UInt64} (h : RM ci cn co xj xd xf xo xi xn I J D) {i : Nat} (hi : i < xn 2 0 0) : I 17 (3 * i) = xi 2 i 0 := rm_mk h hi (k := 0) (by decide)
theorem rm_mk1 {ci : Nat → Nat → Nat → Int32} {cn : Nat → Nat → Nat → Nat} {co : Nat → Option Nat} {xj : Nat → Nat → Nat → Int64} {xd : Nat → Nat → Nat → UInt64} {xf : Nat → Nat → Nat → UInt32} {xo : Nat → Nat → Nat → Option Nat} {xi : Nat → Nat → Nat → Int32} {xn : Nat → Nat → Nat → Nat} {I : Nat → Nat → Int32} {J : Nat → Nat → Int64} {D : Nat → Nat → UInt64} (h : RM ci cn co xj xd xf xo xi xn I J D) {i : Nat} (hi : i < xn 2 0 0) : I 17 (3 * i + 1) = xi 2 i 1 := rm_mk h hi (k := 1) (by decide)
theorem rm_mk2 {ci : Nat → Nat → Nat → Int32} {cn : Nat → Nat → Nat → Nat} {co : Nat → Option Nat} {xj : Nat → Nat → Nat → Int64} {xd : Nat → Nat → Nat → UInt64} {xf : Nat → Nat → Nat → UInt32} {xo : Nat → Nat → Nat → Option Nat} {xi : Nat → Nat → Nat → Int32} {xn : Nat → Nat → Nat → Nat} {I : Nat → Nat → Int32} {J : Nat → Nat → Int64} {D : Nat → Nat → UInt64} (h : RM ci cn co xj xd xf xo xi xn I J D) {i : Nat} (hi : i < xn 2 0 0) : I 17 (3 * i + 2) = xi 2 i 2 := rm_mk h hi (k := 2) (by decide)
theorem dneg_i {x : UInt64} : vf_n64 (FP.dneg x) ↔ vf_n64 x := ⟨fun h => by have := dneg_n h; rwa [dneg_dneg] at this, dneg_n⟩
theorem fA_i {x : UInt64} : vf_n64 (fA x) ↔ vf_n64 x := by
  rw [n64i, n64i, fA_nat, Nat.mod_mod]
theorem fM_e {x y : UInt64} : fM x = fM y ↔ (2 ^ 63 ≤ x.toNat ↔ 2 ^ 63 ≤ y.toNat) := decide_eq_decide
theorem f2dv {x : UInt32} (h : vf_n32 x) : FP.Core.val64 (FP.f2d x) = FP.Core.round FP.Core.b64 (FP.Core.val32 x) := by
  rw [FP.f2d_core (n32n h)]
  exact FP.Core.val64_f2d x
theorem f2inf {x : UInt32} (h : vf_n32 x) {s : Bool} (g : FP.Core.val32 x = .inf s) : FP.Core.val64 (FP.f2d x) = .inf s := by
  rw [f2dv h, g]; rfl
theorem f2zer {x : UInt32} (h : vf_n32 x) (g : FP.Core.FZero x) : (FP.f2d x).toNat % 2 ^ 63 = 0 := by
  obtain ⟨s, q, g⟩ := g
  refine (dzer _).mp ⟨s, FP.Core.b64.qmin, ?_⟩
  rw [f2dv h, g]
  show FP.Core.roundRatio FP.Core.b64 s 0 1 q = _
  unfold FP.Core.roundRatio
  rw [if_pos rfl]
theorem fadd_n {x y : UInt32} (hx : vf_n32 x) (hy : vf_n32 y) (h : ¬ ((FP.f2d x).toNat % 2 ^ 63 = 9218868437227405312 ∧ (FP.f2d y).toNat % 2 ^ 63 = 9218868437227405312 ∧ ¬ (2 ^ 63 ≤ (FP.f2d x).toNat ↔ 2 ^ 63 ≤ (FP.f2d y).toNat))) : vf_n32 (FP.fadd x y) := by
  refine n32o (FP.Core.not_true32 (FP.Core.fadd_nan_iff x y) ?_)
  rintro (g | g | ⟨s, g1, g2⟩)
  · exact n32v hx g
  · exact n32v hy g
  · have f1 := f2inf hx g1
    have f2 := f2inf hy g2
    have e1 := (dinf (f2d_n hx)).mpr ⟨s, f1⟩
    have e2 := (dinf (f2d_n hy)).mpr ⟨_, f2⟩
    refine h ⟨e1, e2, ?_⟩
    rw [← dsgn f1, ← dsgn f2]
    cases s <;> decide
theorem fsub_n {x y : UInt32} (hx : vf_n32 x) (hy : vf_n32 y) (h : ¬ ((FP.f2d x).toNat % 2 ^ 63 = 9218868437227405312 ∧ (FP.f2d y).toNat % 2 ^ 63 = 9218868437227405312 ∧ (2 ^ 63 ≤ (FP.f2d x).toNat ↔ 2 ^ 63 ≤ (FP.f2d y).toNat))) : vf_n32 (FP.fsub x y) := by
  refine n32o (FP.Core.not_true32 (FP.Core.fsub_nan_iff x y) ?_)
  rintro (g | g | ⟨s, g1, g2⟩)
  · exact n32v hx g
  · exact n32v hy g
  · have f1 := f2inf hx g1
    have f2 := f2inf hy g2
    have e1 := (dinf (f2d_n hx)).mpr ⟨s, f1⟩
    have e2 := (dinf (f2d_n hy)).mpr ⟨_, f2⟩
    refine h ⟨e1, e2, ?_⟩
    rw [← dsgn f1, ← dsgn f2]
theorem fmul_n {x y : UInt32} (hx : vf_n32 x) (hy : vf_n32 y) (h : ¬ (((FP.f2d x).toNat % 2 ^ 63 = 0 ∧ (FP.f2d y).toNat % 2 ^ 63 = 9218868437227405312) ∨ ((FP.f2d x).toNat % 2 ^ 63 = 9218868437227405312 ∧ (FP.f2d y).toNat % 2 ^ 63 = 0))) : vf_n32 (FP.fmul x y) := by
  refine n32o (FP.Core.not_true32 (FP.Core.fmul_nan_iff x y) ?_)
  rintro (g | g | ⟨s, g1, g2⟩ | ⟨s, g1, g2⟩)
  · exact n32v hx g
  · exact n32v hy g
  · exact h (Or.inr ⟨(dinf (f2d_n hx)).mpr ⟨s, f2inf hx g1⟩, f2zer hy g2⟩)
  · exact h (Or.inl ⟨f2zer hx g1, (dinf (f2d_n hy)).mpr ⟨s, f2inf hy g2⟩⟩)
theorem fdiv_n {x y : UInt32} (hx : vf_n32 x) (hy : vf_n32 y) (h : ¬ (((FP.f2d x).toNat % 2 ^ 63 = 0 ∧ (FP.f2d y).toNat % 2 ^ 63 = 0) ∨ ((FP.f2d x).toNat % 2 ^ 63 = 9218868437227405312 ∧ (FP.f2d y).toNat % 2 ^ 63 = 9218868437227405312))) : vf_n32 (FP.fdiv x y) := by
  refine n32o (FP.Core.not_true32 (FP.Core.fdiv_nan_iff x y) ?_)
  rintro (g | g | ⟨s, t, g1, g2⟩ | ⟨g1, g2⟩)
  · exact n32v hx g
  · exact n32v hy g
  · exact h (Or.inr ⟨(dinf (f2d_n hx)).mpr ⟨s, f2inf hx g1⟩, (dinf (f2d_n hy)).mpr ⟨t, f2inf hy g2⟩⟩)
  · exact h (Or.inl ⟨f2zer hx g1, f2zer hy g2⟩)
theorem frem_n {x y : UInt32} (hx : vf_n32 x) (hy : vf_n32 y) (h : ¬ ((FP.f2d y).toNat % 2 ^ 63 = 0 ∨ (FP.f2d x).toNat % 2 ^ 63 = 9218868437227405312)) : vf_n32 (FP.frem x y) := by
  refine n32o (FP.Core.not_true32 (FP.Core.frem_nan_iff x y) ?_)
  rintro (g | g | ⟨s, g1⟩ | g1)
  · exact n32v hx g
  · exact n32v hy g
  · exact h (Or.inr ((dinf (f2d_n hx)).mpr ⟨s, f2inf hx g1⟩))
  · exact h (Or.inl (f2zer hy g1))
