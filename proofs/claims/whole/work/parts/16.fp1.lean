/-! doubles and floats by their bits -/
theorem n64i (x : UInt64) : vf_n64 x ↔ x.toNat % 2 ^ 63 ≤ 9218868437227405312 := by
  unfold vf_n64
  rw [UInt64.le_iff_toNat_le, FP.Core.mask_toNat]
  exact Iff.rfl
theorem n32i (x : UInt32) : vf_n32 x ↔ x.toNat % 2 ^ 31 ≤ 2139095040 := by
  unfold vf_n32
  rw [UInt32.le_iff_toNat_le, FP.Core.mask_toNat32]
  exact Iff.rfl
theorem n64v {x : UInt64} (h : vf_n64 x) : FP.Core.val64 x ≠ .nan := (FP.Core.ne_nan x).mpr ((n64i x).mp h)
theorem n64w {x : UInt64} (h : FP.Core.val64 x ≠ .nan) : vf_n64 x := (n64i x).mpr ((FP.Core.ne_nan x).mp h)
theorem n32v {x : UInt32} (h : vf_n32 x) : FP.Core.val32 x ≠ .nan := (FP.Core.ne_nan32 x).mpr ((n32i x).mp h)
theorem n32w {x : UInt32} (h : FP.Core.val32 x ≠ .nan) : vf_n32 x := (n32i x).mpr ((FP.Core.ne_nan32 x).mp h)
theorem n64o {x : UInt64} (h : FP.Core.dIsNaN x = false) : vf_n64 x := n64w ((FP.Core.notNaN_iff x).mp h)
theorem n64n {x : UInt64} (h : vf_n64 x) : FP.Core.dIsNaN x = false := (FP.Core.notNaN_iff x).mpr (n64v h)
theorem n32o {x : UInt32} (h : FP.Core.fIsNaN x = false) : vf_n32 x := n32w ((FP.Core.notNaN_iff32 x).mp h)
theorem n32n {x : UInt32} (h : vf_n32 x) : FP.Core.fIsNaN x = false := (FP.Core.notNaN_iff32 x).mpr (n32v h)
theorem dc_c {x y : UInt64} (hx : vf_n64 x) (hy : vf_n64 y) (op : CmpOp) : Op.cmpValue (FP.dcmp x y) op = if FP.Core.dkey x < FP.Core.dkey y then -1 else if FP.Core.dkey x = FP.Core.dkey y then 0 else 1 := by
  rw [show FP.dcmp x y = some (compare (FP.Core.dkey x) (FP.Core.dkey y)) from FP.Core.dcmp_key (n64v hx) (n64v hy), FP.Core.compare_ite]
  by_cases h1 : FP.Core.dkey x < FP.Core.dkey y
  · rw [if_pos h1, if_pos h1]; rfl
  · rw [if_neg h1, if_neg h1]
    by_cases h2 : FP.Core.dkey x = FP.Core.dkey y
    · rw [if_pos h2, if_pos h2]; rfl
    · rw [if_neg h2, if_neg h2]; rfl
theorem dc_lt {x y : UInt64} (hx : vf_n64 x) (hy : vf_n64 y) (op : CmpOp) : Op.cmpValue (FP.dcmp x y) op < 0 ↔ FP.Core.dkey x < FP.Core.dkey y := by
  rw [dc_c hx hy]
  by_cases h1 : FP.Core.dkey x < FP.Core.dkey y
  · rw [if_pos h1]; exact iff_of_true (by decide) h1
  · rw [if_neg h1]
    by_cases h2 : FP.Core.dkey x = FP.Core.dkey y
    · rw [if_pos h2]; exact iff_of_false (by decide) h1
    · rw [if_neg h2]; exact iff_of_false (by decide) h1
theorem dc_le {x y : UInt64} (hx : vf_n64 x) (hy : vf_n64 y) (op : CmpOp) : Op.cmpValue (FP.dcmp x y) op ≤ 0 ↔ FP.Core.dkey x ≤ FP.Core.dkey y := by
  rw [dc_c hx hy]
  by_cases h1 : FP.Core.dkey x < FP.Core.dkey y
  · rw [if_pos h1]; exact iff_of_true (by decide) (by omega)
  · rw [if_neg h1]
    by_cases h2 : FP.Core.dkey x = FP.Core.dkey y
    · rw [if_pos h2]; exact iff_of_true (by decide) (by omega)
    · rw [if_neg h2]; exact iff_of_false (by decide) (by omega)
theorem dc_gt {x y : UInt64} (hx : vf_n64 x) (hy : vf_n64 y) (op : CmpOp) : 0 < Op.cmpValue (FP.dcmp x y) op ↔ FP.Core.dkey y < FP.Core.dkey x := by
  rw [dc_c hx hy]
  by_cases h1 : FP.Core.dkey x < FP.Core.dkey y
  · rw [if_pos h1]; exact iff_of_false (by decide) (by omega)
  · rw [if_neg h1]
    by_cases h2 : FP.Core.dkey x = FP.Core.dkey y
    · rw [if_pos h2]; exact iff_of_false (by decide) (by omega)
    · rw [if_neg h2]; exact iff_of_true (by decide) (by omega)
theorem dc_ge {x y : UInt64} (hx : vf_n64 x) (hy : vf_n64 y) (op : CmpOp) : 0 ≤ Op.cmpValue (FP.dcmp x y) op ↔ FP.Core.dkey y ≤ FP.Core.dkey x := by
  rw [dc_c hx hy]
  by_cases h1 : FP.Core.dkey x < FP.Core.dkey y
  · rw [if_pos h1]; exact iff_of_false (by decide) (by omega)
  · rw [if_neg h1]
    by_cases h2 : FP.Core.dkey x = FP.Core.dkey y
    · rw [if_pos h2]; exact iff_of_true (by decide) (by omega)
    · rw [if_neg h2]; exact iff_of_true (by decide) (by omega)
theorem dc_eq {x y : UInt64} (hx : vf_n64 x) (hy : vf_n64 y) (op : CmpOp) : Op.cmpValue (FP.dcmp x y) op = 0 ↔ FP.Core.dkey x = FP.Core.dkey y := by
  rw [dc_c hx hy]
  by_cases h1 : FP.Core.dkey x < FP.Core.dkey y
  · rw [if_pos h1]; exact iff_of_false (by decide) (by omega)
  · rw [if_neg h1]
    by_cases h2 : FP.Core.dkey x = FP.Core.dkey y
    · rw [if_pos h2]; exact iff_of_true (by decide) h2
    · rw [if_neg h2]; exact iff_of_false (by decide) h2
def fE (x : UInt64) : Bool := decide (x.toNat % 2 ^ 63 = 9218868437227405312)
def fM (x : UInt64) : Bool := decide (2 ^ 63 ≤ x.toNat)
def fA (x : UInt64) : UInt64 := x &&& 0x7fffffffffffffff
theorem fE_t {x : UInt64} : fE x = true ↔ x.toNat % 2 ^ 63 = 9218868437227405312 := decide_eq_true_iff
theorem fE_f {x : UInt64} : fE x = false ↔ ¬ x.toNat % 2 ^ 63 = 9218868437227405312 := decide_eq_false_iff_not
theorem fM_t {x : UInt64} : fM x = true ↔ 2 ^ 63 ≤ x.toNat := decide_eq_true_iff
theorem fM_f {x : UInt64} : fM x = false ↔ ¬ 2 ^ 63 ≤ x.toNat := decide_eq_false_iff_not
theorem fkd (x : UInt64) : ((2 ^ 63 ≤ x.toNat ∧ FP.Core.dkey x = 2 ^ 63 - (x.toNat : Int)) ∨ (x.toNat < 2 ^ 63 ∧ FP.Core.dkey x = (x.toNat : Int))) ∧ x.toNat < 2 ^ 64 := by
  refine ⟨?_, x.toNat_lt⟩
  unfold FP.Core.dkey
  by_cases h : 2 ^ 63 ≤ x.toNat
  · rw [if_pos h]; exact Or.inl ⟨h, rfl⟩
  · rw [if_neg h]; exact Or.inr ⟨by omega, rfl⟩
theorem u64e {x y : UInt64} (h : x.toNat = y.toNat) : x = y := UInt64.toNat_inj.mp h
theorem key0 {x : UInt64} (h : FP.Core.dkey x = 0) : x = 0 ∨ x = 9223372036854775808 := by
  have := fkd x
  have h2 : x.toNat = 0 ∨ x.toNat = 9223372036854775808 := by omega
  rcases h2 with h2 | h2
  · exact Or.inl (u64e h2)
  · exact Or.inr (u64e h2)
theorem dz1 {x : UInt64} (h : FP.Core.dkey x = 0) : vf_n64 (FP.ddiv FP.dconst1 x) := by
  rcases key0 h with rfl | rfl <;> (unfold vf_n64; decide +kernel)
theorem dz2 {x : UInt64} (h : FP.Core.dkey x = 0) : 0 ≤ FP.Core.dkey (FP.ddiv FP.dconst1 x) ↔ ¬ 2 ^ 63 ≤ x.toNat := by
  rcases key0 h with rfl | rfl <;> decide +kernel
theorem keyI {x y : UInt64} (h : FP.Core.dkey x = FP.Core.dkey y) (h0 : ¬ FP.Core.dkey x = 0) : x = y := by
  have h1 := fkd x
  have h2 := fkd y
  exact u64e (by omega)
theorem dneg_nat (x : UInt64) : (2 ^ 63 ≤ x.toNat ∧ (FP.dneg x).toNat = x.toNat - 2 ^ 63) ∨ (x.toNat < 2 ^ 63 ∧ (FP.dneg x).toNat = x.toNat + 2 ^ 63) := by
  have ha := x.toNat_lt
  have hx : (FP.dneg x).toNat = x.toNat ^^^ 2 ^ 63 := by
    unfold FP.dneg; rw [UInt64.toNat_xor]; rfl
  obtain ⟨h1, h2⟩ := FP.xor_top (a := x.toNat) (k := 63) (by omega)
  rw [hx]
  by_cases h : x.toNat < 2 ^ 63
  · exact Or.inr ⟨h, h1 h⟩
  · exact Or.inl ⟨by omega, h2 (by omega)⟩
theorem dneg_key (x : UInt64) : FP.Core.dkey (FP.dneg x) = - FP.Core.dkey x := by
  have h1 := fkd x
  have h2 := fkd (FP.dneg x)
  have h3 := dneg_nat x
  omega
theorem dneg_n {x : UInt64} (h : vf_n64 x) : vf_n64 (FP.dneg x) := by
  rw [n64i] at h ⊢
  have h3 := dneg_nat x
  omega
theorem dneg_dneg (x : UInt64) : FP.dneg (FP.dneg x) = x := by
  have h1 := dneg_nat x
  have h2 := dneg_nat (FP.dneg x)
  have h3 := (fkd x).2
  exact u64e (by omega)
theorem fA_nat (x : UInt64) : (fA x).toNat = x.toNat % 2 ^ 63 := FP.Core.mask_toNat x
theorem fA_n {x : UInt64} (h : vf_n64 x) : vf_n64 (fA x) := by
  rw [n64i] at h ⊢
  rw [fA_nat]
  omega
theorem fA_m {x : UInt64} (h : 2 ^ 63 ≤ x.toNat) : FP.dneg x = fA x := by
  have h1 := dneg_nat x
  have h2 := fA_nat x
  have h3 := (fkd x).2
  exact u64e (by omega)
theorem fA_p {x : UInt64} (h : ¬ 2 ^ 63 ≤ x.toNat) : x = fA x := by
  have h2 := fA_nat x
  exact u64e (by omega)
def fS (x y : UInt64) : UInt64 := match fM y with
  | true => FP.dneg (fA x)
  | false => fA x
def fG (x y : UInt64) : UInt64 := if FP.Core.dkey y < FP.Core.dkey x then x else if FP.Core.dkey x < FP.Core.dkey y then y else if 2 ^ 63 ≤ x.toNat then y else x
def fL (x y : UInt64) : UInt64 := if FP.Core.dkey x < FP.Core.dkey y then x else if FP.Core.dkey y < FP.Core.dkey x then y else if 2 ^ 63 ≤ x.toNat then x else y
def fW (x : UInt64) : Bool := decide (4841369599423283200 ≤ FP.Core.dkey x ∨ FP.Core.dkey x ≤ -4841369599423283200)
def fF (x : UInt64) : UInt64 := if FP.Core.dkey x = 0 ∨ 4841369599423283200 ≤ FP.Core.dkey x ∨ FP.Core.dkey x ≤ -4841369599423283200 then x else if FP.Core.dkey x < FP.Core.dkey (FP.l2d (FP.d2l x)) then FP.dsub (FP.l2d (FP.d2l x)) FP.dconst1 else FP.l2d (FP.d2l x)
theorem fS_e {x y : UInt64} (h : fM x = fM y) : x = fS x y := by
  unfold fS
  by_cases hy : 2 ^ 63 ≤ y.toNat
  · rw [fM_t.mpr hy] at h ⊢
    show x = FP.dneg (fA x)
    rw [← fA_m (fM_t.mp h), dneg_dneg]
  · rw [fM_f.mpr hy] at h ⊢
    exact fA_p (fM_f.mp h)
theorem fS_n {x y : UInt64} (h : ¬ fM x = fM y) : FP.dneg x = fS x y := by
  unfold fS
  by_cases hy : 2 ^ 63 ≤ y.toNat
  · rw [fM_t.mpr hy] at h ⊢
    show FP.dneg x = FP.dneg (fA x)
    rw [← fA_p (fM_f.mp (by simpa using h))]
  · rw [fM_f.mpr hy] at h ⊢
    exact fA_m (fM_t.mp (by simpa using h))
theorem l2d_n (n : Int64) : vf_n64 (FP.l2d n) := n64o (FP.Core.l2d_notNaN n)
theorem i2d_n (n : Int32) : vf_n64 (FP.i2d n) := n64o ((FP.Core.i2d_fin n).notNaN)
theorem one_fin : FP.Core.DFin FP.dconst1 := by rw [FP.Core.fin_bits]; decide
theorem fsub1 (n : Int64) : vf_n64 (FP.dsub (FP.l2d n) FP.dconst1) := n64o (FP.Core.dsub_out (FP.Core.l2d_notNaN n) one_fin)
theorem fF_n {x : UInt64} (h : vf_n64 x) : vf_n64 (fF x) := by
  unfold fF
  split
  · exact h
  · split
    · exact fsub1 _
    · exact l2d_n _
theorem fS_N {x y : UInt64} (h : vf_n64 x) : vf_n64 (fS x y) := by
  unfold fS
  split
  · exact dneg_n (fA_n h)
  · exact fA_n h
theorem fG_N {x y : UInt64} (h : vf_n64 x) (h2 : vf_n64 y) : vf_n64 (fG x y) := by
  unfold fG
  split
  · exact h
  · split
    · exact h2
    · split
      · exact h2
      · exact h
theorem fL_N {x y : UInt64} (h : vf_n64 x) (h2 : vf_n64 y) : vf_n64 (fL x y) := by
  unfold fL
  split
  · exact h
  · split
    · exact h2
    · split
      · exact h
      · exact h2
theorem fW_t {x : UInt64} : fW x = true ↔ (4841369599423283200 ≤ FP.Core.dkey x ∨ FP.Core.dkey x ≤ -4841369599423283200) := decide_eq_true_iff
theorem fW_f {x : UInt64} : fW x = false ↔ ¬ (4841369599423283200 ≤ FP.Core.dkey x ∨ FP.Core.dkey x ≤ -4841369599423283200) := decide_eq_false_iff_not
theorem zb_i {a b : Bool} : zb a = zb b ↔ a = b := by cases a <;> cases b <;> decide
theorem nc_0 : vf_n64 FP.dconst0 := by unfold vf_n64; decide
theorem nc_1 : vf_n64 FP.dconst1 := by unfold vf_n64; decide
theorem nc_4503599627370496 : vf_n64 (UInt64.ofNat 4503599627370496) := by unfold vf_n64; decide
theorem fk_4503599627370496 : FP.Core.dkey (UInt64.ofNat 4503599627370496) = 4503599627370496 := by decide
theorem nc_4039728865751334912 : vf_n64 (UInt64.ofNat 4039728865751334912) := by unfold vf_n64; decide
theorem fk_4039728865751334912 : FP.Core.dkey (UInt64.ofNat 4039728865751334912) = 4039728865751334912 := by decide
theorem nc_4602678819172646912 : vf_n64 (UInt64.ofNat 4602678819172646912) := by unfold vf_n64; decide
theorem fk_4602678819172646912 : FP.Core.dkey (UInt64.ofNat 4602678819172646912) = 4602678819172646912 := by decide
theorem nc_4611686018427387904 : vf_n64 (UInt64.ofNat 4611686018427387904) := by unfold vf_n64; decide
theorem fk_4611686018427387904 : FP.Core.dkey (UInt64.ofNat 4611686018427387904) = 4611686018427387904 := by decide
theorem nc_4616189618054758400 : vf_n64 (UInt64.ofNat 4616189618054758400) := by unfold vf_n64; decide
theorem fk_4616189618054758400 : FP.Core.dkey (UInt64.ofNat 4616189618054758400) = 4616189618054758400 := by decide
theorem nc_4832362400168542208 : vf_n64 (UInt64.ofNat 4832362400168542208) := by unfold vf_n64; decide
theorem fk_4832362400168542208 : FP.Core.dkey (UInt64.ofNat 4832362400168542208) = 4832362400168542208 := by decide
theorem nc_4841369599423283200 : vf_n64 (UInt64.ofNat 4841369599423283200) := by unfold vf_n64; decide
theorem fk_4841369599423283200 : FP.Core.dkey (UInt64.ofNat 4841369599423283200) = 4841369599423283200 := by decide
theorem nc_9218868437227405311 : vf_n64 (UInt64.ofNat 9218868437227405311) := by unfold vf_n64; decide
theorem fk_9218868437227405311 : FP.Core.dkey (UInt64.ofNat 9218868437227405311) = 9218868437227405311 := by decide
theorem nc_13830554455654793216 : vf_n64 (UInt64.ofNat 13830554455654793216) := by unfold vf_n64; decide
theorem fk_13830554455654793216 : FP.Core.dkey (UInt64.ofNat 13830554455654793216) = -4607182418800017408 := by decide
theorem nc_14064741636278059008 : vf_n64 (UInt64.ofNat 14064741636278059008) := by unfold vf_n64; decide
theorem fk_14064741636278059008 : FP.Core.dkey (UInt64.ofNat 14064741636278059008) = -4841369599423283200 := by decide
theorem nc_18442240474082181119 : vf_n64 (UInt64.ofNat 18442240474082181119) := by unfold vf_n64; decide
theorem fk_18442240474082181119 : FP.Core.dkey (UInt64.ofNat 18442240474082181119) = -9218868437227405311 := by decide
theorem fk_0 : FP.Core.dkey FP.dconst0 = 0 := by decide
theorem fk_1 : FP.Core.dkey FP.dconst1 = 4607182418800017408 := by decide
theorem ev_gF {Y : mm_Y} {μ0 : mm_M} {rem : List mm_E} {L : mm_L} {st : List mm_V} {μ : mm_M} {Post : Option mm_V → mm_M → Prop} (bs : List Bool) (os : List (Option Nat)) {e2 : mm_E} {rem2 : List mm_E} {L2 : mm_L} {st2 : List mm_V} {μ2 : mm_M} {P2 : Prop} (h : mm_go 5000 (mm_co Y) rem L st μ bs os True = some (e2 :: rem2, L2, st2, μ2, P2)) (k : Ev Y μ0 (e2 :: rem2) L2 st2 μ2 Post) (hp : P2 := by (repeat' apply And.intro) <;> first | exact trivial | assumption | omega | (simp (disch := first | assumption | exact nc_0 | exact nc_1 | exact l2d_n _ | exact fA_n (by assumption) | exact dz1 (by assumption) | exact nc_4503599627370496 | exact nc_4039728865751334912 | exact nc_4602678819172646912 | exact nc_4611686018427387904 | exact nc_4616189618054758400 | exact nc_4832362400168542208 | exact nc_4841369599423283200 | exact nc_9218868437227405311 | exact nc_13830554455654793216 | exact nc_14064741636278059008 | exact nc_18442240474082181119) only [dc_lt, dc_le, dc_gt, dc_ge, dc_eq, fE_t, fE_f, fM_t, fM_f, zb_e0, zb_n0, Classical.not_not, fk_4503599627370496, fk_4039728865751334912, fk_4602678819172646912, fk_4611686018427387904, fk_4616189618054758400, fk_4832362400168542208, fk_4841369599423283200, fk_9218868437227405311, fk_13830554455654793216, fk_14064741636278059008, fk_18442240474082181119, fk_0, fk_1, dz2, fW_t, fW_f, zb_i, *] <;> first | assumption | omega) | exact dz1 (by assumption) | exact fsub1 _ | (simp (disch := first | assumption | exact nc_0 | exact nc_1 | exact l2d_n _ | exact fA_n (by assumption) | exact dz1 (by assumption) | exact nc_4503599627370496 | exact nc_4039728865751334912 | exact nc_4602678819172646912 | exact nc_4611686018427387904 | exact nc_4616189618054758400 | exact nc_4832362400168542208 | exact nc_4841369599423283200 | exact nc_9218868437227405311 | exact nc_13830554455654793216 | exact nc_14064741636278059008 | exact nc_18442240474082181119) only [dc_lt, dc_le, dc_gt, dc_ge, dc_eq, fE_t, fE_f, fM_t, fM_f, zb_e0, zb_n0, Classical.not_not, fk_4503599627370496, fk_4039728865751334912, fk_4602678819172646912, fk_4611686018427387904, fk_4616189618054758400, fk_4832362400168542208, fk_4841369599423283200, fk_9218868437227405311, fk_13830554455654793216, fk_14064741636278059008, fk_18442240474082181119, fk_0, fk_1, dz2, fW_t, fW_f, zb_i, *] <;> first | exact dz1 (by assumption) | exact fsub1 _ | omega)) : Ev Y μ0 rem L st μ Post := ev_go bs os h hp k
theorem ev_bF {Y : mm_Y} {μ0 : mm_M} {rem : List mm_E} {L : mm_L} {st : List mm_V} {μ : mm_M} {Post : Option mm_V → mm_M → Prop} {e2 e3 : mm_E} {rem2 rem3 : List mm_E} {L2 L3 : mm_L} {st2 st3 : List mm_V} {μ2 μ3 : mm_M} {c c2 d d2 : Prop} (hT : mm_go 1 (mm_co Y) rem L st μ [true] [] True = some (e2 :: rem2, L2, st2, μ2, True ∧ c)) (hF : mm_go 1 (mm_co Y) rem L st μ [false] [] True = some (e3 :: rem3, L3, st3, μ3, True ∧ c2)) (kt : d → Ev Y μ0 (e2 :: rem2) L2 st2 μ2 Post) (kf : d2 → Ev Y μ0 (e3 :: rem3) L3 st3 μ3 Post) (hc : ¬ c → c2 := by first | exact id | exact Classical.not_not.mp) (g1 : c → d := by intro hh; (try simp (disch := first | assumption | exact nc_0 | exact nc_1 | exact l2d_n _ | exact fA_n (by assumption) | exact dz1 (by assumption) | exact nc_4503599627370496 | exact nc_4039728865751334912 | exact nc_4602678819172646912 | exact nc_4611686018427387904 | exact nc_4616189618054758400 | exact nc_4832362400168542208 | exact nc_4841369599423283200 | exact nc_9218868437227405311 | exact nc_13830554455654793216 | exact nc_14064741636278059008 | exact nc_18442240474082181119) only [dc_lt, dc_le, dc_gt, dc_ge, dc_eq, fE_t, fE_f, fM_t, fM_f, zb_e0, zb_n0, Classical.not_not, fk_4503599627370496, fk_4039728865751334912, fk_4602678819172646912, fk_4611686018427387904, fk_4616189618054758400, fk_4832362400168542208, fk_4841369599423283200, fk_9218868437227405311, fk_13830554455654793216, fk_14064741636278059008, fk_18442240474082181119, fk_0, fk_1, dz2, fW_t, fW_f, zb_i, *] at hh); exact hh) (g2 : c2 → d2 := by intro hh; (try simp (disch := first | assumption | exact nc_0 | exact nc_1 | exact l2d_n _ | exact fA_n (by assumption) | exact dz1 (by assumption) | exact nc_4503599627370496 | exact nc_4039728865751334912 | exact nc_4602678819172646912 | exact nc_4611686018427387904 | exact nc_4616189618054758400 | exact nc_4832362400168542208 | exact nc_4841369599423283200 | exact nc_9218868437227405311 | exact nc_13830554455654793216 | exact nc_14064741636278059008 | exact nc_18442240474082181119) only [dc_lt, dc_le, dc_gt, dc_ge, dc_eq, fE_t, fE_f, fM_t, fM_f, zb_e0, zb_n0, Classical.not_not, fk_4503599627370496, fk_4039728865751334912, fk_4602678819172646912, fk_4611686018427387904, fk_4616189618054758400, fk_4832362400168542208, fk_4841369599423283200, fk_9218868437227405311, fk_13830554455654793216, fk_14064741636278059008, fk_18442240474082181119, fk_0, fk_1, dz2, fW_t, fW_f, zb_i, *] at hh); exact hh) : Ev Y μ0 rem L st μ Post := ev_br hT hF hc (fun h => kt (g1 h)) (fun h => kf (g2 h))
theorem C_RE_isEndless {μ : mm_M} {x : UInt64} (hx : vf_n64 x) : mm_Det Y_RE_isEndless [vd (x)] μ (some (vi (zb (fE x)))) μ := by
  have k1 := fkd x
  have k2 := (n64i x).mp hx
  refine det_of h_RE_isEndless rfl rfl rfl ?_
  refine ev_g0 rfl ?_
  refine ev_bF rfl rfl (fun h_1 => ?_) (fun h_1 => ?_)
  · skip
    refine ev_g0 rfl ?_
    refine ev_retz rfl (by first | decide | exact zb_01 _) ?_
    exact ⟨by first | rw [zb_t (fE_t.mpr (by omega))] | rw [zb_f (fE_f.mpr (by omega))], rfl⟩
  · skip
    refine ev_g0 rfl ?_
    refine ev_bF rfl rfl (fun h_2 => ?_) (fun h_2 => ?_)
    · skip
      refine ev_g0 rfl ?_
      refine ev_retz rfl (by first | decide | exact zb_01 _) ?_
      exact ⟨by first | rw [zb_t (fE_t.mpr (by omega))] | rw [zb_f (fE_f.mpr (by omega))], rfl⟩
    · skip
      refine ev_g0 rfl ?_
      refine ev_retz rfl (by first | decide | exact zb_01 _) ?_
      exact ⟨by first | rw [zb_t (fE_t.mpr (by omega))] | rw [zb_f (fE_f.mpr (by omega))], rfl⟩
theorem C_MM_isEndless {μ : mm_M} {x : UInt64} (hx : vf_n64 x) : mm_Det Y_MM_isEndless [vd (x)] μ (some (vi (zb (fE x)))) μ := by
  have k1 := fkd x
  have k2 := (n64i x).mp hx
  refine det_of h_MM_isEndless rfl rfl rfl ?_
  refine ev_g0 rfl ?_
  refine ev_bF rfl rfl (fun h_1 => ?_) (fun h_1 => ?_)
  · skip
    refine ev_g0 rfl ?_
    refine ev_retz rfl (by first | decide | exact zb_01 _) ?_
    exact ⟨by first | rw [zb_t (fE_t.mpr (by omega))] | rw [zb_f (fE_f.mpr (by omega))], rfl⟩
  · skip
    refine ev_g0 rfl ?_
    refine ev_bF rfl rfl (fun h_2 => ?_) (fun h_2 => ?_)
    · skip
      refine ev_g0 rfl ?_
      refine ev_retz rfl (by first | decide | exact zb_01 _) ?_
      exact ⟨by first | rw [zb_t (fE_t.mpr (by omega))] | rw [zb_f (fE_f.mpr (by omega))], rfl⟩
    · skip
      refine ev_g0 rfl ?_
      refine ev_retz rfl (by first | decide | exact zb_01 _) ?_
      exact ⟨by first | rw [zb_t (fE_t.mpr (by omega))] | rw [zb_f (fE_f.mpr (by omega))], rfl⟩
theorem C_RE_isMinus {μ : mm_M} {x : UInt64} (hx : vf_n64 x) : mm_Det Y_RE_isMinus [vd (x)] μ (some (vi (zb (fM x)))) μ := by
  have k1 := fkd x
  have k2 := (n64i x).mp hx
  refine det_of h_RE_isMinus rfl rfl rfl ?_
  refine ev_g0 rfl ?_
  refine ev_bF rfl rfl (fun h_1 => ?_) (fun h_1 => ?_)
  · skip
    refine ev_g0 rfl ?_
    refine ev_retz rfl (by first | decide | exact zb_01 _) ?_
    exact ⟨by first | rw [zb_t (fM_t.mpr (by omega))] | rw [zb_f (fM_f.mpr (by omega))], rfl⟩
  · skip
    refine ev_g0 rfl ?_
    refine ev_bF rfl rfl (fun h_2 => ?_) (fun h_2 => ?_)
    · skip
      refine ev_g0 rfl ?_
      refine ev_retz rfl (by first | decide | exact zb_01 _) ?_
      exact ⟨by first | rw [zb_t (fM_t.mpr (by omega))] | rw [zb_f (fM_f.mpr (by omega))], rfl⟩
    · skip
      refine ev_gF [] [] rfl ?_
      refine ev_bF rfl rfl (fun h_3 => ?_) (fun h_3 => ?_)
      · skip
        refine ev_g0 rfl ?_
        refine ev_retz rfl (by first | decide | exact zb_01 _) ?_
        exact ⟨by first | rw [zb_t (fM_t.mpr (by omega))] | rw [zb_f (fM_f.mpr (by omega))], rfl⟩
      · skip
        refine ev_g0 rfl ?_
        refine ev_retz rfl (by first | decide | exact zb_01 _) ?_
        exact ⟨by first | rw [zb_t (fM_t.mpr (by omega))] | rw [zb_f (fM_f.mpr (by omega))], rfl⟩
theorem C_MM_isMinus {μ : mm_M} {x : UInt64} (hx : vf_n64 x) : mm_Det Y_MM_isMinus [vd (x)] μ (some (vi (zb (fM x)))) μ := by
  have k1 := fkd x
  have k2 := (n64i x).mp hx
  refine det_of h_MM_isMinus rfl rfl rfl ?_
  refine ev_g0 rfl ?_
  refine ev_bF rfl rfl (fun h_1 => ?_) (fun h_1 => ?_)
  · skip
    refine ev_g0 rfl ?_
    refine ev_retz rfl (by first | decide | exact zb_01 _) ?_
    exact ⟨by first | rw [zb_t (fM_t.mpr (by omega))] | rw [zb_f (fM_f.mpr (by omega))], rfl⟩
  · skip
    refine ev_g0 rfl ?_
    refine ev_bF rfl rfl (fun h_2 => ?_) (fun h_2 => ?_)
    · skip
      refine ev_g0 rfl ?_
      refine ev_retz rfl (by first | decide | exact zb_01 _) ?_
      exact ⟨by first | rw [zb_t (fM_t.mpr (by omega))] | rw [zb_f (fM_f.mpr (by omega))], rfl⟩
    · skip
      refine ev_gF [] [] rfl ?_
      refine ev_bF rfl rfl (fun h_3 => ?_) (fun h_3 => ?_)
      · skip
        refine ev_g0 rfl ?_
        refine ev_retz rfl (by first | decide | exact zb_01 _) ?_
        exact ⟨by first | rw [zb_t (fM_t.mpr (by omega))] | rw [zb_f (fM_f.mpr (by omega))], rfl⟩
      · skip
        refine ev_g0 rfl ?_
        refine ev_retz rfl (by first | decide | exact zb_01 _) ?_
        exact ⟨by first | rw [zb_t (fM_t.mpr (by omega))] | rw [zb_f (fM_f.mpr (by omega))], rfl⟩
theorem C_RE_withoutSign {μ : mm_M} {x : UInt64} (hx : vf_n64 x) : mm_Det Y_RE_withoutSign [vd (x)] μ (some (vd (fA x))) μ := by
  have k1 := fkd x
  have k2 := (n64i x).mp hx
  refine det_of h_RE_withoutSign rfl rfl rfl ?_
  refine ev_g0 rfl ?_
  refine ev_kS 1 k_RE_19 rfl (C_RE_isMinus (by first | assumption | exact fA_n (by assumption))) ⟨by decide, by decide⟩ rfl ?_
  refine ev_g0 rfl ?_
  refine ev_bF rfl rfl (fun h_1 => ?_) (fun h_1 => ?_)
  · skip
    refine ev_g0 rfl ?_
    refine ev_retd rfl ?_
    exact ⟨by first | rw [fA_m (by omega)] | rw [← fA_p (by omega)], rfl⟩
  · skip
    refine ev_g0 rfl ?_
    refine ev_retd rfl ?_
    exact ⟨by first | rw [fA_m (by omega)] | rw [← fA_p (by omega)], rfl⟩
theorem C_MM_without {μ : mm_M} {x : UInt64} (hx : vf_n64 x) : mm_Det Y_MM_without [vd (x)] μ (some (vd (fA x))) μ := by
  have k1 := fkd x
  have k2 := (n64i x).mp hx
  refine det_of h_MM_without rfl rfl rfl ?_
  refine ev_g0 rfl ?_
  refine ev_kS 1 k_MM_138 rfl (C_MM_isMinus (by first | assumption | exact fA_n (by assumption))) ⟨by decide, by decide⟩ rfl ?_
  refine ev_g0 rfl ?_
  refine ev_bF rfl rfl (fun h_1 => ?_) (fun h_1 => ?_)
  · skip
    refine ev_g0 rfl ?_
    refine ev_retd rfl ?_
    exact ⟨by first | rw [fA_m (by omega)] | rw [← fA_p (by omega)], rfl⟩
  · skip
    refine ev_g0 rfl ?_
    refine ev_retd rfl ?_
    exact ⟨by first | rw [fA_m (by omega)] | rw [← fA_p (by omega)], rfl⟩
theorem C_RE_withSignOf {μ : mm_M} {x y : UInt64} (hx : vf_n64 x) (hy : vf_n64 y) : mm_Det Y_RE_withSignOf [vd (x), vd (y)] μ (some (vd (fS x y))) μ := by
  refine det_of h_RE_withSignOf rfl rfl rfl ?_
  refine ev_g0 rfl ?_
  refine ev_kS 1 k_RE_19 rfl (C_RE_isMinus (by first | assumption | exact fA_n (by assumption))) ⟨by decide, by decide⟩ rfl ?_
  refine ev_g0 rfl ?_
  refine ev_kS 1 k_RE_19 rfl (C_RE_isMinus (by first | assumption | exact fA_n (by assumption))) ⟨by decide, by decide⟩ rfl ?_
  refine ev_g0 rfl ?_
  refine ev_bF rfl rfl (fun h_1 => ?_) (fun h_1 => ?_)
  · skip
    refine ev_g0 rfl ?_
    refine ev_retd rfl ?_
    first | exact ⟨congrArg (fun z => some (vd z)) (fS_e (by assumption)), rfl⟩ | exact ⟨congrArg (fun z => some (vd z)) (fS_n (by assumption)), rfl⟩
  · skip
    refine ev_g0 rfl ?_
    refine ev_retd rfl ?_
    first | exact ⟨congrArg (fun z => some (vd z)) (fS_e (by assumption)), rfl⟩ | exact ⟨congrArg (fun z => some (vd z)) (fS_n (by assumption)), rfl⟩
theorem C_MM_signed {μ : mm_M} {x y : UInt64} (hx : vf_n64 x) (hy : vf_n64 y) : mm_Det Y_MM_signed [vd (x), vd (y)] μ (some (vd (fS x y))) μ := by
  refine det_of h_MM_signed rfl rfl rfl ?_
  refine ev_g0 rfl ?_
  refine ev_kS 1 k_MM_138 rfl (C_MM_isMinus (by first | assumption | exact fA_n (by assumption))) ⟨by decide, by decide⟩ rfl ?_
  refine ev_g0 rfl ?_
  refine ev_bF rfl rfl (fun h_1 => ?_) (fun h_1 => ?_)
  · skip
    refine ev_g0 rfl ?_
    refine ev_kS 1 k_MM_142 rfl (C_MM_without (by assumption)) ⟨by decide, by decide⟩ rfl ?_
    refine ev_g0 rfl ?_
    refine ev_retd rfl ?_
    exact ⟨by unfold fS; first | rw [fM_t.mpr (by assumption)] | rw [fM_f.mpr (by assumption)], rfl⟩
  · skip
    refine ev_g0 rfl ?_
    refine ev_kS 1 k_MM_142 rfl (C_MM_without (by assumption)) ⟨by decide, by decide⟩ rfl ?_
    refine ev_g0 rfl ?_
    refine ev_retd rfl ?_
    exact ⟨by unfold fS; first | rw [fM_t.mpr (by assumption)] | rw [fM_f.mpr (by assumption)], rfl⟩
theorem C_RE_greater {μ : mm_M} {x y : UInt64} (hx : vf_n64 x) (hy : vf_n64 y) : mm_Det Y_RE_greater [vd (x), vd (y)] μ (some (vd (fG x y))) μ := by
  have k1 := fkd x
  have k2 := (n64i x).mp hx
  have k3 := fkd y
  have k4 := (n64i y).mp hy
  refine det_of h_RE_greater rfl rfl rfl ?_
  refine ev_g0 rfl ?_
  refine ev_bF rfl rfl (fun h_1 => ?_) (fun h_1 => ?_)
  · skip
    refine ev_g0 rfl ?_
    refine ev_retd rfl ?_
    exact ⟨by unfold fG; (repeat' split) <;> first | rfl | (exfalso; omega) | exact congrArg (fun z => some (vd z)) (u64e (by omega)), rfl⟩
  · skip
    refine ev_g0 rfl ?_
    refine ev_bF rfl rfl (fun h_2 => ?_) (fun h_2 => ?_)
    · skip
      refine ev_g0 rfl ?_
      refine ev_retd rfl ?_
      exact ⟨by unfold fG; (repeat' split) <;> first | rfl | (exfalso; omega) | exact congrArg (fun z => some (vd z)) (u64e (by omega)), rfl⟩
    · skip
      refine ev_g0 rfl ?_
      refine ev_kS 1 k_RE_19 rfl (C_RE_isMinus (by first | assumption | exact fA_n (by assumption))) ⟨by decide, by decide⟩ rfl ?_
      refine ev_g0 rfl ?_
      refine ev_bF rfl rfl (fun h_3 => ?_) (fun h_3 => ?_)
      · skip
        refine ev_g0 rfl ?_
        refine ev_retd rfl ?_
        exact ⟨by unfold fG; (repeat' split) <;> first | rfl | (exfalso; omega) | exact congrArg (fun z => some (vd z)) (u64e (by omega)), rfl⟩
      · skip
        refine ev_g0 rfl ?_
        refine ev_retd rfl ?_
        exact ⟨by unfold fG; (repeat' split) <;> first | rfl | (exfalso; omega) | exact congrArg (fun z => some (vd z)) (u64e (by omega)), rfl⟩
theorem C_MM_greater {μ : mm_M} {x y : UInt64} (hx : vf_n64 x) (hy : vf_n64 y) : mm_Det Y_MM_greater [vd (x), vd (y)] μ (some (vd (fG x y))) μ := by
  have k1 := fkd x
  have k2 := (n64i x).mp hx
  have k3 := fkd y
  have k4 := (n64i y).mp hy
  refine det_of h_MM_greater rfl rfl rfl ?_
  refine ev_g0 rfl ?_
  refine ev_bF rfl rfl (fun h_1 => ?_) (fun h_1 => ?_)
  · skip
    refine ev_g0 rfl ?_
    refine ev_bF rfl rfl (fun h_2 => ?_) (fun h_2 => ?_)
    · skip
      refine ev_g0 rfl ?_
      refine ev_kS 1 k_MM_138 rfl (C_MM_isMinus (by first | assumption | exact fA_n (by assumption))) ⟨by decide, by decide⟩ rfl ?_
      refine ev_g0 rfl ?_
      refine ev_bF rfl rfl (fun h_3 => ?_) (fun h_3 => ?_)
      · skip
        refine ev_g0 rfl ?_
        refine ev_retd rfl ?_
        exact ⟨by unfold fG; (repeat' split) <;> first | rfl | (exfalso; omega) | exact congrArg (fun z => some (vd z)) (u64e (by omega)), rfl⟩
      · skip
        refine ev_g0 rfl ?_
        refine ev_retd rfl ?_
        exact ⟨by unfold fG; (repeat' split) <;> first | rfl | (exfalso; omega) | exact congrArg (fun z => some (vd z)) (u64e (by omega)), rfl⟩
    · skip
      refine ev_g0 rfl ?_
      refine ev_retd rfl ?_
      exact ⟨by unfold fG; (repeat' split) <;> first | rfl | (exfalso; omega) | exact congrArg (fun z => some (vd z)) (u64e (by omega)), rfl⟩
  · skip
    refine ev_g0 rfl ?_
    refine ev_retd rfl ?_
    exact ⟨by unfold fG; (repeat' split) <;> first | rfl | (exfalso; omega) | exact congrArg (fun z => some (vd z)) (u64e (by omega)), rfl⟩
theorem C_RE_lesser {μ : mm_M} {x y : UInt64} (hx : vf_n64 x) (hy : vf_n64 y) : mm_Det Y_RE_lesser [vd (x), vd (y)] μ (some (vd (fL x y))) μ := by
  have k1 := fkd x
  have k2 := (n64i x).mp hx
  have k3 := fkd y
  have k4 := (n64i y).mp hy
  refine det_of h_RE_lesser rfl rfl rfl ?_
  refine ev_g0 rfl ?_
  refine ev_bF rfl rfl (fun h_1 => ?_) (fun h_1 => ?_)
  · skip
    refine ev_g0 rfl ?_
    refine ev_retd rfl ?_
    exact ⟨by unfold fL; (repeat' split) <;> first | rfl | (exfalso; omega) | exact congrArg (fun z => some (vd z)) (u64e (by omega)), rfl⟩
  · skip
    refine ev_g0 rfl ?_
    refine ev_bF rfl rfl (fun h_2 => ?_) (fun h_2 => ?_)
    · skip
      refine ev_g0 rfl ?_
      refine ev_retd rfl ?_
      exact ⟨by unfold fL; (repeat' split) <;> first | rfl | (exfalso; omega) | exact congrArg (fun z => some (vd z)) (u64e (by omega)), rfl⟩
    · skip
      refine ev_g0 rfl ?_
      refine ev_kS 1 k_RE_19 rfl (C_RE_isMinus (by first | assumption | exact fA_n (by assumption))) ⟨by decide, by decide⟩ rfl ?_
      refine ev_g0 rfl ?_
      refine ev_bF rfl rfl (fun h_3 => ?_) (fun h_3 => ?_)
      · skip
        refine ev_g0 rfl ?_
        refine ev_retd rfl ?_
        exact ⟨by unfold fL; (repeat' split) <;> first | rfl | (exfalso; omega) | exact congrArg (fun z => some (vd z)) (u64e (by omega)), rfl⟩
      · skip
        refine ev_g0 rfl ?_
        refine ev_retd rfl ?_
        exact ⟨by unfold fL; (repeat' split) <;> first | rfl | (exfalso; omega) | exact congrArg (fun z => some (vd z)) (u64e (by omega)), rfl⟩
theorem C_MM_lesser {μ : mm_M} {x y : UInt64} (hx : vf_n64 x) (hy : vf_n64 y) : mm_Det Y_MM_lesser [vd (x), vd (y)] μ (some (vd (fL x y))) μ := by
  have k1 := fkd x
  have k2 := (n64i x).mp hx
  have k3 := fkd y
  have k4 := (n64i y).mp hy
  refine det_of h_MM_lesser rfl rfl rfl ?_
  refine ev_g0 rfl ?_
  refine ev_bF rfl rfl (fun h_1 => ?_) (fun h_1 => ?_)
  · skip
    refine ev_g0 rfl ?_
    refine ev_bF rfl rfl (fun h_2 => ?_) (fun h_2 => ?_)
    · skip
      refine ev_g0 rfl ?_
      refine ev_kS 1 k_MM_138 rfl (C_MM_isMinus (by first | assumption | exact fA_n (by assumption))) ⟨by decide, by decide⟩ rfl ?_
      refine ev_g0 rfl ?_
      refine ev_bF rfl rfl (fun h_3 => ?_) (fun h_3 => ?_)
      · skip
        refine ev_g0 rfl ?_
        refine ev_retd rfl ?_
        exact ⟨by unfold fL; (repeat' split) <;> first | rfl | (exfalso; omega) | exact congrArg (fun z => some (vd z)) (u64e (by omega)), rfl⟩
      · skip
        refine ev_g0 rfl ?_
        refine ev_retd rfl ?_
        exact ⟨by unfold fL; (repeat' split) <;> first | rfl | (exfalso; omega) | exact congrArg (fun z => some (vd z)) (u64e (by omega)), rfl⟩
    · skip
      refine ev_g0 rfl ?_
      refine ev_retd rfl ?_
      exact ⟨by unfold fL; (repeat' split) <;> first | rfl | (exfalso; omega) | exact congrArg (fun z => some (vd z)) (u64e (by omega)), rfl⟩
  · skip
    refine ev_g0 rfl ?_
    refine ev_retd rfl ?_
    exact ⟨by unfold fL; (repeat' split) <;> first | rfl | (exfalso; omega) | exact congrArg (fun z => some (vd z)) (u64e (by omega)), rfl⟩
theorem C_RE_isSurelyWhole {μ : mm_M} {x : UInt64} (hx : vf_n64 x) : mm_Det Y_RE_isSurelyWhole [vd (x)] μ (some (vi (zb (fW x)))) μ := by
  have k1 := fkd x
  have k2 := (n64i x).mp hx
  refine det_of h_RE_isSurelyWhole rfl rfl rfl ?_
  refine ev_g0 rfl ?_
  refine ev_bF rfl rfl (fun h_1 => ?_) (fun h_1 => ?_)
  · skip
    refine ev_g0 rfl ?_
    refine ev_retz rfl (by first | decide | exact zb_01 _) ?_
    exact ⟨by first | rw [zb_t (fW_t.mpr (by omega))] | rw [zb_f (fW_f.mpr (by omega))], rfl⟩
  · skip
    refine ev_g0 rfl ?_
    refine ev_bF rfl rfl (fun h_2 => ?_) (fun h_2 => ?_)
    · skip
      refine ev_g0 rfl ?_
      refine ev_retz rfl (by first | decide | exact zb_01 _) ?_
      exact ⟨by first | rw [zb_t (fW_t.mpr (by omega))] | rw [zb_f (fW_f.mpr (by omega))], rfl⟩
    · skip
      refine ev_g0 rfl ?_
      refine ev_retz rfl (by first | decide | exact zb_01 _) ?_
      exact ⟨by first | rw [zb_t (fW_t.mpr (by omega))] | rw [zb_f (fW_f.mpr (by omega))], rfl⟩
theorem C_RE_floor {μ : mm_M} {x : UInt64} (hx : vf_n64 x) : mm_Det Y_RE_floor [vd (x)] μ (some (vd (fF x))) μ := by
  have k1 := fkd x
  have k2 := (n64i x).mp hx
  refine det_of h_RE_floor rfl rfl rfl ?_
  refine ev_g0 rfl ?_
  refine ev_kS 1 k_RE_27 rfl (C_RE_isSurelyWhole (by assumption)) ⟨by decide, by decide⟩ rfl ?_
  refine ev_g0 rfl ?_
  refine ev_bF rfl rfl (fun h_1 => ?_) (fun h_1 => ?_)
  · skip
    refine ev_g0 rfl ?_
    refine ev_retd rfl ?_
    exact ⟨by unfold fF; (repeat (first | rw [if_pos (by omega)] | rw [if_neg (by omega)])), rfl⟩
  · skip
    refine ev_g0 rfl ?_
    refine ev_bF rfl rfl (fun h_2 => ?_) (fun h_2 => ?_)
    · skip
      refine ev_g0 rfl ?_
      refine ev_bF rfl rfl (fun h_3 => ?_) (fun h_3 => ?_)
      · skip
        refine ev_g0 rfl ?_
        refine ev_retd rfl ?_
        exact ⟨by unfold fF; (repeat (first | rw [if_pos (by omega)] | rw [if_neg (by omega)])), rfl⟩
      · skip
        refine ev_gF [] [] rfl ?_
        refine ev_retd rfl ?_
        exact ⟨by unfold fF; (repeat (first | rw [if_pos (by omega)] | rw [if_neg (by omega)])), rfl⟩
    · skip
      refine ev_g0 rfl ?_
      refine ev_retd rfl ?_
      exact ⟨by unfold fF; (repeat (first | rw [if_pos (by omega)] | rw [if_neg (by omega)])), rfl⟩
theorem C_MM_floor {μ : mm_M} {x : UInt64} (hx : vf_n64 x) : mm_Det Y_MM_floor [vd (x)] μ (some (vd (fF x))) μ := by
  have k1 := fkd x
  have k2 := (n64i x).mp hx
  refine det_of h_MM_floor rfl rfl rfl ?_
  refine ev_g0 rfl ?_
  refine ev_bF rfl rfl (fun h_1 => ?_) (fun h_1 => ?_)
  · skip
    refine ev_g0 rfl ?_
    refine ev_retd rfl ?_
    exact ⟨by unfold fF; (repeat (first | rw [if_pos (by omega)] | rw [if_neg (by omega)])), rfl⟩
  · skip
    refine ev_g0 rfl ?_
    refine ev_bF rfl rfl (fun h_2 => ?_) (fun h_2 => ?_)
    · skip
      refine ev_g0 rfl ?_
      refine ev_retd rfl ?_
      exact ⟨by unfold fF; (repeat (first | rw [if_pos (by omega)] | rw [if_neg (by omega)])), rfl⟩
    · skip
      refine ev_g0 rfl ?_
      refine ev_bF rfl rfl (fun h_3 => ?_) (fun h_3 => ?_)
      · skip
        refine ev_g0 rfl ?_
        refine ev_bF rfl rfl (fun h_4 => ?_) (fun h_4 => ?_)
        · skip
          refine ev_g0 rfl ?_
          refine ev_retd rfl ?_
          exact ⟨by unfold fF; (repeat (first | rw [if_pos (by omega)] | rw [if_neg (by omega)])), rfl⟩
        · skip
          refine ev_gF [] [] rfl ?_
          refine ev_retd rfl ?_
          exact ⟨by unfold fF; (repeat (first | rw [if_pos (by omega)] | rw [if_neg (by omega)])), rfl⟩
      · skip
        refine ev_g0 rfl ?_
        refine ev_retd rfl ?_
        exact ⟨by unfold fF; (repeat (first | rw [if_pos (by omega)] | rw [if_neg (by omega)])), rfl⟩
