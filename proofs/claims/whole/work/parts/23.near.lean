/-! the nearest whole number -/
theorem zlt {a b : UInt64} (ha : vf_n64 a) (hb : vf_n64 b) : FP.Core.dkey a < FP.Core.dkey b ↔ FP.Core.zval FP.Core.b64 (FP.Core.val64 a) < FP.Core.zval FP.Core.b64 (FP.Core.val64 b) := by
  rw [← FP.Core.dcmp_lt_key (n64v ha) (n64v hb), FP.Core.dcmp_zval (n64v ha) (n64v hb), FP.Core.compare_ite]
  by_cases h : FP.Core.zval FP.Core.b64 (FP.Core.val64 a) < FP.Core.zval FP.Core.b64 (FP.Core.val64 b)
  · rw [if_pos h]; exact iff_of_true rfl h
  · rw [if_neg h]
    refine iff_of_false ?_ h
    by_cases h2 : FP.Core.zval FP.Core.b64 (FP.Core.val64 a) = FP.Core.zval FP.Core.b64 (FP.Core.val64 b)
    · rw [if_pos h2]; intro g; cases g
    · rw [if_neg h2]; intro g; cases g
theorem zeq {a b : UInt64} (ha : vf_n64 a) (hb : vf_n64 b) : FP.Core.dkey a = FP.Core.dkey b ↔ FP.Core.zval FP.Core.b64 (FP.Core.val64 a) = FP.Core.zval FP.Core.b64 (FP.Core.val64 b) := by
  have h1 := zlt ha hb
  have h2 := zlt hb ha
  omega
theorem dv_fin2 {s : Bool} {r : Nat} {p : Int} (hr : r < 9007199254740992) (h1 : -1074 ≤ p) (h2 : p ≤ 971) : ∃ t : Nat, FP.Core.val64 (dv s r p) = .fin s (r * 2 ^ t) (p - (t : Int)) ∧ -1074 ≤ p - (t : Int) := by
  obtain ⟨t, ht⟩ := dv_fin (s := s) hr h1 h2
  have h := FP.Core.val64_fits (dv s r p)
  rw [ht] at h
  have h3 := h.2.1
  rw [qm64] at h3
  exact ⟨t, ht, h3⟩
theorem dv_z {s : Bool} {r k : Nat} {p : Int} (hr : r < 9007199254740992) (h2 : p ≤ 971) (hk : p + 1074 = (k : Int)) : FP.Core.zval FP.Core.b64 (FP.Core.val64 (dv s r p)) = FP.Core.signed s (r * 2 ^ k) := by
  obtain ⟨t, ht, h3⟩ := dv_fin2 (s := s) hr (by omega) h2
  rw [ht]
  show FP.Core.signed s (r * 2 ^ t * 2 ^ (p - (t : Int) - FP.Core.b64.qmin).toNat) = _
  rw [qm64, show (p - (t : Int) - -1074).toNat = k - t by omega, Nat.mul_assoc, ← Nat.pow_add, show t + (k - t) = k by omega]
theorem sgn_scale {s s' : Bool} {U V : Int} {P : Nat} (hP : 0 < P) (h : U = V * (P : Int)) : FP.Core.sumSign s s' U = FP.Core.sumSign s s' V := by
  have h0 : U = 0 ↔ V = 0 := by
    rw [h]
    constructor
    · intro g
      rcases Int.mul_eq_zero.mp g with g | g
      · exact g
      · omega
    · intro g; rw [g, Int.zero_mul]
  have h1 : U < 0 ↔ V < 0 := by
    rw [h]
    constructor
    · intro g
      apply Int.lt_of_not_ge
      intro hv
      have := Int.mul_nonneg hv (Int.natCast_nonneg P)
      omega
    · intro g; exact Int.mul_neg_of_neg_of_pos g (by omega)
  unfold FP.Core.sumSign
  by_cases hz : V = 0
  · rw [if_pos hz, if_pos (h0.mpr hz)]
  · rw [if_neg hz, if_neg (fun g => hz (h0.mp g))]
    exact decide_eq_decide.mpr h1
theorem mul_sh {r a b c : Nat} (h : a + b = c) : r * 2 ^ a * 2 ^ b = r * 2 ^ c := by rw [Nat.mul_assoc, ← Nat.pow_add, h]
theorem sum_dat {s s' : Bool} {r r' t t' : Nat} {p p' e : Int} (he : e ≤ p) (he' : e ≤ p') {V : Int} (hV : V = FP.Core.signed s (r * 2 ^ (p - e).toNat) + FP.Core.signed s' (r' * 2 ^ (p' - e).toNat)) : FP.Core.of64 (FP.Core.round FP.Core.b64 (FP.Core.exactSum (.fin s (r * 2 ^ t) (p - (t : Int))) (.fin s' (r' * 2 ^ t') (p' - (t' : Int))))) = dv (FP.Core.sumSign s s' V) V.natAbs e := by
  show FP.Core.of64 (FP.Core.roundRatio FP.Core.b64 (FP.Core.sumSign s s' (FP.Core.sumUnits s (r * 2 ^ t) (p - (t : Int)) s' (r' * 2 ^ t') (p' - (t' : Int)) (min (p - (t : Int)) (p' - (t' : Int))))) (FP.Core.sumUnits s (r * 2 ^ t) (p - (t : Int)) s' (r' * 2 ^ t') (p' - (t' : Int)) (min (p - (t : Int)) (p' - (t' : Int)))).natAbs 1 (min (p - (t : Int)) (p' - (t' : Int)))) = _
  obtain ⟨m, hm⟩ : ∃ m : Int, m = min (p - (t : Int)) (p' - (t' : Int)) := ⟨_, rfl⟩
  rw [← hm]
  have a1 : r * 2 ^ t * 2 ^ (p - (t : Int) - m).toNat = r * 2 ^ (p - m).toNat := mul_sh (by omega)
  have a2 : r' * 2 ^ t' * 2 ^ (p' - (t' : Int) - m).toNat = r' * 2 ^ (p' - m).toNat := mul_sh (by omega)
  obtain ⟨U, hU⟩ : ∃ U : Int, U = FP.Core.sumUnits s (r * 2 ^ t) (p - (t : Int)) s' (r' * 2 ^ t') (p' - (t' : Int)) m := ⟨_, rfl⟩
  have hU2 : U = FP.Core.signed s (r * 2 ^ (p - m).toNat) + FP.Core.signed s' (r' * 2 ^ (p' - m).toNat) := by
    rw [hU]
    unfold FP.Core.sumUnits FP.Core.inUnits
    rw [a1, a2]
  rw [← hU]
  rcases Int.le_total m e with hme | hme
  · have b1 : r * 2 ^ (p - m).toNat = r * 2 ^ (p - e).toNat * 2 ^ (e - m).toNat := (mul_sh (by omega)).symm
    have b2 : r' * 2 ^ (p' - m).toNat = r' * 2 ^ (p' - e).toNat * 2 ^ (e - m).toNat := (mul_sh (by omega)).symm
    have hUV : U = V * ((2 ^ (e - m).toNat : Nat) : Int) := by
      rw [hU2, hV, b1, b2, FP.Core.signed_mul s (r * 2 ^ (p - e).toNat), FP.Core.signed_mul s' (r' * 2 ^ (p' - e).toNat), Int.add_mul]
    rw [sgn_scale (Nat.two_pow_pos _) hUV]
    refine dv_cong ?_
    rw [show (m - e).toNat = 0 by omega, Nat.pow_zero, Nat.mul_one, hUV, Int.natAbs_mul, Int.natAbs_natCast]
  · have b1 : r * 2 ^ (p - e).toNat = r * 2 ^ (p - m).toNat * 2 ^ (m - e).toNat := (mul_sh (by omega)).symm
    have b2 : r' * 2 ^ (p' - e).toNat = r' * 2 ^ (p' - m).toNat * 2 ^ (m - e).toNat := (mul_sh (by omega)).symm
    have hVU : V = U * ((2 ^ (m - e).toNat : Nat) : Int) := by
      rw [hU2, hV, b1, b2, FP.Core.signed_mul s (r * 2 ^ (p - m).toNat), FP.Core.signed_mul s' (r' * 2 ^ (p' - m).toNat), Int.add_mul]
    rw [sgn_scale (Nat.two_pow_pos _) hVU]
    refine dv_cong ?_
    rw [show (e - m).toNat = 0 by omega, Nat.pow_zero, Nat.mul_one, hVU, Int.natAbs_mul, Int.natAbs_natCast]
theorem dv_add {s s' : Bool} {r r' : Nat} {p p' e : Int} (hr : r < 9007199254740992) (h2 : p ≤ 971) (hr' : r' < 9007199254740992) (h2' : p' ≤ 971) (h0 : -1074 ≤ e) (he : e ≤ p) (he' : e ≤ p') {V : Int} (hV : V = FP.Core.signed s (r * 2 ^ (p - e).toNat) + FP.Core.signed s' (r' * 2 ^ (p' - e).toNat)) : FP.dadd (dv s r p) (dv s' r' p') = dv (FP.Core.sumSign s s' V) V.natAbs e := by
  obtain ⟨t, ht⟩ := dv_fin (s := s) hr (by omega) h2
  obtain ⟨t', ht'⟩ := dv_fin (s := s') hr' (by omega) h2'
  show FP.Core.of64 (FP.Core.round FP.Core.b64 (FP.Core.exactSum (FP.Core.val64 (dv s r p)) (FP.Core.val64 (dv s' r' p')))) = _
  rw [ht, ht']
  exact sum_dat he he' hV
theorem dv_sub {s s' : Bool} {r r' : Nat} {p p' e : Int} (hr : r < 9007199254740992) (h2 : p ≤ 971) (hr' : r' < 9007199254740992) (h2' : p' ≤ 971) (h0 : -1074 ≤ e) (he : e ≤ p) (he' : e ≤ p') {V : Int} (hV : V = FP.Core.signed s (r * 2 ^ (p - e).toNat) + FP.Core.signed (!s') (r' * 2 ^ (p' - e).toNat)) : FP.dsub (dv s r p) (dv s' r' p') = dv (FP.Core.sumSign s (!s') V) V.natAbs e := by
  obtain ⟨t, ht⟩ := dv_fin (s := s) hr (by omega) h2
  obtain ⟨t', ht'⟩ := dv_fin (s := s') hr' (by omega) h2'
  show FP.Core.of64 (FP.Core.round FP.Core.b64 (FP.Core.exactSum (FP.Core.val64 (dv s r p)) (FP.Core.negate (FP.Core.val64 (dv s' r' p'))))) = _
  rw [ht, ht']
  exact sum_dat he he' hV
theorem dv_trunc {s : Bool} {r k : Nat} (hr : r < 9007199254740992) (hk : k ≤ 1074) : FP.d2l (dv s r (-(k : Int))) = Int64.ofInt (FP.Core.signed s (r / 2 ^ k)) := by
  obtain ⟨t, ht, h3⟩ := dv_fin2 (s := s) hr (p := -(k : Int)) (by omega) (by omega)
  show Int64.ofInt (FP.Core.toInt (-2 ^ 63) (2 ^ 63 - 1) (FP.Core.val64 (dv s r (-(k : Int))))) = _
  rw [ht]
  show Int64.ofInt (max (-2 ^ 63) (min (2 ^ 63 - 1) (FP.Core.signed s (r * 2 ^ t * 2 ^ (-(k : Int) - (t : Int)).toNat / 2 ^ (-(-(k : Int) - (t : Int))).toNat)))) = _
  rw [show (-(k : Int) - (t : Int)).toNat = 0 by omega, show (-(-(k : Int) - (t : Int))).toNat = k + t by omega, Nat.pow_zero, Nat.mul_one, Nat.pow_add, Nat.mul_div_mul_right _ _ (Nat.two_pow_pos t)]
  have hq : r / 2 ^ k ≤ r := Nat.div_le_self _ _
  refine congrArg Int64.ofInt ?_
  generalize r / 2 ^ k = n0 at hq ⊢
  rw [show (-2 ^ 63 : Int) = -9223372036854775808 by decide, show (2 ^ 63 - 1 : Int) = 9223372036854775807 by decide]
  unfold FP.Core.signed
  split <;> omega
theorem l2d_sg {s : Bool} {n : Nat} (hn : n < 9007199254740992) : FP.l2d (Int64.ofInt (FP.Core.signed s n)) = dv (s && decide (0 < n)) n 0 := by
  have hb : -9007199254740992 < FP.Core.signed s n ∧ FP.Core.signed s n < 9007199254740992 := by unfold FP.Core.signed; split <;> omega
  have e : (Int64.ofInt (FP.Core.signed s n)).toInt = FP.Core.signed s n := Int64.toInt_ofInt_of_le (by omega) (by omega)
  rw [l2d_dv, e, FP.Core.natAbs_signed]
  have hs : decide (FP.Core.signed s n < 0) = (s && decide (0 < n)) := by
    cases s
    · rw [Bool.false_and]; exact decide_eq_false (by show ¬ ((n : Int) < 0); omega)
    · rw [Bool.true_and]; refine decide_eq_decide.mpr ?_
      show (-(n : Int) < 0) ↔ 0 < n
      omega
  rw [hs]
theorem z_p52 : FP.Core.zval FP.Core.b64 (FP.Core.val64 (UInt64.ofNat 4841369599423283200)) = ((4503599627370496 * 2 ^ 1074 : Nat) : Int) := by
  rw [dv_of p52_v, dv_z (k := 1074) (by decide) (by decide) (by decide)]; rfl
theorem z_0 : FP.Core.zval FP.Core.b64 (FP.Core.val64 FP.dconst0) = 0 := by decide +kernel
theorem sg_t (n : Nat) : FP.Core.signed true n = -(n : Int) := rfl
theorem sg_f (n : Nat) : FP.Core.signed false n = (n : Int) := rfl
theorem sg_m (s : Bool) (a b : Nat) : FP.Core.signed s (a * b) = FP.Core.signed s a * (b : Int) := FP.Core.signed_mul s a b
def rk (s : Bool) (r k : Nat) : Nat := match s with
  | true => (r + 2 ^ k - 1) / 2 ^ k
  | false => r / 2 ^ k
theorem dv_flo {s : Bool} {r k : Nat} (h0 : 0 < r) (hr : r < 9007199254740992) (hk : k ≤ 1074) (hb : r < 4503599627370496 * 2 ^ k) : fF (dv s r (-(k : Int))) = dv s (rk s r k) 0 := by
  have hn := dv_n s r (-(k : Int))
  have hz : FP.Core.zval FP.Core.b64 (FP.Core.val64 (dv s r (-(k : Int)))) = FP.Core.signed s (r * 2 ^ (1074 - k)) := dv_z hr (by omega) (by omega)
  have hB := Nat.two_pow_pos (1074 - k)
  have hDB : 2 ^ 1074 = 2 ^ k * 2 ^ (1074 - k) := by rw [← Nat.pow_add]; congr 1; omega
  have hD := Nat.two_pow_pos k
  have hrB : 0 < r * 2 ^ (1074 - k) := Nat.mul_pos h0 hB
  have hrB2 : r * 2 ^ (1074 - k) < 4503599627370496 * 2 ^ 1074 := by
    rw [hDB, ← Nat.mul_assoc]
    exact Nat.mul_lt_mul_of_pos_right hb hB
  have c0 : ¬ FP.Core.dkey (dv s r (-(k : Int))) = 0 := by
    rw [← fk_0, zeq hn nc_0, z_0, hz]
    cases s
    · rw [sg_f]; omega
    · rw [sg_t]; omega
  have c1 : ¬ 4841369599423283200 ≤ FP.Core.dkey (dv s r (-(k : Int))) := by
    have h := zlt hn nc_4841369599423283200
    rw [fk_4841369599423283200, z_p52, hz] at h
    rw [Int.not_le, h]
    cases s
    · rw [sg_f]; omega
    · rw [sg_t]; omega
  have c2 : ¬ FP.Core.dkey (dv s r (-(k : Int))) ≤ -4841369599423283200 := by
    have h := zlt (dneg_n hn) nc_4841369599423283200
    rw [fk_4841369599423283200, z_p52, dneg_key, dv_neg, dv_z (k := 1074 - k) hr (by omega) (by omega)] at h
    have h2 : FP.Core.signed (!s) (r * 2 ^ (1074 - k)) < ((4503599627370496 * 2 ^ 1074 : Nat) : Int) := by
      cases s
      · show -((r * 2 ^ (1074 - k) : Nat) : Int) < _; omega
      · show ((r * 2 ^ (1074 - k) : Nat) : Int) < _; omega
    have := h.mpr h2
    omega
  have hq : r / 2 ^ k ≤ r := Nat.div_le_self _ _
  have hdm := Nat.div_add_mod r (2 ^ k)
  rw [Nat.mul_comm] at hdm
  have hml := Nat.mod_lt r hD
  have hL : FP.l2d (FP.d2l (dv s r (-(k : Int)))) = dv (s && decide (0 < r / 2 ^ k)) (r / 2 ^ k) 0 := by
    rw [dv_trunc hr hk, l2d_sg (Nat.lt_of_le_of_lt hq hr)]
  have hzL : FP.Core.zval FP.Core.b64 (FP.Core.val64 (dv (s && decide (0 < r / 2 ^ k)) (r / 2 ^ k) 0)) = FP.Core.signed s (r / 2 ^ k * 2 ^ k * 2 ^ (1074 - k)) := by
    rw [dv_z (k := 1074) (Nat.lt_of_le_of_lt hq hr) (by omega) (by omega), hDB, Nat.mul_assoc]
    by_cases hq0 : 0 < r / 2 ^ k
    · rw [decide_eq_true hq0, Bool.and_true]
    · rw [Nat.le_zero.mp (Nat.not_lt.mp hq0), Nat.zero_mul, FP.Core.signed_zero, FP.Core.signed_zero]
  have hcmp := zlt hn (dv_n (s && decide (0 < r / 2 ^ k)) (r / 2 ^ k) 0)
  rw [hz, hzL] at hcmp
  have hsm : (r / 2 ^ k + 1) * 2 ^ k = r / 2 ^ k * 2 ^ k + 2 ^ k := Nat.succ_mul _ _
  have hss : (r / 2 ^ k + 1 + 1) * 2 ^ k = (r / 2 ^ k + 1) * 2 ^ k + 2 ^ k := Nat.succ_mul _ _
  have hrk1 : r % 2 ^ k = 0 → rk true r k = r / 2 ^ k := by
    intro hm
    show (r + 2 ^ k - 1) / 2 ^ k = r / 2 ^ k
    refine Nat.div_eq_of_lt_le ?_ ?_
    · generalize r / 2 ^ k * 2 ^ k = P at *; omega
    · generalize r / 2 ^ k * 2 ^ k = P at *; omega
  have hrk2 : ¬ r % 2 ^ k = 0 → rk true r k = r / 2 ^ k + 1 := by
    intro hm
    show (r + 2 ^ k - 1) / 2 ^ k = r / 2 ^ k + 1
    refine Nat.div_eq_of_lt_le ?_ ?_
    · generalize (r / 2 ^ k + 1) * 2 ^ k = Q at *; generalize r / 2 ^ k * 2 ^ k = P at *; omega
    · generalize (r / 2 ^ k + 1 + 1) * 2 ^ k = S at *; generalize (r / 2 ^ k + 1) * 2 ^ k = Q at *; generalize r / 2 ^ k * 2 ^ k = P at *; omega
  have hrk0 : rk false r k = r / 2 ^ k := rfl
  have hle : r / 2 ^ k * 2 ^ k ≤ r := Nat.div_mul_le_self r (2 ^ k)
  have hlt : ¬ r % 2 ^ k = 0 → r / 2 ^ k * 2 ^ k < r := by
    intro hm
    generalize r / 2 ^ k * 2 ^ k = P at *; omega
  have hpos : r % 2 ^ k = 0 → 0 < r / 2 ^ k := by
    intro hm
    apply Nat.pos_of_ne_zero; intro e; rw [e, Nat.zero_mul] at hdm; omega
  have heq : r % 2 ^ k = 0 → r / 2 ^ k * 2 ^ k = r := by
    intro hm
    generalize r / 2 ^ k * 2 ^ k = P at *; omega
  unfold fF
  rw [if_neg (fun h => h.elim c0 (fun h => h.elim c1 c2)), hL]
  generalize hn0 : r / 2 ^ k = n0 at *
  cases s
  · rw [if_neg]
    · rw [hrk0]; rfl
    · intro g
      have g := hcmp.mp g
      rw [sg_f, sg_f] at g
      have := Nat.mul_le_mul_right (2 ^ (1074 - k)) hle
      omega
  · by_cases hm : r % 2 ^ k = 0
    · rw [if_neg]
      · rw [hrk1 hm, decide_eq_true (hpos hm)]; rfl
      · intro g
        have g := hcmp.mp g
        rw [sg_t, sg_t, heq hm] at g
        omega
    · have h3 : n0 * 2 ^ k * 2 ^ (1074 - k) < r * 2 ^ (1074 - k) := Nat.mul_lt_mul_of_pos_right (hlt hm) hB
      rw [if_pos (hcmp.mpr (by rw [sg_t, sg_t]; omega)), hrk2 hm, show FP.dconst1 = dv false 1 0 from by decide +kernel]
      refine (dv_sub (e := 0) (V := -((n0 + 1 : Nat) : Int)) (by omega) (by omega) (by omega) (by omega) (by omega) (by omega) (by omega) ?_).trans ?_
      · rw [show ((0 : Int) - 0).toNat = 0 by decide, Nat.pow_zero, Nat.mul_one, Nat.mul_one, Bool.true_and]
        by_cases hq0 : 0 < n0
        · rw [decide_eq_true hq0]; show _ = -((n0 : Nat) : Int) + -((1 : Nat) : Int); omega
        · rw [decide_eq_false hq0, show n0 = 0 by omega]; rfl
      · rw [Int.natAbs_neg, Int.natAbs_natCast]
        have hs : ∀ a b : Bool, FP.Core.sumSign a b (-((n0 + 1 : Nat) : Int)) = true := by
          intro a b
          unfold FP.Core.sumSign
          rw [if_neg (by omega)]
          exact decide_eq_true (by omega)
        rw [hs]
theorem near_add {c D M : Nat} (hD : 0 < D) (hM : M % 2 = 0) : FP.Core.nearest (c + M * D) D = M + FP.Core.nearest c D := by
  unfold FP.Core.nearest
  rw [Nat.add_mul_mod_self_right, Nat.add_mul_div_right _ _ hD]
  split
  · omega
  · split <;> omega
theorem near_sum {c k : Nat} (hk : 1 ≤ k) (hk2 : k ≤ 1074) (hc : c < 4503599627370496 * 2 ^ k) : FP.Core.roundRatio FP.Core.b64 false (c + 4503599627370496 * 2 ^ k) 1 (-(k : Int)) = if FP.Core.nearest c (2 ^ k) < 4503599627370496 then .fin false (4503599627370496 + FP.Core.nearest c (2 ^ k)) 0 else .fin false 4503599627370496 1 := by
  have hD := Nat.two_pow_pos k
  have e1 : (2 : Nat) ^ (k + 53) = 2 * (4503599627370496 * 2 ^ k) := by rw [Nat.pow_add, show (2 : Nat) ^ 53 = 2 * 4503599627370496 by decide, Nat.mul_comm, Nat.mul_assoc]
  have e2 : (2 : Nat) ^ (k + 52) = 4503599627370496 * 2 ^ k := by rw [Nat.pow_add, p52, Nat.mul_comm]
  have hq : FP.Core.quantum FP.Core.b64 (c + 4503599627370496 * 2 ^ k) 1 (-(k : Int)) = 0 := by
    refine FP.Core.quantum_eq (by omega) (by decide) (by rw [qm64]; decide) ?_ (Or.inr ?_)
    · show (c + 4503599627370496 * 2 ^ k) * 2 ^ (-(0 - -(k : Int) + ((53 : Nat) : Int))).toNat < 1 * 2 ^ (0 - -(k : Int) + ((53 : Nat) : Int)).toNat
      rw [show (-(0 - -(k : Int) + ((53 : Nat) : Int))).toNat = 0 by omega, show (0 - -(k : Int) + ((53 : Nat) : Int)).toNat = k + 53 by omega, e1]
      omega
    · show ¬ (c + 4503599627370496 * 2 ^ k) * 2 ^ (-(0 - -(k : Int) + (((53 : Nat) : Int) - 1))).toNat < 1 * 2 ^ (0 - -(k : Int) + (((53 : Nat) : Int) - 1)).toNat
      rw [show (-(0 - -(k : Int) + (((53 : Nat) : Int) - 1))).toNat = 0 by omega, show (0 - -(k : Int) + (((53 : Nat) : Int) - 1)).toNat = k + 52 by omega, e2]
      omega
  unfold FP.Core.roundRatio
  rw [if_neg (by omega), hq]
  unfold FP.Core.roundAt FP.Core.unitsNum FP.Core.unitsDen
  rw [show (-(k : Int) - 0).toNat = 0 by omega, show ((0 : Int) - -(k : Int)).toNat = k by omega, Nat.pow_zero, Nat.mul_one, Nat.one_mul, near_add hD (by decide)]
  have hle : FP.Core.nearest c (2 ^ k) ≤ 4503599627370496 := FP.Core.nearest_le hD (by omega)
  unfold FP.Core.settle FP.Core.bound
  rw [pp64, qx64, tl64]
  by_cases hl : FP.Core.nearest c (2 ^ k) < 4503599627370496
  · rw [if_pos (by omega), if_pos (by decide), if_pos hl]
  · rw [if_neg (by omega), if_pos (by decide), if_neg hl]; rfl
theorem fM_dv (s : Bool) {r : Nat} {p : Int} (hr : r < 9007199254740992) (h1 : -1074 ≤ p) (h2 : p ≤ 971) : fM (dv s r p) = s := by
  obtain ⟨t, ht⟩ := dv_fin (s := s) hr h1 h2
  have h := FP.Core.sign_bits (Or.inl ⟨_, _, ht⟩)
  cases s
  · exact fM_f.mpr (fun g => by cases h.mpr g)
  · exact fM_t.mpr (h.mp rfl)
theorem fS_dv {s : Bool} {r : Nat} {p : Int} {y : UInt64} (hr : r < 9007199254740992) (h1 : -1074 ≤ p) (h2 : p ≤ 971) : fS (dv s r p) y = dv (fM y) r p := by
  by_cases h : fM (dv s r p) = fM y
  · rw [← fS_e h, ← h, fM_dv s hr h1 h2]
  · rw [← fS_n h, dv_neg]
    rw [fM_dv s hr h1 h2] at h
    congr 1
    cases s <;> cases hy : fM y <;> simp_all
theorem fA_dv {s : Bool} {r : Nat} {p : Int} (hr : r < 9007199254740992) (h1 : -1074 ≤ p) (h2 : p ≤ 971) : fA (dv s r p) = dv false r p := by
  have h := fM_dv s hr h1 h2
  cases s
  · exact (fA_p (fM_f.mp h)).symm
  · rw [← fA_m (fM_t.mp h), dv_neg]; rfl
def nr (x : UInt64) : UInt64 := if fW x = true then x else dv (fM x) (FP.Core.nearest (mtO (x.toNat % 2 ^ 63)) (2 ^ (1075 - exO (x.toNat % 2 ^ 63)))) 0
theorem nr_f {x : UInt64} (hx : vf_n64 x) (hw : fW x = false) : ∃ c k : Nat, 1 ≤ k ∧ k ≤ 1074 ∧ c < 9007199254740992 ∧ c < 4503599627370496 * 2 ^ k ∧ x = dv (fM x) c (-(k : Int)) ∧ nr x = dv (fM x) (FP.Core.nearest c (2 ^ k)) 0 ∧ (c = 0 ↔ FP.Core.dkey x = 0) := by
  have hk := fkd x
  have hw2 := fW_f.mp hw
  have ha : x.toNat % 2 ^ 63 < 4841369599423283200 := by omega
  have he := exO_le (b := x.toNat % 2 ^ 63) (by omega)
  have he2 : exO (x.toNat % 2 ^ 63) ≤ 1074 := by unfold exO; split <;> omega
  have hm := mtO_lt (x.toNat % 2 ^ 63)
  refine ⟨mtO (x.toNat % 2 ^ 63), 1075 - exO (x.toNat % 2 ^ 63), by omega, by omega, hm, ?_, ?_, ?_, ?_⟩
  · have h2 : 2 ^ 1 ≤ 2 ^ (1075 - exO (x.toNat % 2 ^ 63)) := Nat.pow_le_pow_right (by decide) (by omega)
    omega
  · have h := dv_self (x := x) (by omega)
    rw [show (-((1075 - exO (x.toNat % 2 ^ 63) : Nat) : Int)) = ((exO (x.toNat % 2 ^ 63) : Nat) : Int) - 1075 by omega]
    exact h
  · unfold nr; rw [hw, if_neg (by decide)]
  · unfold mtO; split <;> omega
theorem dv_0 (s : Bool) (p p2 : Int) : dv s 0 p = dv s 0 p2 := dv_cong (by rw [Nat.zero_mul, Nat.zero_mul])
theorem p52_dv : UInt64.ofNat 4841369599423283200 = dv false 4503599627370496 0 := dv_of p52_v
theorem near_C {c k : Nat} (hk : 1 ≤ k) (hk2 : k ≤ 1074) (h53 : c < 9007199254740992) (hc : c < 4503599627370496 * 2 ^ k) : FP.dsub (FP.dadd (dv false c (-(k : Int))) (UInt64.ofNat 4841369599423283200)) (UInt64.ofNat 4841369599423283200) = dv false (FP.Core.nearest c (2 ^ k)) 0 ∧ vf_n64 (FP.dadd (dv false c (-(k : Int))) (UInt64.ofNat 4841369599423283200)) := by
  have hD := Nat.two_pow_pos k
  have hs : FP.dadd (dv false c (-(k : Int))) (UInt64.ofNat 4841369599423283200) = dv false (c + 4503599627370496 * 2 ^ k) (-(k : Int)) := by
    rw [p52_dv]
    refine (dv_add (e := -(k : Int)) (V := ((c + 4503599627370496 * 2 ^ k : Nat) : Int)) h53 (by omega) (by decide) (by decide) (by omega) (by omega) (by omega) ?_).trans ?_
    · rw [show (-(k : Int) - -(k : Int)).toNat = 0 by omega, show ((0 : Int) - -(k : Int)).toNat = k by omega, Nat.pow_zero, Nat.mul_one, sg_f, sg_f]
      omega
    · rw [Int.natAbs_natCast]
      have : FP.Core.sumSign false false ((c + 4503599627370496 * 2 ^ k : Nat) : Int) = false := by
        unfold FP.Core.sumSign
        rw [if_neg (by omega)]
        exact decide_eq_false (by omega)
      rw [this]
  have hle : FP.Core.nearest c (2 ^ k) ≤ 4503599627370496 := FP.Core.nearest_le hD (by omega)
  have hv := near_sum hk hk2 hc
  rw [← dv_val] at hv
  rw [hs]
  refine ⟨?_, dv_n _ _ _⟩
  have hsg : ∀ n : Nat, FP.Core.sumSign false (!false) (n : Int) = false := by
    intro n
    unfold FP.Core.sumSign
    split
    · rfl
    · exact decide_eq_false (by omega)
  by_cases hl : FP.Core.nearest c (2 ^ k) < 4503599627370496
  · rw [if_pos hl] at hv
    rw [dv_of hv, p52_dv]
    refine (dv_sub (e := 0) (V := ((FP.Core.nearest c (2 ^ k) : Nat) : Int)) (by omega) (by decide) (by decide) (by decide) (by decide) (by decide) (by decide) ?_).trans ?_
    · rw [show ((0 : Int) - 0).toNat = 0 by decide, Nat.pow_zero, Nat.mul_one, Nat.mul_one, sg_f]
      show _ = _ + -((4503599627370496 : Nat) : Int)
      omega
    · rw [hsg, Int.natAbs_natCast]
  · rw [if_neg hl] at hv
    rw [dv_of hv, p52_dv]
    refine (dv_sub (e := 0) (V := ((FP.Core.nearest c (2 ^ k) : Nat) : Int)) (by decide) (by decide) (by decide) (by decide) (by decide) (by decide) (by decide) ?_).trans ?_
    · rw [show ((0 : Int) - 0).toNat = 0 by decide, show ((1 : Int) - 0).toNat = 1 by decide, Nat.pow_zero, Nat.pow_one, Nat.mul_one, sg_f]
      show _ = _ + -((4503599627370496 : Nat) : Int)
      omega
    · rw [hsg, Int.natAbs_natCast]
theorem C_RE_nearest {μ : mm_M} {x : UInt64} (hx : vf_n64 x) : mm_Det Y_RE_nearest [vd x] μ (some (vd (nr x))) μ := by
  refine det_of h_RE_nearest rfl rfl rfl ?_
  refine ev_go [] [] rfl trivial ?_
  refine ev_kS 1 k_RE_27 rfl (C_RE_isSurelyWhole hx) ⟨by decide, by decide⟩ rfl ?_
  cases hw : fW x with
  | true =>
    refine ev_go [false] [] rfl ⟨trivial, by decide⟩ ?_
    refine ev_retd rfl ⟨?_, rfl⟩
    unfold nr; rw [if_pos hw]
  | false =>
    obtain ⟨c, k, k1, k2, c1, c2, hxd, hnr, -⟩ := nr_f hx hw
    have hA : fA x = dv false c (-(k : Int)) := by
      refine (congrArg fA hxd).trans ?_
      exact fA_dv c1 (by omega) (by omega)
    obtain ⟨g1, g2⟩ := near_C k1 k2 c1 c2
    have hle : FP.Core.nearest c (2 ^ k) ≤ 4503599627370496 := FP.Core.nearest_le (Nat.two_pow_pos k) (by omega)
    refine ev_go [true] [] rfl ⟨trivial, by decide⟩ ?_
    refine ev_kS 1 k_RE_34 rfl (C_RE_withoutSign hx) ⟨by decide, by decide⟩ rfl ?_
    refine ev_go [] [] rfl ⟨⟨trivial, by rw [hA]; exact g2⟩, by rw [hA, g1]; exact dv_n _ _ _⟩ ?_
    refine ev_cg (st2 := [vd x, vd (dv false (FP.Core.nearest c (2 ^ k)) 0)]) rfl (by rw [hA, g1] <;> rfl) rfl ?_
    refine ev_kS 2 k_RE_37 rfl (C_RE_withSignOf (dv_n _ _ _) hx) ⟨by decide, by decide⟩ rfl ?_
    refine ev_go [] [] rfl trivial ?_
    refine ev_retd rfl ⟨?_, rfl⟩
    rw [hnr, fS_dv (by omega) (by decide) (by decide)]
theorem near_T (s : Bool) {c k : Nat} (hk : 1 ≤ k) (h0 : 0 < c) : ∃ m : Nat, ((s = false ∧ c = rk s c k * 2 ^ k + m) ∨ (s = true ∧ c + m = rk s c k * 2 ^ k ∧ 1 ≤ rk s c k)) ∧ m < 2 ^ k ∧ ((m < 2 ^ (k - 1) ∨ (m = 2 ^ (k - 1) ∧ rk s c k % 2 = 0)) → FP.Core.nearest c (2 ^ k) = rk s c k) ∧ (¬ (m < 2 ^ (k - 1) ∨ (m = 2 ^ (k - 1) ∧ rk s c k % 2 = 0)) → (s = false ∧ FP.Core.nearest c (2 ^ k) = rk s c k + 1) ∨ (s = true ∧ FP.Core.nearest c (2 ^ k) + 1 = rk s c k)) := by
  have hD : 2 ^ k = 2 * 2 ^ (k - 1) := by rw [← Nat.pow_succ']; congr 1; omega
  have hp := Nat.two_pow_pos (k - 1)
  have hdm := Nat.div_add_mod c (2 ^ k)
  rw [Nat.mul_comm] at hdm
  have hml := Nat.mod_lt c (Nat.two_pow_pos k)
  have hsm : (c / 2 ^ k + 1) * 2 ^ k = c / 2 ^ k * 2 ^ k + 2 ^ k := Nat.succ_mul _ _
  have hss : (c / 2 ^ k + 1 + 1) * 2 ^ k = (c / 2 ^ k + 1) * 2 ^ k + 2 ^ k := Nat.succ_mul _ _
  have hrk1 : c % 2 ^ k = 0 → rk true c k = c / 2 ^ k := by
    intro hm
    show (c + 2 ^ k - 1) / 2 ^ k = c / 2 ^ k
    refine Nat.div_eq_of_lt_le ?_ ?_
    · generalize c / 2 ^ k * 2 ^ k = P at *; omega
    · generalize c / 2 ^ k * 2 ^ k = P at *; omega
  have hrk2 : ¬ c % 2 ^ k = 0 → rk true c k = c / 2 ^ k + 1 := by
    intro hm
    show (c + 2 ^ k - 1) / 2 ^ k = c / 2 ^ k + 1
    refine Nat.div_eq_of_lt_le ?_ ?_
    · generalize (c / 2 ^ k + 1) * 2 ^ k = Q at *; generalize c / 2 ^ k * 2 ^ k = P at *; omega
    · generalize (c / 2 ^ k + 1 + 1) * 2 ^ k = S at *; generalize (c / 2 ^ k + 1) * 2 ^ k = Q at *; generalize c / 2 ^ k * 2 ^ k = P at *; omega
  have hrk0 : rk false c k = c / 2 ^ k := rfl
  have h1 : c % 2 ^ k = 0 → 1 ≤ c / 2 ^ k := by
    intro hm
    apply Nat.pos_of_ne_zero; intro e; rw [e, Nat.zero_mul] at hdm; omega
  unfold FP.Core.nearest
  generalize hn0 : c / 2 ^ k = n0 at *
  generalize hr0 : c % 2 ^ k = r0 at *
  generalize hP : n0 * 2 ^ k = P at *
  generalize hQ : (n0 + 1) * 2 ^ k = Q at *
  cases s
  · rw [hrk0]
    refine ⟨r0, Or.inl ⟨rfl, by rw [hP]; exact hdm.symm⟩, hml, ?_, ?_⟩
    · intro h
      split
      · rfl
      · split <;> omega
    · intro h
      refine Or.inl ⟨rfl, ?_⟩
      split
      · omega
      · split <;> omega
  · by_cases hm : r0 = 0
    · rw [hrk1 hm]
      refine ⟨0, Or.inr ⟨rfl, by rw [hP]; omega, h1 hm⟩, by omega, fun _ => ?_, fun h => absurd (Or.inl hp) h⟩
      rw [if_pos (by omega)]
    · rw [hrk2 hm]
      refine ⟨2 ^ k - r0, Or.inr ⟨rfl, by rw [hQ]; omega, by omega⟩, by omega, ?_, ?_⟩
      · intro h
        split
        · omega
        · split <;> omega
      · intro h
        refine Or.inr ⟨rfl, ?_⟩
        split
        · omega
        · split <;> omega
theorem half_dv : UInt64.ofNat 4602678819172646912 = dv false 1 (-1) := by decide +kernel
theorem one_dv : FP.dconst1 = dv false 1 0 := by decide +kernel
theorem sub_left {s : Bool} {c k m : Nat} (hk : 1 ≤ k) (hk2 : k ≤ 1074) (c1 : c < 9007199254740992) (hT : rk s c k < 9007199254740992) (hm : (s = false ∧ c = rk s c k * 2 ^ k + m) ∨ (s = true ∧ c + m = rk s c k * 2 ^ k ∧ 1 ≤ rk s c k)) : FP.dsub (dv s c (-(k : Int))) (dv s (rk s c k) 0) = dv false m (-(k : Int)) := by
  refine (dv_sub (e := -(k : Int)) (V := (m : Int)) c1 (by omega) hT (by decide) (by omega) (by omega) (by omega) ?_).trans ?_
  · rw [show (-(k : Int) - -(k : Int)).toNat = 0 by omega, show ((0 : Int) - -(k : Int)).toNat = k by omega, Nat.pow_zero, Nat.mul_one]
    rcases hm with ⟨rfl, h⟩ | ⟨rfl, h, -⟩
    · show (m : Int) = (c : Int) + -((rk false c k * 2 ^ k : Nat) : Int)
      omega
    · show (m : Int) = -(c : Int) + ((rk true c k * 2 ^ k : Nat) : Int)
      omega
  · rw [Int.natAbs_natCast]
    have : FP.Core.sumSign s (!s) (m : Int) = false := by
      unfold FP.Core.sumSign
      split
      · cases s <;> rfl
      · exact decide_eq_false (by omega)
    rw [this]
theorem left_lt {m k : Nat} (hk : 1 ≤ k) (hk2 : k ≤ 1074) (hm : m < 9007199254740992 ∨ 2 ^ (k - 1) ≤ m) : FP.Core.dkey (dv false m (-(k : Int))) < FP.Core.dkey (UInt64.ofNat 4602678819172646912) ↔ m < 2 ^ (k - 1) := by
  have hB := Nat.two_pow_pos (1074 - k)
  have hDB : 2 ^ 1073 = 2 ^ (k - 1) * 2 ^ (1074 - k) := by rw [← Nat.pow_add]; congr 1; omega
  rw [zlt (dv_n _ _ _) nc_4602678819172646912, half_dv, dv_z (p := -1) (k := 1073) (by decide) (by decide) (by decide), sg_f, Nat.one_mul, hDB]
  rcases hm with hm | hm
  · rw [dv_z (k := 1074 - k) hm (by omega) (by omega), sg_f]
    rw [Int.ofNat_lt, Nat.mul_lt_mul_right hB]
  · refine iff_of_false ?_ (by omega)
    have h := FP.Core.zval_round_ge FP.Core.good_b64 (s := false) (c := m) (q := -(k : Int)) (e0 := -1074) (V := FP.Core.val64 (dv false 1 (-1))) (FP.Core.val64_fits _) (n64v (dv_n _ _ _)) (by rw [qm64]; decide) (by omega) (by
      rw [dv_z (p := -1) (k := 1073) (by decide) (by decide) (by decide), sg_f, sg_f, Nat.one_mul, hDB, qm64, show ((-1074 : Int) - -1074).toNat = 0 by decide, Nat.pow_zero]
      unfold FP.Core.inUnits
      rw [show (-(k : Int) - -1074).toNat = 1074 - k by omega]
      have := Nat.mul_le_mul_right (2 ^ (1074 - k)) hm
      omega)
    rw [dv_z (p := -1) (k := 1073) (by decide) (by decide) (by decide), sg_f, Nat.one_mul, hDB] at h
    rw [dv_val]
    have h : ((2 ^ (k - 1) * 2 ^ (1074 - k) : Nat) : Int) ≤ FP.Core.zval FP.Core.b64 (FP.Core.roundRatio FP.Core.b64 false m 1 (-(k : Int))) := h
    omega
theorem left_eq {m k : Nat} (hk : 1 ≤ k) (hk2 : k ≤ 1074) (hm : m < 9007199254740992) : FP.Core.dkey (dv false m (-(k : Int))) = FP.Core.dkey (UInt64.ofNat 4602678819172646912) ↔ m = 2 ^ (k - 1) := by
  have hB := Nat.two_pow_pos (1074 - k)
  have hDB : 2 ^ 1073 = 2 ^ (k - 1) * 2 ^ (1074 - k) := by rw [← Nat.pow_add]; congr 1; omega
  rw [zeq (dv_n _ _ _) nc_4602678819172646912, half_dv, dv_z (p := -1) (k := 1073) (by decide) (by decide) (by decide), sg_f, Nat.one_mul, hDB, dv_z (k := 1074 - k) hm (by omega) (by omega), sg_f, Int.ofNat_inj]
  constructor
  · intro h; exact Nat.eq_of_mul_eq_mul_right hB h
  · intro h; rw [h]
theorem even_v {s : Bool} {T : Nat} (hT : T ≤ 4503599627370496) : ∃ E : UInt64, fF (FP.ddiv (dv s T 0) (UInt64.ofNat 4611686018427387904)) = E ∧ vf_n64 (FP.dmul (UInt64.ofNat 4611686018427387904) E) ∧ (FP.Core.dkey (FP.dmul (UInt64.ofNat 4611686018427387904) E) = FP.Core.dkey (dv s T 0) ↔ T % 2 = 0) := by
  refine ⟨_, rfl, ?_⟩
  rw [dv_div2 (by omega) (by decide) (by decide), show ((0 : Int) - 1) = -((1 : Nat) : Int) by decide]
  have hcomm : ∀ e : UInt64, FP.dmul (UInt64.ofNat 4611686018427387904) e = FP.dmul e (UInt64.ofNat 4611686018427387904) := fun e => FP.Core.dmul_comm _ _
  rw [hcomm]
  by_cases h0 : T = 0
  · subst h0
    have hk0 : FP.Core.dkey (dv s 0 (-((1 : Nat) : Int))) = 0 := by
      rw [← fk_0, zeq (dv_n _ _ _) nc_0, z_0, dv_z (k := 1073) (by decide) (by decide) (by decide), Nat.zero_mul, FP.Core.signed_zero]
    have hf : fF (dv s 0 (-((1 : Nat) : Int))) = dv s 0 (-((1 : Nat) : Int)) := by unfold fF; rw [if_pos (Or.inl hk0)]
    rw [hf, dv_mul2 (by decide) (by decide) (by decide)]
    refine ⟨dv_n _ _ _, iff_of_true ?_ (by decide)⟩
    rw [dv_0 s _ 0]
  · rw [dv_flo (by omega) (by omega) (by decide) (by omega)]
    have hr : rk s T 1 < 9007199254740992 := by unfold rk; split <;> omega
    rw [dv_mul2 hr (by decide) (by decide)]
    refine ⟨dv_n _ _ _, ?_⟩
    rw [zeq (dv_n _ _ _) (dv_n _ _ _), dv_z (k := 1075) hr (by decide) (by decide), dv_z (k := 1074) (by omega) (by decide) (by decide), show (2 : Nat) ^ 1075 = 2 * 2 ^ 1074 from Nat.pow_succ', ← Nat.mul_assoc]
    have hB := Nat.two_pow_pos 1074
    have h2 : rk s T 1 * 2 = T ↔ T % 2 = 0 := by unfold rk; split <;> omega
    rw [← h2]
    generalize (2 : Nat) ^ 1074 = B at *
    constructor
    · intro h
      have := congrArg Int.natAbs h
      rw [FP.Core.natAbs_signed, FP.Core.natAbs_signed] at this
      exact Nat.eq_of_mul_eq_mul_right hB this
    · intro h; rw [h]
theorem add_one {s : Bool} {T : Nat} (hT : T ≤ 4503599627370496) (h1 : s = true → 1 ≤ T) : ∃ (s2 : Bool) (N : Nat), FP.dadd (dv s T 0) FP.dconst1 = dv s2 N 0 ∧ N < 9007199254740992 ∧ ((s = false ∧ N = T + 1) ∨ (s = true ∧ N + 1 = T)) := by
  rw [one_dv]
  cases s
  · refine ⟨FP.Core.sumSign false false ((T + 1 : Nat) : Int), T + 1, (dv_add (e := 0) (V := ((T + 1 : Nat) : Int)) (by omega) (by decide) (by decide) (by decide) (by decide) (by decide) (by decide) ?_).trans ?_, by omega, Or.inl ⟨rfl, rfl⟩⟩
    · rw [show ((0 : Int) - 0).toNat = 0 by decide, Nat.pow_zero, Nat.mul_one, Nat.mul_one, sg_f, sg_f]; omega
    · rw [Int.natAbs_natCast]
  · have := h1 rfl
    refine ⟨FP.Core.sumSign true false (-((T - 1 : Nat) : Int)), T - 1, (dv_add (e := 0) (V := -((T - 1 : Nat) : Int)) (by omega) (by decide) (by decide) (by decide) (by decide) (by decide) (by decide) ?_).trans ?_, by omega, Or.inr ⟨rfl, by omega⟩⟩
    · rw [show ((0 : Int) - 0).toNat = 0 by decide, Nat.pow_zero, Nat.mul_one, Nat.mul_one, sg_f, sg_t]; omega
    · rw [Int.natAbs_neg, Int.natAbs_natCast]
theorem C_MM_nearest {μ : mm_M} {x : UInt64} (hx : vf_n64 x) : mm_Det Y_MM_nearest [vd x] μ (some (vd (nr x))) μ := by
  refine det_of h_MM_nearest rfl rfl rfl ?_
  have e0 := dc_eq hx nc_0 .l
  have e1 := dc_ge hx nc_4841369599423283200 .l
  have e2 := dc_gt hx nc_14064741636278059008 .g
  rw [fk_0] at e0
  rw [fk_4841369599423283200] at e1
  rw [fk_14064741636278059008] at e2
  by_cases h0 : FP.Core.dkey x = 0
  · have hw : fW x = false := fW_f.mpr (by omega)
    obtain ⟨c, k, k1, k2, c1, c2, hxd, hnr, hc0⟩ := nr_f hx hw
    have hc := hc0.mpr h0
    subst hc
    refine ev_go [true] [] rfl ⟨trivial, e0.mpr h0⟩ ?_
    refine ev_retd rfl ⟨?_, rfl⟩
    rw [hnr, show FP.Core.nearest 0 (2 ^ k) = 0 from Nat.le_zero.mp (FP.Core.nearest_le (Nat.two_pow_pos k) (by omega)), dv_0 _ 0 (-(k : Int)), ← hxd]
  · by_cases h1 : 4841369599423283200 ≤ FP.Core.dkey x
    · refine ev_go [false, true] [] rfl ⟨⟨trivial, fun h => h0 (e0.mp h)⟩, e1.mpr h1⟩ ?_
      refine ev_retd rfl ⟨?_, rfl⟩
      unfold nr; rw [if_pos (fW_t.mpr (Or.inl h1))]
    · by_cases h2 : FP.Core.dkey x ≤ -4841369599423283200
      · refine ev_go [false, false, false] [] rfl ⟨⟨⟨trivial, fun h => h0 (e0.mp h)⟩, fun h => h1 (e1.mp h)⟩, fun h => by have := e2.mp h; omega⟩ ?_
        refine ev_retd rfl ⟨?_, rfl⟩
        unfold nr; rw [if_pos (fW_t.mpr (Or.inr h2))]
      · refine ev_go [false, false, true] [] rfl ⟨⟨⟨trivial, fun h => h0 (e0.mp h)⟩, fun h => h1 (e1.mp h)⟩, e2.mpr (by omega)⟩ ?_
        have hw : fW x = false := fW_f.mpr (by omega)
        obtain ⟨c, k, k1, k2, c1, c2, hxd, hnr, hc0⟩ := nr_f hx hw
        have hc : 0 < c := Nat.pos_of_ne_zero (fun h => h0 (hc0.mp h))
        have hT0 : fF x = dv (fM x) (rk (fM x) c k) 0 := by
          refine (congrArg fF hxd).trans ?_
          exact dv_flo hc c1 k2 c2
        obtain ⟨m, hm, hmD, hn1, hn2⟩ := near_T (fM x) k1 hc
        have hTb : rk (fM x) c k ≤ 4503599627370496 := by
          have hD := Nat.two_pow_pos k
          unfold rk
          split
          · refine Nat.le_of_lt_succ ((Nat.div_lt_iff_lt_mul hD).mpr ?_)
            rw [Nat.succ_mul]; omega
          · exact Nat.le_of_lt ((Nat.div_lt_iff_lt_mul hD).mpr c2)
        have hlf : FP.dsub x (fF x) = dv false m (-(k : Int)) := by
          rw [hT0]
          refine (congrArg (fun z => FP.dsub z _) hxd).trans ?_
          exact sub_left k1 k2 c1 (by omega) hm
        obtain ⟨E, hE, hEn, hEk⟩ := even_v (s := fM x) hTb
        obtain ⟨s2, Nv, ha1, hNl, hNv⟩ := add_one (s := fM x) hTb (fun h => by rcases hm with ⟨g, -⟩ | ⟨-, -, g⟩ <;> first | exact g | (rw [g] at h; cases h))
        rw [← hT0] at hE hEk ha1
        have hdn : vf_n64 (FP.ddiv (fF x) (UInt64.ofNat 4611686018427387904)) := by rw [hT0, dv_div2 (by omega) (by decide) (by decide)]; exact dv_n _ _ _
        have hFn : vf_n64 (fF x) := fF_n hx
        have hbig : m < 9007199254740992 ∨ (2 ^ (k - 1) ≤ m ∧ rk (fM x) c k % 2 = 1) := by
          by_cases hmb : m < 9007199254740992
          · exact Or.inl hmb
          · refine Or.inr ?_
            have hkk : 54 ≤ k := by
              apply Nat.le_of_not_lt; intro g
              have : 2 ^ k ≤ 2 ^ 53 := Nat.pow_le_pow_right (by decide) (by omega)
              have : (2 : Nat) ^ 53 = 9007199254740992 := by decide
              omega
            have h53 : 2 ^ 53 ≤ 2 ^ (k - 1) := Nat.pow_le_pow_right (by decide) (by omega)
            have h53b : (2 : Nat) ^ 53 = 9007199254740992 := by decide
            have hD : 2 ^ k = 2 * 2 ^ (k - 1) := by rw [← Nat.pow_succ']; congr 1; omega
            rcases hm with ⟨g, hg⟩ | ⟨g, hg, hg2⟩
            · omega
            · have hT1 : rk (fM x) c k = 1 := by
                rw [g]
                show (c + 2 ^ k - 1) / 2 ^ k = 1
                refine Nat.div_eq_of_lt_le (by omega) (by omega)
              rw [hT1] at hg ⊢
              omega
        have l1 := dc_lt (x := FP.dsub x (fF x)) (by rw [hlf]; exact dv_n _ _ _) nc_4602678819172646912 .g
        have l2 := dc_eq (x := FP.dsub x (fF x)) (by rw [hlf]; exact dv_n _ _ _) nc_4602678819172646912 .l
        have l3 := dc_eq hEn hFn .l
        rw [hEk] at l3
        have l4 : FP.Core.dkey (FP.dsub x (fF x)) < FP.Core.dkey (UInt64.ofNat 4602678819172646912) ↔ m < 2 ^ (k - 1) := by
          rw [hlf]; exact left_lt k1 k2 (hbig.imp id And.left)
        rw [l4] at l1
        have hlN : vf_n64 (FP.dsub x (fF x)) := by rw [hlf]; exact dv_n _ _ _
        have haN : vf_n64 (FP.dadd (fF x) FP.dconst1) := by rw [ha1]; exact dv_n _ _ _
        have tail1 : FP.Core.nearest c (2 ^ k) = rk (fM x) c k → fS (fF x) x = nr x := by
          intro h
          rw [hT0, fS_dv (by omega) (by decide) (by decide), hnr, h]
        have tail2 : ((fM x = false ∧ FP.Core.nearest c (2 ^ k) = rk (fM x) c k + 1) ∨ (fM x = true ∧ FP.Core.nearest c (2 ^ k) + 1 = rk (fM x) c k)) → fS (FP.dadd (fF x) FP.dconst1) x = nr x := by
          intro h
          rw [ha1, fS_dv hNl (by decide) (by decide), hnr]
          refine congrArg (fun z => dv (fM x) z 0) ?_
          rcases h with ⟨g, h⟩ | ⟨g, h⟩
          · rcases hNv with ⟨-, hNv⟩ | ⟨g2, -⟩
            · omega
            · rw [g] at g2; cases g2
          · rcases hNv with ⟨g2, -⟩ | ⟨-, hNv⟩
            · rw [g] at g2; cases g2
            · omega
        refine ev_kS 1 k_MM_150 rfl (C_MM_floor hx) ⟨by decide, by decide⟩ rfl ?_
        refine ev_go [] [] rfl ⟨⟨trivial, hlN⟩, hdn⟩ ?_
        refine ev_kS 1 k_MM_150 rfl (C_MM_floor hdn) ⟨by decide, by decide⟩ rfl ?_
        refine ev_cg (st2 := [vd E, vd (UInt64.ofNat 4611686018427387904)]) rfl (by rw [hE]; rfl) rfl ?_
        have fin1 : FP.Core.nearest c (2 ^ k) = rk (fM x) c k → Ev Y_MM_nearest μ (mm_to (mm_co Y_MM_nearest) 93) [(0, vd x), (2, vd (fF x)), (4, vd (FP.dsub x (fF x))), (6, vi (nI 1)), (7, vd (fF x))] [vd x, vd (fF x)] μ (fun r2 μ2 => r2 = some (vd (nr x)) ∧ μ2 = μ) := by
          intro h
          refine ev_kS 2 k_MM_157 rfl (C_MM_signed hFn hx) ⟨by decide, by decide⟩ rfl ?_
          refine ev_go [] [] rfl trivial ?_
          exact ev_retd rfl ⟨by rw [tail1 h], rfl⟩
        have fin2 : FP.Core.nearest c (2 ^ k) = rk (fM x) c k → Ev Y_MM_nearest μ (mm_to (mm_co Y_MM_nearest) 93) [(0, vd x), (2, vd (fF x)), (4, vd (FP.dsub x (fF x))), (6, vi (nI 0)), (7, vd (fF x))] [vd x, vd (fF x)] μ (fun r2 μ2 => r2 = some (vd (nr x)) ∧ μ2 = μ) := by
          intro h
          refine ev_kS 2 k_MM_157 rfl (C_MM_signed hFn hx) ⟨by decide, by decide⟩ rfl ?_
          refine ev_go [] [] rfl trivial ?_
          exact ev_retd rfl ⟨by rw [tail1 h], rfl⟩
        have fin3 : ∀ z : Int32, ((fM x = false ∧ FP.Core.nearest c (2 ^ k) = rk (fM x) c k + 1) ∨ (fM x = true ∧ FP.Core.nearest c (2 ^ k) + 1 = rk (fM x) c k)) → Ev Y_MM_nearest μ (mm_to (mm_co Y_MM_nearest) 93) [(0, vd x), (2, vd (fF x)), (4, vd (FP.dsub x (fF x))), (6, vi z), (7, vd (FP.dadd (fF x) FP.dconst1))] [vd x, vd (FP.dadd (fF x) FP.dconst1)] μ (fun r2 μ2 => r2 = some (vd (nr x)) ∧ μ2 = μ) := by
          intro z h
          refine ev_kS 2 k_MM_157 rfl (C_MM_signed haN hx) ⟨by decide, by decide⟩ rfl ?_
          refine ev_go [] [] rfl trivial ?_
          exact ev_retd rfl ⟨by rw [tail2 h], rfl⟩
        by_cases hev : rk (fM x) c k % 2 = 0
        · have hmb : m < 9007199254740992 := by omega
          have l5 : FP.Core.dkey (FP.dsub x (fF x)) = FP.Core.dkey (UInt64.ofNat 4602678819172646912) ↔ m = 2 ^ (k - 1) := by
            rw [hlf]; exact left_eq k1 k2 hmb
          rw [l5] at l2
          by_cases hlt : m < 2 ^ (k - 1)
          · refine ev_go [false, true] [] rfl ⟨⟨⟨trivial, hEn⟩, l3.mpr hev⟩, l1.mpr hlt⟩ ?_
            exact fin1 (hn1 (Or.inl hlt))
          · by_cases heq : m = 2 ^ (k - 1)
            · refine ev_go [false, false, false, false] [] rfl ⟨⟨⟨⟨⟨trivial, hEn⟩, l3.mpr hev⟩, fun h => hlt (l1.mp h)⟩, l2.mpr heq⟩, by decide⟩ ?_
              exact fin1 (hn1 (Or.inr ⟨heq, hev⟩))
            · refine ev_go [false, false, true] [] rfl ⟨⟨⟨⟨⟨trivial, hEn⟩, l3.mpr hev⟩, fun h => hlt (l1.mp h)⟩, fun h => heq (l2.mp h)⟩, haN⟩ ?_
              exact fin3 _ (hn2 (by rintro (h | ⟨h, -⟩) <;> first | exact hlt h | exact heq h))
        · by_cases hlt : m < 2 ^ (k - 1)
          · refine ev_go [true, true] [] rfl ⟨⟨⟨trivial, hEn⟩, fun h => hev (l3.mp h)⟩, l1.mpr hlt⟩ ?_
            exact fin2 (hn1 (Or.inl hlt))
          · have h3 := hn2 (by rintro (h | ⟨-, h⟩) <;> first | exact hlt h | exact hev h)
            by_cases heq : Op.cmpValue (FP.dcmp (FP.dsub x (fF x)) (UInt64.ofNat 4602678819172646912)) .l = 0
            · refine ev_go [true, false, false, true] [] rfl ⟨⟨⟨⟨⟨⟨trivial, hEn⟩, fun h => hev (l3.mp h)⟩, fun h => hlt (l1.mp h)⟩, heq⟩, by decide⟩, haN⟩ ?_
              exact fin3 _ h3
            · refine ev_go [true, false, true] [] rfl ⟨⟨⟨⟨⟨trivial, hEn⟩, fun h => hev (l3.mp h)⟩, fun h => hlt (l1.mp h)⟩, heq⟩, haN⟩ ?_
              exact fin3 _ h3
