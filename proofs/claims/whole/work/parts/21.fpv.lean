/-! doubles as whole numbers times powers of two -/
theorem qm64 : FP.Core.b64.qmin = -1074 := by decide
theorem qx64 : FP.Core.b64.qmax = 971 := by decide
theorem tl64 : FP.Core.b64.tails = 4503599627370496 := by decide
theorem es64 : FP.Core.b64.exps = 2048 := by decide
theorem pp64 : 2 ^ FP.Core.b64.p = 9007199254740992 := by decide
theorem p52 : (2 : Nat) ^ 52 = 4503599627370496 := by decide
def dv (s : Bool) (r : Nat) (p : Int) : UInt64 := FP.Core.of64 (FP.Core.roundRatio FP.Core.b64 s r 1 p)
theorem dv_val (s : Bool) (r : Nat) (p : Int) : FP.Core.val64 (dv s r p) = FP.Core.roundRatio FP.Core.b64 s r 1 p := FP.Core.val64_of64 (FP.Core.roundRatio_fits FP.Core.good_b64 s r (by decide) p)
theorem rr_nn (f : FP.Core.Fmt) (s : Bool) (A B : Nat) (e : Int) : FP.Core.roundRatio f s A B e ≠ .nan := by
  unfold FP.Core.roundRatio FP.Core.roundAt FP.Core.settle FP.Core.bound
  (repeat' split) <;> (intro h; cases h)
theorem dv_n (s : Bool) (r : Nat) (p : Int) : vf_n64 (dv s r p) := n64w (by rw [dv_val]; exact rr_nn _ _ _ _ _)
theorem dv_cong {s : Bool} {r r2 : Nat} {p p2 : Int} (h : r * 2 ^ (p - p2).toNat = r2 * 2 ^ (p2 - p).toNat) : dv s r p = dv s r2 p2 :=
  congrArg FP.Core.of64 (FP.Core.roundRatio_congr (by decide) (by decide) (by rw [Nat.mul_one, Nat.mul_one]; exact h))
theorem dv_norm {r : Nat} {p : Int} (hr : r < 9007199254740992) (h1 : -1074 ≤ p) : ∃ t : Nat, r * 2 ^ t < 9007199254740992 ∧ -1074 ≤ p - (t : Int) ∧ (p - (t : Int) = -1074 ∨ 4503599627370496 ≤ r * 2 ^ t) := by
  have key : ∀ (k : Nat) (r : Nat) (p : Int), p + 1074 = (k : Int) → r < 9007199254740992 → ∃ t : Nat, r * 2 ^ t < 9007199254740992 ∧ -1074 ≤ p - (t : Int) ∧ (p - (t : Int) = -1074 ∨ 4503599627370496 ≤ r * 2 ^ t) := by
    intro k
    induction k with
    | zero =>
      intro r p hp hr
      exact ⟨0, by rw [Nat.pow_zero, Nat.mul_one]; exact hr, by omega, Or.inl (by omega)⟩
    | succ k ih =>
      intro r p hp hr
      by_cases hb : 4503599627370496 ≤ r
      · exact ⟨0, by rw [Nat.pow_zero, Nat.mul_one]; exact hr, by omega, Or.inr (by rw [Nat.pow_zero, Nat.mul_one]; exact hb)⟩
      · obtain ⟨t, t1, t2, t3⟩ := ih (r * 2) (p - 1) (by omega) (by omega)
        have e : r * 2 * 2 ^ t = r * 2 ^ (t + 1) := by rw [Nat.pow_succ]; ac_rfl
        rw [e] at t1 t3
        exact ⟨t + 1, t1, by omega, t3.imp (fun h => by omega) id⟩
  exact key (p + 1074).toNat r p (by omega) hr
theorem dv_fin {s : Bool} {r : Nat} {p : Int} (hr : r < 9007199254740992) (h1 : -1074 ≤ p) (h2 : p ≤ 971) : ∃ t : Nat, FP.Core.val64 (dv s r p) = .fin s (r * 2 ^ t) (p - (t : Int)) := by
  obtain ⟨t, t1, t2, t3⟩ := dv_norm hr h1
  refine ⟨t, ?_⟩
  rw [dv_val]
  refine FP.Core.roundRatio_exact FP.Core.good_b64 (by decide) ⟨?_, ?_, ?_, ?_⟩ ?_
  · rw [pp64]; exact t1
  · rw [qm64]; exact t2
  · rw [qx64]; omega
  · rw [qm64, tl64]; exact t3
  · rw [show (p - (p - (t : Int))).toNat = t by omega, show (p - (t : Int) - p).toNat = 0 by omega, Nat.pow_zero, Nat.mul_one, Nat.mul_one]
theorem bne_f (s : Bool) : (s != false) = s := by cases s <;> rfl
theorem dv_mul {s : Bool} {r : Nat} {p n : Int} {w : UInt64} (hr : r < 9007199254740992) (h1 : -1074 ≤ p) (h2 : p ≤ 971) (hw : FP.Core.val64 w = .fin false 4503599627370496 (n - 52)) : FP.dmul (dv s r p) w = dv s r (p + n) := by
  obtain ⟨t, hv⟩ := dv_fin (s := s) hr h1 h2
  show FP.Core.of64 (FP.Core.round FP.Core.b64 (FP.Core.exactProduct (FP.Core.val64 (dv s r p)) (FP.Core.val64 w))) = _
  rw [hv, hw]
  refine congrArg FP.Core.of64 ?_
  show FP.Core.roundRatio FP.Core.b64 (s != false) (r * 2 ^ t * 4503599627370496) 1 (p - (t : Int) + (n - 52)) = _
  rw [bne_f]
  refine FP.Core.roundRatio_congr (by decide) (by decide) ?_
  rw [show (p - (t : Int) + (n - 52) - (p + n)).toNat = 0 by omega, show (p + n - (p - (t : Int) + (n - 52))).toNat = t + 52 by omega, Nat.pow_add, Nat.pow_zero, p52]
  simp only [Nat.mul_one, Nat.mul_assoc]
theorem dv_div {s : Bool} {r : Nat} {p n : Int} {w : UInt64} (hr : r < 9007199254740992) (h1 : -1074 ≤ p) (h2 : p ≤ 971) (hw : FP.Core.val64 w = .fin false 4503599627370496 (n - 52)) : FP.ddiv (dv s r p) w = dv s r (p - n) := by
  obtain ⟨t, hv⟩ := dv_fin (s := s) hr h1 h2
  show FP.Core.of64 (FP.Core.quotient FP.Core.b64 (FP.Core.val64 (dv s r p)) (FP.Core.val64 w)) = _
  rw [hv, hw]
  refine congrArg FP.Core.of64 ?_
  show (if (4503599627370496 : Nat) = 0 then (if r * 2 ^ t = 0 then FP.Core.Datum.nan else FP.Core.Datum.inf (s != false)) else FP.Core.roundRatio FP.Core.b64 (s != false) (r * 2 ^ t) 4503599627370496 (p - (t : Int) - (n - 52))) = _
  rw [if_neg (by decide), bne_f]
  refine FP.Core.roundRatio_congr (by decide) (by decide) ?_
  rw [show (p - (t : Int) - (n - 52) - (p - n)).toNat = 52 - t by omega, show (p - n - (p - (t : Int) - (n - 52))).toNat = t - 52 by omega]
  have e : t + (52 - t) = 52 + (t - 52) := by omega
  rw [← p52, Nat.mul_one, Nat.mul_assoc, ← Nat.pow_add, e, Nat.pow_add, Nat.mul_assoc]
theorem dv_of {x : UInt64} {s : Bool} {c : Nat} {q : Int} (h : FP.Core.val64 x = .fin s c q) : x = dv s c q := by
  refine FP.Core.val64_inj (by rw [h]; exact fun g => by cases g) ?_
  rw [dv_val, h]
  exact (FP.Core.round_of_fits FP.Core.good_b64 (d := .fin s c q) (by rw [← h]; exact FP.Core.val64_fits x)).symm
theorem l2d_dv (n : Int64) : FP.l2d n = dv (decide (n.toInt < 0)) n.toInt.natAbs 0 := rfl
theorem i2d_dv (n : Int32) : FP.i2d n = dv (decide (n.toInt < 0)) n.toInt.natAbs 0 := rfl
theorem dv_l2d {r : Nat} (hr : r < 9223372036854775808) : dv false r 0 = FP.l2d (lN r) := by
  rw [l2d_dv, show (lN r).toInt = (r : Int) from lg_ofNat_toInt (by omega), decide_eq_false (by omega), Int.natAbs_natCast]
theorem dv_d2l {r : Nat} (hr : r < 9007199254740992) : FP.d2l (dv false r 0) = lN r := by
  rw [dv_l2d (by omega)]
  refine FP.Core.d2l_l2d_small ⟨?_, ?_⟩ <;> rw [show (lN r).toInt = (r : Int) from lg_ofNat_toInt (by omega)] <;> omega
theorem dv_d2i {r : Nat} (hr : r < 2147483648) : FP.d2i (dv false r 0) = nI r := by
  rw [dv_l2d (by omega)]
  have e : (lN r).toInt = (r : Int) := lg_ofNat_toInt (by omega)
  rw [show FP.d2i (FP.l2d (lN r)) = (lN r).toInt32 from FP.Core.d2i_l2d (by rw [e]; omega) (by rw [e]; omega)]
  apply Int32.toInt_inj.mp
  rw [FP.Core.int64_toInt32 (by rw [e]; omega) (by rw [e]; omega), e, nI_toInt (by omega)]
/-- a double's parts -/
def mtO (b : Nat) : Nat := if b / 4503599627370496 = 0 then b % 4503599627370496 else b % 4503599627370496 + 4503599627370496
def exO (b : Nat) : Nat := if b / 4503599627370496 = 0 then 1 else b / 4503599627370496
theorem mtO_lt (b : Nat) : mtO b < 9007199254740992 := by unfold mtO; split <;> omega
theorem fin_val {x : UInt64} (h : x.toNat % 2 ^ 63 < 9218868437227405312) : FP.Core.val64 x = .fin (fM x) (mtO (x.toNat % 2 ^ 63)) ((exO (x.toNat % 2 ^ 63) : Nat) - 1075 : Int) := by
  have hx := x.toNat_lt
  unfold FP.Core.val64 FP.Core.decode FP.Core.fieldE FP.Core.fieldT FP.Core.fieldS mtO exO fM
  rw [tl64, es64, qm64]
  have hs : (x.toNat / 4503599627370496 / 2048 % 2 == 1) = decide (2 ^ 63 ≤ x.toNat) := by
    by_cases h9 : 2 ^ 63 ≤ x.toNat
    · rw [decide_eq_true h9, show x.toNat / 4503599627370496 / 2048 % 2 = 1 by omega]; rfl
    · rw [decide_eq_false h9, show x.toNat / 4503599627370496 / 2048 % 2 = 0 by omega]; rfl
  have hE : x.toNat / 4503599627370496 % 2048 = x.toNat % 2 ^ 63 / 4503599627370496 := by omega
  have hT : x.toNat % 4503599627370496 = x.toNat % 2 ^ 63 % 4503599627370496 := by omega
  rw [hs, hE, hT, if_neg (by omega)]
  by_cases h0 : x.toNat % 2 ^ 63 / 4503599627370496 = 0
  · rw [if_pos h0, if_pos h0, if_pos h0]; rfl
  · rw [if_neg h0, if_neg h0, if_neg h0, Nat.add_comm (4503599627370496 : Nat), show (-1074 + (((x.toNat % 2 ^ 63 / 4503599627370496 : Nat) : Int) - 1) : Int) = ((x.toNat % 2 ^ 63 / 4503599627370496 : Nat) : Int) - 1075 by omega]
theorem dv_self {x : UInt64} (h : x.toNat % 2 ^ 63 < 9218868437227405312) : x = dv (fM x) (mtO (x.toNat % 2 ^ 63)) ((exO (x.toNat % 2 ^ 63) : Nat) - 1075 : Int) := dv_of (fin_val h)
theorem exO_le {b : Nat} (h : b < 9218868437227405312) : 1 ≤ exO b ∧ exO b ≤ 2046 := by unfold exO; split <;> omega
theorem dv_neg (s : Bool) (r : Nat) (p : Int) : FP.dneg (dv s r p) = dv (!s) r p := by
  refine FP.Core.val64_inj ?_ ?_
  · exact n64v (dneg_n (dv_n s r p))
  · rw [FP.val64_dneg, dv_val, dv_val]
    exact FP.Core.negate_roundRatio _ _ _ _ _
/-- a normal double above 0 -/
def N64 (E T : Nat) : UInt64 := UInt64.ofNat (E * 4503599627370496 + T)
theorem N64_nat {E T : Nat} (hE : E < 2048) (hT : T < 4503599627370496) : (N64 E T).toNat = E * 4503599627370496 + T := by
  unfold N64
  rw [UInt64.toNat_ofNat']
  exact Nat.mod_eq_of_lt (by omega)
theorem N64_dv {E T : Nat} (h1 : 1 ≤ E) (h2 : E ≤ 2046) (hT : T < 4503599627370496) : N64 E T = dv false (T + 4503599627370496) ((E : Int) - 1075) := by
  have hn := N64_nat (E := E) (T := T) (by omega) hT
  have e : (N64 E T).toNat % 2 ^ 63 = E * 4503599627370496 + T := by rw [hn]; omega
  have h := dv_self (x := N64 E T) (by rw [e]; omega)
  rw [e] at h
  have hm : fM (N64 E T) = false := fM_f.mpr (by rw [hn]; omega)
  have q1 : (E * 4503599627370496 + T) / 4503599627370496 = E := by omega
  have q2 : (E * 4503599627370496 + T) % 4503599627370496 = T := by omega
  unfold mtO exO at h
  rw [hm, q1, q2, if_neg (by omega), if_neg (by omega)] at h
  exact h
theorem N64_n {E T : Nat} (h2 : E ≤ 2046) (hT : T < 4503599627370496) : vf_n64 (N64 E T) := by
  rw [n64i, N64_nat (by omega) hT]; omega
theorem N64_key {E T : Nat} (h2 : E ≤ 2046) (hT : T < 4503599627370496) : FP.Core.dkey (N64 E T) = ((E * 4503599627370496 + T : Nat) : Int) := by
  have h := fkd (N64 E T)
  have hn := N64_nat (E := E) (T := T) (by omega) hT
  omega
theorem pw2_N (j : Nat) : pw2 j = N64 (1023 + 2 ^ j) 0 := by
  unfold pw2 N64
  rw [p52, Nat.add_zero]
theorem pw2_v {j : Nat} (hj : j < 10) : FP.Core.val64 (pw2 j) = .fin false 4503599627370496 (((2 ^ j : Nat) : Int) - 52) := by
  have h : ∀ j, j < 10 → FP.Core.val64 (pw2 j) = .fin false 4503599627370496 (((2 ^ j : Nat) : Int) - 52) := by decide +kernel
  exact h j hj
theorem two_v : FP.Core.val64 (UInt64.ofNat 4611686018427387904) = .fin false 4503599627370496 (1 - 52) := by decide +kernel
theorem p52_v : FP.Core.val64 (UInt64.ofNat 4841369599423283200) = .fin false 4503599627370496 (52 - 52) := by decide +kernel
theorem p50_v : FP.Core.val64 (UInt64.ofNat 4832362400168542208) = .fin false 4503599627370496 (50 - 52) := by decide +kernel
theorem N64_mul {E T j : Nat} (hj : j < 10) (h1 : 1 ≤ E) (h2 : E + 2 ^ j ≤ 2046) (hT : T < 4503599627370496) : FP.dmul (N64 E T) (pw2 j) = N64 (E + 2 ^ j) T := by
  have hp : 0 < 2 ^ j := Nat.two_pow_pos j
  rw [N64_dv h1 (by omega) hT, N64_dv (by omega) h2 hT, dv_mul (by omega) (by omega) (by omega) (pw2_v hj)]
  congr 1
  omega
theorem N64_div {E T j : Nat} (hj : j < 10) (h1 : 1 ≤ E - 2 ^ j) (h2 : E ≤ 2046) (hT : T < 4503599627370496) : FP.ddiv (N64 E T) (pw2 j) = N64 (E - 2 ^ j) T := by
  have hp : 0 < 2 ^ j := Nat.two_pow_pos j
  rw [N64_dv (by omega) (by omega) hT, N64_dv (by omega) (by omega) hT, dv_div (by omega) (by omega) (by omega) (pw2_v hj)]
  congr 1
  omega
theorem N64_sub1 {T : Nat} (hT : T < 4503599627370496) : FP.dsub (N64 1023 T) FP.dconst1 = dv false T (-52) := by
  show FP.Core.of64 (FP.Core.round FP.Core.b64 (FP.Core.exactSum (FP.Core.val64 (N64 1023 T)) (FP.Core.negate (FP.Core.val64 FP.dconst1)))) = _
  have hn := N64_nat (E := 1023) (T := T) (by omega) hT
  have e : (N64 1023 T).toNat % 2 ^ 63 = 1023 * 4503599627370496 + T := by rw [hn]; omega
  have h := fin_val (x := N64 1023 T) (by rw [e]; omega)
  rw [e] at h
  have hm : fM (N64 1023 T) = false := fM_f.mpr (by rw [hn]; omega)
  have q1 : (1023 * 4503599627370496 + T) / 4503599627370496 = 1023 := by omega
  have q2 : (1023 * 4503599627370496 + T) % 4503599627370496 = T := by omega
  unfold mtO exO at h
  rw [hm, q1, q2, if_neg (by omega), if_neg (by omega)] at h
  rw [h, show FP.Core.val64 FP.dconst1 = .fin false 4503599627370496 (-52) from by decide +kernel]
  refine congrArg FP.Core.of64 ?_
  show FP.Core.roundRatio FP.Core.b64 (FP.Core.sumSign false true (FP.Core.sumUnits false (T + 4503599627370496) (((1023 : Nat) : Int) - 1075) true 4503599627370496 (-52) (min (((1023 : Nat) : Int) - 1075) (-52)))) (FP.Core.sumUnits false (T + 4503599627370496) (((1023 : Nat) : Int) - 1075) true 4503599627370496 (-52) (min (((1023 : Nat) : Int) - 1075) (-52))).natAbs 1 (min (((1023 : Nat) : Int) - 1075) (-52)) = _
  rw [show min (((1023 : Nat) : Int) - 1075) (-52) = -52 by decide, show (((1023 : Nat) : Int) - 1075) = -52 by decide]
  have hu : FP.Core.sumUnits false (T + 4503599627370496) (-52) true 4503599627370496 (-52) (-52) = (T : Int) := by
    show ((((T + 4503599627370496) * 2 ^ ((-52 : Int) - (-52)).toNat : Nat) : Int)) + -(((4503599627370496 * 2 ^ ((-52 : Int) - (-52)).toNat : Nat) : Int)) = (T : Int)
    rw [show ((-52 : Int) - (-52)).toNat = 0 by decide, Nat.pow_zero]
    omega
  rw [hu, Int.natAbs_natCast]
  have hs : FP.Core.sumSign false true (T : Int) = false := by
    unfold FP.Core.sumSign
    split
    · rfl
    · exact decide_eq_false (by omega)
  rw [hs]
/-- the remainder -/
theorem drem_dv {x y : UInt64} {s t : Bool} {c d : Nat} {q r : Int} (hx : FP.Core.val64 x = .fin s c q) (hy : FP.Core.val64 y = .fin t d r) (hd : d ≠ 0) (hq : r ≤ q) : FP.drem x y = dv s (c * 2 ^ (q - r).toNat % d) r := by
  show FP.Core.of64 (FP.Core.round FP.Core.b64 (FP.Core.exactRemainder (FP.Core.val64 x) (FP.Core.val64 y))) = _
  rw [hx, hy]
  refine congrArg FP.Core.of64 ?_
  show FP.Core.round FP.Core.b64 (if d = 0 then .nan else .fin s (c * 2 ^ (q - min q r).toNat % (d * 2 ^ (r - min q r).toNat)) (min q r)) = _
  rw [if_neg hd, show min q r = r by omega, show (r - r).toNat = 0 by omega, Nat.pow_zero, Nat.mul_one]
  rfl
theorem drem_lt {x y : UInt64} {s t : Bool} {c d : Nat} {q r : Int} (hx : FP.Core.val64 x = .fin s c q) (hy : FP.Core.val64 y = .fin t d r) (h : c * 2 ^ (q - min q r).toNat < d * 2 ^ (r - min q r).toNat) : FP.drem x y = x := by
  refine Eq.trans ?_ (dv_of hx).symm
  show FP.Core.of64 (FP.Core.round FP.Core.b64 (FP.Core.exactRemainder (FP.Core.val64 x) (FP.Core.val64 y))) = _
  rw [hx, hy]
  refine congrArg FP.Core.of64 ?_
  have hd : ¬ d = 0 := by intro e; subst e; omega
  show FP.Core.round FP.Core.b64 (if d = 0 then .nan else .fin s (c * 2 ^ (q - min q r).toNat % (d * 2 ^ (r - min q r).toNat)) (min q r)) = _
  rw [if_neg hd, Nat.mod_eq_of_lt h]
  show FP.Core.roundRatio _ _ _ _ _ = _
  refine FP.Core.roundRatio_congr (by decide) (by decide) ?_
  rw [show (min q r - q).toNat = 0 by omega, Nat.pow_zero]
  simp only [Nat.mul_one]
theorem drem_inf {x y : UInt64} {s t : Bool} {c : Nat} {q : Int} (hx : FP.Core.val64 x = .fin s c q) (hy : FP.Core.val64 y = .inf t) : FP.drem x y = x := by
  refine Eq.trans ?_ (dv_of hx).symm
  show FP.Core.of64 (FP.Core.round FP.Core.b64 (FP.Core.exactRemainder (FP.Core.val64 x) (FP.Core.val64 y))) = _
  rw [hx, hy]
  rfl
/-- sizes compared by their parts -/
theorem size_lt {a b : Nat} (ha : a < 9218868437227405312) (hb : b < 9218868437227405312) : a < b ↔ mtO a * 2 ^ (exO a - min (exO a) (exO b)) < mtO b * 2 ^ (exO b - min (exO a) (exO b)) := by
  have ka := mtO_lt a
  have kb := mtO_lt b
  by_cases h1 : exO a < exO b
  · have hb0 : ¬ b / 4503599627370496 = 0 := by intro e; unfold exO at h1; rw [if_pos e] at h1; split at h1 <;> omega
    have hlt : a < b := by unfold exO at h1; rw [if_neg hb0] at h1; split at h1 <;> omega
    refine iff_of_true hlt ?_
    rw [show exO a - min (exO a) (exO b) = 0 by omega, Nat.pow_zero, Nat.mul_one]
    obtain ⟨n, hn⟩ : ∃ n, exO b - min (exO a) (exO b) = n + 1 := ⟨exO b - exO a - 1, by omega⟩
    rw [hn, Nat.pow_succ]
    have : 4503599627370496 ≤ mtO b := by unfold mtO; rw [if_neg hb0]; omega
    have hp := Nat.two_pow_pos n
    have := Nat.mul_le_mul this hp
    rw [← Nat.mul_assoc]
    omega
  · by_cases h2 : exO b < exO a
    · have ha0 : ¬ a / 4503599627370496 = 0 := by intro e; unfold exO at h2; rw [if_pos e] at h2; split at h2 <;> omega
      have hlt : ¬ a < b := by unfold exO at h2; rw [if_neg ha0] at h2; split at h2 <;> omega
      refine iff_of_false hlt ?_
      rw [show exO b - min (exO a) (exO b) = 0 by omega, Nat.pow_zero, Nat.mul_one]
      obtain ⟨n, hn⟩ : ∃ n, exO a - min (exO a) (exO b) = n + 1 := ⟨exO a - exO b - 1, by omega⟩
      rw [hn, Nat.pow_succ]
      have : 4503599627370496 ≤ mtO a := by unfold mtO; rw [if_neg ha0]; omega
      have hp := Nat.two_pow_pos n
      have := Nat.mul_le_mul this hp
      rw [← Nat.mul_assoc]
      omega
    · have he : exO a = exO b := by omega
      rw [he, show exO b - min (exO b) (exO b) = 0 by omega, Nat.pow_zero, Nat.mul_one, Nat.mul_one]
      unfold exO at he
      unfold mtO
      split at he <;> split at he <;> (repeat' split) <;> omega
theorem size_ge {a b : Nat} (ha : a < 9218868437227405312) (hb : b < 9218868437227405312) (h : ¬ a < b) : exO b ≤ exO a := by
  unfold exO
  (repeat' split) <;> omega
