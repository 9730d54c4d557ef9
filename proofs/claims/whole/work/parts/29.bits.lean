theorem x_lN (x : UInt64) : x.toInt64 = lN x.toNat := by rw [← u_lN, UInt64.ofNat_toNat]
theorem y_nI (x : UInt32) : x.toInt32 = nI x.toNat := by
  show x.toInt32 = (UInt32.ofNat x.toNat).toInt32
  rw [UInt32.ofNat_toNat]
theorem bt_or {x : UInt64} (h : fM x = true) {a : Nat} (ha : x.toNat % 2 ^ 63 = a) : lN a ||| lN 9223372036854775808 = x.toInt64 := by
  have h1 := fM_t.mp h
  have h2 := x.toNat_lt
  rw [lN_or (k := 63) (by decide) (by omega) (by decide), x_lN]
  exact congrArg lN (by omega)
theorem bt_no {x : UInt64} (h : fM x = false) {a : Nat} (ha : x.toNat % 2 ^ 63 = a) : lN a = x.toInt64 := by
  have h1 := fM_f.mp h
  have h2 := x.toNat_lt
  rw [x_lN]
  exact congrArg lN (by omega)
theorem nI_bv (n : Nat) : (nI n).toBitVec = BitVec.ofNat 32 n := rfl
theorem nI_or31 {b : Nat} (hb : b < 2147483648) : nI b ||| nI 2147483648 = nI (b + 2147483648) := by
  apply Int32.toBitVec_inj.mp
  apply BitVec.eq_of_toNat_eq
  rw [Int32.toBitVec_or, BitVec.toNat_or, nI_bv, nI_bv, nI_bv, BitVec.toNat_ofNat, BitVec.toNat_ofNat, BitVec.toNat_ofNat, Nat.mod_eq_of_lt (by omega), Nat.mod_eq_of_lt (a := 2147483648) (by omega), Nat.mod_eq_of_lt (a := b + 2147483648) (by omega)]
  have h := Nat.two_pow_add_eq_or_of_lt (i := 31) (by omega : b < 2 ^ 31) 1
  rw [Nat.mul_one, show (2 : Nat) ^ 31 = 2147483648 by decide] at h
  rw [Nat.or_comm, ← h, Nat.add_comm]
theorem lN_or2 {a b : Nat} (ha : a < 256) (hb : b < 8388608) : lN (a * 8388608) ||| lN b = lN (a * 8388608 + b) := by
  apply Int64.toBitVec_inj.mp
  apply BitVec.eq_of_toNat_eq
  rw [Int64.toBitVec_or, BitVec.toNat_or, lN_bv, lN_bv, lN_bv, BitVec.toNat_ofNat, BitVec.toNat_ofNat, BitVec.toNat_ofNat, Nat.mod_eq_of_lt (by omega), Nat.mod_eq_of_lt (a := b) (by omega), Nat.mod_eq_of_lt (a := a * 8388608 + b) (by omega)]
  have h := Nat.two_pow_add_eq_or_of_lt (i := 23) (by omega : b < 2 ^ 23) a
  rw [show (2 : Nat) ^ 23 = 8388608 by decide, Nat.mul_comm] at h
  exact h.symm
theorem lN_i32w {m : Nat} (h : m < 2147483648) : (lN m).toInt32 = nI m := by
  have e : (lN m).toInt = (m : Int) := lg_ofNat_toInt (by omega)
  apply Int32.toInt_inj.mp
  rw [FP.Core.int64_toInt32 (by rw [e]; omega) (by rw [e]; omega), e, nI_toInt (by omega)]
theorem sb_ex : ∀ E, E < 256 → lN (E + 896) - lN 1023 + lN 127 = lN E := by decide +kernel
theorem sb_sh : ∀ E, E < 256 → lN E <<< ((nI 23).toInt64 &&& 63) = lN (E * 8388608) := by decide +kernel
theorem tl32 : FP.Core.b32.tails = 8388608 := by decide
theorem es32 : FP.Core.b32.exps = 256 := by decide
theorem fin_val32 {x : UInt32} (h : x.toNat % 2 ^ 31 < 2139095040) : FP.Core.val32 x = .fin (decide (2 ^ 31 ≤ x.toNat)) (if x.toNat % 2 ^ 31 / 8388608 = 0 then x.toNat % 2 ^ 31 % 8388608 else x.toNat % 2 ^ 31 % 8388608 + 8388608) (((if x.toNat % 2 ^ 31 / 8388608 = 0 then 1 else x.toNat % 2 ^ 31 / 8388608 : Nat) : Int) - 150) := by
  have hx := x.toNat_lt
  unfold FP.Core.val32 FP.Core.decode FP.Core.fieldE FP.Core.fieldT FP.Core.fieldS
  rw [tl32, es32, b32q]
  have hs : (x.toNat / 8388608 / 256 % 2 == 1) = decide (2 ^ 31 ≤ x.toNat) := by
    by_cases h9 : 2 ^ 31 ≤ x.toNat
    · rw [decide_eq_true h9, show x.toNat / 8388608 / 256 % 2 = 1 by omega]; rfl
    · rw [decide_eq_false h9, show x.toNat / 8388608 / 256 % 2 = 0 by omega]; rfl
  have hE : x.toNat / 8388608 % 256 = x.toNat % 2 ^ 31 / 8388608 := by omega
  have hT : x.toNat % 8388608 = x.toNat % 2 ^ 31 % 8388608 := by omega
  rw [hs, hE, hT, if_neg (by omega)]
  by_cases h0 : x.toNat % 2 ^ 31 / 8388608 = 0
  · rw [if_pos h0, if_pos h0, if_pos h0]; rfl
  · rw [if_neg h0, if_neg h0, if_neg h0, Nat.add_comm (8388608 : Nat), show (-149 + (((x.toNat % 2 ^ 31 / 8388608 : Nat) : Int) - 1) : Int) = ((x.toNat % 2 ^ 31 / 8388608 : Nat) : Int) - 150 by omega]
theorem f2d_sub {x : UInt32} (hx : vf_n32 x) (h : x.toNat % 2 ^ 31 < 8388608) : FP.f2d x = dv (decide (2 ^ 31 ≤ x.toNat)) (x.toNat % 2 ^ 31) (-149) := by
  have hv := fin_val32 (x := x) (by omega)
  rw [if_pos (by omega), if_pos (by omega), Nat.mod_eq_of_lt h] at hv
  exact (f2d_dv hx hv).1
theorem f2d_nor {x : UInt32} (hx : vf_n32 x) (h1 : 8388608 ≤ x.toNat % 2 ^ 31) (h2 : x.toNat % 2 ^ 31 < 2139095040) : FP.f2d x = dv (decide (2 ^ 31 ≤ x.toNat)) (x.toNat % 2 ^ 31 % 8388608 + 8388608) (((x.toNat % 2 ^ 31 / 8388608 : Nat) : Int) - 150) := by
  have hv := fin_val32 (x := x) h2
  rw [if_neg (by omega), if_neg (by omega)] at hv
  exact (f2d_dv hx hv).1
theorem N64_f {E T : Nat} (h1 : 1 ≤ E) (h2 : E ≤ 254) (hT : T < 8388608) : dv false (T + 8388608) ((E : Int) - 150) = N64 (E + 896) (T * 536870912) := by
  rw [N64_dv (by omega) (by omega) (by omega)]
  refine dv_cong ?_
  rw [show ((E : Int) - 150 - (((E + 896 : Nat) : Int) - 1075)).toNat = 29 by omega, show ((((E + 896 : Nat) : Int) - 1075) - ((E : Int) - 150)).toNat = 0 by omega, Nat.pow_zero, show (2 : Nat) ^ 29 = 536870912 by decide]
  omega
theorem sb_key {b : Nat} (hb : b < 8388608) : (dv false b (-149)).toNat % 2 ^ 63 < 4039728865751334912 := by
  obtain ⟨t, ht⟩ := dv_fin (s := false) (r := b) (p := -149) (by omega) (by decide) (by decide)
  have hn := dv_n false b (-149)
  have hk := (n64i _).mp hn
  apply Nat.lt_of_not_le
  intro hge
  have hlt : (dv false b (-149)).toNat % 2 ^ 63 < 9218868437227405312 := by
    rcases Nat.lt_or_ge ((dv false b (-149)).toNat % 2 ^ 63) 9218868437227405312 with h | h
    · exact h
    · obtain ⟨s, hs⟩ := (dinf hn).mp (by omega)
      rw [hs] at ht; cases ht
  have hv := fin_val hlt
  rw [ht] at hv
  obtain ⟨n, hnn⟩ : ∃ n, n = (dv false b (-149)).toNat % 2 ^ 63 := ⟨_, rfl⟩
  rw [← hnn] at hv hge hlt
  injection hv with e1 e2 e3
  unfold mtO at e2
  unfold exO at e3
  rw [if_neg (by omega)] at e2 e3
  have ht29 : t ≤ 29 := by omega
  have hp : 2 ^ t ≤ 2 ^ 29 := Nat.pow_le_pow_right (by decide) ht29
  have hm : b * 2 ^ t ≤ 8388607 * 2 ^ 29 := Nat.mul_le_mul (by omega) hp
  rw [show (2 : Nat) ^ 29 = 536870912 by decide] at hm
  omega
theorem fA_lt {y : UInt64} (h : (fA y).toNat < 9218868437227405312) : fE y = false := by
  rw [fA_nat] at h
  exact fE_f.mpr (by omega)
theorem sb_fin {x : UInt32} (hx : vf_n32 x) (hf : x.toNat % 2 ^ 31 < 2139095040) : fE (FP.f2d x) = false ∧ fM (FP.f2d x) = decide (2 ^ 31 ≤ x.toNat) ∧ ((x.toNat % 2 ^ 31 < 8388608 ∧ fA (FP.f2d x) = dv false (x.toNat % 2 ^ 31) (-149)) ∨ (8388608 ≤ x.toNat % 2 ^ 31 ∧ fA (FP.f2d x) = N64 (x.toNat % 2 ^ 31 / 8388608 + 896) (x.toNat % 2 ^ 31 % 8388608 * 536870912))) := by
  by_cases h : x.toNat % 2 ^ 31 < 8388608
  · have e := f2d_sub hx h
    have ea : fA (FP.f2d x) = dv false (x.toNat % 2 ^ 31) (-149) := by rw [e]; exact fA_dv (by omega) (by decide) (by decide)
    have hk := sb_key h
    have hl := (dv false (x.toNat % 2 ^ 31) (-149)).toNat_lt
    refine ⟨fE_f.mpr ?_, ?_, Or.inl ⟨h, ea⟩⟩
    · have := fA_nat (FP.f2d x)
      rw [ea] at this
      omega
    · rw [e]; exact fM_dv _ (by omega) (by decide) (by decide)
  · have e := f2d_nor hx (by omega) hf
    have ea : fA (FP.f2d x) = N64 (x.toNat % 2 ^ 31 / 8388608 + 896) (x.toNat % 2 ^ 31 % 8388608 * 536870912) := by
      rw [e, fA_dv (by omega) (by omega) (by omega)]; exact N64_f (by omega) (by omega) (by omega)
    refine ⟨fE_f.mpr ?_, ?_, Or.inr ⟨by omega, ea⟩⟩
    · have := fA_nat (FP.f2d x)
      rw [ea, N64_nat (by omega) (by omega)] at this
      omega
    · rw [e]; exact fM_dv _ (by omega) (by omega) (by omega)
theorem i_inf {x : UInt32} (h : x.toNat % 2 ^ 31 = 2139095040) : x = 2139095040 ∨ x = 4286578688 := by
  have := x.toNat_lt
  rcases (by omega : x.toNat = 2139095040 ∨ x.toNat = 4286578688) with e | e
  · exact Or.inl (UInt32.toNat_inj.mp e)
  · exact Or.inr (UInt32.toNat_inj.mp e)
set_option maxRecDepth 100000 in
theorem h_JF_isNaN : mm_ok Y_JF_isNaN := ⟨by decide +kernel, by decide +kernel, by decide +kernel, mm_m6 (List.mem_of_getElem? (i := 228) (by decide +kernel))⟩
set_option maxRecDepth 100000 in
theorem h_JF_floatToIntBits : mm_ok Y_JF_floatToIntBits := ⟨by decide +kernel, by decide +kernel, by decide +kernel, mm_m6 (List.mem_of_getElem? (i := 225) (by decide +kernel))⟩
theorem w_JF_l : Cond.methodLink "java/lang/Float" 74 ⟨"java/lang/Float", "floatToRawIntBits", "(F)I"⟩ ∈ tables_1 := mm_m6 (List.mem_of_getElem? (i := 229) (by decide +kernel))
theorem w_JF_s : Cond.static ⟨"java/lang/Float", "floatToRawIntBits", "(F)I"⟩ ∈ tables_1 := mm_m6 (List.mem_of_getElem? (i := 230) (by decide +kernel))
theorem w_JF_n : Cond.native ⟨"java/lang/Float", "floatToRawIntBits", "(F)I"⟩ ∈ tables_1 := mm_m6 (List.mem_of_getElem? (i := 231) (by decide +kernel))
theorem w_JF_i : Cond.initialized "java/lang/Float" ∈ tables_1 := mm_m1 (List.mem_of_getElem? (i := 19) (by decide +kernel))
theorem ev_f2i {Y : mm_Y} {μ0 : mm_M} {pc : Nat} {t : List Nat} {e2 : mm_E} {rem : List mm_E} {L : mm_L} {b : UInt32} {st2 : List mm_V} {μ : mm_M} {Post : Option mm_V → mm_M → Prop} (hown : mm_ow Y = "java/lang/Float") (hfr : 1 ≤ mm_fr Y) (hlo : 60 ≤ mm_lo Y) (hcs : Nat.ble (mm_cs st2) 8 = true) (k : Ev Y μ0 (e2 :: rem) L (vi b.toInt32 :: st2) μ Post) : Ev Y μ0 ((pc, .invokestatic 74, 3, (0, 0, 0, 0, 0), t) :: e2 :: rem) L (vf b :: st2) μ Post := by
  obtain ⟨r, μ1, h1, h2⟩ := k
  have hcs := Nat.ble_eq.mp hcs
  refine ⟨r, μ1, h1, mm_fall ?_ ?_ h2⟩
  · intro Γ l p e s m args below meth c H locs ls R cells slots Q hF hlen hck hd hrm hok hl kk
    exact vn_f2i hF.1 hF.2.1 (hF.2.2.1.trans hl.1.symm) hF.2.2.2.2.2.1 (hF.wd (by rw [hown]; exact w_JF_l) rfl) (hF.wd w_JF_n rfl) (hF.wd w_JF_s rfl) (hF.wd w_JF_i rfl) (by rw [hrm.1]; exact hfr) (by rw [mm_cs_le, hrm.2.1]; omega) hd (kk _ hl)
  · intro hck hwf hL ho
    exact ⟨hL, mm_okl.c (by intro a e; cases e) ho.t⟩
theorem fc_s {x : UInt32} (hx : vf_n32 x) : Op.cmpValue (FP.fcmp x x) .l = 0 := by
  rw [show FP.fcmp x x = some .eq from FP.Core.fcmp_self (n32v hx)]; rfl
theorem dc_s {x : UInt64} (hx : vf_n64 x) : Op.cmpValue (FP.dcmp x x) .l = 0 := (dc_eq hx hx .l).mpr rfl
theorem C_JF_isNaN {μ : mm_M} {x : UInt32} (hx : vf_n32 x) : mm_Det Y_JF_isNaN [vf x] μ (some (vi (nI 0))) μ := by
  refine det_of h_JF_isNaN rfl rfl rfl ?_
  refine ev_go [true] [] rfl ⟨trivial, fc_s hx⟩ ?_
  exact ev_retz rfl (Or.inl (by decide)) ⟨rfl, rfl⟩
theorem C_JF_floatToIntBits {μ : mm_M} {x : UInt32} (hx : vf_n32 x) : mm_Det Y_JF_floatToIntBits [vf x] μ (some (vi x.toInt32)) μ := by
  refine det_of h_JF_floatToIntBits rfl rfl rfl ?_
  refine ev_go [] [] rfl trivial ?_
  refine ev_kS 1 k_JF_59 rfl (C_JF_isNaN hx) ⟨by decide, by decide⟩ rfl ?_
  refine ev_go [false] [] rfl ⟨trivial, by decide⟩ ?_
  refine ev_f2i rfl (by decide) (by decide) rfl ?_
  refine ev_go [] [] rfl trivial ?_
  exact ev_reti rfl ⟨rfl, rfl⟩
theorem C_JD_isNaN {μ : mm_M} {x : UInt64} (hx : vf_n64 x) : mm_Det Y_JD_isNaN [vd x] μ (some (vi (nI 0))) μ := by
  refine det_of h_JD_isNaN rfl rfl rfl ?_
  refine ev_go [true] [] rfl ⟨trivial, dc_s hx⟩ ?_
  exact ev_retz rfl (Or.inl (by decide)) ⟨rfl, rfl⟩
theorem C_JD_doubleToLongBits {μ : mm_M} {x : UInt64} (hx : vf_n64 x) : mm_Det Y_JD_doubleToLongBits [vd x] μ (some (vl x.toInt64)) μ := by
  refine det_of h_JD_doubleToLongBits rfl rfl rfl ?_
  refine ev_go [] [] rfl trivial ?_
  refine ev_kS 1 k_JD_122 rfl (C_JD_isNaN hx) ⟨by decide, by decide⟩ rfl ?_
  refine ev_go [false] [] rfl ⟨trivial, by decide⟩ ?_
  exact ev_retl rfl ⟨rfl, rfl⟩
theorem ev_gBT {Y : mm_Y} {μ0 : mm_M} {rem : List mm_E} {L : mm_L} {st : List mm_V} {μ : mm_M} {Post : Option mm_V → mm_M → Prop} (bs : List Bool) (os : List (Option Nat)) {e2 : mm_E} {rem2 : List mm_E} {L2 : mm_L} {st2 : List mm_V} {μ2 : mm_M} {P2 : Prop} (h : mm_go 5000 (mm_co Y) rem L st μ bs os True = some (e2 :: rem2, L2, st2, μ2, P2)) (k : Ev Y μ0 (e2 :: rem2) L2 st2 μ2 Post) (hp : P2 := by (repeat' apply And.intro) <;> first | exact trivial | assumption | exact zb_e0.mpr (by assumption) | exact zb_n0.mpr (by assumption)) : Ev Y μ0 rem L st μ Post := ev_go bs os h hp k
theorem C_bits_ep {K : Nat → Nat} {I : Nat → Nat → Int32} {J : Nat → Nat → Int64} {F : Nat → Nat → UInt32} {D : Nat → Nat → UInt64} {R : Nat → Nat → Option Nat} {nx sl : Nat} (hP : ∀ j, j < 10 → D 12 j = pw2 j) {x : UInt64} (hx : vf_n64 x) (he : fE x = true) (hm : fM x = false) : mm_Det Y_RE_bits [vr 6 11, vd x] (K, I, J, F, D, R, nx, sl) (some (vl x.toInt64)) (K, I, J, F, D, R, nx, sl) := by
  have k1 := fkd x
  have k2 := (n64i x).mp hx
  have e2 := fE_t.mp he
  refine det_of h_RE_bits rfl rfl rfl ?_
  refine ev_g0 rfl ?_
  refine ev_kS 1 k_RE_76 rfl (C_RE_isEndless hx) ⟨by decide, by decide⟩ rfl ?_
  refine ev_gBT [false] [] rfl ?_
  refine ev_kS 1 k_RE_19 rfl (C_RE_isMinus hx) ⟨by decide, by decide⟩ rfl ?_
  refine ev_gBT [true] [] rfl ?_
  refine ev_retl rfl ?_
  exact ⟨congrArg (fun z => some (vl z)) (bt_no hm e2), rfl⟩
theorem C_bits_em {K : Nat → Nat} {I : Nat → Nat → Int32} {J : Nat → Nat → Int64} {F : Nat → Nat → UInt32} {D : Nat → Nat → UInt64} {R : Nat → Nat → Option Nat} {nx sl : Nat} (hP : ∀ j, j < 10 → D 12 j = pw2 j) {x : UInt64} (hx : vf_n64 x) (he : fE x = true) (hm : fM x = true) : mm_Det Y_RE_bits [vr 6 11, vd x] (K, I, J, F, D, R, nx, sl) (some (vl x.toInt64)) (K, I, J, F, D, R, nx, sl) := by
  have k1 := fkd x
  have k2 := (n64i x).mp hx
  have e2 := fE_t.mp he
  refine det_of h_RE_bits rfl rfl rfl ?_
  refine ev_g0 rfl ?_
  refine ev_kS 1 k_RE_76 rfl (C_RE_isEndless hx) ⟨by decide, by decide⟩ rfl ?_
  refine ev_gBT [false] [] rfl ?_
  refine ev_kS 1 k_RE_19 rfl (C_RE_isMinus hx) ⟨by decide, by decide⟩ rfl ?_
  refine ev_gBT [false] [] rfl ?_
  refine ev_retl rfl ?_
  exact ⟨congrArg (fun z => some (vl z)) (bt_or hm e2), rfl⟩
theorem C_bits_fp {K : Nat → Nat} {I : Nat → Nat → Int32} {J : Nat → Nat → Int64} {F : Nat → Nat → UInt32} {D : Nat → Nat → UInt64} {R : Nat → Nat → Option Nat} {nx sl : Nat} (hP : ∀ j, j < 10 → D 12 j = pw2 j) {x : UInt64} (hx : vf_n64 x) (he : fE x = false) (hm : fM x = false) : mm_Det Y_RE_bits [vr 6 11, vd x] (K, I, J, F, D, R, nx, sl) (some (vl x.toInt64)) (K, I, J, F, D, R, nx, sl) := by
  have k1 := fkd x
  have k2 := (n64i x).mp hx
  have e2 := fE_f.mp he
  refine det_of h_RE_bits rfl rfl rfl ?_
  refine ev_g0 rfl ?_
  refine ev_kS 1 k_RE_76 rfl (C_RE_isEndless hx) ⟨by decide, by decide⟩ rfl ?_
  refine ev_gBT [true] [] rfl ?_
  refine ev_kS 1 k_RE_34 rfl (C_RE_withoutSign hx) ⟨by decide, by decide⟩ rfl ?_
  refine ev_g0 rfl ?_
  refine ev_kV 1 k_RE_49 rfl (C_RE_bitsOfA hP (fA_nat x) (by omega)) rfl ⟨by decide, by decide⟩ rfl ?_
  refine ev_g0 rfl ?_
  refine ev_kS 1 k_RE_19 rfl (C_RE_isMinus hx) ⟨by decide, by decide⟩ rfl ?_
  refine ev_gBT [true] [] rfl ?_
  refine ev_retl rfl ?_
  exact ⟨congrArg (fun z => some (vl z)) (bt_no hm rfl), rfl⟩
theorem C_bits_fm {K : Nat → Nat} {I : Nat → Nat → Int32} {J : Nat → Nat → Int64} {F : Nat → Nat → UInt32} {D : Nat → Nat → UInt64} {R : Nat → Nat → Option Nat} {nx sl : Nat} (hP : ∀ j, j < 10 → D 12 j = pw2 j) {x : UInt64} (hx : vf_n64 x) (he : fE x = false) (hm : fM x = true) : mm_Det Y_RE_bits [vr 6 11, vd x] (K, I, J, F, D, R, nx, sl) (some (vl x.toInt64)) (K, I, J, F, D, R, nx, sl) := by
  have k1 := fkd x
  have k2 := (n64i x).mp hx
  have e2 := fE_f.mp he
  refine det_of h_RE_bits rfl rfl rfl ?_
  refine ev_g0 rfl ?_
  refine ev_kS 1 k_RE_76 rfl (C_RE_isEndless hx) ⟨by decide, by decide⟩ rfl ?_
  refine ev_gBT [true] [] rfl ?_
  refine ev_kS 1 k_RE_34 rfl (C_RE_withoutSign hx) ⟨by decide, by decide⟩ rfl ?_
  refine ev_g0 rfl ?_
  refine ev_kV 1 k_RE_49 rfl (C_RE_bitsOfA hP (fA_nat x) (by omega)) rfl ⟨by decide, by decide⟩ rfl ?_
  refine ev_g0 rfl ?_
  refine ev_kS 1 k_RE_19 rfl (C_RE_isMinus hx) ⟨by decide, by decide⟩ rfl ?_
  refine ev_gBT [false] [] rfl ?_
  refine ev_retl rfl ?_
  exact ⟨congrArg (fun z => some (vl z)) (bt_or hm rfl), rfl⟩
theorem C_RE_bits {K : Nat → Nat} {I : Nat → Nat → Int32} {J : Nat → Nat → Int64} {F : Nat → Nat → UInt32} {D : Nat → Nat → UInt64} {R : Nat → Nat → Option Nat} {nx sl : Nat} (hP : ∀ j, j < 10 → D 12 j = pw2 j) {x : UInt64} (hx : vf_n64 x) : mm_Det Y_RE_bits [vr 6 11, vd x] (K, I, J, F, D, R, nx, sl) (some (vl x.toInt64)) (K, I, J, F, D, R, nx, sl) := by
  cases he : fE x with
  | true => cases hm : fM x with
    | true => exact C_bits_em hP hx he hm
    | false => exact C_bits_ep hP hx he hm
  | false => cases hm : fM x with
    | true => exact C_bits_fm hP hx he hm
    | false => exact C_bits_fp hP hx he hm
theorem C_sb1 {K : Nat → Nat} {I : Nat → Nat → Int32} {J : Nat → Nat → Int64} {F : Nat → Nat → UInt32} {D : Nat → Nat → UInt64} {R : Nat → Nat → Option Nat} {nx sl : Nat} (hP : ∀ j, j < 10 → D 12 j = pw2 j) {b : Nat} (hb : b < 8388608) : mm_Det Y_RE_smallBitsOfSize [vr 6 11, vd (dv false b (-149))] (K, I, J, F, D, R, nx, sl) (some (vi (nI b))) (K, I, J, F, D, R, nx, sl) := by
  have hx := dv_n false b (-149)
  have k1 := fkd (dv false b (-149))
  have k2 := sb_key hb
  refine det_of h_RE_smallBitsOfSize rfl rfl rfl ?_
  refine ev_gF [false] [] rfl ?_
  refine ev_kV 2 k_RE_65 rfl (C_RE_scaledP hP (N := 149) (by decide) (by omega) (by decide) (by decide)) rfl ⟨by decide, by decide⟩ rfl ?_
  refine ev_g0 rfl ?_
  refine ev_reti rfl ?_
  refine ⟨congrArg (fun z => some (vi z)) ?_, rfl⟩
  exact dv_d2i (by omega)
theorem C_sb2 {K : Nat → Nat} {I : Nat → Nat → Int32} {J : Nat → Nat → Int64} {F : Nat → Nat → UInt32} {D : Nat → Nat → UInt64} {R : Nat → Nat → Option Nat} {nx sl : Nat} (hP : ∀ j, j < 10 → D 12 j = pw2 j) {E T : Nat} (h1 : 1 ≤ E) (h2 : E ≤ 254) (hT : T < 8388608) : mm_Det Y_RE_smallBitsOfSize [vr 6 11, vd (N64 (E + 896) (T * 536870912))] (K, I, J, F, D, R, nx, sl) (some (vi (nI (E * 8388608 + T)))) (K, I, J, F, D, R, nx, sl) := by
  have hx : vf_n64 (N64 (E + 896) (T * 536870912)) := N64_n (by omega) (by omega)
  have k1 := N64_key (E := E + 896) (T := T * 536870912) (by omega) (by omega)
  refine det_of h_RE_smallBitsOfSize rfl rfl rfl ?_
  refine ev_gF [true] [] rfl ?_
  refine ev_kV 1 k_RE_49 rfl (C_RE_bitsOfA hP (N64_nat (by omega) (by omega)) (by omega)) rfl ⟨by decide, by decide⟩ rfl ?_
  refine ev_g0 rfl ?_
  refine ev_reti rfl ?_
  refine ⟨congrArg (fun z => some (vi z)) ?_, rfl⟩
  rw [lN_ush52 (by omega), lN_ush29 (by omega), lN_and (k := 23) (by omega) (by decide) (by decide), show ((E + 896) * 4503599627370496 + T * 536870912) / 4503599627370496 = E + 896 by omega, show ((E + 896) * 4503599627370496 + T * 536870912) / 536870912 % 2 ^ 23 = T by omega, sb_ex E (by omega), sb_sh E (by omega), lN_or2 (by omega) hT, lN_i32w (by omega)]
theorem C_sb {K : Nat → Nat} {I : Nat → Nat → Int32} {J : Nat → Nat → Int64} {F : Nat → Nat → UInt32} {D : Nat → Nat → UInt64} {R : Nat → Nat → Option Nat} {nx sl : Nat} (hP : ∀ j, j < 10 → D 12 j = pw2 j) {x : UInt32} (hx : vf_n32 x) (hf : x.toNat % 2 ^ 31 < 2139095040) : mm_Det Y_RE_smallBitsOfSize [vr 6 11, vd (fA (FP.f2d x))] (K, I, J, F, D, R, nx, sl) (some (vi (nI (x.toNat % 2 ^ 31)))) (K, I, J, F, D, R, nx, sl) := by
  obtain ⟨-, -, ⟨h1, e⟩ | ⟨h1, e⟩⟩ := sb_fin hx hf
  · rw [e]; exact C_sb1 hP h1
  · rw [e]
    have h := C_sb2 (K := K) (I := I) (J := J) (F := F) (R := R) (nx := nx) (sl := sl) hP (E := x.toNat % 2 ^ 31 / 8388608) (T := x.toNat % 2 ^ 31 % 8388608) (by omega) (by omega) (by omega)
    rw [show x.toNat % 2 ^ 31 / 8388608 * 8388608 + x.toNat % 2 ^ 31 % 8388608 = x.toNat % 2 ^ 31 by omega] at h
    exact h
theorem C_small_ep {K : Nat → Nat} {I : Nat → Nat → Int32} {J : Nat → Nat → Int64} {F : Nat → Nat → UInt32} {D : Nat → Nat → UInt64} {R : Nat → Nat → Option Nat} {nx sl : Nat} (hP : ∀ j, j < 10 → D 12 j = pw2 j) {x : UInt32} {b : Nat} (hz : vf_n64 (FP.f2d x)) (he : fE (FP.f2d x) = true) (hm : fM (FP.f2d x) = false)  (hv : nI 2139095040 = x.toInt32) : mm_Det Y_RE_smallBits [vr 6 11, vf x] (K, I, J, F, D, R, nx, sl) (some (vl x.toInt32.toInt64)) (K, I, J, F, D, R, nx, sl) := by
  refine det_of h_RE_smallBits rfl rfl rfl ?_
  refine ev_gBT [] [] rfl ?_
  refine ev_kS 1 k_RE_76 rfl (C_RE_isEndless hz) ⟨by decide, by decide⟩ rfl ?_
  refine ev_gBT [false] [] rfl ?_
  refine ev_kS 1 k_RE_19 rfl (C_RE_isMinus hz) ⟨by decide, by decide⟩ rfl ?_
  refine ev_gBT [true] [] rfl ?_
  refine ev_retl rfl ?_
  exact ⟨congrArg (fun z => some (vl (Int32.toInt64 z))) hv, rfl⟩
theorem C_small_em {K : Nat → Nat} {I : Nat → Nat → Int32} {J : Nat → Nat → Int64} {F : Nat → Nat → UInt32} {D : Nat → Nat → UInt64} {R : Nat → Nat → Option Nat} {nx sl : Nat} (hP : ∀ j, j < 10 → D 12 j = pw2 j) {x : UInt32} {b : Nat} (hz : vf_n64 (FP.f2d x)) (he : fE (FP.f2d x) = true) (hm : fM (FP.f2d x) = true)  (hv : nI 2139095040 ||| nI 2147483648 = x.toInt32) : mm_Det Y_RE_smallBits [vr 6 11, vf x] (K, I, J, F, D, R, nx, sl) (some (vl x.toInt32.toInt64)) (K, I, J, F, D, R, nx, sl) := by
  refine det_of h_RE_smallBits rfl rfl rfl ?_
  refine ev_gBT [] [] rfl ?_
  refine ev_kS 1 k_RE_76 rfl (C_RE_isEndless hz) ⟨by decide, by decide⟩ rfl ?_
  refine ev_gBT [false] [] rfl ?_
  refine ev_kS 1 k_RE_19 rfl (C_RE_isMinus hz) ⟨by decide, by decide⟩ rfl ?_
  refine ev_gBT [false] [] rfl ?_
  refine ev_retl rfl ?_
  exact ⟨congrArg (fun z => some (vl (Int32.toInt64 z))) hv, rfl⟩
theorem C_small_fp {K : Nat → Nat} {I : Nat → Nat → Int32} {J : Nat → Nat → Int64} {F : Nat → Nat → UInt32} {D : Nat → Nat → UInt64} {R : Nat → Nat → Option Nat} {nx sl : Nat} (hP : ∀ j, j < 10 → D 12 j = pw2 j) {x : UInt32} {b : Nat} (hz : vf_n64 (FP.f2d x)) (he : fE (FP.f2d x) = false) (hm : fM (FP.f2d x) = false) (hS : mm_Det Y_RE_smallBitsOfSize [vr 6 11, vd (fA (FP.f2d x))] (K, I, J, F, D, R, nx, sl) (some (vi (nI b))) (K, I, J, F, D, R, nx, sl)) (hv : nI b = x.toInt32) : mm_Det Y_RE_smallBits [vr 6 11, vf x] (K, I, J, F, D, R, nx, sl) (some (vl x.toInt32.toInt64)) (K, I, J, F, D, R, nx, sl) := by
  refine det_of h_RE_smallBits rfl rfl rfl ?_
  refine ev_gBT [] [] rfl ?_
  refine ev_kS 1 k_RE_76 rfl (C_RE_isEndless hz) ⟨by decide, by decide⟩ rfl ?_
  refine ev_gBT [true] [] rfl ?_
  refine ev_kS 1 k_RE_34 rfl (C_RE_withoutSign hz) ⟨by decide, by decide⟩ rfl ?_
  refine ev_g0 rfl ?_
  refine ev_kV 1 k_RE_84 rfl hS rfl ⟨by decide, by decide⟩ rfl ?_
  refine ev_gBT [] [] rfl ?_
  refine ev_kS 1 k_RE_19 rfl (C_RE_isMinus hz) ⟨by decide, by decide⟩ rfl ?_
  refine ev_gBT [true] [] rfl ?_
  refine ev_retl rfl ?_
  exact ⟨congrArg (fun z => some (vl (Int32.toInt64 z))) hv, rfl⟩
theorem C_small_fm {K : Nat → Nat} {I : Nat → Nat → Int32} {J : Nat → Nat → Int64} {F : Nat → Nat → UInt32} {D : Nat → Nat → UInt64} {R : Nat → Nat → Option Nat} {nx sl : Nat} (hP : ∀ j, j < 10 → D 12 j = pw2 j) {x : UInt32} {b : Nat} (hz : vf_n64 (FP.f2d x)) (he : fE (FP.f2d x) = false) (hm : fM (FP.f2d x) = true) (hS : mm_Det Y_RE_smallBitsOfSize [vr 6 11, vd (fA (FP.f2d x))] (K, I, J, F, D, R, nx, sl) (some (vi (nI b))) (K, I, J, F, D, R, nx, sl)) (hv : nI b ||| nI 2147483648 = x.toInt32) : mm_Det Y_RE_smallBits [vr 6 11, vf x] (K, I, J, F, D, R, nx, sl) (some (vl x.toInt32.toInt64)) (K, I, J, F, D, R, nx, sl) := by
  refine det_of h_RE_smallBits rfl rfl rfl ?_
  refine ev_gBT [] [] rfl ?_
  refine ev_kS 1 k_RE_76 rfl (C_RE_isEndless hz) ⟨by decide, by decide⟩ rfl ?_
  refine ev_gBT [true] [] rfl ?_
  refine ev_kS 1 k_RE_34 rfl (C_RE_withoutSign hz) ⟨by decide, by decide⟩ rfl ?_
  refine ev_g0 rfl ?_
  refine ev_kV 1 k_RE_84 rfl hS rfl ⟨by decide, by decide⟩ rfl ?_
  refine ev_gBT [] [] rfl ?_
  refine ev_kS 1 k_RE_19 rfl (C_RE_isMinus hz) ⟨by decide, by decide⟩ rfl ?_
  refine ev_gBT [false] [] rfl ?_
  refine ev_retl rfl ?_
  exact ⟨congrArg (fun z => some (vl (Int32.toInt64 z))) hv, rfl⟩
theorem C_RE_smallBits {K : Nat → Nat} {I : Nat → Nat → Int32} {J : Nat → Nat → Int64} {F : Nat → Nat → UInt32} {D : Nat → Nat → UInt64} {R : Nat → Nat → Option Nat} {nx sl : Nat} (hP : ∀ j, j < 10 → D 12 j = pw2 j) {x : UInt32} (hx : vf_n32 x) : mm_Det Y_RE_smallBits [vr 6 11, vf x] (K, I, J, F, D, R, nx, sl) (some (vl x.toInt32.toInt64)) (K, I, J, F, D, R, nx, sl) := by
  have hz := f2d_n hx
  have hle := (n32i x).mp hx
  by_cases hi : x.toNat % 2 ^ 31 = 2139095040
  · rcases i_inf hi with rfl | rfl
    · exact C_small_ep (b := 0) hP hz (by decide +kernel) (by decide +kernel) (by decide)
    · exact C_small_em (b := 0) hP hz (by decide +kernel) (by decide +kernel) (by decide)
  · have hf : x.toNat % 2 ^ 31 < 2139095040 := by omega
    obtain ⟨he, hm, -⟩ := sb_fin hx hf
    have hl := x.toNat_lt
    by_cases h9 : 2 ^ 31 ≤ x.toNat
    · exact C_small_fm hP hz he (hm.trans (decide_eq_true h9)) (C_sb hP hx hf) (by rw [nI_or31 (by omega), y_nI]; exact congrArg nI (by omega))
    · exact C_small_fp hP hz he (hm.trans (decide_eq_false h9)) (C_sb hP hx hf) (by rw [y_nI]; exact congrArg nI (by omega))
