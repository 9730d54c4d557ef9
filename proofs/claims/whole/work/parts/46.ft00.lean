theorem nk {n : Nat} {lo hi : Int} {v : Int32} (h : lo ≤ v.toInt ∧ v.toInt ≤ hi) (hl : lo = 0) (hh : hi + 1 = (n : Int)) : Nk n v := by
  refine ⟨v.toInt.toNat, by omega, ?_⟩
  apply Int32.toInt_inj.mp
  have := v.toInt_lt
  rw [nI_toInt (by omega)]
  omega
theorem p60 {v : Int32} (h : -60 ≤ v.toInt ∧ v.toInt ≤ 60) : P60 v := by
  by_cases h0 : 0 ≤ v.toInt
  · obtain ⟨n, hn, e⟩ := nk (n := 61) (v := v) (lo := 0) (hi := 60) ⟨h0, h.2⟩ rfl (by decide)
    exact ⟨n, hn, Or.inl e⟩
  · obtain ⟨n, hn⟩ : ∃ n : Nat, v.toInt = -(n : Int) := ⟨(-v.toInt).toNat, by omega⟩
    refine ⟨n, by omega, Or.inr ?_⟩
    apply Int32.toInt_inj.mp
    rw [hn]
    exact ((by decide +kernel : ∀ n, n < 61 → (-(nI n)).toInt = -(n : Int)) n (by omega)).symm
theorem eqk {v : Int32} {k : Nat} (h : v.toInt = (k : Int)) (hk : k < 10000) : v = nI k := by
  apply Int32.toInt_inj.mp
  rw [nI_toInt (by omega)]
  exact h
theorem ri_rg {lo hi : Int64} {v : Int32} : ri lo hi v.toInt64 = rg lo.toInt hi.toInt v := by unfold ri rg; rw [jl2]
theorem C_in_m60_60 {μ : mm_M} {v : Int32} : mm_Det Y_MM_in [vl v.toInt64, vl (lN 18446744073709551556), vl (lN 60)] μ (some (vi (zb (rg (-60) 60 v)))) μ := by
  have h := C_in (μ := μ) (v := v.toInt64) (lo := lN 18446744073709551556) (hi := lN 60)
  rw [ri_rg, show (lN 18446744073709551556).toInt = (-60) by decide, show (lN 60).toInt = 60 by decide] at h
  exact h
theorem C_in_0_3 {μ : mm_M} {v : Int32} : mm_Det Y_MM_in [vl v.toInt64, vl (lN 0), vl (lN 3)] μ (some (vi (zb (rg 0 3 v)))) μ := by
  have h := C_in (μ := μ) (v := v.toInt64) (lo := lN 0) (hi := lN 3)
  rw [ri_rg, show (lN 0).toInt = 0 by decide, show (lN 3).toInt = 3 by decide] at h
  exact h
theorem C_in_0_4 {μ : mm_M} {v : Int32} : mm_Det Y_MM_in [vl v.toInt64, vl (lN 0), vl (lN 4)] μ (some (vi (zb (rg 0 4 v)))) μ := by
  have h := C_in (μ := μ) (v := v.toInt64) (lo := lN 0) (hi := lN 4)
  rw [ri_rg, show (lN 0).toInt = 0 by decide, show (lN 4).toInt = 4 by decide] at h
  exact h
theorem C_in_0_5 {μ : mm_M} {v : Int32} : mm_Det Y_MM_in [vl v.toInt64, vl (lN 0), vl (lN 5)] μ (some (vi (zb (rg 0 5 v)))) μ := by
  have h := C_in (μ := μ) (v := v.toInt64) (lo := lN 0) (hi := lN 5)
  rw [ri_rg, show (lN 0).toInt = 0 by decide, show (lN 5).toInt = 5 by decide] at h
  exact h
theorem C_in_0_7 {μ : mm_M} {v : Int32} : mm_Det Y_MM_in [vl v.toInt64, vl (lN 0), vl (lN 7)] μ (some (vi (zb (rg 0 7 v)))) μ := by
  have h := C_in (μ := μ) (v := v.toInt64) (lo := lN 0) (hi := lN 7)
  rw [ri_rg, show (lN 0).toInt = 0 by decide, show (lN 7).toInt = 7 by decide] at h
  exact h
theorem C_in_0_8 {μ : mm_M} {v : Int32} : mm_Det Y_MM_in [vl v.toInt64, vl (lN 0), vl (lN 8)] μ (some (vi (zb (rg 0 8 v)))) μ := by
  have h := C_in (μ := μ) (v := v.toInt64) (lo := lN 0) (hi := lN 8)
  rw [ri_rg, show (lN 0).toInt = 0 by decide, show (lN 8).toInt = 8 by decide] at h
  exact h
theorem C_in_0_11 {μ : mm_M} {v : Int32} : mm_Det Y_MM_in [vl v.toInt64, vl (lN 0), vl (lN 11)] μ (some (vi (zb (rg 0 11 v)))) μ := by
  have h := C_in (μ := μ) (v := v.toInt64) (lo := lN 0) (hi := lN 11)
  rw [ri_rg, show (lN 0).toInt = 0 by decide, show (lN 11).toInt = 11 by decide] at h
  exact h
theorem C_in_0_14 {μ : mm_M} {v : Int32} : mm_Det Y_MM_in [vl v.toInt64, vl (lN 0), vl (lN 14)] μ (some (vi (zb (rg 0 14 v)))) μ := by
  have h := C_in (μ := μ) (v := v.toInt64) (lo := lN 0) (hi := lN 14)
  rw [ri_rg, show (lN 0).toInt = 0 by decide, show (lN 14).toInt = 14 by decide] at h
  exact h
theorem C_in_0_39 {μ : mm_M} {v : Int32} : mm_Det Y_MM_in [vl v.toInt64, vl (lN 0), vl (lN 39)] μ (some (vi (zb (rg 0 39 v)))) μ := by
  have h := C_in (μ := μ) (v := v.toInt64) (lo := lN 0) (hi := lN 39)
  rw [ri_rg, show (lN 0).toInt = 0 by decide, show (lN 39).toInt = 39 by decide] at h
  exact h
theorem C_in_0_65 {μ : mm_M} {v : Int32} : mm_Det Y_MM_in [vl v.toInt64, vl (lN 0), vl (lN 65)] μ (some (vi (zb (rg 0 65 v)))) μ := by
  have h := C_in (μ := μ) (v := v.toInt64) (lo := lN 0) (hi := lN 65)
  rw [ri_rg, show (lN 0).toInt = 0 by decide, show (lN 65).toInt = 65 by decide] at h
  exact h
theorem C_in_8_11 {μ : mm_M} {v : Int32} : mm_Det Y_MM_in [vl v.toInt64, vl (lN 8), vl (lN 11)] μ (some (vi (zb (rg 8 11 v)))) μ := by
  have h := C_in (μ := μ) (v := v.toInt64) (lo := lN 8) (hi := lN 11)
  rw [ri_rg, show (lN 8).toInt = 8 by decide, show (lN 11).toInt = 11 by decide] at h
  exact h
theorem C_in_16_25 {μ : mm_M} {v : Int32} : mm_Det Y_MM_in [vl v.toInt64, vl (lN 16), vl (lN 25)] μ (some (vi (zb (rg 16 25 v)))) μ := by
  have h := C_in (μ := μ) (v := v.toInt64) (lo := lN 16) (hi := lN 25)
  rw [ri_rg, show (lN 16).toInt = 16 by decide, show (lN 25).toInt = 25 by decide] at h
  exact h
theorem C_in_20_29 {μ : mm_M} {v : Int32} : mm_Det Y_MM_in [vl v.toInt64, vl (lN 20), vl (lN 29)] μ (some (vi (zb (rg 20 29 v)))) μ := by
  have h := C_in (μ := μ) (v := v.toInt64) (lo := lN 20) (hi := lN 29)
  rw [ri_rg, show (lN 20).toInt = 20 by decide, show (lN 29).toInt = 29 by decide] at h
  exact h
theorem ev_gF3 {Y : mm_Y} {μ0 : mm_M} {rem : List mm_E} {L : mm_L} {st : List mm_V} {μ : mm_M} {Post : Option mm_V → mm_M → Prop} (bs : List Bool) (os : List (Option Nat)) {e2 : mm_E} {rem2 : List mm_E} {L2 : mm_L} {st2 : List mm_V} {μ2 : mm_M} {P2 : Prop} (h : mm_go 5000 (mm_co Y) rem L st μ bs os True = some (e2 :: rem2, L2, st2, μ2, P2)) (k : Ev Y μ0 (e2 :: rem2) L2 st2 μ2 Post) (hp : P2 := by (repeat' apply And.intro) <;> first | exact trivial | assumption | rfl | decide | omega | (simp (disch := first | assumption | omega | decide) only [i_add, i_mul, n_cl, nI_and7, nI_and3, v_in, i_eq, i_lt, i_le, i_eq0, i_lt0, i_ge0, i_gt0, i_le0, lg_cmp_eq, lg_cmp_ge, lg_cmp_gt, lg_cmp_le, lg_cmp_lt, ↓zb_e0, ↓zb_n0, Classical.not_not, up_ne, Nat.zero_add, Nat.add_zero, j_lt, j_le, j_eq, j_z, n_ti, i_m60, i_m1i, rg_t, rg_f, Nat.reduceMul, Nat.reduceAdd, Nat.reduceDiv, Bool.and_eq_true, Bool.and_eq_false_iff, Bool.not_eq_true', Bool.not_eq_false', decide_eq_true_iff, decide_eq_false_iff_not, Bool.or_eq_true, Bool.or_eq_false_iff, *] <;> first | assumption | omega | decide)) : Ev Y μ0 rem L st μ Post := ev_go bs os h hp k
theorem ev_bF3 {Y : mm_Y} {μ0 : mm_M} {rem : List mm_E} {L : mm_L} {st : List mm_V} {μ : mm_M} {Post : Option mm_V → mm_M → Prop} {e2 e3 : mm_E} {rem2 rem3 : List mm_E} {L2 L3 : mm_L} {st2 st3 : List mm_V} {μ2 μ3 : mm_M} {c c2 d d2 : Prop} (hT : mm_go 1 (mm_co Y) rem L st μ [true] [] True = some (e2 :: rem2, L2, st2, μ2, True ∧ c)) (hF : mm_go 1 (mm_co Y) rem L st μ [false] [] True = some (e3 :: rem3, L3, st3, μ3, True ∧ c2)) (kt : d → Ev Y μ0 (e2 :: rem2) L2 st2 μ2 Post) (kf : d2 → Ev Y μ0 (e3 :: rem3) L3 st3 μ3 Post) (hc : ¬ c → c2 := by first | exact id | exact Classical.not_not.mp) (g1 : c → d := by intro hh; (try simp (disch := first | assumption | omega | decide) only [i_add, i_mul, n_cl, nI_and7, nI_and3, v_in, i_eq, i_lt, i_le, i_eq0, i_lt0, i_ge0, i_gt0, i_le0, lg_cmp_eq, lg_cmp_ge, lg_cmp_gt, lg_cmp_le, lg_cmp_lt, ↓zb_e0, ↓zb_n0, Classical.not_not, up_ne, Nat.zero_add, Nat.add_zero, j_lt, j_le, j_eq, j_z, n_ti, i_m60, i_m1i, rg_t, rg_f, Nat.reduceMul, Nat.reduceAdd, Nat.reduceDiv, Bool.and_eq_true, Bool.and_eq_false_iff, Bool.not_eq_true', Bool.not_eq_false', decide_eq_true_iff, decide_eq_false_iff_not, Bool.or_eq_true, Bool.or_eq_false_iff, *] at hh); exact hh) (g2 : c2 → d2 := by intro hh; (try simp (disch := first | assumption | omega | decide) only [i_add, i_mul, n_cl, nI_and7, nI_and3, v_in, i_eq, i_lt, i_le, i_eq0, i_lt0, i_ge0, i_gt0, i_le0, lg_cmp_eq, lg_cmp_ge, lg_cmp_gt, lg_cmp_le, lg_cmp_lt, ↓zb_e0, ↓zb_n0, Classical.not_not, up_ne, Nat.zero_add, Nat.add_zero, j_lt, j_le, j_eq, j_z, n_ti, i_m60, i_m1i, rg_t, rg_f, Nat.reduceMul, Nat.reduceAdd, Nat.reduceDiv, Bool.and_eq_true, Bool.and_eq_false_iff, Bool.not_eq_true', Bool.not_eq_false', decide_eq_true_iff, decide_eq_false_iff_not, Bool.or_eq_true, Bool.or_eq_false_iff, *] at hh); exact hh) : Ev Y μ0 rem L st μ Post := ev_br hT hF hc (fun h => kt (g1 h)) (fun h => kf (g2 h))
theorem lf_F3 {p : Prop} (h : p := by first | rfl | assumption | (simp (disch := first | assumption | omega | decide) only [i_add, i_mul, n_cl, nI_and7, nI_and3, v_in, i_eq, i_lt, i_le, i_eq0, i_lt0, i_ge0, i_gt0, i_le0, lg_cmp_eq, lg_cmp_ge, lg_cmp_gt, lg_cmp_le, lg_cmp_lt, ↓zb_e0, ↓zb_n0, Classical.not_not, up_ne, Nat.zero_add, Nat.add_zero, j_lt, j_le, j_eq, j_z, n_ti, i_m60, i_m1i, rg_t, rg_f, Nat.reduceMul, Nat.reduceAdd, Nat.reduceDiv, Bool.and_eq_true, Bool.and_eq_false_iff, Bool.not_eq_true', Bool.not_eq_false', decide_eq_true_iff, decide_eq_false_iff_not, Bool.or_eq_true, Bool.or_eq_false_iff, *] <;> first | rfl | assumption | omega | decide)) : p := h
theorem FT_0 {a b c : Int32} : ∃ v : Bool, (∀ μ : mm_M, mm_Det Y_SH_fit [vi (nI 0), vi a, vi b, vi c] μ (some (vi (zb v))) μ) ∧ (∀ μm : mm_M, mm_Det Y_MM_isAct [vi (nI 0), vi a, vi b, vi c] μm (some (vi (zb v))) μm) ∧ (v = true → OKA 0 a b c) := by
  by_cases ha : 0 ≤ a.toInt ∧ a.toInt ≤ 7
  · skip
    refine ⟨true, ?_, ?_, fun _ => ?_⟩
    · intro μ
      refine det_of h_SH_fit rfl rfl rfl ?_
      refine ev_gF3 [false, true] [] rfl ?_
      refine ev_top2 (a2 := _) (b2 := vi (nI 1)) rfl (congrArg vi (by decide)) ?_
      refine ev_kS 2 k_SH_15 rfl C_fits1 ⟨by decide, by decide⟩ rfl ?_
      refine ev_gF3 [false] [] rfl ?_
      refine ev_top2 (a2 := _) (b2 := vi (nI 0)) rfl (congrArg vi (by decide)) ?_
      refine ev_kS 2 k_SH_15 rfl C_fits0 ⟨by decide, by decide⟩ rfl ?_
      refine ev_gF3 [false] [] rfl ?_
      refine ev_top2 (a2 := _) (b2 := vi (nI 0)) rfl (congrArg vi (by decide)) ?_
      refine ev_kS 2 k_SH_15 rfl C_fits0 ⟨by decide, by decide⟩ rfl ?_
      refine ev_gF3 [true] [] rfl ?_
      refine ev_inS 4 k_SH_19 h_SH_fitsByB rfl rfl rfl rfl ⟨by decide, by decide⟩ rfl ?_
      refine ev_gF3 [true, false, true] [] rfl ?_
      refine ev_retz rfl (by first | decide | exact zb_01 _) ?_
      refine ev_g0 rfl ?_
      refine ev_retz rfl (by first | decide | exact zb_01 _) ?_
      first | exact ⟨rfl, rfl⟩ | exact ⟨congrArg (fun z => some (vi (zb z))) lf_F3, rfl⟩
    · intro μ
      refine det_of h_MM_isAct rfl rfl rfl ?_
      refine ev_g0 rfl ?_
      refine ev_kS 3 k_MM_188 rfl (C_in_0_65) ⟨by decide, by decide⟩ rfl ?_
      refine ev_gF3 [false, true, false] [] rfl ?_
      refine ev_inS 4 k_MM_250 h_MM_isFirst rfl rfl rfl rfl ⟨by decide, by decide⟩ rfl ?_
      refine ev_gF3 [] [some 0] rfl ?_
      refine ev_inS 1 k_MM_218 h_MM_isN rfl rfl rfl rfl ⟨by decide, by decide⟩ rfl ?_
      refine ev_g0 rfl ?_
      refine ev_kS 3 k_MM_188 rfl (C_in_0_7) ⟨by decide, by decide⟩ rfl ?_
      refine ev_g0 rfl ?_
      refine ev_retz rfl (by first | decide | exact zb_01 _) ?_
      refine ev_g0 rfl ?_
      refine ev_retz rfl (by first | decide | exact zb_01 _) ?_
      refine ev_g0 rfl ?_
      refine ev_retz rfl (by first | decide | exact zb_01 _) ?_
      first | exact ⟨rfl, rfl⟩ | exact ⟨congrArg (fun z => some (vi (zb z))) lf_F3, rfl⟩
    · exact (nk (n := 8) ha rfl (by decide))
  · skip
    refine ⟨false, ?_, ?_, fun h => by cases h⟩
    · intro μ
      refine det_of h_SH_fit rfl rfl rfl ?_
      refine ev_gF3 [false, true] [] rfl ?_
      refine ev_top2 (a2 := _) (b2 := vi (nI 1)) rfl (congrArg vi (by decide)) ?_
      refine ev_kS 2 k_SH_15 rfl C_fits1 ⟨by decide, by decide⟩ rfl ?_
      refine ev_gF3 [true] [] rfl ?_
      refine ev_retz rfl (by first | decide | exact zb_01 _) ?_
      first | exact ⟨rfl, rfl⟩ | exact ⟨congrArg (fun z => some (vi (zb z))) lf_F3, rfl⟩
    · intro μ
      refine det_of h_MM_isAct rfl rfl rfl ?_
      refine ev_g0 rfl ?_
      refine ev_kS 3 k_MM_188 rfl (C_in_0_65) ⟨by decide, by decide⟩ rfl ?_
      refine ev_gF3 [false, true, false] [] rfl ?_
      refine ev_inS 4 k_MM_250 h_MM_isFirst rfl rfl rfl rfl ⟨by decide, by decide⟩ rfl ?_
      refine ev_gF3 [] [some 0] rfl ?_
      refine ev_inS 1 k_MM_218 h_MM_isN rfl rfl rfl rfl ⟨by decide, by decide⟩ rfl ?_
      refine ev_g0 rfl ?_
      refine ev_kS 3 k_MM_188 rfl (C_in_0_7) ⟨by decide, by decide⟩ rfl ?_
      refine ev_g0 rfl ?_
      refine ev_retz rfl (by first | decide | exact zb_01 _) ?_
      refine ev_g0 rfl ?_
      refine ev_retz rfl (by first | decide | exact zb_01 _) ?_
      refine ev_g0 rfl ?_
      refine ev_retz rfl (by first | decide | exact zb_01 _) ?_
      first | exact ⟨rfl, rfl⟩ | exact ⟨congrArg (fun z => some (vi (zb z))) lf_F3, rfl⟩
theorem FT_1 {a b c : Int32} : ∃ v : Bool, (∀ μ : mm_M, mm_Det Y_SH_fit [vi (nI 1), vi a, vi b, vi c] μ (some (vi (zb v))) μ) ∧ (∀ μm : mm_M, mm_Det Y_MM_isAct [vi (nI 1), vi a, vi b, vi c] μm (some (vi (zb v))) μm) ∧ (v = true → OKA 1 a b c) := by
  by_cases ha : 0 ≤ a.toInt ∧ a.toInt ≤ 3
  · skip
    by_cases hc : (-60) ≤ c.toInt ∧ c.toInt ≤ 60
    · skip
      refine ⟨true, ?_, ?_, fun _ => ?_⟩
      · intro μ
        refine det_of h_SH_fit rfl rfl rfl ?_
        refine ev_gF3 [false, true] [] rfl ?_
        refine ev_top2 (a2 := _) (b2 := vi (nI 2)) rfl (congrArg vi (by decide)) ?_
        refine ev_kS 2 k_SH_15 rfl C_fits2 ⟨by decide, by decide⟩ rfl ?_
        refine ev_gF3 [false] [] rfl ?_
        refine ev_top2 (a2 := _) (b2 := vi (nI 0)) rfl (congrArg vi (by decide)) ?_
        refine ev_kS 2 k_SH_15 rfl C_fits0 ⟨by decide, by decide⟩ rfl ?_
        refine ev_gF3 [false] [] rfl ?_
        refine ev_top2 (a2 := _) (b2 := vi (nI 7)) rfl (congrArg vi (by decide)) ?_
        refine ev_kS 2 k_SH_15 rfl C_fits7 ⟨by decide, by decide⟩ rfl ?_
        refine ev_gF3 [true] [] rfl ?_
        refine ev_inS 4 k_SH_19 h_SH_fitsByB rfl rfl rfl rfl ⟨by decide, by decide⟩ rfl ?_
        refine ev_gF3 [true, false, true] [] rfl ?_
        refine ev_retz rfl (by first | decide | exact zb_01 _) ?_
        refine ev_g0 rfl ?_
        refine ev_retz rfl (by first | decide | exact zb_01 _) ?_
        first | exact ⟨rfl, rfl⟩ | exact ⟨congrArg (fun z => some (vi (zb z))) lf_F3, rfl⟩
      · intro μ
        refine det_of h_MM_isAct rfl rfl rfl ?_
        refine ev_g0 rfl ?_
        refine ev_kS 3 k_MM_188 rfl (C_in_0_65) ⟨by decide, by decide⟩ rfl ?_
        refine ev_gF3 [false, true, false] [] rfl ?_
        refine ev_inS 4 k_MM_250 h_MM_isFirst rfl rfl rfl rfl ⟨by decide, by decide⟩ rfl ?_
        refine ev_gF3 [] [some 1] rfl ?_
        refine ev_inS 1 k_MM_214 h_MM_isX rfl rfl rfl rfl ⟨by decide, by decide⟩ rfl ?_
        refine ev_g0 rfl ?_
        refine ev_kS 3 k_MM_188 rfl (C_in_0_3) ⟨by decide, by decide⟩ rfl ?_
        refine ev_g0 rfl ?_
        refine ev_retz rfl (by first | decide | exact zb_01 _) ?_
        refine ev_gF3 [false] [] rfl ?_
        refine ev_kS 3 k_MM_188 rfl (C_in_m60_60) ⟨by decide, by decide⟩ rfl ?_
        refine ev_gF3 [false] [] rfl ?_
        refine ev_retz rfl (by first | decide | exact zb_01 _) ?_
        refine ev_g0 rfl ?_
        refine ev_retz rfl (by first | decide | exact zb_01 _) ?_
        first | exact ⟨rfl, rfl⟩ | exact ⟨congrArg (fun z => some (vi (zb z))) lf_F3, rfl⟩
      · exact ⟨(nk (n := 4) ha rfl (by decide)), (p60 hc)⟩
    · skip
      refine ⟨false, ?_, ?_, fun h => by cases h⟩
      · intro μ
        refine det_of h_SH_fit rfl rfl rfl ?_
        refine ev_gF3 [false, true] [] rfl ?_
        refine ev_top2 (a2 := _) (b2 := vi (nI 2)) rfl (congrArg vi (by decide)) ?_
        refine ev_kS 2 k_SH_15 rfl C_fits2 ⟨by decide, by decide⟩ rfl ?_
        refine ev_gF3 [false] [] rfl ?_
        refine ev_top2 (a2 := _) (b2 := vi (nI 0)) rfl (congrArg vi (by decide)) ?_
        refine ev_kS 2 k_SH_15 rfl C_fits0 ⟨by decide, by decide⟩ rfl ?_
        refine ev_gF3 [false] [] rfl ?_
        refine ev_top2 (a2 := _) (b2 := vi (nI 7)) rfl (congrArg vi (by decide)) ?_
        refine ev_kS 2 k_SH_15 rfl C_fits7 ⟨by decide, by decide⟩ rfl ?_
        refine ev_gF3 [false] [] rfl ?_
        refine ev_retz rfl (by first | decide | exact zb_01 _) ?_
        first | exact ⟨rfl, rfl⟩ | exact ⟨congrArg (fun z => some (vi (zb z))) lf_F3, rfl⟩
      · intro μ
        refine det_of h_MM_isAct rfl rfl rfl ?_
        refine ev_g0 rfl ?_
        refine ev_kS 3 k_MM_188 rfl (C_in_0_65) ⟨by decide, by decide⟩ rfl ?_
        refine ev_gF3 [false, true, false] [] rfl ?_
        refine ev_inS 4 k_MM_250 h_MM_isFirst rfl rfl rfl rfl ⟨by decide, by decide⟩ rfl ?_
        refine ev_gF3 [] [some 1] rfl ?_
        refine ev_inS 1 k_MM_214 h_MM_isX rfl rfl rfl rfl ⟨by decide, by decide⟩ rfl ?_
        refine ev_g0 rfl ?_
        refine ev_kS 3 k_MM_188 rfl (C_in_0_3) ⟨by decide, by decide⟩ rfl ?_
        refine ev_g0 rfl ?_
        refine ev_retz rfl (by first | decide | exact zb_01 _) ?_
        refine ev_gF3 [false] [] rfl ?_
        refine ev_kS 3 k_MM_188 rfl (C_in_m60_60) ⟨by decide, by decide⟩ rfl ?_
        refine ev_gF3 [true] [] rfl ?_
        refine ev_retz rfl (by first | decide | exact zb_01 _) ?_
        refine ev_g0 rfl ?_
        refine ev_retz rfl (by first | decide | exact zb_01 _) ?_
        first | exact ⟨rfl, rfl⟩ | exact ⟨congrArg (fun z => some (vi (zb z))) lf_F3, rfl⟩
  · skip
    refine ⟨false, ?_, ?_, fun h => by cases h⟩
    · intro μ
      refine det_of h_SH_fit rfl rfl rfl ?_
      refine ev_gF3 [false, true] [] rfl ?_
      refine ev_top2 (a2 := _) (b2 := vi (nI 2)) rfl (congrArg vi (by decide)) ?_
      refine ev_kS 2 k_SH_15 rfl C_fits2 ⟨by decide, by decide⟩ rfl ?_
      refine ev_gF3 [true] [] rfl ?_
      refine ev_retz rfl (by first | decide | exact zb_01 _) ?_
      first | exact ⟨rfl, rfl⟩ | exact ⟨congrArg (fun z => some (vi (zb z))) lf_F3, rfl⟩
    · intro μ
      refine det_of h_MM_isAct rfl rfl rfl ?_
      refine ev_g0 rfl ?_
      refine ev_kS 3 k_MM_188 rfl (C_in_0_65) ⟨by decide, by decide⟩ rfl ?_
      refine ev_gF3 [false, true, false] [] rfl ?_
      refine ev_inS 4 k_MM_250 h_MM_isFirst rfl rfl rfl rfl ⟨by decide, by decide⟩ rfl ?_
      refine ev_gF3 [] [some 1] rfl ?_
      refine ev_inS 1 k_MM_214 h_MM_isX rfl rfl rfl rfl ⟨by decide, by decide⟩ rfl ?_
      refine ev_g0 rfl ?_
      refine ev_kS 3 k_MM_188 rfl (C_in_0_3) ⟨by decide, by decide⟩ rfl ?_
      refine ev_g0 rfl ?_
      refine ev_retz rfl (by first | decide | exact zb_01 _) ?_
      refine ev_gF3 [true] [] rfl ?_
      refine ev_retz rfl (by first | decide | exact zb_01 _) ?_
      refine ev_g0 rfl ?_
      refine ev_retz rfl (by first | decide | exact zb_01 _) ?_
      first | exact ⟨rfl, rfl⟩ | exact ⟨congrArg (fun z => some (vi (zb z))) lf_F3, rfl⟩
theorem FT_2 {a b c : Int32} : ∃ v : Bool, (∀ μ : mm_M, mm_Det Y_SH_fit [vi (nI 2), vi a, vi b, vi c] μ (some (vi (zb v))) μ) ∧ (∀ μm : mm_M, mm_Det Y_MM_isAct [vi (nI 2), vi a, vi b, vi c] μm (some (vi (zb v))) μm) ∧ (v = true → OKA 2 a b c) := by
  by_cases ha : 0 ≤ a.toInt ∧ a.toInt ≤ 3
  · skip
    by_cases hc : (-60) ≤ c.toInt ∧ c.toInt ≤ 60
    · skip
      refine ⟨true, ?_, ?_, fun _ => ?_⟩
      · intro μ
        refine det_of h_SH_fit rfl rfl rfl ?_
        refine ev_gF3 [false, true] [] rfl ?_
        refine ev_top2 (a2 := _) (b2 := vi (nI 3)) rfl (congrArg vi (by decide)) ?_
        refine ev_kS 2 k_SH_15 rfl C_fits3 ⟨by decide, by decide⟩ rfl ?_
        refine ev_gF3 [false] [] rfl ?_
        refine ev_top2 (a2 := _) (b2 := vi (nI 0)) rfl (congrArg vi (by decide)) ?_
        refine ev_kS 2 k_SH_15 rfl C_fits0 ⟨by decide, by decide⟩ rfl ?_
        refine ev_gF3 [false] [] rfl ?_
        refine ev_top2 (a2 := _) (b2 := vi (nI 7)) rfl (congrArg vi (by decide)) ?_
        refine ev_kS 2 k_SH_15 rfl C_fits7 ⟨by decide, by decide⟩ rfl ?_
        refine ev_gF3 [true] [] rfl ?_
        refine ev_inS 4 k_SH_19 h_SH_fitsByB rfl rfl rfl rfl ⟨by decide, by decide⟩ rfl ?_
        refine ev_gF3 [true, false, true] [] rfl ?_
        refine ev_retz rfl (by first | decide | exact zb_01 _) ?_
        refine ev_g0 rfl ?_
        refine ev_retz rfl (by first | decide | exact zb_01 _) ?_
        first | exact ⟨rfl, rfl⟩ | exact ⟨congrArg (fun z => some (vi (zb z))) lf_F3, rfl⟩
      · intro μ
        refine det_of h_MM_isAct rfl rfl rfl ?_
        refine ev_g0 rfl ?_
        refine ev_kS 3 k_MM_188 rfl (C_in_0_65) ⟨by decide, by decide⟩ rfl ?_
        refine ev_gF3 [false, true, false] [] rfl ?_
        refine ev_inS 4 k_MM_250 h_MM_isFirst rfl rfl rfl rfl ⟨by decide, by decide⟩ rfl ?_
        refine ev_gF3 [] [some 2] rfl ?_
        refine ev_inS 1 k_MM_214 h_MM_isX rfl rfl rfl rfl ⟨by decide, by decide⟩ rfl ?_
        refine ev_g0 rfl ?_
        refine ev_kS 3 k_MM_188 rfl (C_in_0_3) ⟨by decide, by decide⟩ rfl ?_
        refine ev_g0 rfl ?_
        refine ev_retz rfl (by first | decide | exact zb_01 _) ?_
        refine ev_gF3 [false] [] rfl ?_
        refine ev_kS 3 k_MM_188 rfl (C_in_m60_60) ⟨by decide, by decide⟩ rfl ?_
        refine ev_gF3 [false] [] rfl ?_
        refine ev_retz rfl (by first | decide | exact zb_01 _) ?_
        refine ev_g0 rfl ?_
        refine ev_retz rfl (by first | decide | exact zb_01 _) ?_
        first | exact ⟨rfl, rfl⟩ | exact ⟨congrArg (fun z => some (vi (zb z))) lf_F3, rfl⟩
      · exact ⟨(nk (n := 4) ha rfl (by decide)), (p60 hc)⟩
    · skip
      refine ⟨false, ?_, ?_, fun h => by cases h⟩
      · intro μ
        refine det_of h_SH_fit rfl rfl rfl ?_
        refine ev_gF3 [false, true] [] rfl ?_
        refine ev_top2 (a2 := _) (b2 := vi (nI 3)) rfl (congrArg vi (by decide)) ?_
        refine ev_kS 2 k_SH_15 rfl C_fits3 ⟨by decide, by decide⟩ rfl ?_
        refine ev_gF3 [false] [] rfl ?_
        refine ev_top2 (a2 := _) (b2 := vi (nI 0)) rfl (congrArg vi (by decide)) ?_
        refine ev_kS 2 k_SH_15 rfl C_fits0 ⟨by decide, by decide⟩ rfl ?_
        refine ev_gF3 [false] [] rfl ?_
        refine ev_top2 (a2 := _) (b2 := vi (nI 7)) rfl (congrArg vi (by decide)) ?_
        refine ev_kS 2 k_SH_15 rfl C_fits7 ⟨by decide, by decide⟩ rfl ?_
        refine ev_gF3 [false] [] rfl ?_
        refine ev_retz rfl (by first | decide | exact zb_01 _) ?_
        first | exact ⟨rfl, rfl⟩ | exact ⟨congrArg (fun z => some (vi (zb z))) lf_F3, rfl⟩
      · intro μ
        refine det_of h_MM_isAct rfl rfl rfl ?_
        refine ev_g0 rfl ?_
        refine ev_kS 3 k_MM_188 rfl (C_in_0_65) ⟨by decide, by decide⟩ rfl ?_
        refine ev_gF3 [false, true, false] [] rfl ?_
        refine ev_inS 4 k_MM_250 h_MM_isFirst rfl rfl rfl rfl ⟨by decide, by decide⟩ rfl ?_
        refine ev_gF3 [] [some 2] rfl ?_
        refine ev_inS 1 k_MM_214 h_MM_isX rfl rfl rfl rfl ⟨by decide, by decide⟩ rfl ?_
        refine ev_g0 rfl ?_
        refine ev_kS 3 k_MM_188 rfl (C_in_0_3) ⟨by decide, by decide⟩ rfl ?_
        refine ev_g0 rfl ?_
        refine ev_retz rfl (by first | decide | exact zb_01 _) ?_
        refine ev_gF3 [false] [] rfl ?_
        refine ev_kS 3 k_MM_188 rfl (C_in_m60_60) ⟨by decide, by decide⟩ rfl ?_
        refine ev_gF3 [true] [] rfl ?_
        refine ev_retz rfl (by first | decide | exact zb_01 _) ?_
        refine ev_g0 rfl ?_
        refine ev_retz rfl (by first | decide | exact zb_01 _) ?_
        first | exact ⟨rfl, rfl⟩ | exact ⟨congrArg (fun z => some (vi (zb z))) lf_F3, rfl⟩
  · skip
    refine ⟨false, ?_, ?_, fun h => by cases h⟩
    · intro μ
      refine det_of h_SH_fit rfl rfl rfl ?_
      refine ev_gF3 [false, true] [] rfl ?_
      refine ev_top2 (a2 := _) (b2 := vi (nI 3)) rfl (congrArg vi (by decide)) ?_
      refine ev_kS 2 k_SH_15 rfl C_fits3 ⟨by decide, by decide⟩ rfl ?_
      refine ev_gF3 [true] [] rfl ?_
      refine ev_retz rfl (by first | decide | exact zb_01 _) ?_
      first | exact ⟨rfl, rfl⟩ | exact ⟨congrArg (fun z => some (vi (zb z))) lf_F3, rfl⟩
    · intro μ
      refine det_of h_MM_isAct rfl rfl rfl ?_
      refine ev_g0 rfl ?_
      refine ev_kS 3 k_MM_188 rfl (C_in_0_65) ⟨by decide, by decide⟩ rfl ?_
      refine ev_gF3 [false, true, false] [] rfl ?_
      refine ev_inS 4 k_MM_250 h_MM_isFirst rfl rfl rfl rfl ⟨by decide, by decide⟩ rfl ?_
      refine ev_gF3 [] [some 2] rfl ?_
      refine ev_inS 1 k_MM_214 h_MM_isX rfl rfl rfl rfl ⟨by decide, by decide⟩ rfl ?_
      refine ev_g0 rfl ?_
      refine ev_kS 3 k_MM_188 rfl (C_in_0_3) ⟨by decide, by decide⟩ rfl ?_
      refine ev_g0 rfl ?_
      refine ev_retz rfl (by first | decide | exact zb_01 _) ?_
      refine ev_gF3 [true] [] rfl ?_
      refine ev_retz rfl (by first | decide | exact zb_01 _) ?_
      refine ev_g0 rfl ?_
      refine ev_retz rfl (by first | decide | exact zb_01 _) ?_
      first | exact ⟨rfl, rfl⟩ | exact ⟨congrArg (fun z => some (vi (zb z))) lf_F3, rfl⟩
theorem FT_3 {a b c : Int32} : ∃ v : Bool, (∀ μ : mm_M, mm_Det Y_SH_fit [vi (nI 3), vi a, vi b, vi c] μ (some (vi (zb v))) μ) ∧ (∀ μm : mm_M, mm_Det Y_MM_isAct [vi (nI 3), vi a, vi b, vi c] μm (some (vi (zb v))) μm) ∧ (v = true → OKA 3 a b c) := by
  by_cases ha : 0 ≤ a.toInt ∧ a.toInt ≤ 7
  · skip
    by_cases hb : 0 ≤ b.toInt ∧ b.toInt ≤ 11
    · skip
      by_cases hc : 0 ≤ c.toInt ∧ c.toInt ≤ 7
      · skip
        refine ⟨true, ?_, ?_, fun _ => ?_⟩
        · intro μ
          refine det_of h_SH_fit rfl rfl rfl ?_
          refine ev_gF3 [false, true] [] rfl ?_
          refine ev_top2 (a2 := _) (b2 := vi (nI 1)) rfl (congrArg vi (by decide)) ?_
          refine ev_kS 2 k_SH_15 rfl C_fits1 ⟨by decide, by decide⟩ rfl ?_
          refine ev_gF3 [false] [] rfl ?_
          refine ev_top2 (a2 := _) (b2 := vi (nI 8)) rfl (congrArg vi (by decide)) ?_
          refine ev_kS 2 k_SH_15 rfl C_fits8 ⟨by decide, by decide⟩ rfl ?_
          refine ev_gF3 [false] [] rfl ?_
          refine ev_top2 (a2 := _) (b2 := vi (nI 1)) rfl (congrArg vi (by decide)) ?_
          refine ev_kS 2 k_SH_15 rfl C_fits1 ⟨by decide, by decide⟩ rfl ?_
          refine ev_gF3 [true] [] rfl ?_
          refine ev_inS 4 k_SH_19 h_SH_fitsByB rfl rfl rfl rfl ⟨by decide, by decide⟩ rfl ?_
          refine ev_gF3 [true, false, true] [] rfl ?_
          refine ev_retz rfl (by first | decide | exact zb_01 _) ?_
          refine ev_g0 rfl ?_
          refine ev_retz rfl (by first | decide | exact zb_01 _) ?_
          first | exact ⟨rfl, rfl⟩ | exact ⟨congrArg (fun z => some (vi (zb z))) lf_F3, rfl⟩
        · intro μ
          refine det_of h_MM_isAct rfl rfl rfl ?_
          refine ev_g0 rfl ?_
          refine ev_kS 3 k_MM_188 rfl (C_in_0_65) ⟨by decide, by decide⟩ rfl ?_
          refine ev_gF3 [false, true, false] [] rfl ?_
          refine ev_inS 4 k_MM_250 h_MM_isFirst rfl rfl rfl rfl ⟨by decide, by decide⟩ rfl ?_
          refine ev_gF3 [] [some 3] rfl ?_
          refine ev_inS 1 k_MM_218 h_MM_isN rfl rfl rfl rfl ⟨by decide, by decide⟩ rfl ?_
          refine ev_g0 rfl ?_
          refine ev_kS 3 k_MM_188 rfl (C_in_0_7) ⟨by decide, by decide⟩ rfl ?_
          refine ev_g0 rfl ?_
          refine ev_retz rfl (by first | decide | exact zb_01 _) ?_
          refine ev_gF3 [false] [] rfl ?_
          refine ev_kS 3 k_MM_188 rfl (C_in_0_11) ⟨by decide, by decide⟩ rfl ?_
          refine ev_gF3 [false] [] rfl ?_
          refine ev_inS 1 k_MM_218 h_MM_isN rfl rfl rfl rfl ⟨by decide, by decide⟩ rfl ?_
          refine ev_g0 rfl ?_
          refine ev_kS 3 k_MM_188 rfl (C_in_0_7) ⟨by decide, by decide⟩ rfl ?_
          refine ev_g0 rfl ?_
          refine ev_retz rfl (by first | decide | exact zb_01 _) ?_
          refine ev_gF3 [false] [] rfl ?_
          refine ev_retz rfl (by first | decide | exact zb_01 _) ?_
          refine ev_g0 rfl ?_
          refine ev_retz rfl (by first | decide | exact zb_01 _) ?_
          first | exact ⟨rfl, rfl⟩ | exact ⟨congrArg (fun z => some (vi (zb z))) lf_F3, rfl⟩
        · exact ⟨(nk (n := 8) ha rfl (by decide)), (nk (n := 12) hb rfl (by decide)), (nk (n := 8) hc rfl (by decide))⟩
      · skip
        refine ⟨false, ?_, ?_, fun h => by cases h⟩
        · intro μ
          refine det_of h_SH_fit rfl rfl rfl ?_
          refine ev_gF3 [false, true] [] rfl ?_
          refine ev_top2 (a2 := _) (b2 := vi (nI 1)) rfl (congrArg vi (by decide)) ?_
          refine ev_kS 2 k_SH_15 rfl C_fits1 ⟨by decide, by decide⟩ rfl ?_
          refine ev_gF3 [false] [] rfl ?_
          refine ev_top2 (a2 := _) (b2 := vi (nI 8)) rfl (congrArg vi (by decide)) ?_
          refine ev_kS 2 k_SH_15 rfl C_fits8 ⟨by decide, by decide⟩ rfl ?_
          refine ev_gF3 [false] [] rfl ?_
          refine ev_top2 (a2 := _) (b2 := vi (nI 1)) rfl (congrArg vi (by decide)) ?_
          refine ev_kS 2 k_SH_15 rfl C_fits1 ⟨by decide, by decide⟩ rfl ?_
          refine ev_gF3 [false] [] rfl ?_
          refine ev_retz rfl (by first | decide | exact zb_01 _) ?_
          first | exact ⟨rfl, rfl⟩ | exact ⟨congrArg (fun z => some (vi (zb z))) lf_F3, rfl⟩
        · intro μ
          refine det_of h_MM_isAct rfl rfl rfl ?_
          refine ev_g0 rfl ?_
          refine ev_kS 3 k_MM_188 rfl (C_in_0_65) ⟨by decide, by decide⟩ rfl ?_
          refine ev_gF3 [false, true, false] [] rfl ?_
          refine ev_inS 4 k_MM_250 h_MM_isFirst rfl rfl rfl rfl ⟨by decide, by decide⟩ rfl ?_
          refine ev_gF3 [] [some 3] rfl ?_
          refine ev_inS 1 k_MM_218 h_MM_isN rfl rfl rfl rfl ⟨by decide, by decide⟩ rfl ?_
          refine ev_g0 rfl ?_
          refine ev_kS 3 k_MM_188 rfl (C_in_0_7) ⟨by decide, by decide⟩ rfl ?_
          refine ev_g0 rfl ?_
          refine ev_retz rfl (by first | decide | exact zb_01 _) ?_
          refine ev_gF3 [false] [] rfl ?_
          refine ev_kS 3 k_MM_188 rfl (C_in_0_11) ⟨by decide, by decide⟩ rfl ?_
          refine ev_gF3 [false] [] rfl ?_
          refine ev_inS 1 k_MM_218 h_MM_isN rfl rfl rfl rfl ⟨by decide, by decide⟩ rfl ?_
          refine ev_g0 rfl ?_
          refine ev_kS 3 k_MM_188 rfl (C_in_0_7) ⟨by decide, by decide⟩ rfl ?_
          refine ev_g0 rfl ?_
          refine ev_retz rfl (by first | decide | exact zb_01 _) ?_
          refine ev_gF3 [true] [] rfl ?_
          refine ev_retz rfl (by first | decide | exact zb_01 _) ?_
          refine ev_g0 rfl ?_
          refine ev_retz rfl (by first | decide | exact zb_01 _) ?_
          first | exact ⟨rfl, rfl⟩ | exact ⟨congrArg (fun z => some (vi (zb z))) lf_F3, rfl⟩
    · skip
      refine ⟨false, ?_, ?_, fun h => by cases h⟩
      · intro μ
        refine det_of h_SH_fit rfl rfl rfl ?_
        refine ev_gF3 [false, true] [] rfl ?_
        refine ev_top2 (a2 := _) (b2 := vi (nI 1)) rfl (congrArg vi (by decide)) ?_
        refine ev_kS 2 k_SH_15 rfl C_fits1 ⟨by decide, by decide⟩ rfl ?_
        refine ev_gF3 [false] [] rfl ?_
        refine ev_top2 (a2 := _) (b2 := vi (nI 8)) rfl (congrArg vi (by decide)) ?_
        refine ev_kS 2 k_SH_15 rfl C_fits8 ⟨by decide, by decide⟩ rfl ?_
        refine ev_gF3 [true] [] rfl ?_
        refine ev_retz rfl (by first | decide | exact zb_01 _) ?_
        first | exact ⟨rfl, rfl⟩ | exact ⟨congrArg (fun z => some (vi (zb z))) lf_F3, rfl⟩
      · intro μ
        refine det_of h_MM_isAct rfl rfl rfl ?_
        refine ev_g0 rfl ?_
        refine ev_kS 3 k_MM_188 rfl (C_in_0_65) ⟨by decide, by decide⟩ rfl ?_
        refine ev_gF3 [false, true, false] [] rfl ?_
        refine ev_inS 4 k_MM_250 h_MM_isFirst rfl rfl rfl rfl ⟨by decide, by decide⟩ rfl ?_
        refine ev_gF3 [] [some 3] rfl ?_
        refine ev_inS 1 k_MM_218 h_MM_isN rfl rfl rfl rfl ⟨by decide, by decide⟩ rfl ?_
        refine ev_g0 rfl ?_
        refine ev_kS 3 k_MM_188 rfl (C_in_0_7) ⟨by decide, by decide⟩ rfl ?_
        refine ev_g0 rfl ?_
        refine ev_retz rfl (by first | decide | exact zb_01 _) ?_
        refine ev_gF3 [false] [] rfl ?_
        refine ev_kS 3 k_MM_188 rfl (C_in_0_11) ⟨by decide, by decide⟩ rfl ?_
        refine ev_gF3 [true] [] rfl ?_
        refine ev_retz rfl (by first | decide | exact zb_01 _) ?_
        refine ev_g0 rfl ?_
        refine ev_retz rfl (by first | decide | exact zb_01 _) ?_
        first | exact ⟨rfl, rfl⟩ | exact ⟨congrArg (fun z => some (vi (zb z))) lf_F3, rfl⟩
  · skip
    refine ⟨false, ?_, ?_, fun h => by cases h⟩
    · intro μ
      refine det_of h_SH_fit rfl rfl rfl ?_
      refine ev_gF3 [false, true] [] rfl ?_
      refine ev_top2 (a2 := _) (b2 := vi (nI 1)) rfl (congrArg vi (by decide)) ?_
      refine ev_kS 2 k_SH_15 rfl C_fits1 ⟨by decide, by decide⟩ rfl ?_
      refine ev_gF3 [true] [] rfl ?_
      refine ev_retz rfl (by first | decide | exact zb_01 _) ?_
      first | exact ⟨rfl, rfl⟩ | exact ⟨congrArg (fun z => some (vi (zb z))) lf_F3, rfl⟩
    · intro μ
      refine det_of h_MM_isAct rfl rfl rfl ?_
      refine ev_g0 rfl ?_
      refine ev_kS 3 k_MM_188 rfl (C_in_0_65) ⟨by decide, by decide⟩ rfl ?_
      refine ev_gF3 [false, true, false] [] rfl ?_
      refine ev_inS 4 k_MM_250 h_MM_isFirst rfl rfl rfl rfl ⟨by decide, by decide⟩ rfl ?_
      refine ev_gF3 [] [some 3] rfl ?_
      refine ev_inS 1 k_MM_218 h_MM_isN rfl rfl rfl rfl ⟨by decide, by decide⟩ rfl ?_
      refine ev_g0 rfl ?_
      refine ev_kS 3 k_MM_188 rfl (C_in_0_7) ⟨by decide, by decide⟩ rfl ?_
      refine ev_g0 rfl ?_
      refine ev_retz rfl (by first | decide | exact zb_01 _) ?_
      refine ev_gF3 [true] [] rfl ?_
      refine ev_retz rfl (by first | decide | exact zb_01 _) ?_
      refine ev_g0 rfl ?_
      refine ev_retz rfl (by first | decide | exact zb_01 _) ?_
      first | exact ⟨rfl, rfl⟩ | exact ⟨congrArg (fun z => some (vi (zb z))) lf_F3, rfl⟩
theorem FT_4 {a b c : Int32} : ∃ v : Bool, (∀ μ : mm_M, mm_Det Y_SH_fit [vi (nI 4), vi a, vi b, vi c] μ (some (vi (zb v))) μ) ∧ (∀ μm : mm_M, mm_Det Y_MM_isAct [vi (nI 4), vi a, vi b, vi c] μm (some (vi (zb v))) μm) ∧ (v = true → OKA 4 a b c) := by
  by_cases ha : 0 ≤ a.toInt ∧ a.toInt ≤ 7
  · skip
    by_cases hb : 0 ≤ b.toInt ∧ b.toInt ≤ 11
    · skip
      by_cases hc : 0 ≤ c.toInt ∧ c.toInt ≤ 7
      · skip
        refine ⟨true, ?_, ?_, fun _ => ?_⟩
        · intro μ
          refine det_of h_SH_fit rfl rfl rfl ?_
          refine ev_gF3 [false, true] [] rfl ?_
          refine ev_top2 (a2 := _) (b2 := vi (nI 1)) rfl (congrArg vi (by decide)) ?_
          refine ev_kS 2 k_SH_15 rfl C_fits1 ⟨by decide, by decide⟩ rfl ?_
          refine ev_gF3 [false] [] rfl ?_
          refine ev_top2 (a2 := _) (b2 := vi (nI 8)) rfl (congrArg vi (by decide)) ?_
          refine ev_kS 2 k_SH_15 rfl C_fits8 ⟨by decide, by decide⟩ rfl ?_
          refine ev_gF3 [false] [] rfl ?_
          refine ev_top2 (a2 := _) (b2 := vi (nI 1)) rfl (congrArg vi (by decide)) ?_
          refine ev_kS 2 k_SH_15 rfl C_fits1 ⟨by decide, by decide⟩ rfl ?_
          refine ev_gF3 [true] [] rfl ?_
          refine ev_inS 4 k_SH_19 h_SH_fitsByB rfl rfl rfl rfl ⟨by decide, by decide⟩ rfl ?_
          refine ev_gF3 [true, false, true] [] rfl ?_
          refine ev_retz rfl (by first | decide | exact zb_01 _) ?_
          refine ev_g0 rfl ?_
          refine ev_retz rfl (by first | decide | exact zb_01 _) ?_
          first | exact ⟨rfl, rfl⟩ | exact ⟨congrArg (fun z => some (vi (zb z))) lf_F3, rfl⟩
        · intro μ
          refine det_of h_MM_isAct rfl rfl rfl ?_
          refine ev_g0 rfl ?_
          refine ev_kS 3 k_MM_188 rfl (C_in_0_65) ⟨by decide, by decide⟩ rfl ?_
          refine ev_gF3 [false, true, false] [] rfl ?_
          refine ev_inS 4 k_MM_250 h_MM_isFirst rfl rfl rfl rfl ⟨by decide, by decide⟩ rfl ?_
          refine ev_gF3 [] [some 4] rfl ?_
          refine ev_inS 1 k_MM_218 h_MM_isN rfl rfl rfl rfl ⟨by decide, by decide⟩ rfl ?_
          refine ev_g0 rfl ?_
          refine ev_kS 3 k_MM_188 rfl (C_in_0_7) ⟨by decide, by decide⟩ rfl ?_
          refine ev_g0 rfl ?_
          refine ev_retz rfl (by first | decide | exact zb_01 _) ?_
          refine ev_gF3 [false] [] rfl ?_
          refine ev_kS 3 k_MM_188 rfl (C_in_0_11) ⟨by decide, by decide⟩ rfl ?_
          refine ev_gF3 [false] [] rfl ?_
          refine ev_inS 1 k_MM_218 h_MM_isN rfl rfl rfl rfl ⟨by decide, by decide⟩ rfl ?_
          refine ev_g0 rfl ?_
          refine ev_kS 3 k_MM_188 rfl (C_in_0_7) ⟨by decide, by decide⟩ rfl ?_
          refine ev_g0 rfl ?_
          refine ev_retz rfl (by first | decide | exact zb_01 _) ?_
          refine ev_gF3 [false] [] rfl ?_
          refine ev_retz rfl (by first | decide | exact zb_01 _) ?_
          refine ev_g0 rfl ?_
          refine ev_retz rfl (by first | decide | exact zb_01 _) ?_
          first | exact ⟨rfl, rfl⟩ | exact ⟨congrArg (fun z => some (vi (zb z))) lf_F3, rfl⟩
        · exact ⟨(nk (n := 8) ha rfl (by decide)), (nk (n := 12) hb rfl (by decide)), (nk (n := 8) hc rfl (by decide))⟩
      · skip
        refine ⟨false, ?_, ?_, fun h => by cases h⟩
        · intro μ
          refine det_of h_SH_fit rfl rfl rfl ?_
          refine ev_gF3 [false, true] [] rfl ?_
          refine ev_top2 (a2 := _) (b2 := vi (nI 1)) rfl (congrArg vi (by decide)) ?_
          refine ev_kS 2 k_SH_15 rfl C_fits1 ⟨by decide, by decide⟩ rfl ?_
          refine ev_gF3 [false] [] rfl ?_
          refine ev_top2 (a2 := _) (b2 := vi (nI 8)) rfl (congrArg vi (by decide)) ?_
          refine ev_kS 2 k_SH_15 rfl C_fits8 ⟨by decide, by decide⟩ rfl ?_
          refine ev_gF3 [false] [] rfl ?_
          refine ev_top2 (a2 := _) (b2 := vi (nI 1)) rfl (congrArg vi (by decide)) ?_
          refine ev_kS 2 k_SH_15 rfl C_fits1 ⟨by decide, by decide⟩ rfl ?_
          refine ev_gF3 [false] [] rfl ?_
          refine ev_retz rfl (by first | decide | exact zb_01 _) ?_
          first | exact ⟨rfl, rfl⟩ | exact ⟨congrArg (fun z => some (vi (zb z))) lf_F3, rfl⟩
        · intro μ
          refine det_of h_MM_isAct rfl rfl rfl ?_
          refine ev_g0 rfl ?_
          refine ev_kS 3 k_MM_188 rfl (C_in_0_65) ⟨by decide, by decide⟩ rfl ?_
          refine ev_gF3 [false, true, false] [] rfl ?_
          refine ev_inS 4 k_MM_250 h_MM_isFirst rfl rfl rfl rfl ⟨by decide, by decide⟩ rfl ?_
          refine ev_gF3 [] [some 4] rfl ?_
          refine ev_inS 1 k_MM_218 h_MM_isN rfl rfl rfl rfl ⟨by decide, by decide⟩ rfl ?_
          refine ev_g0 rfl ?_
          refine ev_kS 3 k_MM_188 rfl (C_in_0_7) ⟨by decide, by decide⟩ rfl ?_
          refine ev_g0 rfl ?_
          refine ev_retz rfl (by first | decide | exact zb_01 _) ?_
          refine ev_gF3 [false] [] rfl ?_
          refine ev_kS 3 k_MM_188 rfl (C_in_0_11) ⟨by decide, by decide⟩ rfl ?_
          refine ev_gF3 [false] [] rfl ?_
          refine ev_inS 1 k_MM_218 h_MM_isN rfl rfl rfl rfl ⟨by decide, by decide⟩ rfl ?_
          refine ev_g0 rfl ?_
          refine ev_kS 3 k_MM_188 rfl (C_in_0_7) ⟨by decide, by decide⟩ rfl ?_
          refine ev_g0 rfl ?_
          refine ev_retz rfl (by first | decide | exact zb_01 _) ?_
          refine ev_gF3 [true] [] rfl ?_
          refine ev_retz rfl (by first | decide | exact zb_01 _) ?_
          refine ev_g0 rfl ?_
          refine ev_retz rfl (by first | decide | exact zb_01 _) ?_
          first | exact ⟨rfl, rfl⟩ | exact ⟨congrArg (fun z => some (vi (zb z))) lf_F3, rfl⟩
    · skip
      refine ⟨false, ?_, ?_, fun h => by cases h⟩
      · intro μ
        refine det_of h_SH_fit rfl rfl rfl ?_
        refine ev_gF3 [false, true] [] rfl ?_
        refine ev_top2 (a2 := _) (b2 := vi (nI 1)) rfl (congrArg vi (by decide)) ?_
        refine ev_kS 2 k_SH_15 rfl C_fits1 ⟨by decide, by decide⟩ rfl ?_
        refine ev_gF3 [false] [] rfl ?_
        refine ev_top2 (a2 := _) (b2 := vi (nI 8)) rfl (congrArg vi (by decide)) ?_
        refine ev_kS 2 k_SH_15 rfl C_fits8 ⟨by decide, by decide⟩ rfl ?_
        refine ev_gF3 [true] [] rfl ?_
        refine ev_retz rfl (by first | decide | exact zb_01 _) ?_
        first | exact ⟨rfl, rfl⟩ | exact ⟨congrArg (fun z => some (vi (zb z))) lf_F3, rfl⟩
      · intro μ
        refine det_of h_MM_isAct rfl rfl rfl ?_
        refine ev_g0 rfl ?_
        refine ev_kS 3 k_MM_188 rfl (C_in_0_65) ⟨by decide, by decide⟩ rfl ?_
        refine ev_gF3 [false, true, false] [] rfl ?_
        refine ev_inS 4 k_MM_250 h_MM_isFirst rfl rfl rfl rfl ⟨by decide, by decide⟩ rfl ?_
        refine ev_gF3 [] [some 4] rfl ?_
        refine ev_inS 1 k_MM_218 h_MM_isN rfl rfl rfl rfl ⟨by decide, by decide⟩ rfl ?_
        refine ev_g0 rfl ?_
        refine ev_kS 3 k_MM_188 rfl (C_in_0_7) ⟨by decide, by decide⟩ rfl ?_
        refine ev_g0 rfl ?_
        refine ev_retz rfl (by first | decide | exact zb_01 _) ?_
        refine ev_gF3 [false] [] rfl ?_
        refine ev_kS 3 k_MM_188 rfl (C_in_0_11) ⟨by decide, by decide⟩ rfl ?_
        refine ev_gF3 [true] [] rfl ?_
        refine ev_retz rfl (by first | decide | exact zb_01 _) ?_
        refine ev_g0 rfl ?_
        refine ev_retz rfl (by first | decide | exact zb_01 _) ?_
        first | exact ⟨rfl, rfl⟩ | exact ⟨congrArg (fun z => some (vi (zb z))) lf_F3, rfl⟩
  · skip
    refine ⟨false, ?_, ?_, fun h => by cases h⟩
    · intro μ
      refine det_of h_SH_fit rfl rfl rfl ?_
      refine ev_gF3 [false, true] [] rfl ?_
      refine ev_top2 (a2 := _) (b2 := vi (nI 1)) rfl (congrArg vi (by decide)) ?_
      refine ev_kS 2 k_SH_15 rfl C_fits1 ⟨by decide, by decide⟩ rfl ?_
      refine ev_gF3 [true] [] rfl ?_
      refine ev_retz rfl (by first | decide | exact zb_01 _) ?_
      first | exact ⟨rfl, rfl⟩ | exact ⟨congrArg (fun z => some (vi (zb z))) lf_F3, rfl⟩
    · intro μ
      refine det_of h_MM_isAct rfl rfl rfl ?_
      refine ev_g0 rfl ?_
      refine ev_kS 3 k_MM_188 rfl (C_in_0_65) ⟨by decide, by decide⟩ rfl ?_
      refine ev_gF3 [false, true, false] [] rfl ?_
      refine ev_inS 4 k_MM_250 h_MM_isFirst rfl rfl rfl rfl ⟨by decide, by decide⟩ rfl ?_
      refine ev_gF3 [] [some 4] rfl ?_
      refine ev_inS 1 k_MM_218 h_MM_isN rfl rfl rfl rfl ⟨by decide, by decide⟩ rfl ?_
      refine ev_g0 rfl ?_
      refine ev_kS 3 k_MM_188 rfl (C_in_0_7) ⟨by decide, by decide⟩ rfl ?_
      refine ev_g0 rfl ?_
      refine ev_retz rfl (by first | decide | exact zb_01 _) ?_
      refine ev_gF3 [true] [] rfl ?_
      refine ev_retz rfl (by first | decide | exact zb_01 _) ?_
      refine ev_g0 rfl ?_
      refine ev_retz rfl (by first | decide | exact zb_01 _) ?_
      first | exact ⟨rfl, rfl⟩ | exact ⟨congrArg (fun z => some (vi (zb z))) lf_F3, rfl⟩
theorem FT_5 {a b c : Int32} : ∃ v : Bool, (∀ μ : mm_M, mm_Det Y_SH_fit [vi (nI 5), vi a, vi b, vi c] μ (some (vi (zb v))) μ) ∧ (∀ μm : mm_M, mm_Det Y_MM_isAct [vi (nI 5), vi a, vi b, vi c] μm (some (vi (zb v))) μm) ∧ (v = true → OKA 5 a b c) := by
  by_cases ha : 0 ≤ a.toInt ∧ a.toInt ≤ 3
  · skip
    by_cases hb : 0 ≤ b.toInt ∧ b.toInt ≤ 7
    · skip
      by_cases hc : 0 ≤ c.toInt ∧ c.toInt ≤ 3
      · skip
        refine ⟨true, ?_, ?_, fun _ => ?_⟩
        · intro μ
          refine det_of h_SH_fit rfl rfl rfl ?_
          refine ev_gF3 [false, true] [] rfl ?_
          refine ev_top2 (a2 := _) (b2 := vi (nI 2)) rfl (congrArg vi (by decide)) ?_
          refine ev_kS 2 k_SH_15 rfl C_fits2 ⟨by decide, by decide⟩ rfl ?_
          refine ev_gF3 [false] [] rfl ?_
          refine ev_top2 (a2 := _) (b2 := vi (nI 9)) rfl (congrArg vi (by decide)) ?_
          refine ev_kS 2 k_SH_15 rfl C_fits9 ⟨by decide, by decide⟩ rfl ?_
          refine ev_gF3 [false] [] rfl ?_
          refine ev_top2 (a2 := _) (b2 := vi (nI 2)) rfl (congrArg vi (by decide)) ?_
          refine ev_kS 2 k_SH_15 rfl C_fits2 ⟨by decide, by decide⟩ rfl ?_
          refine ev_gF3 [true] [] rfl ?_
          refine ev_inS 4 k_SH_19 h_SH_fitsByB rfl rfl rfl rfl ⟨by decide, by decide⟩ rfl ?_
          refine ev_gF3 [true, false, true] [] rfl ?_
          refine ev_retz rfl (by first | decide | exact zb_01 _) ?_
          refine ev_g0 rfl ?_
          refine ev_retz rfl (by first | decide | exact zb_01 _) ?_
          first | exact ⟨rfl, rfl⟩ | exact ⟨congrArg (fun z => some (vi (zb z))) lf_F3, rfl⟩
        · intro μ
          refine det_of h_MM_isAct rfl rfl rfl ?_
          refine ev_g0 rfl ?_
          refine ev_kS 3 k_MM_188 rfl (C_in_0_65) ⟨by decide, by decide⟩ rfl ?_
          refine ev_gF3 [false, true, false] [] rfl ?_
          refine ev_inS 4 k_MM_250 h_MM_isFirst rfl rfl rfl rfl ⟨by decide, by decide⟩ rfl ?_
          refine ev_gF3 [] [some 5] rfl ?_
          refine ev_inS 1 k_MM_214 h_MM_isX rfl rfl rfl rfl ⟨by decide, by decide⟩ rfl ?_
          refine ev_g0 rfl ?_
          refine ev_kS 3 k_MM_188 rfl (C_in_0_3) ⟨by decide, by decide⟩ rfl ?_
          refine ev_g0 rfl ?_
          refine ev_retz rfl (by first | decide | exact zb_01 _) ?_
          refine ev_gF3 [false] [] rfl ?_
          refine ev_kS 3 k_MM_188 rfl (C_in_0_7) ⟨by decide, by decide⟩ rfl ?_
          refine ev_gF3 [false] [] rfl ?_
          refine ev_inS 1 k_MM_214 h_MM_isX rfl rfl rfl rfl ⟨by decide, by decide⟩ rfl ?_
          refine ev_g0 rfl ?_
          refine ev_kS 3 k_MM_188 rfl (C_in_0_3) ⟨by decide, by decide⟩ rfl ?_
          refine ev_g0 rfl ?_
          refine ev_retz rfl (by first | decide | exact zb_01 _) ?_
          refine ev_gF3 [false] [] rfl ?_
          refine ev_retz rfl (by first | decide | exact zb_01 _) ?_
          refine ev_g0 rfl ?_
          refine ev_retz rfl (by first | decide | exact zb_01 _) ?_
          first | exact ⟨rfl, rfl⟩ | exact ⟨congrArg (fun z => some (vi (zb z))) lf_F3, rfl⟩
        · exact ⟨(nk (n := 4) ha rfl (by decide)), (nk (n := 8) hb rfl (by decide)), (nk (n := 4) hc rfl (by decide))⟩
      · skip
        refine ⟨false, ?_, ?_, fun h => by cases h⟩
        · intro μ
          refine det_of h_SH_fit rfl rfl rfl ?_
          refine ev_gF3 [false, true] [] rfl ?_
          refine ev_top2 (a2 := _) (b2 := vi (nI 2)) rfl (congrArg vi (by decide)) ?_
          refine ev_kS 2 k_SH_15 rfl C_fits2 ⟨by decide, by decide⟩ rfl ?_
          refine ev_gF3 [false] [] rfl ?_
          refine ev_top2 (a2 := _) (b2 := vi (nI 9)) rfl (congrArg vi (by decide)) ?_
          refine ev_kS 2 k_SH_15 rfl C_fits9 ⟨by decide, by decide⟩ rfl ?_
          refine ev_gF3 [false] [] rfl ?_
          refine ev_top2 (a2 := _) (b2 := vi (nI 2)) rfl (congrArg vi (by decide)) ?_
          refine ev_kS 2 k_SH_15 rfl C_fits2 ⟨by decide, by decide⟩ rfl ?_
          refine ev_gF3 [false] [] rfl ?_
          refine ev_retz rfl (by first | decide | exact zb_01 _) ?_
          first | exact ⟨rfl, rfl⟩ | exact ⟨congrArg (fun z => some (vi (zb z))) lf_F3, rfl⟩
        · intro μ
          refine det_of h_MM_isAct rfl rfl rfl ?_
          refine ev_g0 rfl ?_
          refine ev_kS 3 k_MM_188 rfl (C_in_0_65) ⟨by decide, by decide⟩ rfl ?_
          refine ev_gF3 [false, true, false] [] rfl ?_
          refine ev_inS 4 k_MM_250 h_MM_isFirst rfl rfl rfl rfl ⟨by decide, by decide⟩ rfl ?_
          refine ev_gF3 [] [some 5] rfl ?_
          refine ev_inS 1 k_MM_214 h_MM_isX rfl rfl rfl rfl ⟨by decide, by decide⟩ rfl ?_
          refine ev_g0 rfl ?_
          refine ev_kS 3 k_MM_188 rfl (C_in_0_3) ⟨by decide, by decide⟩ rfl ?_
          refine ev_g0 rfl ?_
          refine ev_retz rfl (by first | decide | exact zb_01 _) ?_
          refine ev_gF3 [false] [] rfl ?_
          refine ev_kS 3 k_MM_188 rfl (C_in_0_7) ⟨by decide, by decide⟩ rfl ?_
          refine ev_gF3 [false] [] rfl ?_
          refine ev_inS 1 k_MM_214 h_MM_isX rfl rfl rfl rfl ⟨by decide, by decide⟩ rfl ?_
          refine ev_g0 rfl ?_
          refine ev_kS 3 k_MM_188 rfl (C_in_0_3) ⟨by decide, by decide⟩ rfl ?_
          refine ev_g0 rfl ?_
          refine ev_retz rfl (by first | decide | exact zb_01 _) ?_
          refine ev_gF3 [true] [] rfl ?_
          refine ev_retz rfl (by first | decide | exact zb_01 _) ?_
          refine ev_g0 rfl ?_
          refine ev_retz rfl (by first | decide | exact zb_01 _) ?_
          first | exact ⟨rfl, rfl⟩ | exact ⟨congrArg (fun z => some (vi (zb z))) lf_F3, rfl⟩
    · skip
      refine ⟨false, ?_, ?_, fun h => by cases h⟩
      · intro μ
        refine det_of h_SH_fit rfl rfl rfl ?_
        refine ev_gF3 [false, true] [] rfl ?_
        refine ev_top2 (a2 := _) (b2 := vi (nI 2)) rfl (congrArg vi (by decide)) ?_
        refine ev_kS 2 k_SH_15 rfl C_fits2 ⟨by decide, by decide⟩ rfl ?_
        refine ev_gF3 [false] [] rfl ?_
        refine ev_top2 (a2 := _) (b2 := vi (nI 9)) rfl (congrArg vi (by decide)) ?_
        refine ev_kS 2 k_SH_15 rfl C_fits9 ⟨by decide, by decide⟩ rfl ?_
        refine ev_gF3 [true] [] rfl ?_
        refine ev_retz rfl (by first | decide | exact zb_01 _) ?_
        first | exact ⟨rfl, rfl⟩ | exact ⟨congrArg (fun z => some (vi (zb z))) lf_F3, rfl⟩
      · intro μ
        refine det_of h_MM_isAct rfl rfl rfl ?_
        refine ev_g0 rfl ?_
        refine ev_kS 3 k_MM_188 rfl (C_in_0_65) ⟨by decide, by decide⟩ rfl ?_
        refine ev_gF3 [false, true, false] [] rfl ?_
        refine ev_inS 4 k_MM_250 h_MM_isFirst rfl rfl rfl rfl ⟨by decide, by decide⟩ rfl ?_
        refine ev_gF3 [] [some 5] rfl ?_
        refine ev_inS 1 k_MM_214 h_MM_isX rfl rfl rfl rfl ⟨by decide, by decide⟩ rfl ?_
        refine ev_g0 rfl ?_
        refine ev_kS 3 k_MM_188 rfl (C_in_0_3) ⟨by decide, by decide⟩ rfl ?_
        refine ev_g0 rfl ?_
        refine ev_retz rfl (by first | decide | exact zb_01 _) ?_
        refine ev_gF3 [false] [] rfl ?_
        refine ev_kS 3 k_MM_188 rfl (C_in_0_7) ⟨by decide, by decide⟩ rfl ?_
        refine ev_gF3 [true] [] rfl ?_
        refine ev_retz rfl (by first | decide | exact zb_01 _) ?_
        refine ev_g0 rfl ?_
        refine ev_retz rfl (by first | decide | exact zb_01 _) ?_
        first | exact ⟨rfl, rfl⟩ | exact ⟨congrArg (fun z => some (vi (zb z))) lf_F3, rfl⟩
  · skip
    refine ⟨false, ?_, ?_, fun h => by cases h⟩
    · intro μ
      refine det_of h_SH_fit rfl rfl rfl ?_
      refine ev_gF3 [false, true] [] rfl ?_
      refine ev_top2 (a2 := _) (b2 := vi (nI 2)) rfl (congrArg vi (by decide)) ?_
      refine ev_kS 2 k_SH_15 rfl C_fits2 ⟨by decide, by decide⟩ rfl ?_
      refine ev_gF3 [true] [] rfl ?_
      refine ev_retz rfl (by first | decide | exact zb_01 _) ?_
      first | exact ⟨rfl, rfl⟩ | exact ⟨congrArg (fun z => some (vi (zb z))) lf_F3, rfl⟩
    · intro μ
      refine det_of h_MM_isAct rfl rfl rfl ?_
      refine ev_g0 rfl ?_
      refine ev_kS 3 k_MM_188 rfl (C_in_0_65) ⟨by decide, by decide⟩ rfl ?_
      refine ev_gF3 [false, true, false] [] rfl ?_
      refine ev_inS 4 k_MM_250 h_MM_isFirst rfl rfl rfl rfl ⟨by decide, by decide⟩ rfl ?_
      refine ev_gF3 [] [some 5] rfl ?_
      refine ev_inS 1 k_MM_214 h_MM_isX rfl rfl rfl rfl ⟨by decide, by decide⟩ rfl ?_
      refine ev_g0 rfl ?_
      refine ev_kS 3 k_MM_188 rfl (C_in_0_3) ⟨by decide, by decide⟩ rfl ?_
      refine ev_g0 rfl ?_
      refine ev_retz rfl (by first | decide | exact zb_01 _) ?_
      refine ev_gF3 [true] [] rfl ?_
      refine ev_retz rfl (by first | decide | exact zb_01 _) ?_
      refine ev_g0 rfl ?_
      refine ev_retz rfl (by first | decide | exact zb_01 _) ?_
      first | exact ⟨rfl, rfl⟩ | exact ⟨congrArg (fun z => some (vi (zb z))) lf_F3, rfl⟩
theorem FT_6 {a b c : Int32} : ∃ v : Bool, (∀ μ : mm_M, mm_Det Y_SH_fit [vi (nI 6), vi a, vi b, vi c] μ (some (vi (zb v))) μ) ∧ (∀ μm : mm_M, mm_Det Y_MM_isAct [vi (nI 6), vi a, vi b, vi c] μm (some (vi (zb v))) μm) ∧ (v = true → OKA 6 a b c) := by
  by_cases ha : 0 ≤ a.toInt ∧ a.toInt ≤ 3
  · skip
    by_cases hb : 0 ≤ b.toInt ∧ b.toInt ≤ 7
    · skip
      by_cases hc : 0 ≤ c.toInt ∧ c.toInt ≤ 3
      · skip
        refine ⟨true, ?_, ?_, fun _ => ?_⟩
        · intro μ
          refine det_of h_SH_fit rfl rfl rfl ?_
          refine ev_gF3 [false, true] [] rfl ?_
          refine ev_top2 (a2 := _) (b2 := vi (nI 3)) rfl (congrArg vi (by decide)) ?_
          refine ev_kS 2 k_SH_15 rfl C_fits3 ⟨by decide, by decide⟩ rfl ?_
          refine ev_gF3 [false] [] rfl ?_
          refine ev_top2 (a2 := _) (b2 := vi (nI 9)) rfl (congrArg vi (by decide)) ?_
          refine ev_kS 2 k_SH_15 rfl C_fits9 ⟨by decide, by decide⟩ rfl ?_
          refine ev_gF3 [false] [] rfl ?_
          refine ev_top2 (a2 := _) (b2 := vi (nI 3)) rfl (congrArg vi (by decide)) ?_
          refine ev_kS 2 k_SH_15 rfl C_fits3 ⟨by decide, by decide⟩ rfl ?_
          refine ev_gF3 [true] [] rfl ?_
          refine ev_inS 4 k_SH_19 h_SH_fitsByB rfl rfl rfl rfl ⟨by decide, by decide⟩ rfl ?_
          refine ev_gF3 [true, false, true] [] rfl ?_
          refine ev_retz rfl (by first | decide | exact zb_01 _) ?_
          refine ev_g0 rfl ?_
          refine ev_retz rfl (by first | decide | exact zb_01 _) ?_
          first | exact ⟨rfl, rfl⟩ | exact ⟨congrArg (fun z => some (vi (zb z))) lf_F3, rfl⟩
        · intro μ
          refine det_of h_MM_isAct rfl rfl rfl ?_
          refine ev_g0 rfl ?_
          refine ev_kS 3 k_MM_188 rfl (C_in_0_65) ⟨by decide, by decide⟩ rfl ?_
          refine ev_gF3 [false, true, false] [] rfl ?_
          refine ev_inS 4 k_MM_250 h_MM_isFirst rfl rfl rfl rfl ⟨by decide, by decide⟩ rfl ?_
          refine ev_gF3 [] [some 6] rfl ?_
          refine ev_inS 1 k_MM_214 h_MM_isX rfl rfl rfl rfl ⟨by decide, by decide⟩ rfl ?_
          refine ev_g0 rfl ?_
          refine ev_kS 3 k_MM_188 rfl (C_in_0_3) ⟨by decide, by decide⟩ rfl ?_
          refine ev_g0 rfl ?_
          refine ev_retz rfl (by first | decide | exact zb_01 _) ?_
          refine ev_gF3 [false] [] rfl ?_
          refine ev_kS 3 k_MM_188 rfl (C_in_0_7) ⟨by decide, by decide⟩ rfl ?_
          refine ev_gF3 [false] [] rfl ?_
          refine ev_inS 1 k_MM_214 h_MM_isX rfl rfl rfl rfl ⟨by decide, by decide⟩ rfl ?_
          refine ev_g0 rfl ?_
          refine ev_kS 3 k_MM_188 rfl (C_in_0_3) ⟨by decide, by decide⟩ rfl ?_
          refine ev_g0 rfl ?_
          refine ev_retz rfl (by first | decide | exact zb_01 _) ?_
          refine ev_gF3 [false] [] rfl ?_
          refine ev_retz rfl (by first | decide | exact zb_01 _) ?_
          refine ev_g0 rfl ?_
          refine ev_retz rfl (by first | decide | exact zb_01 _) ?_
          first | exact ⟨rfl, rfl⟩ | exact ⟨congrArg (fun z => some (vi (zb z))) lf_F3, rfl⟩
        · exact ⟨(nk (n := 4) ha rfl (by decide)), (nk (n := 8) hb rfl (by decide)), (nk (n := 4) hc rfl (by decide))⟩
      · skip
        refine ⟨false, ?_, ?_, fun h => by cases h⟩
        · intro μ
          refine det_of h_SH_fit rfl rfl rfl ?_
          refine ev_gF3 [false, true] [] rfl ?_
          refine ev_top2 (a2 := _) (b2 := vi (nI 3)) rfl (congrArg vi (by decide)) ?_
          refine ev_kS 2 k_SH_15 rfl C_fits3 ⟨by decide, by decide⟩ rfl ?_
          refine ev_gF3 [false] [] rfl ?_
          refine ev_top2 (a2 := _) (b2 := vi (nI 9)) rfl (congrArg vi (by decide)) ?_
          refine ev_kS 2 k_SH_15 rfl C_fits9 ⟨by decide, by decide⟩ rfl ?_
          refine ev_gF3 [false] [] rfl ?_
          refine ev_top2 (a2 := _) (b2 := vi (nI 3)) rfl (congrArg vi (by decide)) ?_
          refine ev_kS 2 k_SH_15 rfl C_fits3 ⟨by decide, by decide⟩ rfl ?_
          refine ev_gF3 [false] [] rfl ?_
          refine ev_retz rfl (by first | decide | exact zb_01 _) ?_
          first | exact ⟨rfl, rfl⟩ | exact ⟨congrArg (fun z => some (vi (zb z))) lf_F3, rfl⟩
        · intro μ
          refine det_of h_MM_isAct rfl rfl rfl ?_
          refine ev_g0 rfl ?_
          refine ev_kS 3 k_MM_188 rfl (C_in_0_65) ⟨by decide, by decide⟩ rfl ?_
          refine ev_gF3 [false, true, false] [] rfl ?_
          refine ev_inS 4 k_MM_250 h_MM_isFirst rfl rfl rfl rfl ⟨by decide, by decide⟩ rfl ?_
          refine ev_gF3 [] [some 6] rfl ?_
          refine ev_inS 1 k_MM_214 h_MM_isX rfl rfl rfl rfl ⟨by decide, by decide⟩ rfl ?_
          refine ev_g0 rfl ?_
          refine ev_kS 3 k_MM_188 rfl (C_in_0_3) ⟨by decide, by decide⟩ rfl ?_
          refine ev_g0 rfl ?_
          refine ev_retz rfl (by first | decide | exact zb_01 _) ?_
          refine ev_gF3 [false] [] rfl ?_
          refine ev_kS 3 k_MM_188 rfl (C_in_0_7) ⟨by decide, by decide⟩ rfl ?_
          refine ev_gF3 [false] [] rfl ?_
          refine ev_inS 1 k_MM_214 h_MM_isX rfl rfl rfl rfl ⟨by decide, by decide⟩ rfl ?_
          refine ev_g0 rfl ?_
          refine ev_kS 3 k_MM_188 rfl (C_in_0_3) ⟨by decide, by decide⟩ rfl ?_
          refine ev_g0 rfl ?_
          refine ev_retz rfl (by first | decide | exact zb_01 _) ?_
          refine ev_gF3 [true] [] rfl ?_
          refine ev_retz rfl (by first | decide | exact zb_01 _) ?_
          refine ev_g0 rfl ?_
          refine ev_retz rfl (by first | decide | exact zb_01 _) ?_
          first | exact ⟨rfl, rfl⟩ | exact ⟨congrArg (fun z => some (vi (zb z))) lf_F3, rfl⟩
    · skip
      refine ⟨false, ?_, ?_, fun h => by cases h⟩
      · intro μ
        refine det_of h_SH_fit rfl rfl rfl ?_
        refine ev_gF3 [false, true] [] rfl ?_
        refine ev_top2 (a2 := _) (b2 := vi (nI 3)) rfl (congrArg vi (by decide)) ?_
        refine ev_kS 2 k_SH_15 rfl C_fits3 ⟨by decide, by decide⟩ rfl ?_
        refine ev_gF3 [false] [] rfl ?_
        refine ev_top2 (a2 := _) (b2 := vi (nI 9)) rfl (congrArg vi (by decide)) ?_
        refine ev_kS 2 k_SH_15 rfl C_fits9 ⟨by decide, by decide⟩ rfl ?_
        refine ev_gF3 [true] [] rfl ?_
        refine ev_retz rfl (by first | decide | exact zb_01 _) ?_
        first | exact ⟨rfl, rfl⟩ | exact ⟨congrArg (fun z => some (vi (zb z))) lf_F3, rfl⟩
      · intro μ
        refine det_of h_MM_isAct rfl rfl rfl ?_
        refine ev_g0 rfl ?_
        refine ev_kS 3 k_MM_188 rfl (C_in_0_65) ⟨by decide, by decide⟩ rfl ?_
        refine ev_gF3 [false, true, false] [] rfl ?_
        refine ev_inS 4 k_MM_250 h_MM_isFirst rfl rfl rfl rfl ⟨by decide, by decide⟩ rfl ?_
        refine ev_gF3 [] [some 6] rfl ?_
        refine ev_inS 1 k_MM_214 h_MM_isX rfl rfl rfl rfl ⟨by decide, by decide⟩ rfl ?_
        refine ev_g0 rfl ?_
        refine ev_kS 3 k_MM_188 rfl (C_in_0_3) ⟨by decide, by decide⟩ rfl ?_
        refine ev_g0 rfl ?_
        refine ev_retz rfl (by first | decide | exact zb_01 _) ?_
        refine ev_gF3 [false] [] rfl ?_
        refine ev_kS 3 k_MM_188 rfl (C_in_0_7) ⟨by decide, by decide⟩ rfl ?_
        refine ev_gF3 [true] [] rfl ?_
        refine ev_retz rfl (by first | decide | exact zb_01 _) ?_
        refine ev_g0 rfl ?_
        refine ev_retz rfl (by first | decide | exact zb_01 _) ?_
        first | exact ⟨rfl, rfl⟩ | exact ⟨congrArg (fun z => some (vi (zb z))) lf_F3, rfl⟩
  · skip
    refine ⟨false, ?_, ?_, fun h => by cases h⟩
    · intro μ
      refine det_of h_SH_fit rfl rfl rfl ?_
      refine ev_gF3 [false, true] [] rfl ?_
      refine ev_top2 (a2 := _) (b2 := vi (nI 3)) rfl (congrArg vi (by decide)) ?_
      refine ev_kS 2 k_SH_15 rfl C_fits3 ⟨by decide, by decide⟩ rfl ?_
      refine ev_gF3 [true] [] rfl ?_
      refine ev_retz rfl (by first | decide | exact zb_01 _) ?_
      first | exact ⟨rfl, rfl⟩ | exact ⟨congrArg (fun z => some (vi (zb z))) lf_F3, rfl⟩
    · intro μ
      refine det_of h_MM_isAct rfl rfl rfl ?_
      refine ev_g0 rfl ?_
      refine ev_kS 3 k_MM_188 rfl (C_in_0_65) ⟨by decide, by decide⟩ rfl ?_
      refine ev_gF3 [false, true, false] [] rfl ?_
      refine ev_inS 4 k_MM_250 h_MM_isFirst rfl rfl rfl rfl ⟨by decide, by decide⟩ rfl ?_
      refine ev_gF3 [] [some 6] rfl ?_
      refine ev_inS 1 k_MM_214 h_MM_isX rfl rfl rfl rfl ⟨by decide, by decide⟩ rfl ?_
      refine ev_g0 rfl ?_
      refine ev_kS 3 k_MM_188 rfl (C_in_0_3) ⟨by decide, by decide⟩ rfl ?_
      refine ev_g0 rfl ?_
      refine ev_retz rfl (by first | decide | exact zb_01 _) ?_
      refine ev_gF3 [true] [] rfl ?_
      refine ev_retz rfl (by first | decide | exact zb_01 _) ?_
      refine ev_g0 rfl ?_
      refine ev_retz rfl (by first | decide | exact zb_01 _) ?_
      first | exact ⟨rfl, rfl⟩ | exact ⟨congrArg (fun z => some (vi (zb z))) lf_F3, rfl⟩
theorem FT_7 {a b c : Int32} : ∃ v : Bool, (∀ μ : mm_M, mm_Det Y_SH_fit [vi (nI 7), vi a, vi b, vi c] μ (some (vi (zb v))) μ) ∧ (∀ μm : mm_M, mm_Det Y_MM_isAct [vi (nI 7), vi a, vi b, vi c] μm (some (vi (zb v))) μm) ∧ (v = true → OKA 7 a b c) := by
  by_cases ha : 0 ≤ a.toInt ∧ a.toInt ≤ 3
  · skip
    by_cases hb : 0 ≤ b.toInt ∧ b.toInt ≤ 5
    · skip
      by_cases hc : 0 ≤ c.toInt ∧ c.toInt ≤ 3
      · skip
        refine ⟨true, ?_, ?_, fun _ => ?_⟩
        · intro μ
          refine det_of h_SH_fit rfl rfl rfl ?_
          refine ev_gF3 [false, true] [] rfl ?_
          refine ev_top2 (a2 := _) (b2 := vi (nI 2)) rfl (congrArg vi (by decide)) ?_
          refine ev_kS 2 k_SH_15 rfl C_fits2 ⟨by decide, by decide⟩ rfl ?_
          refine ev_gF3 [false] [] rfl ?_
          refine ev_top2 (a2 := _) (b2 := vi (nI 10)) rfl (congrArg vi (by decide)) ?_
          refine ev_kS 2 k_SH_15 rfl C_fits10 ⟨by decide, by decide⟩ rfl ?_
          refine ev_gF3 [false] [] rfl ?_
          refine ev_top2 (a2 := _) (b2 := vi (nI 2)) rfl (congrArg vi (by decide)) ?_
          refine ev_kS 2 k_SH_15 rfl C_fits2 ⟨by decide, by decide⟩ rfl ?_
          refine ev_gF3 [true] [] rfl ?_
          refine ev_inS 4 k_SH_19 h_SH_fitsByB rfl rfl rfl rfl ⟨by decide, by decide⟩ rfl ?_
          refine ev_gF3 [true, false, true] [] rfl ?_
          refine ev_retz rfl (by first | decide | exact zb_01 _) ?_
          refine ev_g0 rfl ?_
          refine ev_retz rfl (by first | decide | exact zb_01 _) ?_
          first | exact ⟨rfl, rfl⟩ | exact ⟨congrArg (fun z => some (vi (zb z))) lf_F3, rfl⟩
        · intro μ
          refine det_of h_MM_isAct rfl rfl rfl ?_
          refine ev_g0 rfl ?_
          refine ev_kS 3 k_MM_188 rfl (C_in_0_65) ⟨by decide, by decide⟩ rfl ?_
          refine ev_gF3 [false, true, false] [] rfl ?_
          refine ev_inS 4 k_MM_250 h_MM_isFirst rfl rfl rfl rfl ⟨by decide, by decide⟩ rfl ?_
          refine ev_gF3 [] [some 7] rfl ?_
          refine ev_inS 1 k_MM_214 h_MM_isX rfl rfl rfl rfl ⟨by decide, by decide⟩ rfl ?_
          refine ev_g0 rfl ?_
          refine ev_kS 3 k_MM_188 rfl (C_in_0_3) ⟨by decide, by decide⟩ rfl ?_
          refine ev_g0 rfl ?_
          refine ev_retz rfl (by first | decide | exact zb_01 _) ?_
          refine ev_gF3 [false] [] rfl ?_
          refine ev_kS 3 k_MM_188 rfl (C_in_0_5) ⟨by decide, by decide⟩ rfl ?_
          refine ev_gF3 [false] [] rfl ?_
          refine ev_inS 1 k_MM_214 h_MM_isX rfl rfl rfl rfl ⟨by decide, by decide⟩ rfl ?_
          refine ev_g0 rfl ?_
          refine ev_kS 3 k_MM_188 rfl (C_in_0_3) ⟨by decide, by decide⟩ rfl ?_
          refine ev_g0 rfl ?_
          refine ev_retz rfl (by first | decide | exact zb_01 _) ?_
          refine ev_gF3 [false] [] rfl ?_
          refine ev_retz rfl (by first | decide | exact zb_01 _) ?_
          refine ev_g0 rfl ?_
          refine ev_retz rfl (by first | decide | exact zb_01 _) ?_
          first | exact ⟨rfl, rfl⟩ | exact ⟨congrArg (fun z => some (vi (zb z))) lf_F3, rfl⟩
        · exact ⟨(nk (n := 4) ha rfl (by decide)), (nk (n := 6) hb rfl (by decide)), (nk (n := 4) hc rfl (by decide))⟩
      · skip
        refine ⟨false, ?_, ?_, fun h => by cases h⟩
        · intro μ
          refine det_of h_SH_fit rfl rfl rfl ?_
          refine ev_gF3 [false, true] [] rfl ?_
          refine ev_top2 (a2 := _) (b2 := vi (nI 2)) rfl (congrArg vi (by decide)) ?_
          refine ev_kS 2 k_SH_15 rfl C_fits2 ⟨by decide, by decide⟩ rfl ?_
          refine ev_gF3 [false] [] rfl ?_
          refine ev_top2 (a2 := _) (b2 := vi (nI 10)) rfl (congrArg vi (by decide)) ?_
          refine ev_kS 2 k_SH_15 rfl C_fits10 ⟨by decide, by decide⟩ rfl ?_
          refine ev_gF3 [false] [] rfl ?_
          refine ev_top2 (a2 := _) (b2 := vi (nI 2)) rfl (congrArg vi (by decide)) ?_
          refine ev_kS 2 k_SH_15 rfl C_fits2 ⟨by decide, by decide⟩ rfl ?_
          refine ev_gF3 [false] [] rfl ?_
          refine ev_retz rfl (by first | decide | exact zb_01 _) ?_
          first | exact ⟨rfl, rfl⟩ | exact ⟨congrArg (fun z => some (vi (zb z))) lf_F3, rfl⟩
        · intro μ
          refine det_of h_MM_isAct rfl rfl rfl ?_
          refine ev_g0 rfl ?_
          refine ev_kS 3 k_MM_188 rfl (C_in_0_65) ⟨by decide, by decide⟩ rfl ?_
          refine ev_gF3 [false, true, false] [] rfl ?_
          refine ev_inS 4 k_MM_250 h_MM_isFirst rfl rfl rfl rfl ⟨by decide, by decide⟩ rfl ?_
          refine ev_gF3 [] [some 7] rfl ?_
          refine ev_inS 1 k_MM_214 h_MM_isX rfl rfl rfl rfl ⟨by decide, by decide⟩ rfl ?_
          refine ev_g0 rfl ?_
          refine ev_kS 3 k_MM_188 rfl (C_in_0_3) ⟨by decide, by decide⟩ rfl ?_
          refine ev_g0 rfl ?_
          refine ev_retz rfl (by first | decide | exact zb_01 _) ?_
          refine ev_gF3 [false] [] rfl ?_
          refine ev_kS 3 k_MM_188 rfl (C_in_0_5) ⟨by decide, by decide⟩ rfl ?_
          refine ev_gF3 [false] [] rfl ?_
          refine ev_inS 1 k_MM_214 h_MM_isX rfl rfl rfl rfl ⟨by decide, by decide⟩ rfl ?_
          refine ev_g0 rfl ?_
          refine ev_kS 3 k_MM_188 rfl (C_in_0_3) ⟨by decide, by decide⟩ rfl ?_
          refine ev_g0 rfl ?_
          refine ev_retz rfl (by first | decide | exact zb_01 _) ?_
          refine ev_gF3 [true] [] rfl ?_
          refine ev_retz rfl (by first | decide | exact zb_01 _) ?_
          refine ev_g0 rfl ?_
          refine ev_retz rfl (by first | decide | exact zb_01 _) ?_
          first | exact ⟨rfl, rfl⟩ | exact ⟨congrArg (fun z => some (vi (zb z))) lf_F3, rfl⟩
    · skip
      refine ⟨false, ?_, ?_, fun h => by cases h⟩
      · intro μ
        refine det_of h_SH_fit rfl rfl rfl ?_
        refine ev_gF3 [false, true] [] rfl ?_
        refine ev_top2 (a2 := _) (b2 := vi (nI 2)) rfl (congrArg vi (by decide)) ?_
        refine ev_kS 2 k_SH_15 rfl C_fits2 ⟨by decide, by decide⟩ rfl ?_
        refine ev_gF3 [false] [] rfl ?_
        refine ev_top2 (a2 := _) (b2 := vi (nI 10)) rfl (congrArg vi (by decide)) ?_
        refine ev_kS 2 k_SH_15 rfl C_fits10 ⟨by decide, by decide⟩ rfl ?_
        refine ev_gF3 [true] [] rfl ?_
        refine ev_retz rfl (by first | decide | exact zb_01 _) ?_
        first | exact ⟨rfl, rfl⟩ | exact ⟨congrArg (fun z => some (vi (zb z))) lf_F3, rfl⟩
      · intro μ
        refine det_of h_MM_isAct rfl rfl rfl ?_
        refine ev_g0 rfl ?_
        refine ev_kS 3 k_MM_188 rfl (C_in_0_65) ⟨by decide, by decide⟩ rfl ?_
        refine ev_gF3 [false, true, false] [] rfl ?_
        refine ev_inS 4 k_MM_250 h_MM_isFirst rfl rfl rfl rfl ⟨by decide, by decide⟩ rfl ?_
        refine ev_gF3 [] [some 7] rfl ?_
        refine ev_inS 1 k_MM_214 h_MM_isX rfl rfl rfl rfl ⟨by decide, by decide⟩ rfl ?_
        refine ev_g0 rfl ?_
        refine ev_kS 3 k_MM_188 rfl (C_in_0_3) ⟨by decide, by decide⟩ rfl ?_
        refine ev_g0 rfl ?_
        refine ev_retz rfl (by first | decide | exact zb_01 _) ?_
        refine ev_gF3 [false] [] rfl ?_
        refine ev_kS 3 k_MM_188 rfl (C_in_0_5) ⟨by decide, by decide⟩ rfl ?_
        refine ev_gF3 [true] [] rfl ?_
        refine ev_retz rfl (by first | decide | exact zb_01 _) ?_
        refine ev_g0 rfl ?_
        refine ev_retz rfl (by first | decide | exact zb_01 _) ?_
        first | exact ⟨rfl, rfl⟩ | exact ⟨congrArg (fun z => some (vi (zb z))) lf_F3, rfl⟩
  · skip
    refine ⟨false, ?_, ?_, fun h => by cases h⟩
    · intro μ
      refine det_of h_SH_fit rfl rfl rfl ?_
      refine ev_gF3 [false, true] [] rfl ?_
      refine ev_top2 (a2 := _) (b2 := vi (nI 2)) rfl (congrArg vi (by decide)) ?_
      refine ev_kS 2 k_SH_15 rfl C_fits2 ⟨by decide, by decide⟩ rfl ?_
      refine ev_gF3 [true] [] rfl ?_
      refine ev_retz rfl (by first | decide | exact zb_01 _) ?_
      first | exact ⟨rfl, rfl⟩ | exact ⟨congrArg (fun z => some (vi (zb z))) lf_F3, rfl⟩
    · intro μ
      refine det_of h_MM_isAct rfl rfl rfl ?_
      refine ev_g0 rfl ?_
      refine ev_kS 3 k_MM_188 rfl (C_in_0_65) ⟨by decide, by decide⟩ rfl ?_
      refine ev_gF3 [false, true, false] [] rfl ?_
      refine ev_inS 4 k_MM_250 h_MM_isFirst rfl rfl rfl rfl ⟨by decide, by decide⟩ rfl ?_
      refine ev_gF3 [] [some 7] rfl ?_
      refine ev_inS 1 k_MM_214 h_MM_isX rfl rfl rfl rfl ⟨by decide, by decide⟩ rfl ?_
      refine ev_g0 rfl ?_
      refine ev_kS 3 k_MM_188 rfl (C_in_0_3) ⟨by decide, by decide⟩ rfl ?_
      refine ev_g0 rfl ?_
      refine ev_retz rfl (by first | decide | exact zb_01 _) ?_
      refine ev_gF3 [true] [] rfl ?_
      refine ev_retz rfl (by first | decide | exact zb_01 _) ?_
      refine ev_g0 rfl ?_
      refine ev_retz rfl (by first | decide | exact zb_01 _) ?_
      first | exact ⟨rfl, rfl⟩ | exact ⟨congrArg (fun z => some (vi (zb z))) lf_F3, rfl⟩
theorem FT_8 {a b c : Int32} : ∃ v : Bool, (∀ μ : mm_M, mm_Det Y_SH_fit [vi (nI 8), vi a, vi b, vi c] μ (some (vi (zb v))) μ) ∧ (∀ μm : mm_M, mm_Det Y_MM_isAct [vi (nI 8), vi a, vi b, vi c] μm (some (vi (zb v))) μm) ∧ (v = true → OKA 8 a b c) := by
  by_cases ha : 0 ≤ a.toInt ∧ a.toInt ≤ 3
  · skip
    by_cases hb : 0 ≤ b.toInt ∧ b.toInt ≤ 5
    · skip
      by_cases hc : 0 ≤ c.toInt ∧ c.toInt ≤ 3
      · skip
        refine ⟨true, ?_, ?_, fun _ => ?_⟩
        · intro μ
          refine det_of h_SH_fit rfl rfl rfl ?_
          refine ev_gF3 [false, true] [] rfl ?_
          refine ev_top2 (a2 := _) (b2 := vi (nI 3)) rfl (congrArg vi (by decide)) ?_
          refine ev_kS 2 k_SH_15 rfl C_fits3 ⟨by decide, by decide⟩ rfl ?_
          refine ev_gF3 [false] [] rfl ?_
          refine ev_top2 (a2 := _) (b2 := vi (nI 10)) rfl (congrArg vi (by decide)) ?_
          refine ev_kS 2 k_SH_15 rfl C_fits10 ⟨by decide, by decide⟩ rfl ?_
          refine ev_gF3 [false] [] rfl ?_
          refine ev_top2 (a2 := _) (b2 := vi (nI 3)) rfl (congrArg vi (by decide)) ?_
          refine ev_kS 2 k_SH_15 rfl C_fits3 ⟨by decide, by decide⟩ rfl ?_
          refine ev_gF3 [true] [] rfl ?_
          refine ev_inS 4 k_SH_19 h_SH_fitsByB rfl rfl rfl rfl ⟨by decide, by decide⟩ rfl ?_
          refine ev_gF3 [true, false, true] [] rfl ?_
          refine ev_retz rfl (by first | decide | exact zb_01 _) ?_
          refine ev_g0 rfl ?_
          refine ev_retz rfl (by first | decide | exact zb_01 _) ?_
          first | exact ⟨rfl, rfl⟩ | exact ⟨congrArg (fun z => some (vi (zb z))) lf_F3, rfl⟩
        · intro μ
          refine det_of h_MM_isAct rfl rfl rfl ?_
          refine ev_g0 rfl ?_
          refine ev_kS 3 k_MM_188 rfl (C_in_0_65) ⟨by decide, by decide⟩ rfl ?_
          refine ev_gF3 [false, true, false] [] rfl ?_
          refine ev_inS 4 k_MM_250 h_MM_isFirst rfl rfl rfl rfl ⟨by decide, by decide⟩ rfl ?_
          refine ev_gF3 [] [some 8] rfl ?_
          refine ev_inS 1 k_MM_214 h_MM_isX rfl rfl rfl rfl ⟨by decide, by decide⟩ rfl ?_
          refine ev_g0 rfl ?_
          refine ev_kS 3 k_MM_188 rfl (C_in_0_3) ⟨by decide, by decide⟩ rfl ?_
          refine ev_g0 rfl ?_
          refine ev_retz rfl (by first | decide | exact zb_01 _) ?_
          refine ev_gF3 [false] [] rfl ?_
          refine ev_kS 3 k_MM_188 rfl (C_in_0_5) ⟨by decide, by decide⟩ rfl ?_
          refine ev_gF3 [false] [] rfl ?_
          refine ev_inS 1 k_MM_214 h_MM_isX rfl rfl rfl rfl ⟨by decide, by decide⟩ rfl ?_
          refine ev_g0 rfl ?_
          refine ev_kS 3 k_MM_188 rfl (C_in_0_3) ⟨by decide, by decide⟩ rfl ?_
          refine ev_g0 rfl ?_
          refine ev_retz rfl (by first | decide | exact zb_01 _) ?_
          refine ev_gF3 [false] [] rfl ?_
          refine ev_retz rfl (by first | decide | exact zb_01 _) ?_
          refine ev_g0 rfl ?_
          refine ev_retz rfl (by first | decide | exact zb_01 _) ?_
          first | exact ⟨rfl, rfl⟩ | exact ⟨congrArg (fun z => some (vi (zb z))) lf_F3, rfl⟩
        · exact ⟨(nk (n := 4) ha rfl (by decide)), (nk (n := 6) hb rfl (by decide)), (nk (n := 4) hc rfl (by decide))⟩
      · skip
        refine ⟨false, ?_, ?_, fun h => by cases h⟩
        · intro μ
          refine det_of h_SH_fit rfl rfl rfl ?_
          refine ev_gF3 [false, true] [] rfl ?_
          refine ev_top2 (a2 := _) (b2 := vi (nI 3)) rfl (congrArg vi (by decide)) ?_
          refine ev_kS 2 k_SH_15 rfl C_fits3 ⟨by decide, by decide⟩ rfl ?_
          refine ev_gF3 [false] [] rfl ?_
          refine ev_top2 (a2 := _) (b2 := vi (nI 10)) rfl (congrArg vi (by decide)) ?_
          refine ev_kS 2 k_SH_15 rfl C_fits10 ⟨by decide, by decide⟩ rfl ?_
          refine ev_gF3 [false] [] rfl ?_
          refine ev_top2 (a2 := _) (b2 := vi (nI 3)) rfl (congrArg vi (by decide)) ?_
          refine ev_kS 2 k_SH_15 rfl C_fits3 ⟨by decide, by decide⟩ rfl ?_
          refine ev_gF3 [false] [] rfl ?_
          refine ev_retz rfl (by first | decide | exact zb_01 _) ?_
          first | exact ⟨rfl, rfl⟩ | exact ⟨congrArg (fun z => some (vi (zb z))) lf_F3, rfl⟩
        · intro μ
          refine det_of h_MM_isAct rfl rfl rfl ?_
          refine ev_g0 rfl ?_
          refine ev_kS 3 k_MM_188 rfl (C_in_0_65) ⟨by decide, by decide⟩ rfl ?_
          refine ev_gF3 [false, true, false] [] rfl ?_
          refine ev_inS 4 k_MM_250 h_MM_isFirst rfl rfl rfl rfl ⟨by decide, by decide⟩ rfl ?_
          refine ev_gF3 [] [some 8] rfl ?_
          refine ev_inS 1 k_MM_214 h_MM_isX rfl rfl rfl rfl ⟨by decide, by decide⟩ rfl ?_
          refine ev_g0 rfl ?_
          refine ev_kS 3 k_MM_188 rfl (C_in_0_3) ⟨by decide, by decide⟩ rfl ?_
          refine ev_g0 rfl ?_
          refine ev_retz rfl (by first | decide | exact zb_01 _) ?_
          refine ev_gF3 [false] [] rfl ?_
          refine ev_kS 3 k_MM_188 rfl (C_in_0_5) ⟨by decide, by decide⟩ rfl ?_
          refine ev_gF3 [false] [] rfl ?_
          refine ev_inS 1 k_MM_214 h_MM_isX rfl rfl rfl rfl ⟨by decide, by decide⟩ rfl ?_
          refine ev_g0 rfl ?_
          refine ev_kS 3 k_MM_188 rfl (C_in_0_3) ⟨by decide, by decide⟩ rfl ?_
          refine ev_g0 rfl ?_
          refine ev_retz rfl (by first | decide | exact zb_01 _) ?_
          refine ev_gF3 [true] [] rfl ?_
          refine ev_retz rfl (by first | decide | exact zb_01 _) ?_
          refine ev_g0 rfl ?_
          refine ev_retz rfl (by first | decide | exact zb_01 _) ?_
          first | exact ⟨rfl, rfl⟩ | exact ⟨congrArg (fun z => some (vi (zb z))) lf_F3, rfl⟩
    · skip
      refine ⟨false, ?_, ?_, fun h => by cases h⟩
      · intro μ
        refine det_of h_SH_fit rfl rfl rfl ?_
        refine ev_gF3 [false, true] [] rfl ?_
        refine ev_top2 (a2 := _) (b2 := vi (nI 3)) rfl (congrArg vi (by decide)) ?_
        refine ev_kS 2 k_SH_15 rfl C_fits3 ⟨by decide, by decide⟩ rfl ?_
        refine ev_gF3 [false] [] rfl ?_
        refine ev_top2 (a2 := _) (b2 := vi (nI 10)) rfl (congrArg vi (by decide)) ?_
        refine ev_kS 2 k_SH_15 rfl C_fits10 ⟨by decide, by decide⟩ rfl ?_
        refine ev_gF3 [true] [] rfl ?_
        refine ev_retz rfl (by first | decide | exact zb_01 _) ?_
        first | exact ⟨rfl, rfl⟩ | exact ⟨congrArg (fun z => some (vi (zb z))) lf_F3, rfl⟩
      · intro μ
        refine det_of h_MM_isAct rfl rfl rfl ?_
        refine ev_g0 rfl ?_
        refine ev_kS 3 k_MM_188 rfl (C_in_0_65) ⟨by decide, by decide⟩ rfl ?_
        refine ev_gF3 [false, true, false] [] rfl ?_
        refine ev_inS 4 k_MM_250 h_MM_isFirst rfl rfl rfl rfl ⟨by decide, by decide⟩ rfl ?_
        refine ev_gF3 [] [some 8] rfl ?_
        refine ev_inS 1 k_MM_214 h_MM_isX rfl rfl rfl rfl ⟨by decide, by decide⟩ rfl ?_
        refine ev_g0 rfl ?_
        refine ev_kS 3 k_MM_188 rfl (C_in_0_3) ⟨by decide, by decide⟩ rfl ?_
        refine ev_g0 rfl ?_
        refine ev_retz rfl (by first | decide | exact zb_01 _) ?_
        refine ev_gF3 [false] [] rfl ?_
        refine ev_kS 3 k_MM_188 rfl (C_in_0_5) ⟨by decide, by decide⟩ rfl ?_
        refine ev_gF3 [true] [] rfl ?_
        refine ev_retz rfl (by first | decide | exact zb_01 _) ?_
        refine ev_g0 rfl ?_
        refine ev_retz rfl (by first | decide | exact zb_01 _) ?_
        first | exact ⟨rfl, rfl⟩ | exact ⟨congrArg (fun z => some (vi (zb z))) lf_F3, rfl⟩
  · skip
    refine ⟨false, ?_, ?_, fun h => by cases h⟩
    · intro μ
      refine det_of h_SH_fit rfl rfl rfl ?_
      refine ev_gF3 [false, true] [] rfl ?_
      refine ev_top2 (a2 := _) (b2 := vi (nI 3)) rfl (congrArg vi (by decide)) ?_
      refine ev_kS 2 k_SH_15 rfl C_fits3 ⟨by decide, by decide⟩ rfl ?_
      refine ev_gF3 [true] [] rfl ?_
      refine ev_retz rfl (by first | decide | exact zb_01 _) ?_
      first | exact ⟨rfl, rfl⟩ | exact ⟨congrArg (fun z => some (vi (zb z))) lf_F3, rfl⟩
    · intro μ
      refine det_of h_MM_isAct rfl rfl rfl ?_
      refine ev_g0 rfl ?_
      refine ev_kS 3 k_MM_188 rfl (C_in_0_65) ⟨by decide, by decide⟩ rfl ?_
      refine ev_gF3 [false, true, false] [] rfl ?_
      refine ev_inS 4 k_MM_250 h_MM_isFirst rfl rfl rfl rfl ⟨by decide, by decide⟩ rfl ?_
      refine ev_gF3 [] [some 8] rfl ?_
      refine ev_inS 1 k_MM_214 h_MM_isX rfl rfl rfl rfl ⟨by decide, by decide⟩ rfl ?_
      refine ev_g0 rfl ?_
      refine ev_kS 3 k_MM_188 rfl (C_in_0_3) ⟨by decide, by decide⟩ rfl ?_
      refine ev_g0 rfl ?_
      refine ev_retz rfl (by first | decide | exact zb_01 _) ?_
      refine ev_gF3 [true] [] rfl ?_
      refine ev_retz rfl (by first | decide | exact zb_01 _) ?_
      refine ev_g0 rfl ?_
      refine ev_retz rfl (by first | decide | exact zb_01 _) ?_
      first | exact ⟨rfl, rfl⟩ | exact ⟨congrArg (fun z => some (vi (zb z))) lf_F3, rfl⟩
