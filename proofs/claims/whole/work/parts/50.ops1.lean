theorem ev_gN {Y : mm_Y} {μ0 : mm_M} {rem : List mm_E} {L : mm_L} {st : List mm_V} {μ : mm_M} {Post : Option mm_V → mm_M → Prop} (bs : List Bool) (os : List (Option Nat)) {e2 : mm_E} {rem2 : List mm_E} {L2 : mm_L} {st2 : List mm_V} {μ2 : mm_M} {P2 : Prop} (h : mm_go 5000 (mm_co Y) rem L st μ bs os True = some (e2 :: rem2, L2, st2, μ2, P2)) (k : Ev Y μ0 (e2 :: rem2) L2 st2 μ2 Post) (hp : P2 := by (repeat' apply And.intro) <;> first | exact trivial | assumption | rfl | decide | omega | (simp (disch := first | assumption | omega | decide) only [i_add, i_mul, n_cl, nI_and7, nI_and3, v_in, i_eq, i_lt, i_le, i_eq0, i_lt0, i_ge0, i_gt0, i_le0, lg_cmp_eq, lg_cmp_ge, lg_cmp_gt, lg_cmp_le, lg_cmp_lt, zb_e0, zb_n0, Classical.not_not, up_ne, Nat.zero_add, Nat.add_zero, rc_num hC, rm_num hM, rc_dbl hC, rm_dbl hM, rc_flt hC, rm_flt hM, i_sl, i_l1, i_l2, i_l3, l_sl, l_su, i_su, l_lt, l_le, l_eq, nI_tl, l_z, *] <;> first | assumption | omega | decide)) : Ev Y μ0 rem L st μ Post := ev_go bs os h hp k
theorem ev_bN {Y : mm_Y} {μ0 : mm_M} {rem : List mm_E} {L : mm_L} {st : List mm_V} {μ : mm_M} {Post : Option mm_V → mm_M → Prop} {e2 e3 : mm_E} {rem2 rem3 : List mm_E} {L2 L3 : mm_L} {st2 st3 : List mm_V} {μ2 μ3 : mm_M} {c c2 d d2 : Prop} (hT : mm_go 1 (mm_co Y) rem L st μ [true] [] True = some (e2 :: rem2, L2, st2, μ2, True ∧ c)) (hF : mm_go 1 (mm_co Y) rem L st μ [false] [] True = some (e3 :: rem3, L3, st3, μ3, True ∧ c2)) (kt : d → Ev Y μ0 (e2 :: rem2) L2 st2 μ2 Post) (kf : d2 → Ev Y μ0 (e3 :: rem3) L3 st3 μ3 Post) (hc : ¬ c → c2 := by first | exact id | exact Classical.not_not.mp) (g1 : c → d := by intro hh; (try simp (disch := first | assumption | omega | decide) only [i_add, i_mul, n_cl, nI_and7, nI_and3, v_in, i_eq, i_lt, i_le, i_eq0, i_lt0, i_ge0, i_gt0, i_le0, lg_cmp_eq, lg_cmp_ge, lg_cmp_gt, lg_cmp_le, lg_cmp_lt, zb_e0, zb_n0, Classical.not_not, up_ne, Nat.zero_add, Nat.add_zero, rc_num hC, rm_num hM, rc_dbl hC, rm_dbl hM, rc_flt hC, rm_flt hM, i_sl, i_l1, i_l2, i_l3, l_sl, l_su, i_su, l_lt, l_le, l_eq, nI_tl, l_z, *] at hh); exact hh) (g2 : c2 → d2 := by intro hh; (try simp (disch := first | assumption | omega | decide) only [i_add, i_mul, n_cl, nI_and7, nI_and3, v_in, i_eq, i_lt, i_le, i_eq0, i_lt0, i_ge0, i_gt0, i_le0, lg_cmp_eq, lg_cmp_ge, lg_cmp_gt, lg_cmp_le, lg_cmp_lt, zb_e0, zb_n0, Classical.not_not, up_ne, Nat.zero_add, Nat.add_zero, rc_num hC, rm_num hM, rc_dbl hC, rm_dbl hM, rc_flt hC, rm_flt hM, i_sl, i_l1, i_l2, i_l3, l_sl, l_su, i_su, l_lt, l_le, l_eq, nI_tl, l_z, *] at hh); exact hh) : Ev Y μ0 rem L st μ Post := ev_br hT hF hc (fun h => kt (g1 h)) (fun h => kf (g2 h))
theorem lf_N {p : Prop} (h : p := by first | rfl | assumption | (simp (disch := first | assumption | omega | decide) only [i_add, i_mul, n_cl, nI_and7, nI_and3, v_in, i_eq, i_lt, i_le, i_eq0, i_lt0, i_ge0, i_gt0, i_le0, lg_cmp_eq, lg_cmp_ge, lg_cmp_gt, lg_cmp_le, lg_cmp_lt, zb_e0, zb_n0, Classical.not_not, up_ne, Nat.zero_add, Nat.add_zero, rc_num hC, rm_num hM, rc_dbl hC, rm_dbl hM, rc_flt hC, rm_flt hM, i_sl, i_l1, i_l2, i_l3, l_sl, l_su, i_su, l_lt, l_le, l_eq, nI_tl, l_z, *] <;> first | rfl | assumption | omega | decide)) : p := h
theorem A0 {ci : Nat → Nat → Nat → Int32} {cn : Nat → Nat → Nat → Nat} {co : Nat → Option Nat} {xj : Nat → Nat → Nat → Int64} {xd : Nat → Nat → Nat → UInt64} {xf : Nat → Nat → Nat → UInt32} {xo : Nat → Nat → Nat → Option Nat} {xi : Nat → Nat → Nat → Int32} {xn : Nat → Nat → Nat → Nat} {K : Nat → Nat} {I : Nat → Nat → Int32} {J : Nat → Nat → Int64} {F : Nat → Nat → UInt32} {D : Nat → Nat → UInt64} {R : Nat → Nat → Option Nat} {nx sl : Nat} {Km : Nat → Nat} {Im : Nat → Nat → Int32} {Jm : Nat → Nat → Int64} {Fm : Nat → Nat → UInt32} {Dm : Nat → Nat → UInt64} {Rm : Nat → Nat → Option Nat} {nxm slm : Nat} (hC : RC ci cn co xj xd xf xo xi xn I J F D R nx sl) (hM : RM ci cn co xj xd xf xo xi xn Im Jm Dm) {b : Int32} {t a : Nat} {c : Int32} {go : Int32} (ht : t < 3) (ha : a < 8) (x1 : Im 6 39 = nI t) (x2 : Im 6 40 = nI a) (x3 : Im 6 41 = b) (x4 : Im 6 42 = c) (x5 : Im 6 43 = nI 0) (x6 : Im 6 44 = go) : Ct Y_NA_perform [vr 3 54, vr 8 (32 + 7 * t), vi (nI 0), vi (nI a), vi (b), vi c] (K, I, J, F, D, R, nx, sl) (fun r μ1 => Ct Y_MM_reckons [vr 11 6, vi (nI 0)] (Km, Im, Jm, Fm, Dm, Rm, nxm, slm) (fun r2 μ2 => r2 = none ∧ QA ci cn co go r μ1 μ2)) := by
  refine ct_of h_NA_perform rfl rfl rfl ?_
  refine ev_gN [] [some 0] rfl ?_
  refine ev_inV 2 k_NA_15 h_SD_setN rfl rfl rfl rfl rfl ⟨by decide, by decide⟩ rfl ?_
  refine ev_gN [] [] rfl ?_
  refine ev_ret rfl ?_
  refine ev_g0 rfl ?_
  refine ev_reti rfl ?_
  refine ct_of h_MM_reckons rfl rfl rfl ?_
  refine ev_gN [] [some 0] rfl ?_
  refine ev_inV 2 k_MM_288 h_MM_lay rfl rfl rfl rfl rfl ⟨by decide, by decide⟩ rfl ?_
  refine ev_gN [] [] rfl ?_
  refine ev_ret rfl ?_
  refine ev_g0 rfl ?_
  refine ev_ret rfl ?_
  exact ⟨rfl, (u3 xj 0 t a (b.toInt64)), xd, xf, xo, xi, xn, nI 0, rfl, bdd, lf_N, lf_N, (CU_num hC ht ha lf_N lf_N), (MU_num hM ht ha lf_N lf_N (fun i hi => (rc_isor hC hi).2.2.1))⟩
theorem A3_0 {ci : Nat → Nat → Nat → Int32} {cn : Nat → Nat → Nat → Nat} {co : Nat → Option Nat} {xj : Nat → Nat → Nat → Int64} {xd : Nat → Nat → Nat → UInt64} {xf : Nat → Nat → Nat → UInt32} {xo : Nat → Nat → Nat → Option Nat} {xi : Nat → Nat → Nat → Int32} {xn : Nat → Nat → Nat → Nat} {K : Nat → Nat} {I : Nat → Nat → Int32} {J : Nat → Nat → Int64} {F : Nat → Nat → UInt32} {D : Nat → Nat → UInt64} {R : Nat → Nat → Option Nat} {nx sl : Nat} {Km : Nat → Nat} {Im : Nat → Nat → Int32} {Jm : Nat → Nat → Int64} {Fm : Nat → Nat → UInt32} {Dm : Nat → Nat → UInt64} {Rm : Nat → Nat → Option Nat} {nxm slm : Nat} (hC : RC ci cn co xj xd xf xo xi xn I J F D R nx sl) (hM : RM ci cn co xj xd xf xo xi xn Im Jm Dm) {t a : Nat} {c : Nat} {go : Int32} (ht : t < 3) (ha : a < 8) (hc : c < 8) (x1 : Im 6 39 = nI t) (x2 : Im 6 40 = nI a) (x3 : Im 6 41 = nI 0) (x4 : Im 6 42 = nI c) (x5 : Im 6 43 = nI 0) (x6 : Im 6 44 = go) : Ct Y_NA_perform [vr 3 54, vr 8 (32 + 7 * t), vi (nI 3), vi (nI a), vi (nI 0), vi (nI c)] (K, I, J, F, D, R, nx, sl) (fun r μ1 => Ct Y_MM_reckons [vr 11 6, vi (nI 3)] (Km, Im, Jm, Fm, Dm, Rm, nxm, slm) (fun r2 μ2 => r2 = none ∧ QA ci cn co go r μ1 μ2)) := by
  refine ct_of h_NA_perform rfl rfl rfl ?_
  refine ev_gN [] [some 3] rfl ?_
  refine ev_inS 4 k_NA_35 h_NA_joinLongs rfl rfl rfl rfl ⟨by decide, by decide⟩ rfl ?_
  refine ev_g0 rfl ?_
  refine ev_inV 1 k_NA_68 h_SD_n rfl rfl rfl rfl rfl ⟨by decide, by decide⟩ rfl ?_
  refine ev_gN [] [] rfl ?_
  refine ev_retl rfl ?_
  refine ev_g0 rfl ?_
  refine ev_inV 1 k_NA_68 h_SD_n rfl rfl rfl rfl rfl ⟨by decide, by decide⟩ rfl ?_
  refine ev_gN [] [] rfl ?_
  refine ev_retl rfl ?_
  refine ev_g0 rfl ?_
  refine ev_inS 1 k_NA_72 h_NA_isDivision rfl rfl rfl rfl ⟨by decide, by decide⟩ rfl ?_
  refine ev_gN [false, true] [] rfl ?_
  refine ev_retz rfl (by first | decide | exact zb_01 _) ?_
  refine ev_gN [true] [] rfl ?_
  refine ev_inS 3 k_NA_76 h_NA_joined rfl rfl rfl rfl ⟨by decide, by decide⟩ rfl ?_
  refine ev_gN [] [some 0] rfl ?_
  refine ev_retl rfl ?_
  refine ev_g0 rfl ?_
  refine ev_inV 2 k_NA_15 h_SD_setN rfl rfl rfl rfl rfl ⟨by decide, by decide⟩ rfl ?_
  refine ev_gN [] [] rfl ?_
  refine ev_ret rfl ?_
  refine ev_g0 rfl ?_
  refine ev_reti rfl ?_
  refine ev_g0 rfl ?_
  refine ev_reti rfl ?_
  refine ct_of h_MM_reckons rfl rfl rfl ?_
  refine ev_gN [] [some 3] rfl ?_
  refine ev_inV 1 k_MM_277 h_MM_number rfl rfl rfl rfl rfl ⟨by decide, by decide⟩ rfl ?_
  refine ev_gN [] [] rfl ?_
  refine ev_retl rfl ?_
  refine ev_g0 rfl ?_
  refine ev_bN rfl rfl (fun h_1 => ?_) (fun h_1 => ?_)
  · skip
    refine ev_g0 rfl ?_
    refine ev_inV 1 k_MM_277 h_MM_number rfl rfl rfl rfl rfl ⟨by decide, by decide⟩ rfl ?_
    refine ev_gN [] [] rfl ?_
    refine ev_retl rfl ?_
    refine ev_g0 rfl ?_
    refine ev_inV 1 k_MM_277 h_MM_number rfl rfl rfl rfl rfl ⟨by decide, by decide⟩ rfl ?_
    refine ev_gN [] [] rfl ?_
    refine ev_retl rfl ?_
    refine ev_g0 rfl ?_
    refine ev_inV 3 k_MM_305 h_MM_longs rfl rfl rfl rfl rfl ⟨by decide, by decide⟩ rfl ?_
    refine ev_gN [] [some 0] rfl ?_
    refine ev_retl rfl ?_
    refine ev_g0 rfl ?_
    refine ev_inV 2 k_MM_288 h_MM_lay rfl rfl rfl rfl rfl ⟨by decide, by decide⟩ rfl ?_
    refine ev_gN [] [] rfl ?_
    refine ev_ret rfl ?_
    refine ev_g0 rfl ?_
    refine ev_ret rfl ?_
    exact ⟨rfl, (u3 xj 0 t a (xj 0 t a + xj 0 t c)), xd, xf, xo, xi, xn, nI 0, rfl, bdd, lf_N, lf_N, (CU_num hC ht ha lf_N lf_N), (MU_num hM ht ha lf_N lf_N (fun i hi => (rc_isor hC hi).2.2.1))⟩
  · skip
    refine ev_gN [false, true] [] rfl ?_
    refine ev_inV 1 k_MM_277 h_MM_number rfl rfl rfl rfl rfl ⟨by decide, by decide⟩ rfl ?_
    refine ev_gN [] [] rfl ?_
    refine ev_retl rfl ?_
    refine ev_g0 rfl ?_
    refine ev_inV 1 k_MM_277 h_MM_number rfl rfl rfl rfl rfl ⟨by decide, by decide⟩ rfl ?_
    refine ev_gN [] [] rfl ?_
    refine ev_retl rfl ?_
    refine ev_g0 rfl ?_
    refine ev_inV 3 k_MM_305 h_MM_longs rfl rfl rfl rfl rfl ⟨by decide, by decide⟩ rfl ?_
    refine ev_gN [] [some 0] rfl ?_
    refine ev_retl rfl ?_
    refine ev_g0 rfl ?_
    refine ev_inV 2 k_MM_288 h_MM_lay rfl rfl rfl rfl rfl ⟨by decide, by decide⟩ rfl ?_
    refine ev_gN [] [] rfl ?_
    refine ev_ret rfl ?_
    refine ev_g0 rfl ?_
    refine ev_ret rfl ?_
    exact ⟨rfl, (u3 xj 0 t a (xj 0 t a + xj 0 t c)), xd, xf, xo, xi, xn, nI 0, rfl, bdd, lf_N, lf_N, (CU_num hC ht ha lf_N lf_N), (MU_num hM ht ha lf_N lf_N (fun i hi => (rc_isor hC hi).2.2.1))⟩
theorem A3_1 {ci : Nat → Nat → Nat → Int32} {cn : Nat → Nat → Nat → Nat} {co : Nat → Option Nat} {xj : Nat → Nat → Nat → Int64} {xd : Nat → Nat → Nat → UInt64} {xf : Nat → Nat → Nat → UInt32} {xo : Nat → Nat → Nat → Option Nat} {xi : Nat → Nat → Nat → Int32} {xn : Nat → Nat → Nat → Nat} {K : Nat → Nat} {I : Nat → Nat → Int32} {J : Nat → Nat → Int64} {F : Nat → Nat → UInt32} {D : Nat → Nat → UInt64} {R : Nat → Nat → Option Nat} {nx sl : Nat} {Km : Nat → Nat} {Im : Nat → Nat → Int32} {Jm : Nat → Nat → Int64} {Fm : Nat → Nat → UInt32} {Dm : Nat → Nat → UInt64} {Rm : Nat → Nat → Option Nat} {nxm slm : Nat} (hC : RC ci cn co xj xd xf xo xi xn I J F D R nx sl) (hM : RM ci cn co xj xd xf xo xi xn Im Jm Dm) {t a : Nat} {c : Nat} {go : Int32} (ht : t < 3) (ha : a < 8) (hc : c < 8) (x1 : Im 6 39 = nI t) (x2 : Im 6 40 = nI a) (x3 : Im 6 41 = nI 1) (x4 : Im 6 42 = nI c) (x5 : Im 6 43 = nI 0) (x6 : Im 6 44 = go) : Ct Y_NA_perform [vr 3 54, vr 8 (32 + 7 * t), vi (nI 3), vi (nI a), vi (nI 1), vi (nI c)] (K, I, J, F, D, R, nx, sl) (fun r μ1 => Ct Y_MM_reckons [vr 11 6, vi (nI 3)] (Km, Im, Jm, Fm, Dm, Rm, nxm, slm) (fun r2 μ2 => r2 = none ∧ QA ci cn co go r μ1 μ2)) := by
  refine ct_of h_NA_perform rfl rfl rfl ?_
  refine ev_gN [] [some 3] rfl ?_
  refine ev_inS 4 k_NA_35 h_NA_joinLongs rfl rfl rfl rfl ⟨by decide, by decide⟩ rfl ?_
  refine ev_g0 rfl ?_
  refine ev_inV 1 k_NA_68 h_SD_n rfl rfl rfl rfl rfl ⟨by decide, by decide⟩ rfl ?_
  refine ev_gN [] [] rfl ?_
  refine ev_retl rfl ?_
  refine ev_g0 rfl ?_
  refine ev_inV 1 k_NA_68 h_SD_n rfl rfl rfl rfl rfl ⟨by decide, by decide⟩ rfl ?_
  refine ev_gN [] [] rfl ?_
  refine ev_retl rfl ?_
  refine ev_g0 rfl ?_
  refine ev_inS 1 k_NA_72 h_NA_isDivision rfl rfl rfl rfl ⟨by decide, by decide⟩ rfl ?_
  refine ev_gN [false, true] [] rfl ?_
  refine ev_retz rfl (by first | decide | exact zb_01 _) ?_
  refine ev_gN [true] [] rfl ?_
  refine ev_inS 3 k_NA_76 h_NA_joined rfl rfl rfl rfl ⟨by decide, by decide⟩ rfl ?_
  refine ev_gN [] [some 1] rfl ?_
  refine ev_retl rfl ?_
  refine ev_g0 rfl ?_
  refine ev_inV 2 k_NA_15 h_SD_setN rfl rfl rfl rfl rfl ⟨by decide, by decide⟩ rfl ?_
  refine ev_gN [] [] rfl ?_
  refine ev_ret rfl ?_
  refine ev_g0 rfl ?_
  refine ev_reti rfl ?_
  refine ev_g0 rfl ?_
  refine ev_reti rfl ?_
  refine ct_of h_MM_reckons rfl rfl rfl ?_
  refine ev_gN [] [some 3] rfl ?_
  refine ev_inV 1 k_MM_277 h_MM_number rfl rfl rfl rfl rfl ⟨by decide, by decide⟩ rfl ?_
  refine ev_gN [] [] rfl ?_
  refine ev_retl rfl ?_
  refine ev_g0 rfl ?_
  refine ev_bN rfl rfl (fun h_1 => ?_) (fun h_1 => ?_)
  · skip
    refine ev_g0 rfl ?_
    refine ev_inV 1 k_MM_277 h_MM_number rfl rfl rfl rfl rfl ⟨by decide, by decide⟩ rfl ?_
    refine ev_gN [] [] rfl ?_
    refine ev_retl rfl ?_
    refine ev_g0 rfl ?_
    refine ev_inV 1 k_MM_277 h_MM_number rfl rfl rfl rfl rfl ⟨by decide, by decide⟩ rfl ?_
    refine ev_gN [] [] rfl ?_
    refine ev_retl rfl ?_
    refine ev_g0 rfl ?_
    refine ev_inV 3 k_MM_305 h_MM_longs rfl rfl rfl rfl rfl ⟨by decide, by decide⟩ rfl ?_
    refine ev_gN [] [some 1] rfl ?_
    refine ev_retl rfl ?_
    refine ev_g0 rfl ?_
    refine ev_inV 2 k_MM_288 h_MM_lay rfl rfl rfl rfl rfl ⟨by decide, by decide⟩ rfl ?_
    refine ev_gN [] [] rfl ?_
    refine ev_ret rfl ?_
    refine ev_g0 rfl ?_
    refine ev_ret rfl ?_
    exact ⟨rfl, (u3 xj 0 t a (xj 0 t a - xj 0 t c)), xd, xf, xo, xi, xn, nI 0, rfl, bdd, lf_N, lf_N, (CU_num hC ht ha lf_N lf_N), (MU_num hM ht ha lf_N lf_N (fun i hi => (rc_isor hC hi).2.2.1))⟩
  · skip
    refine ev_gN [false, true] [] rfl ?_
    refine ev_inV 1 k_MM_277 h_MM_number rfl rfl rfl rfl rfl ⟨by decide, by decide⟩ rfl ?_
    refine ev_gN [] [] rfl ?_
    refine ev_retl rfl ?_
    refine ev_g0 rfl ?_
    refine ev_inV 1 k_MM_277 h_MM_number rfl rfl rfl rfl rfl ⟨by decide, by decide⟩ rfl ?_
    refine ev_gN [] [] rfl ?_
    refine ev_retl rfl ?_
    refine ev_g0 rfl ?_
    refine ev_inV 3 k_MM_305 h_MM_longs rfl rfl rfl rfl rfl ⟨by decide, by decide⟩ rfl ?_
    refine ev_gN [] [some 1] rfl ?_
    refine ev_retl rfl ?_
    refine ev_g0 rfl ?_
    refine ev_inV 2 k_MM_288 h_MM_lay rfl rfl rfl rfl rfl ⟨by decide, by decide⟩ rfl ?_
    refine ev_gN [] [] rfl ?_
    refine ev_ret rfl ?_
    refine ev_g0 rfl ?_
    refine ev_ret rfl ?_
    exact ⟨rfl, (u3 xj 0 t a (xj 0 t a - xj 0 t c)), xd, xf, xo, xi, xn, nI 0, rfl, bdd, lf_N, lf_N, (CU_num hC ht ha lf_N lf_N), (MU_num hM ht ha lf_N lf_N (fun i hi => (rc_isor hC hi).2.2.1))⟩
theorem A3_2 {ci : Nat → Nat → Nat → Int32} {cn : Nat → Nat → Nat → Nat} {co : Nat → Option Nat} {xj : Nat → Nat → Nat → Int64} {xd : Nat → Nat → Nat → UInt64} {xf : Nat → Nat → Nat → UInt32} {xo : Nat → Nat → Nat → Option Nat} {xi : Nat → Nat → Nat → Int32} {xn : Nat → Nat → Nat → Nat} {K : Nat → Nat} {I : Nat → Nat → Int32} {J : Nat → Nat → Int64} {F : Nat → Nat → UInt32} {D : Nat → Nat → UInt64} {R : Nat → Nat → Option Nat} {nx sl : Nat} {Km : Nat → Nat} {Im : Nat → Nat → Int32} {Jm : Nat → Nat → Int64} {Fm : Nat → Nat → UInt32} {Dm : Nat → Nat → UInt64} {Rm : Nat → Nat → Option Nat} {nxm slm : Nat} (hC : RC ci cn co xj xd xf xo xi xn I J F D R nx sl) (hM : RM ci cn co xj xd xf xo xi xn Im Jm Dm) {t a : Nat} {c : Nat} {go : Int32} (ht : t < 3) (ha : a < 8) (hc : c < 8) (x1 : Im 6 39 = nI t) (x2 : Im 6 40 = nI a) (x3 : Im 6 41 = nI 2) (x4 : Im 6 42 = nI c) (x5 : Im 6 43 = nI 0) (x6 : Im 6 44 = go) : Ct Y_NA_perform [vr 3 54, vr 8 (32 + 7 * t), vi (nI 3), vi (nI a), vi (nI 2), vi (nI c)] (K, I, J, F, D, R, nx, sl) (fun r μ1 => Ct Y_MM_reckons [vr 11 6, vi (nI 3)] (Km, Im, Jm, Fm, Dm, Rm, nxm, slm) (fun r2 μ2 => r2 = none ∧ QA ci cn co go r μ1 μ2)) := by
  refine ct_of h_NA_perform rfl rfl rfl ?_
  refine ev_gN [] [some 3] rfl ?_
  refine ev_inS 4 k_NA_35 h_NA_joinLongs rfl rfl rfl rfl ⟨by decide, by decide⟩ rfl ?_
  refine ev_g0 rfl ?_
  refine ev_inV 1 k_NA_68 h_SD_n rfl rfl rfl rfl rfl ⟨by decide, by decide⟩ rfl ?_
  refine ev_gN [] [] rfl ?_
  refine ev_retl rfl ?_
  refine ev_g0 rfl ?_
  refine ev_inV 1 k_NA_68 h_SD_n rfl rfl rfl rfl rfl ⟨by decide, by decide⟩ rfl ?_
  refine ev_gN [] [] rfl ?_
  refine ev_retl rfl ?_
  refine ev_g0 rfl ?_
  refine ev_inS 1 k_NA_72 h_NA_isDivision rfl rfl rfl rfl ⟨by decide, by decide⟩ rfl ?_
  refine ev_gN [false, true] [] rfl ?_
  refine ev_retz rfl (by first | decide | exact zb_01 _) ?_
  refine ev_gN [true] [] rfl ?_
  refine ev_inS 3 k_NA_76 h_NA_joined rfl rfl rfl rfl ⟨by decide, by decide⟩ rfl ?_
  refine ev_gN [] [some 2] rfl ?_
  refine ev_retl rfl ?_
  refine ev_g0 rfl ?_
  refine ev_inV 2 k_NA_15 h_SD_setN rfl rfl rfl rfl rfl ⟨by decide, by decide⟩ rfl ?_
  refine ev_gN [] [] rfl ?_
  refine ev_ret rfl ?_
  refine ev_g0 rfl ?_
  refine ev_reti rfl ?_
  refine ev_g0 rfl ?_
  refine ev_reti rfl ?_
  refine ct_of h_MM_reckons rfl rfl rfl ?_
  refine ev_gN [] [some 3] rfl ?_
  refine ev_inV 1 k_MM_277 h_MM_number rfl rfl rfl rfl rfl ⟨by decide, by decide⟩ rfl ?_
  refine ev_gN [] [] rfl ?_
  refine ev_retl rfl ?_
  refine ev_g0 rfl ?_
  refine ev_bN rfl rfl (fun h_1 => ?_) (fun h_1 => ?_)
  · skip
    refine ev_g0 rfl ?_
    refine ev_inV 1 k_MM_277 h_MM_number rfl rfl rfl rfl rfl ⟨by decide, by decide⟩ rfl ?_
    refine ev_gN [] [] rfl ?_
    refine ev_retl rfl ?_
    refine ev_g0 rfl ?_
    refine ev_inV 1 k_MM_277 h_MM_number rfl rfl rfl rfl rfl ⟨by decide, by decide⟩ rfl ?_
    refine ev_gN [] [] rfl ?_
    refine ev_retl rfl ?_
    refine ev_g0 rfl ?_
    refine ev_inV 3 k_MM_305 h_MM_longs rfl rfl rfl rfl rfl ⟨by decide, by decide⟩ rfl ?_
    refine ev_gN [] [some 2] rfl ?_
    refine ev_retl rfl ?_
    refine ev_g0 rfl ?_
    refine ev_inV 2 k_MM_288 h_MM_lay rfl rfl rfl rfl rfl ⟨by decide, by decide⟩ rfl ?_
    refine ev_gN [] [] rfl ?_
    refine ev_ret rfl ?_
    refine ev_g0 rfl ?_
    refine ev_ret rfl ?_
    exact ⟨rfl, (u3 xj 0 t a (xj 0 t a * xj 0 t c)), xd, xf, xo, xi, xn, nI 0, rfl, bdd, lf_N, lf_N, (CU_num hC ht ha lf_N lf_N), (MU_num hM ht ha lf_N lf_N (fun i hi => (rc_isor hC hi).2.2.1))⟩
  · skip
    refine ev_gN [false, true] [] rfl ?_
    refine ev_inV 1 k_MM_277 h_MM_number rfl rfl rfl rfl rfl ⟨by decide, by decide⟩ rfl ?_
    refine ev_gN [] [] rfl ?_
    refine ev_retl rfl ?_
    refine ev_g0 rfl ?_
    refine ev_inV 1 k_MM_277 h_MM_number rfl rfl rfl rfl rfl ⟨by decide, by decide⟩ rfl ?_
    refine ev_gN [] [] rfl ?_
    refine ev_retl rfl ?_
    refine ev_g0 rfl ?_
    refine ev_inV 3 k_MM_305 h_MM_longs rfl rfl rfl rfl rfl ⟨by decide, by decide⟩ rfl ?_
    refine ev_gN [] [some 2] rfl ?_
    refine ev_retl rfl ?_
    refine ev_g0 rfl ?_
    refine ev_inV 2 k_MM_288 h_MM_lay rfl rfl rfl rfl rfl ⟨by decide, by decide⟩ rfl ?_
    refine ev_gN [] [] rfl ?_
    refine ev_ret rfl ?_
    refine ev_g0 rfl ?_
    refine ev_ret rfl ?_
    exact ⟨rfl, (u3 xj 0 t a (xj 0 t a * xj 0 t c)), xd, xf, xo, xi, xn, nI 0, rfl, bdd, lf_N, lf_N, (CU_num hC ht ha lf_N lf_N), (MU_num hM ht ha lf_N lf_N (fun i hi => (rc_isor hC hi).2.2.1))⟩
theorem A3_3 {ci : Nat → Nat → Nat → Int32} {cn : Nat → Nat → Nat → Nat} {co : Nat → Option Nat} {xj : Nat → Nat → Nat → Int64} {xd : Nat → Nat → Nat → UInt64} {xf : Nat → Nat → Nat → UInt32} {xo : Nat → Nat → Nat → Option Nat} {xi : Nat → Nat → Nat → Int32} {xn : Nat → Nat → Nat → Nat} {K : Nat → Nat} {I : Nat → Nat → Int32} {J : Nat → Nat → Int64} {F : Nat → Nat → UInt32} {D : Nat → Nat → UInt64} {R : Nat → Nat → Option Nat} {nx sl : Nat} {Km : Nat → Nat} {Im : Nat → Nat → Int32} {Jm : Nat → Nat → Int64} {Fm : Nat → Nat → UInt32} {Dm : Nat → Nat → UInt64} {Rm : Nat → Nat → Option Nat} {nxm slm : Nat} (hC : RC ci cn co xj xd xf xo xi xn I J F D R nx sl) (hM : RM ci cn co xj xd xf xo xi xn Im Jm Dm) {t a : Nat} {c : Nat} {go : Int32} (ht : t < 3) (ha : a < 8) (hc : c < 8) (x1 : Im 6 39 = nI t) (x2 : Im 6 40 = nI a) (x3 : Im 6 41 = nI 3) (x4 : Im 6 42 = nI c) (x5 : Im 6 43 = nI 0) (x6 : Im 6 44 = go) : Ct Y_NA_perform [vr 3 54, vr 8 (32 + 7 * t), vi (nI 3), vi (nI a), vi (nI 3), vi (nI c)] (K, I, J, F, D, R, nx, sl) (fun r μ1 => Ct Y_MM_reckons [vr 11 6, vi (nI 3)] (Km, Im, Jm, Fm, Dm, Rm, nxm, slm) (fun r2 μ2 => r2 = none ∧ QA ci cn co go r μ1 μ2)) := by
  refine ct_of h_NA_perform rfl rfl rfl ?_
  refine ev_gN [] [some 3] rfl ?_
  refine ev_inS 4 k_NA_35 h_NA_joinLongs rfl rfl rfl rfl ⟨by decide, by decide⟩ rfl ?_
  refine ev_g0 rfl ?_
  refine ev_inV 1 k_NA_68 h_SD_n rfl rfl rfl rfl rfl ⟨by decide, by decide⟩ rfl ?_
  refine ev_gN [] [] rfl ?_
  refine ev_retl rfl ?_
  refine ev_g0 rfl ?_
  refine ev_inV 1 k_NA_68 h_SD_n rfl rfl rfl rfl rfl ⟨by decide, by decide⟩ rfl ?_
  refine ev_gN [] [] rfl ?_
  refine ev_retl rfl ?_
  refine ev_g0 rfl ?_
  refine ev_inS 1 k_NA_72 h_NA_isDivision rfl rfl rfl rfl ⟨by decide, by decide⟩ rfl ?_
  refine ev_gN [true] [] rfl ?_
  refine ev_retz rfl (by first | decide | exact zb_01 _) ?_
  refine ev_gN [false] [] rfl ?_
  refine ev_bN rfl rfl (fun h_1 => ?_) (fun h_1 => ?_)
  · skip
    refine ev_gN [false] [] rfl ?_
    refine ev_inV 2 k_NA_15 h_SD_setN rfl rfl rfl rfl rfl ⟨by decide, by decide⟩ rfl ?_
    refine ev_gN [] [] rfl ?_
    refine ev_ret rfl ?_
    refine ev_g0 rfl ?_
    refine ev_reti rfl ?_
    refine ev_g0 rfl ?_
    refine ev_reti rfl ?_
    refine ct_of h_MM_reckons rfl rfl rfl ?_
    refine ev_gN [] [some 3] rfl ?_
    refine ev_inV 1 k_MM_277 h_MM_number rfl rfl rfl rfl rfl ⟨by decide, by decide⟩ rfl ?_
    refine ev_gN [] [] rfl ?_
    refine ev_retl rfl ?_
    refine ev_gN [true] [] rfl ?_
    refine ev_inV 1 k_MM_277 h_MM_number rfl rfl rfl rfl rfl ⟨by decide, by decide⟩ rfl ?_
    refine ev_gN [] [] rfl ?_
    refine ev_retl rfl ?_
    refine ev_g0 rfl ?_
    refine ev_inV 1 k_MM_277 h_MM_number rfl rfl rfl rfl rfl ⟨by decide, by decide⟩ rfl ?_
    refine ev_gN [] [] rfl ?_
    refine ev_retl rfl ?_
    refine ev_g0 rfl ?_
    refine ev_inV 3 k_MM_305 h_MM_longs rfl rfl rfl rfl rfl ⟨by decide, by decide⟩ rfl ?_
    refine ev_gN [] [some 3] rfl ?_
    refine ev_retl rfl ?_
    refine ev_g0 rfl ?_
    refine ev_inV 2 k_MM_288 h_MM_lay rfl rfl rfl rfl rfl ⟨by decide, by decide⟩ rfl ?_
    refine ev_gN [] [] rfl ?_
    refine ev_ret rfl ?_
    refine ev_g0 rfl ?_
    refine ev_ret rfl ?_
    exact ⟨rfl, (u3 xj 0 t a (xj 0 t a / xj 0 t c)), xd, xf, xo, xi, xn, nI 0, rfl, bdd, lf_N, lf_N, (CU_num hC ht ha lf_N lf_N), (MU_num hM ht ha lf_N lf_N (fun i hi => (rc_isor hC hi).2.2.1))⟩
  · skip
    refine ev_g0 rfl ?_
    refine ev_reti rfl ?_
    refine ev_g0 rfl ?_
    refine ev_reti rfl ?_
    refine ct_of h_MM_reckons rfl rfl rfl ?_
    refine ev_gN [] [some 3] rfl ?_
    refine ev_inV 1 k_MM_277 h_MM_number rfl rfl rfl rfl rfl ⟨by decide, by decide⟩ rfl ?_
    refine ev_gN [] [] rfl ?_
    refine ev_retl rfl ?_
    refine ev_gN [false, true] [] rfl ?_
    refine ev_inV 1 k_MM_301 h_MM_fails rfl rfl rfl rfl rfl ⟨by decide, by decide⟩ rfl ?_
    refine ev_g0 rfl ?_
    refine ev_ret rfl ?_
    refine ev_g0 rfl ?_
    refine ev_ret rfl ?_
    exact ⟨rfl, xj, xd, xf, xo, xi, xn, nI 6, rfl, bdd, lf_N, lf_N, hC, hM⟩
theorem A3_4 {ci : Nat → Nat → Nat → Int32} {cn : Nat → Nat → Nat → Nat} {co : Nat → Option Nat} {xj : Nat → Nat → Nat → Int64} {xd : Nat → Nat → Nat → UInt64} {xf : Nat → Nat → Nat → UInt32} {xo : Nat → Nat → Nat → Option Nat} {xi : Nat → Nat → Nat → Int32} {xn : Nat → Nat → Nat → Nat} {K : Nat → Nat} {I : Nat → Nat → Int32} {J : Nat → Nat → Int64} {F : Nat → Nat → UInt32} {D : Nat → Nat → UInt64} {R : Nat → Nat → Option Nat} {nx sl : Nat} {Km : Nat → Nat} {Im : Nat → Nat → Int32} {Jm : Nat → Nat → Int64} {Fm : Nat → Nat → UInt32} {Dm : Nat → Nat → UInt64} {Rm : Nat → Nat → Option Nat} {nxm slm : Nat} (hC : RC ci cn co xj xd xf xo xi xn I J F D R nx sl) (hM : RM ci cn co xj xd xf xo xi xn Im Jm Dm) {t a : Nat} {c : Nat} {go : Int32} (ht : t < 3) (ha : a < 8) (hc : c < 8) (x1 : Im 6 39 = nI t) (x2 : Im 6 40 = nI a) (x3 : Im 6 41 = nI 4) (x4 : Im 6 42 = nI c) (x5 : Im 6 43 = nI 0) (x6 : Im 6 44 = go) : Ct Y_NA_perform [vr 3 54, vr 8 (32 + 7 * t), vi (nI 3), vi (nI a), vi (nI 4), vi (nI c)] (K, I, J, F, D, R, nx, sl) (fun r μ1 => Ct Y_MM_reckons [vr 11 6, vi (nI 3)] (Km, Im, Jm, Fm, Dm, Rm, nxm, slm) (fun r2 μ2 => r2 = none ∧ QA ci cn co go r μ1 μ2)) := by
  refine ct_of h_NA_perform rfl rfl rfl ?_
  refine ev_gN [] [some 3] rfl ?_
  refine ev_inS 4 k_NA_35 h_NA_joinLongs rfl rfl rfl rfl ⟨by decide, by decide⟩ rfl ?_
  refine ev_g0 rfl ?_
  refine ev_inV 1 k_NA_68 h_SD_n rfl rfl rfl rfl rfl ⟨by decide, by decide⟩ rfl ?_
  refine ev_gN [] [] rfl ?_
  refine ev_retl rfl ?_
  refine ev_g0 rfl ?_
  refine ev_inV 1 k_NA_68 h_SD_n rfl rfl rfl rfl rfl ⟨by decide, by decide⟩ rfl ?_
  refine ev_gN [] [] rfl ?_
  refine ev_retl rfl ?_
  refine ev_g0 rfl ?_
  refine ev_inS 1 k_NA_72 h_NA_isDivision rfl rfl rfl rfl ⟨by decide, by decide⟩ rfl ?_
  refine ev_gN [false, false] [] rfl ?_
  refine ev_retz rfl (by first | decide | exact zb_01 _) ?_
  refine ev_gN [false] [] rfl ?_
  refine ev_bN rfl rfl (fun h_1 => ?_) (fun h_1 => ?_)
  · skip
    refine ev_gN [true] [] rfl ?_
    refine ev_inV 2 k_NA_15 h_SD_setN rfl rfl rfl rfl rfl ⟨by decide, by decide⟩ rfl ?_
    refine ev_gN [] [] rfl ?_
    refine ev_ret rfl ?_
    refine ev_g0 rfl ?_
    refine ev_reti rfl ?_
    refine ev_g0 rfl ?_
    refine ev_reti rfl ?_
    refine ct_of h_MM_reckons rfl rfl rfl ?_
    refine ev_gN [] [some 3] rfl ?_
    refine ev_inV 1 k_MM_277 h_MM_number rfl rfl rfl rfl rfl ⟨by decide, by decide⟩ rfl ?_
    refine ev_gN [] [] rfl ?_
    refine ev_retl rfl ?_
    refine ev_gN [true] [] rfl ?_
    refine ev_inV 1 k_MM_277 h_MM_number rfl rfl rfl rfl rfl ⟨by decide, by decide⟩ rfl ?_
    refine ev_gN [] [] rfl ?_
    refine ev_retl rfl ?_
    refine ev_g0 rfl ?_
    refine ev_inV 1 k_MM_277 h_MM_number rfl rfl rfl rfl rfl ⟨by decide, by decide⟩ rfl ?_
    refine ev_gN [] [] rfl ?_
    refine ev_retl rfl ?_
    refine ev_g0 rfl ?_
    refine ev_inV 3 k_MM_305 h_MM_longs rfl rfl rfl rfl rfl ⟨by decide, by decide⟩ rfl ?_
    refine ev_gN [] [some 4] rfl ?_
    refine ev_retl rfl ?_
    refine ev_g0 rfl ?_
    refine ev_inV 2 k_MM_288 h_MM_lay rfl rfl rfl rfl rfl ⟨by decide, by decide⟩ rfl ?_
    refine ev_gN [] [] rfl ?_
    refine ev_ret rfl ?_
    refine ev_g0 rfl ?_
    refine ev_ret rfl ?_
    exact ⟨rfl, (u3 xj 0 t a (xj 0 t a - xj 0 t a / xj 0 t c * xj 0 t c)), xd, xf, xo, xi, xn, nI 0, rfl, bdd, lf_N, lf_N, (CU_num hC ht ha lf_N lf_N), (MU_num hM ht ha lf_N lf_N (fun i hi => (rc_isor hC hi).2.2.1))⟩
  · skip
    refine ev_g0 rfl ?_
    refine ev_reti rfl ?_
    refine ev_g0 rfl ?_
    refine ev_reti rfl ?_
    refine ct_of h_MM_reckons rfl rfl rfl ?_
    refine ev_gN [] [some 3] rfl ?_
    refine ev_inV 1 k_MM_277 h_MM_number rfl rfl rfl rfl rfl ⟨by decide, by decide⟩ rfl ?_
    refine ev_gN [] [] rfl ?_
    refine ev_retl rfl ?_
    refine ev_gN [false, false, false] [] rfl ?_
    refine ev_inV 1 k_MM_301 h_MM_fails rfl rfl rfl rfl rfl ⟨by decide, by decide⟩ rfl ?_
    refine ev_g0 rfl ?_
    refine ev_ret rfl ?_
    refine ev_g0 rfl ?_
    refine ev_ret rfl ?_
    exact ⟨rfl, xj, xd, xf, xo, xi, xn, nI 6, rfl, bdd, lf_N, lf_N, hC, hM⟩
theorem A3_5 {ci : Nat → Nat → Nat → Int32} {cn : Nat → Nat → Nat → Nat} {co : Nat → Option Nat} {xj : Nat → Nat → Nat → Int64} {xd : Nat → Nat → Nat → UInt64} {xf : Nat → Nat → Nat → UInt32} {xo : Nat → Nat → Nat → Option Nat} {xi : Nat → Nat → Nat → Int32} {xn : Nat → Nat → Nat → Nat} {K : Nat → Nat} {I : Nat → Nat → Int32} {J : Nat → Nat → Int64} {F : Nat → Nat → UInt32} {D : Nat → Nat → UInt64} {R : Nat → Nat → Option Nat} {nx sl : Nat} {Km : Nat → Nat} {Im : Nat → Nat → Int32} {Jm : Nat → Nat → Int64} {Fm : Nat → Nat → UInt32} {Dm : Nat → Nat → UInt64} {Rm : Nat → Nat → Option Nat} {nxm slm : Nat} (hC : RC ci cn co xj xd xf xo xi xn I J F D R nx sl) (hM : RM ci cn co xj xd xf xo xi xn Im Jm Dm) {t a : Nat} {c : Nat} {go : Int32} (ht : t < 3) (ha : a < 8) (hc : c < 8) (x1 : Im 6 39 = nI t) (x2 : Im 6 40 = nI a) (x3 : Im 6 41 = nI 5) (x4 : Im 6 42 = nI c) (x5 : Im 6 43 = nI 0) (x6 : Im 6 44 = go) : Ct Y_NA_perform [vr 3 54, vr 8 (32 + 7 * t), vi (nI 3), vi (nI a), vi (nI 5), vi (nI c)] (K, I, J, F, D, R, nx, sl) (fun r μ1 => Ct Y_MM_reckons [vr 11 6, vi (nI 3)] (Km, Im, Jm, Fm, Dm, Rm, nxm, slm) (fun r2 μ2 => r2 = none ∧ QA ci cn co go r μ1 μ2)) := by
  refine ct_of h_NA_perform rfl rfl rfl ?_
  refine ev_gN [] [some 3] rfl ?_
  refine ev_inS 4 k_NA_35 h_NA_joinLongs rfl rfl rfl rfl ⟨by decide, by decide⟩ rfl ?_
  refine ev_g0 rfl ?_
  refine ev_inV 1 k_NA_68 h_SD_n rfl rfl rfl rfl rfl ⟨by decide, by decide⟩ rfl ?_
  refine ev_gN [] [] rfl ?_
  refine ev_retl rfl ?_
  refine ev_g0 rfl ?_
  refine ev_inV 1 k_NA_68 h_SD_n rfl rfl rfl rfl rfl ⟨by decide, by decide⟩ rfl ?_
  refine ev_gN [] [] rfl ?_
  refine ev_retl rfl ?_
  refine ev_g0 rfl ?_
  refine ev_inS 1 k_NA_72 h_NA_isDivision rfl rfl rfl rfl ⟨by decide, by decide⟩ rfl ?_
  refine ev_gN [false, true] [] rfl ?_
  refine ev_retz rfl (by first | decide | exact zb_01 _) ?_
  refine ev_gN [true] [] rfl ?_
  refine ev_inS 3 k_NA_76 h_NA_joined rfl rfl rfl rfl ⟨by decide, by decide⟩ rfl ?_
  refine ev_gN [] [some 5] rfl ?_
  refine ev_retl rfl ?_
  refine ev_g0 rfl ?_
  refine ev_inV 2 k_NA_15 h_SD_setN rfl rfl rfl rfl rfl ⟨by decide, by decide⟩ rfl ?_
  refine ev_gN [] [] rfl ?_
  refine ev_ret rfl ?_
  refine ev_g0 rfl ?_
  refine ev_reti rfl ?_
  refine ev_g0 rfl ?_
  refine ev_reti rfl ?_
  refine ct_of h_MM_reckons rfl rfl rfl ?_
  refine ev_gN [] [some 3] rfl ?_
  refine ev_inV 1 k_MM_277 h_MM_number rfl rfl rfl rfl rfl ⟨by decide, by decide⟩ rfl ?_
  refine ev_gN [] [] rfl ?_
  refine ev_retl rfl ?_
  refine ev_g0 rfl ?_
  refine ev_bN rfl rfl (fun h_1 => ?_) (fun h_1 => ?_)
  · skip
    refine ev_g0 rfl ?_
    refine ev_inV 1 k_MM_277 h_MM_number rfl rfl rfl rfl rfl ⟨by decide, by decide⟩ rfl ?_
    refine ev_gN [] [] rfl ?_
    refine ev_retl rfl ?_
    refine ev_g0 rfl ?_
    refine ev_inV 1 k_MM_277 h_MM_number rfl rfl rfl rfl rfl ⟨by decide, by decide⟩ rfl ?_
    refine ev_gN [] [] rfl ?_
    refine ev_retl rfl ?_
    refine ev_g0 rfl ?_
    refine ev_inV 3 k_MM_305 h_MM_longs rfl rfl rfl rfl rfl ⟨by decide, by decide⟩ rfl ?_
    refine ev_gN [] [some 5] rfl ?_
    refine ev_retl rfl ?_
    refine ev_g0 rfl ?_
    refine ev_inV 2 k_MM_288 h_MM_lay rfl rfl rfl rfl rfl ⟨by decide, by decide⟩ rfl ?_
    refine ev_gN [] [] rfl ?_
    refine ev_ret rfl ?_
    refine ev_g0 rfl ?_
    refine ev_ret rfl ?_
    exact ⟨rfl, (u3 xj 0 t a (xj 0 t a <<< ((xj 0 t c).toInt32.toInt64 &&& 63))), xd, xf, xo, xi, xn, nI 0, rfl, bdd, lf_N, lf_N, (CU_num hC ht ha lf_N lf_N), (MU_num hM ht ha lf_N lf_N (fun i hi => (rc_isor hC hi).2.2.1))⟩
  · skip
    refine ev_gN [false, true] [] rfl ?_
    refine ev_inV 1 k_MM_277 h_MM_number rfl rfl rfl rfl rfl ⟨by decide, by decide⟩ rfl ?_
    refine ev_gN [] [] rfl ?_
    refine ev_retl rfl ?_
    refine ev_g0 rfl ?_
    refine ev_inV 1 k_MM_277 h_MM_number rfl rfl rfl rfl rfl ⟨by decide, by decide⟩ rfl ?_
    refine ev_gN [] [] rfl ?_
    refine ev_retl rfl ?_
    refine ev_g0 rfl ?_
    refine ev_inV 3 k_MM_305 h_MM_longs rfl rfl rfl rfl rfl ⟨by decide, by decide⟩ rfl ?_
    refine ev_gN [] [some 5] rfl ?_
    refine ev_retl rfl ?_
    refine ev_g0 rfl ?_
    refine ev_inV 2 k_MM_288 h_MM_lay rfl rfl rfl rfl rfl ⟨by decide, by decide⟩ rfl ?_
    refine ev_gN [] [] rfl ?_
    refine ev_ret rfl ?_
    refine ev_g0 rfl ?_
    refine ev_ret rfl ?_
    exact ⟨rfl, (u3 xj 0 t a (xj 0 t a <<< ((xj 0 t c).toInt32.toInt64 &&& 63))), xd, xf, xo, xi, xn, nI 0, rfl, bdd, lf_N, lf_N, (CU_num hC ht ha lf_N lf_N), (MU_num hM ht ha lf_N lf_N (fun i hi => (rc_isor hC hi).2.2.1))⟩
theorem A3_6 {ci : Nat → Nat → Nat → Int32} {cn : Nat → Nat → Nat → Nat} {co : Nat → Option Nat} {xj : Nat → Nat → Nat → Int64} {xd : Nat → Nat → Nat → UInt64} {xf : Nat → Nat → Nat → UInt32} {xo : Nat → Nat → Nat → Option Nat} {xi : Nat → Nat → Nat → Int32} {xn : Nat → Nat → Nat → Nat} {K : Nat → Nat} {I : Nat → Nat → Int32} {J : Nat → Nat → Int64} {F : Nat → Nat → UInt32} {D : Nat → Nat → UInt64} {R : Nat → Nat → Option Nat} {nx sl : Nat} {Km : Nat → Nat} {Im : Nat → Nat → Int32} {Jm : Nat → Nat → Int64} {Fm : Nat → Nat → UInt32} {Dm : Nat → Nat → UInt64} {Rm : Nat → Nat → Option Nat} {nxm slm : Nat} (hC : RC ci cn co xj xd xf xo xi xn I J F D R nx sl) (hM : RM ci cn co xj xd xf xo xi xn Im Jm Dm) {t a : Nat} {c : Nat} {go : Int32} (ht : t < 3) (ha : a < 8) (hc : c < 8) (x1 : Im 6 39 = nI t) (x2 : Im 6 40 = nI a) (x3 : Im 6 41 = nI 6) (x4 : Im 6 42 = nI c) (x5 : Im 6 43 = nI 0) (x6 : Im 6 44 = go) : Ct Y_NA_perform [vr 3 54, vr 8 (32 + 7 * t), vi (nI 3), vi (nI a), vi (nI 6), vi (nI c)] (K, I, J, F, D, R, nx, sl) (fun r μ1 => Ct Y_MM_reckons [vr 11 6, vi (nI 3)] (Km, Im, Jm, Fm, Dm, Rm, nxm, slm) (fun r2 μ2 => r2 = none ∧ QA ci cn co go r μ1 μ2)) := by
  refine ct_of h_NA_perform rfl rfl rfl ?_
  refine ev_gN [] [some 3] rfl ?_
  refine ev_inS 4 k_NA_35 h_NA_joinLongs rfl rfl rfl rfl ⟨by decide, by decide⟩ rfl ?_
  refine ev_g0 rfl ?_
  refine ev_inV 1 k_NA_68 h_SD_n rfl rfl rfl rfl rfl ⟨by decide, by decide⟩ rfl ?_
  refine ev_gN [] [] rfl ?_
  refine ev_retl rfl ?_
  refine ev_g0 rfl ?_
  refine ev_inV 1 k_NA_68 h_SD_n rfl rfl rfl rfl rfl ⟨by decide, by decide⟩ rfl ?_
  refine ev_gN [] [] rfl ?_
  refine ev_retl rfl ?_
  refine ev_g0 rfl ?_
  refine ev_inS 1 k_NA_72 h_NA_isDivision rfl rfl rfl rfl ⟨by decide, by decide⟩ rfl ?_
  refine ev_gN [false, true] [] rfl ?_
  refine ev_retz rfl (by first | decide | exact zb_01 _) ?_
  refine ev_gN [true] [] rfl ?_
  refine ev_inS 3 k_NA_76 h_NA_joined rfl rfl rfl rfl ⟨by decide, by decide⟩ rfl ?_
  refine ev_gN [] [some 6] rfl ?_
  refine ev_retl rfl ?_
  refine ev_g0 rfl ?_
  refine ev_inV 2 k_NA_15 h_SD_setN rfl rfl rfl rfl rfl ⟨by decide, by decide⟩ rfl ?_
  refine ev_gN [] [] rfl ?_
  refine ev_ret rfl ?_
  refine ev_g0 rfl ?_
  refine ev_reti rfl ?_
  refine ev_g0 rfl ?_
  refine ev_reti rfl ?_
  refine ct_of h_MM_reckons rfl rfl rfl ?_
  refine ev_gN [] [some 3] rfl ?_
  refine ev_inV 1 k_MM_277 h_MM_number rfl rfl rfl rfl rfl ⟨by decide, by decide⟩ rfl ?_
  refine ev_gN [] [] rfl ?_
  refine ev_retl rfl ?_
  refine ev_g0 rfl ?_
  refine ev_bN rfl rfl (fun h_1 => ?_) (fun h_1 => ?_)
  · skip
    refine ev_g0 rfl ?_
    refine ev_inV 1 k_MM_277 h_MM_number rfl rfl rfl rfl rfl ⟨by decide, by decide⟩ rfl ?_
    refine ev_gN [] [] rfl ?_
    refine ev_retl rfl ?_
    refine ev_g0 rfl ?_
    refine ev_inV 1 k_MM_277 h_MM_number rfl rfl rfl rfl rfl ⟨by decide, by decide⟩ rfl ?_
    refine ev_gN [] [] rfl ?_
    refine ev_retl rfl ?_
    refine ev_g0 rfl ?_
    refine ev_inV 3 k_MM_305 h_MM_longs rfl rfl rfl rfl rfl ⟨by decide, by decide⟩ rfl ?_
    refine ev_gN [] [some 6] rfl ?_
    refine ev_retl rfl ?_
    refine ev_g0 rfl ?_
    refine ev_inV 2 k_MM_288 h_MM_lay rfl rfl rfl rfl rfl ⟨by decide, by decide⟩ rfl ?_
    refine ev_gN [] [] rfl ?_
    refine ev_ret rfl ?_
    refine ev_g0 rfl ?_
    refine ev_ret rfl ?_
    exact ⟨rfl, (u3 xj 0 t a (xj 0 t a >>> ((xj 0 t c).toInt32.toInt64 &&& 63))), xd, xf, xo, xi, xn, nI 0, rfl, bdd, lf_N, lf_N, (CU_num hC ht ha lf_N lf_N), (MU_num hM ht ha lf_N lf_N (fun i hi => (rc_isor hC hi).2.2.1))⟩
  · skip
    refine ev_gN [false, true] [] rfl ?_
    refine ev_inV 1 k_MM_277 h_MM_number rfl rfl rfl rfl rfl ⟨by decide, by decide⟩ rfl ?_
    refine ev_gN [] [] rfl ?_
    refine ev_retl rfl ?_
    refine ev_g0 rfl ?_
    refine ev_inV 1 k_MM_277 h_MM_number rfl rfl rfl rfl rfl ⟨by decide, by decide⟩ rfl ?_
    refine ev_gN [] [] rfl ?_
    refine ev_retl rfl ?_
    refine ev_g0 rfl ?_
    refine ev_inV 3 k_MM_305 h_MM_longs rfl rfl rfl rfl rfl ⟨by decide, by decide⟩ rfl ?_
    refine ev_gN [] [some 6] rfl ?_
    refine ev_retl rfl ?_
    refine ev_g0 rfl ?_
    refine ev_inV 2 k_MM_288 h_MM_lay rfl rfl rfl rfl rfl ⟨by decide, by decide⟩ rfl ?_
    refine ev_gN [] [] rfl ?_
    refine ev_ret rfl ?_
    refine ev_g0 rfl ?_
    refine ev_ret rfl ?_
    exact ⟨rfl, (u3 xj 0 t a (xj 0 t a >>> ((xj 0 t c).toInt32.toInt64 &&& 63))), xd, xf, xo, xi, xn, nI 0, rfl, bdd, lf_N, lf_N, (CU_num hC ht ha lf_N lf_N), (MU_num hM ht ha lf_N lf_N (fun i hi => (rc_isor hC hi).2.2.1))⟩
theorem A3_7 {ci : Nat → Nat → Nat → Int32} {cn : Nat → Nat → Nat → Nat} {co : Nat → Option Nat} {xj : Nat → Nat → Nat → Int64} {xd : Nat → Nat → Nat → UInt64} {xf : Nat → Nat → Nat → UInt32} {xo : Nat → Nat → Nat → Option Nat} {xi : Nat → Nat → Nat → Int32} {xn : Nat → Nat → Nat → Nat} {K : Nat → Nat} {I : Nat → Nat → Int32} {J : Nat → Nat → Int64} {F : Nat → Nat → UInt32} {D : Nat → Nat → UInt64} {R : Nat → Nat → Option Nat} {nx sl : Nat} {Km : Nat → Nat} {Im : Nat → Nat → Int32} {Jm : Nat → Nat → Int64} {Fm : Nat → Nat → UInt32} {Dm : Nat → Nat → UInt64} {Rm : Nat → Nat → Option Nat} {nxm slm : Nat} (hC : RC ci cn co xj xd xf xo xi xn I J F D R nx sl) (hM : RM ci cn co xj xd xf xo xi xn Im Jm Dm) {t a : Nat} {c : Nat} {go : Int32} (ht : t < 3) (ha : a < 8) (hc : c < 8) (x1 : Im 6 39 = nI t) (x2 : Im 6 40 = nI a) (x3 : Im 6 41 = nI 7) (x4 : Im 6 42 = nI c) (x5 : Im 6 43 = nI 0) (x6 : Im 6 44 = go) : Ct Y_NA_perform [vr 3 54, vr 8 (32 + 7 * t), vi (nI 3), vi (nI a), vi (nI 7), vi (nI c)] (K, I, J, F, D, R, nx, sl) (fun r μ1 => Ct Y_MM_reckons [vr 11 6, vi (nI 3)] (Km, Im, Jm, Fm, Dm, Rm, nxm, slm) (fun r2 μ2 => r2 = none ∧ QA ci cn co go r μ1 μ2)) := by
  refine ct_of h_NA_perform rfl rfl rfl ?_
  refine ev_gN [] [some 3] rfl ?_
  refine ev_inS 4 k_NA_35 h_NA_joinLongs rfl rfl rfl rfl ⟨by decide, by decide⟩ rfl ?_
  refine ev_g0 rfl ?_
  refine ev_inV 1 k_NA_68 h_SD_n rfl rfl rfl rfl rfl ⟨by decide, by decide⟩ rfl ?_
  refine ev_gN [] [] rfl ?_
  refine ev_retl rfl ?_
  refine ev_g0 rfl ?_
  refine ev_inV 1 k_NA_68 h_SD_n rfl rfl rfl rfl rfl ⟨by decide, by decide⟩ rfl ?_
  refine ev_gN [] [] rfl ?_
  refine ev_retl rfl ?_
  refine ev_g0 rfl ?_
  refine ev_inS 1 k_NA_72 h_NA_isDivision rfl rfl rfl rfl ⟨by decide, by decide⟩ rfl ?_
  refine ev_gN [false, true] [] rfl ?_
  refine ev_retz rfl (by first | decide | exact zb_01 _) ?_
  refine ev_gN [true] [] rfl ?_
  refine ev_inS 3 k_NA_76 h_NA_joined rfl rfl rfl rfl ⟨by decide, by decide⟩ rfl ?_
  refine ev_gN [] [some 7] rfl ?_
  refine ev_retl rfl ?_
  refine ev_g0 rfl ?_
  refine ev_inV 2 k_NA_15 h_SD_setN rfl rfl rfl rfl rfl ⟨by decide, by decide⟩ rfl ?_
  refine ev_gN [] [] rfl ?_
  refine ev_ret rfl ?_
  refine ev_g0 rfl ?_
  refine ev_reti rfl ?_
  refine ev_g0 rfl ?_
  refine ev_reti rfl ?_
  refine ct_of h_MM_reckons rfl rfl rfl ?_
  refine ev_gN [] [some 3] rfl ?_
  refine ev_inV 1 k_MM_277 h_MM_number rfl rfl rfl rfl rfl ⟨by decide, by decide⟩ rfl ?_
  refine ev_gN [] [] rfl ?_
  refine ev_retl rfl ?_
  refine ev_g0 rfl ?_
  refine ev_bN rfl rfl (fun h_1 => ?_) (fun h_1 => ?_)
  · skip
    refine ev_g0 rfl ?_
    refine ev_inV 1 k_MM_277 h_MM_number rfl rfl rfl rfl rfl ⟨by decide, by decide⟩ rfl ?_
    refine ev_gN [] [] rfl ?_
    refine ev_retl rfl ?_
    refine ev_g0 rfl ?_
    refine ev_inV 1 k_MM_277 h_MM_number rfl rfl rfl rfl rfl ⟨by decide, by decide⟩ rfl ?_
    refine ev_gN [] [] rfl ?_
    refine ev_retl rfl ?_
    refine ev_g0 rfl ?_
    refine ev_inV 3 k_MM_305 h_MM_longs rfl rfl rfl rfl rfl ⟨by decide, by decide⟩ rfl ?_
    refine ev_gN [] [some 7] rfl ?_
    refine ev_retl rfl ?_
    refine ev_g0 rfl ?_
    refine ev_inV 2 k_MM_288 h_MM_lay rfl rfl rfl rfl rfl ⟨by decide, by decide⟩ rfl ?_
    refine ev_gN [] [] rfl ?_
    refine ev_ret rfl ?_
    refine ev_g0 rfl ?_
    refine ev_ret rfl ?_
    exact ⟨rfl, (u3 xj 0 t a (((xj 0 t a).toUInt64 >>> ((xj 0 t c).toInt32.toInt64.toUInt64 &&& Int64.toUInt64 63)).toInt64)), xd, xf, xo, xi, xn, nI 0, rfl, bdd, lf_N, lf_N, (CU_num hC ht ha lf_N lf_N), (MU_num hM ht ha lf_N lf_N (fun i hi => (rc_isor hC hi).2.2.1))⟩
  · skip
    refine ev_gN [false, true] [] rfl ?_
    refine ev_inV 1 k_MM_277 h_MM_number rfl rfl rfl rfl rfl ⟨by decide, by decide⟩ rfl ?_
    refine ev_gN [] [] rfl ?_
    refine ev_retl rfl ?_
    refine ev_g0 rfl ?_
    refine ev_inV 1 k_MM_277 h_MM_number rfl rfl rfl rfl rfl ⟨by decide, by decide⟩ rfl ?_
    refine ev_gN [] [] rfl ?_
    refine ev_retl rfl ?_
    refine ev_g0 rfl ?_
    refine ev_inV 3 k_MM_305 h_MM_longs rfl rfl rfl rfl rfl ⟨by decide, by decide⟩ rfl ?_
    refine ev_gN [] [some 7] rfl ?_
    refine ev_retl rfl ?_
    refine ev_g0 rfl ?_
    refine ev_inV 2 k_MM_288 h_MM_lay rfl rfl rfl rfl rfl ⟨by decide, by decide⟩ rfl ?_
    refine ev_gN [] [] rfl ?_
    refine ev_ret rfl ?_
    refine ev_g0 rfl ?_
    refine ev_ret rfl ?_
    exact ⟨rfl, (u3 xj 0 t a (((xj 0 t a).toUInt64 >>> ((xj 0 t c).toInt32.toInt64.toUInt64 &&& Int64.toUInt64 63)).toInt64)), xd, xf, xo, xi, xn, nI 0, rfl, bdd, lf_N, lf_N, (CU_num hC ht ha lf_N lf_N), (MU_num hM ht ha lf_N lf_N (fun i hi => (rc_isor hC hi).2.2.1))⟩
theorem A3_8 {ci : Nat → Nat → Nat → Int32} {cn : Nat → Nat → Nat → Nat} {co : Nat → Option Nat} {xj : Nat → Nat → Nat → Int64} {xd : Nat → Nat → Nat → UInt64} {xf : Nat → Nat → Nat → UInt32} {xo : Nat → Nat → Nat → Option Nat} {xi : Nat → Nat → Nat → Int32} {xn : Nat → Nat → Nat → Nat} {K : Nat → Nat} {I : Nat → Nat → Int32} {J : Nat → Nat → Int64} {F : Nat → Nat → UInt32} {D : Nat → Nat → UInt64} {R : Nat → Nat → Option Nat} {nx sl : Nat} {Km : Nat → Nat} {Im : Nat → Nat → Int32} {Jm : Nat → Nat → Int64} {Fm : Nat → Nat → UInt32} {Dm : Nat → Nat → UInt64} {Rm : Nat → Nat → Option Nat} {nxm slm : Nat} (hC : RC ci cn co xj xd xf xo xi xn I J F D R nx sl) (hM : RM ci cn co xj xd xf xo xi xn Im Jm Dm) {t a : Nat} {c : Nat} {go : Int32} (ht : t < 3) (ha : a < 8) (hc : c < 8) (x1 : Im 6 39 = nI t) (x2 : Im 6 40 = nI a) (x3 : Im 6 41 = nI 8) (x4 : Im 6 42 = nI c) (x5 : Im 6 43 = nI 0) (x6 : Im 6 44 = go) : Ct Y_NA_perform [vr 3 54, vr 8 (32 + 7 * t), vi (nI 3), vi (nI a), vi (nI 8), vi (nI c)] (K, I, J, F, D, R, nx, sl) (fun r μ1 => Ct Y_MM_reckons [vr 11 6, vi (nI 3)] (Km, Im, Jm, Fm, Dm, Rm, nxm, slm) (fun r2 μ2 => r2 = none ∧ QA ci cn co go r μ1 μ2)) := by
  refine ct_of h_NA_perform rfl rfl rfl ?_
  refine ev_gN [] [some 3] rfl ?_
  refine ev_inS 4 k_NA_35 h_NA_joinLongs rfl rfl rfl rfl ⟨by decide, by decide⟩ rfl ?_
  refine ev_g0 rfl ?_
  refine ev_inV 1 k_NA_68 h_SD_n rfl rfl rfl rfl rfl ⟨by decide, by decide⟩ rfl ?_
  refine ev_gN [] [] rfl ?_
  refine ev_retl rfl ?_
  refine ev_g0 rfl ?_
  refine ev_inV 1 k_NA_68 h_SD_n rfl rfl rfl rfl rfl ⟨by decide, by decide⟩ rfl ?_
  refine ev_gN [] [] rfl ?_
  refine ev_retl rfl ?_
  refine ev_g0 rfl ?_
  refine ev_inS 1 k_NA_72 h_NA_isDivision rfl rfl rfl rfl ⟨by decide, by decide⟩ rfl ?_
  refine ev_gN [false, true] [] rfl ?_
  refine ev_retz rfl (by first | decide | exact zb_01 _) ?_
  refine ev_gN [true] [] rfl ?_
  refine ev_inS 3 k_NA_76 h_NA_joined rfl rfl rfl rfl ⟨by decide, by decide⟩ rfl ?_
  refine ev_gN [] [some 8] rfl ?_
  refine ev_retl rfl ?_
  refine ev_g0 rfl ?_
  refine ev_inV 2 k_NA_15 h_SD_setN rfl rfl rfl rfl rfl ⟨by decide, by decide⟩ rfl ?_
  refine ev_gN [] [] rfl ?_
  refine ev_ret rfl ?_
  refine ev_g0 rfl ?_
  refine ev_reti rfl ?_
  refine ev_g0 rfl ?_
  refine ev_reti rfl ?_
  refine ct_of h_MM_reckons rfl rfl rfl ?_
  refine ev_gN [] [some 3] rfl ?_
  refine ev_inV 1 k_MM_277 h_MM_number rfl rfl rfl rfl rfl ⟨by decide, by decide⟩ rfl ?_
  refine ev_gN [] [] rfl ?_
  refine ev_retl rfl ?_
  refine ev_g0 rfl ?_
  refine ev_bN rfl rfl (fun h_1 => ?_) (fun h_1 => ?_)
  · skip
    refine ev_g0 rfl ?_
    refine ev_inV 1 k_MM_277 h_MM_number rfl rfl rfl rfl rfl ⟨by decide, by decide⟩ rfl ?_
    refine ev_gN [] [] rfl ?_
    refine ev_retl rfl ?_
    refine ev_g0 rfl ?_
    refine ev_inV 1 k_MM_277 h_MM_number rfl rfl rfl rfl rfl ⟨by decide, by decide⟩ rfl ?_
    refine ev_gN [] [] rfl ?_
    refine ev_retl rfl ?_
    refine ev_g0 rfl ?_
    refine ev_inV 3 k_MM_305 h_MM_longs rfl rfl rfl rfl rfl ⟨by decide, by decide⟩ rfl ?_
    refine ev_gN [] [some 8] rfl ?_
    refine ev_retl rfl ?_
    refine ev_g0 rfl ?_
    refine ev_inV 2 k_MM_288 h_MM_lay rfl rfl rfl rfl rfl ⟨by decide, by decide⟩ rfl ?_
    refine ev_gN [] [] rfl ?_
    refine ev_ret rfl ?_
    refine ev_g0 rfl ?_
    refine ev_ret rfl ?_
    exact ⟨rfl, (u3 xj 0 t a (xj 0 t a &&& xj 0 t c)), xd, xf, xo, xi, xn, nI 0, rfl, bdd, lf_N, lf_N, (CU_num hC ht ha lf_N lf_N), (MU_num hM ht ha lf_N lf_N (fun i hi => (rc_isor hC hi).2.2.1))⟩
  · skip
    refine ev_gN [false, true] [] rfl ?_
    refine ev_inV 1 k_MM_277 h_MM_number rfl rfl rfl rfl rfl ⟨by decide, by decide⟩ rfl ?_
    refine ev_gN [] [] rfl ?_
    refine ev_retl rfl ?_
    refine ev_g0 rfl ?_
    refine ev_inV 1 k_MM_277 h_MM_number rfl rfl rfl rfl rfl ⟨by decide, by decide⟩ rfl ?_
    refine ev_gN [] [] rfl ?_
    refine ev_retl rfl ?_
    refine ev_g0 rfl ?_
    refine ev_inV 3 k_MM_305 h_MM_longs rfl rfl rfl rfl rfl ⟨by decide, by decide⟩ rfl ?_
    refine ev_gN [] [some 8] rfl ?_
    refine ev_retl rfl ?_
    refine ev_g0 rfl ?_
    refine ev_inV 2 k_MM_288 h_MM_lay rfl rfl rfl rfl rfl ⟨by decide, by decide⟩ rfl ?_
    refine ev_gN [] [] rfl ?_
    refine ev_ret rfl ?_
    refine ev_g0 rfl ?_
    refine ev_ret rfl ?_
    exact ⟨rfl, (u3 xj 0 t a (xj 0 t a &&& xj 0 t c)), xd, xf, xo, xi, xn, nI 0, rfl, bdd, lf_N, lf_N, (CU_num hC ht ha lf_N lf_N), (MU_num hM ht ha lf_N lf_N (fun i hi => (rc_isor hC hi).2.2.1))⟩
theorem A3_9 {ci : Nat → Nat → Nat → Int32} {cn : Nat → Nat → Nat → Nat} {co : Nat → Option Nat} {xj : Nat → Nat → Nat → Int64} {xd : Nat → Nat → Nat → UInt64} {xf : Nat → Nat → Nat → UInt32} {xo : Nat → Nat → Nat → Option Nat} {xi : Nat → Nat → Nat → Int32} {xn : Nat → Nat → Nat → Nat} {K : Nat → Nat} {I : Nat → Nat → Int32} {J : Nat → Nat → Int64} {F : Nat → Nat → UInt32} {D : Nat → Nat → UInt64} {R : Nat → Nat → Option Nat} {nx sl : Nat} {Km : Nat → Nat} {Im : Nat → Nat → Int32} {Jm : Nat → Nat → Int64} {Fm : Nat → Nat → UInt32} {Dm : Nat → Nat → UInt64} {Rm : Nat → Nat → Option Nat} {nxm slm : Nat} (hC : RC ci cn co xj xd xf xo xi xn I J F D R nx sl) (hM : RM ci cn co xj xd xf xo xi xn Im Jm Dm) {t a : Nat} {c : Nat} {go : Int32} (ht : t < 3) (ha : a < 8) (hc : c < 8) (x1 : Im 6 39 = nI t) (x2 : Im 6 40 = nI a) (x3 : Im 6 41 = nI 9) (x4 : Im 6 42 = nI c) (x5 : Im 6 43 = nI 0) (x6 : Im 6 44 = go) : Ct Y_NA_perform [vr 3 54, vr 8 (32 + 7 * t), vi (nI 3), vi (nI a), vi (nI 9), vi (nI c)] (K, I, J, F, D, R, nx, sl) (fun r μ1 => Ct Y_MM_reckons [vr 11 6, vi (nI 3)] (Km, Im, Jm, Fm, Dm, Rm, nxm, slm) (fun r2 μ2 => r2 = none ∧ QA ci cn co go r μ1 μ2)) := by
  refine ct_of h_NA_perform rfl rfl rfl ?_
  refine ev_gN [] [some 3] rfl ?_
  refine ev_inS 4 k_NA_35 h_NA_joinLongs rfl rfl rfl rfl ⟨by decide, by decide⟩ rfl ?_
  refine ev_g0 rfl ?_
  refine ev_inV 1 k_NA_68 h_SD_n rfl rfl rfl rfl rfl ⟨by decide, by decide⟩ rfl ?_
  refine ev_gN [] [] rfl ?_
  refine ev_retl rfl ?_
  refine ev_g0 rfl ?_
  refine ev_inV 1 k_NA_68 h_SD_n rfl rfl rfl rfl rfl ⟨by decide, by decide⟩ rfl ?_
  refine ev_gN [] [] rfl ?_
  refine ev_retl rfl ?_
  refine ev_g0 rfl ?_
  refine ev_inS 1 k_NA_72 h_NA_isDivision rfl rfl rfl rfl ⟨by decide, by decide⟩ rfl ?_
  refine ev_gN [false, true] [] rfl ?_
  refine ev_retz rfl (by first | decide | exact zb_01 _) ?_
  refine ev_gN [true] [] rfl ?_
  refine ev_inS 3 k_NA_76 h_NA_joined rfl rfl rfl rfl ⟨by decide, by decide⟩ rfl ?_
  refine ev_gN [] [some 9] rfl ?_
  refine ev_retl rfl ?_
  refine ev_g0 rfl ?_
  refine ev_inV 2 k_NA_15 h_SD_setN rfl rfl rfl rfl rfl ⟨by decide, by decide⟩ rfl ?_
  refine ev_gN [] [] rfl ?_
  refine ev_ret rfl ?_
  refine ev_g0 rfl ?_
  refine ev_reti rfl ?_
  refine ev_g0 rfl ?_
  refine ev_reti rfl ?_
  refine ct_of h_MM_reckons rfl rfl rfl ?_
  refine ev_gN [] [some 3] rfl ?_
  refine ev_inV 1 k_MM_277 h_MM_number rfl rfl rfl rfl rfl ⟨by decide, by decide⟩ rfl ?_
  refine ev_gN [] [] rfl ?_
  refine ev_retl rfl ?_
  refine ev_g0 rfl ?_
  refine ev_bN rfl rfl (fun h_1 => ?_) (fun h_1 => ?_)
  · skip
    refine ev_g0 rfl ?_
    refine ev_inV 1 k_MM_277 h_MM_number rfl rfl rfl rfl rfl ⟨by decide, by decide⟩ rfl ?_
    refine ev_gN [] [] rfl ?_
    refine ev_retl rfl ?_
    refine ev_g0 rfl ?_
    refine ev_inV 1 k_MM_277 h_MM_number rfl rfl rfl rfl rfl ⟨by decide, by decide⟩ rfl ?_
    refine ev_gN [] [] rfl ?_
    refine ev_retl rfl ?_
    refine ev_g0 rfl ?_
    refine ev_inV 3 k_MM_305 h_MM_longs rfl rfl rfl rfl rfl ⟨by decide, by decide⟩ rfl ?_
    refine ev_gN [] [some 9] rfl ?_
    refine ev_retl rfl ?_
    refine ev_g0 rfl ?_
    refine ev_inV 2 k_MM_288 h_MM_lay rfl rfl rfl rfl rfl ⟨by decide, by decide⟩ rfl ?_
    refine ev_gN [] [] rfl ?_
    refine ev_ret rfl ?_
    refine ev_g0 rfl ?_
    refine ev_ret rfl ?_
    exact ⟨rfl, (u3 xj 0 t a (xj 0 t a ||| xj 0 t c)), xd, xf, xo, xi, xn, nI 0, rfl, bdd, lf_N, lf_N, (CU_num hC ht ha lf_N lf_N), (MU_num hM ht ha lf_N lf_N (fun i hi => (rc_isor hC hi).2.2.1))⟩
  · skip
    refine ev_gN [false, true] [] rfl ?_
    refine ev_inV 1 k_MM_277 h_MM_number rfl rfl rfl rfl rfl ⟨by decide, by decide⟩ rfl ?_
    refine ev_gN [] [] rfl ?_
    refine ev_retl rfl ?_
    refine ev_g0 rfl ?_
    refine ev_inV 1 k_MM_277 h_MM_number rfl rfl rfl rfl rfl ⟨by decide, by decide⟩ rfl ?_
    refine ev_gN [] [] rfl ?_
    refine ev_retl rfl ?_
    refine ev_g0 rfl ?_
    refine ev_inV 3 k_MM_305 h_MM_longs rfl rfl rfl rfl rfl ⟨by decide, by decide⟩ rfl ?_
    refine ev_gN [] [some 9] rfl ?_
    refine ev_retl rfl ?_
    refine ev_g0 rfl ?_
    refine ev_inV 2 k_MM_288 h_MM_lay rfl rfl rfl rfl rfl ⟨by decide, by decide⟩ rfl ?_
    refine ev_gN [] [] rfl ?_
    refine ev_ret rfl ?_
    refine ev_g0 rfl ?_
    refine ev_ret rfl ?_
    exact ⟨rfl, (u3 xj 0 t a (xj 0 t a ||| xj 0 t c)), xd, xf, xo, xi, xn, nI 0, rfl, bdd, lf_N, lf_N, (CU_num hC ht ha lf_N lf_N), (MU_num hM ht ha lf_N lf_N (fun i hi => (rc_isor hC hi).2.2.1))⟩
theorem A3_10 {ci : Nat → Nat → Nat → Int32} {cn : Nat → Nat → Nat → Nat} {co : Nat → Option Nat} {xj : Nat → Nat → Nat → Int64} {xd : Nat → Nat → Nat → UInt64} {xf : Nat → Nat → Nat → UInt32} {xo : Nat → Nat → Nat → Option Nat} {xi : Nat → Nat → Nat → Int32} {xn : Nat → Nat → Nat → Nat} {K : Nat → Nat} {I : Nat → Nat → Int32} {J : Nat → Nat → Int64} {F : Nat → Nat → UInt32} {D : Nat → Nat → UInt64} {R : Nat → Nat → Option Nat} {nx sl : Nat} {Km : Nat → Nat} {Im : Nat → Nat → Int32} {Jm : Nat → Nat → Int64} {Fm : Nat → Nat → UInt32} {Dm : Nat → Nat → UInt64} {Rm : Nat → Nat → Option Nat} {nxm slm : Nat} (hC : RC ci cn co xj xd xf xo xi xn I J F D R nx sl) (hM : RM ci cn co xj xd xf xo xi xn Im Jm Dm) {t a : Nat} {c : Nat} {go : Int32} (ht : t < 3) (ha : a < 8) (hc : c < 8) (x1 : Im 6 39 = nI t) (x2 : Im 6 40 = nI a) (x3 : Im 6 41 = nI 10) (x4 : Im 6 42 = nI c) (x5 : Im 6 43 = nI 0) (x6 : Im 6 44 = go) : Ct Y_NA_perform [vr 3 54, vr 8 (32 + 7 * t), vi (nI 3), vi (nI a), vi (nI 10), vi (nI c)] (K, I, J, F, D, R, nx, sl) (fun r μ1 => Ct Y_MM_reckons [vr 11 6, vi (nI 3)] (Km, Im, Jm, Fm, Dm, Rm, nxm, slm) (fun r2 μ2 => r2 = none ∧ QA ci cn co go r μ1 μ2)) := by
  refine ct_of h_NA_perform rfl rfl rfl ?_
  refine ev_gN [] [some 3] rfl ?_
  refine ev_inS 4 k_NA_35 h_NA_joinLongs rfl rfl rfl rfl ⟨by decide, by decide⟩ rfl ?_
  refine ev_g0 rfl ?_
  refine ev_inV 1 k_NA_68 h_SD_n rfl rfl rfl rfl rfl ⟨by decide, by decide⟩ rfl ?_
  refine ev_gN [] [] rfl ?_
  refine ev_retl rfl ?_
  refine ev_g0 rfl ?_
  refine ev_inV 1 k_NA_68 h_SD_n rfl rfl rfl rfl rfl ⟨by decide, by decide⟩ rfl ?_
  refine ev_gN [] [] rfl ?_
  refine ev_retl rfl ?_
  refine ev_g0 rfl ?_
  refine ev_inS 1 k_NA_72 h_NA_isDivision rfl rfl rfl rfl ⟨by decide, by decide⟩ rfl ?_
  refine ev_gN [false, true] [] rfl ?_
  refine ev_retz rfl (by first | decide | exact zb_01 _) ?_
  refine ev_gN [true] [] rfl ?_
  refine ev_inS 3 k_NA_76 h_NA_joined rfl rfl rfl rfl ⟨by decide, by decide⟩ rfl ?_
  refine ev_gN [] [some 10] rfl ?_
  refine ev_retl rfl ?_
  refine ev_g0 rfl ?_
  refine ev_inV 2 k_NA_15 h_SD_setN rfl rfl rfl rfl rfl ⟨by decide, by decide⟩ rfl ?_
  refine ev_gN [] [] rfl ?_
  refine ev_ret rfl ?_
  refine ev_g0 rfl ?_
  refine ev_reti rfl ?_
  refine ev_g0 rfl ?_
  refine ev_reti rfl ?_
  refine ct_of h_MM_reckons rfl rfl rfl ?_
  refine ev_gN [] [some 3] rfl ?_
  refine ev_inV 1 k_MM_277 h_MM_number rfl rfl rfl rfl rfl ⟨by decide, by decide⟩ rfl ?_
  refine ev_gN [] [] rfl ?_
  refine ev_retl rfl ?_
  refine ev_g0 rfl ?_
  refine ev_bN rfl rfl (fun h_1 => ?_) (fun h_1 => ?_)
  · skip
    refine ev_g0 rfl ?_
    refine ev_inV 1 k_MM_277 h_MM_number rfl rfl rfl rfl rfl ⟨by decide, by decide⟩ rfl ?_
    refine ev_gN [] [] rfl ?_
    refine ev_retl rfl ?_
    refine ev_g0 rfl ?_
    refine ev_inV 1 k_MM_277 h_MM_number rfl rfl rfl rfl rfl ⟨by decide, by decide⟩ rfl ?_
    refine ev_gN [] [] rfl ?_
    refine ev_retl rfl ?_
    refine ev_g0 rfl ?_
    refine ev_inV 3 k_MM_305 h_MM_longs rfl rfl rfl rfl rfl ⟨by decide, by decide⟩ rfl ?_
    refine ev_gN [] [some 10] rfl ?_
    refine ev_retl rfl ?_
    refine ev_g0 rfl ?_
    refine ev_inV 2 k_MM_288 h_MM_lay rfl rfl rfl rfl rfl ⟨by decide, by decide⟩ rfl ?_
    refine ev_gN [] [] rfl ?_
    refine ev_ret rfl ?_
    refine ev_g0 rfl ?_
    refine ev_ret rfl ?_
    exact ⟨rfl, (u3 xj 0 t a (xj 0 t a ^^^ xj 0 t c)), xd, xf, xo, xi, xn, nI 0, rfl, bdd, lf_N, lf_N, (CU_num hC ht ha lf_N lf_N), (MU_num hM ht ha lf_N lf_N (fun i hi => (rc_isor hC hi).2.2.1))⟩
  · skip
    refine ev_gN [false, true] [] rfl ?_
    refine ev_inV 1 k_MM_277 h_MM_number rfl rfl rfl rfl rfl ⟨by decide, by decide⟩ rfl ?_
    refine ev_gN [] [] rfl ?_
    refine ev_retl rfl ?_
    refine ev_g0 rfl ?_
    refine ev_inV 1 k_MM_277 h_MM_number rfl rfl rfl rfl rfl ⟨by decide, by decide⟩ rfl ?_
    refine ev_gN [] [] rfl ?_
    refine ev_retl rfl ?_
    refine ev_g0 rfl ?_
    refine ev_inV 3 k_MM_305 h_MM_longs rfl rfl rfl rfl rfl ⟨by decide, by decide⟩ rfl ?_
    refine ev_gN [] [some 10] rfl ?_
    refine ev_retl rfl ?_
    refine ev_g0 rfl ?_
    refine ev_inV 2 k_MM_288 h_MM_lay rfl rfl rfl rfl rfl ⟨by decide, by decide⟩ rfl ?_
    refine ev_gN [] [] rfl ?_
    refine ev_ret rfl ?_
    refine ev_g0 rfl ?_
    refine ev_ret rfl ?_
    exact ⟨rfl, (u3 xj 0 t a (xj 0 t a ^^^ xj 0 t c)), xd, xf, xo, xi, xn, nI 0, rfl, bdd, lf_N, lf_N, (CU_num hC ht ha lf_N lf_N), (MU_num hM ht ha lf_N lf_N (fun i hi => (rc_isor hC hi).2.2.1))⟩
theorem A3_11 {ci : Nat → Nat → Nat → Int32} {cn : Nat → Nat → Nat → Nat} {co : Nat → Option Nat} {xj : Nat → Nat → Nat → Int64} {xd : Nat → Nat → Nat → UInt64} {xf : Nat → Nat → Nat → UInt32} {xo : Nat → Nat → Nat → Option Nat} {xi : Nat → Nat → Nat → Int32} {xn : Nat → Nat → Nat → Nat} {K : Nat → Nat} {I : Nat → Nat → Int32} {J : Nat → Nat → Int64} {F : Nat → Nat → UInt32} {D : Nat → Nat → UInt64} {R : Nat → Nat → Option Nat} {nx sl : Nat} {Km : Nat → Nat} {Im : Nat → Nat → Int32} {Jm : Nat → Nat → Int64} {Fm : Nat → Nat → UInt32} {Dm : Nat → Nat → UInt64} {Rm : Nat → Nat → Option Nat} {nxm slm : Nat} (hC : RC ci cn co xj xd xf xo xi xn I J F D R nx sl) (hM : RM ci cn co xj xd xf xo xi xn Im Jm Dm) {t a : Nat} {c : Nat} {go : Int32} (ht : t < 3) (ha : a < 8) (hc : c < 8) (x1 : Im 6 39 = nI t) (x2 : Im 6 40 = nI a) (x3 : Im 6 41 = nI 11) (x4 : Im 6 42 = nI c) (x5 : Im 6 43 = nI 0) (x6 : Im 6 44 = go) : Ct Y_NA_perform [vr 3 54, vr 8 (32 + 7 * t), vi (nI 3), vi (nI a), vi (nI 11), vi (nI c)] (K, I, J, F, D, R, nx, sl) (fun r μ1 => Ct Y_MM_reckons [vr 11 6, vi (nI 3)] (Km, Im, Jm, Fm, Dm, Rm, nxm, slm) (fun r2 μ2 => r2 = none ∧ QA ci cn co go r μ1 μ2)) := by
  refine ct_of h_NA_perform rfl rfl rfl ?_
  refine ev_gN [] [some 3] rfl ?_
  refine ev_inS 4 k_NA_35 h_NA_joinLongs rfl rfl rfl rfl ⟨by decide, by decide⟩ rfl ?_
  refine ev_g0 rfl ?_
  refine ev_inV 1 k_NA_68 h_SD_n rfl rfl rfl rfl rfl ⟨by decide, by decide⟩ rfl ?_
  refine ev_gN [] [] rfl ?_
  refine ev_retl rfl ?_
  refine ev_g0 rfl ?_
  refine ev_inV 1 k_NA_68 h_SD_n rfl rfl rfl rfl rfl ⟨by decide, by decide⟩ rfl ?_
  refine ev_gN [] [] rfl ?_
  refine ev_retl rfl ?_
  refine ev_g0 rfl ?_
  refine ev_inS 1 k_NA_72 h_NA_isDivision rfl rfl rfl rfl ⟨by decide, by decide⟩ rfl ?_
  refine ev_gN [false, true] [] rfl ?_
  refine ev_retz rfl (by first | decide | exact zb_01 _) ?_
  refine ev_gN [true] [] rfl ?_
  refine ev_inS 3 k_NA_76 h_NA_joined rfl rfl rfl rfl ⟨by decide, by decide⟩ rfl ?_
  refine ev_gN [] [none] rfl ?_
  refine ev_inS 2 k_NA_80 h_JL_compare rfl rfl rfl rfl ⟨by decide, by decide⟩ rfl ?_
  refine ev_g0 rfl ?_
  refine ev_bN rfl rfl (fun h_1 => ?_) (fun h_1 => ?_)
  · skip
    refine ev_g0 rfl ?_
    refine ev_bN rfl rfl (fun h_2 => ?_) (fun h_2 => ?_)
    · skip
      refine ev_g0 rfl ?_
      refine ev_reti rfl ?_
      refine ev_g0 rfl ?_
      refine ev_retl rfl ?_
      refine ev_g0 rfl ?_
      refine ev_inV 2 k_NA_15 h_SD_setN rfl rfl rfl rfl rfl ⟨by decide, by decide⟩ rfl ?_
      refine ev_gN [] [] rfl ?_
      refine ev_ret rfl ?_
      refine ev_g0 rfl ?_
      refine ev_reti rfl ?_
      refine ev_g0 rfl ?_
      refine ev_reti rfl ?_
      refine ct_of h_MM_reckons rfl rfl rfl ?_
      refine ev_gN [] [some 3] rfl ?_
      refine ev_inV 1 k_MM_277 h_MM_number rfl rfl rfl rfl rfl ⟨by decide, by decide⟩ rfl ?_
      refine ev_gN [] [] rfl ?_
      refine ev_retl rfl ?_
      refine ev_g0 rfl ?_
      refine ev_bN rfl rfl (fun h_3 => ?_) (fun h_3 => ?_)
      · skip
        refine ev_g0 rfl ?_
        refine ev_inV 1 k_MM_277 h_MM_number rfl rfl rfl rfl rfl ⟨by decide, by decide⟩ rfl ?_
        refine ev_gN [] [] rfl ?_
        refine ev_retl rfl ?_
        refine ev_g0 rfl ?_
        refine ev_inV 1 k_MM_277 h_MM_number rfl rfl rfl rfl rfl ⟨by decide, by decide⟩ rfl ?_
        refine ev_gN [] [] rfl ?_
        refine ev_retl rfl ?_
        refine ev_g0 rfl ?_
        refine ev_inV 3 k_MM_305 h_MM_longs rfl rfl rfl rfl rfl ⟨by decide, by decide⟩ rfl ?_
        refine ev_gN [true, false] [none] rfl ?_
        refine ev_retl rfl ?_
        refine ev_g0 rfl ?_
        refine ev_inV 2 k_MM_288 h_MM_lay rfl rfl rfl rfl rfl ⟨by decide, by decide⟩ rfl ?_
        refine ev_gN [] [] rfl ?_
        refine ev_ret rfl ?_
        refine ev_g0 rfl ?_
        refine ev_ret rfl ?_
        exact ⟨rfl, (u3 xj 0 t a ((nI 1).toInt64)), xd, xf, xo, xi, xn, nI 0, rfl, bdd, lf_N, lf_N, (CU_num hC ht ha lf_N lf_N), (MU_num hM ht ha lf_N lf_N (fun i hi => (rc_isor hC hi).2.2.1))⟩
      · skip
        refine ev_gN [false, true] [] rfl ?_
        refine ev_inV 1 k_MM_277 h_MM_number rfl rfl rfl rfl rfl ⟨by decide, by decide⟩ rfl ?_
        refine ev_gN [] [] rfl ?_
        refine ev_retl rfl ?_
        refine ev_g0 rfl ?_
        refine ev_inV 1 k_MM_277 h_MM_number rfl rfl rfl rfl rfl ⟨by decide, by decide⟩ rfl ?_
        refine ev_gN [] [] rfl ?_
        refine ev_retl rfl ?_
        refine ev_g0 rfl ?_
        refine ev_inV 3 k_MM_305 h_MM_longs rfl rfl rfl rfl rfl ⟨by decide, by decide⟩ rfl ?_
        refine ev_gN [true, false] [none] rfl ?_
        refine ev_retl rfl ?_
        refine ev_g0 rfl ?_
        refine ev_inV 2 k_MM_288 h_MM_lay rfl rfl rfl rfl rfl ⟨by decide, by decide⟩ rfl ?_
        refine ev_gN [] [] rfl ?_
        refine ev_ret rfl ?_
        refine ev_g0 rfl ?_
        refine ev_ret rfl ?_
        exact ⟨rfl, (u3 xj 0 t a ((nI 1).toInt64)), xd, xf, xo, xi, xn, nI 0, rfl, bdd, lf_N, lf_N, (CU_num hC ht ha lf_N lf_N), (MU_num hM ht ha lf_N lf_N (fun i hi => (rc_isor hC hi).2.2.1))⟩
    · skip
      refine ev_g0 rfl ?_
      refine ev_reti rfl ?_
      refine ev_g0 rfl ?_
      refine ev_retl rfl ?_
      refine ev_g0 rfl ?_
      refine ev_inV 2 k_NA_15 h_SD_setN rfl rfl rfl rfl rfl ⟨by decide, by decide⟩ rfl ?_
      refine ev_gN [] [] rfl ?_
      refine ev_ret rfl ?_
      refine ev_g0 rfl ?_
      refine ev_reti rfl ?_
      refine ev_g0 rfl ?_
      refine ev_reti rfl ?_
      refine ct_of h_MM_reckons rfl rfl rfl ?_
      refine ev_gN [] [some 3] rfl ?_
      refine ev_inV 1 k_MM_277 h_MM_number rfl rfl rfl rfl rfl ⟨by decide, by decide⟩ rfl ?_
      refine ev_gN [] [] rfl ?_
      refine ev_retl rfl ?_
      refine ev_g0 rfl ?_
      refine ev_bN rfl rfl (fun h_4 => ?_) (fun h_4 => ?_)
      · skip
        refine ev_g0 rfl ?_
        refine ev_inV 1 k_MM_277 h_MM_number rfl rfl rfl rfl rfl ⟨by decide, by decide⟩ rfl ?_
        refine ev_gN [] [] rfl ?_
        refine ev_retl rfl ?_
        refine ev_g0 rfl ?_
        refine ev_inV 1 k_MM_277 h_MM_number rfl rfl rfl rfl rfl ⟨by decide, by decide⟩ rfl ?_
        refine ev_gN [] [] rfl ?_
        refine ev_retl rfl ?_
        refine ev_g0 rfl ?_
        refine ev_inV 3 k_MM_305 h_MM_longs rfl rfl rfl rfl rfl ⟨by decide, by decide⟩ rfl ?_
        refine ev_gN [true, true] [none] rfl ?_
        refine ev_retl rfl ?_
        refine ev_g0 rfl ?_
        refine ev_inV 2 k_MM_288 h_MM_lay rfl rfl rfl rfl rfl ⟨by decide, by decide⟩ rfl ?_
        refine ev_gN [] [] rfl ?_
        refine ev_ret rfl ?_
        refine ev_g0 rfl ?_
        refine ev_ret rfl ?_
        exact ⟨rfl, (u3 xj 0 t a ((nI 0).toInt64)), xd, xf, xo, xi, xn, nI 0, rfl, bdd, lf_N, lf_N, (CU_num hC ht ha lf_N lf_N), (MU_num hM ht ha lf_N lf_N (fun i hi => (rc_isor hC hi).2.2.1))⟩
      · skip
        refine ev_gN [false, true] [] rfl ?_
        refine ev_inV 1 k_MM_277 h_MM_number rfl rfl rfl rfl rfl ⟨by decide, by decide⟩ rfl ?_
        refine ev_gN [] [] rfl ?_
        refine ev_retl rfl ?_
        refine ev_g0 rfl ?_
        refine ev_inV 1 k_MM_277 h_MM_number rfl rfl rfl rfl rfl ⟨by decide, by decide⟩ rfl ?_
        refine ev_gN [] [] rfl ?_
        refine ev_retl rfl ?_
        refine ev_g0 rfl ?_
        refine ev_inV 3 k_MM_305 h_MM_longs rfl rfl rfl rfl rfl ⟨by decide, by decide⟩ rfl ?_
        refine ev_gN [true, true] [none] rfl ?_
        refine ev_retl rfl ?_
        refine ev_g0 rfl ?_
        refine ev_inV 2 k_MM_288 h_MM_lay rfl rfl rfl rfl rfl ⟨by decide, by decide⟩ rfl ?_
        refine ev_gN [] [] rfl ?_
        refine ev_ret rfl ?_
        refine ev_g0 rfl ?_
        refine ev_ret rfl ?_
        exact ⟨rfl, (u3 xj 0 t a ((nI 0).toInt64)), xd, xf, xo, xi, xn, nI 0, rfl, bdd, lf_N, lf_N, (CU_num hC ht ha lf_N lf_N), (MU_num hM ht ha lf_N lf_N (fun i hi => (rc_isor hC hi).2.2.1))⟩
  · skip
    refine ev_g0 rfl ?_
    refine ev_reti rfl ?_
    refine ev_g0 rfl ?_
    refine ev_retl rfl ?_
    refine ev_g0 rfl ?_
    refine ev_inV 2 k_NA_15 h_SD_setN rfl rfl rfl rfl rfl ⟨by decide, by decide⟩ rfl ?_
    refine ev_gN [] [] rfl ?_
    refine ev_ret rfl ?_
    refine ev_g0 rfl ?_
    refine ev_reti rfl ?_
    refine ev_g0 rfl ?_
    refine ev_reti rfl ?_
    refine ct_of h_MM_reckons rfl rfl rfl ?_
    refine ev_gN [] [some 3] rfl ?_
    refine ev_inV 1 k_MM_277 h_MM_number rfl rfl rfl rfl rfl ⟨by decide, by decide⟩ rfl ?_
    refine ev_gN [] [] rfl ?_
    refine ev_retl rfl ?_
    refine ev_g0 rfl ?_
    refine ev_bN rfl rfl (fun h_5 => ?_) (fun h_5 => ?_)
    · skip
      refine ev_g0 rfl ?_
      refine ev_inV 1 k_MM_277 h_MM_number rfl rfl rfl rfl rfl ⟨by decide, by decide⟩ rfl ?_
      refine ev_gN [] [] rfl ?_
      refine ev_retl rfl ?_
      refine ev_g0 rfl ?_
      refine ev_inV 1 k_MM_277 h_MM_number rfl rfl rfl rfl rfl ⟨by decide, by decide⟩ rfl ?_
      refine ev_gN [] [] rfl ?_
      refine ev_retl rfl ?_
      refine ev_g0 rfl ?_
      refine ev_inV 3 k_MM_305 h_MM_longs rfl rfl rfl rfl rfl ⟨by decide, by decide⟩ rfl ?_
      refine ev_gN [false] [none] rfl ?_
      refine ev_retl rfl ?_
      refine ev_g0 rfl ?_
      refine ev_inV 2 k_MM_288 h_MM_lay rfl rfl rfl rfl rfl ⟨by decide, by decide⟩ rfl ?_
      refine ev_gN [] [] rfl ?_
      refine ev_ret rfl ?_
      refine ev_g0 rfl ?_
      refine ev_ret rfl ?_
      exact ⟨rfl, (u3 xj 0 t a ((-(nI 1)).toInt64)), xd, xf, xo, xi, xn, nI 0, rfl, bdd, lf_N, lf_N, (CU_num hC ht ha lf_N lf_N), (MU_num hM ht ha lf_N lf_N (fun i hi => (rc_isor hC hi).2.2.1))⟩
    · skip
      refine ev_gN [false, true] [] rfl ?_
      refine ev_inV 1 k_MM_277 h_MM_number rfl rfl rfl rfl rfl ⟨by decide, by decide⟩ rfl ?_
      refine ev_gN [] [] rfl ?_
      refine ev_retl rfl ?_
      refine ev_g0 rfl ?_
      refine ev_inV 1 k_MM_277 h_MM_number rfl rfl rfl rfl rfl ⟨by decide, by decide⟩ rfl ?_
      refine ev_gN [] [] rfl ?_
      refine ev_retl rfl ?_
      refine ev_g0 rfl ?_
      refine ev_inV 3 k_MM_305 h_MM_longs rfl rfl rfl rfl rfl ⟨by decide, by decide⟩ rfl ?_
      refine ev_gN [false] [none] rfl ?_
      refine ev_retl rfl ?_
      refine ev_g0 rfl ?_
      refine ev_inV 2 k_MM_288 h_MM_lay rfl rfl rfl rfl rfl ⟨by decide, by decide⟩ rfl ?_
      refine ev_gN [] [] rfl ?_
      refine ev_ret rfl ?_
      refine ev_g0 rfl ?_
      refine ev_ret rfl ?_
      exact ⟨rfl, (u3 xj 0 t a ((-(nI 1)).toInt64)), xd, xf, xo, xi, xn, nI 0, rfl, bdd, lf_N, lf_N, (CU_num hC ht ha lf_N lf_N), (MU_num hM ht ha lf_N lf_N (fun i hi => (rc_isor hC hi).2.2.1))⟩
theorem A4_0 {ci : Nat → Nat → Nat → Int32} {cn : Nat → Nat → Nat → Nat} {co : Nat → Option Nat} {xj : Nat → Nat → Nat → Int64} {xd : Nat → Nat → Nat → UInt64} {xf : Nat → Nat → Nat → UInt32} {xo : Nat → Nat → Nat → Option Nat} {xi : Nat → Nat → Nat → Int32} {xn : Nat → Nat → Nat → Nat} {K : Nat → Nat} {I : Nat → Nat → Int32} {J : Nat → Nat → Int64} {F : Nat → Nat → UInt32} {D : Nat → Nat → UInt64} {R : Nat → Nat → Option Nat} {nx sl : Nat} {Km : Nat → Nat} {Im : Nat → Nat → Int32} {Jm : Nat → Nat → Int64} {Fm : Nat → Nat → UInt32} {Dm : Nat → Nat → UInt64} {Rm : Nat → Nat → Option Nat} {nxm slm : Nat} (hC : RC ci cn co xj xd xf xo xi xn I J F D R nx sl) (hM : RM ci cn co xj xd xf xo xi xn Im Jm Dm) {t a : Nat} {c : Nat} {go : Int32} (ht : t < 3) (ha : a < 8) (hc : c < 8) (x1 : Im 6 39 = nI t) (x2 : Im 6 40 = nI a) (x3 : Im 6 41 = nI 0) (x4 : Im 6 42 = nI c) (x5 : Im 6 43 = nI 0) (x6 : Im 6 44 = go) : Ct Y_NA_perform [vr 3 54, vr 8 (32 + 7 * t), vi (nI 4), vi (nI a), vi (nI 0), vi (nI c)] (K, I, J, F, D, R, nx, sl) (fun r μ1 => Ct Y_MM_reckons [vr 11 6, vi (nI 4)] (Km, Im, Jm, Fm, Dm, Rm, nxm, slm) (fun r2 μ2 => r2 = none ∧ QA ci cn co go r μ1 μ2)) := by
  refine ct_of h_NA_perform rfl rfl rfl ?_
  refine ev_gN [] [some 4] rfl ?_
  refine ev_inS 4 k_NA_39 h_NA_joinInts rfl rfl rfl rfl ⟨by decide, by decide⟩ rfl ?_
  refine ev_g0 rfl ?_
  refine ev_inV 1 k_NA_68 h_SD_n rfl rfl rfl rfl rfl ⟨by decide, by decide⟩ rfl ?_
  refine ev_gN [] [] rfl ?_
  refine ev_retl rfl ?_
  refine ev_g0 rfl ?_
  refine ev_inV 1 k_NA_68 h_SD_n rfl rfl rfl rfl rfl ⟨by decide, by decide⟩ rfl ?_
  refine ev_gN [] [] rfl ?_
  refine ev_retl rfl ?_
  refine ev_g0 rfl ?_
  refine ev_inS 1 k_NA_72 h_NA_isDivision rfl rfl rfl rfl ⟨by decide, by decide⟩ rfl ?_
  refine ev_gN [false, true] [] rfl ?_
  refine ev_retz rfl (by first | decide | exact zb_01 _) ?_
  refine ev_gN [true] [] rfl ?_
  refine ev_inS 3 k_NA_86 h_NA_joinedInts rfl rfl rfl rfl ⟨by decide, by decide⟩ rfl ?_
  refine ev_gN [] [some 0] rfl ?_
  refine ev_reti rfl ?_
  refine ev_g0 rfl ?_
  refine ev_inV 2 k_NA_15 h_SD_setN rfl rfl rfl rfl rfl ⟨by decide, by decide⟩ rfl ?_
  refine ev_gN [] [] rfl ?_
  refine ev_ret rfl ?_
  refine ev_g0 rfl ?_
  refine ev_reti rfl ?_
  refine ev_g0 rfl ?_
  refine ev_reti rfl ?_
  refine ct_of h_MM_reckons rfl rfl rfl ?_
  refine ev_gN [] [some 4] rfl ?_
  refine ev_inV 1 k_MM_277 h_MM_number rfl rfl rfl rfl rfl ⟨by decide, by decide⟩ rfl ?_
  refine ev_gN [] [] rfl ?_
  refine ev_retl rfl ?_
  refine ev_g0 rfl ?_
  refine ev_bN rfl rfl (fun h_1 => ?_) (fun h_1 => ?_)
  · skip
    refine ev_g0 rfl ?_
    refine ev_inV 1 k_MM_277 h_MM_number rfl rfl rfl rfl rfl ⟨by decide, by decide⟩ rfl ?_
    refine ev_gN [] [] rfl ?_
    refine ev_retl rfl ?_
    refine ev_g0 rfl ?_
    refine ev_inV 1 k_MM_277 h_MM_number rfl rfl rfl rfl rfl ⟨by decide, by decide⟩ rfl ?_
    refine ev_gN [] [] rfl ?_
    refine ev_retl rfl ?_
    refine ev_g0 rfl ?_
    refine ev_inV 3 k_MM_309 h_MM_ints rfl rfl rfl rfl rfl ⟨by decide, by decide⟩ rfl ?_
    refine ev_gN [] [some 0] rfl ?_
    refine ev_reti rfl ?_
    refine ev_g0 rfl ?_
    refine ev_inV 2 k_MM_288 h_MM_lay rfl rfl rfl rfl rfl ⟨by decide, by decide⟩ rfl ?_
    refine ev_gN [] [] rfl ?_
    refine ev_ret rfl ?_
    refine ev_g0 rfl ?_
    refine ev_ret rfl ?_
    exact ⟨rfl, (u3 xj 0 t a (((xj 0 t a).toInt32 + (xj 0 t c).toInt32).toInt64)), xd, xf, xo, xi, xn, nI 0, rfl, bdd, lf_N, lf_N, (CU_num hC ht ha lf_N lf_N), (MU_num hM ht ha lf_N lf_N (fun i hi => (rc_isor hC hi).2.2.1))⟩
  · skip
    refine ev_gN [false, true] [] rfl ?_
    refine ev_inV 1 k_MM_277 h_MM_number rfl rfl rfl rfl rfl ⟨by decide, by decide⟩ rfl ?_
    refine ev_gN [] [] rfl ?_
    refine ev_retl rfl ?_
    refine ev_g0 rfl ?_
    refine ev_inV 1 k_MM_277 h_MM_number rfl rfl rfl rfl rfl ⟨by decide, by decide⟩ rfl ?_
    refine ev_gN [] [] rfl ?_
    refine ev_retl rfl ?_
    refine ev_g0 rfl ?_
    refine ev_inV 3 k_MM_309 h_MM_ints rfl rfl rfl rfl rfl ⟨by decide, by decide⟩ rfl ?_
    refine ev_gN [] [some 0] rfl ?_
    refine ev_reti rfl ?_
    refine ev_g0 rfl ?_
    refine ev_inV 2 k_MM_288 h_MM_lay rfl rfl rfl rfl rfl ⟨by decide, by decide⟩ rfl ?_
    refine ev_gN [] [] rfl ?_
    refine ev_ret rfl ?_
    refine ev_g0 rfl ?_
    refine ev_ret rfl ?_
    exact ⟨rfl, (u3 xj 0 t a (((xj 0 t a).toInt32 + (xj 0 t c).toInt32).toInt64)), xd, xf, xo, xi, xn, nI 0, rfl, bdd, lf_N, lf_N, (CU_num hC ht ha lf_N lf_N), (MU_num hM ht ha lf_N lf_N (fun i hi => (rc_isor hC hi).2.2.1))⟩
theorem A4_1 {ci : Nat → Nat → Nat → Int32} {cn : Nat → Nat → Nat → Nat} {co : Nat → Option Nat} {xj : Nat → Nat → Nat → Int64} {xd : Nat → Nat → Nat → UInt64} {xf : Nat → Nat → Nat → UInt32} {xo : Nat → Nat → Nat → Option Nat} {xi : Nat → Nat → Nat → Int32} {xn : Nat → Nat → Nat → Nat} {K : Nat → Nat} {I : Nat → Nat → Int32} {J : Nat → Nat → Int64} {F : Nat → Nat → UInt32} {D : Nat → Nat → UInt64} {R : Nat → Nat → Option Nat} {nx sl : Nat} {Km : Nat → Nat} {Im : Nat → Nat → Int32} {Jm : Nat → Nat → Int64} {Fm : Nat → Nat → UInt32} {Dm : Nat → Nat → UInt64} {Rm : Nat → Nat → Option Nat} {nxm slm : Nat} (hC : RC ci cn co xj xd xf xo xi xn I J F D R nx sl) (hM : RM ci cn co xj xd xf xo xi xn Im Jm Dm) {t a : Nat} {c : Nat} {go : Int32} (ht : t < 3) (ha : a < 8) (hc : c < 8) (x1 : Im 6 39 = nI t) (x2 : Im 6 40 = nI a) (x3 : Im 6 41 = nI 1) (x4 : Im 6 42 = nI c) (x5 : Im 6 43 = nI 0) (x6 : Im 6 44 = go) : Ct Y_NA_perform [vr 3 54, vr 8 (32 + 7 * t), vi (nI 4), vi (nI a), vi (nI 1), vi (nI c)] (K, I, J, F, D, R, nx, sl) (fun r μ1 => Ct Y_MM_reckons [vr 11 6, vi (nI 4)] (Km, Im, Jm, Fm, Dm, Rm, nxm, slm) (fun r2 μ2 => r2 = none ∧ QA ci cn co go r μ1 μ2)) := by
  refine ct_of h_NA_perform rfl rfl rfl ?_
  refine ev_gN [] [some 4] rfl ?_
  refine ev_inS 4 k_NA_39 h_NA_joinInts rfl rfl rfl rfl ⟨by decide, by decide⟩ rfl ?_
  refine ev_g0 rfl ?_
  refine ev_inV 1 k_NA_68 h_SD_n rfl rfl rfl rfl rfl ⟨by decide, by decide⟩ rfl ?_
  refine ev_gN [] [] rfl ?_
  refine ev_retl rfl ?_
  refine ev_g0 rfl ?_
  refine ev_inV 1 k_NA_68 h_SD_n rfl rfl rfl rfl rfl ⟨by decide, by decide⟩ rfl ?_
  refine ev_gN [] [] rfl ?_
  refine ev_retl rfl ?_
  refine ev_g0 rfl ?_
  refine ev_inS 1 k_NA_72 h_NA_isDivision rfl rfl rfl rfl ⟨by decide, by decide⟩ rfl ?_
  refine ev_gN [false, true] [] rfl ?_
  refine ev_retz rfl (by first | decide | exact zb_01 _) ?_
  refine ev_gN [true] [] rfl ?_
  refine ev_inS 3 k_NA_86 h_NA_joinedInts rfl rfl rfl rfl ⟨by decide, by decide⟩ rfl ?_
  refine ev_gN [] [some 1] rfl ?_
  refine ev_reti rfl ?_
  refine ev_g0 rfl ?_
  refine ev_inV 2 k_NA_15 h_SD_setN rfl rfl rfl rfl rfl ⟨by decide, by decide⟩ rfl ?_
  refine ev_gN [] [] rfl ?_
  refine ev_ret rfl ?_
  refine ev_g0 rfl ?_
  refine ev_reti rfl ?_
  refine ev_g0 rfl ?_
  refine ev_reti rfl ?_
  refine ct_of h_MM_reckons rfl rfl rfl ?_
  refine ev_gN [] [some 4] rfl ?_
  refine ev_inV 1 k_MM_277 h_MM_number rfl rfl rfl rfl rfl ⟨by decide, by decide⟩ rfl ?_
  refine ev_gN [] [] rfl ?_
  refine ev_retl rfl ?_
  refine ev_g0 rfl ?_
  refine ev_bN rfl rfl (fun h_1 => ?_) (fun h_1 => ?_)
  · skip
    refine ev_g0 rfl ?_
    refine ev_inV 1 k_MM_277 h_MM_number rfl rfl rfl rfl rfl ⟨by decide, by decide⟩ rfl ?_
    refine ev_gN [] [] rfl ?_
    refine ev_retl rfl ?_
    refine ev_g0 rfl ?_
    refine ev_inV 1 k_MM_277 h_MM_number rfl rfl rfl rfl rfl ⟨by decide, by decide⟩ rfl ?_
    refine ev_gN [] [] rfl ?_
    refine ev_retl rfl ?_
    refine ev_g0 rfl ?_
    refine ev_inV 3 k_MM_309 h_MM_ints rfl rfl rfl rfl rfl ⟨by decide, by decide⟩ rfl ?_
    refine ev_gN [] [some 1] rfl ?_
    refine ev_reti rfl ?_
    refine ev_g0 rfl ?_
    refine ev_inV 2 k_MM_288 h_MM_lay rfl rfl rfl rfl rfl ⟨by decide, by decide⟩ rfl ?_
    refine ev_gN [] [] rfl ?_
    refine ev_ret rfl ?_
    refine ev_g0 rfl ?_
    refine ev_ret rfl ?_
    exact ⟨rfl, (u3 xj 0 t a (((xj 0 t a).toInt32 - (xj 0 t c).toInt32).toInt64)), xd, xf, xo, xi, xn, nI 0, rfl, bdd, lf_N, lf_N, (CU_num hC ht ha lf_N lf_N), (MU_num hM ht ha lf_N lf_N (fun i hi => (rc_isor hC hi).2.2.1))⟩
  · skip
    refine ev_gN [false, true] [] rfl ?_
    refine ev_inV 1 k_MM_277 h_MM_number rfl rfl rfl rfl rfl ⟨by decide, by decide⟩ rfl ?_
    refine ev_gN [] [] rfl ?_
    refine ev_retl rfl ?_
    refine ev_g0 rfl ?_
    refine ev_inV 1 k_MM_277 h_MM_number rfl rfl rfl rfl rfl ⟨by decide, by decide⟩ rfl ?_
    refine ev_gN [] [] rfl ?_
    refine ev_retl rfl ?_
    refine ev_g0 rfl ?_
    refine ev_inV 3 k_MM_309 h_MM_ints rfl rfl rfl rfl rfl ⟨by decide, by decide⟩ rfl ?_
    refine ev_gN [] [some 1] rfl ?_
    refine ev_reti rfl ?_
    refine ev_g0 rfl ?_
    refine ev_inV 2 k_MM_288 h_MM_lay rfl rfl rfl rfl rfl ⟨by decide, by decide⟩ rfl ?_
    refine ev_gN [] [] rfl ?_
    refine ev_ret rfl ?_
    refine ev_g0 rfl ?_
    refine ev_ret rfl ?_
    exact ⟨rfl, (u3 xj 0 t a (((xj 0 t a).toInt32 - (xj 0 t c).toInt32).toInt64)), xd, xf, xo, xi, xn, nI 0, rfl, bdd, lf_N, lf_N, (CU_num hC ht ha lf_N lf_N), (MU_num hM ht ha lf_N lf_N (fun i hi => (rc_isor hC hi).2.2.1))⟩
theorem A4_2 {ci : Nat → Nat → Nat → Int32} {cn : Nat → Nat → Nat → Nat} {co : Nat → Option Nat} {xj : Nat → Nat → Nat → Int64} {xd : Nat → Nat → Nat → UInt64} {xf : Nat → Nat → Nat → UInt32} {xo : Nat → Nat → Nat → Option Nat} {xi : Nat → Nat → Nat → Int32} {xn : Nat → Nat → Nat → Nat} {K : Nat → Nat} {I : Nat → Nat → Int32} {J : Nat → Nat → Int64} {F : Nat → Nat → UInt32} {D : Nat → Nat → UInt64} {R : Nat → Nat → Option Nat} {nx sl : Nat} {Km : Nat → Nat} {Im : Nat → Nat → Int32} {Jm : Nat → Nat → Int64} {Fm : Nat → Nat → UInt32} {Dm : Nat → Nat → UInt64} {Rm : Nat → Nat → Option Nat} {nxm slm : Nat} (hC : RC ci cn co xj xd xf xo xi xn I J F D R nx sl) (hM : RM ci cn co xj xd xf xo xi xn Im Jm Dm) {t a : Nat} {c : Nat} {go : Int32} (ht : t < 3) (ha : a < 8) (hc : c < 8) (x1 : Im 6 39 = nI t) (x2 : Im 6 40 = nI a) (x3 : Im 6 41 = nI 2) (x4 : Im 6 42 = nI c) (x5 : Im 6 43 = nI 0) (x6 : Im 6 44 = go) : Ct Y_NA_perform [vr 3 54, vr 8 (32 + 7 * t), vi (nI 4), vi (nI a), vi (nI 2), vi (nI c)] (K, I, J, F, D, R, nx, sl) (fun r μ1 => Ct Y_MM_reckons [vr 11 6, vi (nI 4)] (Km, Im, Jm, Fm, Dm, Rm, nxm, slm) (fun r2 μ2 => r2 = none ∧ QA ci cn co go r μ1 μ2)) := by
  refine ct_of h_NA_perform rfl rfl rfl ?_
  refine ev_gN [] [some 4] rfl ?_
  refine ev_inS 4 k_NA_39 h_NA_joinInts rfl rfl rfl rfl ⟨by decide, by decide⟩ rfl ?_
  refine ev_g0 rfl ?_
  refine ev_inV 1 k_NA_68 h_SD_n rfl rfl rfl rfl rfl ⟨by decide, by decide⟩ rfl ?_
  refine ev_gN [] [] rfl ?_
  refine ev_retl rfl ?_
  refine ev_g0 rfl ?_
  refine ev_inV 1 k_NA_68 h_SD_n rfl rfl rfl rfl rfl ⟨by decide, by decide⟩ rfl ?_
  refine ev_gN [] [] rfl ?_
  refine ev_retl rfl ?_
  refine ev_g0 rfl ?_
  refine ev_inS 1 k_NA_72 h_NA_isDivision rfl rfl rfl rfl ⟨by decide, by decide⟩ rfl ?_
  refine ev_gN [false, true] [] rfl ?_
  refine ev_retz rfl (by first | decide | exact zb_01 _) ?_
  refine ev_gN [true] [] rfl ?_
  refine ev_inS 3 k_NA_86 h_NA_joinedInts rfl rfl rfl rfl ⟨by decide, by decide⟩ rfl ?_
  refine ev_gN [] [some 2] rfl ?_
  refine ev_reti rfl ?_
  refine ev_g0 rfl ?_
  refine ev_inV 2 k_NA_15 h_SD_setN rfl rfl rfl rfl rfl ⟨by decide, by decide⟩ rfl ?_
  refine ev_gN [] [] rfl ?_
  refine ev_ret rfl ?_
  refine ev_g0 rfl ?_
  refine ev_reti rfl ?_
  refine ev_g0 rfl ?_
  refine ev_reti rfl ?_
  refine ct_of h_MM_reckons rfl rfl rfl ?_
  refine ev_gN [] [some 4] rfl ?_
  refine ev_inV 1 k_MM_277 h_MM_number rfl rfl rfl rfl rfl ⟨by decide, by decide⟩ rfl ?_
  refine ev_gN [] [] rfl ?_
  refine ev_retl rfl ?_
  refine ev_g0 rfl ?_
  refine ev_bN rfl rfl (fun h_1 => ?_) (fun h_1 => ?_)
  · skip
    refine ev_g0 rfl ?_
    refine ev_inV 1 k_MM_277 h_MM_number rfl rfl rfl rfl rfl ⟨by decide, by decide⟩ rfl ?_
    refine ev_gN [] [] rfl ?_
    refine ev_retl rfl ?_
    refine ev_g0 rfl ?_
    refine ev_inV 1 k_MM_277 h_MM_number rfl rfl rfl rfl rfl ⟨by decide, by decide⟩ rfl ?_
    refine ev_gN [] [] rfl ?_
    refine ev_retl rfl ?_
    refine ev_g0 rfl ?_
    refine ev_inV 3 k_MM_309 h_MM_ints rfl rfl rfl rfl rfl ⟨by decide, by decide⟩ rfl ?_
    refine ev_gN [] [some 2] rfl ?_
    refine ev_reti rfl ?_
    refine ev_g0 rfl ?_
    refine ev_inV 2 k_MM_288 h_MM_lay rfl rfl rfl rfl rfl ⟨by decide, by decide⟩ rfl ?_
    refine ev_gN [] [] rfl ?_
    refine ev_ret rfl ?_
    refine ev_g0 rfl ?_
    refine ev_ret rfl ?_
    exact ⟨rfl, (u3 xj 0 t a (((xj 0 t a).toInt32 * (xj 0 t c).toInt32).toInt64)), xd, xf, xo, xi, xn, nI 0, rfl, bdd, lf_N, lf_N, (CU_num hC ht ha lf_N lf_N), (MU_num hM ht ha lf_N lf_N (fun i hi => (rc_isor hC hi).2.2.1))⟩
  · skip
    refine ev_gN [false, true] [] rfl ?_
    refine ev_inV 1 k_MM_277 h_MM_number rfl rfl rfl rfl rfl ⟨by decide, by decide⟩ rfl ?_
    refine ev_gN [] [] rfl ?_
    refine ev_retl rfl ?_
    refine ev_g0 rfl ?_
    refine ev_inV 1 k_MM_277 h_MM_number rfl rfl rfl rfl rfl ⟨by decide, by decide⟩ rfl ?_
    refine ev_gN [] [] rfl ?_
    refine ev_retl rfl ?_
    refine ev_g0 rfl ?_
    refine ev_inV 3 k_MM_309 h_MM_ints rfl rfl rfl rfl rfl ⟨by decide, by decide⟩ rfl ?_
    refine ev_gN [] [some 2] rfl ?_
    refine ev_reti rfl ?_
    refine ev_g0 rfl ?_
    refine ev_inV 2 k_MM_288 h_MM_lay rfl rfl rfl rfl rfl ⟨by decide, by decide⟩ rfl ?_
    refine ev_gN [] [] rfl ?_
    refine ev_ret rfl ?_
    refine ev_g0 rfl ?_
    refine ev_ret rfl ?_
    exact ⟨rfl, (u3 xj 0 t a (((xj 0 t a).toInt32 * (xj 0 t c).toInt32).toInt64)), xd, xf, xo, xi, xn, nI 0, rfl, bdd, lf_N, lf_N, (CU_num hC ht ha lf_N lf_N), (MU_num hM ht ha lf_N lf_N (fun i hi => (rc_isor hC hi).2.2.1))⟩
theorem A4_3 {ci : Nat → Nat → Nat → Int32} {cn : Nat → Nat → Nat → Nat} {co : Nat → Option Nat} {xj : Nat → Nat → Nat → Int64} {xd : Nat → Nat → Nat → UInt64} {xf : Nat → Nat → Nat → UInt32} {xo : Nat → Nat → Nat → Option Nat} {xi : Nat → Nat → Nat → Int32} {xn : Nat → Nat → Nat → Nat} {K : Nat → Nat} {I : Nat → Nat → Int32} {J : Nat → Nat → Int64} {F : Nat → Nat → UInt32} {D : Nat → Nat → UInt64} {R : Nat → Nat → Option Nat} {nx sl : Nat} {Km : Nat → Nat} {Im : Nat → Nat → Int32} {Jm : Nat → Nat → Int64} {Fm : Nat → Nat → UInt32} {Dm : Nat → Nat → UInt64} {Rm : Nat → Nat → Option Nat} {nxm slm : Nat} (hC : RC ci cn co xj xd xf xo xi xn I J F D R nx sl) (hM : RM ci cn co xj xd xf xo xi xn Im Jm Dm) {t a : Nat} {c : Nat} {go : Int32} (ht : t < 3) (ha : a < 8) (hc : c < 8) (x1 : Im 6 39 = nI t) (x2 : Im 6 40 = nI a) (x3 : Im 6 41 = nI 3) (x4 : Im 6 42 = nI c) (x5 : Im 6 43 = nI 0) (x6 : Im 6 44 = go) : Ct Y_NA_perform [vr 3 54, vr 8 (32 + 7 * t), vi (nI 4), vi (nI a), vi (nI 3), vi (nI c)] (K, I, J, F, D, R, nx, sl) (fun r μ1 => Ct Y_MM_reckons [vr 11 6, vi (nI 4)] (Km, Im, Jm, Fm, Dm, Rm, nxm, slm) (fun r2 μ2 => r2 = none ∧ QA ci cn co go r μ1 μ2)) := by
  refine ct_of h_NA_perform rfl rfl rfl ?_
  refine ev_gN [] [some 4] rfl ?_
  refine ev_inS 4 k_NA_39 h_NA_joinInts rfl rfl rfl rfl ⟨by decide, by decide⟩ rfl ?_
  refine ev_g0 rfl ?_
  refine ev_inV 1 k_NA_68 h_SD_n rfl rfl rfl rfl rfl ⟨by decide, by decide⟩ rfl ?_
  refine ev_gN [] [] rfl ?_
  refine ev_retl rfl ?_
  refine ev_g0 rfl ?_
  refine ev_inV 1 k_NA_68 h_SD_n rfl rfl rfl rfl rfl ⟨by decide, by decide⟩ rfl ?_
  refine ev_gN [] [] rfl ?_
  refine ev_retl rfl ?_
  refine ev_g0 rfl ?_
  refine ev_inS 1 k_NA_72 h_NA_isDivision rfl rfl rfl rfl ⟨by decide, by decide⟩ rfl ?_
  refine ev_gN [true] [] rfl ?_
  refine ev_retz rfl (by first | decide | exact zb_01 _) ?_
  refine ev_gN [false] [] rfl ?_
  refine ev_bN rfl rfl (fun h_1 => ?_) (fun h_1 => ?_)
  · skip
    refine ev_gN [false] [] rfl ?_
    refine ev_inV 2 k_NA_15 h_SD_setN rfl rfl rfl rfl rfl ⟨by decide, by decide⟩ rfl ?_
    refine ev_gN [] [] rfl ?_
    refine ev_ret rfl ?_
    refine ev_g0 rfl ?_
    refine ev_reti rfl ?_
    refine ev_g0 rfl ?_
    refine ev_reti rfl ?_
    refine ct_of h_MM_reckons rfl rfl rfl ?_
    refine ev_gN [] [some 4] rfl ?_
    refine ev_inV 1 k_MM_277 h_MM_number rfl rfl rfl rfl rfl ⟨by decide, by decide⟩ rfl ?_
    refine ev_gN [] [] rfl ?_
    refine ev_retl rfl ?_
    refine ev_gN [true] [] rfl ?_
    refine ev_inV 1 k_MM_277 h_MM_number rfl rfl rfl rfl rfl ⟨by decide, by decide⟩ rfl ?_
    refine ev_gN [] [] rfl ?_
    refine ev_retl rfl ?_
    refine ev_g0 rfl ?_
    refine ev_inV 1 k_MM_277 h_MM_number rfl rfl rfl rfl rfl ⟨by decide, by decide⟩ rfl ?_
    refine ev_gN [] [] rfl ?_
    refine ev_retl rfl ?_
    refine ev_g0 rfl ?_
    refine ev_inV 3 k_MM_309 h_MM_ints rfl rfl rfl rfl rfl ⟨by decide, by decide⟩ rfl ?_
    refine ev_gN [] [some 3] rfl ?_
    refine ev_reti rfl ?_
    refine ev_g0 rfl ?_
    refine ev_inV 2 k_MM_288 h_MM_lay rfl rfl rfl rfl rfl ⟨by decide, by decide⟩ rfl ?_
    refine ev_gN [] [] rfl ?_
    refine ev_ret rfl ?_
    refine ev_g0 rfl ?_
    refine ev_ret rfl ?_
    exact ⟨rfl, (u3 xj 0 t a (((xj 0 t a).toInt32 / (xj 0 t c).toInt32).toInt64)), xd, xf, xo, xi, xn, nI 0, rfl, bdd, lf_N, lf_N, (CU_num hC ht ha lf_N lf_N), (MU_num hM ht ha lf_N lf_N (fun i hi => (rc_isor hC hi).2.2.1))⟩
  · skip
    refine ev_g0 rfl ?_
    refine ev_reti rfl ?_
    refine ev_g0 rfl ?_
    refine ev_reti rfl ?_
    refine ct_of h_MM_reckons rfl rfl rfl ?_
    refine ev_gN [] [some 4] rfl ?_
    refine ev_inV 1 k_MM_277 h_MM_number rfl rfl rfl rfl rfl ⟨by decide, by decide⟩ rfl ?_
    refine ev_gN [] [] rfl ?_
    refine ev_retl rfl ?_
    refine ev_gN [false, true] [] rfl ?_
    refine ev_inV 1 k_MM_301 h_MM_fails rfl rfl rfl rfl rfl ⟨by decide, by decide⟩ rfl ?_
    refine ev_g0 rfl ?_
    refine ev_ret rfl ?_
    refine ev_g0 rfl ?_
    refine ev_ret rfl ?_
    exact ⟨rfl, xj, xd, xf, xo, xi, xn, nI 6, rfl, bdd, lf_N, lf_N, hC, hM⟩
theorem A4_4 {ci : Nat → Nat → Nat → Int32} {cn : Nat → Nat → Nat → Nat} {co : Nat → Option Nat} {xj : Nat → Nat → Nat → Int64} {xd : Nat → Nat → Nat → UInt64} {xf : Nat → Nat → Nat → UInt32} {xo : Nat → Nat → Nat → Option Nat} {xi : Nat → Nat → Nat → Int32} {xn : Nat → Nat → Nat → Nat} {K : Nat → Nat} {I : Nat → Nat → Int32} {J : Nat → Nat → Int64} {F : Nat → Nat → UInt32} {D : Nat → Nat → UInt64} {R : Nat → Nat → Option Nat} {nx sl : Nat} {Km : Nat → Nat} {Im : Nat → Nat → Int32} {Jm : Nat → Nat → Int64} {Fm : Nat → Nat → UInt32} {Dm : Nat → Nat → UInt64} {Rm : Nat → Nat → Option Nat} {nxm slm : Nat} (hC : RC ci cn co xj xd xf xo xi xn I J F D R nx sl) (hM : RM ci cn co xj xd xf xo xi xn Im Jm Dm) {t a : Nat} {c : Nat} {go : Int32} (ht : t < 3) (ha : a < 8) (hc : c < 8) (x1 : Im 6 39 = nI t) (x2 : Im 6 40 = nI a) (x3 : Im 6 41 = nI 4) (x4 : Im 6 42 = nI c) (x5 : Im 6 43 = nI 0) (x6 : Im 6 44 = go) : Ct Y_NA_perform [vr 3 54, vr 8 (32 + 7 * t), vi (nI 4), vi (nI a), vi (nI 4), vi (nI c)] (K, I, J, F, D, R, nx, sl) (fun r μ1 => Ct Y_MM_reckons [vr 11 6, vi (nI 4)] (Km, Im, Jm, Fm, Dm, Rm, nxm, slm) (fun r2 μ2 => r2 = none ∧ QA ci cn co go r μ1 μ2)) := by
  refine ct_of h_NA_perform rfl rfl rfl ?_
  refine ev_gN [] [some 4] rfl ?_
  refine ev_inS 4 k_NA_39 h_NA_joinInts rfl rfl rfl rfl ⟨by decide, by decide⟩ rfl ?_
  refine ev_g0 rfl ?_
  refine ev_inV 1 k_NA_68 h_SD_n rfl rfl rfl rfl rfl ⟨by decide, by decide⟩ rfl ?_
  refine ev_gN [] [] rfl ?_
  refine ev_retl rfl ?_
  refine ev_g0 rfl ?_
  refine ev_inV 1 k_NA_68 h_SD_n rfl rfl rfl rfl rfl ⟨by decide, by decide⟩ rfl ?_
  refine ev_gN [] [] rfl ?_
  refine ev_retl rfl ?_
  refine ev_g0 rfl ?_
  refine ev_inS 1 k_NA_72 h_NA_isDivision rfl rfl rfl rfl ⟨by decide, by decide⟩ rfl ?_
  refine ev_gN [false, false] [] rfl ?_
  refine ev_retz rfl (by first | decide | exact zb_01 _) ?_
  refine ev_gN [false] [] rfl ?_
  refine ev_bN rfl rfl (fun h_1 => ?_) (fun h_1 => ?_)
  · skip
    refine ev_gN [true] [] rfl ?_
    refine ev_inV 2 k_NA_15 h_SD_setN rfl rfl rfl rfl rfl ⟨by decide, by decide⟩ rfl ?_
    refine ev_gN [] [] rfl ?_
    refine ev_ret rfl ?_
    refine ev_g0 rfl ?_
    refine ev_reti rfl ?_
    refine ev_g0 rfl ?_
    refine ev_reti rfl ?_
    refine ct_of h_MM_reckons rfl rfl rfl ?_
    refine ev_gN [] [some 4] rfl ?_
    refine ev_inV 1 k_MM_277 h_MM_number rfl rfl rfl rfl rfl ⟨by decide, by decide⟩ rfl ?_
    refine ev_gN [] [] rfl ?_
    refine ev_retl rfl ?_
    refine ev_gN [true] [] rfl ?_
    refine ev_inV 1 k_MM_277 h_MM_number rfl rfl rfl rfl rfl ⟨by decide, by decide⟩ rfl ?_
    refine ev_gN [] [] rfl ?_
    refine ev_retl rfl ?_
    refine ev_g0 rfl ?_
    refine ev_inV 1 k_MM_277 h_MM_number rfl rfl rfl rfl rfl ⟨by decide, by decide⟩ rfl ?_
    refine ev_gN [] [] rfl ?_
    refine ev_retl rfl ?_
    refine ev_g0 rfl ?_
    refine ev_inV 3 k_MM_309 h_MM_ints rfl rfl rfl rfl rfl ⟨by decide, by decide⟩ rfl ?_
    refine ev_gN [] [some 4] rfl ?_
    refine ev_reti rfl ?_
    refine ev_g0 rfl ?_
    refine ev_inV 2 k_MM_288 h_MM_lay rfl rfl rfl rfl rfl ⟨by decide, by decide⟩ rfl ?_
    refine ev_gN [] [] rfl ?_
    refine ev_ret rfl ?_
    refine ev_g0 rfl ?_
    refine ev_ret rfl ?_
    exact ⟨rfl, (u3 xj 0 t a (((xj 0 t a).toInt32 - (xj 0 t a).toInt32 / (xj 0 t c).toInt32 * (xj 0 t c).toInt32).toInt64)), xd, xf, xo, xi, xn, nI 0, rfl, bdd, lf_N, lf_N, (CU_num hC ht ha lf_N lf_N), (MU_num hM ht ha lf_N lf_N (fun i hi => (rc_isor hC hi).2.2.1))⟩
  · skip
    refine ev_g0 rfl ?_
    refine ev_reti rfl ?_
    refine ev_g0 rfl ?_
    refine ev_reti rfl ?_
    refine ct_of h_MM_reckons rfl rfl rfl ?_
    refine ev_gN [] [some 4] rfl ?_
    refine ev_inV 1 k_MM_277 h_MM_number rfl rfl rfl rfl rfl ⟨by decide, by decide⟩ rfl ?_
    refine ev_gN [] [] rfl ?_
    refine ev_retl rfl ?_
    refine ev_gN [false, false, false] [] rfl ?_
    refine ev_inV 1 k_MM_301 h_MM_fails rfl rfl rfl rfl rfl ⟨by decide, by decide⟩ rfl ?_
    refine ev_g0 rfl ?_
    refine ev_ret rfl ?_
    refine ev_g0 rfl ?_
    refine ev_ret rfl ?_
    exact ⟨rfl, xj, xd, xf, xo, xi, xn, nI 6, rfl, bdd, lf_N, lf_N, hC, hM⟩
theorem A4_5 {ci : Nat → Nat → Nat → Int32} {cn : Nat → Nat → Nat → Nat} {co : Nat → Option Nat} {xj : Nat → Nat → Nat → Int64} {xd : Nat → Nat → Nat → UInt64} {xf : Nat → Nat → Nat → UInt32} {xo : Nat → Nat → Nat → Option Nat} {xi : Nat → Nat → Nat → Int32} {xn : Nat → Nat → Nat → Nat} {K : Nat → Nat} {I : Nat → Nat → Int32} {J : Nat → Nat → Int64} {F : Nat → Nat → UInt32} {D : Nat → Nat → UInt64} {R : Nat → Nat → Option Nat} {nx sl : Nat} {Km : Nat → Nat} {Im : Nat → Nat → Int32} {Jm : Nat → Nat → Int64} {Fm : Nat → Nat → UInt32} {Dm : Nat → Nat → UInt64} {Rm : Nat → Nat → Option Nat} {nxm slm : Nat} (hC : RC ci cn co xj xd xf xo xi xn I J F D R nx sl) (hM : RM ci cn co xj xd xf xo xi xn Im Jm Dm) {t a : Nat} {c : Nat} {go : Int32} (ht : t < 3) (ha : a < 8) (hc : c < 8) (x1 : Im 6 39 = nI t) (x2 : Im 6 40 = nI a) (x3 : Im 6 41 = nI 5) (x4 : Im 6 42 = nI c) (x5 : Im 6 43 = nI 0) (x6 : Im 6 44 = go) : Ct Y_NA_perform [vr 3 54, vr 8 (32 + 7 * t), vi (nI 4), vi (nI a), vi (nI 5), vi (nI c)] (K, I, J, F, D, R, nx, sl) (fun r μ1 => Ct Y_MM_reckons [vr 11 6, vi (nI 4)] (Km, Im, Jm, Fm, Dm, Rm, nxm, slm) (fun r2 μ2 => r2 = none ∧ QA ci cn co go r μ1 μ2)) := by
  refine ct_of h_NA_perform rfl rfl rfl ?_
  refine ev_gN [] [some 4] rfl ?_
  refine ev_inS 4 k_NA_39 h_NA_joinInts rfl rfl rfl rfl ⟨by decide, by decide⟩ rfl ?_
  refine ev_g0 rfl ?_
  refine ev_inV 1 k_NA_68 h_SD_n rfl rfl rfl rfl rfl ⟨by decide, by decide⟩ rfl ?_
  refine ev_gN [] [] rfl ?_
  refine ev_retl rfl ?_
  refine ev_g0 rfl ?_
  refine ev_inV 1 k_NA_68 h_SD_n rfl rfl rfl rfl rfl ⟨by decide, by decide⟩ rfl ?_
  refine ev_gN [] [] rfl ?_
  refine ev_retl rfl ?_
  refine ev_g0 rfl ?_
  refine ev_inS 1 k_NA_72 h_NA_isDivision rfl rfl rfl rfl ⟨by decide, by decide⟩ rfl ?_
  refine ev_gN [false, true] [] rfl ?_
  refine ev_retz rfl (by first | decide | exact zb_01 _) ?_
  refine ev_gN [true] [] rfl ?_
  refine ev_inS 3 k_NA_86 h_NA_joinedInts rfl rfl rfl rfl ⟨by decide, by decide⟩ rfl ?_
  refine ev_gN [] [some 5] rfl ?_
  refine ev_reti rfl ?_
  refine ev_g0 rfl ?_
  refine ev_inV 2 k_NA_15 h_SD_setN rfl rfl rfl rfl rfl ⟨by decide, by decide⟩ rfl ?_
  refine ev_gN [] [] rfl ?_
  refine ev_ret rfl ?_
  refine ev_g0 rfl ?_
  refine ev_reti rfl ?_
  refine ev_g0 rfl ?_
  refine ev_reti rfl ?_
  refine ct_of h_MM_reckons rfl rfl rfl ?_
  refine ev_gN [] [some 4] rfl ?_
  refine ev_inV 1 k_MM_277 h_MM_number rfl rfl rfl rfl rfl ⟨by decide, by decide⟩ rfl ?_
  refine ev_gN [] [] rfl ?_
  refine ev_retl rfl ?_
  refine ev_g0 rfl ?_
  refine ev_bN rfl rfl (fun h_1 => ?_) (fun h_1 => ?_)
  · skip
    refine ev_g0 rfl ?_
    refine ev_inV 1 k_MM_277 h_MM_number rfl rfl rfl rfl rfl ⟨by decide, by decide⟩ rfl ?_
    refine ev_gN [] [] rfl ?_
    refine ev_retl rfl ?_
    refine ev_g0 rfl ?_
    refine ev_inV 1 k_MM_277 h_MM_number rfl rfl rfl rfl rfl ⟨by decide, by decide⟩ rfl ?_
    refine ev_gN [] [] rfl ?_
    refine ev_retl rfl ?_
    refine ev_g0 rfl ?_
    refine ev_inV 3 k_MM_309 h_MM_ints rfl rfl rfl rfl rfl ⟨by decide, by decide⟩ rfl ?_
    refine ev_gN [] [some 5] rfl ?_
    refine ev_reti rfl ?_
    refine ev_g0 rfl ?_
    refine ev_inV 2 k_MM_288 h_MM_lay rfl rfl rfl rfl rfl ⟨by decide, by decide⟩ rfl ?_
    refine ev_gN [] [] rfl ?_
    refine ev_ret rfl ?_
    refine ev_g0 rfl ?_
    refine ev_ret rfl ?_
    exact ⟨rfl, (u3 xj 0 t a (((xj 0 t a).toInt32 <<< ((xj 0 t c).toInt32 &&& 31)).toInt64)), xd, xf, xo, xi, xn, nI 0, rfl, bdd, lf_N, lf_N, (CU_num hC ht ha lf_N lf_N), (MU_num hM ht ha lf_N lf_N (fun i hi => (rc_isor hC hi).2.2.1))⟩
  · skip
    refine ev_gN [false, true] [] rfl ?_
    refine ev_inV 1 k_MM_277 h_MM_number rfl rfl rfl rfl rfl ⟨by decide, by decide⟩ rfl ?_
    refine ev_gN [] [] rfl ?_
    refine ev_retl rfl ?_
    refine ev_g0 rfl ?_
    refine ev_inV 1 k_MM_277 h_MM_number rfl rfl rfl rfl rfl ⟨by decide, by decide⟩ rfl ?_
    refine ev_gN [] [] rfl ?_
    refine ev_retl rfl ?_
    refine ev_g0 rfl ?_
    refine ev_inV 3 k_MM_309 h_MM_ints rfl rfl rfl rfl rfl ⟨by decide, by decide⟩ rfl ?_
    refine ev_gN [] [some 5] rfl ?_
    refine ev_reti rfl ?_
    refine ev_g0 rfl ?_
    refine ev_inV 2 k_MM_288 h_MM_lay rfl rfl rfl rfl rfl ⟨by decide, by decide⟩ rfl ?_
    refine ev_gN [] [] rfl ?_
    refine ev_ret rfl ?_
    refine ev_g0 rfl ?_
    refine ev_ret rfl ?_
    exact ⟨rfl, (u3 xj 0 t a (((xj 0 t a).toInt32 <<< ((xj 0 t c).toInt32 &&& 31)).toInt64)), xd, xf, xo, xi, xn, nI 0, rfl, bdd, lf_N, lf_N, (CU_num hC ht ha lf_N lf_N), (MU_num hM ht ha lf_N lf_N (fun i hi => (rc_isor hC hi).2.2.1))⟩
theorem A4_6 {ci : Nat → Nat → Nat → Int32} {cn : Nat → Nat → Nat → Nat} {co : Nat → Option Nat} {xj : Nat → Nat → Nat → Int64} {xd : Nat → Nat → Nat → UInt64} {xf : Nat → Nat → Nat → UInt32} {xo : Nat → Nat → Nat → Option Nat} {xi : Nat → Nat → Nat → Int32} {xn : Nat → Nat → Nat → Nat} {K : Nat → Nat} {I : Nat → Nat → Int32} {J : Nat → Nat → Int64} {F : Nat → Nat → UInt32} {D : Nat → Nat → UInt64} {R : Nat → Nat → Option Nat} {nx sl : Nat} {Km : Nat → Nat} {Im : Nat → Nat → Int32} {Jm : Nat → Nat → Int64} {Fm : Nat → Nat → UInt32} {Dm : Nat → Nat → UInt64} {Rm : Nat → Nat → Option Nat} {nxm slm : Nat} (hC : RC ci cn co xj xd xf xo xi xn I J F D R nx sl) (hM : RM ci cn co xj xd xf xo xi xn Im Jm Dm) {t a : Nat} {c : Nat} {go : Int32} (ht : t < 3) (ha : a < 8) (hc : c < 8) (x1 : Im 6 39 = nI t) (x2 : Im 6 40 = nI a) (x3 : Im 6 41 = nI 6) (x4 : Im 6 42 = nI c) (x5 : Im 6 43 = nI 0) (x6 : Im 6 44 = go) : Ct Y_NA_perform [vr 3 54, vr 8 (32 + 7 * t), vi (nI 4), vi (nI a), vi (nI 6), vi (nI c)] (K, I, J, F, D, R, nx, sl) (fun r μ1 => Ct Y_MM_reckons [vr 11 6, vi (nI 4)] (Km, Im, Jm, Fm, Dm, Rm, nxm, slm) (fun r2 μ2 => r2 = none ∧ QA ci cn co go r μ1 μ2)) := by
  refine ct_of h_NA_perform rfl rfl rfl ?_
  refine ev_gN [] [some 4] rfl ?_
  refine ev_inS 4 k_NA_39 h_NA_joinInts rfl rfl rfl rfl ⟨by decide, by decide⟩ rfl ?_
  refine ev_g0 rfl ?_
  refine ev_inV 1 k_NA_68 h_SD_n rfl rfl rfl rfl rfl ⟨by decide, by decide⟩ rfl ?_
  refine ev_gN [] [] rfl ?_
  refine ev_retl rfl ?_
  refine ev_g0 rfl ?_
  refine ev_inV 1 k_NA_68 h_SD_n rfl rfl rfl rfl rfl ⟨by decide, by decide⟩ rfl ?_
  refine ev_gN [] [] rfl ?_
  refine ev_retl rfl ?_
  refine ev_g0 rfl ?_
  refine ev_inS 1 k_NA_72 h_NA_isDivision rfl rfl rfl rfl ⟨by decide, by decide⟩ rfl ?_
  refine ev_gN [false, true] [] rfl ?_
  refine ev_retz rfl (by first | decide | exact zb_01 _) ?_
  refine ev_gN [true] [] rfl ?_
  refine ev_inS 3 k_NA_86 h_NA_joinedInts rfl rfl rfl rfl ⟨by decide, by decide⟩ rfl ?_
  refine ev_gN [] [some 6] rfl ?_
  refine ev_reti rfl ?_
  refine ev_g0 rfl ?_
  refine ev_inV 2 k_NA_15 h_SD_setN rfl rfl rfl rfl rfl ⟨by decide, by decide⟩ rfl ?_
  refine ev_gN [] [] rfl ?_
  refine ev_ret rfl ?_
  refine ev_g0 rfl ?_
  refine ev_reti rfl ?_
  refine ev_g0 rfl ?_
  refine ev_reti rfl ?_
  refine ct_of h_MM_reckons rfl rfl rfl ?_
  refine ev_gN [] [some 4] rfl ?_
  refine ev_inV 1 k_MM_277 h_MM_number rfl rfl rfl rfl rfl ⟨by decide, by decide⟩ rfl ?_
  refine ev_gN [] [] rfl ?_
  refine ev_retl rfl ?_
  refine ev_g0 rfl ?_
  refine ev_bN rfl rfl (fun h_1 => ?_) (fun h_1 => ?_)
  · skip
    refine ev_g0 rfl ?_
    refine ev_inV 1 k_MM_277 h_MM_number rfl rfl rfl rfl rfl ⟨by decide, by decide⟩ rfl ?_
    refine ev_gN [] [] rfl ?_
    refine ev_retl rfl ?_
    refine ev_g0 rfl ?_
    refine ev_inV 1 k_MM_277 h_MM_number rfl rfl rfl rfl rfl ⟨by decide, by decide⟩ rfl ?_
    refine ev_gN [] [] rfl ?_
    refine ev_retl rfl ?_
    refine ev_g0 rfl ?_
    refine ev_inV 3 k_MM_309 h_MM_ints rfl rfl rfl rfl rfl ⟨by decide, by decide⟩ rfl ?_
    refine ev_gN [] [some 6] rfl ?_
    refine ev_reti rfl ?_
    refine ev_g0 rfl ?_
    refine ev_inV 2 k_MM_288 h_MM_lay rfl rfl rfl rfl rfl ⟨by decide, by decide⟩ rfl ?_
    refine ev_gN [] [] rfl ?_
    refine ev_ret rfl ?_
    refine ev_g0 rfl ?_
    refine ev_ret rfl ?_
    exact ⟨rfl, (u3 xj 0 t a (((xj 0 t a).toInt32 >>> ((xj 0 t c).toInt32 &&& 31)).toInt64)), xd, xf, xo, xi, xn, nI 0, rfl, bdd, lf_N, lf_N, (CU_num hC ht ha lf_N lf_N), (MU_num hM ht ha lf_N lf_N (fun i hi => (rc_isor hC hi).2.2.1))⟩
  · skip
    refine ev_gN [false, true] [] rfl ?_
    refine ev_inV 1 k_MM_277 h_MM_number rfl rfl rfl rfl rfl ⟨by decide, by decide⟩ rfl ?_
    refine ev_gN [] [] rfl ?_
    refine ev_retl rfl ?_
    refine ev_g0 rfl ?_
    refine ev_inV 1 k_MM_277 h_MM_number rfl rfl rfl rfl rfl ⟨by decide, by decide⟩ rfl ?_
    refine ev_gN [] [] rfl ?_
    refine ev_retl rfl ?_
    refine ev_g0 rfl ?_
    refine ev_inV 3 k_MM_309 h_MM_ints rfl rfl rfl rfl rfl ⟨by decide, by decide⟩ rfl ?_
    refine ev_gN [] [some 6] rfl ?_
    refine ev_reti rfl ?_
    refine ev_g0 rfl ?_
    refine ev_inV 2 k_MM_288 h_MM_lay rfl rfl rfl rfl rfl ⟨by decide, by decide⟩ rfl ?_
    refine ev_gN [] [] rfl ?_
    refine ev_ret rfl ?_
    refine ev_g0 rfl ?_
    refine ev_ret rfl ?_
    exact ⟨rfl, (u3 xj 0 t a (((xj 0 t a).toInt32 >>> ((xj 0 t c).toInt32 &&& 31)).toInt64)), xd, xf, xo, xi, xn, nI 0, rfl, bdd, lf_N, lf_N, (CU_num hC ht ha lf_N lf_N), (MU_num hM ht ha lf_N lf_N (fun i hi => (rc_isor hC hi).2.2.1))⟩
theorem A4_7 {ci : Nat → Nat → Nat → Int32} {cn : Nat → Nat → Nat → Nat} {co : Nat → Option Nat} {xj : Nat → Nat → Nat → Int64} {xd : Nat → Nat → Nat → UInt64} {xf : Nat → Nat → Nat → UInt32} {xo : Nat → Nat → Nat → Option Nat} {xi : Nat → Nat → Nat → Int32} {xn : Nat → Nat → Nat → Nat} {K : Nat → Nat} {I : Nat → Nat → Int32} {J : Nat → Nat → Int64} {F : Nat → Nat → UInt32} {D : Nat → Nat → UInt64} {R : Nat → Nat → Option Nat} {nx sl : Nat} {Km : Nat → Nat} {Im : Nat → Nat → Int32} {Jm : Nat → Nat → Int64} {Fm : Nat → Nat → UInt32} {Dm : Nat → Nat → UInt64} {Rm : Nat → Nat → Option Nat} {nxm slm : Nat} (hC : RC ci cn co xj xd xf xo xi xn I J F D R nx sl) (hM : RM ci cn co xj xd xf xo xi xn Im Jm Dm) {t a : Nat} {c : Nat} {go : Int32} (ht : t < 3) (ha : a < 8) (hc : c < 8) (x1 : Im 6 39 = nI t) (x2 : Im 6 40 = nI a) (x3 : Im 6 41 = nI 7) (x4 : Im 6 42 = nI c) (x5 : Im 6 43 = nI 0) (x6 : Im 6 44 = go) : Ct Y_NA_perform [vr 3 54, vr 8 (32 + 7 * t), vi (nI 4), vi (nI a), vi (nI 7), vi (nI c)] (K, I, J, F, D, R, nx, sl) (fun r μ1 => Ct Y_MM_reckons [vr 11 6, vi (nI 4)] (Km, Im, Jm, Fm, Dm, Rm, nxm, slm) (fun r2 μ2 => r2 = none ∧ QA ci cn co go r μ1 μ2)) := by
  refine ct_of h_NA_perform rfl rfl rfl ?_
  refine ev_gN [] [some 4] rfl ?_
  refine ev_inS 4 k_NA_39 h_NA_joinInts rfl rfl rfl rfl ⟨by decide, by decide⟩ rfl ?_
  refine ev_g0 rfl ?_
  refine ev_inV 1 k_NA_68 h_SD_n rfl rfl rfl rfl rfl ⟨by decide, by decide⟩ rfl ?_
  refine ev_gN [] [] rfl ?_
  refine ev_retl rfl ?_
  refine ev_g0 rfl ?_
  refine ev_inV 1 k_NA_68 h_SD_n rfl rfl rfl rfl rfl ⟨by decide, by decide⟩ rfl ?_
  refine ev_gN [] [] rfl ?_
  refine ev_retl rfl ?_
  refine ev_g0 rfl ?_
  refine ev_inS 1 k_NA_72 h_NA_isDivision rfl rfl rfl rfl ⟨by decide, by decide⟩ rfl ?_
  refine ev_gN [false, true] [] rfl ?_
  refine ev_retz rfl (by first | decide | exact zb_01 _) ?_
  refine ev_gN [true] [] rfl ?_
  refine ev_inS 3 k_NA_86 h_NA_joinedInts rfl rfl rfl rfl ⟨by decide, by decide⟩ rfl ?_
  refine ev_gN [] [some 7] rfl ?_
  refine ev_reti rfl ?_
  refine ev_g0 rfl ?_
  refine ev_inV 2 k_NA_15 h_SD_setN rfl rfl rfl rfl rfl ⟨by decide, by decide⟩ rfl ?_
  refine ev_gN [] [] rfl ?_
  refine ev_ret rfl ?_
  refine ev_g0 rfl ?_
  refine ev_reti rfl ?_
  refine ev_g0 rfl ?_
  refine ev_reti rfl ?_
  refine ct_of h_MM_reckons rfl rfl rfl ?_
  refine ev_gN [] [some 4] rfl ?_
  refine ev_inV 1 k_MM_277 h_MM_number rfl rfl rfl rfl rfl ⟨by decide, by decide⟩ rfl ?_
  refine ev_gN [] [] rfl ?_
  refine ev_retl rfl ?_
  refine ev_g0 rfl ?_
  refine ev_bN rfl rfl (fun h_1 => ?_) (fun h_1 => ?_)
  · skip
    refine ev_g0 rfl ?_
    refine ev_inV 1 k_MM_277 h_MM_number rfl rfl rfl rfl rfl ⟨by decide, by decide⟩ rfl ?_
    refine ev_gN [] [] rfl ?_
    refine ev_retl rfl ?_
    refine ev_g0 rfl ?_
    refine ev_inV 1 k_MM_277 h_MM_number rfl rfl rfl rfl rfl ⟨by decide, by decide⟩ rfl ?_
    refine ev_gN [] [] rfl ?_
    refine ev_retl rfl ?_
    refine ev_g0 rfl ?_
    refine ev_inV 3 k_MM_309 h_MM_ints rfl rfl rfl rfl rfl ⟨by decide, by decide⟩ rfl ?_
    refine ev_gN [] [some 7] rfl ?_
    refine ev_reti rfl ?_
    refine ev_g0 rfl ?_
    refine ev_inV 2 k_MM_288 h_MM_lay rfl rfl rfl rfl rfl ⟨by decide, by decide⟩ rfl ?_
    refine ev_gN [] [] rfl ?_
    refine ev_ret rfl ?_
    refine ev_g0 rfl ?_
    refine ev_ret rfl ?_
    exact ⟨rfl, (u3 xj 0 t a (((((xj 0 t a).toInt32).toUInt32 >>> (((xj 0 t c).toInt32).toUInt32 &&& Int32.toUInt32 31)).toInt32).toInt64)), xd, xf, xo, xi, xn, nI 0, rfl, bdd, lf_N, lf_N, (CU_num hC ht ha lf_N lf_N), (MU_num hM ht ha lf_N lf_N (fun i hi => (rc_isor hC hi).2.2.1))⟩
  · skip
    refine ev_gN [false, true] [] rfl ?_
    refine ev_inV 1 k_MM_277 h_MM_number rfl rfl rfl rfl rfl ⟨by decide, by decide⟩ rfl ?_
    refine ev_gN [] [] rfl ?_
    refine ev_retl rfl ?_
    refine ev_g0 rfl ?_
    refine ev_inV 1 k_MM_277 h_MM_number rfl rfl rfl rfl rfl ⟨by decide, by decide⟩ rfl ?_
    refine ev_gN [] [] rfl ?_
    refine ev_retl rfl ?_
    refine ev_g0 rfl ?_
    refine ev_inV 3 k_MM_309 h_MM_ints rfl rfl rfl rfl rfl ⟨by decide, by decide⟩ rfl ?_
    refine ev_gN [] [some 7] rfl ?_
    refine ev_reti rfl ?_
    refine ev_g0 rfl ?_
    refine ev_inV 2 k_MM_288 h_MM_lay rfl rfl rfl rfl rfl ⟨by decide, by decide⟩ rfl ?_
    refine ev_gN [] [] rfl ?_
    refine ev_ret rfl ?_
    refine ev_g0 rfl ?_
    refine ev_ret rfl ?_
    exact ⟨rfl, (u3 xj 0 t a (((((xj 0 t a).toInt32).toUInt32 >>> (((xj 0 t c).toInt32).toUInt32 &&& Int32.toUInt32 31)).toInt32).toInt64)), xd, xf, xo, xi, xn, nI 0, rfl, bdd, lf_N, lf_N, (CU_num hC ht ha lf_N lf_N), (MU_num hM ht ha lf_N lf_N (fun i hi => (rc_isor hC hi).2.2.1))⟩
theorem A4_8 {ci : Nat → Nat → Nat → Int32} {cn : Nat → Nat → Nat → Nat} {co : Nat → Option Nat} {xj : Nat → Nat → Nat → Int64} {xd : Nat → Nat → Nat → UInt64} {xf : Nat → Nat → Nat → UInt32} {xo : Nat → Nat → Nat → Option Nat} {xi : Nat → Nat → Nat → Int32} {xn : Nat → Nat → Nat → Nat} {K : Nat → Nat} {I : Nat → Nat → Int32} {J : Nat → Nat → Int64} {F : Nat → Nat → UInt32} {D : Nat → Nat → UInt64} {R : Nat → Nat → Option Nat} {nx sl : Nat} {Km : Nat → Nat} {Im : Nat → Nat → Int32} {Jm : Nat → Nat → Int64} {Fm : Nat → Nat → UInt32} {Dm : Nat → Nat → UInt64} {Rm : Nat → Nat → Option Nat} {nxm slm : Nat} (hC : RC ci cn co xj xd xf xo xi xn I J F D R nx sl) (hM : RM ci cn co xj xd xf xo xi xn Im Jm Dm) {t a : Nat} {c : Nat} {go : Int32} (ht : t < 3) (ha : a < 8) (hc : c < 8) (x1 : Im 6 39 = nI t) (x2 : Im 6 40 = nI a) (x3 : Im 6 41 = nI 8) (x4 : Im 6 42 = nI c) (x5 : Im 6 43 = nI 0) (x6 : Im 6 44 = go) : Ct Y_NA_perform [vr 3 54, vr 8 (32 + 7 * t), vi (nI 4), vi (nI a), vi (nI 8), vi (nI c)] (K, I, J, F, D, R, nx, sl) (fun r μ1 => Ct Y_MM_reckons [vr 11 6, vi (nI 4)] (Km, Im, Jm, Fm, Dm, Rm, nxm, slm) (fun r2 μ2 => r2 = none ∧ QA ci cn co go r μ1 μ2)) := by
  refine ct_of h_NA_perform rfl rfl rfl ?_
  refine ev_gN [] [some 4] rfl ?_
  refine ev_inS 4 k_NA_39 h_NA_joinInts rfl rfl rfl rfl ⟨by decide, by decide⟩ rfl ?_
  refine ev_g0 rfl ?_
  refine ev_inV 1 k_NA_68 h_SD_n rfl rfl rfl rfl rfl ⟨by decide, by decide⟩ rfl ?_
  refine ev_gN [] [] rfl ?_
  refine ev_retl rfl ?_
  refine ev_g0 rfl ?_
  refine ev_inV 1 k_NA_68 h_SD_n rfl rfl rfl rfl rfl ⟨by decide, by decide⟩ rfl ?_
  refine ev_gN [] [] rfl ?_
  refine ev_retl rfl ?_
  refine ev_g0 rfl ?_
  refine ev_inS 1 k_NA_72 h_NA_isDivision rfl rfl rfl rfl ⟨by decide, by decide⟩ rfl ?_
  refine ev_gN [false, true] [] rfl ?_
  refine ev_retz rfl (by first | decide | exact zb_01 _) ?_
  refine ev_gN [true] [] rfl ?_
  refine ev_inS 3 k_NA_86 h_NA_joinedInts rfl rfl rfl rfl ⟨by decide, by decide⟩ rfl ?_
  refine ev_gN [] [some 8] rfl ?_
  refine ev_reti rfl ?_
  refine ev_g0 rfl ?_
  refine ev_inV 2 k_NA_15 h_SD_setN rfl rfl rfl rfl rfl ⟨by decide, by decide⟩ rfl ?_
  refine ev_gN [] [] rfl ?_
  refine ev_ret rfl ?_
  refine ev_g0 rfl ?_
  refine ev_reti rfl ?_
  refine ev_g0 rfl ?_
  refine ev_reti rfl ?_
  refine ct_of h_MM_reckons rfl rfl rfl ?_
  refine ev_gN [] [some 4] rfl ?_
  refine ev_inV 1 k_MM_277 h_MM_number rfl rfl rfl rfl rfl ⟨by decide, by decide⟩ rfl ?_
  refine ev_gN [] [] rfl ?_
  refine ev_retl rfl ?_
  refine ev_g0 rfl ?_
  refine ev_bN rfl rfl (fun h_1 => ?_) (fun h_1 => ?_)
  · skip
    refine ev_g0 rfl ?_
    refine ev_inV 1 k_MM_277 h_MM_number rfl rfl rfl rfl rfl ⟨by decide, by decide⟩ rfl ?_
    refine ev_gN [] [] rfl ?_
    refine ev_retl rfl ?_
    refine ev_g0 rfl ?_
    refine ev_inV 1 k_MM_277 h_MM_number rfl rfl rfl rfl rfl ⟨by decide, by decide⟩ rfl ?_
    refine ev_gN [] [] rfl ?_
    refine ev_retl rfl ?_
    refine ev_g0 rfl ?_
    refine ev_inV 3 k_MM_309 h_MM_ints rfl rfl rfl rfl rfl ⟨by decide, by decide⟩ rfl ?_
    refine ev_gN [] [some 8] rfl ?_
    refine ev_reti rfl ?_
    refine ev_g0 rfl ?_
    refine ev_inV 2 k_MM_288 h_MM_lay rfl rfl rfl rfl rfl ⟨by decide, by decide⟩ rfl ?_
    refine ev_gN [] [] rfl ?_
    refine ev_ret rfl ?_
    refine ev_g0 rfl ?_
    refine ev_ret rfl ?_
    exact ⟨rfl, (u3 xj 0 t a (((xj 0 t a).toInt32 &&& (xj 0 t c).toInt32).toInt64)), xd, xf, xo, xi, xn, nI 0, rfl, bdd, lf_N, lf_N, (CU_num hC ht ha lf_N lf_N), (MU_num hM ht ha lf_N lf_N (fun i hi => (rc_isor hC hi).2.2.1))⟩
  · skip
    refine ev_gN [false, true] [] rfl ?_
    refine ev_inV 1 k_MM_277 h_MM_number rfl rfl rfl rfl rfl ⟨by decide, by decide⟩ rfl ?_
    refine ev_gN [] [] rfl ?_
    refine ev_retl rfl ?_
    refine ev_g0 rfl ?_
    refine ev_inV 1 k_MM_277 h_MM_number rfl rfl rfl rfl rfl ⟨by decide, by decide⟩ rfl ?_
    refine ev_gN [] [] rfl ?_
    refine ev_retl rfl ?_
    refine ev_g0 rfl ?_
    refine ev_inV 3 k_MM_309 h_MM_ints rfl rfl rfl rfl rfl ⟨by decide, by decide⟩ rfl ?_
    refine ev_gN [] [some 8] rfl ?_
    refine ev_reti rfl ?_
    refine ev_g0 rfl ?_
    refine ev_inV 2 k_MM_288 h_MM_lay rfl rfl rfl rfl rfl ⟨by decide, by decide⟩ rfl ?_
    refine ev_gN [] [] rfl ?_
    refine ev_ret rfl ?_
    refine ev_g0 rfl ?_
    refine ev_ret rfl ?_
    exact ⟨rfl, (u3 xj 0 t a (((xj 0 t a).toInt32 &&& (xj 0 t c).toInt32).toInt64)), xd, xf, xo, xi, xn, nI 0, rfl, bdd, lf_N, lf_N, (CU_num hC ht ha lf_N lf_N), (MU_num hM ht ha lf_N lf_N (fun i hi => (rc_isor hC hi).2.2.1))⟩
theorem A4_9 {ci : Nat → Nat → Nat → Int32} {cn : Nat → Nat → Nat → Nat} {co : Nat → Option Nat} {xj : Nat → Nat → Nat → Int64} {xd : Nat → Nat → Nat → UInt64} {xf : Nat → Nat → Nat → UInt32} {xo : Nat → Nat → Nat → Option Nat} {xi : Nat → Nat → Nat → Int32} {xn : Nat → Nat → Nat → Nat} {K : Nat → Nat} {I : Nat → Nat → Int32} {J : Nat → Nat → Int64} {F : Nat → Nat → UInt32} {D : Nat → Nat → UInt64} {R : Nat → Nat → Option Nat} {nx sl : Nat} {Km : Nat → Nat} {Im : Nat → Nat → Int32} {Jm : Nat → Nat → Int64} {Fm : Nat → Nat → UInt32} {Dm : Nat → Nat → UInt64} {Rm : Nat → Nat → Option Nat} {nxm slm : Nat} (hC : RC ci cn co xj xd xf xo xi xn I J F D R nx sl) (hM : RM ci cn co xj xd xf xo xi xn Im Jm Dm) {t a : Nat} {c : Nat} {go : Int32} (ht : t < 3) (ha : a < 8) (hc : c < 8) (x1 : Im 6 39 = nI t) (x2 : Im 6 40 = nI a) (x3 : Im 6 41 = nI 9) (x4 : Im 6 42 = nI c) (x5 : Im 6 43 = nI 0) (x6 : Im 6 44 = go) : Ct Y_NA_perform [vr 3 54, vr 8 (32 + 7 * t), vi (nI 4), vi (nI a), vi (nI 9), vi (nI c)] (K, I, J, F, D, R, nx, sl) (fun r μ1 => Ct Y_MM_reckons [vr 11 6, vi (nI 4)] (Km, Im, Jm, Fm, Dm, Rm, nxm, slm) (fun r2 μ2 => r2 = none ∧ QA ci cn co go r μ1 μ2)) := by
  refine ct_of h_NA_perform rfl rfl rfl ?_
  refine ev_gN [] [some 4] rfl ?_
  refine ev_inS 4 k_NA_39 h_NA_joinInts rfl rfl rfl rfl ⟨by decide, by decide⟩ rfl ?_
  refine ev_g0 rfl ?_
  refine ev_inV 1 k_NA_68 h_SD_n rfl rfl rfl rfl rfl ⟨by decide, by decide⟩ rfl ?_
  refine ev_gN [] [] rfl ?_
  refine ev_retl rfl ?_
  refine ev_g0 rfl ?_
  refine ev_inV 1 k_NA_68 h_SD_n rfl rfl rfl rfl rfl ⟨by decide, by decide⟩ rfl ?_
  refine ev_gN [] [] rfl ?_
  refine ev_retl rfl ?_
  refine ev_g0 rfl ?_
  refine ev_inS 1 k_NA_72 h_NA_isDivision rfl rfl rfl rfl ⟨by decide, by decide⟩ rfl ?_
  refine ev_gN [false, true] [] rfl ?_
  refine ev_retz rfl (by first | decide | exact zb_01 _) ?_
  refine ev_gN [true] [] rfl ?_
  refine ev_inS 3 k_NA_86 h_NA_joinedInts rfl rfl rfl rfl ⟨by decide, by decide⟩ rfl ?_
  refine ev_gN [] [some 9] rfl ?_
  refine ev_reti rfl ?_
  refine ev_g0 rfl ?_
  refine ev_inV 2 k_NA_15 h_SD_setN rfl rfl rfl rfl rfl ⟨by decide, by decide⟩ rfl ?_
  refine ev_gN [] [] rfl ?_
  refine ev_ret rfl ?_
  refine ev_g0 rfl ?_
  refine ev_reti rfl ?_
  refine ev_g0 rfl ?_
  refine ev_reti rfl ?_
  refine ct_of h_MM_reckons rfl rfl rfl ?_
  refine ev_gN [] [some 4] rfl ?_
  refine ev_inV 1 k_MM_277 h_MM_number rfl rfl rfl rfl rfl ⟨by decide, by decide⟩ rfl ?_
  refine ev_gN [] [] rfl ?_
  refine ev_retl rfl ?_
  refine ev_g0 rfl ?_
  refine ev_bN rfl rfl (fun h_1 => ?_) (fun h_1 => ?_)
  · skip
    refine ev_g0 rfl ?_
    refine ev_inV 1 k_MM_277 h_MM_number rfl rfl rfl rfl rfl ⟨by decide, by decide⟩ rfl ?_
    refine ev_gN [] [] rfl ?_
    refine ev_retl rfl ?_
    refine ev_g0 rfl ?_
    refine ev_inV 1 k_MM_277 h_MM_number rfl rfl rfl rfl rfl ⟨by decide, by decide⟩ rfl ?_
    refine ev_gN [] [] rfl ?_
    refine ev_retl rfl ?_
    refine ev_g0 rfl ?_
    refine ev_inV 3 k_MM_309 h_MM_ints rfl rfl rfl rfl rfl ⟨by decide, by decide⟩ rfl ?_
    refine ev_gN [] [some 9] rfl ?_
    refine ev_reti rfl ?_
    refine ev_g0 rfl ?_
    refine ev_inV 2 k_MM_288 h_MM_lay rfl rfl rfl rfl rfl ⟨by decide, by decide⟩ rfl ?_
    refine ev_gN [] [] rfl ?_
    refine ev_ret rfl ?_
    refine ev_g0 rfl ?_
    refine ev_ret rfl ?_
    exact ⟨rfl, (u3 xj 0 t a (((xj 0 t a).toInt32 ||| (xj 0 t c).toInt32).toInt64)), xd, xf, xo, xi, xn, nI 0, rfl, bdd, lf_N, lf_N, (CU_num hC ht ha lf_N lf_N), (MU_num hM ht ha lf_N lf_N (fun i hi => (rc_isor hC hi).2.2.1))⟩
  · skip
    refine ev_gN [false, true] [] rfl ?_
    refine ev_inV 1 k_MM_277 h_MM_number rfl rfl rfl rfl rfl ⟨by decide, by decide⟩ rfl ?_
    refine ev_gN [] [] rfl ?_
    refine ev_retl rfl ?_
    refine ev_g0 rfl ?_
    refine ev_inV 1 k_MM_277 h_MM_number rfl rfl rfl rfl rfl ⟨by decide, by decide⟩ rfl ?_
    refine ev_gN [] [] rfl ?_
    refine ev_retl rfl ?_
    refine ev_g0 rfl ?_
    refine ev_inV 3 k_MM_309 h_MM_ints rfl rfl rfl rfl rfl ⟨by decide, by decide⟩ rfl ?_
    refine ev_gN [] [some 9] rfl ?_
    refine ev_reti rfl ?_
    refine ev_g0 rfl ?_
    refine ev_inV 2 k_MM_288 h_MM_lay rfl rfl rfl rfl rfl ⟨by decide, by decide⟩ rfl ?_
    refine ev_gN [] [] rfl ?_
    refine ev_ret rfl ?_
    refine ev_g0 rfl ?_
    refine ev_ret rfl ?_
    exact ⟨rfl, (u3 xj 0 t a (((xj 0 t a).toInt32 ||| (xj 0 t c).toInt32).toInt64)), xd, xf, xo, xi, xn, nI 0, rfl, bdd, lf_N, lf_N, (CU_num hC ht ha lf_N lf_N), (MU_num hM ht ha lf_N lf_N (fun i hi => (rc_isor hC hi).2.2.1))⟩
theorem A4_10 {ci : Nat → Nat → Nat → Int32} {cn : Nat → Nat → Nat → Nat} {co : Nat → Option Nat} {xj : Nat → Nat → Nat → Int64} {xd : Nat → Nat → Nat → UInt64} {xf : Nat → Nat → Nat → UInt32} {xo : Nat → Nat → Nat → Option Nat} {xi : Nat → Nat → Nat → Int32} {xn : Nat → Nat → Nat → Nat} {K : Nat → Nat} {I : Nat → Nat → Int32} {J : Nat → Nat → Int64} {F : Nat → Nat → UInt32} {D : Nat → Nat → UInt64} {R : Nat → Nat → Option Nat} {nx sl : Nat} {Km : Nat → Nat} {Im : Nat → Nat → Int32} {Jm : Nat → Nat → Int64} {Fm : Nat → Nat → UInt32} {Dm : Nat → Nat → UInt64} {Rm : Nat → Nat → Option Nat} {nxm slm : Nat} (hC : RC ci cn co xj xd xf xo xi xn I J F D R nx sl) (hM : RM ci cn co xj xd xf xo xi xn Im Jm Dm) {t a : Nat} {c : Nat} {go : Int32} (ht : t < 3) (ha : a < 8) (hc : c < 8) (x1 : Im 6 39 = nI t) (x2 : Im 6 40 = nI a) (x3 : Im 6 41 = nI 10) (x4 : Im 6 42 = nI c) (x5 : Im 6 43 = nI 0) (x6 : Im 6 44 = go) : Ct Y_NA_perform [vr 3 54, vr 8 (32 + 7 * t), vi (nI 4), vi (nI a), vi (nI 10), vi (nI c)] (K, I, J, F, D, R, nx, sl) (fun r μ1 => Ct Y_MM_reckons [vr 11 6, vi (nI 4)] (Km, Im, Jm, Fm, Dm, Rm, nxm, slm) (fun r2 μ2 => r2 = none ∧ QA ci cn co go r μ1 μ2)) := by
  refine ct_of h_NA_perform rfl rfl rfl ?_
  refine ev_gN [] [some 4] rfl ?_
  refine ev_inS 4 k_NA_39 h_NA_joinInts rfl rfl rfl rfl ⟨by decide, by decide⟩ rfl ?_
  refine ev_g0 rfl ?_
  refine ev_inV 1 k_NA_68 h_SD_n rfl rfl rfl rfl rfl ⟨by decide, by decide⟩ rfl ?_
  refine ev_gN [] [] rfl ?_
  refine ev_retl rfl ?_
  refine ev_g0 rfl ?_
  refine ev_inV 1 k_NA_68 h_SD_n rfl rfl rfl rfl rfl ⟨by decide, by decide⟩ rfl ?_
  refine ev_gN [] [] rfl ?_
  refine ev_retl rfl ?_
  refine ev_g0 rfl ?_
  refine ev_inS 1 k_NA_72 h_NA_isDivision rfl rfl rfl rfl ⟨by decide, by decide⟩ rfl ?_
  refine ev_gN [false, true] [] rfl ?_
  refine ev_retz rfl (by first | decide | exact zb_01 _) ?_
  refine ev_gN [true] [] rfl ?_
  refine ev_inS 3 k_NA_86 h_NA_joinedInts rfl rfl rfl rfl ⟨by decide, by decide⟩ rfl ?_
  refine ev_gN [] [some 10] rfl ?_
  refine ev_reti rfl ?_
  refine ev_g0 rfl ?_
  refine ev_inV 2 k_NA_15 h_SD_setN rfl rfl rfl rfl rfl ⟨by decide, by decide⟩ rfl ?_
  refine ev_gN [] [] rfl ?_
  refine ev_ret rfl ?_
  refine ev_g0 rfl ?_
  refine ev_reti rfl ?_
  refine ev_g0 rfl ?_
  refine ev_reti rfl ?_
  refine ct_of h_MM_reckons rfl rfl rfl ?_
  refine ev_gN [] [some 4] rfl ?_
  refine ev_inV 1 k_MM_277 h_MM_number rfl rfl rfl rfl rfl ⟨by decide, by decide⟩ rfl ?_
  refine ev_gN [] [] rfl ?_
  refine ev_retl rfl ?_
  refine ev_g0 rfl ?_
  refine ev_bN rfl rfl (fun h_1 => ?_) (fun h_1 => ?_)
  · skip
    refine ev_g0 rfl ?_
    refine ev_inV 1 k_MM_277 h_MM_number rfl rfl rfl rfl rfl ⟨by decide, by decide⟩ rfl ?_
    refine ev_gN [] [] rfl ?_
    refine ev_retl rfl ?_
    refine ev_g0 rfl ?_
    refine ev_inV 1 k_MM_277 h_MM_number rfl rfl rfl rfl rfl ⟨by decide, by decide⟩ rfl ?_
    refine ev_gN [] [] rfl ?_
    refine ev_retl rfl ?_
    refine ev_g0 rfl ?_
    refine ev_inV 3 k_MM_309 h_MM_ints rfl rfl rfl rfl rfl ⟨by decide, by decide⟩ rfl ?_
    refine ev_gN [] [some 10] rfl ?_
    refine ev_reti rfl ?_
    refine ev_g0 rfl ?_
    refine ev_inV 2 k_MM_288 h_MM_lay rfl rfl rfl rfl rfl ⟨by decide, by decide⟩ rfl ?_
    refine ev_gN [] [] rfl ?_
    refine ev_ret rfl ?_
    refine ev_g0 rfl ?_
    refine ev_ret rfl ?_
    exact ⟨rfl, (u3 xj 0 t a (((xj 0 t a).toInt32 ^^^ (xj 0 t c).toInt32).toInt64)), xd, xf, xo, xi, xn, nI 0, rfl, bdd, lf_N, lf_N, (CU_num hC ht ha lf_N lf_N), (MU_num hM ht ha lf_N lf_N (fun i hi => (rc_isor hC hi).2.2.1))⟩
  · skip
    refine ev_gN [false, true] [] rfl ?_
    refine ev_inV 1 k_MM_277 h_MM_number rfl rfl rfl rfl rfl ⟨by decide, by decide⟩ rfl ?_
    refine ev_gN [] [] rfl ?_
    refine ev_retl rfl ?_
    refine ev_g0 rfl ?_
    refine ev_inV 1 k_MM_277 h_MM_number rfl rfl rfl rfl rfl ⟨by decide, by decide⟩ rfl ?_
    refine ev_gN [] [] rfl ?_
    refine ev_retl rfl ?_
    refine ev_g0 rfl ?_
    refine ev_inV 3 k_MM_309 h_MM_ints rfl rfl rfl rfl rfl ⟨by decide, by decide⟩ rfl ?_
    refine ev_gN [] [some 10] rfl ?_
    refine ev_reti rfl ?_
    refine ev_g0 rfl ?_
    refine ev_inV 2 k_MM_288 h_MM_lay rfl rfl rfl rfl rfl ⟨by decide, by decide⟩ rfl ?_
    refine ev_gN [] [] rfl ?_
    refine ev_ret rfl ?_
    refine ev_g0 rfl ?_
    refine ev_ret rfl ?_
    exact ⟨rfl, (u3 xj 0 t a (((xj 0 t a).toInt32 ^^^ (xj 0 t c).toInt32).toInt64)), xd, xf, xo, xi, xn, nI 0, rfl, bdd, lf_N, lf_N, (CU_num hC ht ha lf_N lf_N), (MU_num hM ht ha lf_N lf_N (fun i hi => (rc_isor hC hi).2.2.1))⟩
theorem ev_gNI {Y : mm_Y} {μ0 : mm_M} {rem : List mm_E} {L : mm_L} {st : List mm_V} {μ : mm_M} {Post : Option mm_V → mm_M → Prop} (bs : List Bool) (os : List (Option Nat)) {e2 : mm_E} {rem2 : List mm_E} {L2 : mm_L} {st2 : List mm_V} {μ2 : mm_M} {P2 : Prop} (h : mm_go 5000 (mm_co Y) rem L st μ bs os True = some (e2 :: rem2, L2, st2, μ2, P2)) (k : Ev Y μ0 (e2 :: rem2) L2 st2 μ2 Post) (hp : P2 := by (repeat' apply And.intro) <;> first | exact trivial | assumption | rfl | decide | omega | (simp (disch := first | assumption | omega | decide) only [i_add, i_mul, n_cl, nI_and7, nI_and3, v_in, i_eq, i_lt, i_le, i_eq0, i_lt0, i_ge0, i_gt0, i_le0, lg_cmp_eq, lg_cmp_ge, lg_cmp_gt, lg_cmp_le, lg_cmp_lt, zb_e0, zb_n0, Classical.not_not, up_ne, Nat.zero_add, Nat.add_zero, rc_num hC, rm_num hM, rc_dbl hC, rm_dbl hM, rc_flt hC, rm_flt hM, i_sl, i_l1, i_l2, i_l3, j_lt, j_le, j_eq, j_z, *] <;> first | assumption | omega | decide)) : Ev Y μ0 rem L st μ Post := ev_go bs os h hp k
theorem ev_bNI {Y : mm_Y} {μ0 : mm_M} {rem : List mm_E} {L : mm_L} {st : List mm_V} {μ : mm_M} {Post : Option mm_V → mm_M → Prop} {e2 e3 : mm_E} {rem2 rem3 : List mm_E} {L2 L3 : mm_L} {st2 st3 : List mm_V} {μ2 μ3 : mm_M} {c c2 d d2 : Prop} (hT : mm_go 1 (mm_co Y) rem L st μ [true] [] True = some (e2 :: rem2, L2, st2, μ2, True ∧ c)) (hF : mm_go 1 (mm_co Y) rem L st μ [false] [] True = some (e3 :: rem3, L3, st3, μ3, True ∧ c2)) (kt : d → Ev Y μ0 (e2 :: rem2) L2 st2 μ2 Post) (kf : d2 → Ev Y μ0 (e3 :: rem3) L3 st3 μ3 Post) (hc : ¬ c → c2 := by first | exact id | exact Classical.not_not.mp) (g1 : c → d := by intro hh; (try simp (disch := first | assumption | omega | decide) only [i_add, i_mul, n_cl, nI_and7, nI_and3, v_in, i_eq, i_lt, i_le, i_eq0, i_lt0, i_ge0, i_gt0, i_le0, lg_cmp_eq, lg_cmp_ge, lg_cmp_gt, lg_cmp_le, lg_cmp_lt, zb_e0, zb_n0, Classical.not_not, up_ne, Nat.zero_add, Nat.add_zero, rc_num hC, rm_num hM, rc_dbl hC, rm_dbl hM, rc_flt hC, rm_flt hM, i_sl, i_l1, i_l2, i_l3, j_lt, j_le, j_eq, j_z, *] at hh); exact hh) (g2 : c2 → d2 := by intro hh; (try simp (disch := first | assumption | omega | decide) only [i_add, i_mul, n_cl, nI_and7, nI_and3, v_in, i_eq, i_lt, i_le, i_eq0, i_lt0, i_ge0, i_gt0, i_le0, lg_cmp_eq, lg_cmp_ge, lg_cmp_gt, lg_cmp_le, lg_cmp_lt, zb_e0, zb_n0, Classical.not_not, up_ne, Nat.zero_add, Nat.add_zero, rc_num hC, rm_num hM, rc_dbl hC, rm_dbl hM, rc_flt hC, rm_flt hM, i_sl, i_l1, i_l2, i_l3, j_lt, j_le, j_eq, j_z, *] at hh); exact hh) : Ev Y μ0 rem L st μ Post := ev_br hT hF hc (fun h => kt (g1 h)) (fun h => kf (g2 h))
theorem lf_NI {p : Prop} (h : p := by first | rfl | assumption | (simp (disch := first | assumption | omega | decide) only [i_add, i_mul, n_cl, nI_and7, nI_and3, v_in, i_eq, i_lt, i_le, i_eq0, i_lt0, i_ge0, i_gt0, i_le0, lg_cmp_eq, lg_cmp_ge, lg_cmp_gt, lg_cmp_le, lg_cmp_lt, zb_e0, zb_n0, Classical.not_not, up_ne, Nat.zero_add, Nat.add_zero, rc_num hC, rm_num hM, rc_dbl hC, rm_dbl hM, rc_flt hC, rm_flt hM, i_sl, i_l1, i_l2, i_l3, j_lt, j_le, j_eq, j_z, *] <;> first | rfl | assumption | omega | decide)) : p := h
theorem A4_11 {ci : Nat → Nat → Nat → Int32} {cn : Nat → Nat → Nat → Nat} {co : Nat → Option Nat} {xj : Nat → Nat → Nat → Int64} {xd : Nat → Nat → Nat → UInt64} {xf : Nat → Nat → Nat → UInt32} {xo : Nat → Nat → Nat → Option Nat} {xi : Nat → Nat → Nat → Int32} {xn : Nat → Nat → Nat → Nat} {K : Nat → Nat} {I : Nat → Nat → Int32} {J : Nat → Nat → Int64} {F : Nat → Nat → UInt32} {D : Nat → Nat → UInt64} {R : Nat → Nat → Option Nat} {nx sl : Nat} {Km : Nat → Nat} {Im : Nat → Nat → Int32} {Jm : Nat → Nat → Int64} {Fm : Nat → Nat → UInt32} {Dm : Nat → Nat → UInt64} {Rm : Nat → Nat → Option Nat} {nxm slm : Nat} (hC : RC ci cn co xj xd xf xo xi xn I J F D R nx sl) (hM : RM ci cn co xj xd xf xo xi xn Im Jm Dm) {t a : Nat} {c : Nat} {go : Int32} (ht : t < 3) (ha : a < 8) (hc : c < 8) (x1 : Im 6 39 = nI t) (x2 : Im 6 40 = nI a) (x3 : Im 6 41 = nI 11) (x4 : Im 6 42 = nI c) (x5 : Im 6 43 = nI 0) (x6 : Im 6 44 = go) : Ct Y_NA_perform [vr 3 54, vr 8 (32 + 7 * t), vi (nI 4), vi (nI a), vi (nI 11), vi (nI c)] (K, I, J, F, D, R, nx, sl) (fun r μ1 => Ct Y_MM_reckons [vr 11 6, vi (nI 4)] (Km, Im, Jm, Fm, Dm, Rm, nxm, slm) (fun r2 μ2 => r2 = none ∧ QA ci cn co go r μ1 μ2)) := by
  refine ct_of h_NA_perform rfl rfl rfl ?_
  refine ev_gNI [] [some 4] rfl ?_
  refine ev_inS 4 k_NA_39 h_NA_joinInts rfl rfl rfl rfl ⟨by decide, by decide⟩ rfl ?_
  refine ev_g0 rfl ?_
  refine ev_inV 1 k_NA_68 h_SD_n rfl rfl rfl rfl rfl ⟨by decide, by decide⟩ rfl ?_
  refine ev_gNI [] [] rfl ?_
  refine ev_retl rfl ?_
  refine ev_g0 rfl ?_
  refine ev_inV 1 k_NA_68 h_SD_n rfl rfl rfl rfl rfl ⟨by decide, by decide⟩ rfl ?_
  refine ev_gNI [] [] rfl ?_
  refine ev_retl rfl ?_
  refine ev_g0 rfl ?_
  refine ev_inS 1 k_NA_72 h_NA_isDivision rfl rfl rfl rfl ⟨by decide, by decide⟩ rfl ?_
  refine ev_gNI [false, true] [] rfl ?_
  refine ev_retz rfl (by first | decide | exact zb_01 _) ?_
  refine ev_gNI [true] [] rfl ?_
  refine ev_inS 3 k_NA_86 h_NA_joinedInts rfl rfl rfl rfl ⟨by decide, by decide⟩ rfl ?_
  refine ev_gNI [] [none] rfl ?_
  refine ev_inS 2 k_NA_90 h_JI_compare rfl rfl rfl rfl ⟨by decide, by decide⟩ rfl ?_
  refine ev_g0 rfl ?_
  refine ev_bNI rfl rfl (fun h_1 => ?_) (fun h_1 => ?_)
  · skip
    refine ev_g0 rfl ?_
    refine ev_bNI rfl rfl (fun h_2 => ?_) (fun h_2 => ?_)
    · skip
      refine ev_g0 rfl ?_
      refine ev_reti rfl ?_
      refine ev_g0 rfl ?_
      refine ev_reti rfl ?_
      refine ev_g0 rfl ?_
      refine ev_inV 2 k_NA_15 h_SD_setN rfl rfl rfl rfl rfl ⟨by decide, by decide⟩ rfl ?_
      refine ev_gNI [] [] rfl ?_
      refine ev_ret rfl ?_
      refine ev_g0 rfl ?_
      refine ev_reti rfl ?_
      refine ev_g0 rfl ?_
      refine ev_reti rfl ?_
      refine ct_of h_MM_reckons rfl rfl rfl ?_
      refine ev_gNI [] [some 4] rfl ?_
      refine ev_inV 1 k_MM_277 h_MM_number rfl rfl rfl rfl rfl ⟨by decide, by decide⟩ rfl ?_
      refine ev_gNI [] [] rfl ?_
      refine ev_retl rfl ?_
      refine ev_g0 rfl ?_
      refine ev_bNI rfl rfl (fun h_3 => ?_) (fun h_3 => ?_)
      · skip
        refine ev_g0 rfl ?_
        refine ev_inV 1 k_MM_277 h_MM_number rfl rfl rfl rfl rfl ⟨by decide, by decide⟩ rfl ?_
        refine ev_gNI [] [] rfl ?_
        refine ev_retl rfl ?_
        refine ev_g0 rfl ?_
        refine ev_inV 1 k_MM_277 h_MM_number rfl rfl rfl rfl rfl ⟨by decide, by decide⟩ rfl ?_
        refine ev_gNI [] [] rfl ?_
        refine ev_retl rfl ?_
        refine ev_g0 rfl ?_
        refine ev_inV 3 k_MM_309 h_MM_ints rfl rfl rfl rfl rfl ⟨by decide, by decide⟩ rfl ?_
        refine ev_gNI [true, false] [none] rfl ?_
        refine ev_reti rfl ?_
        refine ev_g0 rfl ?_
        refine ev_inV 2 k_MM_288 h_MM_lay rfl rfl rfl rfl rfl ⟨by decide, by decide⟩ rfl ?_
        refine ev_gNI [] [] rfl ?_
        refine ev_ret rfl ?_
        refine ev_g0 rfl ?_
        refine ev_ret rfl ?_
        exact ⟨rfl, (u3 xj 0 t a ((nI 1).toInt64)), xd, xf, xo, xi, xn, nI 0, rfl, bdd, lf_NI, lf_NI, (CU_num hC ht ha lf_NI lf_NI), (MU_num hM ht ha lf_NI lf_NI (fun i hi => (rc_isor hC hi).2.2.1))⟩
      · skip
        refine ev_gNI [false, true] [] rfl ?_
        refine ev_inV 1 k_MM_277 h_MM_number rfl rfl rfl rfl rfl ⟨by decide, by decide⟩ rfl ?_
        refine ev_gNI [] [] rfl ?_
        refine ev_retl rfl ?_
        refine ev_g0 rfl ?_
        refine ev_inV 1 k_MM_277 h_MM_number rfl rfl rfl rfl rfl ⟨by decide, by decide⟩ rfl ?_
        refine ev_gNI [] [] rfl ?_
        refine ev_retl rfl ?_
        refine ev_g0 rfl ?_
        refine ev_inV 3 k_MM_309 h_MM_ints rfl rfl rfl rfl rfl ⟨by decide, by decide⟩ rfl ?_
        refine ev_gNI [true, false] [none] rfl ?_
        refine ev_reti rfl ?_
        refine ev_g0 rfl ?_
        refine ev_inV 2 k_MM_288 h_MM_lay rfl rfl rfl rfl rfl ⟨by decide, by decide⟩ rfl ?_
        refine ev_gNI [] [] rfl ?_
        refine ev_ret rfl ?_
        refine ev_g0 rfl ?_
        refine ev_ret rfl ?_
        exact ⟨rfl, (u3 xj 0 t a ((nI 1).toInt64)), xd, xf, xo, xi, xn, nI 0, rfl, bdd, lf_NI, lf_NI, (CU_num hC ht ha lf_NI lf_NI), (MU_num hM ht ha lf_NI lf_NI (fun i hi => (rc_isor hC hi).2.2.1))⟩
    · skip
      refine ev_g0 rfl ?_
      refine ev_reti rfl ?_
      refine ev_g0 rfl ?_
      refine ev_reti rfl ?_
      refine ev_g0 rfl ?_
      refine ev_inV 2 k_NA_15 h_SD_setN rfl rfl rfl rfl rfl ⟨by decide, by decide⟩ rfl ?_
      refine ev_gNI [] [] rfl ?_
      refine ev_ret rfl ?_
      refine ev_g0 rfl ?_
      refine ev_reti rfl ?_
      refine ev_g0 rfl ?_
      refine ev_reti rfl ?_
      refine ct_of h_MM_reckons rfl rfl rfl ?_
      refine ev_gNI [] [some 4] rfl ?_
      refine ev_inV 1 k_MM_277 h_MM_number rfl rfl rfl rfl rfl ⟨by decide, by decide⟩ rfl ?_
      refine ev_gNI [] [] rfl ?_
      refine ev_retl rfl ?_
      refine ev_g0 rfl ?_
      refine ev_bNI rfl rfl (fun h_4 => ?_) (fun h_4 => ?_)
      · skip
        refine ev_g0 rfl ?_
        refine ev_inV 1 k_MM_277 h_MM_number rfl rfl rfl rfl rfl ⟨by decide, by decide⟩ rfl ?_
        refine ev_gNI [] [] rfl ?_
        refine ev_retl rfl ?_
        refine ev_g0 rfl ?_
        refine ev_inV 1 k_MM_277 h_MM_number rfl rfl rfl rfl rfl ⟨by decide, by decide⟩ rfl ?_
        refine ev_gNI [] [] rfl ?_
        refine ev_retl rfl ?_
        refine ev_g0 rfl ?_
        refine ev_inV 3 k_MM_309 h_MM_ints rfl rfl rfl rfl rfl ⟨by decide, by decide⟩ rfl ?_
        refine ev_gNI [true, true] [none] rfl ?_
        refine ev_reti rfl ?_
        refine ev_g0 rfl ?_
        refine ev_inV 2 k_MM_288 h_MM_lay rfl rfl rfl rfl rfl ⟨by decide, by decide⟩ rfl ?_
        refine ev_gNI [] [] rfl ?_
        refine ev_ret rfl ?_
        refine ev_g0 rfl ?_
        refine ev_ret rfl ?_
        exact ⟨rfl, (u3 xj 0 t a ((nI 0).toInt64)), xd, xf, xo, xi, xn, nI 0, rfl, bdd, lf_NI, lf_NI, (CU_num hC ht ha lf_NI lf_NI), (MU_num hM ht ha lf_NI lf_NI (fun i hi => (rc_isor hC hi).2.2.1))⟩
      · skip
        refine ev_gNI [false, true] [] rfl ?_
        refine ev_inV 1 k_MM_277 h_MM_number rfl rfl rfl rfl rfl ⟨by decide, by decide⟩ rfl ?_
        refine ev_gNI [] [] rfl ?_
        refine ev_retl rfl ?_
        refine ev_g0 rfl ?_
        refine ev_inV 1 k_MM_277 h_MM_number rfl rfl rfl rfl rfl ⟨by decide, by decide⟩ rfl ?_
        refine ev_gNI [] [] rfl ?_
        refine ev_retl rfl ?_
        refine ev_g0 rfl ?_
        refine ev_inV 3 k_MM_309 h_MM_ints rfl rfl rfl rfl rfl ⟨by decide, by decide⟩ rfl ?_
        refine ev_gNI [true, true] [none] rfl ?_
        refine ev_reti rfl ?_
        refine ev_g0 rfl ?_
        refine ev_inV 2 k_MM_288 h_MM_lay rfl rfl rfl rfl rfl ⟨by decide, by decide⟩ rfl ?_
        refine ev_gNI [] [] rfl ?_
        refine ev_ret rfl ?_
        refine ev_g0 rfl ?_
        refine ev_ret rfl ?_
        exact ⟨rfl, (u3 xj 0 t a ((nI 0).toInt64)), xd, xf, xo, xi, xn, nI 0, rfl, bdd, lf_NI, lf_NI, (CU_num hC ht ha lf_NI lf_NI), (MU_num hM ht ha lf_NI lf_NI (fun i hi => (rc_isor hC hi).2.2.1))⟩
  · skip
    refine ev_g0 rfl ?_
    refine ev_reti rfl ?_
    refine ev_g0 rfl ?_
    refine ev_reti rfl ?_
    refine ev_g0 rfl ?_
    refine ev_inV 2 k_NA_15 h_SD_setN rfl rfl rfl rfl rfl ⟨by decide, by decide⟩ rfl ?_
    refine ev_gNI [] [] rfl ?_
    refine ev_ret rfl ?_
    refine ev_g0 rfl ?_
    refine ev_reti rfl ?_
    refine ev_g0 rfl ?_
    refine ev_reti rfl ?_
    refine ct_of h_MM_reckons rfl rfl rfl ?_
    refine ev_gNI [] [some 4] rfl ?_
    refine ev_inV 1 k_MM_277 h_MM_number rfl rfl rfl rfl rfl ⟨by decide, by decide⟩ rfl ?_
    refine ev_gNI [] [] rfl ?_
    refine ev_retl rfl ?_
    refine ev_g0 rfl ?_
    refine ev_bNI rfl rfl (fun h_5 => ?_) (fun h_5 => ?_)
    · skip
      refine ev_g0 rfl ?_
      refine ev_inV 1 k_MM_277 h_MM_number rfl rfl rfl rfl rfl ⟨by decide, by decide⟩ rfl ?_
      refine ev_gNI [] [] rfl ?_
      refine ev_retl rfl ?_
      refine ev_g0 rfl ?_
      refine ev_inV 1 k_MM_277 h_MM_number rfl rfl rfl rfl rfl ⟨by decide, by decide⟩ rfl ?_
      refine ev_gNI [] [] rfl ?_
      refine ev_retl rfl ?_
      refine ev_g0 rfl ?_
      refine ev_inV 3 k_MM_309 h_MM_ints rfl rfl rfl rfl rfl ⟨by decide, by decide⟩ rfl ?_
      refine ev_gNI [false] [none] rfl ?_
      refine ev_reti rfl ?_
      refine ev_g0 rfl ?_
      refine ev_inV 2 k_MM_288 h_MM_lay rfl rfl rfl rfl rfl ⟨by decide, by decide⟩ rfl ?_
      refine ev_gNI [] [] rfl ?_
      refine ev_ret rfl ?_
      refine ev_g0 rfl ?_
      refine ev_ret rfl ?_
      exact ⟨rfl, (u3 xj 0 t a ((-(nI 1)).toInt64)), xd, xf, xo, xi, xn, nI 0, rfl, bdd, lf_NI, lf_NI, (CU_num hC ht ha lf_NI lf_NI), (MU_num hM ht ha lf_NI lf_NI (fun i hi => (rc_isor hC hi).2.2.1))⟩
    · skip
      refine ev_gNI [false, true] [] rfl ?_
      refine ev_inV 1 k_MM_277 h_MM_number rfl rfl rfl rfl rfl ⟨by decide, by decide⟩ rfl ?_
      refine ev_gNI [] [] rfl ?_
      refine ev_retl rfl ?_
      refine ev_g0 rfl ?_
      refine ev_inV 1 k_MM_277 h_MM_number rfl rfl rfl rfl rfl ⟨by decide, by decide⟩ rfl ?_
      refine ev_gNI [] [] rfl ?_
      refine ev_retl rfl ?_
      refine ev_g0 rfl ?_
      refine ev_inV 3 k_MM_309 h_MM_ints rfl rfl rfl rfl rfl ⟨by decide, by decide⟩ rfl ?_
      refine ev_gNI [false] [none] rfl ?_
      refine ev_reti rfl ?_
      refine ev_g0 rfl ?_
      refine ev_inV 2 k_MM_288 h_MM_lay rfl rfl rfl rfl rfl ⟨by decide, by decide⟩ rfl ?_
      refine ev_gNI [] [] rfl ?_
      refine ev_ret rfl ?_
      refine ev_g0 rfl ?_
      refine ev_ret rfl ?_
      exact ⟨rfl, (u3 xj 0 t a ((-(nI 1)).toInt64)), xd, xf, xo, xi, xn, nI 0, rfl, bdd, lf_NI, lf_NI, (CU_num hC ht ha lf_NI lf_NI), (MU_num hM ht ha lf_NI lf_NI (fun i hi => (rc_isor hC hi).2.2.1))⟩
