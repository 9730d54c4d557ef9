theorem ev_gX1 {Y : mm_Y} {μ0 : mm_M} {rem : List mm_E} {L : mm_L} {st : List mm_V} {μ : mm_M} {Post : Option mm_V → mm_M → Prop} (bs : List Bool) (os : List (Option Nat)) {e2 : mm_E} {rem2 : List mm_E} {L2 : mm_L} {st2 : List mm_V} {μ2 : mm_M} {P2 : Prop} (h : mm_go 5000 (mm_co Y) rem L st μ bs os True = some (e2 :: rem2, L2, st2, μ2, P2)) (k : Ev Y μ0 (e2 :: rem2) L2 st2 μ2 Post) (hp : P2 := by (repeat' apply And.intro) <;> first | exact trivial | decide | (simp (disch := first | with_reducible assumption | with_reducible exact dv_n _ _ _ | with_reducible exact f2d_n (d2f_n (dv_n _ _ _)) | with_reducible exact d2f_n (dv_n _ _ _) | assumption | omega | decide | exact f2d_n (by assumption) | exact d2f_n (by assumption) | exact nc_0 | exact nc_1 | exact l2d_n _ | exact nc_4503599627370496 | exact nc_4039728865751334912 | exact nc_4602678819172646912 | exact nc_4611686018427387904 | exact nc_4616189618054758400 | exact nc_4832362400168542208 | exact nc_4841369599423283200 | exact nc_9218868437227405311 | exact nc_13830554455654793216 | exact nc_14064741636278059008 | exact nc_18442240474082181119) only [i_add, i_mul, n_cl, nI_and7, nI_and3, v_in, i_eq, i_lt, i_le, i_eq0, i_lt0, i_ge0, i_gt0, i_le0, lg_cmp_eq, lg_cmp_ge, lg_cmp_gt, lg_cmp_le, lg_cmp_lt, zb_e0, zb_n0, Classical.not_not, up_ne, Nat.zero_add, Nat.add_zero, up_eq, i_l1, i_l2, i_l3, f2d_i, d2f_i, dff, dc_lt, dc_le, dc_gt, dc_ge, dc_eq, fE_t, fE_f, fM_t, fM_f, zb_e0, zb_n0, Classical.not_not, fk_4503599627370496, fk_4039728865751334912, fk_4602678819172646912, fk_4611686018427387904, fk_4616189618054758400, fk_4832362400168542208, fk_4841369599423283200, fk_9218868437227405311, fk_13830554455654793216, fk_14064741636278059008, fk_18442240474082181119, fk_0, fk_1, zb_i, fM_e, dneg_i, fA_i, dneg_key, *] <;> first | exact trivial | with_reducible assumption | with_reducible exact dv_n _ _ _ | with_reducible exact f2d_n (d2f_n (dv_n _ _ _)) | with_reducible exact d2f_n (dv_n _ _ _) | assumption | exact dv_n _ _ _ | exact d2f_n (dv_n _ _ _) | omega | decide) | with_reducible assumption | with_reducible exact dv_n _ _ _ | with_reducible exact f2d_n (d2f_n (dv_n _ _ _)) | with_reducible exact d2f_n (dv_n _ _ _) | assumption | exact dv_n _ _ _ | exact d2f_n (dv_n _ _ _)) : Ev Y μ0 rem L st μ Post := ev_go bs os h hp k
theorem ev_bX1 {Y : mm_Y} {μ0 : mm_M} {rem : List mm_E} {L : mm_L} {st : List mm_V} {μ : mm_M} {Post : Option mm_V → mm_M → Prop} {e2 e3 : mm_E} {rem2 rem3 : List mm_E} {L2 L3 : mm_L} {st2 st3 : List mm_V} {μ2 μ3 : mm_M} {c c2 d d2 : Prop} (hT : mm_go 1 (mm_co Y) rem L st μ [true] [] True = some (e2 :: rem2, L2, st2, μ2, True ∧ c)) (hF : mm_go 1 (mm_co Y) rem L st μ [false] [] True = some (e3 :: rem3, L3, st3, μ3, True ∧ c2)) (kt : d → Ev Y μ0 (e2 :: rem2) L2 st2 μ2 Post) (kf : d2 → Ev Y μ0 (e3 :: rem3) L3 st3 μ3 Post) (hc : ¬ c → c2 := by first | exact id | exact Classical.not_not.mp) (g1 : c → d := by intro hh; (try simp (disch := first | with_reducible assumption | with_reducible exact dv_n _ _ _ | with_reducible exact f2d_n (d2f_n (dv_n _ _ _)) | with_reducible exact d2f_n (dv_n _ _ _) | assumption | omega | decide | exact f2d_n (by assumption) | exact d2f_n (by assumption) | exact nc_0 | exact nc_1 | exact l2d_n _ | exact nc_4503599627370496 | exact nc_4039728865751334912 | exact nc_4602678819172646912 | exact nc_4611686018427387904 | exact nc_4616189618054758400 | exact nc_4832362400168542208 | exact nc_4841369599423283200 | exact nc_9218868437227405311 | exact nc_13830554455654793216 | exact nc_14064741636278059008 | exact nc_18442240474082181119) only [i_add, i_mul, n_cl, nI_and7, nI_and3, v_in, i_eq, i_lt, i_le, i_eq0, i_lt0, i_ge0, i_gt0, i_le0, lg_cmp_eq, lg_cmp_ge, lg_cmp_gt, lg_cmp_le, lg_cmp_lt, zb_e0, zb_n0, Classical.not_not, up_ne, Nat.zero_add, Nat.add_zero, up_eq, i_l1, i_l2, i_l3, f2d_i, d2f_i, dff, dc_lt, dc_le, dc_gt, dc_ge, dc_eq, fE_t, fE_f, fM_t, fM_f, zb_e0, zb_n0, Classical.not_not, fk_4503599627370496, fk_4039728865751334912, fk_4602678819172646912, fk_4611686018427387904, fk_4616189618054758400, fk_4832362400168542208, fk_4841369599423283200, fk_9218868437227405311, fk_13830554455654793216, fk_14064741636278059008, fk_18442240474082181119, fk_0, fk_1, zb_i, fM_e, dneg_i, fA_i, dneg_key, *] at hh); exact hh) (g2 : c2 → d2 := by intro hh; (try simp (disch := first | with_reducible assumption | with_reducible exact dv_n _ _ _ | with_reducible exact f2d_n (d2f_n (dv_n _ _ _)) | with_reducible exact d2f_n (dv_n _ _ _) | assumption | omega | decide | exact f2d_n (by assumption) | exact d2f_n (by assumption) | exact nc_0 | exact nc_1 | exact l2d_n _ | exact nc_4503599627370496 | exact nc_4039728865751334912 | exact nc_4602678819172646912 | exact nc_4611686018427387904 | exact nc_4616189618054758400 | exact nc_4832362400168542208 | exact nc_4841369599423283200 | exact nc_9218868437227405311 | exact nc_13830554455654793216 | exact nc_14064741636278059008 | exact nc_18442240474082181119) only [i_add, i_mul, n_cl, nI_and7, nI_and3, v_in, i_eq, i_lt, i_le, i_eq0, i_lt0, i_ge0, i_gt0, i_le0, lg_cmp_eq, lg_cmp_ge, lg_cmp_gt, lg_cmp_le, lg_cmp_lt, zb_e0, zb_n0, Classical.not_not, up_ne, Nat.zero_add, Nat.add_zero, up_eq, i_l1, i_l2, i_l3, f2d_i, d2f_i, dff, dc_lt, dc_le, dc_gt, dc_ge, dc_eq, fE_t, fE_f, fM_t, fM_f, zb_e0, zb_n0, Classical.not_not, fk_4503599627370496, fk_4039728865751334912, fk_4602678819172646912, fk_4611686018427387904, fk_4616189618054758400, fk_4832362400168542208, fk_4841369599423283200, fk_9218868437227405311, fk_13830554455654793216, fk_14064741636278059008, fk_18442240474082181119, fk_0, fk_1, zb_i, fM_e, dneg_i, fA_i, dneg_key, *] at hh); exact hh) : Ev Y μ0 rem L st μ Post := ev_br hT hF hc (fun h => kt (g1 h)) (fun h => kf (g2 h))
theorem lf_X1 {p : Prop} (h : p := by first | (simp (disch := first | with_reducible assumption | with_reducible exact dv_n _ _ _ | with_reducible exact f2d_n (d2f_n (dv_n _ _ _)) | with_reducible exact d2f_n (dv_n _ _ _) | assumption | omega | decide | exact f2d_n (by assumption) | exact d2f_n (by assumption) | exact nc_0 | exact nc_1 | exact l2d_n _ | exact nc_4503599627370496 | exact nc_4039728865751334912 | exact nc_4602678819172646912 | exact nc_4611686018427387904 | exact nc_4616189618054758400 | exact nc_4832362400168542208 | exact nc_4841369599423283200 | exact nc_9218868437227405311 | exact nc_13830554455654793216 | exact nc_14064741636278059008 | exact nc_18442240474082181119) only [i_add, i_mul, n_cl, nI_and7, nI_and3, v_in, i_eq, i_lt, i_le, i_eq0, i_lt0, i_ge0, i_gt0, i_le0, lg_cmp_eq, lg_cmp_ge, lg_cmp_gt, lg_cmp_le, lg_cmp_lt, zb_e0, zb_n0, Classical.not_not, up_ne, Nat.zero_add, Nat.add_zero, up_eq, i_l1, i_l2, i_l3, f2d_i, d2f_i, dff, dc_lt, dc_le, dc_gt, dc_ge, dc_eq, fE_t, fE_f, fM_t, fM_f, zb_e0, zb_n0, Classical.not_not, fk_4503599627370496, fk_4039728865751334912, fk_4602678819172646912, fk_4611686018427387904, fk_4616189618054758400, fk_4832362400168542208, fk_4841369599423283200, fk_9218868437227405311, fk_13830554455654793216, fk_14064741636278059008, fk_18442240474082181119, fk_0, fk_1, zb_i, fM_e, dneg_i, fA_i, dneg_key, *] <;> first | exact trivial | with_reducible assumption | with_reducible exact dv_n _ _ _ | with_reducible exact f2d_n (d2f_n (dv_n _ _ _)) | with_reducible exact d2f_n (dv_n _ _ _) | assumption | exact dv_n _ _ _ | exact d2f_n (dv_n _ _ _) | omega | decide) | with_reducible assumption | with_reducible exact dv_n _ _ _ | with_reducible exact f2d_n (d2f_n (dv_n _ _ _)) | with_reducible exact d2f_n (dv_n _ _ _) | assumption | exact dv_n _ _ _ | exact d2f_n (dv_n _ _ _) | rfl) : p := h
theorem A1P {ci : Nat → Nat → Nat → Int32} {cn : Nat → Nat → Nat → Nat} {co : Nat → Option Nat} {xj : Nat → Nat → Nat → Int64} {xd : Nat → Nat → Nat → UInt64} {xf : Nat → Nat → Nat → UInt32} {xo : Nat → Nat → Nat → Option Nat} {xi : Nat → Nat → Nat → Int32} {xn : Nat → Nat → Nat → Nat} {K : Nat → Nat} {I : Nat → Nat → Int32} {J : Nat → Nat → Int64} {F : Nat → Nat → UInt32} {D : Nat → Nat → UInt64} {R : Nat → Nat → Option Nat} {nx sl : Nat} {Km : Nat → Nat} {Im : Nat → Nat → Int32} {Jm : Nat → Nat → Int64} {Fm : Nat → Nat → UInt32} {Dm : Nat → Nat → UInt64} {Rm : Nat → Nat → Option Nat} {nxm slm : Nat} (hC : RC ci cn co xj xd xf xo xi xn I J F D R nx sl) (hM : RM ci cn co xj xd xf xo xi xn Im Jm Dm) {t a n1 : Nat} {b : Int32} {go : Int32} (ht : t < 3) (ha : a < 4) (hN : n1 < 61) (x1 : Im 6 39 = nI t) (x2 : Im 6 40 = nI a) (x3 : Im 6 41 = b) (x4 : Im 6 42 = nI n1) (x5 : Im 6 43 = nI 0) (x6 : Im 6 44 = go) : Ct Y_NA_perform [vr 3 54, vr 8 (32 + 7 * t), vi (nI 1), vi (nI a), vi b, vi (nI n1)] (K, I, J, F, D, R, nx, sl) (fun r μ1 => Ct Y_MM_reckons [vr 11 6, vi (nI 1)] (Km, Im, Jm, Fm, Dm, Rm, nxm, slm) (fun r2 μ2 => r2 = none ∧ QA ci cn co go r μ1 μ2)) := by
  refine ct_of h_NA_perform rfl rfl rfl ?_
  refine ev_gX1 [] [some 1] rfl ?_
  refine ev_kV 2 k_NA_21 rfl (C_RE_scIP (pow_c hC) hN) rfl ⟨by decide, by decide⟩ rfl ?_
  refine ev_g0 rfl ?_
  refine ev_inV 2 k_NA_27 h_SD_setX rfl rfl rfl rfl rfl ⟨by decide, by decide⟩ rfl ?_
  refine ev_gX1 [] [] rfl ?_
  refine ev_ret rfl ?_
  refine ev_g0 rfl ?_
  refine ev_reti rfl ?_
  refine ct_of h_MM_reckons rfl rfl rfl ?_
  refine ev_gX1 [] [some 1] rfl ?_
  refine ev_top2 (a2 := vi (nI n1)) (b2 := vi b) (by rw [x4]) (by rw [x3]) ?_
  refine ev_kS 2 k_MM_297 rfl (C_MM_movedP hN) ⟨by decide, by decide⟩ rfl ?_
  refine ev_g0 rfl ?_
  refine ev_inV 2 k_MM_281 h_MM_twin2 rfl rfl rfl rfl rfl ⟨by decide, by decide⟩ rfl ?_
  refine ev_gX1 [] [] rfl ?_
  refine ev_ret rfl ?_
  refine ev_g0 rfl ?_
  refine ev_ret rfl ?_
  exact ⟨rfl, xj, (u3 xd 0 t a (dv (decide (b.toInt < 0)) b.toInt.natAbs ((n1 : Nat) : Int))), xf, xo, xi, xn, nI 0, rfl, bdd, lf_X1, lf_X1, (CU_dbl hC ht ha (dv_n _ _ _) lf_X1 lf_X1), (MU_dbl hM ht ha lf_X1 lf_X1 (fun i hi => (rc_isor hC hi).2.2.1))⟩
theorem A1N {ci : Nat → Nat → Nat → Int32} {cn : Nat → Nat → Nat → Nat} {co : Nat → Option Nat} {xj : Nat → Nat → Nat → Int64} {xd : Nat → Nat → Nat → UInt64} {xf : Nat → Nat → Nat → UInt32} {xo : Nat → Nat → Nat → Option Nat} {xi : Nat → Nat → Nat → Int32} {xn : Nat → Nat → Nat → Nat} {K : Nat → Nat} {I : Nat → Nat → Int32} {J : Nat → Nat → Int64} {F : Nat → Nat → UInt32} {D : Nat → Nat → UInt64} {R : Nat → Nat → Option Nat} {nx sl : Nat} {Km : Nat → Nat} {Im : Nat → Nat → Int32} {Jm : Nat → Nat → Int64} {Fm : Nat → Nat → UInt32} {Dm : Nat → Nat → UInt64} {Rm : Nat → Nat → Option Nat} {nxm slm : Nat} (hC : RC ci cn co xj xd xf xo xi xn I J F D R nx sl) (hM : RM ci cn co xj xd xf xo xi xn Im Jm Dm) {t a n1 : Nat} {b : Int32} {go : Int32} (ht : t < 3) (ha : a < 4) (hN : n1 + 1 < 61) (x1 : Im 6 39 = nI t) (x2 : Im 6 40 = nI a) (x3 : Im 6 41 = b) (x4 : Im 6 42 = -(nI (n1 + 1))) (x5 : Im 6 43 = nI 0) (x6 : Im 6 44 = go) : Ct Y_NA_perform [vr 3 54, vr 8 (32 + 7 * t), vi (nI 1), vi (nI a), vi b, vi (-(nI (n1 + 1)))] (K, I, J, F, D, R, nx, sl) (fun r μ1 => Ct Y_MM_reckons [vr 11 6, vi (nI 1)] (Km, Im, Jm, Fm, Dm, Rm, nxm, slm) (fun r2 μ2 => r2 = none ∧ QA ci cn co go r μ1 μ2)) := by
  refine ct_of h_NA_perform rfl rfl rfl ?_
  refine ev_gX1 [] [some 1] rfl ?_
  refine ev_kV 2 k_NA_21 rfl (C_RE_scIN (pow_c hC) hN) rfl ⟨by decide, by decide⟩ rfl ?_
  refine ev_g0 rfl ?_
  refine ev_inV 2 k_NA_27 h_SD_setX rfl rfl rfl rfl rfl ⟨by decide, by decide⟩ rfl ?_
  refine ev_gX1 [] [] rfl ?_
  refine ev_ret rfl ?_
  refine ev_g0 rfl ?_
  refine ev_reti rfl ?_
  refine ct_of h_MM_reckons rfl rfl rfl ?_
  refine ev_gX1 [] [some 1] rfl ?_
  refine ev_top2 (a2 := vi (-(nI (n1 + 1)))) (b2 := vi b) (by rw [x4]) (by rw [x3]) ?_
  refine ev_kS 2 k_MM_297 rfl (C_MM_movedN hN) ⟨by decide, by decide⟩ rfl ?_
  refine ev_g0 rfl ?_
  refine ev_inV 2 k_MM_281 h_MM_twin2 rfl rfl rfl rfl rfl ⟨by decide, by decide⟩ rfl ?_
  refine ev_gX1 [] [] rfl ?_
  refine ev_ret rfl ?_
  refine ev_g0 rfl ?_
  refine ev_ret rfl ?_
  exact ⟨rfl, xj, (u3 xd 0 t a (dv (decide (b.toInt < 0)) b.toInt.natAbs (0 - ((n1 + 1 : Nat) : Int)))), xf, xo, xi, xn, nI 0, rfl, bdd, lf_X1, lf_X1, (CU_dbl hC ht ha (dv_n _ _ _) lf_X1 lf_X1), (MU_dbl hM ht ha lf_X1 lf_X1 (fun i hi => (rc_isor hC hi).2.2.1))⟩
theorem A2P {ci : Nat → Nat → Nat → Int32} {cn : Nat → Nat → Nat → Nat} {co : Nat → Option Nat} {xj : Nat → Nat → Nat → Int64} {xd : Nat → Nat → Nat → UInt64} {xf : Nat → Nat → Nat → UInt32} {xo : Nat → Nat → Nat → Option Nat} {xi : Nat → Nat → Nat → Int32} {xn : Nat → Nat → Nat → Nat} {K : Nat → Nat} {I : Nat → Nat → Int32} {J : Nat → Nat → Int64} {F : Nat → Nat → UInt32} {D : Nat → Nat → UInt64} {R : Nat → Nat → Option Nat} {nx sl : Nat} {Km : Nat → Nat} {Im : Nat → Nat → Int32} {Jm : Nat → Nat → Int64} {Fm : Nat → Nat → UInt32} {Dm : Nat → Nat → UInt64} {Rm : Nat → Nat → Option Nat} {nxm slm : Nat} (hC : RC ci cn co xj xd xf xo xi xn I J F D R nx sl) (hM : RM ci cn co xj xd xf xo xi xn Im Jm Dm) {t a n1 : Nat} {b : Int32} {go : Int32} (ht : t < 3) (ha : a < 4) (hN : n1 < 61) (x1 : Im 6 39 = nI t) (x2 : Im 6 40 = nI a) (x3 : Im 6 41 = b) (x4 : Im 6 42 = nI n1) (x5 : Im 6 43 = nI 0) (x6 : Im 6 44 = go) : Ct Y_NA_perform [vr 3 54, vr 8 (32 + 7 * t), vi (nI 2), vi (nI a), vi b, vi (nI n1)] (K, I, J, F, D, R, nx, sl) (fun r μ1 => Ct Y_MM_reckons [vr 11 6, vi (nI 2)] (Km, Im, Jm, Fm, Dm, Rm, nxm, slm) (fun r2 μ2 => r2 = none ∧ QA ci cn co go r μ1 μ2)) := by
  refine ct_of h_NA_perform rfl rfl rfl ?_
  refine ev_gX1 [] [some 2] rfl ?_
  refine ev_kV 2 k_NA_21 rfl (C_RE_scIP (pow_c hC) hN) rfl ⟨by decide, by decide⟩ rfl ?_
  refine ev_gX1 [] [] rfl ?_
  refine ev_inV 2 k_NA_31 h_SD_setF rfl rfl rfl rfl rfl ⟨by decide, by decide⟩ rfl ?_
  refine ev_gX1 [] [] rfl ?_
  refine ev_ret rfl ?_
  refine ev_g0 rfl ?_
  refine ev_reti rfl ?_
  refine ct_of h_MM_reckons rfl rfl rfl ?_
  refine ev_gX1 [] [some 2] rfl ?_
  refine ev_top2 (a2 := vi (nI n1)) (b2 := vi b) (by rw [x4]) (by rw [x3]) ?_
  refine ev_kS 2 k_MM_297 rfl (C_MM_movedP hN) ⟨by decide, by decide⟩ rfl ?_
  refine ev_gX1 [] [] rfl ?_
  refine ev_inV 2 k_MM_292 h_MM_small2 rfl rfl rfl rfl rfl ⟨by decide, by decide⟩ rfl ?_
  refine ev_gX1 [] [] rfl ?_
  refine ev_ret rfl ?_
  refine ev_g0 rfl ?_
  refine ev_ret rfl ?_
  exact ⟨rfl, xj, xd, (u3 xf 0 t a (FP.d2f (dv (decide (b.toInt < 0)) b.toInt.natAbs ((n1 : Nat) : Int)))), xo, xi, xn, nI 0, rfl, bdd, lf_X1, lf_X1, (CU_flt hC ht ha (d2f_n (dv_n _ _ _)) lf_X1 lf_X1), (MU_flt hM ht ha lf_X1 lf_X1 (fun i hi => (rc_isor hC hi).2.2.1))⟩
theorem A2N {ci : Nat → Nat → Nat → Int32} {cn : Nat → Nat → Nat → Nat} {co : Nat → Option Nat} {xj : Nat → Nat → Nat → Int64} {xd : Nat → Nat → Nat → UInt64} {xf : Nat → Nat → Nat → UInt32} {xo : Nat → Nat → Nat → Option Nat} {xi : Nat → Nat → Nat → Int32} {xn : Nat → Nat → Nat → Nat} {K : Nat → Nat} {I : Nat → Nat → Int32} {J : Nat → Nat → Int64} {F : Nat → Nat → UInt32} {D : Nat → Nat → UInt64} {R : Nat → Nat → Option Nat} {nx sl : Nat} {Km : Nat → Nat} {Im : Nat → Nat → Int32} {Jm : Nat → Nat → Int64} {Fm : Nat → Nat → UInt32} {Dm : Nat → Nat → UInt64} {Rm : Nat → Nat → Option Nat} {nxm slm : Nat} (hC : RC ci cn co xj xd xf xo xi xn I J F D R nx sl) (hM : RM ci cn co xj xd xf xo xi xn Im Jm Dm) {t a n1 : Nat} {b : Int32} {go : Int32} (ht : t < 3) (ha : a < 4) (hN : n1 + 1 < 61) (x1 : Im 6 39 = nI t) (x2 : Im 6 40 = nI a) (x3 : Im 6 41 = b) (x4 : Im 6 42 = -(nI (n1 + 1))) (x5 : Im 6 43 = nI 0) (x6 : Im 6 44 = go) : Ct Y_NA_perform [vr 3 54, vr 8 (32 + 7 * t), vi (nI 2), vi (nI a), vi b, vi (-(nI (n1 + 1)))] (K, I, J, F, D, R, nx, sl) (fun r μ1 => Ct Y_MM_reckons [vr 11 6, vi (nI 2)] (Km, Im, Jm, Fm, Dm, Rm, nxm, slm) (fun r2 μ2 => r2 = none ∧ QA ci cn co go r μ1 μ2)) := by
  refine ct_of h_NA_perform rfl rfl rfl ?_
  refine ev_gX1 [] [some 2] rfl ?_
  refine ev_kV 2 k_NA_21 rfl (C_RE_scIN (pow_c hC) hN) rfl ⟨by decide, by decide⟩ rfl ?_
  refine ev_gX1 [] [] rfl ?_
  refine ev_inV 2 k_NA_31 h_SD_setF rfl rfl rfl rfl rfl ⟨by decide, by decide⟩ rfl ?_
  refine ev_gX1 [] [] rfl ?_
  refine ev_ret rfl ?_
  refine ev_g0 rfl ?_
  refine ev_reti rfl ?_
  refine ct_of h_MM_reckons rfl rfl rfl ?_
  refine ev_gX1 [] [some 2] rfl ?_
  refine ev_top2 (a2 := vi (-(nI (n1 + 1)))) (b2 := vi b) (by rw [x4]) (by rw [x3]) ?_
  refine ev_kS 2 k_MM_297 rfl (C_MM_movedN hN) ⟨by decide, by decide⟩ rfl ?_
  refine ev_gX1 [] [] rfl ?_
  refine ev_inV 2 k_MM_292 h_MM_small2 rfl rfl rfl rfl rfl ⟨by decide, by decide⟩ rfl ?_
  refine ev_gX1 [] [] rfl ?_
  refine ev_ret rfl ?_
  refine ev_g0 rfl ?_
  refine ev_ret rfl ?_
  exact ⟨rfl, xj, xd, (u3 xf 0 t a (FP.d2f (dv (decide (b.toInt < 0)) b.toInt.natAbs (0 - ((n1 + 1 : Nat) : Int))))), xo, xi, xn, nI 0, rfl, bdd, lf_X1, lf_X1, (CU_flt hC ht ha (d2f_n (dv_n _ _ _)) lf_X1 lf_X1), (MU_flt hM ht ha lf_X1 lf_X1 (fun i hi => (rc_isor hC hi).2.2.1))⟩
