theorem ev_gV {Y : mm_Y} {μ0 : mm_M} {rem : List mm_E} {L : mm_L} {st : List mm_V} {μ : mm_M} {Post : Option mm_V → mm_M → Prop} (bs : List Bool) (os : List (Option Nat)) {e2 : mm_E} {rem2 : List mm_E} {L2 : mm_L} {st2 : List mm_V} {μ2 : mm_M} {P2 : Prop} (h : mm_go 5000 (mm_co Y) rem L st μ bs os True = some (e2 :: rem2, L2, st2, μ2, P2)) (k : Ev Y μ0 (e2 :: rem2) L2 st2 μ2 Post) (hp : P2 := by (repeat' apply And.intro) <;> first | exact trivial | assumption | rfl | decide | omega | (simp (disch := first | assumption | omega | decide) only [i_add, i_mul, n_cl, nI_and7, nI_and3, v_in, i_eq, i_lt, i_le, i_eq0, i_lt0, i_ge0, i_gt0, i_le0, lg_cmp_eq, lg_cmp_ge, lg_cmp_gt, lg_cmp_le, lg_cmp_lt, zb_e0, zb_n0, Classical.not_not, up_ne, Nat.zero_add, Nat.add_zero, rc_num hC, rc_hol hC, rc_who hC, rc_rea hC, rc_par hC, rc_nn hC, rc_xx hC, rc_ff hC, rc_nxt hC, rc_lin hC, rc_sor hC, rc_len hC, rc_own hC, rc_tim hC, rc_tal hC, rc_dbl hC, rc_flt hC, rc_mad hC, rc_trc hC, rc_mk0 hC, rc_mk1 hC, rc_mk2 hC, rc_tix hC, rc_thg hC, rm_num hM, rm_hol hM, rm_who hM, rm_rea hM, rm_par hM, rm_nn hM, rm_xx hM, rm_ff hM, rm_nxt hM, rm_lin hM, rm_sor hM, rm_len hM, rm_own hM, rm_tim hM, rm_tal hM, rm_dbl hM, rm_flt hM, rm_mad hM, rm_trc hM, rm_mk hM, tR_s, tR_n, eI_s, eI_n, e_nm, e_mm, lN_i, l_lt, l_le, l_eq, l_z, lN_t, nI_tl, n_s1, i_sub, eLi, eL_s, eL_n, up_eq, mkz, i_l1, i_l2, i_l3, n_ti, i_tl2, e_mn, *] <;> first | assumption | omega | decide)) : Ev Y μ0 rem L st μ Post := ev_go bs os h hp k
theorem ev_bV {Y : mm_Y} {μ0 : mm_M} {rem : List mm_E} {L : mm_L} {st : List mm_V} {μ : mm_M} {Post : Option mm_V → mm_M → Prop} {e2 e3 : mm_E} {rem2 rem3 : List mm_E} {L2 L3 : mm_L} {st2 st3 : List mm_V} {μ2 μ3 : mm_M} {c c2 d d2 : Prop} (hT : mm_go 1 (mm_co Y) rem L st μ [true] [] True = some (e2 :: rem2, L2, st2, μ2, True ∧ c)) (hF : mm_go 1 (mm_co Y) rem L st μ [false] [] True = some (e3 :: rem3, L3, st3, μ3, True ∧ c2)) (kt : d → Ev Y μ0 (e2 :: rem2) L2 st2 μ2 Post) (kf : d2 → Ev Y μ0 (e3 :: rem3) L3 st3 μ3 Post) (hc : ¬ c → c2 := by first | exact id | exact Classical.not_not.mp) (g1 : c → d := by intro hh; (try simp (disch := first | assumption | omega | decide) only [i_add, i_mul, n_cl, nI_and7, nI_and3, v_in, i_eq, i_lt, i_le, i_eq0, i_lt0, i_ge0, i_gt0, i_le0, lg_cmp_eq, lg_cmp_ge, lg_cmp_gt, lg_cmp_le, lg_cmp_lt, zb_e0, zb_n0, Classical.not_not, up_ne, Nat.zero_add, Nat.add_zero, rc_num hC, rc_hol hC, rc_who hC, rc_rea hC, rc_par hC, rc_nn hC, rc_xx hC, rc_ff hC, rc_nxt hC, rc_lin hC, rc_sor hC, rc_len hC, rc_own hC, rc_tim hC, rc_tal hC, rc_dbl hC, rc_flt hC, rc_mad hC, rc_trc hC, rc_mk0 hC, rc_mk1 hC, rc_mk2 hC, rc_tix hC, rc_thg hC, rm_num hM, rm_hol hM, rm_who hM, rm_rea hM, rm_par hM, rm_nn hM, rm_xx hM, rm_ff hM, rm_nxt hM, rm_lin hM, rm_sor hM, rm_len hM, rm_own hM, rm_tim hM, rm_tal hM, rm_dbl hM, rm_flt hM, rm_mad hM, rm_trc hM, rm_mk hM, tR_s, tR_n, eI_s, eI_n, e_nm, e_mm, lN_i, l_lt, l_le, l_eq, l_z, lN_t, nI_tl, n_s1, i_sub, eLi, eL_s, eL_n, up_eq, mkz, i_l1, i_l2, i_l3, n_ti, i_tl2, e_mn, *] at hh); exact hh) (g2 : c2 → d2 := by intro hh; (try simp (disch := first | assumption | omega | decide) only [i_add, i_mul, n_cl, nI_and7, nI_and3, v_in, i_eq, i_lt, i_le, i_eq0, i_lt0, i_ge0, i_gt0, i_le0, lg_cmp_eq, lg_cmp_ge, lg_cmp_gt, lg_cmp_le, lg_cmp_lt, zb_e0, zb_n0, Classical.not_not, up_ne, Nat.zero_add, Nat.add_zero, rc_num hC, rc_hol hC, rc_who hC, rc_rea hC, rc_par hC, rc_nn hC, rc_xx hC, rc_ff hC, rc_nxt hC, rc_lin hC, rc_sor hC, rc_len hC, rc_own hC, rc_tim hC, rc_tal hC, rc_dbl hC, rc_flt hC, rc_mad hC, rc_trc hC, rc_mk0 hC, rc_mk1 hC, rc_mk2 hC, rc_tix hC, rc_thg hC, rm_num hM, rm_hol hM, rm_who hM, rm_rea hM, rm_par hM, rm_nn hM, rm_xx hM, rm_ff hM, rm_nxt hM, rm_lin hM, rm_sor hM, rm_len hM, rm_own hM, rm_tim hM, rm_tal hM, rm_dbl hM, rm_flt hM, rm_mad hM, rm_trc hM, rm_mk hM, tR_s, tR_n, eI_s, eI_n, e_nm, e_mm, lN_i, l_lt, l_le, l_eq, l_z, lN_t, nI_tl, n_s1, i_sub, eLi, eL_s, eL_n, up_eq, mkz, i_l1, i_l2, i_l3, n_ti, i_tl2, e_mn, *] at hh); exact hh) : Ev Y μ0 rem L st μ Post := ev_br hT hF hc (fun h => kt (g1 h)) (fun h => kf (g2 h))
theorem lf_V {p : Prop} (h : p := by first | rfl | assumption | (simp (disch := first | assumption | omega | decide) only [i_add, i_mul, n_cl, nI_and7, nI_and3, v_in, i_eq, i_lt, i_le, i_eq0, i_lt0, i_ge0, i_gt0, i_le0, lg_cmp_eq, lg_cmp_ge, lg_cmp_gt, lg_cmp_le, lg_cmp_lt, zb_e0, zb_n0, Classical.not_not, up_ne, Nat.zero_add, Nat.add_zero, rc_num hC, rc_hol hC, rc_who hC, rc_rea hC, rc_par hC, rc_nn hC, rc_xx hC, rc_ff hC, rc_nxt hC, rc_lin hC, rc_sor hC, rc_len hC, rc_own hC, rc_tim hC, rc_tal hC, rc_dbl hC, rc_flt hC, rc_mad hC, rc_trc hC, rc_mk0 hC, rc_mk1 hC, rc_mk2 hC, rc_tix hC, rc_thg hC, rm_num hM, rm_hol hM, rm_who hM, rm_rea hM, rm_par hM, rm_nn hM, rm_xx hM, rm_ff hM, rm_nxt hM, rm_lin hM, rm_sor hM, rm_len hM, rm_own hM, rm_tim hM, rm_tal hM, rm_dbl hM, rm_flt hM, rm_mad hM, rm_trc hM, rm_mk hM, tR_s, tR_n, eI_s, eI_n, e_nm, e_mm, lN_i, l_lt, l_le, l_eq, l_z, lN_t, nI_tl, n_s1, i_sub, eLi, eL_s, eL_n, up_eq, mkz, i_l1, i_l2, i_l3, n_ti, i_tl2, e_mn, *] <;> first | rfl | assumption | omega | decide)) : p := h
theorem A48_0 {ci : Nat → Nat → Nat → Int32} {cn : Nat → Nat → Nat → Nat} {co : Nat → Option Nat} {xj : Nat → Nat → Nat → Int64} {xd : Nat → Nat → Nat → UInt64} {xf : Nat → Nat → Nat → UInt32} {xo : Nat → Nat → Nat → Option Nat} {xi : Nat → Nat → Nat → Int32} {xn : Nat → Nat → Nat → Nat} {K : Nat → Nat} {I : Nat → Nat → Int32} {J : Nat → Nat → Int64} {F : Nat → Nat → UInt32} {D : Nat → Nat → UInt64} {R : Nat → Nat → Option Nat} {nx sl : Nat} {Km : Nat → Nat} {Im : Nat → Nat → Int32} {Jm : Nat → Nat → Int64} {Fm : Nat → Nat → UInt32} {Dm : Nat → Nat → UInt64} {Rm : Nat → Nat → Option Nat} {nxm slm : Nat} (hC : RC ci cn co xj xd xf xo xi xn I J F D R nx sl) (hM : RM ci cn co xj xd xf xo xi xn Im Jm Dm) {t a b : Nat} {go : Int32} (ht : t < 3) (ha : a < 8) (hb : b < 8) (x1 : Im 6 39 = nI t) (x2 : Im 6 40 = nI a) (x3 : Im 6 41 = nI b) (x4 : Im 6 42 = nI 0) (x5 : Im 6 43 = nI 0) (x6 : Im 6 44 = go) : Ct Y_HA_perform [vr 1 55, vr 8 (32 + 7 * t), vi (nI 48), vi (nI a), vi (nI b), vi (nI 0)] (K, I, J, F, D, R, nx, sl) (fun r μ1 => Ct Y_MM_handles [vr 11 6, vi (nI 48)] (Km, Im, Jm, Fm, Dm, Rm, nxm, slm) (fun r2 μ2 => r2 = none ∧ QA ci cn co go r μ1 μ2)) := by
  rcases ho : xo 0 t b with _ | q
  · skip
    refine ct_of h_HA_perform rfl rfl rfl ?_
    refine ev_gV [] [some 36] rfl ?_
    refine ev_inV 1 k_HA_15 h_SD_t rfl rfl rfl rfl rfl ⟨by decide, by decide⟩ rfl ?_
    refine ev_gV [] [none] rfl ?_
    refine ev_retn rfl ?_
    refine ev_g0 rfl ?_
    refine ev_inS 2 k_HA_49 h_HA_isA rfl rfl rfl rfl ⟨by decide, by decide⟩ rfl ?_
    refine ev_g0 rfl ?_
    refine ev_retz rfl (by first | decide | exact zb_01 _) ?_
    refine ev_gV [true] [] rfl ?_
    refine ev_inV 2 k_HA_53 h_SD_setN rfl rfl rfl rfl rfl ⟨by decide, by decide⟩ rfl ?_
    refine ev_gV [] [] rfl ?_
    refine ev_ret rfl ?_
    refine ev_g0 rfl ?_
    refine ev_reti rfl ?_
    refine ct_of h_MM_handles rfl rfl rfl ?_
    refine ev_g0 rfl ?_
    refine ev_inV 1 k_MM_344 h_MM_hold rfl rfl rfl rfl rfl ⟨by decide, by decide⟩ rfl ?_
    refine ev_gV [] [] rfl ?_
    refine ev_reti rfl ?_
    refine ev_gV [true] [some 12] rfl ?_
    refine ev_inV 2 k_MM_288 h_MM_lay rfl rfl rfl rfl rfl ⟨by decide, by decide⟩ rfl ?_
    refine ev_gV [] [] rfl ?_
    refine ev_ret rfl ?_
    refine ev_g0 rfl ?_
    refine ev_ret rfl ?_
    exact ⟨rfl, (u3 xj 0 t a ((nI 0).toInt64)), xd, xf, xo, xi, xn, nI 0, rfl, bdd, lf_V, lf_V, (CU_num hC ht ha lf_V lf_V), (MU_num hM ht ha lf_V lf_V (fun i hi => (rc_isor hC hi).2.2.1))⟩
  · skip
    have hq := rc_ihol hC ht hb _ ho
    have zq := rc_isor hC hq
    have yq := rc_imad hC
    refine ct_of h_HA_perform rfl rfl rfl ?_
    refine ev_gV [] [some 36] rfl ?_
    refine ev_inV 1 k_HA_15 h_SD_t rfl rfl rfl rfl rfl ⟨by decide, by decide⟩ rfl ?_
    refine ev_gV [] [some (94 + 4 * q)] rfl ?_
    refine ev_reta rfl ?_
    refine ev_g0 rfl ?_
    refine ev_inS 2 k_HA_49 h_HA_isA rfl rfl rfl rfl ⟨by decide, by decide⟩ rfl ?_
    refine ev_g0 rfl ?_
    refine ev_inV 1 k_HA_61 h_TH_isA rfl rfl rfl rfl rfl ⟨by decide, by decide⟩ rfl ?_
    refine ev_gV [true, true] [none] rfl ?_
    refine ev_bV rfl rfl (fun h_1 => ?_) (fun h_1 => ?_)
    · skip
      refine ev_g0 rfl ?_
      refine ev_retz rfl (by first | decide | exact zb_01 _) ?_
      refine ev_gV [true] [] rfl ?_
      refine ev_retz rfl (by first | decide | exact zb_01 _) ?_
      refine ev_gV [true] [] rfl ?_
      refine ev_inV 2 k_HA_53 h_SD_setN rfl rfl rfl rfl rfl ⟨by decide, by decide⟩ rfl ?_
      refine ev_gV [] [] rfl ?_
      refine ev_ret rfl ?_
      refine ev_g0 rfl ?_
      refine ev_reti rfl ?_
      refine ct_of h_MM_handles rfl rfl rfl ?_
      refine ev_g0 rfl ?_
      refine ev_inV 1 k_MM_344 h_MM_hold rfl rfl rfl rfl rfl ⟨by decide, by decide⟩ rfl ?_
      refine ev_gV [] [] rfl ?_
      refine ev_reti rfl ?_
      refine ev_gV [false] [some 12] rfl ?_
      refine ev_inV 2 k_MM_202 h_MM_isKind rfl rfl rfl rfl rfl ⟨by decide, by decide⟩ rfl ?_
      refine ev_gV [true, true] [] rfl ?_
      refine ev_retz rfl (by first | decide | exact zb_01 _) ?_
      refine ev_gV [true] [] rfl ?_
      refine ev_inV 2 k_MM_288 h_MM_lay rfl rfl rfl rfl rfl ⟨by decide, by decide⟩ rfl ?_
      refine ev_gV [] [] rfl ?_
      refine ev_ret rfl ?_
      refine ev_g0 rfl ?_
      refine ev_ret rfl ?_
      exact ⟨rfl, (u3 xj 0 t a ((nI 0).toInt64)), xd, xf, xo, xi, xn, nI 0, rfl, bdd, lf_V, lf_V, (CU_num hC ht ha lf_V lf_V), (MU_num hM ht ha lf_V lf_V (fun i hi => (rc_isor hC hi).2.2.1))⟩
    · skip
      refine ev_g0 rfl ?_
      refine ev_retz rfl (by first | decide | exact zb_01 _) ?_
      refine ev_gV [false] [] rfl ?_
      refine ev_retz rfl (by first | decide | exact zb_01 _) ?_
      refine ev_gV [false] [] rfl ?_
      refine ev_inV 2 k_HA_53 h_SD_setN rfl rfl rfl rfl rfl ⟨by decide, by decide⟩ rfl ?_
      refine ev_gV [] [] rfl ?_
      refine ev_ret rfl ?_
      refine ev_g0 rfl ?_
      refine ev_reti rfl ?_
      refine ct_of h_MM_handles rfl rfl rfl ?_
      refine ev_g0 rfl ?_
      refine ev_inV 1 k_MM_344 h_MM_hold rfl rfl rfl rfl rfl ⟨by decide, by decide⟩ rfl ?_
      refine ev_gV [] [] rfl ?_
      refine ev_reti rfl ?_
      refine ev_gV [false] [some 12] rfl ?_
      refine ev_inV 2 k_MM_202 h_MM_isKind rfl rfl rfl rfl rfl ⟨by decide, by decide⟩ rfl ?_
      refine ev_gV [true, false] [] rfl ?_
      refine ev_retz rfl (by first | decide | exact zb_01 _) ?_
      refine ev_gV [false] [] rfl ?_
      refine ev_inV 2 k_MM_288 h_MM_lay rfl rfl rfl rfl rfl ⟨by decide, by decide⟩ rfl ?_
      refine ev_gV [] [] rfl ?_
      refine ev_ret rfl ?_
      refine ev_g0 rfl ?_
      refine ev_ret rfl ?_
      exact ⟨rfl, (u3 xj 0 t a ((nI 1).toInt64)), xd, xf, xo, xi, xn, nI 0, rfl, bdd, lf_V, lf_V, (CU_num hC ht ha lf_V lf_V), (MU_num hM ht ha lf_V lf_V (fun i hi => (rc_isor hC hi).2.2.1))⟩
theorem A49_0 {ci : Nat → Nat → Nat → Int32} {cn : Nat → Nat → Nat → Nat} {co : Nat → Option Nat} {xj : Nat → Nat → Nat → Int64} {xd : Nat → Nat → Nat → UInt64} {xf : Nat → Nat → Nat → UInt32} {xo : Nat → Nat → Nat → Option Nat} {xi : Nat → Nat → Nat → Int32} {xn : Nat → Nat → Nat → Nat} {K : Nat → Nat} {I : Nat → Nat → Int32} {J : Nat → Nat → Int64} {F : Nat → Nat → UInt32} {D : Nat → Nat → UInt64} {R : Nat → Nat → Option Nat} {nx sl : Nat} {Km : Nat → Nat} {Im : Nat → Nat → Int32} {Jm : Nat → Nat → Int64} {Fm : Nat → Nat → UInt32} {Dm : Nat → Nat → UInt64} {Rm : Nat → Nat → Option Nat} {nxm slm : Nat} (hC : RC ci cn co xj xd xf xo xi xn I J F D R nx sl) (hM : RM ci cn co xj xd xf xo xi xn Im Jm Dm) {t a b : Nat} {go : Int32} (ht : t < 3) (ha : a < 8) (hb : b < 8) (x1 : Im 6 39 = nI t) (x2 : Im 6 40 = nI a) (x3 : Im 6 41 = nI b) (x4 : Im 6 42 = nI 0) (x5 : Im 6 43 = nI 0) (x6 : Im 6 44 = go) : Ct Y_HA_perform [vr 1 55, vr 8 (32 + 7 * t), vi (nI 49), vi (nI a), vi (nI b), vi (nI 0)] (K, I, J, F, D, R, nx, sl) (fun r μ1 => Ct Y_MM_handles [vr 11 6, vi (nI 49)] (Km, Im, Jm, Fm, Dm, Rm, nxm, slm) (fun r2 μ2 => r2 = none ∧ QA ci cn co go r μ1 μ2)) := by
  rcases ho : xo 0 t b with _ | q
  · skip
    refine ct_of h_HA_perform rfl rfl rfl ?_
    refine ev_gV [] [some 37] rfl ?_
    refine ev_inV 1 k_HA_15 h_SD_t rfl rfl rfl rfl rfl ⟨by decide, by decide⟩ rfl ?_
    refine ev_gV [] [none] rfl ?_
    refine ev_retn rfl ?_
    refine ev_g0 rfl ?_
    refine ev_inS 4 k_HA_57 h_HA_takeAs rfl rfl rfl rfl ⟨by decide, by decide⟩ rfl ?_
    refine ev_g0 rfl ?_
    refine ev_inV 2 k_HA_21 h_SD_setT rfl rfl rfl rfl rfl ⟨by decide, by decide⟩ rfl ?_
    refine ev_gV [] [] rfl ?_
    refine ev_ret rfl ?_
    refine ev_g0 rfl ?_
    refine ev_reti rfl ?_
    refine ev_g0 rfl ?_
    refine ev_reti rfl ?_
    refine ct_of h_MM_handles rfl rfl rfl ?_
    refine ev_g0 rfl ?_
    refine ev_inV 1 k_MM_344 h_MM_hold rfl rfl rfl rfl rfl ⟨by decide, by decide⟩ rfl ?_
    refine ev_gV [] [] rfl ?_
    refine ev_reti rfl ?_
    refine ev_gV [] [some 13] rfl ?_
    refine ev_inV 2 k_MM_354 h_MM_takes rfl rfl rfl rfl rfl ⟨by decide, by decide⟩ rfl ?_
    refine ev_gV [true] [] rfl ?_
    refine ev_retz rfl (by first | decide | exact zb_01 _) ?_
    refine ev_gV [false] [] rfl ?_
    refine ev_inV 2 k_MM_336 h_MM_keep rfl rfl rfl rfl rfl ⟨by decide, by decide⟩ rfl ?_
    refine ev_gV [] [] rfl ?_
    refine ev_ret rfl ?_
    refine ev_g0 rfl ?_
    refine ev_ret rfl ?_
    exact ⟨rfl, xj, xd, xf, (u3 xo 0 t a (none)), xi, xn, nI 0, rfl, bdd, lf_V, lf_V, (CU_hol hC ht ha (fun _ h => by cases h) lf_V lf_V), (MU_hol hM ht ha lf_V lf_V (fun i hi => (rc_isor hC hi).2.2.1))⟩
  · skip
    have hq := rc_ihol hC ht hb _ ho
    have zq := rc_isor hC hq
    have yq := rc_imad hC
    refine ct_of h_HA_perform rfl rfl rfl ?_
    refine ev_gV [] [some 37] rfl ?_
    refine ev_inV 1 k_HA_15 h_SD_t rfl rfl rfl rfl rfl ⟨by decide, by decide⟩ rfl ?_
    refine ev_gV [] [some (94 + 4 * q)] rfl ?_
    refine ev_reta rfl ?_
    refine ev_g0 rfl ?_
    refine ev_inS 4 k_HA_57 h_HA_takeAs rfl rfl rfl rfl ⟨by decide, by decide⟩ rfl ?_
    refine ev_g0 rfl ?_
    refine ev_inV 1 k_HA_61 h_TH_isA rfl rfl rfl rfl rfl ⟨by decide, by decide⟩ rfl ?_
    refine ev_gV [true, true] [none] rfl ?_
    refine ev_bV rfl rfl (fun h_1 => ?_) (fun h_1 => ?_)
    · skip
      refine ev_g0 rfl ?_
      refine ev_retz rfl (by first | decide | exact zb_01 _) ?_
      refine ev_gV [false] [] rfl ?_
      refine ev_reti rfl ?_
      refine ev_g0 rfl ?_
      refine ev_reti rfl ?_
      refine ct_of h_MM_handles rfl rfl rfl ?_
      refine ev_g0 rfl ?_
      refine ev_inV 1 k_MM_344 h_MM_hold rfl rfl rfl rfl rfl ⟨by decide, by decide⟩ rfl ?_
      refine ev_gV [] [] rfl ?_
      refine ev_reti rfl ?_
      refine ev_gV [] [some 13] rfl ?_
      refine ev_inV 2 k_MM_354 h_MM_takes rfl rfl rfl rfl rfl ⟨by decide, by decide⟩ rfl ?_
      refine ev_gV [false] [] rfl ?_
      refine ev_inV 2 k_MM_202 h_MM_isKind rfl rfl rfl rfl rfl ⟨by decide, by decide⟩ rfl ?_
      refine ev_gV [true, true] [] rfl ?_
      refine ev_retz rfl (by first | decide | exact zb_01 _) ?_
      refine ev_gV [false] [] rfl ?_
      refine ev_retz rfl (by first | decide | exact zb_01 _) ?_
      refine ev_gV [true] [] rfl ?_
      refine ev_ret rfl ?_
      exact ⟨rfl, xj, xd, xf, xo, xi, xn, nI 3, rfl, bdd, lf_V, lf_V, hC, hM⟩
    · skip
      refine ev_g0 rfl ?_
      refine ev_retz rfl (by first | decide | exact zb_01 _) ?_
      refine ev_gV [true] [] rfl ?_
      refine ev_inV 2 k_HA_21 h_SD_setT rfl rfl rfl rfl rfl ⟨by decide, by decide⟩ rfl ?_
      refine ev_gV [] [] rfl ?_
      refine ev_ret rfl ?_
      refine ev_g0 rfl ?_
      refine ev_reti rfl ?_
      refine ev_g0 rfl ?_
      refine ev_reti rfl ?_
      refine ct_of h_MM_handles rfl rfl rfl ?_
      refine ev_g0 rfl ?_
      refine ev_inV 1 k_MM_344 h_MM_hold rfl rfl rfl rfl rfl ⟨by decide, by decide⟩ rfl ?_
      refine ev_gV [] [] rfl ?_
      refine ev_reti rfl ?_
      refine ev_gV [] [some 13] rfl ?_
      refine ev_inV 2 k_MM_354 h_MM_takes rfl rfl rfl rfl rfl ⟨by decide, by decide⟩ rfl ?_
      refine ev_gV [false] [] rfl ?_
      refine ev_inV 2 k_MM_202 h_MM_isKind rfl rfl rfl rfl rfl ⟨by decide, by decide⟩ rfl ?_
      refine ev_gV [true, false] [] rfl ?_
      refine ev_retz rfl (by first | decide | exact zb_01 _) ?_
      refine ev_gV [true] [] rfl ?_
      refine ev_retz rfl (by first | decide | exact zb_01 _) ?_
      refine ev_gV [false] [] rfl ?_
      refine ev_inV 2 k_MM_336 h_MM_keep rfl rfl rfl rfl rfl ⟨by decide, by decide⟩ rfl ?_
      refine ev_gV [] [] rfl ?_
      refine ev_ret rfl ?_
      refine ev_g0 rfl ?_
      refine ev_ret rfl ?_
      exact ⟨rfl, xj, xd, xf, (u3 xo 0 t a (some q)), xi, xn, nI 0, rfl, bdd, lf_V, lf_V, (CU_hol hC ht ha (fun _ h => by cases h; exact hq) lf_V lf_V), (MU_hol hM ht ha lf_V lf_V (fun i hi => (rc_isor hC hi).2.2.1))⟩
theorem A48_1 {ci : Nat → Nat → Nat → Int32} {cn : Nat → Nat → Nat → Nat} {co : Nat → Option Nat} {xj : Nat → Nat → Nat → Int64} {xd : Nat → Nat → Nat → UInt64} {xf : Nat → Nat → Nat → UInt32} {xo : Nat → Nat → Nat → Option Nat} {xi : Nat → Nat → Nat → Int32} {xn : Nat → Nat → Nat → Nat} {K : Nat → Nat} {I : Nat → Nat → Int32} {J : Nat → Nat → Int64} {F : Nat → Nat → UInt32} {D : Nat → Nat → UInt64} {R : Nat → Nat → Option Nat} {nx sl : Nat} {Km : Nat → Nat} {Im : Nat → Nat → Int32} {Jm : Nat → Nat → Int64} {Fm : Nat → Nat → UInt32} {Dm : Nat → Nat → UInt64} {Rm : Nat → Nat → Option Nat} {nxm slm : Nat} (hC : RC ci cn co xj xd xf xo xi xn I J F D R nx sl) (hM : RM ci cn co xj xd xf xo xi xn Im Jm Dm) {t a b : Nat} {go : Int32} (ht : t < 3) (ha : a < 8) (hb : b < 8) (x1 : Im 6 39 = nI t) (x2 : Im 6 40 = nI a) (x3 : Im 6 41 = nI b) (x4 : Im 6 42 = nI 1) (x5 : Im 6 43 = nI 0) (x6 : Im 6 44 = go) : Ct Y_HA_perform [vr 1 55, vr 8 (32 + 7 * t), vi (nI 48), vi (nI a), vi (nI b), vi (nI 1)] (K, I, J, F, D, R, nx, sl) (fun r μ1 => Ct Y_MM_handles [vr 11 6, vi (nI 48)] (Km, Im, Jm, Fm, Dm, Rm, nxm, slm) (fun r2 μ2 => r2 = none ∧ QA ci cn co go r μ1 μ2)) := by
  rcases ho : xo 0 t b with _ | q
  · skip
    refine ct_of h_HA_perform rfl rfl rfl ?_
    refine ev_gV [] [some 36] rfl ?_
    refine ev_inV 1 k_HA_15 h_SD_t rfl rfl rfl rfl rfl ⟨by decide, by decide⟩ rfl ?_
    refine ev_gV [] [none] rfl ?_
    refine ev_retn rfl ?_
    refine ev_g0 rfl ?_
    refine ev_inS 2 k_HA_49 h_HA_isA rfl rfl rfl rfl ⟨by decide, by decide⟩ rfl ?_
    refine ev_g0 rfl ?_
    refine ev_retz rfl (by first | decide | exact zb_01 _) ?_
    refine ev_gV [true] [] rfl ?_
    refine ev_inV 2 k_HA_53 h_SD_setN rfl rfl rfl rfl rfl ⟨by decide, by decide⟩ rfl ?_
    refine ev_gV [] [] rfl ?_
    refine ev_ret rfl ?_
    refine ev_g0 rfl ?_
    refine ev_reti rfl ?_
    refine ct_of h_MM_handles rfl rfl rfl ?_
    refine ev_g0 rfl ?_
    refine ev_inV 1 k_MM_344 h_MM_hold rfl rfl rfl rfl rfl ⟨by decide, by decide⟩ rfl ?_
    refine ev_gV [] [] rfl ?_
    refine ev_reti rfl ?_
    refine ev_gV [true] [some 12] rfl ?_
    refine ev_inV 2 k_MM_288 h_MM_lay rfl rfl rfl rfl rfl ⟨by decide, by decide⟩ rfl ?_
    refine ev_gV [] [] rfl ?_
    refine ev_ret rfl ?_
    refine ev_g0 rfl ?_
    refine ev_ret rfl ?_
    exact ⟨rfl, (u3 xj 0 t a ((nI 0).toInt64)), xd, xf, xo, xi, xn, nI 0, rfl, bdd, lf_V, lf_V, (CU_num hC ht ha lf_V lf_V), (MU_num hM ht ha lf_V lf_V (fun i hi => (rc_isor hC hi).2.2.1))⟩
  · skip
    have hq := rc_ihol hC ht hb _ ho
    have zq := rc_isor hC hq
    have yq := rc_imad hC
    refine ct_of h_HA_perform rfl rfl rfl ?_
    refine ev_gV [] [some 36] rfl ?_
    refine ev_inV 1 k_HA_15 h_SD_t rfl rfl rfl rfl rfl ⟨by decide, by decide⟩ rfl ?_
    refine ev_gV [] [some (94 + 4 * q)] rfl ?_
    refine ev_reta rfl ?_
    refine ev_g0 rfl ?_
    refine ev_inS 2 k_HA_49 h_HA_isA rfl rfl rfl rfl ⟨by decide, by decide⟩ rfl ?_
    refine ev_g0 rfl ?_
    refine ev_inV 1 k_HA_61 h_TH_isA rfl rfl rfl rfl rfl ⟨by decide, by decide⟩ rfl ?_
    refine ev_gV [true, true] [none] rfl ?_
    refine ev_bV rfl rfl (fun h_1 => ?_) (fun h_1 => ?_)
    · skip
      refine ev_g0 rfl ?_
      refine ev_retz rfl (by first | decide | exact zb_01 _) ?_
      refine ev_gV [true] [] rfl ?_
      refine ev_retz rfl (by first | decide | exact zb_01 _) ?_
      refine ev_gV [true] [] rfl ?_
      refine ev_inV 2 k_HA_53 h_SD_setN rfl rfl rfl rfl rfl ⟨by decide, by decide⟩ rfl ?_
      refine ev_gV [] [] rfl ?_
      refine ev_ret rfl ?_
      refine ev_g0 rfl ?_
      refine ev_reti rfl ?_
      refine ct_of h_MM_handles rfl rfl rfl ?_
      refine ev_g0 rfl ?_
      refine ev_inV 1 k_MM_344 h_MM_hold rfl rfl rfl rfl rfl ⟨by decide, by decide⟩ rfl ?_
      refine ev_gV [] [] rfl ?_
      refine ev_reti rfl ?_
      refine ev_gV [false] [some 12] rfl ?_
      refine ev_inV 2 k_MM_202 h_MM_isKind rfl rfl rfl rfl rfl ⟨by decide, by decide⟩ rfl ?_
      refine ev_gV [true, true] [] rfl ?_
      refine ev_retz rfl (by first | decide | exact zb_01 _) ?_
      refine ev_gV [true] [] rfl ?_
      refine ev_inV 2 k_MM_288 h_MM_lay rfl rfl rfl rfl rfl ⟨by decide, by decide⟩ rfl ?_
      refine ev_gV [] [] rfl ?_
      refine ev_ret rfl ?_
      refine ev_g0 rfl ?_
      refine ev_ret rfl ?_
      exact ⟨rfl, (u3 xj 0 t a ((nI 0).toInt64)), xd, xf, xo, xi, xn, nI 0, rfl, bdd, lf_V, lf_V, (CU_num hC ht ha lf_V lf_V), (MU_num hM ht ha lf_V lf_V (fun i hi => (rc_isor hC hi).2.2.1))⟩
    · skip
      refine ev_g0 rfl ?_
      refine ev_retz rfl (by first | decide | exact zb_01 _) ?_
      refine ev_gV [false] [] rfl ?_
      refine ev_retz rfl (by first | decide | exact zb_01 _) ?_
      refine ev_gV [false] [] rfl ?_
      refine ev_inV 2 k_HA_53 h_SD_setN rfl rfl rfl rfl rfl ⟨by decide, by decide⟩ rfl ?_
      refine ev_gV [] [] rfl ?_
      refine ev_ret rfl ?_
      refine ev_g0 rfl ?_
      refine ev_reti rfl ?_
      refine ct_of h_MM_handles rfl rfl rfl ?_
      refine ev_g0 rfl ?_
      refine ev_inV 1 k_MM_344 h_MM_hold rfl rfl rfl rfl rfl ⟨by decide, by decide⟩ rfl ?_
      refine ev_gV [] [] rfl ?_
      refine ev_reti rfl ?_
      refine ev_gV [false] [some 12] rfl ?_
      refine ev_inV 2 k_MM_202 h_MM_isKind rfl rfl rfl rfl rfl ⟨by decide, by decide⟩ rfl ?_
      refine ev_gV [true, false] [] rfl ?_
      refine ev_retz rfl (by first | decide | exact zb_01 _) ?_
      refine ev_gV [false] [] rfl ?_
      refine ev_inV 2 k_MM_288 h_MM_lay rfl rfl rfl rfl rfl ⟨by decide, by decide⟩ rfl ?_
      refine ev_gV [] [] rfl ?_
      refine ev_ret rfl ?_
      refine ev_g0 rfl ?_
      refine ev_ret rfl ?_
      exact ⟨rfl, (u3 xj 0 t a ((nI 1).toInt64)), xd, xf, xo, xi, xn, nI 0, rfl, bdd, lf_V, lf_V, (CU_num hC ht ha lf_V lf_V), (MU_num hM ht ha lf_V lf_V (fun i hi => (rc_isor hC hi).2.2.1))⟩
theorem A49_1 {ci : Nat → Nat → Nat → Int32} {cn : Nat → Nat → Nat → Nat} {co : Nat → Option Nat} {xj : Nat → Nat → Nat → Int64} {xd : Nat → Nat → Nat → UInt64} {xf : Nat → Nat → Nat → UInt32} {xo : Nat → Nat → Nat → Option Nat} {xi : Nat → Nat → Nat → Int32} {xn : Nat → Nat → Nat → Nat} {K : Nat → Nat} {I : Nat → Nat → Int32} {J : Nat → Nat → Int64} {F : Nat → Nat → UInt32} {D : Nat → Nat → UInt64} {R : Nat → Nat → Option Nat} {nx sl : Nat} {Km : Nat → Nat} {Im : Nat → Nat → Int32} {Jm : Nat → Nat → Int64} {Fm : Nat → Nat → UInt32} {Dm : Nat → Nat → UInt64} {Rm : Nat → Nat → Option Nat} {nxm slm : Nat} (hC : RC ci cn co xj xd xf xo xi xn I J F D R nx sl) (hM : RM ci cn co xj xd xf xo xi xn Im Jm Dm) {t a b : Nat} {go : Int32} (ht : t < 3) (ha : a < 8) (hb : b < 8) (x1 : Im 6 39 = nI t) (x2 : Im 6 40 = nI a) (x3 : Im 6 41 = nI b) (x4 : Im 6 42 = nI 1) (x5 : Im 6 43 = nI 0) (x6 : Im 6 44 = go) : Ct Y_HA_perform [vr 1 55, vr 8 (32 + 7 * t), vi (nI 49), vi (nI a), vi (nI b), vi (nI 1)] (K, I, J, F, D, R, nx, sl) (fun r μ1 => Ct Y_MM_handles [vr 11 6, vi (nI 49)] (Km, Im, Jm, Fm, Dm, Rm, nxm, slm) (fun r2 μ2 => r2 = none ∧ QA ci cn co go r μ1 μ2)) := by
  rcases ho : xo 0 t b with _ | q
  · skip
    refine ct_of h_HA_perform rfl rfl rfl ?_
    refine ev_gV [] [some 37] rfl ?_
    refine ev_inV 1 k_HA_15 h_SD_t rfl rfl rfl rfl rfl ⟨by decide, by decide⟩ rfl ?_
    refine ev_gV [] [none] rfl ?_
    refine ev_retn rfl ?_
    refine ev_g0 rfl ?_
    refine ev_inS 4 k_HA_57 h_HA_takeAs rfl rfl rfl rfl ⟨by decide, by decide⟩ rfl ?_
    refine ev_g0 rfl ?_
    refine ev_inV 2 k_HA_21 h_SD_setT rfl rfl rfl rfl rfl ⟨by decide, by decide⟩ rfl ?_
    refine ev_gV [] [] rfl ?_
    refine ev_ret rfl ?_
    refine ev_g0 rfl ?_
    refine ev_reti rfl ?_
    refine ev_g0 rfl ?_
    refine ev_reti rfl ?_
    refine ct_of h_MM_handles rfl rfl rfl ?_
    refine ev_g0 rfl ?_
    refine ev_inV 1 k_MM_344 h_MM_hold rfl rfl rfl rfl rfl ⟨by decide, by decide⟩ rfl ?_
    refine ev_gV [] [] rfl ?_
    refine ev_reti rfl ?_
    refine ev_gV [] [some 13] rfl ?_
    refine ev_inV 2 k_MM_354 h_MM_takes rfl rfl rfl rfl rfl ⟨by decide, by decide⟩ rfl ?_
    refine ev_gV [true] [] rfl ?_
    refine ev_retz rfl (by first | decide | exact zb_01 _) ?_
    refine ev_gV [false] [] rfl ?_
    refine ev_inV 2 k_MM_336 h_MM_keep rfl rfl rfl rfl rfl ⟨by decide, by decide⟩ rfl ?_
    refine ev_gV [] [] rfl ?_
    refine ev_ret rfl ?_
    refine ev_g0 rfl ?_
    refine ev_ret rfl ?_
    exact ⟨rfl, xj, xd, xf, (u3 xo 0 t a (none)), xi, xn, nI 0, rfl, bdd, lf_V, lf_V, (CU_hol hC ht ha (fun _ h => by cases h) lf_V lf_V), (MU_hol hM ht ha lf_V lf_V (fun i hi => (rc_isor hC hi).2.2.1))⟩
  · skip
    have hq := rc_ihol hC ht hb _ ho
    have zq := rc_isor hC hq
    have yq := rc_imad hC
    refine ct_of h_HA_perform rfl rfl rfl ?_
    refine ev_gV [] [some 37] rfl ?_
    refine ev_inV 1 k_HA_15 h_SD_t rfl rfl rfl rfl rfl ⟨by decide, by decide⟩ rfl ?_
    refine ev_gV [] [some (94 + 4 * q)] rfl ?_
    refine ev_reta rfl ?_
    refine ev_g0 rfl ?_
    refine ev_inS 4 k_HA_57 h_HA_takeAs rfl rfl rfl rfl ⟨by decide, by decide⟩ rfl ?_
    refine ev_g0 rfl ?_
    refine ev_inV 1 k_HA_61 h_TH_isA rfl rfl rfl rfl rfl ⟨by decide, by decide⟩ rfl ?_
    refine ev_gV [true, true] [none] rfl ?_
    refine ev_bV rfl rfl (fun h_1 => ?_) (fun h_1 => ?_)
    · skip
      refine ev_g0 rfl ?_
      refine ev_retz rfl (by first | decide | exact zb_01 _) ?_
      refine ev_gV [false] [] rfl ?_
      refine ev_reti rfl ?_
      refine ev_g0 rfl ?_
      refine ev_reti rfl ?_
      refine ct_of h_MM_handles rfl rfl rfl ?_
      refine ev_g0 rfl ?_
      refine ev_inV 1 k_MM_344 h_MM_hold rfl rfl rfl rfl rfl ⟨by decide, by decide⟩ rfl ?_
      refine ev_gV [] [] rfl ?_
      refine ev_reti rfl ?_
      refine ev_gV [] [some 13] rfl ?_
      refine ev_inV 2 k_MM_354 h_MM_takes rfl rfl rfl rfl rfl ⟨by decide, by decide⟩ rfl ?_
      refine ev_gV [false] [] rfl ?_
      refine ev_inV 2 k_MM_202 h_MM_isKind rfl rfl rfl rfl rfl ⟨by decide, by decide⟩ rfl ?_
      refine ev_gV [true, true] [] rfl ?_
      refine ev_retz rfl (by first | decide | exact zb_01 _) ?_
      refine ev_gV [false] [] rfl ?_
      refine ev_retz rfl (by first | decide | exact zb_01 _) ?_
      refine ev_gV [true] [] rfl ?_
      refine ev_ret rfl ?_
      exact ⟨rfl, xj, xd, xf, xo, xi, xn, nI 3, rfl, bdd, lf_V, lf_V, hC, hM⟩
    · skip
      refine ev_g0 rfl ?_
      refine ev_retz rfl (by first | decide | exact zb_01 _) ?_
      refine ev_gV [true] [] rfl ?_
      refine ev_inV 2 k_HA_21 h_SD_setT rfl rfl rfl rfl rfl ⟨by decide, by decide⟩ rfl ?_
      refine ev_gV [] [] rfl ?_
      refine ev_ret rfl ?_
      refine ev_g0 rfl ?_
      refine ev_reti rfl ?_
      refine ev_g0 rfl ?_
      refine ev_reti rfl ?_
      refine ct_of h_MM_handles rfl rfl rfl ?_
      refine ev_g0 rfl ?_
      refine ev_inV 1 k_MM_344 h_MM_hold rfl rfl rfl rfl rfl ⟨by decide, by decide⟩ rfl ?_
      refine ev_gV [] [] rfl ?_
      refine ev_reti rfl ?_
      refine ev_gV [] [some 13] rfl ?_
      refine ev_inV 2 k_MM_354 h_MM_takes rfl rfl rfl rfl rfl ⟨by decide, by decide⟩ rfl ?_
      refine ev_gV [false] [] rfl ?_
      refine ev_inV 2 k_MM_202 h_MM_isKind rfl rfl rfl rfl rfl ⟨by decide, by decide⟩ rfl ?_
      refine ev_gV [true, false] [] rfl ?_
      refine ev_retz rfl (by first | decide | exact zb_01 _) ?_
      refine ev_gV [true] [] rfl ?_
      refine ev_retz rfl (by first | decide | exact zb_01 _) ?_
      refine ev_gV [false] [] rfl ?_
      refine ev_inV 2 k_MM_336 h_MM_keep rfl rfl rfl rfl rfl ⟨by decide, by decide⟩ rfl ?_
      refine ev_gV [] [] rfl ?_
      refine ev_ret rfl ?_
      refine ev_g0 rfl ?_
      refine ev_ret rfl ?_
      exact ⟨rfl, xj, xd, xf, (u3 xo 0 t a (some q)), xi, xn, nI 0, rfl, bdd, lf_V, lf_V, (CU_hol hC ht ha (fun _ h => by cases h; exact hq) lf_V lf_V), (MU_hol hM ht ha lf_V lf_V (fun i hi => (rc_isor hC hi).2.2.1))⟩
theorem A48_2 {ci : Nat → Nat → Nat → Int32} {cn : Nat → Nat → Nat → Nat} {co : Nat → Option Nat} {xj : Nat → Nat → Nat → Int64} {xd : Nat → Nat → Nat → UInt64} {xf : Nat → Nat → Nat → UInt32} {xo : Nat → Nat → Nat → Option Nat} {xi : Nat → Nat → Nat → Int32} {xn : Nat → Nat → Nat → Nat} {K : Nat → Nat} {I : Nat → Nat → Int32} {J : Nat → Nat → Int64} {F : Nat → Nat → UInt32} {D : Nat → Nat → UInt64} {R : Nat → Nat → Option Nat} {nx sl : Nat} {Km : Nat → Nat} {Im : Nat → Nat → Int32} {Jm : Nat → Nat → Int64} {Fm : Nat → Nat → UInt32} {Dm : Nat → Nat → UInt64} {Rm : Nat → Nat → Option Nat} {nxm slm : Nat} (hC : RC ci cn co xj xd xf xo xi xn I J F D R nx sl) (hM : RM ci cn co xj xd xf xo xi xn Im Jm Dm) {t a b : Nat} {go : Int32} (ht : t < 3) (ha : a < 8) (hb : b < 8) (x1 : Im 6 39 = nI t) (x2 : Im 6 40 = nI a) (x3 : Im 6 41 = nI b) (x4 : Im 6 42 = nI 2) (x5 : Im 6 43 = nI 0) (x6 : Im 6 44 = go) : Ct Y_HA_perform [vr 1 55, vr 8 (32 + 7 * t), vi (nI 48), vi (nI a), vi (nI b), vi (nI 2)] (K, I, J, F, D, R, nx, sl) (fun r μ1 => Ct Y_MM_handles [vr 11 6, vi (nI 48)] (Km, Im, Jm, Fm, Dm, Rm, nxm, slm) (fun r2 μ2 => r2 = none ∧ QA ci cn co go r μ1 μ2)) := by
  rcases ho : xo 0 t b with _ | q
  · skip
    refine ct_of h_HA_perform rfl rfl rfl ?_
    refine ev_gV [] [some 36] rfl ?_
    refine ev_inV 1 k_HA_15 h_SD_t rfl rfl rfl rfl rfl ⟨by decide, by decide⟩ rfl ?_
    refine ev_gV [] [none] rfl ?_
    refine ev_retn rfl ?_
    refine ev_g0 rfl ?_
    refine ev_inS 2 k_HA_49 h_HA_isA rfl rfl rfl rfl ⟨by decide, by decide⟩ rfl ?_
    refine ev_g0 rfl ?_
    refine ev_retz rfl (by first | decide | exact zb_01 _) ?_
    refine ev_gV [true] [] rfl ?_
    refine ev_inV 2 k_HA_53 h_SD_setN rfl rfl rfl rfl rfl ⟨by decide, by decide⟩ rfl ?_
    refine ev_gV [] [] rfl ?_
    refine ev_ret rfl ?_
    refine ev_g0 rfl ?_
    refine ev_reti rfl ?_
    refine ct_of h_MM_handles rfl rfl rfl ?_
    refine ev_g0 rfl ?_
    refine ev_inV 1 k_MM_344 h_MM_hold rfl rfl rfl rfl rfl ⟨by decide, by decide⟩ rfl ?_
    refine ev_gV [] [] rfl ?_
    refine ev_reti rfl ?_
    refine ev_gV [true] [some 12] rfl ?_
    refine ev_inV 2 k_MM_288 h_MM_lay rfl rfl rfl rfl rfl ⟨by decide, by decide⟩ rfl ?_
    refine ev_gV [] [] rfl ?_
    refine ev_ret rfl ?_
    refine ev_g0 rfl ?_
    refine ev_ret rfl ?_
    exact ⟨rfl, (u3 xj 0 t a ((nI 0).toInt64)), xd, xf, xo, xi, xn, nI 0, rfl, bdd, lf_V, lf_V, (CU_num hC ht ha lf_V lf_V), (MU_num hM ht ha lf_V lf_V (fun i hi => (rc_isor hC hi).2.2.1))⟩
  · skip
    have hq := rc_ihol hC ht hb _ ho
    have zq := rc_isor hC hq
    have yq := rc_imad hC
    refine ct_of h_HA_perform rfl rfl rfl ?_
    refine ev_gV [] [some 36] rfl ?_
    refine ev_inV 1 k_HA_15 h_SD_t rfl rfl rfl rfl rfl ⟨by decide, by decide⟩ rfl ?_
    refine ev_gV [] [some (94 + 4 * q)] rfl ?_
    refine ev_reta rfl ?_
    refine ev_g0 rfl ?_
    refine ev_inS 2 k_HA_49 h_HA_isA rfl rfl rfl rfl ⟨by decide, by decide⟩ rfl ?_
    refine ev_g0 rfl ?_
    refine ev_inV 1 k_HA_61 h_TH_isA rfl rfl rfl rfl rfl ⟨by decide, by decide⟩ rfl ?_
    refine ev_gV [true, true] [none] rfl ?_
    refine ev_bV rfl rfl (fun h_1 => ?_) (fun h_1 => ?_)
    · skip
      refine ev_g0 rfl ?_
      refine ev_retz rfl (by first | decide | exact zb_01 _) ?_
      refine ev_gV [true] [] rfl ?_
      refine ev_retz rfl (by first | decide | exact zb_01 _) ?_
      refine ev_gV [true] [] rfl ?_
      refine ev_inV 2 k_HA_53 h_SD_setN rfl rfl rfl rfl rfl ⟨by decide, by decide⟩ rfl ?_
      refine ev_gV [] [] rfl ?_
      refine ev_ret rfl ?_
      refine ev_g0 rfl ?_
      refine ev_reti rfl ?_
      refine ct_of h_MM_handles rfl rfl rfl ?_
      refine ev_g0 rfl ?_
      refine ev_inV 1 k_MM_344 h_MM_hold rfl rfl rfl rfl rfl ⟨by decide, by decide⟩ rfl ?_
      refine ev_gV [] [] rfl ?_
      refine ev_reti rfl ?_
      refine ev_gV [false] [some 12] rfl ?_
      refine ev_inV 2 k_MM_202 h_MM_isKind rfl rfl rfl rfl rfl ⟨by decide, by decide⟩ rfl ?_
      refine ev_gV [true, true] [] rfl ?_
      refine ev_retz rfl (by first | decide | exact zb_01 _) ?_
      refine ev_gV [true] [] rfl ?_
      refine ev_inV 2 k_MM_288 h_MM_lay rfl rfl rfl rfl rfl ⟨by decide, by decide⟩ rfl ?_
      refine ev_gV [] [] rfl ?_
      refine ev_ret rfl ?_
      refine ev_g0 rfl ?_
      refine ev_ret rfl ?_
      exact ⟨rfl, (u3 xj 0 t a ((nI 0).toInt64)), xd, xf, xo, xi, xn, nI 0, rfl, bdd, lf_V, lf_V, (CU_num hC ht ha lf_V lf_V), (MU_num hM ht ha lf_V lf_V (fun i hi => (rc_isor hC hi).2.2.1))⟩
    · skip
      refine ev_g0 rfl ?_
      refine ev_retz rfl (by first | decide | exact zb_01 _) ?_
      refine ev_gV [false] [] rfl ?_
      refine ev_retz rfl (by first | decide | exact zb_01 _) ?_
      refine ev_gV [false] [] rfl ?_
      refine ev_inV 2 k_HA_53 h_SD_setN rfl rfl rfl rfl rfl ⟨by decide, by decide⟩ rfl ?_
      refine ev_gV [] [] rfl ?_
      refine ev_ret rfl ?_
      refine ev_g0 rfl ?_
      refine ev_reti rfl ?_
      refine ct_of h_MM_handles rfl rfl rfl ?_
      refine ev_g0 rfl ?_
      refine ev_inV 1 k_MM_344 h_MM_hold rfl rfl rfl rfl rfl ⟨by decide, by decide⟩ rfl ?_
      refine ev_gV [] [] rfl ?_
      refine ev_reti rfl ?_
      refine ev_gV [false] [some 12] rfl ?_
      refine ev_inV 2 k_MM_202 h_MM_isKind rfl rfl rfl rfl rfl ⟨by decide, by decide⟩ rfl ?_
      refine ev_gV [true, false] [] rfl ?_
      refine ev_retz rfl (by first | decide | exact zb_01 _) ?_
      refine ev_gV [false] [] rfl ?_
      refine ev_inV 2 k_MM_288 h_MM_lay rfl rfl rfl rfl rfl ⟨by decide, by decide⟩ rfl ?_
      refine ev_gV [] [] rfl ?_
      refine ev_ret rfl ?_
      refine ev_g0 rfl ?_
      refine ev_ret rfl ?_
      exact ⟨rfl, (u3 xj 0 t a ((nI 1).toInt64)), xd, xf, xo, xi, xn, nI 0, rfl, bdd, lf_V, lf_V, (CU_num hC ht ha lf_V lf_V), (MU_num hM ht ha lf_V lf_V (fun i hi => (rc_isor hC hi).2.2.1))⟩
theorem A49_2 {ci : Nat → Nat → Nat → Int32} {cn : Nat → Nat → Nat → Nat} {co : Nat → Option Nat} {xj : Nat → Nat → Nat → Int64} {xd : Nat → Nat → Nat → UInt64} {xf : Nat → Nat → Nat → UInt32} {xo : Nat → Nat → Nat → Option Nat} {xi : Nat → Nat → Nat → Int32} {xn : Nat → Nat → Nat → Nat} {K : Nat → Nat} {I : Nat → Nat → Int32} {J : Nat → Nat → Int64} {F : Nat → Nat → UInt32} {D : Nat → Nat → UInt64} {R : Nat → Nat → Option Nat} {nx sl : Nat} {Km : Nat → Nat} {Im : Nat → Nat → Int32} {Jm : Nat → Nat → Int64} {Fm : Nat → Nat → UInt32} {Dm : Nat → Nat → UInt64} {Rm : Nat → Nat → Option Nat} {nxm slm : Nat} (hC : RC ci cn co xj xd xf xo xi xn I J F D R nx sl) (hM : RM ci cn co xj xd xf xo xi xn Im Jm Dm) {t a b : Nat} {go : Int32} (ht : t < 3) (ha : a < 8) (hb : b < 8) (x1 : Im 6 39 = nI t) (x2 : Im 6 40 = nI a) (x3 : Im 6 41 = nI b) (x4 : Im 6 42 = nI 2) (x5 : Im 6 43 = nI 0) (x6 : Im 6 44 = go) : Ct Y_HA_perform [vr 1 55, vr 8 (32 + 7 * t), vi (nI 49), vi (nI a), vi (nI b), vi (nI 2)] (K, I, J, F, D, R, nx, sl) (fun r μ1 => Ct Y_MM_handles [vr 11 6, vi (nI 49)] (Km, Im, Jm, Fm, Dm, Rm, nxm, slm) (fun r2 μ2 => r2 = none ∧ QA ci cn co go r μ1 μ2)) := by
  rcases ho : xo 0 t b with _ | q
  · skip
    refine ct_of h_HA_perform rfl rfl rfl ?_
    refine ev_gV [] [some 37] rfl ?_
    refine ev_inV 1 k_HA_15 h_SD_t rfl rfl rfl rfl rfl ⟨by decide, by decide⟩ rfl ?_
    refine ev_gV [] [none] rfl ?_
    refine ev_retn rfl ?_
    refine ev_g0 rfl ?_
    refine ev_inS 4 k_HA_57 h_HA_takeAs rfl rfl rfl rfl ⟨by decide, by decide⟩ rfl ?_
    refine ev_g0 rfl ?_
    refine ev_inV 2 k_HA_21 h_SD_setT rfl rfl rfl rfl rfl ⟨by decide, by decide⟩ rfl ?_
    refine ev_gV [] [] rfl ?_
    refine ev_ret rfl ?_
    refine ev_g0 rfl ?_
    refine ev_reti rfl ?_
    refine ev_g0 rfl ?_
    refine ev_reti rfl ?_
    refine ct_of h_MM_handles rfl rfl rfl ?_
    refine ev_g0 rfl ?_
    refine ev_inV 1 k_MM_344 h_MM_hold rfl rfl rfl rfl rfl ⟨by decide, by decide⟩ rfl ?_
    refine ev_gV [] [] rfl ?_
    refine ev_reti rfl ?_
    refine ev_gV [] [some 13] rfl ?_
    refine ev_inV 2 k_MM_354 h_MM_takes rfl rfl rfl rfl rfl ⟨by decide, by decide⟩ rfl ?_
    refine ev_gV [true] [] rfl ?_
    refine ev_retz rfl (by first | decide | exact zb_01 _) ?_
    refine ev_gV [false] [] rfl ?_
    refine ev_inV 2 k_MM_336 h_MM_keep rfl rfl rfl rfl rfl ⟨by decide, by decide⟩ rfl ?_
    refine ev_gV [] [] rfl ?_
    refine ev_ret rfl ?_
    refine ev_g0 rfl ?_
    refine ev_ret rfl ?_
    exact ⟨rfl, xj, xd, xf, (u3 xo 0 t a (none)), xi, xn, nI 0, rfl, bdd, lf_V, lf_V, (CU_hol hC ht ha (fun _ h => by cases h) lf_V lf_V), (MU_hol hM ht ha lf_V lf_V (fun i hi => (rc_isor hC hi).2.2.1))⟩
  · skip
    have hq := rc_ihol hC ht hb _ ho
    have zq := rc_isor hC hq
    have yq := rc_imad hC
    refine ct_of h_HA_perform rfl rfl rfl ?_
    refine ev_gV [] [some 37] rfl ?_
    refine ev_inV 1 k_HA_15 h_SD_t rfl rfl rfl rfl rfl ⟨by decide, by decide⟩ rfl ?_
    refine ev_gV [] [some (94 + 4 * q)] rfl ?_
    refine ev_reta rfl ?_
    refine ev_g0 rfl ?_
    refine ev_inS 4 k_HA_57 h_HA_takeAs rfl rfl rfl rfl ⟨by decide, by decide⟩ rfl ?_
    refine ev_g0 rfl ?_
    refine ev_inV 1 k_HA_61 h_TH_isA rfl rfl rfl rfl rfl ⟨by decide, by decide⟩ rfl ?_
    refine ev_gV [true, true] [none] rfl ?_
    refine ev_bV rfl rfl (fun h_1 => ?_) (fun h_1 => ?_)
    · skip
      refine ev_g0 rfl ?_
      refine ev_retz rfl (by first | decide | exact zb_01 _) ?_
      refine ev_gV [false] [] rfl ?_
      refine ev_reti rfl ?_
      refine ev_g0 rfl ?_
      refine ev_reti rfl ?_
      refine ct_of h_MM_handles rfl rfl rfl ?_
      refine ev_g0 rfl ?_
      refine ev_inV 1 k_MM_344 h_MM_hold rfl rfl rfl rfl rfl ⟨by decide, by decide⟩ rfl ?_
      refine ev_gV [] [] rfl ?_
      refine ev_reti rfl ?_
      refine ev_gV [] [some 13] rfl ?_
      refine ev_inV 2 k_MM_354 h_MM_takes rfl rfl rfl rfl rfl ⟨by decide, by decide⟩ rfl ?_
      refine ev_gV [false] [] rfl ?_
      refine ev_inV 2 k_MM_202 h_MM_isKind rfl rfl rfl rfl rfl ⟨by decide, by decide⟩ rfl ?_
      refine ev_gV [true, true] [] rfl ?_
      refine ev_retz rfl (by first | decide | exact zb_01 _) ?_
      refine ev_gV [false] [] rfl ?_
      refine ev_retz rfl (by first | decide | exact zb_01 _) ?_
      refine ev_gV [true] [] rfl ?_
      refine ev_ret rfl ?_
      exact ⟨rfl, xj, xd, xf, xo, xi, xn, nI 3, rfl, bdd, lf_V, lf_V, hC, hM⟩
    · skip
      refine ev_g0 rfl ?_
      refine ev_retz rfl (by first | decide | exact zb_01 _) ?_
      refine ev_gV [true] [] rfl ?_
      refine ev_inV 2 k_HA_21 h_SD_setT rfl rfl rfl rfl rfl ⟨by decide, by decide⟩ rfl ?_
      refine ev_gV [] [] rfl ?_
      refine ev_ret rfl ?_
      refine ev_g0 rfl ?_
      refine ev_reti rfl ?_
      refine ev_g0 rfl ?_
      refine ev_reti rfl ?_
      refine ct_of h_MM_handles rfl rfl rfl ?_
      refine ev_g0 rfl ?_
      refine ev_inV 1 k_MM_344 h_MM_hold rfl rfl rfl rfl rfl ⟨by decide, by decide⟩ rfl ?_
      refine ev_gV [] [] rfl ?_
      refine ev_reti rfl ?_
      refine ev_gV [] [some 13] rfl ?_
      refine ev_inV 2 k_MM_354 h_MM_takes rfl rfl rfl rfl rfl ⟨by decide, by decide⟩ rfl ?_
      refine ev_gV [false] [] rfl ?_
      refine ev_inV 2 k_MM_202 h_MM_isKind rfl rfl rfl rfl rfl ⟨by decide, by decide⟩ rfl ?_
      refine ev_gV [true, false] [] rfl ?_
      refine ev_retz rfl (by first | decide | exact zb_01 _) ?_
      refine ev_gV [true] [] rfl ?_
      refine ev_retz rfl (by first | decide | exact zb_01 _) ?_
      refine ev_gV [false] [] rfl ?_
      refine ev_inV 2 k_MM_336 h_MM_keep rfl rfl rfl rfl rfl ⟨by decide, by decide⟩ rfl ?_
      refine ev_gV [] [] rfl ?_
      refine ev_ret rfl ?_
      refine ev_g0 rfl ?_
      refine ev_ret rfl ?_
      exact ⟨rfl, xj, xd, xf, (u3 xo 0 t a (some q)), xi, xn, nI 0, rfl, bdd, lf_V, lf_V, (CU_hol hC ht ha (fun _ h => by cases h; exact hq) lf_V lf_V), (MU_hol hM ht ha lf_V lf_V (fun i hi => (rc_isor hC hi).2.2.1))⟩
theorem A48_3 {ci : Nat → Nat → Nat → Int32} {cn : Nat → Nat → Nat → Nat} {co : Nat → Option Nat} {xj : Nat → Nat → Nat → Int64} {xd : Nat → Nat → Nat → UInt64} {xf : Nat → Nat → Nat → UInt32} {xo : Nat → Nat → Nat → Option Nat} {xi : Nat → Nat → Nat → Int32} {xn : Nat → Nat → Nat → Nat} {K : Nat → Nat} {I : Nat → Nat → Int32} {J : Nat → Nat → Int64} {F : Nat → Nat → UInt32} {D : Nat → Nat → UInt64} {R : Nat → Nat → Option Nat} {nx sl : Nat} {Km : Nat → Nat} {Im : Nat → Nat → Int32} {Jm : Nat → Nat → Int64} {Fm : Nat → Nat → UInt32} {Dm : Nat → Nat → UInt64} {Rm : Nat → Nat → Option Nat} {nxm slm : Nat} (hC : RC ci cn co xj xd xf xo xi xn I J F D R nx sl) (hM : RM ci cn co xj xd xf xo xi xn Im Jm Dm) {t a b : Nat} {go : Int32} (ht : t < 3) (ha : a < 8) (hb : b < 8) (x1 : Im 6 39 = nI t) (x2 : Im 6 40 = nI a) (x3 : Im 6 41 = nI b) (x4 : Im 6 42 = nI 3) (x5 : Im 6 43 = nI 0) (x6 : Im 6 44 = go) : Ct Y_HA_perform [vr 1 55, vr 8 (32 + 7 * t), vi (nI 48), vi (nI a), vi (nI b), vi (nI 3)] (K, I, J, F, D, R, nx, sl) (fun r μ1 => Ct Y_MM_handles [vr 11 6, vi (nI 48)] (Km, Im, Jm, Fm, Dm, Rm, nxm, slm) (fun r2 μ2 => r2 = none ∧ QA ci cn co go r μ1 μ2)) := by
  rcases ho : xo 0 t b with _ | q
  · skip
    refine ct_of h_HA_perform rfl rfl rfl ?_
    refine ev_gV [] [some 36] rfl ?_
    refine ev_inV 1 k_HA_15 h_SD_t rfl rfl rfl rfl rfl ⟨by decide, by decide⟩ rfl ?_
    refine ev_gV [] [none] rfl ?_
    refine ev_retn rfl ?_
    refine ev_g0 rfl ?_
    refine ev_inS 2 k_HA_49 h_HA_isA rfl rfl rfl rfl ⟨by decide, by decide⟩ rfl ?_
    refine ev_g0 rfl ?_
    refine ev_retz rfl (by first | decide | exact zb_01 _) ?_
    refine ev_gV [true] [] rfl ?_
    refine ev_inV 2 k_HA_53 h_SD_setN rfl rfl rfl rfl rfl ⟨by decide, by decide⟩ rfl ?_
    refine ev_gV [] [] rfl ?_
    refine ev_ret rfl ?_
    refine ev_g0 rfl ?_
    refine ev_reti rfl ?_
    refine ct_of h_MM_handles rfl rfl rfl ?_
    refine ev_g0 rfl ?_
    refine ev_inV 1 k_MM_344 h_MM_hold rfl rfl rfl rfl rfl ⟨by decide, by decide⟩ rfl ?_
    refine ev_gV [] [] rfl ?_
    refine ev_reti rfl ?_
    refine ev_gV [true] [some 12] rfl ?_
    refine ev_inV 2 k_MM_288 h_MM_lay rfl rfl rfl rfl rfl ⟨by decide, by decide⟩ rfl ?_
    refine ev_gV [] [] rfl ?_
    refine ev_ret rfl ?_
    refine ev_g0 rfl ?_
    refine ev_ret rfl ?_
    exact ⟨rfl, (u3 xj 0 t a ((nI 0).toInt64)), xd, xf, xo, xi, xn, nI 0, rfl, bdd, lf_V, lf_V, (CU_num hC ht ha lf_V lf_V), (MU_num hM ht ha lf_V lf_V (fun i hi => (rc_isor hC hi).2.2.1))⟩
  · skip
    have hq := rc_ihol hC ht hb _ ho
    have zq := rc_isor hC hq
    have yq := rc_imad hC
    refine ct_of h_HA_perform rfl rfl rfl ?_
    refine ev_gV [] [some 36] rfl ?_
    refine ev_inV 1 k_HA_15 h_SD_t rfl rfl rfl rfl rfl ⟨by decide, by decide⟩ rfl ?_
    refine ev_gV [] [some (94 + 4 * q)] rfl ?_
    refine ev_reta rfl ?_
    refine ev_g0 rfl ?_
    refine ev_inS 2 k_HA_49 h_HA_isA rfl rfl rfl rfl ⟨by decide, by decide⟩ rfl ?_
    refine ev_g0 rfl ?_
    refine ev_inV 1 k_HA_61 h_TH_isA rfl rfl rfl rfl rfl ⟨by decide, by decide⟩ rfl ?_
    refine ev_gV [true, true] [none] rfl ?_
    refine ev_bV rfl rfl (fun h_1 => ?_) (fun h_1 => ?_)
    · skip
      refine ev_g0 rfl ?_
      refine ev_retz rfl (by first | decide | exact zb_01 _) ?_
      refine ev_gV [true] [] rfl ?_
      refine ev_retz rfl (by first | decide | exact zb_01 _) ?_
      refine ev_gV [true] [] rfl ?_
      refine ev_inV 2 k_HA_53 h_SD_setN rfl rfl rfl rfl rfl ⟨by decide, by decide⟩ rfl ?_
      refine ev_gV [] [] rfl ?_
      refine ev_ret rfl ?_
      refine ev_g0 rfl ?_
      refine ev_reti rfl ?_
      refine ct_of h_MM_handles rfl rfl rfl ?_
      refine ev_g0 rfl ?_
      refine ev_inV 1 k_MM_344 h_MM_hold rfl rfl rfl rfl rfl ⟨by decide, by decide⟩ rfl ?_
      refine ev_gV [] [] rfl ?_
      refine ev_reti rfl ?_
      refine ev_gV [false] [some 12] rfl ?_
      refine ev_inV 2 k_MM_202 h_MM_isKind rfl rfl rfl rfl rfl ⟨by decide, by decide⟩ rfl ?_
      refine ev_gV [true, true] [] rfl ?_
      refine ev_retz rfl (by first | decide | exact zb_01 _) ?_
      refine ev_gV [true] [] rfl ?_
      refine ev_inV 2 k_MM_288 h_MM_lay rfl rfl rfl rfl rfl ⟨by decide, by decide⟩ rfl ?_
      refine ev_gV [] [] rfl ?_
      refine ev_ret rfl ?_
      refine ev_g0 rfl ?_
      refine ev_ret rfl ?_
      exact ⟨rfl, (u3 xj 0 t a ((nI 0).toInt64)), xd, xf, xo, xi, xn, nI 0, rfl, bdd, lf_V, lf_V, (CU_num hC ht ha lf_V lf_V), (MU_num hM ht ha lf_V lf_V (fun i hi => (rc_isor hC hi).2.2.1))⟩
    · skip
      refine ev_g0 rfl ?_
      refine ev_retz rfl (by first | decide | exact zb_01 _) ?_
      refine ev_gV [false] [] rfl ?_
      refine ev_retz rfl (by first | decide | exact zb_01 _) ?_
      refine ev_gV [false] [] rfl ?_
      refine ev_inV 2 k_HA_53 h_SD_setN rfl rfl rfl rfl rfl ⟨by decide, by decide⟩ rfl ?_
      refine ev_gV [] [] rfl ?_
      refine ev_ret rfl ?_
      refine ev_g0 rfl ?_
      refine ev_reti rfl ?_
      refine ct_of h_MM_handles rfl rfl rfl ?_
      refine ev_g0 rfl ?_
      refine ev_inV 1 k_MM_344 h_MM_hold rfl rfl rfl rfl rfl ⟨by decide, by decide⟩ rfl ?_
      refine ev_gV [] [] rfl ?_
      refine ev_reti rfl ?_
      refine ev_gV [false] [some 12] rfl ?_
      refine ev_inV 2 k_MM_202 h_MM_isKind rfl rfl rfl rfl rfl ⟨by decide, by decide⟩ rfl ?_
      refine ev_gV [true, false] [] rfl ?_
      refine ev_retz rfl (by first | decide | exact zb_01 _) ?_
      refine ev_gV [false] [] rfl ?_
      refine ev_inV 2 k_MM_288 h_MM_lay rfl rfl rfl rfl rfl ⟨by decide, by decide⟩ rfl ?_
      refine ev_gV [] [] rfl ?_
      refine ev_ret rfl ?_
      refine ev_g0 rfl ?_
      refine ev_ret rfl ?_
      exact ⟨rfl, (u3 xj 0 t a ((nI 1).toInt64)), xd, xf, xo, xi, xn, nI 0, rfl, bdd, lf_V, lf_V, (CU_num hC ht ha lf_V lf_V), (MU_num hM ht ha lf_V lf_V (fun i hi => (rc_isor hC hi).2.2.1))⟩
theorem A49_3 {ci : Nat → Nat → Nat → Int32} {cn : Nat → Nat → Nat → Nat} {co : Nat → Option Nat} {xj : Nat → Nat → Nat → Int64} {xd : Nat → Nat → Nat → UInt64} {xf : Nat → Nat → Nat → UInt32} {xo : Nat → Nat → Nat → Option Nat} {xi : Nat → Nat → Nat → Int32} {xn : Nat → Nat → Nat → Nat} {K : Nat → Nat} {I : Nat → Nat → Int32} {J : Nat → Nat → Int64} {F : Nat → Nat → UInt32} {D : Nat → Nat → UInt64} {R : Nat → Nat → Option Nat} {nx sl : Nat} {Km : Nat → Nat} {Im : Nat → Nat → Int32} {Jm : Nat → Nat → Int64} {Fm : Nat → Nat → UInt32} {Dm : Nat → Nat → UInt64} {Rm : Nat → Nat → Option Nat} {nxm slm : Nat} (hC : RC ci cn co xj xd xf xo xi xn I J F D R nx sl) (hM : RM ci cn co xj xd xf xo xi xn Im Jm Dm) {t a b : Nat} {go : Int32} (ht : t < 3) (ha : a < 8) (hb : b < 8) (x1 : Im 6 39 = nI t) (x2 : Im 6 40 = nI a) (x3 : Im 6 41 = nI b) (x4 : Im 6 42 = nI 3) (x5 : Im 6 43 = nI 0) (x6 : Im 6 44 = go) : Ct Y_HA_perform [vr 1 55, vr 8 (32 + 7 * t), vi (nI 49), vi (nI a), vi (nI b), vi (nI 3)] (K, I, J, F, D, R, nx, sl) (fun r μ1 => Ct Y_MM_handles [vr 11 6, vi (nI 49)] (Km, Im, Jm, Fm, Dm, Rm, nxm, slm) (fun r2 μ2 => r2 = none ∧ QA ci cn co go r μ1 μ2)) := by
  rcases ho : xo 0 t b with _ | q
  · skip
    refine ct_of h_HA_perform rfl rfl rfl ?_
    refine ev_gV [] [some 37] rfl ?_
    refine ev_inV 1 k_HA_15 h_SD_t rfl rfl rfl rfl rfl ⟨by decide, by decide⟩ rfl ?_
    refine ev_gV [] [none] rfl ?_
    refine ev_retn rfl ?_
    refine ev_g0 rfl ?_
    refine ev_inS 4 k_HA_57 h_HA_takeAs rfl rfl rfl rfl ⟨by decide, by decide⟩ rfl ?_
    refine ev_g0 rfl ?_
    refine ev_inV 2 k_HA_21 h_SD_setT rfl rfl rfl rfl rfl ⟨by decide, by decide⟩ rfl ?_
    refine ev_gV [] [] rfl ?_
    refine ev_ret rfl ?_
    refine ev_g0 rfl ?_
    refine ev_reti rfl ?_
    refine ev_g0 rfl ?_
    refine ev_reti rfl ?_
    refine ct_of h_MM_handles rfl rfl rfl ?_
    refine ev_g0 rfl ?_
    refine ev_inV 1 k_MM_344 h_MM_hold rfl rfl rfl rfl rfl ⟨by decide, by decide⟩ rfl ?_
    refine ev_gV [] [] rfl ?_
    refine ev_reti rfl ?_
    refine ev_gV [] [some 13] rfl ?_
    refine ev_inV 2 k_MM_354 h_MM_takes rfl rfl rfl rfl rfl ⟨by decide, by decide⟩ rfl ?_
    refine ev_gV [true] [] rfl ?_
    refine ev_retz rfl (by first | decide | exact zb_01 _) ?_
    refine ev_gV [false] [] rfl ?_
    refine ev_inV 2 k_MM_336 h_MM_keep rfl rfl rfl rfl rfl ⟨by decide, by decide⟩ rfl ?_
    refine ev_gV [] [] rfl ?_
    refine ev_ret rfl ?_
    refine ev_g0 rfl ?_
    refine ev_ret rfl ?_
    exact ⟨rfl, xj, xd, xf, (u3 xo 0 t a (none)), xi, xn, nI 0, rfl, bdd, lf_V, lf_V, (CU_hol hC ht ha (fun _ h => by cases h) lf_V lf_V), (MU_hol hM ht ha lf_V lf_V (fun i hi => (rc_isor hC hi).2.2.1))⟩
  · skip
    have hq := rc_ihol hC ht hb _ ho
    have zq := rc_isor hC hq
    have yq := rc_imad hC
    refine ct_of h_HA_perform rfl rfl rfl ?_
    refine ev_gV [] [some 37] rfl ?_
    refine ev_inV 1 k_HA_15 h_SD_t rfl rfl rfl rfl rfl ⟨by decide, by decide⟩ rfl ?_
    refine ev_gV [] [some (94 + 4 * q)] rfl ?_
    refine ev_reta rfl ?_
    refine ev_g0 rfl ?_
    refine ev_inS 4 k_HA_57 h_HA_takeAs rfl rfl rfl rfl ⟨by decide, by decide⟩ rfl ?_
    refine ev_g0 rfl ?_
    refine ev_inV 1 k_HA_61 h_TH_isA rfl rfl rfl rfl rfl ⟨by decide, by decide⟩ rfl ?_
    refine ev_gV [true, true] [none] rfl ?_
    refine ev_bV rfl rfl (fun h_1 => ?_) (fun h_1 => ?_)
    · skip
      refine ev_g0 rfl ?_
      refine ev_retz rfl (by first | decide | exact zb_01 _) ?_
      refine ev_gV [false] [] rfl ?_
      refine ev_reti rfl ?_
      refine ev_g0 rfl ?_
      refine ev_reti rfl ?_
      refine ct_of h_MM_handles rfl rfl rfl ?_
      refine ev_g0 rfl ?_
      refine ev_inV 1 k_MM_344 h_MM_hold rfl rfl rfl rfl rfl ⟨by decide, by decide⟩ rfl ?_
      refine ev_gV [] [] rfl ?_
      refine ev_reti rfl ?_
      refine ev_gV [] [some 13] rfl ?_
      refine ev_inV 2 k_MM_354 h_MM_takes rfl rfl rfl rfl rfl ⟨by decide, by decide⟩ rfl ?_
      refine ev_gV [false] [] rfl ?_
      refine ev_inV 2 k_MM_202 h_MM_isKind rfl rfl rfl rfl rfl ⟨by decide, by decide⟩ rfl ?_
      refine ev_gV [true, true] [] rfl ?_
      refine ev_retz rfl (by first | decide | exact zb_01 _) ?_
      refine ev_gV [false] [] rfl ?_
      refine ev_retz rfl (by first | decide | exact zb_01 _) ?_
      refine ev_gV [true] [] rfl ?_
      refine ev_ret rfl ?_
      exact ⟨rfl, xj, xd, xf, xo, xi, xn, nI 3, rfl, bdd, lf_V, lf_V, hC, hM⟩
    · skip
      refine ev_g0 rfl ?_
      refine ev_retz rfl (by first | decide | exact zb_01 _) ?_
      refine ev_gV [true] [] rfl ?_
      refine ev_inV 2 k_HA_21 h_SD_setT rfl rfl rfl rfl rfl ⟨by decide, by decide⟩ rfl ?_
      refine ev_gV [] [] rfl ?_
      refine ev_ret rfl ?_
      refine ev_g0 rfl ?_
      refine ev_reti rfl ?_
      refine ev_g0 rfl ?_
      refine ev_reti rfl ?_
      refine ct_of h_MM_handles rfl rfl rfl ?_
      refine ev_g0 rfl ?_
      refine ev_inV 1 k_MM_344 h_MM_hold rfl rfl rfl rfl rfl ⟨by decide, by decide⟩ rfl ?_
      refine ev_gV [] [] rfl ?_
      refine ev_reti rfl ?_
      refine ev_gV [] [some 13] rfl ?_
      refine ev_inV 2 k_MM_354 h_MM_takes rfl rfl rfl rfl rfl ⟨by decide, by decide⟩ rfl ?_
      refine ev_gV [false] [] rfl ?_
      refine ev_inV 2 k_MM_202 h_MM_isKind rfl rfl rfl rfl rfl ⟨by decide, by decide⟩ rfl ?_
      refine ev_gV [true, false] [] rfl ?_
      refine ev_retz rfl (by first | decide | exact zb_01 _) ?_
      refine ev_gV [true] [] rfl ?_
      refine ev_retz rfl (by first | decide | exact zb_01 _) ?_
      refine ev_gV [false] [] rfl ?_
      refine ev_inV 2 k_MM_336 h_MM_keep rfl rfl rfl rfl rfl ⟨by decide, by decide⟩ rfl ?_
      refine ev_gV [] [] rfl ?_
      refine ev_ret rfl ?_
      refine ev_g0 rfl ?_
      refine ev_ret rfl ?_
      exact ⟨rfl, xj, xd, xf, (u3 xo 0 t a (some q)), xi, xn, nI 0, rfl, bdd, lf_V, lf_V, (CU_hol hC ht ha (fun _ h => by cases h; exact hq) lf_V lf_V), (MU_hol hM ht ha lf_V lf_V (fun i hi => (rc_isor hC hi).2.2.1))⟩
theorem A48_4 {ci : Nat → Nat → Nat → Int32} {cn : Nat → Nat → Nat → Nat} {co : Nat → Option Nat} {xj : Nat → Nat → Nat → Int64} {xd : Nat → Nat → Nat → UInt64} {xf : Nat → Nat → Nat → UInt32} {xo : Nat → Nat → Nat → Option Nat} {xi : Nat → Nat → Nat → Int32} {xn : Nat → Nat → Nat → Nat} {K : Nat → Nat} {I : Nat → Nat → Int32} {J : Nat → Nat → Int64} {F : Nat → Nat → UInt32} {D : Nat → Nat → UInt64} {R : Nat → Nat → Option Nat} {nx sl : Nat} {Km : Nat → Nat} {Im : Nat → Nat → Int32} {Jm : Nat → Nat → Int64} {Fm : Nat → Nat → UInt32} {Dm : Nat → Nat → UInt64} {Rm : Nat → Nat → Option Nat} {nxm slm : Nat} (hC : RC ci cn co xj xd xf xo xi xn I J F D R nx sl) (hM : RM ci cn co xj xd xf xo xi xn Im Jm Dm) {t a b : Nat} {go : Int32} (ht : t < 3) (ha : a < 8) (hb : b < 8) (x1 : Im 6 39 = nI t) (x2 : Im 6 40 = nI a) (x3 : Im 6 41 = nI b) (x4 : Im 6 42 = nI 4) (x5 : Im 6 43 = nI 0) (x6 : Im 6 44 = go) : Ct Y_HA_perform [vr 1 55, vr 8 (32 + 7 * t), vi (nI 48), vi (nI a), vi (nI b), vi (nI 4)] (K, I, J, F, D, R, nx, sl) (fun r μ1 => Ct Y_MM_handles [vr 11 6, vi (nI 48)] (Km, Im, Jm, Fm, Dm, Rm, nxm, slm) (fun r2 μ2 => r2 = none ∧ QA ci cn co go r μ1 μ2)) := by
  rcases ho : xo 0 t b with _ | q
  · skip
    refine ct_of h_HA_perform rfl rfl rfl ?_
    refine ev_gV [] [some 36] rfl ?_
    refine ev_inV 1 k_HA_15 h_SD_t rfl rfl rfl rfl rfl ⟨by decide, by decide⟩ rfl ?_
    refine ev_gV [] [none] rfl ?_
    refine ev_retn rfl ?_
    refine ev_g0 rfl ?_
    refine ev_inS 2 k_HA_49 h_HA_isA rfl rfl rfl rfl ⟨by decide, by decide⟩ rfl ?_
    refine ev_g0 rfl ?_
    refine ev_retz rfl (by first | decide | exact zb_01 _) ?_
    refine ev_gV [true] [] rfl ?_
    refine ev_inV 2 k_HA_53 h_SD_setN rfl rfl rfl rfl rfl ⟨by decide, by decide⟩ rfl ?_
    refine ev_gV [] [] rfl ?_
    refine ev_ret rfl ?_
    refine ev_g0 rfl ?_
    refine ev_reti rfl ?_
    refine ct_of h_MM_handles rfl rfl rfl ?_
    refine ev_g0 rfl ?_
    refine ev_inV 1 k_MM_344 h_MM_hold rfl rfl rfl rfl rfl ⟨by decide, by decide⟩ rfl ?_
    refine ev_gV [] [] rfl ?_
    refine ev_reti rfl ?_
    refine ev_gV [true] [some 12] rfl ?_
    refine ev_inV 2 k_MM_288 h_MM_lay rfl rfl rfl rfl rfl ⟨by decide, by decide⟩ rfl ?_
    refine ev_gV [] [] rfl ?_
    refine ev_ret rfl ?_
    refine ev_g0 rfl ?_
    refine ev_ret rfl ?_
    exact ⟨rfl, (u3 xj 0 t a ((nI 0).toInt64)), xd, xf, xo, xi, xn, nI 0, rfl, bdd, lf_V, lf_V, (CU_num hC ht ha lf_V lf_V), (MU_num hM ht ha lf_V lf_V (fun i hi => (rc_isor hC hi).2.2.1))⟩
  · skip
    have hq := rc_ihol hC ht hb _ ho
    have zq := rc_isor hC hq
    have yq := rc_imad hC
    refine ct_of h_HA_perform rfl rfl rfl ?_
    refine ev_gV [] [some 36] rfl ?_
    refine ev_inV 1 k_HA_15 h_SD_t rfl rfl rfl rfl rfl ⟨by decide, by decide⟩ rfl ?_
    refine ev_gV [] [some (94 + 4 * q)] rfl ?_
    refine ev_reta rfl ?_
    refine ev_g0 rfl ?_
    refine ev_inS 2 k_HA_49 h_HA_isA rfl rfl rfl rfl ⟨by decide, by decide⟩ rfl ?_
    refine ev_g0 rfl ?_
    refine ev_inV 1 k_HA_61 h_TH_isA rfl rfl rfl rfl rfl ⟨by decide, by decide⟩ rfl ?_
    refine ev_gV [true, true] [none] rfl ?_
    refine ev_bV rfl rfl (fun h_1 => ?_) (fun h_1 => ?_)
    · skip
      refine ev_g0 rfl ?_
      refine ev_retz rfl (by first | decide | exact zb_01 _) ?_
      refine ev_gV [true] [] rfl ?_
      refine ev_retz rfl (by first | decide | exact zb_01 _) ?_
      refine ev_gV [true] [] rfl ?_
      refine ev_inV 2 k_HA_53 h_SD_setN rfl rfl rfl rfl rfl ⟨by decide, by decide⟩ rfl ?_
      refine ev_gV [] [] rfl ?_
      refine ev_ret rfl ?_
      refine ev_g0 rfl ?_
      refine ev_reti rfl ?_
      refine ct_of h_MM_handles rfl rfl rfl ?_
      refine ev_g0 rfl ?_
      refine ev_inV 1 k_MM_344 h_MM_hold rfl rfl rfl rfl rfl ⟨by decide, by decide⟩ rfl ?_
      refine ev_gV [] [] rfl ?_
      refine ev_reti rfl ?_
      refine ev_gV [false] [some 12] rfl ?_
      refine ev_inV 2 k_MM_202 h_MM_isKind rfl rfl rfl rfl rfl ⟨by decide, by decide⟩ rfl ?_
      refine ev_gV [true, true] [] rfl ?_
      refine ev_retz rfl (by first | decide | exact zb_01 _) ?_
      refine ev_gV [true] [] rfl ?_
      refine ev_inV 2 k_MM_288 h_MM_lay rfl rfl rfl rfl rfl ⟨by decide, by decide⟩ rfl ?_
      refine ev_gV [] [] rfl ?_
      refine ev_ret rfl ?_
      refine ev_g0 rfl ?_
      refine ev_ret rfl ?_
      exact ⟨rfl, (u3 xj 0 t a ((nI 0).toInt64)), xd, xf, xo, xi, xn, nI 0, rfl, bdd, lf_V, lf_V, (CU_num hC ht ha lf_V lf_V), (MU_num hM ht ha lf_V lf_V (fun i hi => (rc_isor hC hi).2.2.1))⟩
    · skip
      refine ev_g0 rfl ?_
      refine ev_retz rfl (by first | decide | exact zb_01 _) ?_
      refine ev_gV [false] [] rfl ?_
      refine ev_retz rfl (by first | decide | exact zb_01 _) ?_
      refine ev_gV [false] [] rfl ?_
      refine ev_inV 2 k_HA_53 h_SD_setN rfl rfl rfl rfl rfl ⟨by decide, by decide⟩ rfl ?_
      refine ev_gV [] [] rfl ?_
      refine ev_ret rfl ?_
      refine ev_g0 rfl ?_
      refine ev_reti rfl ?_
      refine ct_of h_MM_handles rfl rfl rfl ?_
      refine ev_g0 rfl ?_
      refine ev_inV 1 k_MM_344 h_MM_hold rfl rfl rfl rfl rfl ⟨by decide, by decide⟩ rfl ?_
      refine ev_gV [] [] rfl ?_
      refine ev_reti rfl ?_
      refine ev_gV [false] [some 12] rfl ?_
      refine ev_inV 2 k_MM_202 h_MM_isKind rfl rfl rfl rfl rfl ⟨by decide, by decide⟩ rfl ?_
      refine ev_gV [true, false] [] rfl ?_
      refine ev_retz rfl (by first | decide | exact zb_01 _) ?_
      refine ev_gV [false] [] rfl ?_
      refine ev_inV 2 k_MM_288 h_MM_lay rfl rfl rfl rfl rfl ⟨by decide, by decide⟩ rfl ?_
      refine ev_gV [] [] rfl ?_
      refine ev_ret rfl ?_
      refine ev_g0 rfl ?_
      refine ev_ret rfl ?_
      exact ⟨rfl, (u3 xj 0 t a ((nI 1).toInt64)), xd, xf, xo, xi, xn, nI 0, rfl, bdd, lf_V, lf_V, (CU_num hC ht ha lf_V lf_V), (MU_num hM ht ha lf_V lf_V (fun i hi => (rc_isor hC hi).2.2.1))⟩
theorem A49_4 {ci : Nat → Nat → Nat → Int32} {cn : Nat → Nat → Nat → Nat} {co : Nat → Option Nat} {xj : Nat → Nat → Nat → Int64} {xd : Nat → Nat → Nat → UInt64} {xf : Nat → Nat → Nat → UInt32} {xo : Nat → Nat → Nat → Option Nat} {xi : Nat → Nat → Nat → Int32} {xn : Nat → Nat → Nat → Nat} {K : Nat → Nat} {I : Nat → Nat → Int32} {J : Nat → Nat → Int64} {F : Nat → Nat → UInt32} {D : Nat → Nat → UInt64} {R : Nat → Nat → Option Nat} {nx sl : Nat} {Km : Nat → Nat} {Im : Nat → Nat → Int32} {Jm : Nat → Nat → Int64} {Fm : Nat → Nat → UInt32} {Dm : Nat → Nat → UInt64} {Rm : Nat → Nat → Option Nat} {nxm slm : Nat} (hC : RC ci cn co xj xd xf xo xi xn I J F D R nx sl) (hM : RM ci cn co xj xd xf xo xi xn Im Jm Dm) {t a b : Nat} {go : Int32} (ht : t < 3) (ha : a < 8) (hb : b < 8) (x1 : Im 6 39 = nI t) (x2 : Im 6 40 = nI a) (x3 : Im 6 41 = nI b) (x4 : Im 6 42 = nI 4) (x5 : Im 6 43 = nI 0) (x6 : Im 6 44 = go) : Ct Y_HA_perform [vr 1 55, vr 8 (32 + 7 * t), vi (nI 49), vi (nI a), vi (nI b), vi (nI 4)] (K, I, J, F, D, R, nx, sl) (fun r μ1 => Ct Y_MM_handles [vr 11 6, vi (nI 49)] (Km, Im, Jm, Fm, Dm, Rm, nxm, slm) (fun r2 μ2 => r2 = none ∧ QA ci cn co go r μ1 μ2)) := by
  rcases ho : xo 0 t b with _ | q
  · skip
    refine ct_of h_HA_perform rfl rfl rfl ?_
    refine ev_gV [] [some 37] rfl ?_
    refine ev_inV 1 k_HA_15 h_SD_t rfl rfl rfl rfl rfl ⟨by decide, by decide⟩ rfl ?_
    refine ev_gV [] [none] rfl ?_
    refine ev_retn rfl ?_
    refine ev_g0 rfl ?_
    refine ev_inS 4 k_HA_57 h_HA_takeAs rfl rfl rfl rfl ⟨by decide, by decide⟩ rfl ?_
    refine ev_g0 rfl ?_
    refine ev_inV 2 k_HA_21 h_SD_setT rfl rfl rfl rfl rfl ⟨by decide, by decide⟩ rfl ?_
    refine ev_gV [] [] rfl ?_
    refine ev_ret rfl ?_
    refine ev_g0 rfl ?_
    refine ev_reti rfl ?_
    refine ev_g0 rfl ?_
    refine ev_reti rfl ?_
    refine ct_of h_MM_handles rfl rfl rfl ?_
    refine ev_g0 rfl ?_
    refine ev_inV 1 k_MM_344 h_MM_hold rfl rfl rfl rfl rfl ⟨by decide, by decide⟩ rfl ?_
    refine ev_gV [] [] rfl ?_
    refine ev_reti rfl ?_
    refine ev_gV [] [some 13] rfl ?_
    refine ev_inV 2 k_MM_354 h_MM_takes rfl rfl rfl rfl rfl ⟨by decide, by decide⟩ rfl ?_
    refine ev_gV [true] [] rfl ?_
    refine ev_retz rfl (by first | decide | exact zb_01 _) ?_
    refine ev_gV [false] [] rfl ?_
    refine ev_inV 2 k_MM_336 h_MM_keep rfl rfl rfl rfl rfl ⟨by decide, by decide⟩ rfl ?_
    refine ev_gV [] [] rfl ?_
    refine ev_ret rfl ?_
    refine ev_g0 rfl ?_
    refine ev_ret rfl ?_
    exact ⟨rfl, xj, xd, xf, (u3 xo 0 t a (none)), xi, xn, nI 0, rfl, bdd, lf_V, lf_V, (CU_hol hC ht ha (fun _ h => by cases h) lf_V lf_V), (MU_hol hM ht ha lf_V lf_V (fun i hi => (rc_isor hC hi).2.2.1))⟩
  · skip
    have hq := rc_ihol hC ht hb _ ho
    have zq := rc_isor hC hq
    have yq := rc_imad hC
    refine ct_of h_HA_perform rfl rfl rfl ?_
    refine ev_gV [] [some 37] rfl ?_
    refine ev_inV 1 k_HA_15 h_SD_t rfl rfl rfl rfl rfl ⟨by decide, by decide⟩ rfl ?_
    refine ev_gV [] [some (94 + 4 * q)] rfl ?_
    refine ev_reta rfl ?_
    refine ev_g0 rfl ?_
    refine ev_inS 4 k_HA_57 h_HA_takeAs rfl rfl rfl rfl ⟨by decide, by decide⟩ rfl ?_
    refine ev_g0 rfl ?_
    refine ev_inV 1 k_HA_61 h_TH_isA rfl rfl rfl rfl rfl ⟨by decide, by decide⟩ rfl ?_
    refine ev_gV [true, true] [none] rfl ?_
    refine ev_bV rfl rfl (fun h_1 => ?_) (fun h_1 => ?_)
    · skip
      refine ev_g0 rfl ?_
      refine ev_retz rfl (by first | decide | exact zb_01 _) ?_
      refine ev_gV [false] [] rfl ?_
      refine ev_reti rfl ?_
      refine ev_g0 rfl ?_
      refine ev_reti rfl ?_
      refine ct_of h_MM_handles rfl rfl rfl ?_
      refine ev_g0 rfl ?_
      refine ev_inV 1 k_MM_344 h_MM_hold rfl rfl rfl rfl rfl ⟨by decide, by decide⟩ rfl ?_
      refine ev_gV [] [] rfl ?_
      refine ev_reti rfl ?_
      refine ev_gV [] [some 13] rfl ?_
      refine ev_inV 2 k_MM_354 h_MM_takes rfl rfl rfl rfl rfl ⟨by decide, by decide⟩ rfl ?_
      refine ev_gV [false] [] rfl ?_
      refine ev_inV 2 k_MM_202 h_MM_isKind rfl rfl rfl rfl rfl ⟨by decide, by decide⟩ rfl ?_
      refine ev_gV [true, true] [] rfl ?_
      refine ev_retz rfl (by first | decide | exact zb_01 _) ?_
      refine ev_gV [false] [] rfl ?_
      refine ev_retz rfl (by first | decide | exact zb_01 _) ?_
      refine ev_gV [true] [] rfl ?_
      refine ev_ret rfl ?_
      exact ⟨rfl, xj, xd, xf, xo, xi, xn, nI 3, rfl, bdd, lf_V, lf_V, hC, hM⟩
    · skip
      refine ev_g0 rfl ?_
      refine ev_retz rfl (by first | decide | exact zb_01 _) ?_
      refine ev_gV [true] [] rfl ?_
      refine ev_inV 2 k_HA_21 h_SD_setT rfl rfl rfl rfl rfl ⟨by decide, by decide⟩ rfl ?_
      refine ev_gV [] [] rfl ?_
      refine ev_ret rfl ?_
      refine ev_g0 rfl ?_
      refine ev_reti rfl ?_
      refine ev_g0 rfl ?_
      refine ev_reti rfl ?_
      refine ct_of h_MM_handles rfl rfl rfl ?_
      refine ev_g0 rfl ?_
      refine ev_inV 1 k_MM_344 h_MM_hold rfl rfl rfl rfl rfl ⟨by decide, by decide⟩ rfl ?_
      refine ev_gV [] [] rfl ?_
      refine ev_reti rfl ?_
      refine ev_gV [] [some 13] rfl ?_
      refine ev_inV 2 k_MM_354 h_MM_takes rfl rfl rfl rfl rfl ⟨by decide, by decide⟩ rfl ?_
      refine ev_gV [false] [] rfl ?_
      refine ev_inV 2 k_MM_202 h_MM_isKind rfl rfl rfl rfl rfl ⟨by decide, by decide⟩ rfl ?_
      refine ev_gV [true, false] [] rfl ?_
      refine ev_retz rfl (by first | decide | exact zb_01 _) ?_
      refine ev_gV [true] [] rfl ?_
      refine ev_retz rfl (by first | decide | exact zb_01 _) ?_
      refine ev_gV [false] [] rfl ?_
      refine ev_inV 2 k_MM_336 h_MM_keep rfl rfl rfl rfl rfl ⟨by decide, by decide⟩ rfl ?_
      refine ev_gV [] [] rfl ?_
      refine ev_ret rfl ?_
      refine ev_g0 rfl ?_
      refine ev_ret rfl ?_
      exact ⟨rfl, xj, xd, xf, (u3 xo 0 t a (some q)), xi, xn, nI 0, rfl, bdd, lf_V, lf_V, (CU_hol hC ht ha (fun _ h => by cases h; exact hq) lf_V lf_V), (MU_hol hM ht ha lf_V lf_V (fun i hi => (rc_isor hC hi).2.2.1))⟩
theorem A48_5 {ci : Nat → Nat → Nat → Int32} {cn : Nat → Nat → Nat → Nat} {co : Nat → Option Nat} {xj : Nat → Nat → Nat → Int64} {xd : Nat → Nat → Nat → UInt64} {xf : Nat → Nat → Nat → UInt32} {xo : Nat → Nat → Nat → Option Nat} {xi : Nat → Nat → Nat → Int32} {xn : Nat → Nat → Nat → Nat} {K : Nat → Nat} {I : Nat → Nat → Int32} {J : Nat → Nat → Int64} {F : Nat → Nat → UInt32} {D : Nat → Nat → UInt64} {R : Nat → Nat → Option Nat} {nx sl : Nat} {Km : Nat → Nat} {Im : Nat → Nat → Int32} {Jm : Nat → Nat → Int64} {Fm : Nat → Nat → UInt32} {Dm : Nat → Nat → UInt64} {Rm : Nat → Nat → Option Nat} {nxm slm : Nat} (hC : RC ci cn co xj xd xf xo xi xn I J F D R nx sl) (hM : RM ci cn co xj xd xf xo xi xn Im Jm Dm) {t a b : Nat} {go : Int32} (ht : t < 3) (ha : a < 8) (hb : b < 8) (x1 : Im 6 39 = nI t) (x2 : Im 6 40 = nI a) (x3 : Im 6 41 = nI b) (x4 : Im 6 42 = nI 5) (x5 : Im 6 43 = nI 0) (x6 : Im 6 44 = go) : Ct Y_HA_perform [vr 1 55, vr 8 (32 + 7 * t), vi (nI 48), vi (nI a), vi (nI b), vi (nI 5)] (K, I, J, F, D, R, nx, sl) (fun r μ1 => Ct Y_MM_handles [vr 11 6, vi (nI 48)] (Km, Im, Jm, Fm, Dm, Rm, nxm, slm) (fun r2 μ2 => r2 = none ∧ QA ci cn co go r μ1 μ2)) := by
  rcases ho : xo 0 t b with _ | q
  · skip
    refine ct_of h_HA_perform rfl rfl rfl ?_
    refine ev_gV [] [some 36] rfl ?_
    refine ev_inV 1 k_HA_15 h_SD_t rfl rfl rfl rfl rfl ⟨by decide, by decide⟩ rfl ?_
    refine ev_gV [] [none] rfl ?_
    refine ev_retn rfl ?_
    refine ev_g0 rfl ?_
    refine ev_inS 2 k_HA_49 h_HA_isA rfl rfl rfl rfl ⟨by decide, by decide⟩ rfl ?_
    refine ev_g0 rfl ?_
    refine ev_retz rfl (by first | decide | exact zb_01 _) ?_
    refine ev_gV [true] [] rfl ?_
    refine ev_inV 2 k_HA_53 h_SD_setN rfl rfl rfl rfl rfl ⟨by decide, by decide⟩ rfl ?_
    refine ev_gV [] [] rfl ?_
    refine ev_ret rfl ?_
    refine ev_g0 rfl ?_
    refine ev_reti rfl ?_
    refine ct_of h_MM_handles rfl rfl rfl ?_
    refine ev_g0 rfl ?_
    refine ev_inV 1 k_MM_344 h_MM_hold rfl rfl rfl rfl rfl ⟨by decide, by decide⟩ rfl ?_
    refine ev_gV [] [] rfl ?_
    refine ev_reti rfl ?_
    refine ev_gV [true] [some 12] rfl ?_
    refine ev_inV 2 k_MM_288 h_MM_lay rfl rfl rfl rfl rfl ⟨by decide, by decide⟩ rfl ?_
    refine ev_gV [] [] rfl ?_
    refine ev_ret rfl ?_
    refine ev_g0 rfl ?_
    refine ev_ret rfl ?_
    exact ⟨rfl, (u3 xj 0 t a ((nI 0).toInt64)), xd, xf, xo, xi, xn, nI 0, rfl, bdd, lf_V, lf_V, (CU_num hC ht ha lf_V lf_V), (MU_num hM ht ha lf_V lf_V (fun i hi => (rc_isor hC hi).2.2.1))⟩
  · skip
    have hq := rc_ihol hC ht hb _ ho
    have zq := rc_isor hC hq
    have yq := rc_imad hC
    refine ct_of h_HA_perform rfl rfl rfl ?_
    refine ev_gV [] [some 36] rfl ?_
    refine ev_inV 1 k_HA_15 h_SD_t rfl rfl rfl rfl rfl ⟨by decide, by decide⟩ rfl ?_
    refine ev_gV [] [some (94 + 4 * q)] rfl ?_
    refine ev_reta rfl ?_
    refine ev_g0 rfl ?_
    refine ev_inS 2 k_HA_49 h_HA_isA rfl rfl rfl rfl ⟨by decide, by decide⟩ rfl ?_
    refine ev_g0 rfl ?_
    refine ev_inV 1 k_HA_61 h_TH_isA rfl rfl rfl rfl rfl ⟨by decide, by decide⟩ rfl ?_
    refine ev_gV [true, true] [none] rfl ?_
    refine ev_bV rfl rfl (fun h_1 => ?_) (fun h_1 => ?_)
    · skip
      refine ev_g0 rfl ?_
      refine ev_retz rfl (by first | decide | exact zb_01 _) ?_
      refine ev_gV [true] [] rfl ?_
      refine ev_retz rfl (by first | decide | exact zb_01 _) ?_
      refine ev_gV [true] [] rfl ?_
      refine ev_inV 2 k_HA_53 h_SD_setN rfl rfl rfl rfl rfl ⟨by decide, by decide⟩ rfl ?_
      refine ev_gV [] [] rfl ?_
      refine ev_ret rfl ?_
      refine ev_g0 rfl ?_
      refine ev_reti rfl ?_
      refine ct_of h_MM_handles rfl rfl rfl ?_
      refine ev_g0 rfl ?_
      refine ev_inV 1 k_MM_344 h_MM_hold rfl rfl rfl rfl rfl ⟨by decide, by decide⟩ rfl ?_
      refine ev_gV [] [] rfl ?_
      refine ev_reti rfl ?_
      refine ev_gV [false] [some 12] rfl ?_
      refine ev_inV 2 k_MM_202 h_MM_isKind rfl rfl rfl rfl rfl ⟨by decide, by decide⟩ rfl ?_
      refine ev_gV [true, true] [] rfl ?_
      refine ev_retz rfl (by first | decide | exact zb_01 _) ?_
      refine ev_gV [true] [] rfl ?_
      refine ev_inV 2 k_MM_288 h_MM_lay rfl rfl rfl rfl rfl ⟨by decide, by decide⟩ rfl ?_
      refine ev_gV [] [] rfl ?_
      refine ev_ret rfl ?_
      refine ev_g0 rfl ?_
      refine ev_ret rfl ?_
      exact ⟨rfl, (u3 xj 0 t a ((nI 0).toInt64)), xd, xf, xo, xi, xn, nI 0, rfl, bdd, lf_V, lf_V, (CU_num hC ht ha lf_V lf_V), (MU_num hM ht ha lf_V lf_V (fun i hi => (rc_isor hC hi).2.2.1))⟩
    · skip
      refine ev_g0 rfl ?_
      refine ev_retz rfl (by first | decide | exact zb_01 _) ?_
      refine ev_gV [false] [] rfl ?_
      refine ev_retz rfl (by first | decide | exact zb_01 _) ?_
      refine ev_gV [false] [] rfl ?_
      refine ev_inV 2 k_HA_53 h_SD_setN rfl rfl rfl rfl rfl ⟨by decide, by decide⟩ rfl ?_
      refine ev_gV [] [] rfl ?_
      refine ev_ret rfl ?_
      refine ev_g0 rfl ?_
      refine ev_reti rfl ?_
      refine ct_of h_MM_handles rfl rfl rfl ?_
      refine ev_g0 rfl ?_
      refine ev_inV 1 k_MM_344 h_MM_hold rfl rfl rfl rfl rfl ⟨by decide, by decide⟩ rfl ?_
      refine ev_gV [] [] rfl ?_
      refine ev_reti rfl ?_
      refine ev_gV [false] [some 12] rfl ?_
      refine ev_inV 2 k_MM_202 h_MM_isKind rfl rfl rfl rfl rfl ⟨by decide, by decide⟩ rfl ?_
      refine ev_gV [true, false] [] rfl ?_
      refine ev_retz rfl (by first | decide | exact zb_01 _) ?_
      refine ev_gV [false] [] rfl ?_
      refine ev_inV 2 k_MM_288 h_MM_lay rfl rfl rfl rfl rfl ⟨by decide, by decide⟩ rfl ?_
      refine ev_gV [] [] rfl ?_
      refine ev_ret rfl ?_
      refine ev_g0 rfl ?_
      refine ev_ret rfl ?_
      exact ⟨rfl, (u3 xj 0 t a ((nI 1).toInt64)), xd, xf, xo, xi, xn, nI 0, rfl, bdd, lf_V, lf_V, (CU_num hC ht ha lf_V lf_V), (MU_num hM ht ha lf_V lf_V (fun i hi => (rc_isor hC hi).2.2.1))⟩
theorem A49_5 {ci : Nat → Nat → Nat → Int32} {cn : Nat → Nat → Nat → Nat} {co : Nat → Option Nat} {xj : Nat → Nat → Nat → Int64} {xd : Nat → Nat → Nat → UInt64} {xf : Nat → Nat → Nat → UInt32} {xo : Nat → Nat → Nat → Option Nat} {xi : Nat → Nat → Nat → Int32} {xn : Nat → Nat → Nat → Nat} {K : Nat → Nat} {I : Nat → Nat → Int32} {J : Nat → Nat → Int64} {F : Nat → Nat → UInt32} {D : Nat → Nat → UInt64} {R : Nat → Nat → Option Nat} {nx sl : Nat} {Km : Nat → Nat} {Im : Nat → Nat → Int32} {Jm : Nat → Nat → Int64} {Fm : Nat → Nat → UInt32} {Dm : Nat → Nat → UInt64} {Rm : Nat → Nat → Option Nat} {nxm slm : Nat} (hC : RC ci cn co xj xd xf xo xi xn I J F D R nx sl) (hM : RM ci cn co xj xd xf xo xi xn Im Jm Dm) {t a b : Nat} {go : Int32} (ht : t < 3) (ha : a < 8) (hb : b < 8) (x1 : Im 6 39 = nI t) (x2 : Im 6 40 = nI a) (x3 : Im 6 41 = nI b) (x4 : Im 6 42 = nI 5) (x5 : Im 6 43 = nI 0) (x6 : Im 6 44 = go) : Ct Y_HA_perform [vr 1 55, vr 8 (32 + 7 * t), vi (nI 49), vi (nI a), vi (nI b), vi (nI 5)] (K, I, J, F, D, R, nx, sl) (fun r μ1 => Ct Y_MM_handles [vr 11 6, vi (nI 49)] (Km, Im, Jm, Fm, Dm, Rm, nxm, slm) (fun r2 μ2 => r2 = none ∧ QA ci cn co go r μ1 μ2)) := by
  rcases ho : xo 0 t b with _ | q
  · skip
    refine ct_of h_HA_perform rfl rfl rfl ?_
    refine ev_gV [] [some 37] rfl ?_
    refine ev_inV 1 k_HA_15 h_SD_t rfl rfl rfl rfl rfl ⟨by decide, by decide⟩ rfl ?_
    refine ev_gV [] [none] rfl ?_
    refine ev_retn rfl ?_
    refine ev_g0 rfl ?_
    refine ev_inS 4 k_HA_57 h_HA_takeAs rfl rfl rfl rfl ⟨by decide, by decide⟩ rfl ?_
    refine ev_g0 rfl ?_
    refine ev_inV 2 k_HA_21 h_SD_setT rfl rfl rfl rfl rfl ⟨by decide, by decide⟩ rfl ?_
    refine ev_gV [] [] rfl ?_
    refine ev_ret rfl ?_
    refine ev_g0 rfl ?_
    refine ev_reti rfl ?_
    refine ev_g0 rfl ?_
    refine ev_reti rfl ?_
    refine ct_of h_MM_handles rfl rfl rfl ?_
    refine ev_g0 rfl ?_
    refine ev_inV 1 k_MM_344 h_MM_hold rfl rfl rfl rfl rfl ⟨by decide, by decide⟩ rfl ?_
    refine ev_gV [] [] rfl ?_
    refine ev_reti rfl ?_
    refine ev_gV [] [some 13] rfl ?_
    refine ev_inV 2 k_MM_354 h_MM_takes rfl rfl rfl rfl rfl ⟨by decide, by decide⟩ rfl ?_
    refine ev_gV [true] [] rfl ?_
    refine ev_retz rfl (by first | decide | exact zb_01 _) ?_
    refine ev_gV [false] [] rfl ?_
    refine ev_inV 2 k_MM_336 h_MM_keep rfl rfl rfl rfl rfl ⟨by decide, by decide⟩ rfl ?_
    refine ev_gV [] [] rfl ?_
    refine ev_ret rfl ?_
    refine ev_g0 rfl ?_
    refine ev_ret rfl ?_
    exact ⟨rfl, xj, xd, xf, (u3 xo 0 t a (none)), xi, xn, nI 0, rfl, bdd, lf_V, lf_V, (CU_hol hC ht ha (fun _ h => by cases h) lf_V lf_V), (MU_hol hM ht ha lf_V lf_V (fun i hi => (rc_isor hC hi).2.2.1))⟩
  · skip
    have hq := rc_ihol hC ht hb _ ho
    have zq := rc_isor hC hq
    have yq := rc_imad hC
    refine ct_of h_HA_perform rfl rfl rfl ?_
    refine ev_gV [] [some 37] rfl ?_
    refine ev_inV 1 k_HA_15 h_SD_t rfl rfl rfl rfl rfl ⟨by decide, by decide⟩ rfl ?_
    refine ev_gV [] [some (94 + 4 * q)] rfl ?_
    refine ev_reta rfl ?_
    refine ev_g0 rfl ?_
    refine ev_inS 4 k_HA_57 h_HA_takeAs rfl rfl rfl rfl ⟨by decide, by decide⟩ rfl ?_
    refine ev_g0 rfl ?_
    refine ev_inV 1 k_HA_61 h_TH_isA rfl rfl rfl rfl rfl ⟨by decide, by decide⟩ rfl ?_
    refine ev_gV [true, true] [none] rfl ?_
    refine ev_bV rfl rfl (fun h_1 => ?_) (fun h_1 => ?_)
    · skip
      refine ev_g0 rfl ?_
      refine ev_retz rfl (by first | decide | exact zb_01 _) ?_
      refine ev_gV [false] [] rfl ?_
      refine ev_reti rfl ?_
      refine ev_g0 rfl ?_
      refine ev_reti rfl ?_
      refine ct_of h_MM_handles rfl rfl rfl ?_
      refine ev_g0 rfl ?_
      refine ev_inV 1 k_MM_344 h_MM_hold rfl rfl rfl rfl rfl ⟨by decide, by decide⟩ rfl ?_
      refine ev_gV [] [] rfl ?_
      refine ev_reti rfl ?_
      refine ev_gV [] [some 13] rfl ?_
      refine ev_inV 2 k_MM_354 h_MM_takes rfl rfl rfl rfl rfl ⟨by decide, by decide⟩ rfl ?_
      refine ev_gV [false] [] rfl ?_
      refine ev_inV 2 k_MM_202 h_MM_isKind rfl rfl rfl rfl rfl ⟨by decide, by decide⟩ rfl ?_
      refine ev_gV [true, true] [] rfl ?_
      refine ev_retz rfl (by first | decide | exact zb_01 _) ?_
      refine ev_gV [false] [] rfl ?_
      refine ev_retz rfl (by first | decide | exact zb_01 _) ?_
      refine ev_gV [true] [] rfl ?_
      refine ev_ret rfl ?_
      exact ⟨rfl, xj, xd, xf, xo, xi, xn, nI 3, rfl, bdd, lf_V, lf_V, hC, hM⟩
    · skip
      refine ev_g0 rfl ?_
      refine ev_retz rfl (by first | decide | exact zb_01 _) ?_
      refine ev_gV [true] [] rfl ?_
      refine ev_inV 2 k_HA_21 h_SD_setT rfl rfl rfl rfl rfl ⟨by decide, by decide⟩ rfl ?_
      refine ev_gV [] [] rfl ?_
      refine ev_ret rfl ?_
      refine ev_g0 rfl ?_
      refine ev_reti rfl ?_
      refine ev_g0 rfl ?_
      refine ev_reti rfl ?_
      refine ct_of h_MM_handles rfl rfl rfl ?_
      refine ev_g0 rfl ?_
      refine ev_inV 1 k_MM_344 h_MM_hold rfl rfl rfl rfl rfl ⟨by decide, by decide⟩ rfl ?_
      refine ev_gV [] [] rfl ?_
      refine ev_reti rfl ?_
      refine ev_gV [] [some 13] rfl ?_
      refine ev_inV 2 k_MM_354 h_MM_takes rfl rfl rfl rfl rfl ⟨by decide, by decide⟩ rfl ?_
      refine ev_gV [false] [] rfl ?_
      refine ev_inV 2 k_MM_202 h_MM_isKind rfl rfl rfl rfl rfl ⟨by decide, by decide⟩ rfl ?_
      refine ev_gV [true, false] [] rfl ?_
      refine ev_retz rfl (by first | decide | exact zb_01 _) ?_
      refine ev_gV [true] [] rfl ?_
      refine ev_retz rfl (by first | decide | exact zb_01 _) ?_
      refine ev_gV [false] [] rfl ?_
      refine ev_inV 2 k_MM_336 h_MM_keep rfl rfl rfl rfl rfl ⟨by decide, by decide⟩ rfl ?_
      refine ev_gV [] [] rfl ?_
      refine ev_ret rfl ?_
      refine ev_g0 rfl ?_
      refine ev_ret rfl ?_
      exact ⟨rfl, xj, xd, xf, (u3 xo 0 t a (some q)), xi, xn, nI 0, rfl, bdd, lf_V, lf_V, (CU_hol hC ht ha (fun _ h => by cases h; exact hq) lf_V lf_V), (MU_hol hM ht ha lf_V lf_V (fun i hi => (rc_isor hC hi).2.2.1))⟩
theorem A48_6 {ci : Nat → Nat → Nat → Int32} {cn : Nat → Nat → Nat → Nat} {co : Nat → Option Nat} {xj : Nat → Nat → Nat → Int64} {xd : Nat → Nat → Nat → UInt64} {xf : Nat → Nat → Nat → UInt32} {xo : Nat → Nat → Nat → Option Nat} {xi : Nat → Nat → Nat → Int32} {xn : Nat → Nat → Nat → Nat} {K : Nat → Nat} {I : Nat → Nat → Int32} {J : Nat → Nat → Int64} {F : Nat → Nat → UInt32} {D : Nat → Nat → UInt64} {R : Nat → Nat → Option Nat} {nx sl : Nat} {Km : Nat → Nat} {Im : Nat → Nat → Int32} {Jm : Nat → Nat → Int64} {Fm : Nat → Nat → UInt32} {Dm : Nat → Nat → UInt64} {Rm : Nat → Nat → Option Nat} {nxm slm : Nat} (hC : RC ci cn co xj xd xf xo xi xn I J F D R nx sl) (hM : RM ci cn co xj xd xf xo xi xn Im Jm Dm) {t a b : Nat} {go : Int32} (ht : t < 3) (ha : a < 8) (hb : b < 8) (x1 : Im 6 39 = nI t) (x2 : Im 6 40 = nI a) (x3 : Im 6 41 = nI b) (x4 : Im 6 42 = nI 6) (x5 : Im 6 43 = nI 0) (x6 : Im 6 44 = go) : Ct Y_HA_perform [vr 1 55, vr 8 (32 + 7 * t), vi (nI 48), vi (nI a), vi (nI b), vi (nI 6)] (K, I, J, F, D, R, nx, sl) (fun r μ1 => Ct Y_MM_handles [vr 11 6, vi (nI 48)] (Km, Im, Jm, Fm, Dm, Rm, nxm, slm) (fun r2 μ2 => r2 = none ∧ QA ci cn co go r μ1 μ2)) := by
  rcases ho : xo 0 t b with _ | q
  · skip
    refine ct_of h_HA_perform rfl rfl rfl ?_
    refine ev_gV [] [some 36] rfl ?_
    refine ev_inV 1 k_HA_15 h_SD_t rfl rfl rfl rfl rfl ⟨by decide, by decide⟩ rfl ?_
    refine ev_gV [] [none] rfl ?_
    refine ev_retn rfl ?_
    refine ev_g0 rfl ?_
    refine ev_inS 2 k_HA_49 h_HA_isA rfl rfl rfl rfl ⟨by decide, by decide⟩ rfl ?_
    refine ev_g0 rfl ?_
    refine ev_retz rfl (by first | decide | exact zb_01 _) ?_
    refine ev_gV [true] [] rfl ?_
    refine ev_inV 2 k_HA_53 h_SD_setN rfl rfl rfl rfl rfl ⟨by decide, by decide⟩ rfl ?_
    refine ev_gV [] [] rfl ?_
    refine ev_ret rfl ?_
    refine ev_g0 rfl ?_
    refine ev_reti rfl ?_
    refine ct_of h_MM_handles rfl rfl rfl ?_
    refine ev_g0 rfl ?_
    refine ev_inV 1 k_MM_344 h_MM_hold rfl rfl rfl rfl rfl ⟨by decide, by decide⟩ rfl ?_
    refine ev_gV [] [] rfl ?_
    refine ev_reti rfl ?_
    refine ev_gV [true] [some 12] rfl ?_
    refine ev_inV 2 k_MM_288 h_MM_lay rfl rfl rfl rfl rfl ⟨by decide, by decide⟩ rfl ?_
    refine ev_gV [] [] rfl ?_
    refine ev_ret rfl ?_
    refine ev_g0 rfl ?_
    refine ev_ret rfl ?_
    exact ⟨rfl, (u3 xj 0 t a ((nI 0).toInt64)), xd, xf, xo, xi, xn, nI 0, rfl, bdd, lf_V, lf_V, (CU_num hC ht ha lf_V lf_V), (MU_num hM ht ha lf_V lf_V (fun i hi => (rc_isor hC hi).2.2.1))⟩
  · skip
    have hq := rc_ihol hC ht hb _ ho
    have zq := rc_isor hC hq
    have yq := rc_imad hC
    refine ct_of h_HA_perform rfl rfl rfl ?_
    refine ev_gV [] [some 36] rfl ?_
    refine ev_inV 1 k_HA_15 h_SD_t rfl rfl rfl rfl rfl ⟨by decide, by decide⟩ rfl ?_
    refine ev_gV [] [some (94 + 4 * q)] rfl ?_
    refine ev_reta rfl ?_
    refine ev_g0 rfl ?_
    refine ev_inS 2 k_HA_49 h_HA_isA rfl rfl rfl rfl ⟨by decide, by decide⟩ rfl ?_
    refine ev_g0 rfl ?_
    refine ev_inV 1 k_HA_61 h_TH_isA rfl rfl rfl rfl rfl ⟨by decide, by decide⟩ rfl ?_
    refine ev_gV [true, true] [none] rfl ?_
    refine ev_bV rfl rfl (fun h_1 => ?_) (fun h_1 => ?_)
    · skip
      refine ev_g0 rfl ?_
      refine ev_retz rfl (by first | decide | exact zb_01 _) ?_
      refine ev_gV [true] [] rfl ?_
      refine ev_retz rfl (by first | decide | exact zb_01 _) ?_
      refine ev_gV [true] [] rfl ?_
      refine ev_inV 2 k_HA_53 h_SD_setN rfl rfl rfl rfl rfl ⟨by decide, by decide⟩ rfl ?_
      refine ev_gV [] [] rfl ?_
      refine ev_ret rfl ?_
      refine ev_g0 rfl ?_
      refine ev_reti rfl ?_
      refine ct_of h_MM_handles rfl rfl rfl ?_
      refine ev_g0 rfl ?_
      refine ev_inV 1 k_MM_344 h_MM_hold rfl rfl rfl rfl rfl ⟨by decide, by decide⟩ rfl ?_
      refine ev_gV [] [] rfl ?_
      refine ev_reti rfl ?_
      refine ev_gV [false] [some 12] rfl ?_
      refine ev_inV 2 k_MM_202 h_MM_isKind rfl rfl rfl rfl rfl ⟨by decide, by decide⟩ rfl ?_
      refine ev_gV [true, true] [] rfl ?_
      refine ev_retz rfl (by first | decide | exact zb_01 _) ?_
      refine ev_gV [true] [] rfl ?_
      refine ev_inV 2 k_MM_288 h_MM_lay rfl rfl rfl rfl rfl ⟨by decide, by decide⟩ rfl ?_
      refine ev_gV [] [] rfl ?_
      refine ev_ret rfl ?_
      refine ev_g0 rfl ?_
      refine ev_ret rfl ?_
      exact ⟨rfl, (u3 xj 0 t a ((nI 0).toInt64)), xd, xf, xo, xi, xn, nI 0, rfl, bdd, lf_V, lf_V, (CU_num hC ht ha lf_V lf_V), (MU_num hM ht ha lf_V lf_V (fun i hi => (rc_isor hC hi).2.2.1))⟩
    · skip
      refine ev_g0 rfl ?_
      refine ev_retz rfl (by first | decide | exact zb_01 _) ?_
      refine ev_gV [false] [] rfl ?_
      refine ev_retz rfl (by first | decide | exact zb_01 _) ?_
      refine ev_gV [false] [] rfl ?_
      refine ev_inV 2 k_HA_53 h_SD_setN rfl rfl rfl rfl rfl ⟨by decide, by decide⟩ rfl ?_
      refine ev_gV [] [] rfl ?_
      refine ev_ret rfl ?_
      refine ev_g0 rfl ?_
      refine ev_reti rfl ?_
      refine ct_of h_MM_handles rfl rfl rfl ?_
      refine ev_g0 rfl ?_
      refine ev_inV 1 k_MM_344 h_MM_hold rfl rfl rfl rfl rfl ⟨by decide, by decide⟩ rfl ?_
      refine ev_gV [] [] rfl ?_
      refine ev_reti rfl ?_
      refine ev_gV [false] [some 12] rfl ?_
      refine ev_inV 2 k_MM_202 h_MM_isKind rfl rfl rfl rfl rfl ⟨by decide, by decide⟩ rfl ?_
      refine ev_gV [true, false] [] rfl ?_
      refine ev_retz rfl (by first | decide | exact zb_01 _) ?_
      refine ev_gV [false] [] rfl ?_
      refine ev_inV 2 k_MM_288 h_MM_lay rfl rfl rfl rfl rfl ⟨by decide, by decide⟩ rfl ?_
      refine ev_gV [] [] rfl ?_
      refine ev_ret rfl ?_
      refine ev_g0 rfl ?_
      refine ev_ret rfl ?_
      exact ⟨rfl, (u3 xj 0 t a ((nI 1).toInt64)), xd, xf, xo, xi, xn, nI 0, rfl, bdd, lf_V, lf_V, (CU_num hC ht ha lf_V lf_V), (MU_num hM ht ha lf_V lf_V (fun i hi => (rc_isor hC hi).2.2.1))⟩
theorem A49_6 {ci : Nat → Nat → Nat → Int32} {cn : Nat → Nat → Nat → Nat} {co : Nat → Option Nat} {xj : Nat → Nat → Nat → Int64} {xd : Nat → Nat → Nat → UInt64} {xf : Nat → Nat → Nat → UInt32} {xo : Nat → Nat → Nat → Option Nat} {xi : Nat → Nat → Nat → Int32} {xn : Nat → Nat → Nat → Nat} {K : Nat → Nat} {I : Nat → Nat → Int32} {J : Nat → Nat → Int64} {F : Nat → Nat → UInt32} {D : Nat → Nat → UInt64} {R : Nat → Nat → Option Nat} {nx sl : Nat} {Km : Nat → Nat} {Im : Nat → Nat → Int32} {Jm : Nat → Nat → Int64} {Fm : Nat → Nat → UInt32} {Dm : Nat → Nat → UInt64} {Rm : Nat → Nat → Option Nat} {nxm slm : Nat} (hC : RC ci cn co xj xd xf xo xi xn I J F D R nx sl) (hM : RM ci cn co xj xd xf xo xi xn Im Jm Dm) {t a b : Nat} {go : Int32} (ht : t < 3) (ha : a < 8) (hb : b < 8) (x1 : Im 6 39 = nI t) (x2 : Im 6 40 = nI a) (x3 : Im 6 41 = nI b) (x4 : Im 6 42 = nI 6) (x5 : Im 6 43 = nI 0) (x6 : Im 6 44 = go) : Ct Y_HA_perform [vr 1 55, vr 8 (32 + 7 * t), vi (nI 49), vi (nI a), vi (nI b), vi (nI 6)] (K, I, J, F, D, R, nx, sl) (fun r μ1 => Ct Y_MM_handles [vr 11 6, vi (nI 49)] (Km, Im, Jm, Fm, Dm, Rm, nxm, slm) (fun r2 μ2 => r2 = none ∧ QA ci cn co go r μ1 μ2)) := by
  rcases ho : xo 0 t b with _ | q
  · skip
    refine ct_of h_HA_perform rfl rfl rfl ?_
    refine ev_gV [] [some 37] rfl ?_
    refine ev_inV 1 k_HA_15 h_SD_t rfl rfl rfl rfl rfl ⟨by decide, by decide⟩ rfl ?_
    refine ev_gV [] [none] rfl ?_
    refine ev_retn rfl ?_
    refine ev_g0 rfl ?_
    refine ev_inS 4 k_HA_57 h_HA_takeAs rfl rfl rfl rfl ⟨by decide, by decide⟩ rfl ?_
    refine ev_g0 rfl ?_
    refine ev_inV 2 k_HA_21 h_SD_setT rfl rfl rfl rfl rfl ⟨by decide, by decide⟩ rfl ?_
    refine ev_gV [] [] rfl ?_
    refine ev_ret rfl ?_
    refine ev_g0 rfl ?_
    refine ev_reti rfl ?_
    refine ev_g0 rfl ?_
    refine ev_reti rfl ?_
    refine ct_of h_MM_handles rfl rfl rfl ?_
    refine ev_g0 rfl ?_
    refine ev_inV 1 k_MM_344 h_MM_hold rfl rfl rfl rfl rfl ⟨by decide, by decide⟩ rfl ?_
    refine ev_gV [] [] rfl ?_
    refine ev_reti rfl ?_
    refine ev_gV [] [some 13] rfl ?_
    refine ev_inV 2 k_MM_354 h_MM_takes rfl rfl rfl rfl rfl ⟨by decide, by decide⟩ rfl ?_
    refine ev_gV [true] [] rfl ?_
    refine ev_retz rfl (by first | decide | exact zb_01 _) ?_
    refine ev_gV [false] [] rfl ?_
    refine ev_inV 2 k_MM_336 h_MM_keep rfl rfl rfl rfl rfl ⟨by decide, by decide⟩ rfl ?_
    refine ev_gV [] [] rfl ?_
    refine ev_ret rfl ?_
    refine ev_g0 rfl ?_
    refine ev_ret rfl ?_
    exact ⟨rfl, xj, xd, xf, (u3 xo 0 t a (none)), xi, xn, nI 0, rfl, bdd, lf_V, lf_V, (CU_hol hC ht ha (fun _ h => by cases h) lf_V lf_V), (MU_hol hM ht ha lf_V lf_V (fun i hi => (rc_isor hC hi).2.2.1))⟩
  · skip
    have hq := rc_ihol hC ht hb _ ho
    have zq := rc_isor hC hq
    have yq := rc_imad hC
    refine ct_of h_HA_perform rfl rfl rfl ?_
    refine ev_gV [] [some 37] rfl ?_
    refine ev_inV 1 k_HA_15 h_SD_t rfl rfl rfl rfl rfl ⟨by decide, by decide⟩ rfl ?_
    refine ev_gV [] [some (94 + 4 * q)] rfl ?_
    refine ev_reta rfl ?_
    refine ev_g0 rfl ?_
    refine ev_inS 4 k_HA_57 h_HA_takeAs rfl rfl rfl rfl ⟨by decide, by decide⟩ rfl ?_
    refine ev_g0 rfl ?_
    refine ev_inV 1 k_HA_61 h_TH_isA rfl rfl rfl rfl rfl ⟨by decide, by decide⟩ rfl ?_
    refine ev_gV [true, true] [none] rfl ?_
    refine ev_bV rfl rfl (fun h_1 => ?_) (fun h_1 => ?_)
    · skip
      refine ev_g0 rfl ?_
      refine ev_retz rfl (by first | decide | exact zb_01 _) ?_
      refine ev_gV [false] [] rfl ?_
      refine ev_reti rfl ?_
      refine ev_g0 rfl ?_
      refine ev_reti rfl ?_
      refine ct_of h_MM_handles rfl rfl rfl ?_
      refine ev_g0 rfl ?_
      refine ev_inV 1 k_MM_344 h_MM_hold rfl rfl rfl rfl rfl ⟨by decide, by decide⟩ rfl ?_
      refine ev_gV [] [] rfl ?_
      refine ev_reti rfl ?_
      refine ev_gV [] [some 13] rfl ?_
      refine ev_inV 2 k_MM_354 h_MM_takes rfl rfl rfl rfl rfl ⟨by decide, by decide⟩ rfl ?_
      refine ev_gV [false] [] rfl ?_
      refine ev_inV 2 k_MM_202 h_MM_isKind rfl rfl rfl rfl rfl ⟨by decide, by decide⟩ rfl ?_
      refine ev_gV [true, true] [] rfl ?_
      refine ev_retz rfl (by first | decide | exact zb_01 _) ?_
      refine ev_gV [false] [] rfl ?_
      refine ev_retz rfl (by first | decide | exact zb_01 _) ?_
      refine ev_gV [true] [] rfl ?_
      refine ev_ret rfl ?_
      exact ⟨rfl, xj, xd, xf, xo, xi, xn, nI 3, rfl, bdd, lf_V, lf_V, hC, hM⟩
    · skip
      refine ev_g0 rfl ?_
      refine ev_retz rfl (by first | decide | exact zb_01 _) ?_
      refine ev_gV [true] [] rfl ?_
      refine ev_inV 2 k_HA_21 h_SD_setT rfl rfl rfl rfl rfl ⟨by decide, by decide⟩ rfl ?_
      refine ev_gV [] [] rfl ?_
      refine ev_ret rfl ?_
      refine ev_g0 rfl ?_
      refine ev_reti rfl ?_
      refine ev_g0 rfl ?_
      refine ev_reti rfl ?_
      refine ct_of h_MM_handles rfl rfl rfl ?_
      refine ev_g0 rfl ?_
      refine ev_inV 1 k_MM_344 h_MM_hold rfl rfl rfl rfl rfl ⟨by decide, by decide⟩ rfl ?_
      refine ev_gV [] [] rfl ?_
      refine ev_reti rfl ?_
      refine ev_gV [] [some 13] rfl ?_
      refine ev_inV 2 k_MM_354 h_MM_takes rfl rfl rfl rfl rfl ⟨by decide, by decide⟩ rfl ?_
      refine ev_gV [false] [] rfl ?_
      refine ev_inV 2 k_MM_202 h_MM_isKind rfl rfl rfl rfl rfl ⟨by decide, by decide⟩ rfl ?_
      refine ev_gV [true, false] [] rfl ?_
      refine ev_retz rfl (by first | decide | exact zb_01 _) ?_
      refine ev_gV [true] [] rfl ?_
      refine ev_retz rfl (by first | decide | exact zb_01 _) ?_
      refine ev_gV [false] [] rfl ?_
      refine ev_inV 2 k_MM_336 h_MM_keep rfl rfl rfl rfl rfl ⟨by decide, by decide⟩ rfl ?_
      refine ev_gV [] [] rfl ?_
      refine ev_ret rfl ?_
      refine ev_g0 rfl ?_
      refine ev_ret rfl ?_
      exact ⟨rfl, xj, xd, xf, (u3 xo 0 t a (some q)), xi, xn, nI 0, rfl, bdd, lf_V, lf_V, (CU_hol hC ht ha (fun _ h => by cases h; exact hq) lf_V lf_V), (MU_hol hM ht ha lf_V lf_V (fun i hi => (rc_isor hC hi).2.2.1))⟩
theorem A48_7 {ci : Nat → Nat → Nat → Int32} {cn : Nat → Nat → Nat → Nat} {co : Nat → Option Nat} {xj : Nat → Nat → Nat → Int64} {xd : Nat → Nat → Nat → UInt64} {xf : Nat → Nat → Nat → UInt32} {xo : Nat → Nat → Nat → Option Nat} {xi : Nat → Nat → Nat → Int32} {xn : Nat → Nat → Nat → Nat} {K : Nat → Nat} {I : Nat → Nat → Int32} {J : Nat → Nat → Int64} {F : Nat → Nat → UInt32} {D : Nat → Nat → UInt64} {R : Nat → Nat → Option Nat} {nx sl : Nat} {Km : Nat → Nat} {Im : Nat → Nat → Int32} {Jm : Nat → Nat → Int64} {Fm : Nat → Nat → UInt32} {Dm : Nat → Nat → UInt64} {Rm : Nat → Nat → Option Nat} {nxm slm : Nat} (hC : RC ci cn co xj xd xf xo xi xn I J F D R nx sl) (hM : RM ci cn co xj xd xf xo xi xn Im Jm Dm) {t a b : Nat} {go : Int32} (ht : t < 3) (ha : a < 8) (hb : b < 8) (x1 : Im 6 39 = nI t) (x2 : Im 6 40 = nI a) (x3 : Im 6 41 = nI b) (x4 : Im 6 42 = nI 7) (x5 : Im 6 43 = nI 0) (x6 : Im 6 44 = go) : Ct Y_HA_perform [vr 1 55, vr 8 (32 + 7 * t), vi (nI 48), vi (nI a), vi (nI b), vi (nI 7)] (K, I, J, F, D, R, nx, sl) (fun r μ1 => Ct Y_MM_handles [vr 11 6, vi (nI 48)] (Km, Im, Jm, Fm, Dm, Rm, nxm, slm) (fun r2 μ2 => r2 = none ∧ QA ci cn co go r μ1 μ2)) := by
  rcases ho : xo 0 t b with _ | q
  · skip
    refine ct_of h_HA_perform rfl rfl rfl ?_
    refine ev_gV [] [some 36] rfl ?_
    refine ev_inV 1 k_HA_15 h_SD_t rfl rfl rfl rfl rfl ⟨by decide, by decide⟩ rfl ?_
    refine ev_gV [] [none] rfl ?_
    refine ev_retn rfl ?_
    refine ev_g0 rfl ?_
    refine ev_inS 2 k_HA_49 h_HA_isA rfl rfl rfl rfl ⟨by decide, by decide⟩ rfl ?_
    refine ev_g0 rfl ?_
    refine ev_retz rfl (by first | decide | exact zb_01 _) ?_
    refine ev_gV [true] [] rfl ?_
    refine ev_inV 2 k_HA_53 h_SD_setN rfl rfl rfl rfl rfl ⟨by decide, by decide⟩ rfl ?_
    refine ev_gV [] [] rfl ?_
    refine ev_ret rfl ?_
    refine ev_g0 rfl ?_
    refine ev_reti rfl ?_
    refine ct_of h_MM_handles rfl rfl rfl ?_
    refine ev_g0 rfl ?_
    refine ev_inV 1 k_MM_344 h_MM_hold rfl rfl rfl rfl rfl ⟨by decide, by decide⟩ rfl ?_
    refine ev_gV [] [] rfl ?_
    refine ev_reti rfl ?_
    refine ev_gV [true] [some 12] rfl ?_
    refine ev_inV 2 k_MM_288 h_MM_lay rfl rfl rfl rfl rfl ⟨by decide, by decide⟩ rfl ?_
    refine ev_gV [] [] rfl ?_
    refine ev_ret rfl ?_
    refine ev_g0 rfl ?_
    refine ev_ret rfl ?_
    exact ⟨rfl, (u3 xj 0 t a ((nI 0).toInt64)), xd, xf, xo, xi, xn, nI 0, rfl, bdd, lf_V, lf_V, (CU_num hC ht ha lf_V lf_V), (MU_num hM ht ha lf_V lf_V (fun i hi => (rc_isor hC hi).2.2.1))⟩
  · skip
    have hq := rc_ihol hC ht hb _ ho
    have zq := rc_isor hC hq
    have yq := rc_imad hC
    refine ct_of h_HA_perform rfl rfl rfl ?_
    refine ev_gV [] [some 36] rfl ?_
    refine ev_inV 1 k_HA_15 h_SD_t rfl rfl rfl rfl rfl ⟨by decide, by decide⟩ rfl ?_
    refine ev_gV [] [some (94 + 4 * q)] rfl ?_
    refine ev_reta rfl ?_
    refine ev_g0 rfl ?_
    refine ev_inS 2 k_HA_49 h_HA_isA rfl rfl rfl rfl ⟨by decide, by decide⟩ rfl ?_
    refine ev_g0 rfl ?_
    refine ev_inV 1 k_HA_61 h_TH_isA rfl rfl rfl rfl rfl ⟨by decide, by decide⟩ rfl ?_
    refine ev_gV [true, true] [none] rfl ?_
    refine ev_bV rfl rfl (fun h_1 => ?_) (fun h_1 => ?_)
    · skip
      refine ev_g0 rfl ?_
      refine ev_retz rfl (by first | decide | exact zb_01 _) ?_
      refine ev_gV [true] [] rfl ?_
      refine ev_retz rfl (by first | decide | exact zb_01 _) ?_
      refine ev_gV [true] [] rfl ?_
      refine ev_inV 2 k_HA_53 h_SD_setN rfl rfl rfl rfl rfl ⟨by decide, by decide⟩ rfl ?_
      refine ev_gV [] [] rfl ?_
      refine ev_ret rfl ?_
      refine ev_g0 rfl ?_
      refine ev_reti rfl ?_
      refine ct_of h_MM_handles rfl rfl rfl ?_
      refine ev_g0 rfl ?_
      refine ev_inV 1 k_MM_344 h_MM_hold rfl rfl rfl rfl rfl ⟨by decide, by decide⟩ rfl ?_
      refine ev_gV [] [] rfl ?_
      refine ev_reti rfl ?_
      refine ev_gV [false] [some 12] rfl ?_
      refine ev_inV 2 k_MM_202 h_MM_isKind rfl rfl rfl rfl rfl ⟨by decide, by decide⟩ rfl ?_
      refine ev_gV [true, true] [] rfl ?_
      refine ev_retz rfl (by first | decide | exact zb_01 _) ?_
      refine ev_gV [true] [] rfl ?_
      refine ev_inV 2 k_MM_288 h_MM_lay rfl rfl rfl rfl rfl ⟨by decide, by decide⟩ rfl ?_
      refine ev_gV [] [] rfl ?_
      refine ev_ret rfl ?_
      refine ev_g0 rfl ?_
      refine ev_ret rfl ?_
      exact ⟨rfl, (u3 xj 0 t a ((nI 0).toInt64)), xd, xf, xo, xi, xn, nI 0, rfl, bdd, lf_V, lf_V, (CU_num hC ht ha lf_V lf_V), (MU_num hM ht ha lf_V lf_V (fun i hi => (rc_isor hC hi).2.2.1))⟩
    · skip
      refine ev_g0 rfl ?_
      refine ev_retz rfl (by first | decide | exact zb_01 _) ?_
      refine ev_gV [false] [] rfl ?_
      refine ev_retz rfl (by first | decide | exact zb_01 _) ?_
      refine ev_gV [false] [] rfl ?_
      refine ev_inV 2 k_HA_53 h_SD_setN rfl rfl rfl rfl rfl ⟨by decide, by decide⟩ rfl ?_
      refine ev_gV [] [] rfl ?_
      refine ev_ret rfl ?_
      refine ev_g0 rfl ?_
      refine ev_reti rfl ?_
      refine ct_of h_MM_handles rfl rfl rfl ?_
      refine ev_g0 rfl ?_
      refine ev_inV 1 k_MM_344 h_MM_hold rfl rfl rfl rfl rfl ⟨by decide, by decide⟩ rfl ?_
      refine ev_gV [] [] rfl ?_
      refine ev_reti rfl ?_
      refine ev_gV [false] [some 12] rfl ?_
      refine ev_inV 2 k_MM_202 h_MM_isKind rfl rfl rfl rfl rfl ⟨by decide, by decide⟩ rfl ?_
      refine ev_gV [true, false] [] rfl ?_
      refine ev_retz rfl (by first | decide | exact zb_01 _) ?_
      refine ev_gV [false] [] rfl ?_
      refine ev_inV 2 k_MM_288 h_MM_lay rfl rfl rfl rfl rfl ⟨by decide, by decide⟩ rfl ?_
      refine ev_gV [] [] rfl ?_
      refine ev_ret rfl ?_
      refine ev_g0 rfl ?_
      refine ev_ret rfl ?_
      exact ⟨rfl, (u3 xj 0 t a ((nI 1).toInt64)), xd, xf, xo, xi, xn, nI 0, rfl, bdd, lf_V, lf_V, (CU_num hC ht ha lf_V lf_V), (MU_num hM ht ha lf_V lf_V (fun i hi => (rc_isor hC hi).2.2.1))⟩
theorem A49_7 {ci : Nat → Nat → Nat → Int32} {cn : Nat → Nat → Nat → Nat} {co : Nat → Option Nat} {xj : Nat → Nat → Nat → Int64} {xd : Nat → Nat → Nat → UInt64} {xf : Nat → Nat → Nat → UInt32} {xo : Nat → Nat → Nat → Option Nat} {xi : Nat → Nat → Nat → Int32} {xn : Nat → Nat → Nat → Nat} {K : Nat → Nat} {I : Nat → Nat → Int32} {J : Nat → Nat → Int64} {F : Nat → Nat → UInt32} {D : Nat → Nat → UInt64} {R : Nat → Nat → Option Nat} {nx sl : Nat} {Km : Nat → Nat} {Im : Nat → Nat → Int32} {Jm : Nat → Nat → Int64} {Fm : Nat → Nat → UInt32} {Dm : Nat → Nat → UInt64} {Rm : Nat → Nat → Option Nat} {nxm slm : Nat} (hC : RC ci cn co xj xd xf xo xi xn I J F D R nx sl) (hM : RM ci cn co xj xd xf xo xi xn Im Jm Dm) {t a b : Nat} {go : Int32} (ht : t < 3) (ha : a < 8) (hb : b < 8) (x1 : Im 6 39 = nI t) (x2 : Im 6 40 = nI a) (x3 : Im 6 41 = nI b) (x4 : Im 6 42 = nI 7) (x5 : Im 6 43 = nI 0) (x6 : Im 6 44 = go) : Ct Y_HA_perform [vr 1 55, vr 8 (32 + 7 * t), vi (nI 49), vi (nI a), vi (nI b), vi (nI 7)] (K, I, J, F, D, R, nx, sl) (fun r μ1 => Ct Y_MM_handles [vr 11 6, vi (nI 49)] (Km, Im, Jm, Fm, Dm, Rm, nxm, slm) (fun r2 μ2 => r2 = none ∧ QA ci cn co go r μ1 μ2)) := by
  rcases ho : xo 0 t b with _ | q
  · skip
    refine ct_of h_HA_perform rfl rfl rfl ?_
    refine ev_gV [] [some 37] rfl ?_
    refine ev_inV 1 k_HA_15 h_SD_t rfl rfl rfl rfl rfl ⟨by decide, by decide⟩ rfl ?_
    refine ev_gV [] [none] rfl ?_
    refine ev_retn rfl ?_
    refine ev_g0 rfl ?_
    refine ev_inS 4 k_HA_57 h_HA_takeAs rfl rfl rfl rfl ⟨by decide, by decide⟩ rfl ?_
    refine ev_g0 rfl ?_
    refine ev_inV 2 k_HA_21 h_SD_setT rfl rfl rfl rfl rfl ⟨by decide, by decide⟩ rfl ?_
    refine ev_gV [] [] rfl ?_
    refine ev_ret rfl ?_
    refine ev_g0 rfl ?_
    refine ev_reti rfl ?_
    refine ev_g0 rfl ?_
    refine ev_reti rfl ?_
    refine ct_of h_MM_handles rfl rfl rfl ?_
    refine ev_g0 rfl ?_
    refine ev_inV 1 k_MM_344 h_MM_hold rfl rfl rfl rfl rfl ⟨by decide, by decide⟩ rfl ?_
    refine ev_gV [] [] rfl ?_
    refine ev_reti rfl ?_
    refine ev_gV [] [some 13] rfl ?_
    refine ev_inV 2 k_MM_354 h_MM_takes rfl rfl rfl rfl rfl ⟨by decide, by decide⟩ rfl ?_
    refine ev_gV [true] [] rfl ?_
    refine ev_retz rfl (by first | decide | exact zb_01 _) ?_
    refine ev_gV [false] [] rfl ?_
    refine ev_inV 2 k_MM_336 h_MM_keep rfl rfl rfl rfl rfl ⟨by decide, by decide⟩ rfl ?_
    refine ev_gV [] [] rfl ?_
    refine ev_ret rfl ?_
    refine ev_g0 rfl ?_
    refine ev_ret rfl ?_
    exact ⟨rfl, xj, xd, xf, (u3 xo 0 t a (none)), xi, xn, nI 0, rfl, bdd, lf_V, lf_V, (CU_hol hC ht ha (fun _ h => by cases h) lf_V lf_V), (MU_hol hM ht ha lf_V lf_V (fun i hi => (rc_isor hC hi).2.2.1))⟩
  · skip
    have hq := rc_ihol hC ht hb _ ho
    have zq := rc_isor hC hq
    have yq := rc_imad hC
    refine ct_of h_HA_perform rfl rfl rfl ?_
    refine ev_gV [] [some 37] rfl ?_
    refine ev_inV 1 k_HA_15 h_SD_t rfl rfl rfl rfl rfl ⟨by decide, by decide⟩ rfl ?_
    refine ev_gV [] [some (94 + 4 * q)] rfl ?_
    refine ev_reta rfl ?_
    refine ev_g0 rfl ?_
    refine ev_inS 4 k_HA_57 h_HA_takeAs rfl rfl rfl rfl ⟨by decide, by decide⟩ rfl ?_
    refine ev_g0 rfl ?_
    refine ev_inV 1 k_HA_61 h_TH_isA rfl rfl rfl rfl rfl ⟨by decide, by decide⟩ rfl ?_
    refine ev_gV [true, true] [none] rfl ?_
    refine ev_bV rfl rfl (fun h_1 => ?_) (fun h_1 => ?_)
    · skip
      refine ev_g0 rfl ?_
      refine ev_retz rfl (by first | decide | exact zb_01 _) ?_
      refine ev_gV [false] [] rfl ?_
      refine ev_reti rfl ?_
      refine ev_g0 rfl ?_
      refine ev_reti rfl ?_
      refine ct_of h_MM_handles rfl rfl rfl ?_
      refine ev_g0 rfl ?_
      refine ev_inV 1 k_MM_344 h_MM_hold rfl rfl rfl rfl rfl ⟨by decide, by decide⟩ rfl ?_
      refine ev_gV [] [] rfl ?_
      refine ev_reti rfl ?_
      refine ev_gV [] [some 13] rfl ?_
      refine ev_inV 2 k_MM_354 h_MM_takes rfl rfl rfl rfl rfl ⟨by decide, by decide⟩ rfl ?_
      refine ev_gV [false] [] rfl ?_
      refine ev_inV 2 k_MM_202 h_MM_isKind rfl rfl rfl rfl rfl ⟨by decide, by decide⟩ rfl ?_
      refine ev_gV [true, true] [] rfl ?_
      refine ev_retz rfl (by first | decide | exact zb_01 _) ?_
      refine ev_gV [false] [] rfl ?_
      refine ev_retz rfl (by first | decide | exact zb_01 _) ?_
      refine ev_gV [true] [] rfl ?_
      refine ev_ret rfl ?_
      exact ⟨rfl, xj, xd, xf, xo, xi, xn, nI 3, rfl, bdd, lf_V, lf_V, hC, hM⟩
    · skip
      refine ev_g0 rfl ?_
      refine ev_retz rfl (by first | decide | exact zb_01 _) ?_
      refine ev_gV [true] [] rfl ?_
      refine ev_inV 2 k_HA_21 h_SD_setT rfl rfl rfl rfl rfl ⟨by decide, by decide⟩ rfl ?_
      refine ev_gV [] [] rfl ?_
      refine ev_ret rfl ?_
      refine ev_g0 rfl ?_
      refine ev_reti rfl ?_
      refine ev_g0 rfl ?_
      refine ev_reti rfl ?_
      refine ct_of h_MM_handles rfl rfl rfl ?_
      refine ev_g0 rfl ?_
      refine ev_inV 1 k_MM_344 h_MM_hold rfl rfl rfl rfl rfl ⟨by decide, by decide⟩ rfl ?_
      refine ev_gV [] [] rfl ?_
      refine ev_reti rfl ?_
      refine ev_gV [] [some 13] rfl ?_
      refine ev_inV 2 k_MM_354 h_MM_takes rfl rfl rfl rfl rfl ⟨by decide, by decide⟩ rfl ?_
      refine ev_gV [false] [] rfl ?_
      refine ev_inV 2 k_MM_202 h_MM_isKind rfl rfl rfl rfl rfl ⟨by decide, by decide⟩ rfl ?_
      refine ev_gV [true, false] [] rfl ?_
      refine ev_retz rfl (by first | decide | exact zb_01 _) ?_
      refine ev_gV [true] [] rfl ?_
      refine ev_retz rfl (by first | decide | exact zb_01 _) ?_
      refine ev_gV [false] [] rfl ?_
      refine ev_inV 2 k_MM_336 h_MM_keep rfl rfl rfl rfl rfl ⟨by decide, by decide⟩ rfl ?_
      refine ev_gV [] [] rfl ?_
      refine ev_ret rfl ?_
      refine ev_g0 rfl ?_
      refine ev_ret rfl ?_
      exact ⟨rfl, xj, xd, xf, (u3 xo 0 t a (some q)), xi, xn, nI 0, rfl, bdd, lf_V, lf_V, (CU_hol hC ht ha (fun _ h => by cases h; exact hq) lf_V lf_V), (MU_hol hM ht ha lf_V lf_V (fun i hi => (rc_isor hC hi).2.2.1))⟩
theorem A48_8 {ci : Nat → Nat → Nat → Int32} {cn : Nat → Nat → Nat → Nat} {co : Nat → Option Nat} {xj : Nat → Nat → Nat → Int64} {xd : Nat → Nat → Nat → UInt64} {xf : Nat → Nat → Nat → UInt32} {xo : Nat → Nat → Nat → Option Nat} {xi : Nat → Nat → Nat → Int32} {xn : Nat → Nat → Nat → Nat} {K : Nat → Nat} {I : Nat → Nat → Int32} {J : Nat → Nat → Int64} {F : Nat → Nat → UInt32} {D : Nat → Nat → UInt64} {R : Nat → Nat → Option Nat} {nx sl : Nat} {Km : Nat → Nat} {Im : Nat → Nat → Int32} {Jm : Nat → Nat → Int64} {Fm : Nat → Nat → UInt32} {Dm : Nat → Nat → UInt64} {Rm : Nat → Nat → Option Nat} {nxm slm : Nat} (hC : RC ci cn co xj xd xf xo xi xn I J F D R nx sl) (hM : RM ci cn co xj xd xf xo xi xn Im Jm Dm) {t a b : Nat} {go : Int32} (ht : t < 3) (ha : a < 8) (hb : b < 8) (x1 : Im 6 39 = nI t) (x2 : Im 6 40 = nI a) (x3 : Im 6 41 = nI b) (x4 : Im 6 42 = nI 8) (x5 : Im 6 43 = nI 0) (x6 : Im 6 44 = go) : Ct Y_HA_perform [vr 1 55, vr 8 (32 + 7 * t), vi (nI 48), vi (nI a), vi (nI b), vi (nI 8)] (K, I, J, F, D, R, nx, sl) (fun r μ1 => Ct Y_MM_handles [vr 11 6, vi (nI 48)] (Km, Im, Jm, Fm, Dm, Rm, nxm, slm) (fun r2 μ2 => r2 = none ∧ QA ci cn co go r μ1 μ2)) := by
  rcases ho : xo 0 t b with _ | q
  · skip
    refine ct_of h_HA_perform rfl rfl rfl ?_
    refine ev_gV [] [some 36] rfl ?_
    refine ev_inV 1 k_HA_15 h_SD_t rfl rfl rfl rfl rfl ⟨by decide, by decide⟩ rfl ?_
    refine ev_gV [] [none] rfl ?_
    refine ev_retn rfl ?_
    refine ev_g0 rfl ?_
    refine ev_inS 2 k_HA_49 h_HA_isA rfl rfl rfl rfl ⟨by decide, by decide⟩ rfl ?_
    refine ev_g0 rfl ?_
    refine ev_retz rfl (by first | decide | exact zb_01 _) ?_
    refine ev_gV [true] [] rfl ?_
    refine ev_inV 2 k_HA_53 h_SD_setN rfl rfl rfl rfl rfl ⟨by decide, by decide⟩ rfl ?_
    refine ev_gV [] [] rfl ?_
    refine ev_ret rfl ?_
    refine ev_g0 rfl ?_
    refine ev_reti rfl ?_
    refine ct_of h_MM_handles rfl rfl rfl ?_
    refine ev_g0 rfl ?_
    refine ev_inV 1 k_MM_344 h_MM_hold rfl rfl rfl rfl rfl ⟨by decide, by decide⟩ rfl ?_
    refine ev_gV [] [] rfl ?_
    refine ev_reti rfl ?_
    refine ev_gV [true] [some 12] rfl ?_
    refine ev_inV 2 k_MM_288 h_MM_lay rfl rfl rfl rfl rfl ⟨by decide, by decide⟩ rfl ?_
    refine ev_gV [] [] rfl ?_
    refine ev_ret rfl ?_
    refine ev_g0 rfl ?_
    refine ev_ret rfl ?_
    exact ⟨rfl, (u3 xj 0 t a ((nI 0).toInt64)), xd, xf, xo, xi, xn, nI 0, rfl, bdd, lf_V, lf_V, (CU_num hC ht ha lf_V lf_V), (MU_num hM ht ha lf_V lf_V (fun i hi => (rc_isor hC hi).2.2.1))⟩
  · skip
    have hq := rc_ihol hC ht hb _ ho
    have zq := rc_isor hC hq
    have yq := rc_imad hC
    refine ct_of h_HA_perform rfl rfl rfl ?_
    refine ev_gV [] [some 36] rfl ?_
    refine ev_inV 1 k_HA_15 h_SD_t rfl rfl rfl rfl rfl ⟨by decide, by decide⟩ rfl ?_
    refine ev_gV [] [some (94 + 4 * q)] rfl ?_
    refine ev_reta rfl ?_
    refine ev_g0 rfl ?_
    refine ev_inS 2 k_HA_49 h_HA_isA rfl rfl rfl rfl ⟨by decide, by decide⟩ rfl ?_
    refine ev_g0 rfl ?_
    refine ev_inV 1 k_HA_61 h_TH_isA rfl rfl rfl rfl rfl ⟨by decide, by decide⟩ rfl ?_
    refine ev_gV [false, false] [none] rfl ?_
    refine ev_bV rfl rfl (fun h_1 => ?_) (fun h_1 => ?_)
    · skip
      refine ev_g0 rfl ?_
      refine ev_retz rfl (by first | decide | exact zb_01 _) ?_
      refine ev_gV [true] [] rfl ?_
      refine ev_retz rfl (by first | decide | exact zb_01 _) ?_
      refine ev_gV [true] [] rfl ?_
      refine ev_inV 2 k_HA_53 h_SD_setN rfl rfl rfl rfl rfl ⟨by decide, by decide⟩ rfl ?_
      refine ev_gV [] [] rfl ?_
      refine ev_ret rfl ?_
      refine ev_g0 rfl ?_
      refine ev_reti rfl ?_
      refine ct_of h_MM_handles rfl rfl rfl ?_
      refine ev_g0 rfl ?_
      refine ev_inV 1 k_MM_344 h_MM_hold rfl rfl rfl rfl rfl ⟨by decide, by decide⟩ rfl ?_
      refine ev_gV [] [] rfl ?_
      refine ev_reti rfl ?_
      refine ev_gV [false] [some 12] rfl ?_
      refine ev_inV 2 k_MM_202 h_MM_isKind rfl rfl rfl rfl rfl ⟨by decide, by decide⟩ rfl ?_
      refine ev_gV [false, false, true, false] [] rfl ?_
      refine ev_inS 3 k_MM_188 h_MM_in rfl rfl rfl rfl ⟨by decide, by decide⟩ rfl ?_
      refine ev_gV [true] [] rfl ?_
      refine ev_retz rfl (by first | decide | exact zb_01 _) ?_
      refine ev_gV [true] [] rfl ?_
      refine ev_retz rfl (by first | decide | exact zb_01 _) ?_
      refine ev_gV [true] [] rfl ?_
      refine ev_inV 2 k_MM_288 h_MM_lay rfl rfl rfl rfl rfl ⟨by decide, by decide⟩ rfl ?_
      refine ev_gV [] [] rfl ?_
      refine ev_ret rfl ?_
      refine ev_g0 rfl ?_
      refine ev_ret rfl ?_
      exact ⟨rfl, (u3 xj 0 t a ((nI 0).toInt64)), xd, xf, xo, xi, xn, nI 0, rfl, bdd, lf_V, lf_V, (CU_num hC ht ha lf_V lf_V), (MU_num hM ht ha lf_V lf_V (fun i hi => (rc_isor hC hi).2.2.1))⟩
    · skip
      refine ev_g0 rfl ?_
      refine ev_bV rfl rfl (fun h_2 => ?_) (fun h_2 => ?_)
      · skip
        refine ev_g0 rfl ?_
        refine ev_retz rfl (by first | decide | exact zb_01 _) ?_
        refine ev_gV [true] [] rfl ?_
        refine ev_retz rfl (by first | decide | exact zb_01 _) ?_
        refine ev_gV [true] [] rfl ?_
        refine ev_inV 2 k_HA_53 h_SD_setN rfl rfl rfl rfl rfl ⟨by decide, by decide⟩ rfl ?_
        refine ev_gV [] [] rfl ?_
        refine ev_ret rfl ?_
        refine ev_g0 rfl ?_
        refine ev_reti rfl ?_
        refine ct_of h_MM_handles rfl rfl rfl ?_
        refine ev_g0 rfl ?_
        refine ev_inV 1 k_MM_344 h_MM_hold rfl rfl rfl rfl rfl ⟨by decide, by decide⟩ rfl ?_
        refine ev_gV [] [] rfl ?_
        refine ev_reti rfl ?_
        refine ev_gV [false] [some 12] rfl ?_
        refine ev_inV 2 k_MM_202 h_MM_isKind rfl rfl rfl rfl rfl ⟨by decide, by decide⟩ rfl ?_
        refine ev_gV [false, false, true, false] [] rfl ?_
        refine ev_inS 3 k_MM_188 h_MM_in rfl rfl rfl rfl ⟨by decide, by decide⟩ rfl ?_
        refine ev_gV [false, true] [] rfl ?_
        refine ev_retz rfl (by first | decide | exact zb_01 _) ?_
        refine ev_gV [true] [] rfl ?_
        refine ev_retz rfl (by first | decide | exact zb_01 _) ?_
        refine ev_gV [true] [] rfl ?_
        refine ev_inV 2 k_MM_288 h_MM_lay rfl rfl rfl rfl rfl ⟨by decide, by decide⟩ rfl ?_
        refine ev_gV [] [] rfl ?_
        refine ev_ret rfl ?_
        refine ev_g0 rfl ?_
        refine ev_ret rfl ?_
        exact ⟨rfl, (u3 xj 0 t a ((nI 0).toInt64)), xd, xf, xo, xi, xn, nI 0, rfl, bdd, lf_V, lf_V, (CU_num hC ht ha lf_V lf_V), (MU_num hM ht ha lf_V lf_V (fun i hi => (rc_isor hC hi).2.2.1))⟩
      · skip
        refine ev_g0 rfl ?_
        refine ev_inS 2 k_TH_77 h_TH_isUnder rfl rfl rfl rfl ⟨by decide, by decide⟩ rfl ?_
        refine ev_gV [true] [] rfl ?_
        refine ev_retz rfl (by first | decide | exact zb_01 _) ?_
        refine ev_gV [false] [] rfl ?_
        refine ev_retz rfl (by first | decide | exact zb_01 _) ?_
        refine ev_gV [false] [] rfl ?_
        refine ev_retz rfl (by first | decide | exact zb_01 _) ?_
        refine ev_gV [false] [] rfl ?_
        refine ev_inV 2 k_HA_53 h_SD_setN rfl rfl rfl rfl rfl ⟨by decide, by decide⟩ rfl ?_
        refine ev_gV [] [] rfl ?_
        refine ev_ret rfl ?_
        refine ev_g0 rfl ?_
        refine ev_reti rfl ?_
        refine ct_of h_MM_handles rfl rfl rfl ?_
        refine ev_g0 rfl ?_
        refine ev_inV 1 k_MM_344 h_MM_hold rfl rfl rfl rfl rfl ⟨by decide, by decide⟩ rfl ?_
        refine ev_gV [] [] rfl ?_
        refine ev_reti rfl ?_
        refine ev_gV [false] [some 12] rfl ?_
        refine ev_inV 2 k_MM_202 h_MM_isKind rfl rfl rfl rfl rfl ⟨by decide, by decide⟩ rfl ?_
        refine ev_gV [false, false, true, false] [] rfl ?_
        refine ev_inS 3 k_MM_188 h_MM_in rfl rfl rfl rfl ⟨by decide, by decide⟩ rfl ?_
        refine ev_gV [false, false] [] rfl ?_
        refine ev_retz rfl (by first | decide | exact zb_01 _) ?_
        refine ev_gV [false] [] rfl ?_
        refine ev_inS 2 k_MM_192 h_MM_isOf rfl rfl rfl rfl ⟨by decide, by decide⟩ rfl ?_
        refine ev_gV [true] [] rfl ?_
        refine ev_retz rfl (by first | decide | exact zb_01 _) ?_
        refine ev_gV [false] [] rfl ?_
        refine ev_retz rfl (by first | decide | exact zb_01 _) ?_
        refine ev_gV [false] [] rfl ?_
        refine ev_inV 2 k_MM_288 h_MM_lay rfl rfl rfl rfl rfl ⟨by decide, by decide⟩ rfl ?_
        refine ev_gV [] [] rfl ?_
        refine ev_ret rfl ?_
        refine ev_g0 rfl ?_
        refine ev_ret rfl ?_
        exact ⟨rfl, (u3 xj 0 t a ((nI 1).toInt64)), xd, xf, xo, xi, xn, nI 0, rfl, bdd, lf_V, lf_V, (CU_num hC ht ha lf_V lf_V), (MU_num hM ht ha lf_V lf_V (fun i hi => (rc_isor hC hi).2.2.1))⟩
theorem A49_8 {ci : Nat → Nat → Nat → Int32} {cn : Nat → Nat → Nat → Nat} {co : Nat → Option Nat} {xj : Nat → Nat → Nat → Int64} {xd : Nat → Nat → Nat → UInt64} {xf : Nat → Nat → Nat → UInt32} {xo : Nat → Nat → Nat → Option Nat} {xi : Nat → Nat → Nat → Int32} {xn : Nat → Nat → Nat → Nat} {K : Nat → Nat} {I : Nat → Nat → Int32} {J : Nat → Nat → Int64} {F : Nat → Nat → UInt32} {D : Nat → Nat → UInt64} {R : Nat → Nat → Option Nat} {nx sl : Nat} {Km : Nat → Nat} {Im : Nat → Nat → Int32} {Jm : Nat → Nat → Int64} {Fm : Nat → Nat → UInt32} {Dm : Nat → Nat → UInt64} {Rm : Nat → Nat → Option Nat} {nxm slm : Nat} (hC : RC ci cn co xj xd xf xo xi xn I J F D R nx sl) (hM : RM ci cn co xj xd xf xo xi xn Im Jm Dm) {t a b : Nat} {go : Int32} (ht : t < 3) (ha : a < 8) (hb : b < 8) (x1 : Im 6 39 = nI t) (x2 : Im 6 40 = nI a) (x3 : Im 6 41 = nI b) (x4 : Im 6 42 = nI 8) (x5 : Im 6 43 = nI 0) (x6 : Im 6 44 = go) : Ct Y_HA_perform [vr 1 55, vr 8 (32 + 7 * t), vi (nI 49), vi (nI a), vi (nI b), vi (nI 8)] (K, I, J, F, D, R, nx, sl) (fun r μ1 => Ct Y_MM_handles [vr 11 6, vi (nI 49)] (Km, Im, Jm, Fm, Dm, Rm, nxm, slm) (fun r2 μ2 => r2 = none ∧ QA ci cn co go r μ1 μ2)) := by
  rcases ho : xo 0 t b with _ | q
  · skip
    refine ct_of h_HA_perform rfl rfl rfl ?_
    refine ev_gV [] [some 37] rfl ?_
    refine ev_inV 1 k_HA_15 h_SD_t rfl rfl rfl rfl rfl ⟨by decide, by decide⟩ rfl ?_
    refine ev_gV [] [none] rfl ?_
    refine ev_retn rfl ?_
    refine ev_g0 rfl ?_
    refine ev_inS 4 k_HA_57 h_HA_takeAs rfl rfl rfl rfl ⟨by decide, by decide⟩ rfl ?_
    refine ev_g0 rfl ?_
    refine ev_inV 2 k_HA_21 h_SD_setT rfl rfl rfl rfl rfl ⟨by decide, by decide⟩ rfl ?_
    refine ev_gV [] [] rfl ?_
    refine ev_ret rfl ?_
    refine ev_g0 rfl ?_
    refine ev_reti rfl ?_
    refine ev_g0 rfl ?_
    refine ev_reti rfl ?_
    refine ct_of h_MM_handles rfl rfl rfl ?_
    refine ev_g0 rfl ?_
    refine ev_inV 1 k_MM_344 h_MM_hold rfl rfl rfl rfl rfl ⟨by decide, by decide⟩ rfl ?_
    refine ev_gV [] [] rfl ?_
    refine ev_reti rfl ?_
    refine ev_gV [] [some 13] rfl ?_
    refine ev_inV 2 k_MM_354 h_MM_takes rfl rfl rfl rfl rfl ⟨by decide, by decide⟩ rfl ?_
    refine ev_gV [true] [] rfl ?_
    refine ev_retz rfl (by first | decide | exact zb_01 _) ?_
    refine ev_gV [false] [] rfl ?_
    refine ev_inV 2 k_MM_336 h_MM_keep rfl rfl rfl rfl rfl ⟨by decide, by decide⟩ rfl ?_
    refine ev_gV [] [] rfl ?_
    refine ev_ret rfl ?_
    refine ev_g0 rfl ?_
    refine ev_ret rfl ?_
    exact ⟨rfl, xj, xd, xf, (u3 xo 0 t a (none)), xi, xn, nI 0, rfl, bdd, lf_V, lf_V, (CU_hol hC ht ha (fun _ h => by cases h) lf_V lf_V), (MU_hol hM ht ha lf_V lf_V (fun i hi => (rc_isor hC hi).2.2.1))⟩
  · skip
    have hq := rc_ihol hC ht hb _ ho
    have zq := rc_isor hC hq
    have yq := rc_imad hC
    refine ct_of h_HA_perform rfl rfl rfl ?_
    refine ev_gV [] [some 37] rfl ?_
    refine ev_inV 1 k_HA_15 h_SD_t rfl rfl rfl rfl rfl ⟨by decide, by decide⟩ rfl ?_
    refine ev_gV [] [some (94 + 4 * q)] rfl ?_
    refine ev_reta rfl ?_
    refine ev_g0 rfl ?_
    refine ev_inS 4 k_HA_57 h_HA_takeAs rfl rfl rfl rfl ⟨by decide, by decide⟩ rfl ?_
    refine ev_g0 rfl ?_
    refine ev_inV 1 k_HA_61 h_TH_isA rfl rfl rfl rfl rfl ⟨by decide, by decide⟩ rfl ?_
    refine ev_gV [false, false] [none] rfl ?_
    refine ev_bV rfl rfl (fun h_1 => ?_) (fun h_1 => ?_)
    · skip
      refine ev_g0 rfl ?_
      refine ev_retz rfl (by first | decide | exact zb_01 _) ?_
      refine ev_gV [false] [] rfl ?_
      refine ev_reti rfl ?_
      refine ev_g0 rfl ?_
      refine ev_reti rfl ?_
      refine ct_of h_MM_handles rfl rfl rfl ?_
      refine ev_g0 rfl ?_
      refine ev_inV 1 k_MM_344 h_MM_hold rfl rfl rfl rfl rfl ⟨by decide, by decide⟩ rfl ?_
      refine ev_gV [] [] rfl ?_
      refine ev_reti rfl ?_
      refine ev_gV [] [some 13] rfl ?_
      refine ev_inV 2 k_MM_354 h_MM_takes rfl rfl rfl rfl rfl ⟨by decide, by decide⟩ rfl ?_
      refine ev_gV [false] [] rfl ?_
      refine ev_inV 2 k_MM_202 h_MM_isKind rfl rfl rfl rfl rfl ⟨by decide, by decide⟩ rfl ?_
      refine ev_gV [false, false, true, false] [] rfl ?_
      refine ev_inS 3 k_MM_188 h_MM_in rfl rfl rfl rfl ⟨by decide, by decide⟩ rfl ?_
      refine ev_gV [true] [] rfl ?_
      refine ev_retz rfl (by first | decide | exact zb_01 _) ?_
      refine ev_gV [true] [] rfl ?_
      refine ev_retz rfl (by first | decide | exact zb_01 _) ?_
      refine ev_gV [false] [] rfl ?_
      refine ev_retz rfl (by first | decide | exact zb_01 _) ?_
      refine ev_gV [true] [] rfl ?_
      refine ev_ret rfl ?_
      exact ⟨rfl, xj, xd, xf, xo, xi, xn, nI 3, rfl, bdd, lf_V, lf_V, hC, hM⟩
    · skip
      refine ev_g0 rfl ?_
      refine ev_bV rfl rfl (fun h_2 => ?_) (fun h_2 => ?_)
      · skip
        refine ev_g0 rfl ?_
        refine ev_retz rfl (by first | decide | exact zb_01 _) ?_
        refine ev_gV [false] [] rfl ?_
        refine ev_reti rfl ?_
        refine ev_g0 rfl ?_
        refine ev_reti rfl ?_
        refine ct_of h_MM_handles rfl rfl rfl ?_
        refine ev_g0 rfl ?_
        refine ev_inV 1 k_MM_344 h_MM_hold rfl rfl rfl rfl rfl ⟨by decide, by decide⟩ rfl ?_
        refine ev_gV [] [] rfl ?_
        refine ev_reti rfl ?_
        refine ev_gV [] [some 13] rfl ?_
        refine ev_inV 2 k_MM_354 h_MM_takes rfl rfl rfl rfl rfl ⟨by decide, by decide⟩ rfl ?_
        refine ev_gV [false] [] rfl ?_
        refine ev_inV 2 k_MM_202 h_MM_isKind rfl rfl rfl rfl rfl ⟨by decide, by decide⟩ rfl ?_
        refine ev_gV [false, false, true, false] [] rfl ?_
        refine ev_inS 3 k_MM_188 h_MM_in rfl rfl rfl rfl ⟨by decide, by decide⟩ rfl ?_
        refine ev_gV [false, true] [] rfl ?_
        refine ev_retz rfl (by first | decide | exact zb_01 _) ?_
        refine ev_gV [true] [] rfl ?_
        refine ev_retz rfl (by first | decide | exact zb_01 _) ?_
        refine ev_gV [false] [] rfl ?_
        refine ev_retz rfl (by first | decide | exact zb_01 _) ?_
        refine ev_gV [true] [] rfl ?_
        refine ev_ret rfl ?_
        exact ⟨rfl, xj, xd, xf, xo, xi, xn, nI 3, rfl, bdd, lf_V, lf_V, hC, hM⟩
      · skip
        refine ev_g0 rfl ?_
        refine ev_inS 2 k_TH_77 h_TH_isUnder rfl rfl rfl rfl ⟨by decide, by decide⟩ rfl ?_
        refine ev_gV [true] [] rfl ?_
        refine ev_retz rfl (by first | decide | exact zb_01 _) ?_
        refine ev_gV [false] [] rfl ?_
        refine ev_retz rfl (by first | decide | exact zb_01 _) ?_
        refine ev_gV [true] [] rfl ?_
        refine ev_inV 2 k_HA_21 h_SD_setT rfl rfl rfl rfl rfl ⟨by decide, by decide⟩ rfl ?_
        refine ev_gV [] [] rfl ?_
        refine ev_ret rfl ?_
        refine ev_g0 rfl ?_
        refine ev_reti rfl ?_
        refine ev_g0 rfl ?_
        refine ev_reti rfl ?_
        refine ct_of h_MM_handles rfl rfl rfl ?_
        refine ev_g0 rfl ?_
        refine ev_inV 1 k_MM_344 h_MM_hold rfl rfl rfl rfl rfl ⟨by decide, by decide⟩ rfl ?_
        refine ev_gV [] [] rfl ?_
        refine ev_reti rfl ?_
        refine ev_gV [] [some 13] rfl ?_
        refine ev_inV 2 k_MM_354 h_MM_takes rfl rfl rfl rfl rfl ⟨by decide, by decide⟩ rfl ?_
        refine ev_gV [false] [] rfl ?_
        refine ev_inV 2 k_MM_202 h_MM_isKind rfl rfl rfl rfl rfl ⟨by decide, by decide⟩ rfl ?_
        refine ev_gV [false, false, true, false] [] rfl ?_
        refine ev_inS 3 k_MM_188 h_MM_in rfl rfl rfl rfl ⟨by decide, by decide⟩ rfl ?_
        refine ev_gV [false, false] [] rfl ?_
        refine ev_retz rfl (by first | decide | exact zb_01 _) ?_
        refine ev_gV [false] [] rfl ?_
        refine ev_inS 2 k_MM_192 h_MM_isOf rfl rfl rfl rfl ⟨by decide, by decide⟩ rfl ?_
        refine ev_gV [true] [] rfl ?_
        refine ev_retz rfl (by first | decide | exact zb_01 _) ?_
        refine ev_gV [false] [] rfl ?_
        refine ev_retz rfl (by first | decide | exact zb_01 _) ?_
        refine ev_gV [true] [] rfl ?_
        refine ev_retz rfl (by first | decide | exact zb_01 _) ?_
        refine ev_gV [false] [] rfl ?_
        refine ev_inV 2 k_MM_336 h_MM_keep rfl rfl rfl rfl rfl ⟨by decide, by decide⟩ rfl ?_
        refine ev_gV [] [] rfl ?_
        refine ev_ret rfl ?_
        refine ev_g0 rfl ?_
        refine ev_ret rfl ?_
        exact ⟨rfl, xj, xd, xf, (u3 xo 0 t a (some q)), xi, xn, nI 0, rfl, bdd, lf_V, lf_V, (CU_hol hC ht ha (fun _ h => by cases h; exact hq) lf_V lf_V), (MU_hol hM ht ha lf_V lf_V (fun i hi => (rc_isor hC hi).2.2.1))⟩
theorem A48_9 {ci : Nat → Nat → Nat → Int32} {cn : Nat → Nat → Nat → Nat} {co : Nat → Option Nat} {xj : Nat → Nat → Nat → Int64} {xd : Nat → Nat → Nat → UInt64} {xf : Nat → Nat → Nat → UInt32} {xo : Nat → Nat → Nat → Option Nat} {xi : Nat → Nat → Nat → Int32} {xn : Nat → Nat → Nat → Nat} {K : Nat → Nat} {I : Nat → Nat → Int32} {J : Nat → Nat → Int64} {F : Nat → Nat → UInt32} {D : Nat → Nat → UInt64} {R : Nat → Nat → Option Nat} {nx sl : Nat} {Km : Nat → Nat} {Im : Nat → Nat → Int32} {Jm : Nat → Nat → Int64} {Fm : Nat → Nat → UInt32} {Dm : Nat → Nat → UInt64} {Rm : Nat → Nat → Option Nat} {nxm slm : Nat} (hC : RC ci cn co xj xd xf xo xi xn I J F D R nx sl) (hM : RM ci cn co xj xd xf xo xi xn Im Jm Dm) {t a b : Nat} {go : Int32} (ht : t < 3) (ha : a < 8) (hb : b < 8) (x1 : Im 6 39 = nI t) (x2 : Im 6 40 = nI a) (x3 : Im 6 41 = nI b) (x4 : Im 6 42 = nI 9) (x5 : Im 6 43 = nI 0) (x6 : Im 6 44 = go) : Ct Y_HA_perform [vr 1 55, vr 8 (32 + 7 * t), vi (nI 48), vi (nI a), vi (nI b), vi (nI 9)] (K, I, J, F, D, R, nx, sl) (fun r μ1 => Ct Y_MM_handles [vr 11 6, vi (nI 48)] (Km, Im, Jm, Fm, Dm, Rm, nxm, slm) (fun r2 μ2 => r2 = none ∧ QA ci cn co go r μ1 μ2)) := by
  rcases ho : xo 0 t b with _ | q
  · skip
    refine ct_of h_HA_perform rfl rfl rfl ?_
    refine ev_gV [] [some 36] rfl ?_
    refine ev_inV 1 k_HA_15 h_SD_t rfl rfl rfl rfl rfl ⟨by decide, by decide⟩ rfl ?_
    refine ev_gV [] [none] rfl ?_
    refine ev_retn rfl ?_
    refine ev_g0 rfl ?_
    refine ev_inS 2 k_HA_49 h_HA_isA rfl rfl rfl rfl ⟨by decide, by decide⟩ rfl ?_
    refine ev_g0 rfl ?_
    refine ev_retz rfl (by first | decide | exact zb_01 _) ?_
    refine ev_gV [true] [] rfl ?_
    refine ev_inV 2 k_HA_53 h_SD_setN rfl rfl rfl rfl rfl ⟨by decide, by decide⟩ rfl ?_
    refine ev_gV [] [] rfl ?_
    refine ev_ret rfl ?_
    refine ev_g0 rfl ?_
    refine ev_reti rfl ?_
    refine ct_of h_MM_handles rfl rfl rfl ?_
    refine ev_g0 rfl ?_
    refine ev_inV 1 k_MM_344 h_MM_hold rfl rfl rfl rfl rfl ⟨by decide, by decide⟩ rfl ?_
    refine ev_gV [] [] rfl ?_
    refine ev_reti rfl ?_
    refine ev_gV [true] [some 12] rfl ?_
    refine ev_inV 2 k_MM_288 h_MM_lay rfl rfl rfl rfl rfl ⟨by decide, by decide⟩ rfl ?_
    refine ev_gV [] [] rfl ?_
    refine ev_ret rfl ?_
    refine ev_g0 rfl ?_
    refine ev_ret rfl ?_
    exact ⟨rfl, (u3 xj 0 t a ((nI 0).toInt64)), xd, xf, xo, xi, xn, nI 0, rfl, bdd, lf_V, lf_V, (CU_num hC ht ha lf_V lf_V), (MU_num hM ht ha lf_V lf_V (fun i hi => (rc_isor hC hi).2.2.1))⟩
  · skip
    have hq := rc_ihol hC ht hb _ ho
    have zq := rc_isor hC hq
    have yq := rc_imad hC
    refine ct_of h_HA_perform rfl rfl rfl ?_
    refine ev_gV [] [some 36] rfl ?_
    refine ev_inV 1 k_HA_15 h_SD_t rfl rfl rfl rfl rfl ⟨by decide, by decide⟩ rfl ?_
    refine ev_gV [] [some (94 + 4 * q)] rfl ?_
    refine ev_reta rfl ?_
    refine ev_g0 rfl ?_
    refine ev_inS 2 k_HA_49 h_HA_isA rfl rfl rfl rfl ⟨by decide, by decide⟩ rfl ?_
    refine ev_g0 rfl ?_
    refine ev_inV 1 k_HA_61 h_TH_isA rfl rfl rfl rfl rfl ⟨by decide, by decide⟩ rfl ?_
    refine ev_gV [false, false] [none] rfl ?_
    refine ev_bV rfl rfl (fun h_1 => ?_) (fun h_1 => ?_)
    · skip
      refine ev_g0 rfl ?_
      refine ev_retz rfl (by first | decide | exact zb_01 _) ?_
      refine ev_gV [true] [] rfl ?_
      refine ev_retz rfl (by first | decide | exact zb_01 _) ?_
      refine ev_gV [true] [] rfl ?_
      refine ev_inV 2 k_HA_53 h_SD_setN rfl rfl rfl rfl rfl ⟨by decide, by decide⟩ rfl ?_
      refine ev_gV [] [] rfl ?_
      refine ev_ret rfl ?_
      refine ev_g0 rfl ?_
      refine ev_reti rfl ?_
      refine ct_of h_MM_handles rfl rfl rfl ?_
      refine ev_g0 rfl ?_
      refine ev_inV 1 k_MM_344 h_MM_hold rfl rfl rfl rfl rfl ⟨by decide, by decide⟩ rfl ?_
      refine ev_gV [] [] rfl ?_
      refine ev_reti rfl ?_
      refine ev_gV [false] [some 12] rfl ?_
      refine ev_inV 2 k_MM_202 h_MM_isKind rfl rfl rfl rfl rfl ⟨by decide, by decide⟩ rfl ?_
      refine ev_gV [false, false, true, false] [] rfl ?_
      refine ev_inS 3 k_MM_188 h_MM_in rfl rfl rfl rfl ⟨by decide, by decide⟩ rfl ?_
      refine ev_gV [true] [] rfl ?_
      refine ev_retz rfl (by first | decide | exact zb_01 _) ?_
      refine ev_gV [true] [] rfl ?_
      refine ev_retz rfl (by first | decide | exact zb_01 _) ?_
      refine ev_gV [true] [] rfl ?_
      refine ev_inV 2 k_MM_288 h_MM_lay rfl rfl rfl rfl rfl ⟨by decide, by decide⟩ rfl ?_
      refine ev_gV [] [] rfl ?_
      refine ev_ret rfl ?_
      refine ev_g0 rfl ?_
      refine ev_ret rfl ?_
      exact ⟨rfl, (u3 xj 0 t a ((nI 0).toInt64)), xd, xf, xo, xi, xn, nI 0, rfl, bdd, lf_V, lf_V, (CU_num hC ht ha lf_V lf_V), (MU_num hM ht ha lf_V lf_V (fun i hi => (rc_isor hC hi).2.2.1))⟩
    · skip
      refine ev_g0 rfl ?_
      refine ev_bV rfl rfl (fun h_2 => ?_) (fun h_2 => ?_)
      · skip
        refine ev_g0 rfl ?_
        refine ev_retz rfl (by first | decide | exact zb_01 _) ?_
        refine ev_gV [true] [] rfl ?_
        refine ev_retz rfl (by first | decide | exact zb_01 _) ?_
        refine ev_gV [true] [] rfl ?_
        refine ev_inV 2 k_HA_53 h_SD_setN rfl rfl rfl rfl rfl ⟨by decide, by decide⟩ rfl ?_
        refine ev_gV [] [] rfl ?_
        refine ev_ret rfl ?_
        refine ev_g0 rfl ?_
        refine ev_reti rfl ?_
        refine ct_of h_MM_handles rfl rfl rfl ?_
        refine ev_g0 rfl ?_
        refine ev_inV 1 k_MM_344 h_MM_hold rfl rfl rfl rfl rfl ⟨by decide, by decide⟩ rfl ?_
        refine ev_gV [] [] rfl ?_
        refine ev_reti rfl ?_
        refine ev_gV [false] [some 12] rfl ?_
        refine ev_inV 2 k_MM_202 h_MM_isKind rfl rfl rfl rfl rfl ⟨by decide, by decide⟩ rfl ?_
        refine ev_gV [false, false, true, false] [] rfl ?_
        refine ev_inS 3 k_MM_188 h_MM_in rfl rfl rfl rfl ⟨by decide, by decide⟩ rfl ?_
        refine ev_gV [false, true] [] rfl ?_
        refine ev_retz rfl (by first | decide | exact zb_01 _) ?_
        refine ev_gV [true] [] rfl ?_
        refine ev_retz rfl (by first | decide | exact zb_01 _) ?_
        refine ev_gV [true] [] rfl ?_
        refine ev_inV 2 k_MM_288 h_MM_lay rfl rfl rfl rfl rfl ⟨by decide, by decide⟩ rfl ?_
        refine ev_gV [] [] rfl ?_
        refine ev_ret rfl ?_
        refine ev_g0 rfl ?_
        refine ev_ret rfl ?_
        exact ⟨rfl, (u3 xj 0 t a ((nI 0).toInt64)), xd, xf, xo, xi, xn, nI 0, rfl, bdd, lf_V, lf_V, (CU_num hC ht ha lf_V lf_V), (MU_num hM ht ha lf_V lf_V (fun i hi => (rc_isor hC hi).2.2.1))⟩
      · skip
        refine ev_g0 rfl ?_
        refine ev_inS 2 k_TH_77 h_TH_isUnder rfl rfl rfl rfl ⟨by decide, by decide⟩ rfl ?_
        refine ev_gV [false] [] rfl ?_
        refine ev_bV rfl rfl (fun h_3 => ?_) (fun h_3 => ?_)
        · skip
          refine ev_g0 rfl ?_
          refine ev_retz rfl (by first | decide | exact zb_01 _) ?_
          refine ev_gV [false] [] rfl ?_
          refine ev_retz rfl (by first | decide | exact zb_01 _) ?_
          refine ev_gV [false] [] rfl ?_
          refine ev_retz rfl (by first | decide | exact zb_01 _) ?_
          refine ev_gV [false] [] rfl ?_
          refine ev_inV 2 k_HA_53 h_SD_setN rfl rfl rfl rfl rfl ⟨by decide, by decide⟩ rfl ?_
          refine ev_gV [] [] rfl ?_
          refine ev_ret rfl ?_
          refine ev_g0 rfl ?_
          refine ev_reti rfl ?_
          refine ct_of h_MM_handles rfl rfl rfl ?_
          refine ev_g0 rfl ?_
          refine ev_inV 1 k_MM_344 h_MM_hold rfl rfl rfl rfl rfl ⟨by decide, by decide⟩ rfl ?_
          refine ev_gV [] [] rfl ?_
          refine ev_reti rfl ?_
          refine ev_gV [false] [some 12] rfl ?_
          refine ev_inV 2 k_MM_202 h_MM_isKind rfl rfl rfl rfl rfl ⟨by decide, by decide⟩ rfl ?_
          refine ev_gV [false, false, true, false] [] rfl ?_
          refine ev_inS 3 k_MM_188 h_MM_in rfl rfl rfl rfl ⟨by decide, by decide⟩ rfl ?_
          refine ev_gV [false, false] [] rfl ?_
          refine ev_retz rfl (by first | decide | exact zb_01 _) ?_
          refine ev_gV [false] [] rfl ?_
          refine ev_inS 2 k_MM_192 h_MM_isOf rfl rfl rfl rfl ⟨by decide, by decide⟩ rfl ?_
          refine ev_gV [false, true] [] rfl ?_
          refine ev_retz rfl (by first | decide | exact zb_01 _) ?_
          refine ev_gV [false] [] rfl ?_
          refine ev_retz rfl (by first | decide | exact zb_01 _) ?_
          refine ev_gV [false] [] rfl ?_
          refine ev_inV 2 k_MM_288 h_MM_lay rfl rfl rfl rfl rfl ⟨by decide, by decide⟩ rfl ?_
          refine ev_gV [] [] rfl ?_
          refine ev_ret rfl ?_
          refine ev_g0 rfl ?_
          refine ev_ret rfl ?_
          exact ⟨rfl, (u3 xj 0 t a ((nI 1).toInt64)), xd, xf, xo, xi, xn, nI 0, rfl, bdd, lf_V, lf_V, (CU_num hC ht ha lf_V lf_V), (MU_num hM ht ha lf_V lf_V (fun i hi => (rc_isor hC hi).2.2.1))⟩
        · skip
          refine ev_g0 rfl ?_
          refine ev_bV rfl rfl (fun h_4 => ?_) (fun h_4 => ?_)
          · skip
            refine ev_g0 rfl ?_
            refine ev_retz rfl (by first | decide | exact zb_01 _) ?_
            refine ev_gV [true] [] rfl ?_
            refine ev_retz rfl (by first | decide | exact zb_01 _) ?_
            refine ev_gV [true] [] rfl ?_
            refine ev_retz rfl (by first | decide | exact zb_01 _) ?_
            refine ev_gV [true] [] rfl ?_
            refine ev_inV 2 k_HA_53 h_SD_setN rfl rfl rfl rfl rfl ⟨by decide, by decide⟩ rfl ?_
            refine ev_gV [] [] rfl ?_
            refine ev_ret rfl ?_
            refine ev_g0 rfl ?_
            refine ev_reti rfl ?_
            refine ct_of h_MM_handles rfl rfl rfl ?_
            refine ev_g0 rfl ?_
            refine ev_inV 1 k_MM_344 h_MM_hold rfl rfl rfl rfl rfl ⟨by decide, by decide⟩ rfl ?_
            refine ev_gV [] [] rfl ?_
            refine ev_reti rfl ?_
            refine ev_gV [false] [some 12] rfl ?_
            refine ev_inV 2 k_MM_202 h_MM_isKind rfl rfl rfl rfl rfl ⟨by decide, by decide⟩ rfl ?_
            refine ev_gV [false, false, true, false] [] rfl ?_
            refine ev_inS 3 k_MM_188 h_MM_in rfl rfl rfl rfl ⟨by decide, by decide⟩ rfl ?_
            refine ev_gV [false, false] [] rfl ?_
            refine ev_retz rfl (by first | decide | exact zb_01 _) ?_
            refine ev_gV [false] [] rfl ?_
            refine ev_inS 2 k_MM_192 h_MM_isOf rfl rfl rfl rfl ⟨by decide, by decide⟩ rfl ?_
            refine ev_gV [false, false, false, false, false, true] [] rfl ?_
            refine ev_retz rfl (by first | decide | exact zb_01 _) ?_
            refine ev_gV [true] [] rfl ?_
            refine ev_retz rfl (by first | decide | exact zb_01 _) ?_
            refine ev_gV [true] [] rfl ?_
            refine ev_inV 2 k_MM_288 h_MM_lay rfl rfl rfl rfl rfl ⟨by decide, by decide⟩ rfl ?_
            refine ev_gV [] [] rfl ?_
            refine ev_ret rfl ?_
            refine ev_g0 rfl ?_
            refine ev_ret rfl ?_
            exact ⟨rfl, (u3 xj 0 t a ((nI 0).toInt64)), xd, xf, xo, xi, xn, nI 0, rfl, bdd, lf_V, lf_V, (CU_num hC ht ha lf_V lf_V), (MU_num hM ht ha lf_V lf_V (fun i hi => (rc_isor hC hi).2.2.1))⟩
          · skip
            refine ev_g0 rfl ?_
            refine ev_bV rfl rfl (fun h_5 => ?_) (fun h_5 => ?_)
            · skip
              refine ev_g0 rfl ?_
              refine ev_retz rfl (by first | decide | exact zb_01 _) ?_
              refine ev_gV [true] [] rfl ?_
              refine ev_retz rfl (by first | decide | exact zb_01 _) ?_
              refine ev_gV [true] [] rfl ?_
              refine ev_retz rfl (by first | decide | exact zb_01 _) ?_
              refine ev_gV [true] [] rfl ?_
              refine ev_inV 2 k_HA_53 h_SD_setN rfl rfl rfl rfl rfl ⟨by decide, by decide⟩ rfl ?_
              refine ev_gV [] [] rfl ?_
              refine ev_ret rfl ?_
              refine ev_g0 rfl ?_
              refine ev_reti rfl ?_
              refine ct_of h_MM_handles rfl rfl rfl ?_
              refine ev_g0 rfl ?_
              refine ev_inV 1 k_MM_344 h_MM_hold rfl rfl rfl rfl rfl ⟨by decide, by decide⟩ rfl ?_
              refine ev_gV [] [] rfl ?_
              refine ev_reti rfl ?_
              refine ev_gV [false] [some 12] rfl ?_
              refine ev_inV 2 k_MM_202 h_MM_isKind rfl rfl rfl rfl rfl ⟨by decide, by decide⟩ rfl ?_
              refine ev_gV [false, false, true, false] [] rfl ?_
              refine ev_inS 3 k_MM_188 h_MM_in rfl rfl rfl rfl ⟨by decide, by decide⟩ rfl ?_
              refine ev_gV [false, false] [] rfl ?_
              refine ev_retz rfl (by first | decide | exact zb_01 _) ?_
              refine ev_gV [false] [] rfl ?_
              refine ev_inS 2 k_MM_192 h_MM_isOf rfl rfl rfl rfl ⟨by decide, by decide⟩ rfl ?_
              refine ev_gV [false, false, false, false, false, true] [] rfl ?_
              refine ev_retz rfl (by first | decide | exact zb_01 _) ?_
              refine ev_gV [true] [] rfl ?_
              refine ev_retz rfl (by first | decide | exact zb_01 _) ?_
              refine ev_gV [true] [] rfl ?_
              refine ev_inV 2 k_MM_288 h_MM_lay rfl rfl rfl rfl rfl ⟨by decide, by decide⟩ rfl ?_
              refine ev_gV [] [] rfl ?_
              refine ev_ret rfl ?_
              refine ev_g0 rfl ?_
              refine ev_ret rfl ?_
              exact ⟨rfl, (u3 xj 0 t a ((nI 0).toInt64)), xd, xf, xo, xi, xn, nI 0, rfl, bdd, lf_V, lf_V, (CU_num hC ht ha lf_V lf_V), (MU_num hM ht ha lf_V lf_V (fun i hi => (rc_isor hC hi).2.2.1))⟩
            · skip
              refine ev_g0 rfl ?_
              refine ev_retz rfl (by first | decide | exact zb_01 _) ?_
              refine ev_gV [false] [] rfl ?_
              refine ev_retz rfl (by first | decide | exact zb_01 _) ?_
              refine ev_gV [false] [] rfl ?_
              refine ev_retz rfl (by first | decide | exact zb_01 _) ?_
              refine ev_gV [false] [] rfl ?_
              refine ev_inV 2 k_HA_53 h_SD_setN rfl rfl rfl rfl rfl ⟨by decide, by decide⟩ rfl ?_
              refine ev_gV [] [] rfl ?_
              refine ev_ret rfl ?_
              refine ev_g0 rfl ?_
              refine ev_reti rfl ?_
              refine ct_of h_MM_handles rfl rfl rfl ?_
              refine ev_g0 rfl ?_
              refine ev_inV 1 k_MM_344 h_MM_hold rfl rfl rfl rfl rfl ⟨by decide, by decide⟩ rfl ?_
              refine ev_gV [] [] rfl ?_
              refine ev_reti rfl ?_
              refine ev_gV [false] [some 12] rfl ?_
              refine ev_inV 2 k_MM_202 h_MM_isKind rfl rfl rfl rfl rfl ⟨by decide, by decide⟩ rfl ?_
              refine ev_gV [false, false, true, false] [] rfl ?_
              refine ev_inS 3 k_MM_188 h_MM_in rfl rfl rfl rfl ⟨by decide, by decide⟩ rfl ?_
              refine ev_gV [false, false] [] rfl ?_
              refine ev_retz rfl (by first | decide | exact zb_01 _) ?_
              refine ev_gV [false] [] rfl ?_
              refine ev_inS 2 k_MM_192 h_MM_isOf rfl rfl rfl rfl ⟨by decide, by decide⟩ rfl ?_
              refine ev_gV [false, false, false] [] rfl ?_
              refine ev_bV rfl rfl (fun h_6 => ?_) (fun h_6 => ?_)
              · skip
                refine ev_g0 rfl ?_
                refine ev_retz rfl (by first | decide | exact zb_01 _) ?_
                refine ev_gV [false] [] rfl ?_
                refine ev_retz rfl (by first | decide | exact zb_01 _) ?_
                refine ev_gV [false] [] rfl ?_
                refine ev_inV 2 k_MM_288 h_MM_lay rfl rfl rfl rfl rfl ⟨by decide, by decide⟩ rfl ?_
                refine ev_gV [] [] rfl ?_
                refine ev_ret rfl ?_
                refine ev_g0 rfl ?_
                refine ev_ret rfl ?_
                exact ⟨rfl, (u3 xj 0 t a ((nI 1).toInt64)), xd, xf, xo, xi, xn, nI 0, rfl, bdd, lf_V, lf_V, (CU_num hC ht ha lf_V lf_V), (MU_num hM ht ha lf_V lf_V (fun i hi => (rc_isor hC hi).2.2.1))⟩
              · skip
                refine ev_gV [true] [] rfl ?_
                refine ev_retz rfl (by first | decide | exact zb_01 _) ?_
                refine ev_gV [false] [] rfl ?_
                refine ev_retz rfl (by first | decide | exact zb_01 _) ?_
                refine ev_gV [false] [] rfl ?_
                refine ev_inV 2 k_MM_288 h_MM_lay rfl rfl rfl rfl rfl ⟨by decide, by decide⟩ rfl ?_
                refine ev_gV [] [] rfl ?_
                refine ev_ret rfl ?_
                refine ev_g0 rfl ?_
                refine ev_ret rfl ?_
                exact ⟨rfl, (u3 xj 0 t a ((nI 1).toInt64)), xd, xf, xo, xi, xn, nI 0, rfl, bdd, lf_V, lf_V, (CU_num hC ht ha lf_V lf_V), (MU_num hM ht ha lf_V lf_V (fun i hi => (rc_isor hC hi).2.2.1))⟩
theorem A49_9 {ci : Nat → Nat → Nat → Int32} {cn : Nat → Nat → Nat → Nat} {co : Nat → Option Nat} {xj : Nat → Nat → Nat → Int64} {xd : Nat → Nat → Nat → UInt64} {xf : Nat → Nat → Nat → UInt32} {xo : Nat → Nat → Nat → Option Nat} {xi : Nat → Nat → Nat → Int32} {xn : Nat → Nat → Nat → Nat} {K : Nat → Nat} {I : Nat → Nat → Int32} {J : Nat → Nat → Int64} {F : Nat → Nat → UInt32} {D : Nat → Nat → UInt64} {R : Nat → Nat → Option Nat} {nx sl : Nat} {Km : Nat → Nat} {Im : Nat → Nat → Int32} {Jm : Nat → Nat → Int64} {Fm : Nat → Nat → UInt32} {Dm : Nat → Nat → UInt64} {Rm : Nat → Nat → Option Nat} {nxm slm : Nat} (hC : RC ci cn co xj xd xf xo xi xn I J F D R nx sl) (hM : RM ci cn co xj xd xf xo xi xn Im Jm Dm) {t a b : Nat} {go : Int32} (ht : t < 3) (ha : a < 8) (hb : b < 8) (x1 : Im 6 39 = nI t) (x2 : Im 6 40 = nI a) (x3 : Im 6 41 = nI b) (x4 : Im 6 42 = nI 9) (x5 : Im 6 43 = nI 0) (x6 : Im 6 44 = go) : Ct Y_HA_perform [vr 1 55, vr 8 (32 + 7 * t), vi (nI 49), vi (nI a), vi (nI b), vi (nI 9)] (K, I, J, F, D, R, nx, sl) (fun r μ1 => Ct Y_MM_handles [vr 11 6, vi (nI 49)] (Km, Im, Jm, Fm, Dm, Rm, nxm, slm) (fun r2 μ2 => r2 = none ∧ QA ci cn co go r μ1 μ2)) := by
  rcases ho : xo 0 t b with _ | q
  · skip
    refine ct_of h_HA_perform rfl rfl rfl ?_
    refine ev_gV [] [some 37] rfl ?_
    refine ev_inV 1 k_HA_15 h_SD_t rfl rfl rfl rfl rfl ⟨by decide, by decide⟩ rfl ?_
    refine ev_gV [] [none] rfl ?_
    refine ev_retn rfl ?_
    refine ev_g0 rfl ?_
    refine ev_inS 4 k_HA_57 h_HA_takeAs rfl rfl rfl rfl ⟨by decide, by decide⟩ rfl ?_
    refine ev_g0 rfl ?_
    refine ev_inV 2 k_HA_21 h_SD_setT rfl rfl rfl rfl rfl ⟨by decide, by decide⟩ rfl ?_
    refine ev_gV [] [] rfl ?_
    refine ev_ret rfl ?_
    refine ev_g0 rfl ?_
    refine ev_reti rfl ?_
    refine ev_g0 rfl ?_
    refine ev_reti rfl ?_
    refine ct_of h_MM_handles rfl rfl rfl ?_
    refine ev_g0 rfl ?_
    refine ev_inV 1 k_MM_344 h_MM_hold rfl rfl rfl rfl rfl ⟨by decide, by decide⟩ rfl ?_
    refine ev_gV [] [] rfl ?_
    refine ev_reti rfl ?_
    refine ev_gV [] [some 13] rfl ?_
    refine ev_inV 2 k_MM_354 h_MM_takes rfl rfl rfl rfl rfl ⟨by decide, by decide⟩ rfl ?_
    refine ev_gV [true] [] rfl ?_
    refine ev_retz rfl (by first | decide | exact zb_01 _) ?_
    refine ev_gV [false] [] rfl ?_
    refine ev_inV 2 k_MM_336 h_MM_keep rfl rfl rfl rfl rfl ⟨by decide, by decide⟩ rfl ?_
    refine ev_gV [] [] rfl ?_
    refine ev_ret rfl ?_
    refine ev_g0 rfl ?_
    refine ev_ret rfl ?_
    exact ⟨rfl, xj, xd, xf, (u3 xo 0 t a (none)), xi, xn, nI 0, rfl, bdd, lf_V, lf_V, (CU_hol hC ht ha (fun _ h => by cases h) lf_V lf_V), (MU_hol hM ht ha lf_V lf_V (fun i hi => (rc_isor hC hi).2.2.1))⟩
  · skip
    have hq := rc_ihol hC ht hb _ ho
    have zq := rc_isor hC hq
    have yq := rc_imad hC
    refine ct_of h_HA_perform rfl rfl rfl ?_
    refine ev_gV [] [some 37] rfl ?_
    refine ev_inV 1 k_HA_15 h_SD_t rfl rfl rfl rfl rfl ⟨by decide, by decide⟩ rfl ?_
    refine ev_gV [] [some (94 + 4 * q)] rfl ?_
    refine ev_reta rfl ?_
    refine ev_g0 rfl ?_
    refine ev_inS 4 k_HA_57 h_HA_takeAs rfl rfl rfl rfl ⟨by decide, by decide⟩ rfl ?_
    refine ev_g0 rfl ?_
    refine ev_inV 1 k_HA_61 h_TH_isA rfl rfl rfl rfl rfl ⟨by decide, by decide⟩ rfl ?_
    refine ev_gV [false, false] [none] rfl ?_
    refine ev_bV rfl rfl (fun h_1 => ?_) (fun h_1 => ?_)
    · skip
      refine ev_g0 rfl ?_
      refine ev_retz rfl (by first | decide | exact zb_01 _) ?_
      refine ev_gV [false] [] rfl ?_
      refine ev_reti rfl ?_
      refine ev_g0 rfl ?_
      refine ev_reti rfl ?_
      refine ct_of h_MM_handles rfl rfl rfl ?_
      refine ev_g0 rfl ?_
      refine ev_inV 1 k_MM_344 h_MM_hold rfl rfl rfl rfl rfl ⟨by decide, by decide⟩ rfl ?_
      refine ev_gV [] [] rfl ?_
      refine ev_reti rfl ?_
      refine ev_gV [] [some 13] rfl ?_
      refine ev_inV 2 k_MM_354 h_MM_takes rfl rfl rfl rfl rfl ⟨by decide, by decide⟩ rfl ?_
      refine ev_gV [false] [] rfl ?_
      refine ev_inV 2 k_MM_202 h_MM_isKind rfl rfl rfl rfl rfl ⟨by decide, by decide⟩ rfl ?_
      refine ev_gV [false, false, true, false] [] rfl ?_
      refine ev_inS 3 k_MM_188 h_MM_in rfl rfl rfl rfl ⟨by decide, by decide⟩ rfl ?_
      refine ev_gV [true] [] rfl ?_
      refine ev_retz rfl (by first | decide | exact zb_01 _) ?_
      refine ev_gV [true] [] rfl ?_
      refine ev_retz rfl (by first | decide | exact zb_01 _) ?_
      refine ev_gV [false] [] rfl ?_
      refine ev_retz rfl (by first | decide | exact zb_01 _) ?_
      refine ev_gV [true] [] rfl ?_
      refine ev_ret rfl ?_
      exact ⟨rfl, xj, xd, xf, xo, xi, xn, nI 3, rfl, bdd, lf_V, lf_V, hC, hM⟩
    · skip
      refine ev_g0 rfl ?_
      refine ev_bV rfl rfl (fun h_2 => ?_) (fun h_2 => ?_)
      · skip
        refine ev_g0 rfl ?_
        refine ev_retz rfl (by first | decide | exact zb_01 _) ?_
        refine ev_gV [false] [] rfl ?_
        refine ev_reti rfl ?_
        refine ev_g0 rfl ?_
        refine ev_reti rfl ?_
        refine ct_of h_MM_handles rfl rfl rfl ?_
        refine ev_g0 rfl ?_
        refine ev_inV 1 k_MM_344 h_MM_hold rfl rfl rfl rfl rfl ⟨by decide, by decide⟩ rfl ?_
        refine ev_gV [] [] rfl ?_
        refine ev_reti rfl ?_
        refine ev_gV [] [some 13] rfl ?_
        refine ev_inV 2 k_MM_354 h_MM_takes rfl rfl rfl rfl rfl ⟨by decide, by decide⟩ rfl ?_
        refine ev_gV [false] [] rfl ?_
        refine ev_inV 2 k_MM_202 h_MM_isKind rfl rfl rfl rfl rfl ⟨by decide, by decide⟩ rfl ?_
        refine ev_gV [false, false, true, false] [] rfl ?_
        refine ev_inS 3 k_MM_188 h_MM_in rfl rfl rfl rfl ⟨by decide, by decide⟩ rfl ?_
        refine ev_gV [false, true] [] rfl ?_
        refine ev_retz rfl (by first | decide | exact zb_01 _) ?_
        refine ev_gV [true] [] rfl ?_
        refine ev_retz rfl (by first | decide | exact zb_01 _) ?_
        refine ev_gV [false] [] rfl ?_
        refine ev_retz rfl (by first | decide | exact zb_01 _) ?_
        refine ev_gV [true] [] rfl ?_
        refine ev_ret rfl ?_
        exact ⟨rfl, xj, xd, xf, xo, xi, xn, nI 3, rfl, bdd, lf_V, lf_V, hC, hM⟩
      · skip
        refine ev_g0 rfl ?_
        refine ev_inS 2 k_TH_77 h_TH_isUnder rfl rfl rfl rfl ⟨by decide, by decide⟩ rfl ?_
        refine ev_gV [false] [] rfl ?_
        refine ev_bV rfl rfl (fun h_3 => ?_) (fun h_3 => ?_)
        · skip
          refine ev_g0 rfl ?_
          refine ev_retz rfl (by first | decide | exact zb_01 _) ?_
          refine ev_gV [false] [] rfl ?_
          refine ev_retz rfl (by first | decide | exact zb_01 _) ?_
          refine ev_gV [true] [] rfl ?_
          refine ev_inV 2 k_HA_21 h_SD_setT rfl rfl rfl rfl rfl ⟨by decide, by decide⟩ rfl ?_
          refine ev_gV [] [] rfl ?_
          refine ev_ret rfl ?_
          refine ev_g0 rfl ?_
          refine ev_reti rfl ?_
          refine ev_g0 rfl ?_
          refine ev_reti rfl ?_
          refine ct_of h_MM_handles rfl rfl rfl ?_
          refine ev_g0 rfl ?_
          refine ev_inV 1 k_MM_344 h_MM_hold rfl rfl rfl rfl rfl ⟨by decide, by decide⟩ rfl ?_
          refine ev_gV [] [] rfl ?_
          refine ev_reti rfl ?_
          refine ev_gV [] [some 13] rfl ?_
          refine ev_inV 2 k_MM_354 h_MM_takes rfl rfl rfl rfl rfl ⟨by decide, by decide⟩ rfl ?_
          refine ev_gV [false] [] rfl ?_
          refine ev_inV 2 k_MM_202 h_MM_isKind rfl rfl rfl rfl rfl ⟨by decide, by decide⟩ rfl ?_
          refine ev_gV [false, false, true, false] [] rfl ?_
          refine ev_inS 3 k_MM_188 h_MM_in rfl rfl rfl rfl ⟨by decide, by decide⟩ rfl ?_
          refine ev_gV [false, false] [] rfl ?_
          refine ev_retz rfl (by first | decide | exact zb_01 _) ?_
          refine ev_gV [false] [] rfl ?_
          refine ev_inS 2 k_MM_192 h_MM_isOf rfl rfl rfl rfl ⟨by decide, by decide⟩ rfl ?_
          refine ev_gV [false, true] [] rfl ?_
          refine ev_retz rfl (by first | decide | exact zb_01 _) ?_
          refine ev_gV [false] [] rfl ?_
          refine ev_retz rfl (by first | decide | exact zb_01 _) ?_
          refine ev_gV [true] [] rfl ?_
          refine ev_retz rfl (by first | decide | exact zb_01 _) ?_
          refine ev_gV [false] [] rfl ?_
          refine ev_inV 2 k_MM_336 h_MM_keep rfl rfl rfl rfl rfl ⟨by decide, by decide⟩ rfl ?_
          refine ev_gV [] [] rfl ?_
          refine ev_ret rfl ?_
          refine ev_g0 rfl ?_
          refine ev_ret rfl ?_
          exact ⟨rfl, xj, xd, xf, (u3 xo 0 t a (some q)), xi, xn, nI 0, rfl, bdd, lf_V, lf_V, (CU_hol hC ht ha (fun _ h => by cases h; exact hq) lf_V lf_V), (MU_hol hM ht ha lf_V lf_V (fun i hi => (rc_isor hC hi).2.2.1))⟩
        · skip
          refine ev_g0 rfl ?_
          refine ev_bV rfl rfl (fun h_4 => ?_) (fun h_4 => ?_)
          · skip
            refine ev_g0 rfl ?_
            refine ev_retz rfl (by first | decide | exact zb_01 _) ?_
            refine ev_gV [true] [] rfl ?_
            refine ev_retz rfl (by first | decide | exact zb_01 _) ?_
            refine ev_gV [false] [] rfl ?_
            refine ev_reti rfl ?_
            refine ev_g0 rfl ?_
            refine ev_reti rfl ?_
            refine ct_of h_MM_handles rfl rfl rfl ?_
            refine ev_g0 rfl ?_
            refine ev_inV 1 k_MM_344 h_MM_hold rfl rfl rfl rfl rfl ⟨by decide, by decide⟩ rfl ?_
            refine ev_gV [] [] rfl ?_
            refine ev_reti rfl ?_
            refine ev_gV [] [some 13] rfl ?_
            refine ev_inV 2 k_MM_354 h_MM_takes rfl rfl rfl rfl rfl ⟨by decide, by decide⟩ rfl ?_
            refine ev_gV [false] [] rfl ?_
            refine ev_inV 2 k_MM_202 h_MM_isKind rfl rfl rfl rfl rfl ⟨by decide, by decide⟩ rfl ?_
            refine ev_gV [false, false, true, false] [] rfl ?_
            refine ev_inS 3 k_MM_188 h_MM_in rfl rfl rfl rfl ⟨by decide, by decide⟩ rfl ?_
            refine ev_gV [false, false] [] rfl ?_
            refine ev_retz rfl (by first | decide | exact zb_01 _) ?_
            refine ev_gV [false] [] rfl ?_
            refine ev_inS 2 k_MM_192 h_MM_isOf rfl rfl rfl rfl ⟨by decide, by decide⟩ rfl ?_
            refine ev_gV [false, false, false, false, false, true] [] rfl ?_
            refine ev_retz rfl (by first | decide | exact zb_01 _) ?_
            refine ev_gV [true] [] rfl ?_
            refine ev_retz rfl (by first | decide | exact zb_01 _) ?_
            refine ev_gV [false] [] rfl ?_
            refine ev_retz rfl (by first | decide | exact zb_01 _) ?_
            refine ev_gV [true] [] rfl ?_
            refine ev_ret rfl ?_
            exact ⟨rfl, xj, xd, xf, xo, xi, xn, nI 3, rfl, bdd, lf_V, lf_V, hC, hM⟩
          · skip
            refine ev_g0 rfl ?_
            refine ev_bV rfl rfl (fun h_5 => ?_) (fun h_5 => ?_)
            · skip
              refine ev_g0 rfl ?_
              refine ev_retz rfl (by first | decide | exact zb_01 _) ?_
              refine ev_gV [true] [] rfl ?_
              refine ev_retz rfl (by first | decide | exact zb_01 _) ?_
              refine ev_gV [false] [] rfl ?_
              refine ev_reti rfl ?_
              refine ev_g0 rfl ?_
              refine ev_reti rfl ?_
              refine ct_of h_MM_handles rfl rfl rfl ?_
              refine ev_g0 rfl ?_
              refine ev_inV 1 k_MM_344 h_MM_hold rfl rfl rfl rfl rfl ⟨by decide, by decide⟩ rfl ?_
              refine ev_gV [] [] rfl ?_
              refine ev_reti rfl ?_
              refine ev_gV [] [some 13] rfl ?_
              refine ev_inV 2 k_MM_354 h_MM_takes rfl rfl rfl rfl rfl ⟨by decide, by decide⟩ rfl ?_
              refine ev_gV [false] [] rfl ?_
              refine ev_inV 2 k_MM_202 h_MM_isKind rfl rfl rfl rfl rfl ⟨by decide, by decide⟩ rfl ?_
              refine ev_gV [false, false, true, false] [] rfl ?_
              refine ev_inS 3 k_MM_188 h_MM_in rfl rfl rfl rfl ⟨by decide, by decide⟩ rfl ?_
              refine ev_gV [false, false] [] rfl ?_
              refine ev_retz rfl (by first | decide | exact zb_01 _) ?_
              refine ev_gV [false] [] rfl ?_
              refine ev_inS 2 k_MM_192 h_MM_isOf rfl rfl rfl rfl ⟨by decide, by decide⟩ rfl ?_
              refine ev_gV [false, false, false, false, false, true] [] rfl ?_
              refine ev_retz rfl (by first | decide | exact zb_01 _) ?_
              refine ev_gV [true] [] rfl ?_
              refine ev_retz rfl (by first | decide | exact zb_01 _) ?_
              refine ev_gV [false] [] rfl ?_
              refine ev_retz rfl (by first | decide | exact zb_01 _) ?_
              refine ev_gV [true] [] rfl ?_
              refine ev_ret rfl ?_
              exact ⟨rfl, xj, xd, xf, xo, xi, xn, nI 3, rfl, bdd, lf_V, lf_V, hC, hM⟩
            · skip
              refine ev_g0 rfl ?_
              refine ev_retz rfl (by first | decide | exact zb_01 _) ?_
              refine ev_gV [false] [] rfl ?_
              refine ev_retz rfl (by first | decide | exact zb_01 _) ?_
              refine ev_gV [true] [] rfl ?_
              refine ev_inV 2 k_HA_21 h_SD_setT rfl rfl rfl rfl rfl ⟨by decide, by decide⟩ rfl ?_
              refine ev_gV [] [] rfl ?_
              refine ev_ret rfl ?_
              refine ev_g0 rfl ?_
              refine ev_reti rfl ?_
              refine ev_g0 rfl ?_
              refine ev_reti rfl ?_
              refine ct_of h_MM_handles rfl rfl rfl ?_
              refine ev_g0 rfl ?_
              refine ev_inV 1 k_MM_344 h_MM_hold rfl rfl rfl rfl rfl ⟨by decide, by decide⟩ rfl ?_
              refine ev_gV [] [] rfl ?_
              refine ev_reti rfl ?_
              refine ev_gV [] [some 13] rfl ?_
              refine ev_inV 2 k_MM_354 h_MM_takes rfl rfl rfl rfl rfl ⟨by decide, by decide⟩ rfl ?_
              refine ev_gV [false] [] rfl ?_
              refine ev_inV 2 k_MM_202 h_MM_isKind rfl rfl rfl rfl rfl ⟨by decide, by decide⟩ rfl ?_
              refine ev_gV [false, false, true, false] [] rfl ?_
              refine ev_inS 3 k_MM_188 h_MM_in rfl rfl rfl rfl ⟨by decide, by decide⟩ rfl ?_
              refine ev_gV [false, false] [] rfl ?_
              refine ev_retz rfl (by first | decide | exact zb_01 _) ?_
              refine ev_gV [false] [] rfl ?_
              refine ev_inS 2 k_MM_192 h_MM_isOf rfl rfl rfl rfl ⟨by decide, by decide⟩ rfl ?_
              refine ev_gV [false, false, false] [] rfl ?_
              refine ev_bV rfl rfl (fun h_6 => ?_) (fun h_6 => ?_)
              · skip
                refine ev_g0 rfl ?_
                refine ev_retz rfl (by first | decide | exact zb_01 _) ?_
                refine ev_gV [false] [] rfl ?_
                refine ev_retz rfl (by first | decide | exact zb_01 _) ?_
                refine ev_gV [true] [] rfl ?_
                refine ev_retz rfl (by first | decide | exact zb_01 _) ?_
                refine ev_gV [false] [] rfl ?_
                refine ev_inV 2 k_MM_336 h_MM_keep rfl rfl rfl rfl rfl ⟨by decide, by decide⟩ rfl ?_
                refine ev_gV [] [] rfl ?_
                refine ev_ret rfl ?_
                refine ev_g0 rfl ?_
                refine ev_ret rfl ?_
                exact ⟨rfl, xj, xd, xf, (u3 xo 0 t a (some q)), xi, xn, nI 0, rfl, bdd, lf_V, lf_V, (CU_hol hC ht ha (fun _ h => by cases h; exact hq) lf_V lf_V), (MU_hol hM ht ha lf_V lf_V (fun i hi => (rc_isor hC hi).2.2.1))⟩
              · skip
                refine ev_gV [true] [] rfl ?_
                refine ev_retz rfl (by first | decide | exact zb_01 _) ?_
                refine ev_gV [false] [] rfl ?_
                refine ev_retz rfl (by first | decide | exact zb_01 _) ?_
                refine ev_gV [true] [] rfl ?_
                refine ev_retz rfl (by first | decide | exact zb_01 _) ?_
                refine ev_gV [false] [] rfl ?_
                refine ev_inV 2 k_MM_336 h_MM_keep rfl rfl rfl rfl rfl ⟨by decide, by decide⟩ rfl ?_
                refine ev_gV [] [] rfl ?_
                refine ev_ret rfl ?_
                refine ev_g0 rfl ?_
                refine ev_ret rfl ?_
                exact ⟨rfl, xj, xd, xf, (u3 xo 0 t a (some q)), xi, xn, nI 0, rfl, bdd, lf_V, lf_V, (CU_hol hC ht ha (fun _ h => by cases h; exact hq) lf_V lf_V), (MU_hol hM ht ha lf_V lf_V (fun i hi => (rc_isor hC hi).2.2.1))⟩
theorem A48_10 {ci : Nat → Nat → Nat → Int32} {cn : Nat → Nat → Nat → Nat} {co : Nat → Option Nat} {xj : Nat → Nat → Nat → Int64} {xd : Nat → Nat → Nat → UInt64} {xf : Nat → Nat → Nat → UInt32} {xo : Nat → Nat → Nat → Option Nat} {xi : Nat → Nat → Nat → Int32} {xn : Nat → Nat → Nat → Nat} {K : Nat → Nat} {I : Nat → Nat → Int32} {J : Nat → Nat → Int64} {F : Nat → Nat → UInt32} {D : Nat → Nat → UInt64} {R : Nat → Nat → Option Nat} {nx sl : Nat} {Km : Nat → Nat} {Im : Nat → Nat → Int32} {Jm : Nat → Nat → Int64} {Fm : Nat → Nat → UInt32} {Dm : Nat → Nat → UInt64} {Rm : Nat → Nat → Option Nat} {nxm slm : Nat} (hC : RC ci cn co xj xd xf xo xi xn I J F D R nx sl) (hM : RM ci cn co xj xd xf xo xi xn Im Jm Dm) {t a b : Nat} {go : Int32} (ht : t < 3) (ha : a < 8) (hb : b < 8) (x1 : Im 6 39 = nI t) (x2 : Im 6 40 = nI a) (x3 : Im 6 41 = nI b) (x4 : Im 6 42 = nI 10) (x5 : Im 6 43 = nI 0) (x6 : Im 6 44 = go) : Ct Y_HA_perform [vr 1 55, vr 8 (32 + 7 * t), vi (nI 48), vi (nI a), vi (nI b), vi (nI 10)] (K, I, J, F, D, R, nx, sl) (fun r μ1 => Ct Y_MM_handles [vr 11 6, vi (nI 48)] (Km, Im, Jm, Fm, Dm, Rm, nxm, slm) (fun r2 μ2 => r2 = none ∧ QA ci cn co go r μ1 μ2)) := by
  rcases ho : xo 0 t b with _ | q
  · skip
    refine ct_of h_HA_perform rfl rfl rfl ?_
    refine ev_gV [] [some 36] rfl ?_
    refine ev_inV 1 k_HA_15 h_SD_t rfl rfl rfl rfl rfl ⟨by decide, by decide⟩ rfl ?_
    refine ev_gV [] [none] rfl ?_
    refine ev_retn rfl ?_
    refine ev_g0 rfl ?_
    refine ev_inS 2 k_HA_49 h_HA_isA rfl rfl rfl rfl ⟨by decide, by decide⟩ rfl ?_
    refine ev_g0 rfl ?_
    refine ev_retz rfl (by first | decide | exact zb_01 _) ?_
    refine ev_gV [true] [] rfl ?_
    refine ev_inV 2 k_HA_53 h_SD_setN rfl rfl rfl rfl rfl ⟨by decide, by decide⟩ rfl ?_
    refine ev_gV [] [] rfl ?_
    refine ev_ret rfl ?_
    refine ev_g0 rfl ?_
    refine ev_reti rfl ?_
    refine ct_of h_MM_handles rfl rfl rfl ?_
    refine ev_g0 rfl ?_
    refine ev_inV 1 k_MM_344 h_MM_hold rfl rfl rfl rfl rfl ⟨by decide, by decide⟩ rfl ?_
    refine ev_gV [] [] rfl ?_
    refine ev_reti rfl ?_
    refine ev_gV [true] [some 12] rfl ?_
    refine ev_inV 2 k_MM_288 h_MM_lay rfl rfl rfl rfl rfl ⟨by decide, by decide⟩ rfl ?_
    refine ev_gV [] [] rfl ?_
    refine ev_ret rfl ?_
    refine ev_g0 rfl ?_
    refine ev_ret rfl ?_
    exact ⟨rfl, (u3 xj 0 t a ((nI 0).toInt64)), xd, xf, xo, xi, xn, nI 0, rfl, bdd, lf_V, lf_V, (CU_num hC ht ha lf_V lf_V), (MU_num hM ht ha lf_V lf_V (fun i hi => (rc_isor hC hi).2.2.1))⟩
  · skip
    have hq := rc_ihol hC ht hb _ ho
    have zq := rc_isor hC hq
    have yq := rc_imad hC
    refine ct_of h_HA_perform rfl rfl rfl ?_
    refine ev_gV [] [some 36] rfl ?_
    refine ev_inV 1 k_HA_15 h_SD_t rfl rfl rfl rfl rfl ⟨by decide, by decide⟩ rfl ?_
    refine ev_gV [] [some (94 + 4 * q)] rfl ?_
    refine ev_reta rfl ?_
    refine ev_g0 rfl ?_
    refine ev_inS 2 k_HA_49 h_HA_isA rfl rfl rfl rfl ⟨by decide, by decide⟩ rfl ?_
    refine ev_g0 rfl ?_
    refine ev_inV 1 k_HA_61 h_TH_isA rfl rfl rfl rfl rfl ⟨by decide, by decide⟩ rfl ?_
    refine ev_gV [false, false] [none] rfl ?_
    refine ev_bV rfl rfl (fun h_1 => ?_) (fun h_1 => ?_)
    · skip
      refine ev_g0 rfl ?_
      refine ev_retz rfl (by first | decide | exact zb_01 _) ?_
      refine ev_gV [true] [] rfl ?_
      refine ev_retz rfl (by first | decide | exact zb_01 _) ?_
      refine ev_gV [true] [] rfl ?_
      refine ev_inV 2 k_HA_53 h_SD_setN rfl rfl rfl rfl rfl ⟨by decide, by decide⟩ rfl ?_
      refine ev_gV [] [] rfl ?_
      refine ev_ret rfl ?_
      refine ev_g0 rfl ?_
      refine ev_reti rfl ?_
      refine ct_of h_MM_handles rfl rfl rfl ?_
      refine ev_g0 rfl ?_
      refine ev_inV 1 k_MM_344 h_MM_hold rfl rfl rfl rfl rfl ⟨by decide, by decide⟩ rfl ?_
      refine ev_gV [] [] rfl ?_
      refine ev_reti rfl ?_
      refine ev_gV [false] [some 12] rfl ?_
      refine ev_inV 2 k_MM_202 h_MM_isKind rfl rfl rfl rfl rfl ⟨by decide, by decide⟩ rfl ?_
      refine ev_gV [false, false, true, false] [] rfl ?_
      refine ev_inS 3 k_MM_188 h_MM_in rfl rfl rfl rfl ⟨by decide, by decide⟩ rfl ?_
      refine ev_gV [true] [] rfl ?_
      refine ev_retz rfl (by first | decide | exact zb_01 _) ?_
      refine ev_gV [true] [] rfl ?_
      refine ev_retz rfl (by first | decide | exact zb_01 _) ?_
      refine ev_gV [true] [] rfl ?_
      refine ev_inV 2 k_MM_288 h_MM_lay rfl rfl rfl rfl rfl ⟨by decide, by decide⟩ rfl ?_
      refine ev_gV [] [] rfl ?_
      refine ev_ret rfl ?_
      refine ev_g0 rfl ?_
      refine ev_ret rfl ?_
      exact ⟨rfl, (u3 xj 0 t a ((nI 0).toInt64)), xd, xf, xo, xi, xn, nI 0, rfl, bdd, lf_V, lf_V, (CU_num hC ht ha lf_V lf_V), (MU_num hM ht ha lf_V lf_V (fun i hi => (rc_isor hC hi).2.2.1))⟩
    · skip
      refine ev_g0 rfl ?_
      refine ev_bV rfl rfl (fun h_2 => ?_) (fun h_2 => ?_)
      · skip
        refine ev_g0 rfl ?_
        refine ev_retz rfl (by first | decide | exact zb_01 _) ?_
        refine ev_gV [true] [] rfl ?_
        refine ev_retz rfl (by first | decide | exact zb_01 _) ?_
        refine ev_gV [true] [] rfl ?_
        refine ev_inV 2 k_HA_53 h_SD_setN rfl rfl rfl rfl rfl ⟨by decide, by decide⟩ rfl ?_
        refine ev_gV [] [] rfl ?_
        refine ev_ret rfl ?_
        refine ev_g0 rfl ?_
        refine ev_reti rfl ?_
        refine ct_of h_MM_handles rfl rfl rfl ?_
        refine ev_g0 rfl ?_
        refine ev_inV 1 k_MM_344 h_MM_hold rfl rfl rfl rfl rfl ⟨by decide, by decide⟩ rfl ?_
        refine ev_gV [] [] rfl ?_
        refine ev_reti rfl ?_
        refine ev_gV [false] [some 12] rfl ?_
        refine ev_inV 2 k_MM_202 h_MM_isKind rfl rfl rfl rfl rfl ⟨by decide, by decide⟩ rfl ?_
        refine ev_gV [false, false, true, false] [] rfl ?_
        refine ev_inS 3 k_MM_188 h_MM_in rfl rfl rfl rfl ⟨by decide, by decide⟩ rfl ?_
        refine ev_gV [false, true] [] rfl ?_
        refine ev_retz rfl (by first | decide | exact zb_01 _) ?_
        refine ev_gV [true] [] rfl ?_
        refine ev_retz rfl (by first | decide | exact zb_01 _) ?_
        refine ev_gV [true] [] rfl ?_
        refine ev_inV 2 k_MM_288 h_MM_lay rfl rfl rfl rfl rfl ⟨by decide, by decide⟩ rfl ?_
        refine ev_gV [] [] rfl ?_
        refine ev_ret rfl ?_
        refine ev_g0 rfl ?_
        refine ev_ret rfl ?_
        exact ⟨rfl, (u3 xj 0 t a ((nI 0).toInt64)), xd, xf, xo, xi, xn, nI 0, rfl, bdd, lf_V, lf_V, (CU_num hC ht ha lf_V lf_V), (MU_num hM ht ha lf_V lf_V (fun i hi => (rc_isor hC hi).2.2.1))⟩
      · skip
        refine ev_g0 rfl ?_
        refine ev_inS 2 k_TH_77 h_TH_isUnder rfl rfl rfl rfl ⟨by decide, by decide⟩ rfl ?_
        refine ev_gV [false] [] rfl ?_
        refine ev_bV rfl rfl (fun h_3 => ?_) (fun h_3 => ?_)
        · skip
          refine ev_g0 rfl ?_
          refine ev_retz rfl (by first | decide | exact zb_01 _) ?_
          refine ev_gV [false] [] rfl ?_
          refine ev_retz rfl (by first | decide | exact zb_01 _) ?_
          refine ev_gV [false] [] rfl ?_
          refine ev_retz rfl (by first | decide | exact zb_01 _) ?_
          refine ev_gV [false] [] rfl ?_
          refine ev_inV 2 k_HA_53 h_SD_setN rfl rfl rfl rfl rfl ⟨by decide, by decide⟩ rfl ?_
          refine ev_gV [] [] rfl ?_
          refine ev_ret rfl ?_
          refine ev_g0 rfl ?_
          refine ev_reti rfl ?_
          refine ct_of h_MM_handles rfl rfl rfl ?_
          refine ev_g0 rfl ?_
          refine ev_inV 1 k_MM_344 h_MM_hold rfl rfl rfl rfl rfl ⟨by decide, by decide⟩ rfl ?_
          refine ev_gV [] [] rfl ?_
          refine ev_reti rfl ?_
          refine ev_gV [false] [some 12] rfl ?_
          refine ev_inV 2 k_MM_202 h_MM_isKind rfl rfl rfl rfl rfl ⟨by decide, by decide⟩ rfl ?_
          refine ev_gV [false, false, true, false] [] rfl ?_
          refine ev_inS 3 k_MM_188 h_MM_in rfl rfl rfl rfl ⟨by decide, by decide⟩ rfl ?_
          refine ev_gV [false, false] [] rfl ?_
          refine ev_retz rfl (by first | decide | exact zb_01 _) ?_
          refine ev_gV [false] [] rfl ?_
          refine ev_inS 2 k_MM_192 h_MM_isOf rfl rfl rfl rfl ⟨by decide, by decide⟩ rfl ?_
          refine ev_gV [false, true] [] rfl ?_
          refine ev_retz rfl (by first | decide | exact zb_01 _) ?_
          refine ev_gV [false] [] rfl ?_
          refine ev_retz rfl (by first | decide | exact zb_01 _) ?_
          refine ev_gV [false] [] rfl ?_
          refine ev_inV 2 k_MM_288 h_MM_lay rfl rfl rfl rfl rfl ⟨by decide, by decide⟩ rfl ?_
          refine ev_gV [] [] rfl ?_
          refine ev_ret rfl ?_
          refine ev_g0 rfl ?_
          refine ev_ret rfl ?_
          exact ⟨rfl, (u3 xj 0 t a ((nI 1).toInt64)), xd, xf, xo, xi, xn, nI 0, rfl, bdd, lf_V, lf_V, (CU_num hC ht ha lf_V lf_V), (MU_num hM ht ha lf_V lf_V (fun i hi => (rc_isor hC hi).2.2.1))⟩
        · skip
          refine ev_g0 rfl ?_
          refine ev_bV rfl rfl (fun h_4 => ?_) (fun h_4 => ?_)
          · skip
            refine ev_g0 rfl ?_
            refine ev_retz rfl (by first | decide | exact zb_01 _) ?_
            refine ev_gV [true] [] rfl ?_
            refine ev_retz rfl (by first | decide | exact zb_01 _) ?_
            refine ev_gV [true] [] rfl ?_
            refine ev_retz rfl (by first | decide | exact zb_01 _) ?_
            refine ev_gV [true] [] rfl ?_
            refine ev_inV 2 k_HA_53 h_SD_setN rfl rfl rfl rfl rfl ⟨by decide, by decide⟩ rfl ?_
            refine ev_gV [] [] rfl ?_
            refine ev_ret rfl ?_
            refine ev_g0 rfl ?_
            refine ev_reti rfl ?_
            refine ct_of h_MM_handles rfl rfl rfl ?_
            refine ev_g0 rfl ?_
            refine ev_inV 1 k_MM_344 h_MM_hold rfl rfl rfl rfl rfl ⟨by decide, by decide⟩ rfl ?_
            refine ev_gV [] [] rfl ?_
            refine ev_reti rfl ?_
            refine ev_gV [false] [some 12] rfl ?_
            refine ev_inV 2 k_MM_202 h_MM_isKind rfl rfl rfl rfl rfl ⟨by decide, by decide⟩ rfl ?_
            refine ev_gV [false, false, true, false] [] rfl ?_
            refine ev_inS 3 k_MM_188 h_MM_in rfl rfl rfl rfl ⟨by decide, by decide⟩ rfl ?_
            refine ev_gV [false, false] [] rfl ?_
            refine ev_retz rfl (by first | decide | exact zb_01 _) ?_
            refine ev_gV [false] [] rfl ?_
            refine ev_inS 2 k_MM_192 h_MM_isOf rfl rfl rfl rfl ⟨by decide, by decide⟩ rfl ?_
            refine ev_gV [false, false, true, false, true] [] rfl ?_
            refine ev_retz rfl (by first | decide | exact zb_01 _) ?_
            refine ev_gV [true] [] rfl ?_
            refine ev_retz rfl (by first | decide | exact zb_01 _) ?_
            refine ev_gV [true] [] rfl ?_
            refine ev_inV 2 k_MM_288 h_MM_lay rfl rfl rfl rfl rfl ⟨by decide, by decide⟩ rfl ?_
            refine ev_gV [] [] rfl ?_
            refine ev_ret rfl ?_
            refine ev_g0 rfl ?_
            refine ev_ret rfl ?_
            exact ⟨rfl, (u3 xj 0 t a ((nI 0).toInt64)), xd, xf, xo, xi, xn, nI 0, rfl, bdd, lf_V, lf_V, (CU_num hC ht ha lf_V lf_V), (MU_num hM ht ha lf_V lf_V (fun i hi => (rc_isor hC hi).2.2.1))⟩
          · skip
            refine ev_g0 rfl ?_
            refine ev_bV rfl rfl (fun h_5 => ?_) (fun h_5 => ?_)
            · skip
              refine ev_g0 rfl ?_
              refine ev_retz rfl (by first | decide | exact zb_01 _) ?_
              refine ev_gV [true] [] rfl ?_
              refine ev_retz rfl (by first | decide | exact zb_01 _) ?_
              refine ev_gV [true] [] rfl ?_
              refine ev_retz rfl (by first | decide | exact zb_01 _) ?_
              refine ev_gV [true] [] rfl ?_
              refine ev_inV 2 k_HA_53 h_SD_setN rfl rfl rfl rfl rfl ⟨by decide, by decide⟩ rfl ?_
              refine ev_gV [] [] rfl ?_
              refine ev_ret rfl ?_
              refine ev_g0 rfl ?_
              refine ev_reti rfl ?_
              refine ct_of h_MM_handles rfl rfl rfl ?_
              refine ev_g0 rfl ?_
              refine ev_inV 1 k_MM_344 h_MM_hold rfl rfl rfl rfl rfl ⟨by decide, by decide⟩ rfl ?_
              refine ev_gV [] [] rfl ?_
              refine ev_reti rfl ?_
              refine ev_gV [false] [some 12] rfl ?_
              refine ev_inV 2 k_MM_202 h_MM_isKind rfl rfl rfl rfl rfl ⟨by decide, by decide⟩ rfl ?_
              refine ev_gV [false, false, true, false] [] rfl ?_
              refine ev_inS 3 k_MM_188 h_MM_in rfl rfl rfl rfl ⟨by decide, by decide⟩ rfl ?_
              refine ev_gV [false, false] [] rfl ?_
              refine ev_retz rfl (by first | decide | exact zb_01 _) ?_
              refine ev_gV [false] [] rfl ?_
              refine ev_inS 2 k_MM_192 h_MM_isOf rfl rfl rfl rfl ⟨by decide, by decide⟩ rfl ?_
              refine ev_gV [false, false, true, false, true] [] rfl ?_
              refine ev_retz rfl (by first | decide | exact zb_01 _) ?_
              refine ev_gV [true] [] rfl ?_
              refine ev_retz rfl (by first | decide | exact zb_01 _) ?_
              refine ev_gV [true] [] rfl ?_
              refine ev_inV 2 k_MM_288 h_MM_lay rfl rfl rfl rfl rfl ⟨by decide, by decide⟩ rfl ?_
              refine ev_gV [] [] rfl ?_
              refine ev_ret rfl ?_
              refine ev_g0 rfl ?_
              refine ev_ret rfl ?_
              exact ⟨rfl, (u3 xj 0 t a ((nI 0).toInt64)), xd, xf, xo, xi, xn, nI 0, rfl, bdd, lf_V, lf_V, (CU_num hC ht ha lf_V lf_V), (MU_num hM ht ha lf_V lf_V (fun i hi => (rc_isor hC hi).2.2.1))⟩
            · skip
              refine ev_g0 rfl ?_
              refine ev_retz rfl (by first | decide | exact zb_01 _) ?_
              refine ev_gV [false] [] rfl ?_
              refine ev_retz rfl (by first | decide | exact zb_01 _) ?_
              refine ev_gV [false] [] rfl ?_
              refine ev_retz rfl (by first | decide | exact zb_01 _) ?_
              refine ev_gV [false] [] rfl ?_
              refine ev_inV 2 k_HA_53 h_SD_setN rfl rfl rfl rfl rfl ⟨by decide, by decide⟩ rfl ?_
              refine ev_gV [] [] rfl ?_
              refine ev_ret rfl ?_
              refine ev_g0 rfl ?_
              refine ev_reti rfl ?_
              refine ct_of h_MM_handles rfl rfl rfl ?_
              refine ev_g0 rfl ?_
              refine ev_inV 1 k_MM_344 h_MM_hold rfl rfl rfl rfl rfl ⟨by decide, by decide⟩ rfl ?_
              refine ev_gV [] [] rfl ?_
              refine ev_reti rfl ?_
              refine ev_gV [false] [some 12] rfl ?_
              refine ev_inV 2 k_MM_202 h_MM_isKind rfl rfl rfl rfl rfl ⟨by decide, by decide⟩ rfl ?_
              refine ev_gV [false, false, true, false] [] rfl ?_
              refine ev_inS 3 k_MM_188 h_MM_in rfl rfl rfl rfl ⟨by decide, by decide⟩ rfl ?_
              refine ev_gV [false, false] [] rfl ?_
              refine ev_retz rfl (by first | decide | exact zb_01 _) ?_
              refine ev_gV [false] [] rfl ?_
              refine ev_inS 2 k_MM_192 h_MM_isOf rfl rfl rfl rfl ⟨by decide, by decide⟩ rfl ?_
              refine ev_gV [false, false, true, false, false] [] rfl ?_
              refine ev_retz rfl (by first | decide | exact zb_01 _) ?_
              refine ev_gV [false] [] rfl ?_
              refine ev_retz rfl (by first | decide | exact zb_01 _) ?_
              refine ev_gV [false] [] rfl ?_
              refine ev_inV 2 k_MM_288 h_MM_lay rfl rfl rfl rfl rfl ⟨by decide, by decide⟩ rfl ?_
              refine ev_gV [] [] rfl ?_
              refine ev_ret rfl ?_
              refine ev_g0 rfl ?_
              refine ev_ret rfl ?_
              exact ⟨rfl, (u3 xj 0 t a ((nI 1).toInt64)), xd, xf, xo, xi, xn, nI 0, rfl, bdd, lf_V, lf_V, (CU_num hC ht ha lf_V lf_V), (MU_num hM ht ha lf_V lf_V (fun i hi => (rc_isor hC hi).2.2.1))⟩
theorem A49_10 {ci : Nat → Nat → Nat → Int32} {cn : Nat → Nat → Nat → Nat} {co : Nat → Option Nat} {xj : Nat → Nat → Nat → Int64} {xd : Nat → Nat → Nat → UInt64} {xf : Nat → Nat → Nat → UInt32} {xo : Nat → Nat → Nat → Option Nat} {xi : Nat → Nat → Nat → Int32} {xn : Nat → Nat → Nat → Nat} {K : Nat → Nat} {I : Nat → Nat → Int32} {J : Nat → Nat → Int64} {F : Nat → Nat → UInt32} {D : Nat → Nat → UInt64} {R : Nat → Nat → Option Nat} {nx sl : Nat} {Km : Nat → Nat} {Im : Nat → Nat → Int32} {Jm : Nat → Nat → Int64} {Fm : Nat → Nat → UInt32} {Dm : Nat → Nat → UInt64} {Rm : Nat → Nat → Option Nat} {nxm slm : Nat} (hC : RC ci cn co xj xd xf xo xi xn I J F D R nx sl) (hM : RM ci cn co xj xd xf xo xi xn Im Jm Dm) {t a b : Nat} {go : Int32} (ht : t < 3) (ha : a < 8) (hb : b < 8) (x1 : Im 6 39 = nI t) (x2 : Im 6 40 = nI a) (x3 : Im 6 41 = nI b) (x4 : Im 6 42 = nI 10) (x5 : Im 6 43 = nI 0) (x6 : Im 6 44 = go) : Ct Y_HA_perform [vr 1 55, vr 8 (32 + 7 * t), vi (nI 49), vi (nI a), vi (nI b), vi (nI 10)] (K, I, J, F, D, R, nx, sl) (fun r μ1 => Ct Y_MM_handles [vr 11 6, vi (nI 49)] (Km, Im, Jm, Fm, Dm, Rm, nxm, slm) (fun r2 μ2 => r2 = none ∧ QA ci cn co go r μ1 μ2)) := by
  rcases ho : xo 0 t b with _ | q
  · skip
    refine ct_of h_HA_perform rfl rfl rfl ?_
    refine ev_gV [] [some 37] rfl ?_
    refine ev_inV 1 k_HA_15 h_SD_t rfl rfl rfl rfl rfl ⟨by decide, by decide⟩ rfl ?_
    refine ev_gV [] [none] rfl ?_
    refine ev_retn rfl ?_
    refine ev_g0 rfl ?_
    refine ev_inS 4 k_HA_57 h_HA_takeAs rfl rfl rfl rfl ⟨by decide, by decide⟩ rfl ?_
    refine ev_g0 rfl ?_
    refine ev_inV 2 k_HA_21 h_SD_setT rfl rfl rfl rfl rfl ⟨by decide, by decide⟩ rfl ?_
    refine ev_gV [] [] rfl ?_
    refine ev_ret rfl ?_
    refine ev_g0 rfl ?_
    refine ev_reti rfl ?_
    refine ev_g0 rfl ?_
    refine ev_reti rfl ?_
    refine ct_of h_MM_handles rfl rfl rfl ?_
    refine ev_g0 rfl ?_
    refine ev_inV 1 k_MM_344 h_MM_hold rfl rfl rfl rfl rfl ⟨by decide, by decide⟩ rfl ?_
    refine ev_gV [] [] rfl ?_
    refine ev_reti rfl ?_
    refine ev_gV [] [some 13] rfl ?_
    refine ev_inV 2 k_MM_354 h_MM_takes rfl rfl rfl rfl rfl ⟨by decide, by decide⟩ rfl ?_
    refine ev_gV [true] [] rfl ?_
    refine ev_retz rfl (by first | decide | exact zb_01 _) ?_
    refine ev_gV [false] [] rfl ?_
    refine ev_inV 2 k_MM_336 h_MM_keep rfl rfl rfl rfl rfl ⟨by decide, by decide⟩ rfl ?_
    refine ev_gV [] [] rfl ?_
    refine ev_ret rfl ?_
    refine ev_g0 rfl ?_
    refine ev_ret rfl ?_
    exact ⟨rfl, xj, xd, xf, (u3 xo 0 t a (none)), xi, xn, nI 0, rfl, bdd, lf_V, lf_V, (CU_hol hC ht ha (fun _ h => by cases h) lf_V lf_V), (MU_hol hM ht ha lf_V lf_V (fun i hi => (rc_isor hC hi).2.2.1))⟩
  · skip
    have hq := rc_ihol hC ht hb _ ho
    have zq := rc_isor hC hq
    have yq := rc_imad hC
    refine ct_of h_HA_perform rfl rfl rfl ?_
    refine ev_gV [] [some 37] rfl ?_
    refine ev_inV 1 k_HA_15 h_SD_t rfl rfl rfl rfl rfl ⟨by decide, by decide⟩ rfl ?_
    refine ev_gV [] [some (94 + 4 * q)] rfl ?_
    refine ev_reta rfl ?_
    refine ev_g0 rfl ?_
    refine ev_inS 4 k_HA_57 h_HA_takeAs rfl rfl rfl rfl ⟨by decide, by decide⟩ rfl ?_
    refine ev_g0 rfl ?_
    refine ev_inV 1 k_HA_61 h_TH_isA rfl rfl rfl rfl rfl ⟨by decide, by decide⟩ rfl ?_
    refine ev_gV [false, false] [none] rfl ?_
    refine ev_bV rfl rfl (fun h_1 => ?_) (fun h_1 => ?_)
    · skip
      refine ev_g0 rfl ?_
      refine ev_retz rfl (by first | decide | exact zb_01 _) ?_
      refine ev_gV [false] [] rfl ?_
      refine ev_reti rfl ?_
      refine ev_g0 rfl ?_
      refine ev_reti rfl ?_
      refine ct_of h_MM_handles rfl rfl rfl ?_
      refine ev_g0 rfl ?_
      refine ev_inV 1 k_MM_344 h_MM_hold rfl rfl rfl rfl rfl ⟨by decide, by decide⟩ rfl ?_
      refine ev_gV [] [] rfl ?_
      refine ev_reti rfl ?_
      refine ev_gV [] [some 13] rfl ?_
      refine ev_inV 2 k_MM_354 h_MM_takes rfl rfl rfl rfl rfl ⟨by decide, by decide⟩ rfl ?_
      refine ev_gV [false] [] rfl ?_
      refine ev_inV 2 k_MM_202 h_MM_isKind rfl rfl rfl rfl rfl ⟨by decide, by decide⟩ rfl ?_
      refine ev_gV [false, false, true, false] [] rfl ?_
      refine ev_inS 3 k_MM_188 h_MM_in rfl rfl rfl rfl ⟨by decide, by decide⟩ rfl ?_
      refine ev_gV [true] [] rfl ?_
      refine ev_retz rfl (by first | decide | exact zb_01 _) ?_
      refine ev_gV [true] [] rfl ?_
      refine ev_retz rfl (by first | decide | exact zb_01 _) ?_
      refine ev_gV [false] [] rfl ?_
      refine ev_retz rfl (by first | decide | exact zb_01 _) ?_
      refine ev_gV [true] [] rfl ?_
      refine ev_ret rfl ?_
      exact ⟨rfl, xj, xd, xf, xo, xi, xn, nI 3, rfl, bdd, lf_V, lf_V, hC, hM⟩
    · skip
      refine ev_g0 rfl ?_
      refine ev_bV rfl rfl (fun h_2 => ?_) (fun h_2 => ?_)
      · skip
        refine ev_g0 rfl ?_
        refine ev_retz rfl (by first | decide | exact zb_01 _) ?_
        refine ev_gV [false] [] rfl ?_
        refine ev_reti rfl ?_
        refine ev_g0 rfl ?_
        refine ev_reti rfl ?_
        refine ct_of h_MM_handles rfl rfl rfl ?_
        refine ev_g0 rfl ?_
        refine ev_inV 1 k_MM_344 h_MM_hold rfl rfl rfl rfl rfl ⟨by decide, by decide⟩ rfl ?_
        refine ev_gV [] [] rfl ?_
        refine ev_reti rfl ?_
        refine ev_gV [] [some 13] rfl ?_
        refine ev_inV 2 k_MM_354 h_MM_takes rfl rfl rfl rfl rfl ⟨by decide, by decide⟩ rfl ?_
        refine ev_gV [false] [] rfl ?_
        refine ev_inV 2 k_MM_202 h_MM_isKind rfl rfl rfl rfl rfl ⟨by decide, by decide⟩ rfl ?_
        refine ev_gV [false, false, true, false] [] rfl ?_
        refine ev_inS 3 k_MM_188 h_MM_in rfl rfl rfl rfl ⟨by decide, by decide⟩ rfl ?_
        refine ev_gV [false, true] [] rfl ?_
        refine ev_retz rfl (by first | decide | exact zb_01 _) ?_
        refine ev_gV [true] [] rfl ?_
        refine ev_retz rfl (by first | decide | exact zb_01 _) ?_
        refine ev_gV [false] [] rfl ?_
        refine ev_retz rfl (by first | decide | exact zb_01 _) ?_
        refine ev_gV [true] [] rfl ?_
        refine ev_ret rfl ?_
        exact ⟨rfl, xj, xd, xf, xo, xi, xn, nI 3, rfl, bdd, lf_V, lf_V, hC, hM⟩
      · skip
        refine ev_g0 rfl ?_
        refine ev_inS 2 k_TH_77 h_TH_isUnder rfl rfl rfl rfl ⟨by decide, by decide⟩ rfl ?_
        refine ev_gV [false] [] rfl ?_
        refine ev_bV rfl rfl (fun h_3 => ?_) (fun h_3 => ?_)
        · skip
          refine ev_g0 rfl ?_
          refine ev_retz rfl (by first | decide | exact zb_01 _) ?_
          refine ev_gV [false] [] rfl ?_
          refine ev_retz rfl (by first | decide | exact zb_01 _) ?_
          refine ev_gV [true] [] rfl ?_
          refine ev_inV 2 k_HA_21 h_SD_setT rfl rfl rfl rfl rfl ⟨by decide, by decide⟩ rfl ?_
          refine ev_gV [] [] rfl ?_
          refine ev_ret rfl ?_
          refine ev_g0 rfl ?_
          refine ev_reti rfl ?_
          refine ev_g0 rfl ?_
          refine ev_reti rfl ?_
          refine ct_of h_MM_handles rfl rfl rfl ?_
          refine ev_g0 rfl ?_
          refine ev_inV 1 k_MM_344 h_MM_hold rfl rfl rfl rfl rfl ⟨by decide, by decide⟩ rfl ?_
          refine ev_gV [] [] rfl ?_
          refine ev_reti rfl ?_
          refine ev_gV [] [some 13] rfl ?_
          refine ev_inV 2 k_MM_354 h_MM_takes rfl rfl rfl rfl rfl ⟨by decide, by decide⟩ rfl ?_
          refine ev_gV [false] [] rfl ?_
          refine ev_inV 2 k_MM_202 h_MM_isKind rfl rfl rfl rfl rfl ⟨by decide, by decide⟩ rfl ?_
          refine ev_gV [false, false, true, false] [] rfl ?_
          refine ev_inS 3 k_MM_188 h_MM_in rfl rfl rfl rfl ⟨by decide, by decide⟩ rfl ?_
          refine ev_gV [false, false] [] rfl ?_
          refine ev_retz rfl (by first | decide | exact zb_01 _) ?_
          refine ev_gV [false] [] rfl ?_
          refine ev_inS 2 k_MM_192 h_MM_isOf rfl rfl rfl rfl ⟨by decide, by decide⟩ rfl ?_
          refine ev_gV [false, true] [] rfl ?_
          refine ev_retz rfl (by first | decide | exact zb_01 _) ?_
          refine ev_gV [false] [] rfl ?_
          refine ev_retz rfl (by first | decide | exact zb_01 _) ?_
          refine ev_gV [true] [] rfl ?_
          refine ev_retz rfl (by first | decide | exact zb_01 _) ?_
          refine ev_gV [false] [] rfl ?_
          refine ev_inV 2 k_MM_336 h_MM_keep rfl rfl rfl rfl rfl ⟨by decide, by decide⟩ rfl ?_
          refine ev_gV [] [] rfl ?_
          refine ev_ret rfl ?_
          refine ev_g0 rfl ?_
          refine ev_ret rfl ?_
          exact ⟨rfl, xj, xd, xf, (u3 xo 0 t a (some q)), xi, xn, nI 0, rfl, bdd, lf_V, lf_V, (CU_hol hC ht ha (fun _ h => by cases h; exact hq) lf_V lf_V), (MU_hol hM ht ha lf_V lf_V (fun i hi => (rc_isor hC hi).2.2.1))⟩
        · skip
          refine ev_g0 rfl ?_
          refine ev_bV rfl rfl (fun h_4 => ?_) (fun h_4 => ?_)
          · skip
            refine ev_g0 rfl ?_
            refine ev_retz rfl (by first | decide | exact zb_01 _) ?_
            refine ev_gV [true] [] rfl ?_
            refine ev_retz rfl (by first | decide | exact zb_01 _) ?_
            refine ev_gV [false] [] rfl ?_
            refine ev_reti rfl ?_
            refine ev_g0 rfl ?_
            refine ev_reti rfl ?_
            refine ct_of h_MM_handles rfl rfl rfl ?_
            refine ev_g0 rfl ?_
            refine ev_inV 1 k_MM_344 h_MM_hold rfl rfl rfl rfl rfl ⟨by decide, by decide⟩ rfl ?_
            refine ev_gV [] [] rfl ?_
            refine ev_reti rfl ?_
            refine ev_gV [] [some 13] rfl ?_
            refine ev_inV 2 k_MM_354 h_MM_takes rfl rfl rfl rfl rfl ⟨by decide, by decide⟩ rfl ?_
            refine ev_gV [false] [] rfl ?_
            refine ev_inV 2 k_MM_202 h_MM_isKind rfl rfl rfl rfl rfl ⟨by decide, by decide⟩ rfl ?_
            refine ev_gV [false, false, true, false] [] rfl ?_
            refine ev_inS 3 k_MM_188 h_MM_in rfl rfl rfl rfl ⟨by decide, by decide⟩ rfl ?_
            refine ev_gV [false, false] [] rfl ?_
            refine ev_retz rfl (by first | decide | exact zb_01 _) ?_
            refine ev_gV [false] [] rfl ?_
            refine ev_inS 2 k_MM_192 h_MM_isOf rfl rfl rfl rfl ⟨by decide, by decide⟩ rfl ?_
            refine ev_gV [false, false, true, false, true] [] rfl ?_
            refine ev_retz rfl (by first | decide | exact zb_01 _) ?_
            refine ev_gV [true] [] rfl ?_
            refine ev_retz rfl (by first | decide | exact zb_01 _) ?_
            refine ev_gV [false] [] rfl ?_
            refine ev_retz rfl (by first | decide | exact zb_01 _) ?_
            refine ev_gV [true] [] rfl ?_
            refine ev_ret rfl ?_
            exact ⟨rfl, xj, xd, xf, xo, xi, xn, nI 3, rfl, bdd, lf_V, lf_V, hC, hM⟩
          · skip
            refine ev_g0 rfl ?_
            refine ev_bV rfl rfl (fun h_5 => ?_) (fun h_5 => ?_)
            · skip
              refine ev_g0 rfl ?_
              refine ev_retz rfl (by first | decide | exact zb_01 _) ?_
              refine ev_gV [true] [] rfl ?_
              refine ev_retz rfl (by first | decide | exact zb_01 _) ?_
              refine ev_gV [false] [] rfl ?_
              refine ev_reti rfl ?_
              refine ev_g0 rfl ?_
              refine ev_reti rfl ?_
              refine ct_of h_MM_handles rfl rfl rfl ?_
              refine ev_g0 rfl ?_
              refine ev_inV 1 k_MM_344 h_MM_hold rfl rfl rfl rfl rfl ⟨by decide, by decide⟩ rfl ?_
              refine ev_gV [] [] rfl ?_
              refine ev_reti rfl ?_
              refine ev_gV [] [some 13] rfl ?_
              refine ev_inV 2 k_MM_354 h_MM_takes rfl rfl rfl rfl rfl ⟨by decide, by decide⟩ rfl ?_
              refine ev_gV [false] [] rfl ?_
              refine ev_inV 2 k_MM_202 h_MM_isKind rfl rfl rfl rfl rfl ⟨by decide, by decide⟩ rfl ?_
              refine ev_gV [false, false, true, false] [] rfl ?_
              refine ev_inS 3 k_MM_188 h_MM_in rfl rfl rfl rfl ⟨by decide, by decide⟩ rfl ?_
              refine ev_gV [false, false] [] rfl ?_
              refine ev_retz rfl (by first | decide | exact zb_01 _) ?_
              refine ev_gV [false] [] rfl ?_
              refine ev_inS 2 k_MM_192 h_MM_isOf rfl rfl rfl rfl ⟨by decide, by decide⟩ rfl ?_
              refine ev_gV [false, false, true, false, true] [] rfl ?_
              refine ev_retz rfl (by first | decide | exact zb_01 _) ?_
              refine ev_gV [true] [] rfl ?_
              refine ev_retz rfl (by first | decide | exact zb_01 _) ?_
              refine ev_gV [false] [] rfl ?_
              refine ev_retz rfl (by first | decide | exact zb_01 _) ?_
              refine ev_gV [true] [] rfl ?_
              refine ev_ret rfl ?_
              exact ⟨rfl, xj, xd, xf, xo, xi, xn, nI 3, rfl, bdd, lf_V, lf_V, hC, hM⟩
            · skip
              refine ev_g0 rfl ?_
              refine ev_retz rfl (by first | decide | exact zb_01 _) ?_
              refine ev_gV [false] [] rfl ?_
              refine ev_retz rfl (by first | decide | exact zb_01 _) ?_
              refine ev_gV [true] [] rfl ?_
              refine ev_inV 2 k_HA_21 h_SD_setT rfl rfl rfl rfl rfl ⟨by decide, by decide⟩ rfl ?_
              refine ev_gV [] [] rfl ?_
              refine ev_ret rfl ?_
              refine ev_g0 rfl ?_
              refine ev_reti rfl ?_
              refine ev_g0 rfl ?_
              refine ev_reti rfl ?_
              refine ct_of h_MM_handles rfl rfl rfl ?_
              refine ev_g0 rfl ?_
              refine ev_inV 1 k_MM_344 h_MM_hold rfl rfl rfl rfl rfl ⟨by decide, by decide⟩ rfl ?_
              refine ev_gV [] [] rfl ?_
              refine ev_reti rfl ?_
              refine ev_gV [] [some 13] rfl ?_
              refine ev_inV 2 k_MM_354 h_MM_takes rfl rfl rfl rfl rfl ⟨by decide, by decide⟩ rfl ?_
              refine ev_gV [false] [] rfl ?_
              refine ev_inV 2 k_MM_202 h_MM_isKind rfl rfl rfl rfl rfl ⟨by decide, by decide⟩ rfl ?_
              refine ev_gV [false, false, true, false] [] rfl ?_
              refine ev_inS 3 k_MM_188 h_MM_in rfl rfl rfl rfl ⟨by decide, by decide⟩ rfl ?_
              refine ev_gV [false, false] [] rfl ?_
              refine ev_retz rfl (by first | decide | exact zb_01 _) ?_
              refine ev_gV [false] [] rfl ?_
              refine ev_inS 2 k_MM_192 h_MM_isOf rfl rfl rfl rfl ⟨by decide, by decide⟩ rfl ?_
              refine ev_gV [false, false, true, false, false] [] rfl ?_
              refine ev_retz rfl (by first | decide | exact zb_01 _) ?_
              refine ev_gV [false] [] rfl ?_
              refine ev_retz rfl (by first | decide | exact zb_01 _) ?_
              refine ev_gV [true] [] rfl ?_
              refine ev_retz rfl (by first | decide | exact zb_01 _) ?_
              refine ev_gV [false] [] rfl ?_
              refine ev_inV 2 k_MM_336 h_MM_keep rfl rfl rfl rfl rfl ⟨by decide, by decide⟩ rfl ?_
              refine ev_gV [] [] rfl ?_
              refine ev_ret rfl ?_
              refine ev_g0 rfl ?_
              refine ev_ret rfl ?_
              exact ⟨rfl, xj, xd, xf, (u3 xo 0 t a (some q)), xi, xn, nI 0, rfl, bdd, lf_V, lf_V, (CU_hol hC ht ha (fun _ h => by cases h; exact hq) lf_V lf_V), (MU_hol hM ht ha lf_V lf_V (fun i hi => (rc_isor hC hi).2.2.1))⟩
theorem A48_11 {ci : Nat → Nat → Nat → Int32} {cn : Nat → Nat → Nat → Nat} {co : Nat → Option Nat} {xj : Nat → Nat → Nat → Int64} {xd : Nat → Nat → Nat → UInt64} {xf : Nat → Nat → Nat → UInt32} {xo : Nat → Nat → Nat → Option Nat} {xi : Nat → Nat → Nat → Int32} {xn : Nat → Nat → Nat → Nat} {K : Nat → Nat} {I : Nat → Nat → Int32} {J : Nat → Nat → Int64} {F : Nat → Nat → UInt32} {D : Nat → Nat → UInt64} {R : Nat → Nat → Option Nat} {nx sl : Nat} {Km : Nat → Nat} {Im : Nat → Nat → Int32} {Jm : Nat → Nat → Int64} {Fm : Nat → Nat → UInt32} {Dm : Nat → Nat → UInt64} {Rm : Nat → Nat → Option Nat} {nxm slm : Nat} (hC : RC ci cn co xj xd xf xo xi xn I J F D R nx sl) (hM : RM ci cn co xj xd xf xo xi xn Im Jm Dm) {t a b : Nat} {go : Int32} (ht : t < 3) (ha : a < 8) (hb : b < 8) (x1 : Im 6 39 = nI t) (x2 : Im 6 40 = nI a) (x3 : Im 6 41 = nI b) (x4 : Im 6 42 = nI 11) (x5 : Im 6 43 = nI 0) (x6 : Im 6 44 = go) : Ct Y_HA_perform [vr 1 55, vr 8 (32 + 7 * t), vi (nI 48), vi (nI a), vi (nI b), vi (nI 11)] (K, I, J, F, D, R, nx, sl) (fun r μ1 => Ct Y_MM_handles [vr 11 6, vi (nI 48)] (Km, Im, Jm, Fm, Dm, Rm, nxm, slm) (fun r2 μ2 => r2 = none ∧ QA ci cn co go r μ1 μ2)) := by
  rcases ho : xo 0 t b with _ | q
  · skip
    refine ct_of h_HA_perform rfl rfl rfl ?_
    refine ev_gV [] [some 36] rfl ?_
    refine ev_inV 1 k_HA_15 h_SD_t rfl rfl rfl rfl rfl ⟨by decide, by decide⟩ rfl ?_
    refine ev_gV [] [none] rfl ?_
    refine ev_retn rfl ?_
    refine ev_g0 rfl ?_
    refine ev_inS 2 k_HA_49 h_HA_isA rfl rfl rfl rfl ⟨by decide, by decide⟩ rfl ?_
    refine ev_g0 rfl ?_
    refine ev_retz rfl (by first | decide | exact zb_01 _) ?_
    refine ev_gV [true] [] rfl ?_
    refine ev_inV 2 k_HA_53 h_SD_setN rfl rfl rfl rfl rfl ⟨by decide, by decide⟩ rfl ?_
    refine ev_gV [] [] rfl ?_
    refine ev_ret rfl ?_
    refine ev_g0 rfl ?_
    refine ev_reti rfl ?_
    refine ct_of h_MM_handles rfl rfl rfl ?_
    refine ev_g0 rfl ?_
    refine ev_inV 1 k_MM_344 h_MM_hold rfl rfl rfl rfl rfl ⟨by decide, by decide⟩ rfl ?_
    refine ev_gV [] [] rfl ?_
    refine ev_reti rfl ?_
    refine ev_gV [true] [some 12] rfl ?_
    refine ev_inV 2 k_MM_288 h_MM_lay rfl rfl rfl rfl rfl ⟨by decide, by decide⟩ rfl ?_
    refine ev_gV [] [] rfl ?_
    refine ev_ret rfl ?_
    refine ev_g0 rfl ?_
    refine ev_ret rfl ?_
    exact ⟨rfl, (u3 xj 0 t a ((nI 0).toInt64)), xd, xf, xo, xi, xn, nI 0, rfl, bdd, lf_V, lf_V, (CU_num hC ht ha lf_V lf_V), (MU_num hM ht ha lf_V lf_V (fun i hi => (rc_isor hC hi).2.2.1))⟩
  · skip
    have hq := rc_ihol hC ht hb _ ho
    have zq := rc_isor hC hq
    have yq := rc_imad hC
    refine ct_of h_HA_perform rfl rfl rfl ?_
    refine ev_gV [] [some 36] rfl ?_
    refine ev_inV 1 k_HA_15 h_SD_t rfl rfl rfl rfl rfl ⟨by decide, by decide⟩ rfl ?_
    refine ev_gV [] [some (94 + 4 * q)] rfl ?_
    refine ev_reta rfl ?_
    refine ev_g0 rfl ?_
    refine ev_inS 2 k_HA_49 h_HA_isA rfl rfl rfl rfl ⟨by decide, by decide⟩ rfl ?_
    refine ev_g0 rfl ?_
    refine ev_inV 1 k_HA_61 h_TH_isA rfl rfl rfl rfl rfl ⟨by decide, by decide⟩ rfl ?_
    refine ev_gV [false, false] [none] rfl ?_
    refine ev_bV rfl rfl (fun h_1 => ?_) (fun h_1 => ?_)
    · skip
      refine ev_g0 rfl ?_
      refine ev_retz rfl (by first | decide | exact zb_01 _) ?_
      refine ev_gV [true] [] rfl ?_
      refine ev_retz rfl (by first | decide | exact zb_01 _) ?_
      refine ev_gV [true] [] rfl ?_
      refine ev_inV 2 k_HA_53 h_SD_setN rfl rfl rfl rfl rfl ⟨by decide, by decide⟩ rfl ?_
      refine ev_gV [] [] rfl ?_
      refine ev_ret rfl ?_
      refine ev_g0 rfl ?_
      refine ev_reti rfl ?_
      refine ct_of h_MM_handles rfl rfl rfl ?_
      refine ev_g0 rfl ?_
      refine ev_inV 1 k_MM_344 h_MM_hold rfl rfl rfl rfl rfl ⟨by decide, by decide⟩ rfl ?_
      refine ev_gV [] [] rfl ?_
      refine ev_reti rfl ?_
      refine ev_gV [false] [some 12] rfl ?_
      refine ev_inV 2 k_MM_202 h_MM_isKind rfl rfl rfl rfl rfl ⟨by decide, by decide⟩ rfl ?_
      refine ev_gV [false, false, true, false] [] rfl ?_
      refine ev_inS 3 k_MM_188 h_MM_in rfl rfl rfl rfl ⟨by decide, by decide⟩ rfl ?_
      refine ev_gV [true] [] rfl ?_
      refine ev_retz rfl (by first | decide | exact zb_01 _) ?_
      refine ev_gV [true] [] rfl ?_
      refine ev_retz rfl (by first | decide | exact zb_01 _) ?_
      refine ev_gV [true] [] rfl ?_
      refine ev_inV 2 k_MM_288 h_MM_lay rfl rfl rfl rfl rfl ⟨by decide, by decide⟩ rfl ?_
      refine ev_gV [] [] rfl ?_
      refine ev_ret rfl ?_
      refine ev_g0 rfl ?_
      refine ev_ret rfl ?_
      exact ⟨rfl, (u3 xj 0 t a ((nI 0).toInt64)), xd, xf, xo, xi, xn, nI 0, rfl, bdd, lf_V, lf_V, (CU_num hC ht ha lf_V lf_V), (MU_num hM ht ha lf_V lf_V (fun i hi => (rc_isor hC hi).2.2.1))⟩
    · skip
      refine ev_g0 rfl ?_
      refine ev_bV rfl rfl (fun h_2 => ?_) (fun h_2 => ?_)
      · skip
        refine ev_g0 rfl ?_
        refine ev_retz rfl (by first | decide | exact zb_01 _) ?_
        refine ev_gV [true] [] rfl ?_
        refine ev_retz rfl (by first | decide | exact zb_01 _) ?_
        refine ev_gV [true] [] rfl ?_
        refine ev_inV 2 k_HA_53 h_SD_setN rfl rfl rfl rfl rfl ⟨by decide, by decide⟩ rfl ?_
        refine ev_gV [] [] rfl ?_
        refine ev_ret rfl ?_
        refine ev_g0 rfl ?_
        refine ev_reti rfl ?_
        refine ct_of h_MM_handles rfl rfl rfl ?_
        refine ev_g0 rfl ?_
        refine ev_inV 1 k_MM_344 h_MM_hold rfl rfl rfl rfl rfl ⟨by decide, by decide⟩ rfl ?_
        refine ev_gV [] [] rfl ?_
        refine ev_reti rfl ?_
        refine ev_gV [false] [some 12] rfl ?_
        refine ev_inV 2 k_MM_202 h_MM_isKind rfl rfl rfl rfl rfl ⟨by decide, by decide⟩ rfl ?_
        refine ev_gV [false, false, true, false] [] rfl ?_
        refine ev_inS 3 k_MM_188 h_MM_in rfl rfl rfl rfl ⟨by decide, by decide⟩ rfl ?_
        refine ev_gV [false, true] [] rfl ?_
        refine ev_retz rfl (by first | decide | exact zb_01 _) ?_
        refine ev_gV [true] [] rfl ?_
        refine ev_retz rfl (by first | decide | exact zb_01 _) ?_
        refine ev_gV [true] [] rfl ?_
        refine ev_inV 2 k_MM_288 h_MM_lay rfl rfl rfl rfl rfl ⟨by decide, by decide⟩ rfl ?_
        refine ev_gV [] [] rfl ?_
        refine ev_ret rfl ?_
        refine ev_g0 rfl ?_
        refine ev_ret rfl ?_
        exact ⟨rfl, (u3 xj 0 t a ((nI 0).toInt64)), xd, xf, xo, xi, xn, nI 0, rfl, bdd, lf_V, lf_V, (CU_num hC ht ha lf_V lf_V), (MU_num hM ht ha lf_V lf_V (fun i hi => (rc_isor hC hi).2.2.1))⟩
      · skip
        refine ev_g0 rfl ?_
        refine ev_inS 2 k_TH_77 h_TH_isUnder rfl rfl rfl rfl ⟨by decide, by decide⟩ rfl ?_
        refine ev_gV [false] [] rfl ?_
        refine ev_bV rfl rfl (fun h_3 => ?_) (fun h_3 => ?_)
        · skip
          refine ev_g0 rfl ?_
          refine ev_retz rfl (by first | decide | exact zb_01 _) ?_
          refine ev_gV [false] [] rfl ?_
          refine ev_retz rfl (by first | decide | exact zb_01 _) ?_
          refine ev_gV [false] [] rfl ?_
          refine ev_retz rfl (by first | decide | exact zb_01 _) ?_
          refine ev_gV [false] [] rfl ?_
          refine ev_inV 2 k_HA_53 h_SD_setN rfl rfl rfl rfl rfl ⟨by decide, by decide⟩ rfl ?_
          refine ev_gV [] [] rfl ?_
          refine ev_ret rfl ?_
          refine ev_g0 rfl ?_
          refine ev_reti rfl ?_
          refine ct_of h_MM_handles rfl rfl rfl ?_
          refine ev_g0 rfl ?_
          refine ev_inV 1 k_MM_344 h_MM_hold rfl rfl rfl rfl rfl ⟨by decide, by decide⟩ rfl ?_
          refine ev_gV [] [] rfl ?_
          refine ev_reti rfl ?_
          refine ev_gV [false] [some 12] rfl ?_
          refine ev_inV 2 k_MM_202 h_MM_isKind rfl rfl rfl rfl rfl ⟨by decide, by decide⟩ rfl ?_
          refine ev_gV [false, false, true, false] [] rfl ?_
          refine ev_inS 3 k_MM_188 h_MM_in rfl rfl rfl rfl ⟨by decide, by decide⟩ rfl ?_
          refine ev_gV [false, false] [] rfl ?_
          refine ev_retz rfl (by first | decide | exact zb_01 _) ?_
          refine ev_gV [false] [] rfl ?_
          refine ev_inS 2 k_MM_192 h_MM_isOf rfl rfl rfl rfl ⟨by decide, by decide⟩ rfl ?_
          refine ev_gV [false, true] [] rfl ?_
          refine ev_retz rfl (by first | decide | exact zb_01 _) ?_
          refine ev_gV [false] [] rfl ?_
          refine ev_retz rfl (by first | decide | exact zb_01 _) ?_
          refine ev_gV [false] [] rfl ?_
          refine ev_inV 2 k_MM_288 h_MM_lay rfl rfl rfl rfl rfl ⟨by decide, by decide⟩ rfl ?_
          refine ev_gV [] [] rfl ?_
          refine ev_ret rfl ?_
          refine ev_g0 rfl ?_
          refine ev_ret rfl ?_
          exact ⟨rfl, (u3 xj 0 t a ((nI 1).toInt64)), xd, xf, xo, xi, xn, nI 0, rfl, bdd, lf_V, lf_V, (CU_num hC ht ha lf_V lf_V), (MU_num hM ht ha lf_V lf_V (fun i hi => (rc_isor hC hi).2.2.1))⟩
        · skip
          refine ev_g0 rfl ?_
          refine ev_bV rfl rfl (fun h_4 => ?_) (fun h_4 => ?_)
          · skip
            refine ev_g0 rfl ?_
            refine ev_retz rfl (by first | decide | exact zb_01 _) ?_
            refine ev_gV [true] [] rfl ?_
            refine ev_retz rfl (by first | decide | exact zb_01 _) ?_
            refine ev_gV [true] [] rfl ?_
            refine ev_retz rfl (by first | decide | exact zb_01 _) ?_
            refine ev_gV [true] [] rfl ?_
            refine ev_inV 2 k_HA_53 h_SD_setN rfl rfl rfl rfl rfl ⟨by decide, by decide⟩ rfl ?_
            refine ev_gV [] [] rfl ?_
            refine ev_ret rfl ?_
            refine ev_g0 rfl ?_
            refine ev_reti rfl ?_
            refine ct_of h_MM_handles rfl rfl rfl ?_
            refine ev_g0 rfl ?_
            refine ev_inV 1 k_MM_344 h_MM_hold rfl rfl rfl rfl rfl ⟨by decide, by decide⟩ rfl ?_
            refine ev_gV [] [] rfl ?_
            refine ev_reti rfl ?_
            refine ev_gV [false] [some 12] rfl ?_
            refine ev_inV 2 k_MM_202 h_MM_isKind rfl rfl rfl rfl rfl ⟨by decide, by decide⟩ rfl ?_
            refine ev_gV [false, false, true, false] [] rfl ?_
            refine ev_inS 3 k_MM_188 h_MM_in rfl rfl rfl rfl ⟨by decide, by decide⟩ rfl ?_
            refine ev_gV [false, false] [] rfl ?_
            refine ev_retz rfl (by first | decide | exact zb_01 _) ?_
            refine ev_gV [false] [] rfl ?_
            refine ev_inS 2 k_MM_192 h_MM_isOf rfl rfl rfl rfl ⟨by decide, by decide⟩ rfl ?_
            refine ev_gV [false, false, true, true] [] rfl ?_
            refine ev_retz rfl (by first | decide | exact zb_01 _) ?_
            refine ev_gV [true] [] rfl ?_
            refine ev_retz rfl (by first | decide | exact zb_01 _) ?_
            refine ev_gV [true] [] rfl ?_
            refine ev_inV 2 k_MM_288 h_MM_lay rfl rfl rfl rfl rfl ⟨by decide, by decide⟩ rfl ?_
            refine ev_gV [] [] rfl ?_
            refine ev_ret rfl ?_
            refine ev_g0 rfl ?_
            refine ev_ret rfl ?_
            exact ⟨rfl, (u3 xj 0 t a ((nI 0).toInt64)), xd, xf, xo, xi, xn, nI 0, rfl, bdd, lf_V, lf_V, (CU_num hC ht ha lf_V lf_V), (MU_num hM ht ha lf_V lf_V (fun i hi => (rc_isor hC hi).2.2.1))⟩
          · skip
            refine ev_gV [true] [] rfl ?_
            refine ev_retz rfl (by first | decide | exact zb_01 _) ?_
            refine ev_gV [true] [] rfl ?_
            refine ev_retz rfl (by first | decide | exact zb_01 _) ?_
            refine ev_gV [true] [] rfl ?_
            refine ev_retz rfl (by first | decide | exact zb_01 _) ?_
            refine ev_gV [true] [] rfl ?_
            refine ev_inV 2 k_HA_53 h_SD_setN rfl rfl rfl rfl rfl ⟨by decide, by decide⟩ rfl ?_
            refine ev_gV [] [] rfl ?_
            refine ev_ret rfl ?_
            refine ev_g0 rfl ?_
            refine ev_reti rfl ?_
            refine ct_of h_MM_handles rfl rfl rfl ?_
            refine ev_g0 rfl ?_
            refine ev_inV 1 k_MM_344 h_MM_hold rfl rfl rfl rfl rfl ⟨by decide, by decide⟩ rfl ?_
            refine ev_gV [] [] rfl ?_
            refine ev_reti rfl ?_
            refine ev_gV [false] [some 12] rfl ?_
            refine ev_inV 2 k_MM_202 h_MM_isKind rfl rfl rfl rfl rfl ⟨by decide, by decide⟩ rfl ?_
            refine ev_gV [false, false, true, false] [] rfl ?_
            refine ev_inS 3 k_MM_188 h_MM_in rfl rfl rfl rfl ⟨by decide, by decide⟩ rfl ?_
            refine ev_gV [false, false] [] rfl ?_
            refine ev_retz rfl (by first | decide | exact zb_01 _) ?_
            refine ev_gV [false] [] rfl ?_
            refine ev_inS 2 k_MM_192 h_MM_isOf rfl rfl rfl rfl ⟨by decide, by decide⟩ rfl ?_
            refine ev_gV [false, false, true, true] [] rfl ?_
            refine ev_retz rfl (by first | decide | exact zb_01 _) ?_
            refine ev_gV [true] [] rfl ?_
            refine ev_retz rfl (by first | decide | exact zb_01 _) ?_
            refine ev_gV [true] [] rfl ?_
            refine ev_inV 2 k_MM_288 h_MM_lay rfl rfl rfl rfl rfl ⟨by decide, by decide⟩ rfl ?_
            refine ev_gV [] [] rfl ?_
            refine ev_ret rfl ?_
            refine ev_g0 rfl ?_
            refine ev_ret rfl ?_
            exact ⟨rfl, (u3 xj 0 t a ((nI 0).toInt64)), xd, xf, xo, xi, xn, nI 0, rfl, bdd, lf_V, lf_V, (CU_num hC ht ha lf_V lf_V), (MU_num hM ht ha lf_V lf_V (fun i hi => (rc_isor hC hi).2.2.1))⟩
theorem A49_11 {ci : Nat → Nat → Nat → Int32} {cn : Nat → Nat → Nat → Nat} {co : Nat → Option Nat} {xj : Nat → Nat → Nat → Int64} {xd : Nat → Nat → Nat → UInt64} {xf : Nat → Nat → Nat → UInt32} {xo : Nat → Nat → Nat → Option Nat} {xi : Nat → Nat → Nat → Int32} {xn : Nat → Nat → Nat → Nat} {K : Nat → Nat} {I : Nat → Nat → Int32} {J : Nat → Nat → Int64} {F : Nat → Nat → UInt32} {D : Nat → Nat → UInt64} {R : Nat → Nat → Option Nat} {nx sl : Nat} {Km : Nat → Nat} {Im : Nat → Nat → Int32} {Jm : Nat → Nat → Int64} {Fm : Nat → Nat → UInt32} {Dm : Nat → Nat → UInt64} {Rm : Nat → Nat → Option Nat} {nxm slm : Nat} (hC : RC ci cn co xj xd xf xo xi xn I J F D R nx sl) (hM : RM ci cn co xj xd xf xo xi xn Im Jm Dm) {t a b : Nat} {go : Int32} (ht : t < 3) (ha : a < 8) (hb : b < 8) (x1 : Im 6 39 = nI t) (x2 : Im 6 40 = nI a) (x3 : Im 6 41 = nI b) (x4 : Im 6 42 = nI 11) (x5 : Im 6 43 = nI 0) (x6 : Im 6 44 = go) : Ct Y_HA_perform [vr 1 55, vr 8 (32 + 7 * t), vi (nI 49), vi (nI a), vi (nI b), vi (nI 11)] (K, I, J, F, D, R, nx, sl) (fun r μ1 => Ct Y_MM_handles [vr 11 6, vi (nI 49)] (Km, Im, Jm, Fm, Dm, Rm, nxm, slm) (fun r2 μ2 => r2 = none ∧ QA ci cn co go r μ1 μ2)) := by
  rcases ho : xo 0 t b with _ | q
  · skip
    refine ct_of h_HA_perform rfl rfl rfl ?_
    refine ev_gV [] [some 37] rfl ?_
    refine ev_inV 1 k_HA_15 h_SD_t rfl rfl rfl rfl rfl ⟨by decide, by decide⟩ rfl ?_
    refine ev_gV [] [none] rfl ?_
    refine ev_retn rfl ?_
    refine ev_g0 rfl ?_
    refine ev_inS 4 k_HA_57 h_HA_takeAs rfl rfl rfl rfl ⟨by decide, by decide⟩ rfl ?_
    refine ev_g0 rfl ?_
    refine ev_inV 2 k_HA_21 h_SD_setT rfl rfl rfl rfl rfl ⟨by decide, by decide⟩ rfl ?_
    refine ev_gV [] [] rfl ?_
    refine ev_ret rfl ?_
    refine ev_g0 rfl ?_
    refine ev_reti rfl ?_
    refine ev_g0 rfl ?_
    refine ev_reti rfl ?_
    refine ct_of h_MM_handles rfl rfl rfl ?_
    refine ev_g0 rfl ?_
    refine ev_inV 1 k_MM_344 h_MM_hold rfl rfl rfl rfl rfl ⟨by decide, by decide⟩ rfl ?_
    refine ev_gV [] [] rfl ?_
    refine ev_reti rfl ?_
    refine ev_gV [] [some 13] rfl ?_
    refine ev_inV 2 k_MM_354 h_MM_takes rfl rfl rfl rfl rfl ⟨by decide, by decide⟩ rfl ?_
    refine ev_gV [true] [] rfl ?_
    refine ev_retz rfl (by first | decide | exact zb_01 _) ?_
    refine ev_gV [false] [] rfl ?_
    refine ev_inV 2 k_MM_336 h_MM_keep rfl rfl rfl rfl rfl ⟨by decide, by decide⟩ rfl ?_
    refine ev_gV [] [] rfl ?_
    refine ev_ret rfl ?_
    refine ev_g0 rfl ?_
    refine ev_ret rfl ?_
    exact ⟨rfl, xj, xd, xf, (u3 xo 0 t a (none)), xi, xn, nI 0, rfl, bdd, lf_V, lf_V, (CU_hol hC ht ha (fun _ h => by cases h) lf_V lf_V), (MU_hol hM ht ha lf_V lf_V (fun i hi => (rc_isor hC hi).2.2.1))⟩
  · skip
    have hq := rc_ihol hC ht hb _ ho
    have zq := rc_isor hC hq
    have yq := rc_imad hC
    refine ct_of h_HA_perform rfl rfl rfl ?_
    refine ev_gV [] [some 37] rfl ?_
    refine ev_inV 1 k_HA_15 h_SD_t rfl rfl rfl rfl rfl ⟨by decide, by decide⟩ rfl ?_
    refine ev_gV [] [some (94 + 4 * q)] rfl ?_
    refine ev_reta rfl ?_
    refine ev_g0 rfl ?_
    refine ev_inS 4 k_HA_57 h_HA_takeAs rfl rfl rfl rfl ⟨by decide, by decide⟩ rfl ?_
    refine ev_g0 rfl ?_
    refine ev_inV 1 k_HA_61 h_TH_isA rfl rfl rfl rfl rfl ⟨by decide, by decide⟩ rfl ?_
    refine ev_gV [false, false] [none] rfl ?_
    refine ev_bV rfl rfl (fun h_1 => ?_) (fun h_1 => ?_)
    · skip
      refine ev_g0 rfl ?_
      refine ev_retz rfl (by first | decide | exact zb_01 _) ?_
      refine ev_gV [false] [] rfl ?_
      refine ev_reti rfl ?_
      refine ev_g0 rfl ?_
      refine ev_reti rfl ?_
      refine ct_of h_MM_handles rfl rfl rfl ?_
      refine ev_g0 rfl ?_
      refine ev_inV 1 k_MM_344 h_MM_hold rfl rfl rfl rfl rfl ⟨by decide, by decide⟩ rfl ?_
      refine ev_gV [] [] rfl ?_
      refine ev_reti rfl ?_
      refine ev_gV [] [some 13] rfl ?_
      refine ev_inV 2 k_MM_354 h_MM_takes rfl rfl rfl rfl rfl ⟨by decide, by decide⟩ rfl ?_
      refine ev_gV [false] [] rfl ?_
      refine ev_inV 2 k_MM_202 h_MM_isKind rfl rfl rfl rfl rfl ⟨by decide, by decide⟩ rfl ?_
      refine ev_gV [false, false, true, false] [] rfl ?_
      refine ev_inS 3 k_MM_188 h_MM_in rfl rfl rfl rfl ⟨by decide, by decide⟩ rfl ?_
      refine ev_gV [true] [] rfl ?_
      refine ev_retz rfl (by first | decide | exact zb_01 _) ?_
      refine ev_gV [true] [] rfl ?_
      refine ev_retz rfl (by first | decide | exact zb_01 _) ?_
      refine ev_gV [false] [] rfl ?_
      refine ev_retz rfl (by first | decide | exact zb_01 _) ?_
      refine ev_gV [true] [] rfl ?_
      refine ev_ret rfl ?_
      exact ⟨rfl, xj, xd, xf, xo, xi, xn, nI 3, rfl, bdd, lf_V, lf_V, hC, hM⟩
    · skip
      refine ev_g0 rfl ?_
      refine ev_bV rfl rfl (fun h_2 => ?_) (fun h_2 => ?_)
      · skip
        refine ev_g0 rfl ?_
        refine ev_retz rfl (by first | decide | exact zb_01 _) ?_
        refine ev_gV [false] [] rfl ?_
        refine ev_reti rfl ?_
        refine ev_g0 rfl ?_
        refine ev_reti rfl ?_
        refine ct_of h_MM_handles rfl rfl rfl ?_
        refine ev_g0 rfl ?_
        refine ev_inV 1 k_MM_344 h_MM_hold rfl rfl rfl rfl rfl ⟨by decide, by decide⟩ rfl ?_
        refine ev_gV [] [] rfl ?_
        refine ev_reti rfl ?_
        refine ev_gV [] [some 13] rfl ?_
        refine ev_inV 2 k_MM_354 h_MM_takes rfl rfl rfl rfl rfl ⟨by decide, by decide⟩ rfl ?_
        refine ev_gV [false] [] rfl ?_
        refine ev_inV 2 k_MM_202 h_MM_isKind rfl rfl rfl rfl rfl ⟨by decide, by decide⟩ rfl ?_
        refine ev_gV [false, false, true, false] [] rfl ?_
        refine ev_inS 3 k_MM_188 h_MM_in rfl rfl rfl rfl ⟨by decide, by decide⟩ rfl ?_
        refine ev_gV [false, true] [] rfl ?_
        refine ev_retz rfl (by first | decide | exact zb_01 _) ?_
        refine ev_gV [true] [] rfl ?_
        refine ev_retz rfl (by first | decide | exact zb_01 _) ?_
        refine ev_gV [false] [] rfl ?_
        refine ev_retz rfl (by first | decide | exact zb_01 _) ?_
        refine ev_gV [true] [] rfl ?_
        refine ev_ret rfl ?_
        exact ⟨rfl, xj, xd, xf, xo, xi, xn, nI 3, rfl, bdd, lf_V, lf_V, hC, hM⟩
      · skip
        refine ev_g0 rfl ?_
        refine ev_inS 2 k_TH_77 h_TH_isUnder rfl rfl rfl rfl ⟨by decide, by decide⟩ rfl ?_
        refine ev_gV [false] [] rfl ?_
        refine ev_bV rfl rfl (fun h_3 => ?_) (fun h_3 => ?_)
        · skip
          refine ev_g0 rfl ?_
          refine ev_retz rfl (by first | decide | exact zb_01 _) ?_
          refine ev_gV [false] [] rfl ?_
          refine ev_retz rfl (by first | decide | exact zb_01 _) ?_
          refine ev_gV [true] [] rfl ?_
          refine ev_inV 2 k_HA_21 h_SD_setT rfl rfl rfl rfl rfl ⟨by decide, by decide⟩ rfl ?_
          refine ev_gV [] [] rfl ?_
          refine ev_ret rfl ?_
          refine ev_g0 rfl ?_
          refine ev_reti rfl ?_
          refine ev_g0 rfl ?_
          refine ev_reti rfl ?_
          refine ct_of h_MM_handles rfl rfl rfl ?_
          refine ev_g0 rfl ?_
          refine ev_inV 1 k_MM_344 h_MM_hold rfl rfl rfl rfl rfl ⟨by decide, by decide⟩ rfl ?_
          refine ev_gV [] [] rfl ?_
          refine ev_reti rfl ?_
          refine ev_gV [] [some 13] rfl ?_
          refine ev_inV 2 k_MM_354 h_MM_takes rfl rfl rfl rfl rfl ⟨by decide, by decide⟩ rfl ?_
          refine ev_gV [false] [] rfl ?_
          refine ev_inV 2 k_MM_202 h_MM_isKind rfl rfl rfl rfl rfl ⟨by decide, by decide⟩ rfl ?_
          refine ev_gV [false, false, true, false] [] rfl ?_
          refine ev_inS 3 k_MM_188 h_MM_in rfl rfl rfl rfl ⟨by decide, by decide⟩ rfl ?_
          refine ev_gV [false, false] [] rfl ?_
          refine ev_retz rfl (by first | decide | exact zb_01 _) ?_
          refine ev_gV [false] [] rfl ?_
          refine ev_inS 2 k_MM_192 h_MM_isOf rfl rfl rfl rfl ⟨by decide, by decide⟩ rfl ?_
          refine ev_gV [false, true] [] rfl ?_
          refine ev_retz rfl (by first | decide | exact zb_01 _) ?_
          refine ev_gV [false] [] rfl ?_
          refine ev_retz rfl (by first | decide | exact zb_01 _) ?_
          refine ev_gV [true] [] rfl ?_
          refine ev_retz rfl (by first | decide | exact zb_01 _) ?_
          refine ev_gV [false] [] rfl ?_
          refine ev_inV 2 k_MM_336 h_MM_keep rfl rfl rfl rfl rfl ⟨by decide, by decide⟩ rfl ?_
          refine ev_gV [] [] rfl ?_
          refine ev_ret rfl ?_
          refine ev_g0 rfl ?_
          refine ev_ret rfl ?_
          exact ⟨rfl, xj, xd, xf, (u3 xo 0 t a (some q)), xi, xn, nI 0, rfl, bdd, lf_V, lf_V, (CU_hol hC ht ha (fun _ h => by cases h; exact hq) lf_V lf_V), (MU_hol hM ht ha lf_V lf_V (fun i hi => (rc_isor hC hi).2.2.1))⟩
        · skip
          refine ev_g0 rfl ?_
          refine ev_bV rfl rfl (fun h_4 => ?_) (fun h_4 => ?_)
          · skip
            refine ev_g0 rfl ?_
            refine ev_retz rfl (by first | decide | exact zb_01 _) ?_
            refine ev_gV [true] [] rfl ?_
            refine ev_retz rfl (by first | decide | exact zb_01 _) ?_
            refine ev_gV [false] [] rfl ?_
            refine ev_reti rfl ?_
            refine ev_g0 rfl ?_
            refine ev_reti rfl ?_
            refine ct_of h_MM_handles rfl rfl rfl ?_
            refine ev_g0 rfl ?_
            refine ev_inV 1 k_MM_344 h_MM_hold rfl rfl rfl rfl rfl ⟨by decide, by decide⟩ rfl ?_
            refine ev_gV [] [] rfl ?_
            refine ev_reti rfl ?_
            refine ev_gV [] [some 13] rfl ?_
            refine ev_inV 2 k_MM_354 h_MM_takes rfl rfl rfl rfl rfl ⟨by decide, by decide⟩ rfl ?_
            refine ev_gV [false] [] rfl ?_
            refine ev_inV 2 k_MM_202 h_MM_isKind rfl rfl rfl rfl rfl ⟨by decide, by decide⟩ rfl ?_
            refine ev_gV [false, false, true, false] [] rfl ?_
            refine ev_inS 3 k_MM_188 h_MM_in rfl rfl rfl rfl ⟨by decide, by decide⟩ rfl ?_
            refine ev_gV [false, false] [] rfl ?_
            refine ev_retz rfl (by first | decide | exact zb_01 _) ?_
            refine ev_gV [false] [] rfl ?_
            refine ev_inS 2 k_MM_192 h_MM_isOf rfl rfl rfl rfl ⟨by decide, by decide⟩ rfl ?_
            refine ev_gV [false, false, true, true] [] rfl ?_
            refine ev_retz rfl (by first | decide | exact zb_01 _) ?_
            refine ev_gV [true] [] rfl ?_
            refine ev_retz rfl (by first | decide | exact zb_01 _) ?_
            refine ev_gV [false] [] rfl ?_
            refine ev_retz rfl (by first | decide | exact zb_01 _) ?_
            refine ev_gV [true] [] rfl ?_
            refine ev_ret rfl ?_
            exact ⟨rfl, xj, xd, xf, xo, xi, xn, nI 3, rfl, bdd, lf_V, lf_V, hC, hM⟩
          · skip
            refine ev_gV [true] [] rfl ?_
            refine ev_retz rfl (by first | decide | exact zb_01 _) ?_
            refine ev_gV [true] [] rfl ?_
            refine ev_retz rfl (by first | decide | exact zb_01 _) ?_
            refine ev_gV [false] [] rfl ?_
            refine ev_reti rfl ?_
            refine ev_g0 rfl ?_
            refine ev_reti rfl ?_
            refine ct_of h_MM_handles rfl rfl rfl ?_
            refine ev_g0 rfl ?_
            refine ev_inV 1 k_MM_344 h_MM_hold rfl rfl rfl rfl rfl ⟨by decide, by decide⟩ rfl ?_
            refine ev_gV [] [] rfl ?_
            refine ev_reti rfl ?_
            refine ev_gV [] [some 13] rfl ?_
            refine ev_inV 2 k_MM_354 h_MM_takes rfl rfl rfl rfl rfl ⟨by decide, by decide⟩ rfl ?_
            refine ev_gV [false] [] rfl ?_
            refine ev_inV 2 k_MM_202 h_MM_isKind rfl rfl rfl rfl rfl ⟨by decide, by decide⟩ rfl ?_
            refine ev_gV [false, false, true, false] [] rfl ?_
            refine ev_inS 3 k_MM_188 h_MM_in rfl rfl rfl rfl ⟨by decide, by decide⟩ rfl ?_
            refine ev_gV [false, false] [] rfl ?_
            refine ev_retz rfl (by first | decide | exact zb_01 _) ?_
            refine ev_gV [false] [] rfl ?_
            refine ev_inS 2 k_MM_192 h_MM_isOf rfl rfl rfl rfl ⟨by decide, by decide⟩ rfl ?_
            refine ev_gV [false, false, true, true] [] rfl ?_
            refine ev_retz rfl (by first | decide | exact zb_01 _) ?_
            refine ev_gV [true] [] rfl ?_
            refine ev_retz rfl (by first | decide | exact zb_01 _) ?_
            refine ev_gV [false] [] rfl ?_
            refine ev_retz rfl (by first | decide | exact zb_01 _) ?_
            refine ev_gV [true] [] rfl ?_
            refine ev_ret rfl ?_
            exact ⟨rfl, xj, xd, xf, xo, xi, xn, nI 3, rfl, bdd, lf_V, lf_V, hC, hM⟩
theorem A48_12 {ci : Nat → Nat → Nat → Int32} {cn : Nat → Nat → Nat → Nat} {co : Nat → Option Nat} {xj : Nat → Nat → Nat → Int64} {xd : Nat → Nat → Nat → UInt64} {xf : Nat → Nat → Nat → UInt32} {xo : Nat → Nat → Nat → Option Nat} {xi : Nat → Nat → Nat → Int32} {xn : Nat → Nat → Nat → Nat} {K : Nat → Nat} {I : Nat → Nat → Int32} {J : Nat → Nat → Int64} {F : Nat → Nat → UInt32} {D : Nat → Nat → UInt64} {R : Nat → Nat → Option Nat} {nx sl : Nat} {Km : Nat → Nat} {Im : Nat → Nat → Int32} {Jm : Nat → Nat → Int64} {Fm : Nat → Nat → UInt32} {Dm : Nat → Nat → UInt64} {Rm : Nat → Nat → Option Nat} {nxm slm : Nat} (hC : RC ci cn co xj xd xf xo xi xn I J F D R nx sl) (hM : RM ci cn co xj xd xf xo xi xn Im Jm Dm) {t a b : Nat} {go : Int32} (ht : t < 3) (ha : a < 8) (hb : b < 8) (x1 : Im 6 39 = nI t) (x2 : Im 6 40 = nI a) (x3 : Im 6 41 = nI b) (x4 : Im 6 42 = nI 12) (x5 : Im 6 43 = nI 0) (x6 : Im 6 44 = go) : Ct Y_HA_perform [vr 1 55, vr 8 (32 + 7 * t), vi (nI 48), vi (nI a), vi (nI b), vi (nI 12)] (K, I, J, F, D, R, nx, sl) (fun r μ1 => Ct Y_MM_handles [vr 11 6, vi (nI 48)] (Km, Im, Jm, Fm, Dm, Rm, nxm, slm) (fun r2 μ2 => r2 = none ∧ QA ci cn co go r μ1 μ2)) := by
  rcases ho : xo 0 t b with _ | q
  · skip
    refine ct_of h_HA_perform rfl rfl rfl ?_
    refine ev_gV [] [some 36] rfl ?_
    refine ev_inV 1 k_HA_15 h_SD_t rfl rfl rfl rfl rfl ⟨by decide, by decide⟩ rfl ?_
    refine ev_gV [] [none] rfl ?_
    refine ev_retn rfl ?_
    refine ev_g0 rfl ?_
    refine ev_inS 2 k_HA_49 h_HA_isA rfl rfl rfl rfl ⟨by decide, by decide⟩ rfl ?_
    refine ev_g0 rfl ?_
    refine ev_retz rfl (by first | decide | exact zb_01 _) ?_
    refine ev_gV [true] [] rfl ?_
    refine ev_inV 2 k_HA_53 h_SD_setN rfl rfl rfl rfl rfl ⟨by decide, by decide⟩ rfl ?_
    refine ev_gV [] [] rfl ?_
    refine ev_ret rfl ?_
    refine ev_g0 rfl ?_
    refine ev_reti rfl ?_
    refine ct_of h_MM_handles rfl rfl rfl ?_
    refine ev_g0 rfl ?_
    refine ev_inV 1 k_MM_344 h_MM_hold rfl rfl rfl rfl rfl ⟨by decide, by decide⟩ rfl ?_
    refine ev_gV [] [] rfl ?_
    refine ev_reti rfl ?_
    refine ev_gV [true] [some 12] rfl ?_
    refine ev_inV 2 k_MM_288 h_MM_lay rfl rfl rfl rfl rfl ⟨by decide, by decide⟩ rfl ?_
    refine ev_gV [] [] rfl ?_
    refine ev_ret rfl ?_
    refine ev_g0 rfl ?_
    refine ev_ret rfl ?_
    exact ⟨rfl, (u3 xj 0 t a ((nI 0).toInt64)), xd, xf, xo, xi, xn, nI 0, rfl, bdd, lf_V, lf_V, (CU_num hC ht ha lf_V lf_V), (MU_num hM ht ha lf_V lf_V (fun i hi => (rc_isor hC hi).2.2.1))⟩
  · skip
    have hq := rc_ihol hC ht hb _ ho
    have zq := rc_isor hC hq
    have yq := rc_imad hC
    refine ct_of h_HA_perform rfl rfl rfl ?_
    refine ev_gV [] [some 36] rfl ?_
    refine ev_inV 1 k_HA_15 h_SD_t rfl rfl rfl rfl rfl ⟨by decide, by decide⟩ rfl ?_
    refine ev_gV [] [some (94 + 4 * q)] rfl ?_
    refine ev_reta rfl ?_
    refine ev_g0 rfl ?_
    refine ev_inS 2 k_HA_49 h_HA_isA rfl rfl rfl rfl ⟨by decide, by decide⟩ rfl ?_
    refine ev_g0 rfl ?_
    refine ev_inV 1 k_HA_61 h_TH_isA rfl rfl rfl rfl rfl ⟨by decide, by decide⟩ rfl ?_
    refine ev_gV [false, false] [none] rfl ?_
    refine ev_bV rfl rfl (fun h_1 => ?_) (fun h_1 => ?_)
    · skip
      refine ev_g0 rfl ?_
      refine ev_retz rfl (by first | decide | exact zb_01 _) ?_
      refine ev_gV [true] [] rfl ?_
      refine ev_retz rfl (by first | decide | exact zb_01 _) ?_
      refine ev_gV [true] [] rfl ?_
      refine ev_inV 2 k_HA_53 h_SD_setN rfl rfl rfl rfl rfl ⟨by decide, by decide⟩ rfl ?_
      refine ev_gV [] [] rfl ?_
      refine ev_ret rfl ?_
      refine ev_g0 rfl ?_
      refine ev_reti rfl ?_
      refine ct_of h_MM_handles rfl rfl rfl ?_
      refine ev_g0 rfl ?_
      refine ev_inV 1 k_MM_344 h_MM_hold rfl rfl rfl rfl rfl ⟨by decide, by decide⟩ rfl ?_
      refine ev_gV [] [] rfl ?_
      refine ev_reti rfl ?_
      refine ev_gV [false] [some 12] rfl ?_
      refine ev_inV 2 k_MM_202 h_MM_isKind rfl rfl rfl rfl rfl ⟨by decide, by decide⟩ rfl ?_
      refine ev_gV [false, false, true, false] [] rfl ?_
      refine ev_inS 3 k_MM_188 h_MM_in rfl rfl rfl rfl ⟨by decide, by decide⟩ rfl ?_
      refine ev_gV [true] [] rfl ?_
      refine ev_retz rfl (by first | decide | exact zb_01 _) ?_
      refine ev_gV [true] [] rfl ?_
      refine ev_retz rfl (by first | decide | exact zb_01 _) ?_
      refine ev_gV [true] [] rfl ?_
      refine ev_inV 2 k_MM_288 h_MM_lay rfl rfl rfl rfl rfl ⟨by decide, by decide⟩ rfl ?_
      refine ev_gV [] [] rfl ?_
      refine ev_ret rfl ?_
      refine ev_g0 rfl ?_
      refine ev_ret rfl ?_
      exact ⟨rfl, (u3 xj 0 t a ((nI 0).toInt64)), xd, xf, xo, xi, xn, nI 0, rfl, bdd, lf_V, lf_V, (CU_num hC ht ha lf_V lf_V), (MU_num hM ht ha lf_V lf_V (fun i hi => (rc_isor hC hi).2.2.1))⟩
    · skip
      refine ev_g0 rfl ?_
      refine ev_bV rfl rfl (fun h_2 => ?_) (fun h_2 => ?_)
      · skip
        refine ev_g0 rfl ?_
        refine ev_retz rfl (by first | decide | exact zb_01 _) ?_
        refine ev_gV [true] [] rfl ?_
        refine ev_retz rfl (by first | decide | exact zb_01 _) ?_
        refine ev_gV [true] [] rfl ?_
        refine ev_inV 2 k_HA_53 h_SD_setN rfl rfl rfl rfl rfl ⟨by decide, by decide⟩ rfl ?_
        refine ev_gV [] [] rfl ?_
        refine ev_ret rfl ?_
        refine ev_g0 rfl ?_
        refine ev_reti rfl ?_
        refine ct_of h_MM_handles rfl rfl rfl ?_
        refine ev_g0 rfl ?_
        refine ev_inV 1 k_MM_344 h_MM_hold rfl rfl rfl rfl rfl ⟨by decide, by decide⟩ rfl ?_
        refine ev_gV [] [] rfl ?_
        refine ev_reti rfl ?_
        refine ev_gV [false] [some 12] rfl ?_
        refine ev_inV 2 k_MM_202 h_MM_isKind rfl rfl rfl rfl rfl ⟨by decide, by decide⟩ rfl ?_
        refine ev_gV [false, false, true, false] [] rfl ?_
        refine ev_inS 3 k_MM_188 h_MM_in rfl rfl rfl rfl ⟨by decide, by decide⟩ rfl ?_
        refine ev_gV [false, true] [] rfl ?_
        refine ev_retz rfl (by first | decide | exact zb_01 _) ?_
        refine ev_gV [true] [] rfl ?_
        refine ev_retz rfl (by first | decide | exact zb_01 _) ?_
        refine ev_gV [true] [] rfl ?_
        refine ev_inV 2 k_MM_288 h_MM_lay rfl rfl rfl rfl rfl ⟨by decide, by decide⟩ rfl ?_
        refine ev_gV [] [] rfl ?_
        refine ev_ret rfl ?_
        refine ev_g0 rfl ?_
        refine ev_ret rfl ?_
        exact ⟨rfl, (u3 xj 0 t a ((nI 0).toInt64)), xd, xf, xo, xi, xn, nI 0, rfl, bdd, lf_V, lf_V, (CU_num hC ht ha lf_V lf_V), (MU_num hM ht ha lf_V lf_V (fun i hi => (rc_isor hC hi).2.2.1))⟩
      · skip
        refine ev_g0 rfl ?_
        refine ev_inS 2 k_TH_77 h_TH_isUnder rfl rfl rfl rfl ⟨by decide, by decide⟩ rfl ?_
        refine ev_gV [false] [] rfl ?_
        refine ev_bV rfl rfl (fun h_3 => ?_) (fun h_3 => ?_)
        · skip
          refine ev_g0 rfl ?_
          refine ev_retz rfl (by first | decide | exact zb_01 _) ?_
          refine ev_gV [false] [] rfl ?_
          refine ev_retz rfl (by first | decide | exact zb_01 _) ?_
          refine ev_gV [false] [] rfl ?_
          refine ev_retz rfl (by first | decide | exact zb_01 _) ?_
          refine ev_gV [false] [] rfl ?_
          refine ev_inV 2 k_HA_53 h_SD_setN rfl rfl rfl rfl rfl ⟨by decide, by decide⟩ rfl ?_
          refine ev_gV [] [] rfl ?_
          refine ev_ret rfl ?_
          refine ev_g0 rfl ?_
          refine ev_reti rfl ?_
          refine ct_of h_MM_handles rfl rfl rfl ?_
          refine ev_g0 rfl ?_
          refine ev_inV 1 k_MM_344 h_MM_hold rfl rfl rfl rfl rfl ⟨by decide, by decide⟩ rfl ?_
          refine ev_gV [] [] rfl ?_
          refine ev_reti rfl ?_
          refine ev_gV [false] [some 12] rfl ?_
          refine ev_inV 2 k_MM_202 h_MM_isKind rfl rfl rfl rfl rfl ⟨by decide, by decide⟩ rfl ?_
          refine ev_gV [false, false, true, false] [] rfl ?_
          refine ev_inS 3 k_MM_188 h_MM_in rfl rfl rfl rfl ⟨by decide, by decide⟩ rfl ?_
          refine ev_gV [false, false] [] rfl ?_
          refine ev_retz rfl (by first | decide | exact zb_01 _) ?_
          refine ev_gV [false] [] rfl ?_
          refine ev_inS 2 k_MM_192 h_MM_isOf rfl rfl rfl rfl ⟨by decide, by decide⟩ rfl ?_
          refine ev_gV [false, true] [] rfl ?_
          refine ev_retz rfl (by first | decide | exact zb_01 _) ?_
          refine ev_gV [false] [] rfl ?_
          refine ev_retz rfl (by first | decide | exact zb_01 _) ?_
          refine ev_gV [false] [] rfl ?_
          refine ev_inV 2 k_MM_288 h_MM_lay rfl rfl rfl rfl rfl ⟨by decide, by decide⟩ rfl ?_
          refine ev_gV [] [] rfl ?_
          refine ev_ret rfl ?_
          refine ev_g0 rfl ?_
          refine ev_ret rfl ?_
          exact ⟨rfl, (u3 xj 0 t a ((nI 1).toInt64)), xd, xf, xo, xi, xn, nI 0, rfl, bdd, lf_V, lf_V, (CU_num hC ht ha lf_V lf_V), (MU_num hM ht ha lf_V lf_V (fun i hi => (rc_isor hC hi).2.2.1))⟩
        · skip
          refine ev_gV [true] [] rfl ?_
          refine ev_retz rfl (by first | decide | exact zb_01 _) ?_
          refine ev_gV [true] [] rfl ?_
          refine ev_retz rfl (by first | decide | exact zb_01 _) ?_
          refine ev_gV [true] [] rfl ?_
          refine ev_retz rfl (by first | decide | exact zb_01 _) ?_
          refine ev_gV [true] [] rfl ?_
          refine ev_inV 2 k_HA_53 h_SD_setN rfl rfl rfl rfl rfl ⟨by decide, by decide⟩ rfl ?_
          refine ev_gV [] [] rfl ?_
          refine ev_ret rfl ?_
          refine ev_g0 rfl ?_
          refine ev_reti rfl ?_
          refine ct_of h_MM_handles rfl rfl rfl ?_
          refine ev_g0 rfl ?_
          refine ev_inV 1 k_MM_344 h_MM_hold rfl rfl rfl rfl rfl ⟨by decide, by decide⟩ rfl ?_
          refine ev_gV [] [] rfl ?_
          refine ev_reti rfl ?_
          refine ev_gV [false] [some 12] rfl ?_
          refine ev_inV 2 k_MM_202 h_MM_isKind rfl rfl rfl rfl rfl ⟨by decide, by decide⟩ rfl ?_
          refine ev_gV [false, false, true, false] [] rfl ?_
          refine ev_inS 3 k_MM_188 h_MM_in rfl rfl rfl rfl ⟨by decide, by decide⟩ rfl ?_
          refine ev_gV [false, false] [] rfl ?_
          refine ev_retz rfl (by first | decide | exact zb_01 _) ?_
          refine ev_gV [false] [] rfl ?_
          refine ev_inS 2 k_MM_192 h_MM_isOf rfl rfl rfl rfl ⟨by decide, by decide⟩ rfl ?_
          refine ev_gV [false, false, true, true] [] rfl ?_
          refine ev_retz rfl (by first | decide | exact zb_01 _) ?_
          refine ev_gV [true] [] rfl ?_
          refine ev_retz rfl (by first | decide | exact zb_01 _) ?_
          refine ev_gV [true] [] rfl ?_
          refine ev_inV 2 k_MM_288 h_MM_lay rfl rfl rfl rfl rfl ⟨by decide, by decide⟩ rfl ?_
          refine ev_gV [] [] rfl ?_
          refine ev_ret rfl ?_
          refine ev_g0 rfl ?_
          refine ev_ret rfl ?_
          exact ⟨rfl, (u3 xj 0 t a ((nI 0).toInt64)), xd, xf, xo, xi, xn, nI 0, rfl, bdd, lf_V, lf_V, (CU_num hC ht ha lf_V lf_V), (MU_num hM ht ha lf_V lf_V (fun i hi => (rc_isor hC hi).2.2.1))⟩
theorem A49_12 {ci : Nat → Nat → Nat → Int32} {cn : Nat → Nat → Nat → Nat} {co : Nat → Option Nat} {xj : Nat → Nat → Nat → Int64} {xd : Nat → Nat → Nat → UInt64} {xf : Nat → Nat → Nat → UInt32} {xo : Nat → Nat → Nat → Option Nat} {xi : Nat → Nat → Nat → Int32} {xn : Nat → Nat → Nat → Nat} {K : Nat → Nat} {I : Nat → Nat → Int32} {J : Nat → Nat → Int64} {F : Nat → Nat → UInt32} {D : Nat → Nat → UInt64} {R : Nat → Nat → Option Nat} {nx sl : Nat} {Km : Nat → Nat} {Im : Nat → Nat → Int32} {Jm : Nat → Nat → Int64} {Fm : Nat → Nat → UInt32} {Dm : Nat → Nat → UInt64} {Rm : Nat → Nat → Option Nat} {nxm slm : Nat} (hC : RC ci cn co xj xd xf xo xi xn I J F D R nx sl) (hM : RM ci cn co xj xd xf xo xi xn Im Jm Dm) {t a b : Nat} {go : Int32} (ht : t < 3) (ha : a < 8) (hb : b < 8) (x1 : Im 6 39 = nI t) (x2 : Im 6 40 = nI a) (x3 : Im 6 41 = nI b) (x4 : Im 6 42 = nI 12) (x5 : Im 6 43 = nI 0) (x6 : Im 6 44 = go) : Ct Y_HA_perform [vr 1 55, vr 8 (32 + 7 * t), vi (nI 49), vi (nI a), vi (nI b), vi (nI 12)] (K, I, J, F, D, R, nx, sl) (fun r μ1 => Ct Y_MM_handles [vr 11 6, vi (nI 49)] (Km, Im, Jm, Fm, Dm, Rm, nxm, slm) (fun r2 μ2 => r2 = none ∧ QA ci cn co go r μ1 μ2)) := by
  rcases ho : xo 0 t b with _ | q
  · skip
    refine ct_of h_HA_perform rfl rfl rfl ?_
    refine ev_gV [] [some 37] rfl ?_
    refine ev_inV 1 k_HA_15 h_SD_t rfl rfl rfl rfl rfl ⟨by decide, by decide⟩ rfl ?_
    refine ev_gV [] [none] rfl ?_
    refine ev_retn rfl ?_
    refine ev_g0 rfl ?_
    refine ev_inS 4 k_HA_57 h_HA_takeAs rfl rfl rfl rfl ⟨by decide, by decide⟩ rfl ?_
    refine ev_g0 rfl ?_
    refine ev_inV 2 k_HA_21 h_SD_setT rfl rfl rfl rfl rfl ⟨by decide, by decide⟩ rfl ?_
    refine ev_gV [] [] rfl ?_
    refine ev_ret rfl ?_
    refine ev_g0 rfl ?_
    refine ev_reti rfl ?_
    refine ev_g0 rfl ?_
    refine ev_reti rfl ?_
    refine ct_of h_MM_handles rfl rfl rfl ?_
    refine ev_g0 rfl ?_
    refine ev_inV 1 k_MM_344 h_MM_hold rfl rfl rfl rfl rfl ⟨by decide, by decide⟩ rfl ?_
    refine ev_gV [] [] rfl ?_
    refine ev_reti rfl ?_
    refine ev_gV [] [some 13] rfl ?_
    refine ev_inV 2 k_MM_354 h_MM_takes rfl rfl rfl rfl rfl ⟨by decide, by decide⟩ rfl ?_
    refine ev_gV [true] [] rfl ?_
    refine ev_retz rfl (by first | decide | exact zb_01 _) ?_
    refine ev_gV [false] [] rfl ?_
    refine ev_inV 2 k_MM_336 h_MM_keep rfl rfl rfl rfl rfl ⟨by decide, by decide⟩ rfl ?_
    refine ev_gV [] [] rfl ?_
    refine ev_ret rfl ?_
    refine ev_g0 rfl ?_
    refine ev_ret rfl ?_
    exact ⟨rfl, xj, xd, xf, (u3 xo 0 t a (none)), xi, xn, nI 0, rfl, bdd, lf_V, lf_V, (CU_hol hC ht ha (fun _ h => by cases h) lf_V lf_V), (MU_hol hM ht ha lf_V lf_V (fun i hi => (rc_isor hC hi).2.2.1))⟩
  · skip
    have hq := rc_ihol hC ht hb _ ho
    have zq := rc_isor hC hq
    have yq := rc_imad hC
    refine ct_of h_HA_perform rfl rfl rfl ?_
    refine ev_gV [] [some 37] rfl ?_
    refine ev_inV 1 k_HA_15 h_SD_t rfl rfl rfl rfl rfl ⟨by decide, by decide⟩ rfl ?_
    refine ev_gV [] [some (94 + 4 * q)] rfl ?_
    refine ev_reta rfl ?_
    refine ev_g0 rfl ?_
    refine ev_inS 4 k_HA_57 h_HA_takeAs rfl rfl rfl rfl ⟨by decide, by decide⟩ rfl ?_
    refine ev_g0 rfl ?_
    refine ev_inV 1 k_HA_61 h_TH_isA rfl rfl rfl rfl rfl ⟨by decide, by decide⟩ rfl ?_
    refine ev_gV [false, false] [none] rfl ?_
    refine ev_bV rfl rfl (fun h_1 => ?_) (fun h_1 => ?_)
    · skip
      refine ev_g0 rfl ?_
      refine ev_retz rfl (by first | decide | exact zb_01 _) ?_
      refine ev_gV [false] [] rfl ?_
      refine ev_reti rfl ?_
      refine ev_g0 rfl ?_
      refine ev_reti rfl ?_
      refine ct_of h_MM_handles rfl rfl rfl ?_
      refine ev_g0 rfl ?_
      refine ev_inV 1 k_MM_344 h_MM_hold rfl rfl rfl rfl rfl ⟨by decide, by decide⟩ rfl ?_
      refine ev_gV [] [] rfl ?_
      refine ev_reti rfl ?_
      refine ev_gV [] [some 13] rfl ?_
      refine ev_inV 2 k_MM_354 h_MM_takes rfl rfl rfl rfl rfl ⟨by decide, by decide⟩ rfl ?_
      refine ev_gV [false] [] rfl ?_
      refine ev_inV 2 k_MM_202 h_MM_isKind rfl rfl rfl rfl rfl ⟨by decide, by decide⟩ rfl ?_
      refine ev_gV [false, false, true, false] [] rfl ?_
      refine ev_inS 3 k_MM_188 h_MM_in rfl rfl rfl rfl ⟨by decide, by decide⟩ rfl ?_
      refine ev_gV [true] [] rfl ?_
      refine ev_retz rfl (by first | decide | exact zb_01 _) ?_
      refine ev_gV [true] [] rfl ?_
      refine ev_retz rfl (by first | decide | exact zb_01 _) ?_
      refine ev_gV [false] [] rfl ?_
      refine ev_retz rfl (by first | decide | exact zb_01 _) ?_
      refine ev_gV [true] [] rfl ?_
      refine ev_ret rfl ?_
      exact ⟨rfl, xj, xd, xf, xo, xi, xn, nI 3, rfl, bdd, lf_V, lf_V, hC, hM⟩
    · skip
      refine ev_g0 rfl ?_
      refine ev_bV rfl rfl (fun h_2 => ?_) (fun h_2 => ?_)
      · skip
        refine ev_g0 rfl ?_
        refine ev_retz rfl (by first | decide | exact zb_01 _) ?_
        refine ev_gV [false] [] rfl ?_
        refine ev_reti rfl ?_
        refine ev_g0 rfl ?_
        refine ev_reti rfl ?_
        refine ct_of h_MM_handles rfl rfl rfl ?_
        refine ev_g0 rfl ?_
        refine ev_inV 1 k_MM_344 h_MM_hold rfl rfl rfl rfl rfl ⟨by decide, by decide⟩ rfl ?_
        refine ev_gV [] [] rfl ?_
        refine ev_reti rfl ?_
        refine ev_gV [] [some 13] rfl ?_
        refine ev_inV 2 k_MM_354 h_MM_takes rfl rfl rfl rfl rfl ⟨by decide, by decide⟩ rfl ?_
        refine ev_gV [false] [] rfl ?_
        refine ev_inV 2 k_MM_202 h_MM_isKind rfl rfl rfl rfl rfl ⟨by decide, by decide⟩ rfl ?_
        refine ev_gV [false, false, true, false] [] rfl ?_
        refine ev_inS 3 k_MM_188 h_MM_in rfl rfl rfl rfl ⟨by decide, by decide⟩ rfl ?_
        refine ev_gV [false, true] [] rfl ?_
        refine ev_retz rfl (by first | decide | exact zb_01 _) ?_
        refine ev_gV [true] [] rfl ?_
        refine ev_retz rfl (by first | decide | exact zb_01 _) ?_
        refine ev_gV [false] [] rfl ?_
        refine ev_retz rfl (by first | decide | exact zb_01 _) ?_
        refine ev_gV [true] [] rfl ?_
        refine ev_ret rfl ?_
        exact ⟨rfl, xj, xd, xf, xo, xi, xn, nI 3, rfl, bdd, lf_V, lf_V, hC, hM⟩
      · skip
        refine ev_g0 rfl ?_
        refine ev_inS 2 k_TH_77 h_TH_isUnder rfl rfl rfl rfl ⟨by decide, by decide⟩ rfl ?_
        refine ev_gV [false] [] rfl ?_
        refine ev_bV rfl rfl (fun h_3 => ?_) (fun h_3 => ?_)
        · skip
          refine ev_g0 rfl ?_
          refine ev_retz rfl (by first | decide | exact zb_01 _) ?_
          refine ev_gV [false] [] rfl ?_
          refine ev_retz rfl (by first | decide | exact zb_01 _) ?_
          refine ev_gV [true] [] rfl ?_
          refine ev_inV 2 k_HA_21 h_SD_setT rfl rfl rfl rfl rfl ⟨by decide, by decide⟩ rfl ?_
          refine ev_gV [] [] rfl ?_
          refine ev_ret rfl ?_
          refine ev_g0 rfl ?_
          refine ev_reti rfl ?_
          refine ev_g0 rfl ?_
          refine ev_reti rfl ?_
          refine ct_of h_MM_handles rfl rfl rfl ?_
          refine ev_g0 rfl ?_
          refine ev_inV 1 k_MM_344 h_MM_hold rfl rfl rfl rfl rfl ⟨by decide, by decide⟩ rfl ?_
          refine ev_gV [] [] rfl ?_
          refine ev_reti rfl ?_
          refine ev_gV [] [some 13] rfl ?_
          refine ev_inV 2 k_MM_354 h_MM_takes rfl rfl rfl rfl rfl ⟨by decide, by decide⟩ rfl ?_
          refine ev_gV [false] [] rfl ?_
          refine ev_inV 2 k_MM_202 h_MM_isKind rfl rfl rfl rfl rfl ⟨by decide, by decide⟩ rfl ?_
          refine ev_gV [false, false, true, false] [] rfl ?_
          refine ev_inS 3 k_MM_188 h_MM_in rfl rfl rfl rfl ⟨by decide, by decide⟩ rfl ?_
          refine ev_gV [false, false] [] rfl ?_
          refine ev_retz rfl (by first | decide | exact zb_01 _) ?_
          refine ev_gV [false] [] rfl ?_
          refine ev_inS 2 k_MM_192 h_MM_isOf rfl rfl rfl rfl ⟨by decide, by decide⟩ rfl ?_
          refine ev_gV [false, true] [] rfl ?_
          refine ev_retz rfl (by first | decide | exact zb_01 _) ?_
          refine ev_gV [false] [] rfl ?_
          refine ev_retz rfl (by first | decide | exact zb_01 _) ?_
          refine ev_gV [true] [] rfl ?_
          refine ev_retz rfl (by first | decide | exact zb_01 _) ?_
          refine ev_gV [false] [] rfl ?_
          refine ev_inV 2 k_MM_336 h_MM_keep rfl rfl rfl rfl rfl ⟨by decide, by decide⟩ rfl ?_
          refine ev_gV [] [] rfl ?_
          refine ev_ret rfl ?_
          refine ev_g0 rfl ?_
          refine ev_ret rfl ?_
          exact ⟨rfl, xj, xd, xf, (u3 xo 0 t a (some q)), xi, xn, nI 0, rfl, bdd, lf_V, lf_V, (CU_hol hC ht ha (fun _ h => by cases h; exact hq) lf_V lf_V), (MU_hol hM ht ha lf_V lf_V (fun i hi => (rc_isor hC hi).2.2.1))⟩
        · skip
          refine ev_gV [true] [] rfl ?_
          refine ev_retz rfl (by first | decide | exact zb_01 _) ?_
          refine ev_gV [true] [] rfl ?_
          refine ev_retz rfl (by first | decide | exact zb_01 _) ?_
          refine ev_gV [false] [] rfl ?_
          refine ev_reti rfl ?_
          refine ev_g0 rfl ?_
          refine ev_reti rfl ?_
          refine ct_of h_MM_handles rfl rfl rfl ?_
          refine ev_g0 rfl ?_
          refine ev_inV 1 k_MM_344 h_MM_hold rfl rfl rfl rfl rfl ⟨by decide, by decide⟩ rfl ?_
          refine ev_gV [] [] rfl ?_
          refine ev_reti rfl ?_
          refine ev_gV [] [some 13] rfl ?_
          refine ev_inV 2 k_MM_354 h_MM_takes rfl rfl rfl rfl rfl ⟨by decide, by decide⟩ rfl ?_
          refine ev_gV [false] [] rfl ?_
          refine ev_inV 2 k_MM_202 h_MM_isKind rfl rfl rfl rfl rfl ⟨by decide, by decide⟩ rfl ?_
          refine ev_gV [false, false, true, false] [] rfl ?_
          refine ev_inS 3 k_MM_188 h_MM_in rfl rfl rfl rfl ⟨by decide, by decide⟩ rfl ?_
          refine ev_gV [false, false] [] rfl ?_
          refine ev_retz rfl (by first | decide | exact zb_01 _) ?_
          refine ev_gV [false] [] rfl ?_
          refine ev_inS 2 k_MM_192 h_MM_isOf rfl rfl rfl rfl ⟨by decide, by decide⟩ rfl ?_
          refine ev_gV [false, false, true, true] [] rfl ?_
          refine ev_retz rfl (by first | decide | exact zb_01 _) ?_
          refine ev_gV [true] [] rfl ?_
          refine ev_retz rfl (by first | decide | exact zb_01 _) ?_
          refine ev_gV [false] [] rfl ?_
          refine ev_retz rfl (by first | decide | exact zb_01 _) ?_
          refine ev_gV [true] [] rfl ?_
          refine ev_ret rfl ?_
          exact ⟨rfl, xj, xd, xf, xo, xi, xn, nI 3, rfl, bdd, lf_V, lf_V, hC, hM⟩
theorem A48_13 {ci : Nat → Nat → Nat → Int32} {cn : Nat → Nat → Nat → Nat} {co : Nat → Option Nat} {xj : Nat → Nat → Nat → Int64} {xd : Nat → Nat → Nat → UInt64} {xf : Nat → Nat → Nat → UInt32} {xo : Nat → Nat → Nat → Option Nat} {xi : Nat → Nat → Nat → Int32} {xn : Nat → Nat → Nat → Nat} {K : Nat → Nat} {I : Nat → Nat → Int32} {J : Nat → Nat → Int64} {F : Nat → Nat → UInt32} {D : Nat → Nat → UInt64} {R : Nat → Nat → Option Nat} {nx sl : Nat} {Km : Nat → Nat} {Im : Nat → Nat → Int32} {Jm : Nat → Nat → Int64} {Fm : Nat → Nat → UInt32} {Dm : Nat → Nat → UInt64} {Rm : Nat → Nat → Option Nat} {nxm slm : Nat} (hC : RC ci cn co xj xd xf xo xi xn I J F D R nx sl) (hM : RM ci cn co xj xd xf xo xi xn Im Jm Dm) {t a b : Nat} {go : Int32} (ht : t < 3) (ha : a < 8) (hb : b < 8) (x1 : Im 6 39 = nI t) (x2 : Im 6 40 = nI a) (x3 : Im 6 41 = nI b) (x4 : Im 6 42 = nI 13) (x5 : Im 6 43 = nI 0) (x6 : Im 6 44 = go) : Ct Y_HA_perform [vr 1 55, vr 8 (32 + 7 * t), vi (nI 48), vi (nI a), vi (nI b), vi (nI 13)] (K, I, J, F, D, R, nx, sl) (fun r μ1 => Ct Y_MM_handles [vr 11 6, vi (nI 48)] (Km, Im, Jm, Fm, Dm, Rm, nxm, slm) (fun r2 μ2 => r2 = none ∧ QA ci cn co go r μ1 μ2)) := by
  rcases ho : xo 0 t b with _ | q
  · skip
    refine ct_of h_HA_perform rfl rfl rfl ?_
    refine ev_gV [] [some 36] rfl ?_
    refine ev_inV 1 k_HA_15 h_SD_t rfl rfl rfl rfl rfl ⟨by decide, by decide⟩ rfl ?_
    refine ev_gV [] [none] rfl ?_
    refine ev_retn rfl ?_
    refine ev_g0 rfl ?_
    refine ev_inS 2 k_HA_49 h_HA_isA rfl rfl rfl rfl ⟨by decide, by decide⟩ rfl ?_
    refine ev_g0 rfl ?_
    refine ev_retz rfl (by first | decide | exact zb_01 _) ?_
    refine ev_gV [true] [] rfl ?_
    refine ev_inV 2 k_HA_53 h_SD_setN rfl rfl rfl rfl rfl ⟨by decide, by decide⟩ rfl ?_
    refine ev_gV [] [] rfl ?_
    refine ev_ret rfl ?_
    refine ev_g0 rfl ?_
    refine ev_reti rfl ?_
    refine ct_of h_MM_handles rfl rfl rfl ?_
    refine ev_g0 rfl ?_
    refine ev_inV 1 k_MM_344 h_MM_hold rfl rfl rfl rfl rfl ⟨by decide, by decide⟩ rfl ?_
    refine ev_gV [] [] rfl ?_
    refine ev_reti rfl ?_
    refine ev_gV [true] [some 12] rfl ?_
    refine ev_inV 2 k_MM_288 h_MM_lay rfl rfl rfl rfl rfl ⟨by decide, by decide⟩ rfl ?_
    refine ev_gV [] [] rfl ?_
    refine ev_ret rfl ?_
    refine ev_g0 rfl ?_
    refine ev_ret rfl ?_
    exact ⟨rfl, (u3 xj 0 t a ((nI 0).toInt64)), xd, xf, xo, xi, xn, nI 0, rfl, bdd, lf_V, lf_V, (CU_num hC ht ha lf_V lf_V), (MU_num hM ht ha lf_V lf_V (fun i hi => (rc_isor hC hi).2.2.1))⟩
  · skip
    have hq := rc_ihol hC ht hb _ ho
    have zq := rc_isor hC hq
    have yq := rc_imad hC
    refine ct_of h_HA_perform rfl rfl rfl ?_
    refine ev_gV [] [some 36] rfl ?_
    refine ev_inV 1 k_HA_15 h_SD_t rfl rfl rfl rfl rfl ⟨by decide, by decide⟩ rfl ?_
    refine ev_gV [] [some (94 + 4 * q)] rfl ?_
    refine ev_reta rfl ?_
    refine ev_g0 rfl ?_
    refine ev_inS 2 k_HA_49 h_HA_isA rfl rfl rfl rfl ⟨by decide, by decide⟩ rfl ?_
    refine ev_g0 rfl ?_
    refine ev_inV 1 k_HA_61 h_TH_isA rfl rfl rfl rfl rfl ⟨by decide, by decide⟩ rfl ?_
    refine ev_gV [false, true, true] [none] rfl ?_
    refine ev_bV rfl rfl (fun h_1 => ?_) (fun h_1 => ?_)
    · skip
      refine ev_g0 rfl ?_
      refine ev_retz rfl (by first | decide | exact zb_01 _) ?_
      refine ev_gV [true] [] rfl ?_
      refine ev_retz rfl (by first | decide | exact zb_01 _) ?_
      refine ev_gV [true] [] rfl ?_
      refine ev_inV 2 k_HA_53 h_SD_setN rfl rfl rfl rfl rfl ⟨by decide, by decide⟩ rfl ?_
      refine ev_gV [] [] rfl ?_
      refine ev_ret rfl ?_
      refine ev_g0 rfl ?_
      refine ev_reti rfl ?_
      refine ct_of h_MM_handles rfl rfl rfl ?_
      refine ev_g0 rfl ?_
      refine ev_inV 1 k_MM_344 h_MM_hold rfl rfl rfl rfl rfl ⟨by decide, by decide⟩ rfl ?_
      refine ev_gV [] [] rfl ?_
      refine ev_reti rfl ?_
      refine ev_gV [false] [some 12] rfl ?_
      refine ev_inV 2 k_MM_202 h_MM_isKind rfl rfl rfl rfl rfl ⟨by decide, by decide⟩ rfl ?_
      refine ev_gV [false, true, true] [] rfl ?_
      refine ev_retz rfl (by first | decide | exact zb_01 _) ?_
      refine ev_gV [true] [] rfl ?_
      refine ev_inV 2 k_MM_288 h_MM_lay rfl rfl rfl rfl rfl ⟨by decide, by decide⟩ rfl ?_
      refine ev_gV [] [] rfl ?_
      refine ev_ret rfl ?_
      refine ev_g0 rfl ?_
      refine ev_ret rfl ?_
      exact ⟨rfl, (u3 xj 0 t a ((nI 0).toInt64)), xd, xf, xo, xi, xn, nI 0, rfl, bdd, lf_V, lf_V, (CU_num hC ht ha lf_V lf_V), (MU_num hM ht ha lf_V lf_V (fun i hi => (rc_isor hC hi).2.2.1))⟩
    · skip
      refine ev_g0 rfl ?_
      refine ev_retz rfl (by first | decide | exact zb_01 _) ?_
      refine ev_gV [false] [] rfl ?_
      refine ev_retz rfl (by first | decide | exact zb_01 _) ?_
      refine ev_gV [false] [] rfl ?_
      refine ev_inV 2 k_HA_53 h_SD_setN rfl rfl rfl rfl rfl ⟨by decide, by decide⟩ rfl ?_
      refine ev_gV [] [] rfl ?_
      refine ev_ret rfl ?_
      refine ev_g0 rfl ?_
      refine ev_reti rfl ?_
      refine ct_of h_MM_handles rfl rfl rfl ?_
      refine ev_g0 rfl ?_
      refine ev_inV 1 k_MM_344 h_MM_hold rfl rfl rfl rfl rfl ⟨by decide, by decide⟩ rfl ?_
      refine ev_gV [] [] rfl ?_
      refine ev_reti rfl ?_
      refine ev_gV [false] [some 12] rfl ?_
      refine ev_inV 2 k_MM_202 h_MM_isKind rfl rfl rfl rfl rfl ⟨by decide, by decide⟩ rfl ?_
      refine ev_gV [false, true, false] [] rfl ?_
      refine ev_retz rfl (by first | decide | exact zb_01 _) ?_
      refine ev_gV [false] [] rfl ?_
      refine ev_inV 2 k_MM_288 h_MM_lay rfl rfl rfl rfl rfl ⟨by decide, by decide⟩ rfl ?_
      refine ev_gV [] [] rfl ?_
      refine ev_ret rfl ?_
      refine ev_g0 rfl ?_
      refine ev_ret rfl ?_
      exact ⟨rfl, (u3 xj 0 t a ((nI 1).toInt64)), xd, xf, xo, xi, xn, nI 0, rfl, bdd, lf_V, lf_V, (CU_num hC ht ha lf_V lf_V), (MU_num hM ht ha lf_V lf_V (fun i hi => (rc_isor hC hi).2.2.1))⟩
theorem A49_13 {ci : Nat → Nat → Nat → Int32} {cn : Nat → Nat → Nat → Nat} {co : Nat → Option Nat} {xj : Nat → Nat → Nat → Int64} {xd : Nat → Nat → Nat → UInt64} {xf : Nat → Nat → Nat → UInt32} {xo : Nat → Nat → Nat → Option Nat} {xi : Nat → Nat → Nat → Int32} {xn : Nat → Nat → Nat → Nat} {K : Nat → Nat} {I : Nat → Nat → Int32} {J : Nat → Nat → Int64} {F : Nat → Nat → UInt32} {D : Nat → Nat → UInt64} {R : Nat → Nat → Option Nat} {nx sl : Nat} {Km : Nat → Nat} {Im : Nat → Nat → Int32} {Jm : Nat → Nat → Int64} {Fm : Nat → Nat → UInt32} {Dm : Nat → Nat → UInt64} {Rm : Nat → Nat → Option Nat} {nxm slm : Nat} (hC : RC ci cn co xj xd xf xo xi xn I J F D R nx sl) (hM : RM ci cn co xj xd xf xo xi xn Im Jm Dm) {t a b : Nat} {go : Int32} (ht : t < 3) (ha : a < 8) (hb : b < 8) (x1 : Im 6 39 = nI t) (x2 : Im 6 40 = nI a) (x3 : Im 6 41 = nI b) (x4 : Im 6 42 = nI 13) (x5 : Im 6 43 = nI 0) (x6 : Im 6 44 = go) : Ct Y_HA_perform [vr 1 55, vr 8 (32 + 7 * t), vi (nI 49), vi (nI a), vi (nI b), vi (nI 13)] (K, I, J, F, D, R, nx, sl) (fun r μ1 => Ct Y_MM_handles [vr 11 6, vi (nI 49)] (Km, Im, Jm, Fm, Dm, Rm, nxm, slm) (fun r2 μ2 => r2 = none ∧ QA ci cn co go r μ1 μ2)) := by
  rcases ho : xo 0 t b with _ | q
  · skip
    refine ct_of h_HA_perform rfl rfl rfl ?_
    refine ev_gV [] [some 37] rfl ?_
    refine ev_inV 1 k_HA_15 h_SD_t rfl rfl rfl rfl rfl ⟨by decide, by decide⟩ rfl ?_
    refine ev_gV [] [none] rfl ?_
    refine ev_retn rfl ?_
    refine ev_g0 rfl ?_
    refine ev_inS 4 k_HA_57 h_HA_takeAs rfl rfl rfl rfl ⟨by decide, by decide⟩ rfl ?_
    refine ev_g0 rfl ?_
    refine ev_inV 2 k_HA_21 h_SD_setT rfl rfl rfl rfl rfl ⟨by decide, by decide⟩ rfl ?_
    refine ev_gV [] [] rfl ?_
    refine ev_ret rfl ?_
    refine ev_g0 rfl ?_
    refine ev_reti rfl ?_
    refine ev_g0 rfl ?_
    refine ev_reti rfl ?_
    refine ct_of h_MM_handles rfl rfl rfl ?_
    refine ev_g0 rfl ?_
    refine ev_inV 1 k_MM_344 h_MM_hold rfl rfl rfl rfl rfl ⟨by decide, by decide⟩ rfl ?_
    refine ev_gV [] [] rfl ?_
    refine ev_reti rfl ?_
    refine ev_gV [] [some 13] rfl ?_
    refine ev_inV 2 k_MM_354 h_MM_takes rfl rfl rfl rfl rfl ⟨by decide, by decide⟩ rfl ?_
    refine ev_gV [true] [] rfl ?_
    refine ev_retz rfl (by first | decide | exact zb_01 _) ?_
    refine ev_gV [false] [] rfl ?_
    refine ev_inV 2 k_MM_336 h_MM_keep rfl rfl rfl rfl rfl ⟨by decide, by decide⟩ rfl ?_
    refine ev_gV [] [] rfl ?_
    refine ev_ret rfl ?_
    refine ev_g0 rfl ?_
    refine ev_ret rfl ?_
    exact ⟨rfl, xj, xd, xf, (u3 xo 0 t a (none)), xi, xn, nI 0, rfl, bdd, lf_V, lf_V, (CU_hol hC ht ha (fun _ h => by cases h) lf_V lf_V), (MU_hol hM ht ha lf_V lf_V (fun i hi => (rc_isor hC hi).2.2.1))⟩
  · skip
    have hq := rc_ihol hC ht hb _ ho
    have zq := rc_isor hC hq
    have yq := rc_imad hC
    refine ct_of h_HA_perform rfl rfl rfl ?_
    refine ev_gV [] [some 37] rfl ?_
    refine ev_inV 1 k_HA_15 h_SD_t rfl rfl rfl rfl rfl ⟨by decide, by decide⟩ rfl ?_
    refine ev_gV [] [some (94 + 4 * q)] rfl ?_
    refine ev_reta rfl ?_
    refine ev_g0 rfl ?_
    refine ev_inS 4 k_HA_57 h_HA_takeAs rfl rfl rfl rfl ⟨by decide, by decide⟩ rfl ?_
    refine ev_g0 rfl ?_
    refine ev_inV 1 k_HA_61 h_TH_isA rfl rfl rfl rfl rfl ⟨by decide, by decide⟩ rfl ?_
    refine ev_gV [false, true, true] [none] rfl ?_
    refine ev_bV rfl rfl (fun h_1 => ?_) (fun h_1 => ?_)
    · skip
      refine ev_g0 rfl ?_
      refine ev_retz rfl (by first | decide | exact zb_01 _) ?_
      refine ev_gV [false] [] rfl ?_
      refine ev_reti rfl ?_
      refine ev_g0 rfl ?_
      refine ev_reti rfl ?_
      refine ct_of h_MM_handles rfl rfl rfl ?_
      refine ev_g0 rfl ?_
      refine ev_inV 1 k_MM_344 h_MM_hold rfl rfl rfl rfl rfl ⟨by decide, by decide⟩ rfl ?_
      refine ev_gV [] [] rfl ?_
      refine ev_reti rfl ?_
      refine ev_gV [] [some 13] rfl ?_
      refine ev_inV 2 k_MM_354 h_MM_takes rfl rfl rfl rfl rfl ⟨by decide, by decide⟩ rfl ?_
      refine ev_gV [false] [] rfl ?_
      refine ev_inV 2 k_MM_202 h_MM_isKind rfl rfl rfl rfl rfl ⟨by decide, by decide⟩ rfl ?_
      refine ev_gV [false, true, true] [] rfl ?_
      refine ev_retz rfl (by first | decide | exact zb_01 _) ?_
      refine ev_gV [false] [] rfl ?_
      refine ev_retz rfl (by first | decide | exact zb_01 _) ?_
      refine ev_gV [true] [] rfl ?_
      refine ev_ret rfl ?_
      exact ⟨rfl, xj, xd, xf, xo, xi, xn, nI 3, rfl, bdd, lf_V, lf_V, hC, hM⟩
    · skip
      refine ev_g0 rfl ?_
      refine ev_retz rfl (by first | decide | exact zb_01 _) ?_
      refine ev_gV [true] [] rfl ?_
      refine ev_inV 2 k_HA_21 h_SD_setT rfl rfl rfl rfl rfl ⟨by decide, by decide⟩ rfl ?_
      refine ev_gV [] [] rfl ?_
      refine ev_ret rfl ?_
      refine ev_g0 rfl ?_
      refine ev_reti rfl ?_
      refine ev_g0 rfl ?_
      refine ev_reti rfl ?_
      refine ct_of h_MM_handles rfl rfl rfl ?_
      refine ev_g0 rfl ?_
      refine ev_inV 1 k_MM_344 h_MM_hold rfl rfl rfl rfl rfl ⟨by decide, by decide⟩ rfl ?_
      refine ev_gV [] [] rfl ?_
      refine ev_reti rfl ?_
      refine ev_gV [] [some 13] rfl ?_
      refine ev_inV 2 k_MM_354 h_MM_takes rfl rfl rfl rfl rfl ⟨by decide, by decide⟩ rfl ?_
      refine ev_gV [false] [] rfl ?_
      refine ev_inV 2 k_MM_202 h_MM_isKind rfl rfl rfl rfl rfl ⟨by decide, by decide⟩ rfl ?_
      refine ev_gV [false, true, false] [] rfl ?_
      refine ev_retz rfl (by first | decide | exact zb_01 _) ?_
      refine ev_gV [true] [] rfl ?_
      refine ev_retz rfl (by first | decide | exact zb_01 _) ?_
      refine ev_gV [false] [] rfl ?_
      refine ev_inV 2 k_MM_336 h_MM_keep rfl rfl rfl rfl rfl ⟨by decide, by decide⟩ rfl ?_
      refine ev_gV [] [] rfl ?_
      refine ev_ret rfl ?_
      refine ev_g0 rfl ?_
      refine ev_ret rfl ?_
      exact ⟨rfl, xj, xd, xf, (u3 xo 0 t a (some q)), xi, xn, nI 0, rfl, bdd, lf_V, lf_V, (CU_hol hC ht ha (fun _ h => by cases h; exact hq) lf_V lf_V), (MU_hol hM ht ha lf_V lf_V (fun i hi => (rc_isor hC hi).2.2.1))⟩
theorem A48_14 {ci : Nat → Nat → Nat → Int32} {cn : Nat → Nat → Nat → Nat} {co : Nat → Option Nat} {xj : Nat → Nat → Nat → Int64} {xd : Nat → Nat → Nat → UInt64} {xf : Nat → Nat → Nat → UInt32} {xo : Nat → Nat → Nat → Option Nat} {xi : Nat → Nat → Nat → Int32} {xn : Nat → Nat → Nat → Nat} {K : Nat → Nat} {I : Nat → Nat → Int32} {J : Nat → Nat → Int64} {F : Nat → Nat → UInt32} {D : Nat → Nat → UInt64} {R : Nat → Nat → Option Nat} {nx sl : Nat} {Km : Nat → Nat} {Im : Nat → Nat → Int32} {Jm : Nat → Nat → Int64} {Fm : Nat → Nat → UInt32} {Dm : Nat → Nat → UInt64} {Rm : Nat → Nat → Option Nat} {nxm slm : Nat} (hC : RC ci cn co xj xd xf xo xi xn I J F D R nx sl) (hM : RM ci cn co xj xd xf xo xi xn Im Jm Dm) {t a b : Nat} {go : Int32} (ht : t < 3) (ha : a < 8) (hb : b < 8) (x1 : Im 6 39 = nI t) (x2 : Im 6 40 = nI a) (x3 : Im 6 41 = nI b) (x4 : Im 6 42 = nI 14) (x5 : Im 6 43 = nI 0) (x6 : Im 6 44 = go) : Ct Y_HA_perform [vr 1 55, vr 8 (32 + 7 * t), vi (nI 48), vi (nI a), vi (nI b), vi (nI 14)] (K, I, J, F, D, R, nx, sl) (fun r μ1 => Ct Y_MM_handles [vr 11 6, vi (nI 48)] (Km, Im, Jm, Fm, Dm, Rm, nxm, slm) (fun r2 μ2 => r2 = none ∧ QA ci cn co go r μ1 μ2)) := by
  rcases ho : xo 0 t b with _ | q
  · skip
    refine ct_of h_HA_perform rfl rfl rfl ?_
    refine ev_gV [] [some 36] rfl ?_
    refine ev_inV 1 k_HA_15 h_SD_t rfl rfl rfl rfl rfl ⟨by decide, by decide⟩ rfl ?_
    refine ev_gV [] [none] rfl ?_
    refine ev_retn rfl ?_
    refine ev_g0 rfl ?_
    refine ev_inS 2 k_HA_49 h_HA_isA rfl rfl rfl rfl ⟨by decide, by decide⟩ rfl ?_
    refine ev_g0 rfl ?_
    refine ev_retz rfl (by first | decide | exact zb_01 _) ?_
    refine ev_gV [true] [] rfl ?_
    refine ev_inV 2 k_HA_53 h_SD_setN rfl rfl rfl rfl rfl ⟨by decide, by decide⟩ rfl ?_
    refine ev_gV [] [] rfl ?_
    refine ev_ret rfl ?_
    refine ev_g0 rfl ?_
    refine ev_reti rfl ?_
    refine ct_of h_MM_handles rfl rfl rfl ?_
    refine ev_g0 rfl ?_
    refine ev_inV 1 k_MM_344 h_MM_hold rfl rfl rfl rfl rfl ⟨by decide, by decide⟩ rfl ?_
    refine ev_gV [] [] rfl ?_
    refine ev_reti rfl ?_
    refine ev_gV [true] [some 12] rfl ?_
    refine ev_inV 2 k_MM_288 h_MM_lay rfl rfl rfl rfl rfl ⟨by decide, by decide⟩ rfl ?_
    refine ev_gV [] [] rfl ?_
    refine ev_ret rfl ?_
    refine ev_g0 rfl ?_
    refine ev_ret rfl ?_
    exact ⟨rfl, (u3 xj 0 t a ((nI 0).toInt64)), xd, xf, xo, xi, xn, nI 0, rfl, bdd, lf_V, lf_V, (CU_num hC ht ha lf_V lf_V), (MU_num hM ht ha lf_V lf_V (fun i hi => (rc_isor hC hi).2.2.1))⟩
  · skip
    have hq := rc_ihol hC ht hb _ ho
    have zq := rc_isor hC hq
    have yq := rc_imad hC
    refine ct_of h_HA_perform rfl rfl rfl ?_
    refine ev_gV [] [some 36] rfl ?_
    refine ev_inV 1 k_HA_15 h_SD_t rfl rfl rfl rfl rfl ⟨by decide, by decide⟩ rfl ?_
    refine ev_gV [] [some (94 + 4 * q)] rfl ?_
    refine ev_reta rfl ?_
    refine ev_g0 rfl ?_
    refine ev_inS 2 k_HA_49 h_HA_isA rfl rfl rfl rfl ⟨by decide, by decide⟩ rfl ?_
    refine ev_g0 rfl ?_
    refine ev_inV 1 k_HA_61 h_TH_isA rfl rfl rfl rfl rfl ⟨by decide, by decide⟩ rfl ?_
    refine ev_gV [false, true, true] [none] rfl ?_
    refine ev_bV rfl rfl (fun h_1 => ?_) (fun h_1 => ?_)
    · skip
      refine ev_g0 rfl ?_
      refine ev_retz rfl (by first | decide | exact zb_01 _) ?_
      refine ev_gV [true] [] rfl ?_
      refine ev_retz rfl (by first | decide | exact zb_01 _) ?_
      refine ev_gV [true] [] rfl ?_
      refine ev_inV 2 k_HA_53 h_SD_setN rfl rfl rfl rfl rfl ⟨by decide, by decide⟩ rfl ?_
      refine ev_gV [] [] rfl ?_
      refine ev_ret rfl ?_
      refine ev_g0 rfl ?_
      refine ev_reti rfl ?_
      refine ct_of h_MM_handles rfl rfl rfl ?_
      refine ev_g0 rfl ?_
      refine ev_inV 1 k_MM_344 h_MM_hold rfl rfl rfl rfl rfl ⟨by decide, by decide⟩ rfl ?_
      refine ev_gV [] [] rfl ?_
      refine ev_reti rfl ?_
      refine ev_gV [false] [some 12] rfl ?_
      refine ev_inV 2 k_MM_202 h_MM_isKind rfl rfl rfl rfl rfl ⟨by decide, by decide⟩ rfl ?_
      refine ev_gV [false, false, false, true] [] rfl ?_
      refine ev_retz rfl (by first | decide | exact zb_01 _) ?_
      refine ev_gV [true] [] rfl ?_
      refine ev_inV 2 k_MM_288 h_MM_lay rfl rfl rfl rfl rfl ⟨by decide, by decide⟩ rfl ?_
      refine ev_gV [] [] rfl ?_
      refine ev_ret rfl ?_
      refine ev_g0 rfl ?_
      refine ev_ret rfl ?_
      exact ⟨rfl, (u3 xj 0 t a ((nI 0).toInt64)), xd, xf, xo, xi, xn, nI 0, rfl, bdd, lf_V, lf_V, (CU_num hC ht ha lf_V lf_V), (MU_num hM ht ha lf_V lf_V (fun i hi => (rc_isor hC hi).2.2.1))⟩
    · skip
      refine ev_g0 rfl ?_
      refine ev_retz rfl (by first | decide | exact zb_01 _) ?_
      refine ev_gV [false] [] rfl ?_
      refine ev_retz rfl (by first | decide | exact zb_01 _) ?_
      refine ev_gV [false] [] rfl ?_
      refine ev_inV 2 k_HA_53 h_SD_setN rfl rfl rfl rfl rfl ⟨by decide, by decide⟩ rfl ?_
      refine ev_gV [] [] rfl ?_
      refine ev_ret rfl ?_
      refine ev_g0 rfl ?_
      refine ev_reti rfl ?_
      refine ct_of h_MM_handles rfl rfl rfl ?_
      refine ev_g0 rfl ?_
      refine ev_inV 1 k_MM_344 h_MM_hold rfl rfl rfl rfl rfl ⟨by decide, by decide⟩ rfl ?_
      refine ev_gV [] [] rfl ?_
      refine ev_reti rfl ?_
      refine ev_gV [false] [some 12] rfl ?_
      refine ev_inV 2 k_MM_202 h_MM_isKind rfl rfl rfl rfl rfl ⟨by decide, by decide⟩ rfl ?_
      refine ev_gV [false, false, false, false] [] rfl ?_
      refine ev_retz rfl (by first | decide | exact zb_01 _) ?_
      refine ev_gV [false] [] rfl ?_
      refine ev_inV 2 k_MM_288 h_MM_lay rfl rfl rfl rfl rfl ⟨by decide, by decide⟩ rfl ?_
      refine ev_gV [] [] rfl ?_
      refine ev_ret rfl ?_
      refine ev_g0 rfl ?_
      refine ev_ret rfl ?_
      exact ⟨rfl, (u3 xj 0 t a ((nI 1).toInt64)), xd, xf, xo, xi, xn, nI 0, rfl, bdd, lf_V, lf_V, (CU_num hC ht ha lf_V lf_V), (MU_num hM ht ha lf_V lf_V (fun i hi => (rc_isor hC hi).2.2.1))⟩
theorem A49_14 {ci : Nat → Nat → Nat → Int32} {cn : Nat → Nat → Nat → Nat} {co : Nat → Option Nat} {xj : Nat → Nat → Nat → Int64} {xd : Nat → Nat → Nat → UInt64} {xf : Nat → Nat → Nat → UInt32} {xo : Nat → Nat → Nat → Option Nat} {xi : Nat → Nat → Nat → Int32} {xn : Nat → Nat → Nat → Nat} {K : Nat → Nat} {I : Nat → Nat → Int32} {J : Nat → Nat → Int64} {F : Nat → Nat → UInt32} {D : Nat → Nat → UInt64} {R : Nat → Nat → Option Nat} {nx sl : Nat} {Km : Nat → Nat} {Im : Nat → Nat → Int32} {Jm : Nat → Nat → Int64} {Fm : Nat → Nat → UInt32} {Dm : Nat → Nat → UInt64} {Rm : Nat → Nat → Option Nat} {nxm slm : Nat} (hC : RC ci cn co xj xd xf xo xi xn I J F D R nx sl) (hM : RM ci cn co xj xd xf xo xi xn Im Jm Dm) {t a b : Nat} {go : Int32} (ht : t < 3) (ha : a < 8) (hb : b < 8) (x1 : Im 6 39 = nI t) (x2 : Im 6 40 = nI a) (x3 : Im 6 41 = nI b) (x4 : Im 6 42 = nI 14) (x5 : Im 6 43 = nI 0) (x6 : Im 6 44 = go) : Ct Y_HA_perform [vr 1 55, vr 8 (32 + 7 * t), vi (nI 49), vi (nI a), vi (nI b), vi (nI 14)] (K, I, J, F, D, R, nx, sl) (fun r μ1 => Ct Y_MM_handles [vr 11 6, vi (nI 49)] (Km, Im, Jm, Fm, Dm, Rm, nxm, slm) (fun r2 μ2 => r2 = none ∧ QA ci cn co go r μ1 μ2)) := by
  rcases ho : xo 0 t b with _ | q
  · skip
    refine ct_of h_HA_perform rfl rfl rfl ?_
    refine ev_gV [] [some 37] rfl ?_
    refine ev_inV 1 k_HA_15 h_SD_t rfl rfl rfl rfl rfl ⟨by decide, by decide⟩ rfl ?_
    refine ev_gV [] [none] rfl ?_
    refine ev_retn rfl ?_
    refine ev_g0 rfl ?_
    refine ev_inS 4 k_HA_57 h_HA_takeAs rfl rfl rfl rfl ⟨by decide, by decide⟩ rfl ?_
    refine ev_g0 rfl ?_
    refine ev_inV 2 k_HA_21 h_SD_setT rfl rfl rfl rfl rfl ⟨by decide, by decide⟩ rfl ?_
    refine ev_gV [] [] rfl ?_
    refine ev_ret rfl ?_
    refine ev_g0 rfl ?_
    refine ev_reti rfl ?_
    refine ev_g0 rfl ?_
    refine ev_reti rfl ?_
    refine ct_of h_MM_handles rfl rfl rfl ?_
    refine ev_g0 rfl ?_
    refine ev_inV 1 k_MM_344 h_MM_hold rfl rfl rfl rfl rfl ⟨by decide, by decide⟩ rfl ?_
    refine ev_gV [] [] rfl ?_
    refine ev_reti rfl ?_
    refine ev_gV [] [some 13] rfl ?_
    refine ev_inV 2 k_MM_354 h_MM_takes rfl rfl rfl rfl rfl ⟨by decide, by decide⟩ rfl ?_
    refine ev_gV [true] [] rfl ?_
    refine ev_retz rfl (by first | decide | exact zb_01 _) ?_
    refine ev_gV [false] [] rfl ?_
    refine ev_inV 2 k_MM_336 h_MM_keep rfl rfl rfl rfl rfl ⟨by decide, by decide⟩ rfl ?_
    refine ev_gV [] [] rfl ?_
    refine ev_ret rfl ?_
    refine ev_g0 rfl ?_
    refine ev_ret rfl ?_
    exact ⟨rfl, xj, xd, xf, (u3 xo 0 t a (none)), xi, xn, nI 0, rfl, bdd, lf_V, lf_V, (CU_hol hC ht ha (fun _ h => by cases h) lf_V lf_V), (MU_hol hM ht ha lf_V lf_V (fun i hi => (rc_isor hC hi).2.2.1))⟩
  · skip
    have hq := rc_ihol hC ht hb _ ho
    have zq := rc_isor hC hq
    have yq := rc_imad hC
    refine ct_of h_HA_perform rfl rfl rfl ?_
    refine ev_gV [] [some 37] rfl ?_
    refine ev_inV 1 k_HA_15 h_SD_t rfl rfl rfl rfl rfl ⟨by decide, by decide⟩ rfl ?_
    refine ev_gV [] [some (94 + 4 * q)] rfl ?_
    refine ev_reta rfl ?_
    refine ev_g0 rfl ?_
    refine ev_inS 4 k_HA_57 h_HA_takeAs rfl rfl rfl rfl ⟨by decide, by decide⟩ rfl ?_
    refine ev_g0 rfl ?_
    refine ev_inV 1 k_HA_61 h_TH_isA rfl rfl rfl rfl rfl ⟨by decide, by decide⟩ rfl ?_
    refine ev_gV [false, true, true] [none] rfl ?_
    refine ev_bV rfl rfl (fun h_1 => ?_) (fun h_1 => ?_)
    · skip
      refine ev_g0 rfl ?_
      refine ev_retz rfl (by first | decide | exact zb_01 _) ?_
      refine ev_gV [false] [] rfl ?_
      refine ev_reti rfl ?_
      refine ev_g0 rfl ?_
      refine ev_reti rfl ?_
      refine ct_of h_MM_handles rfl rfl rfl ?_
      refine ev_g0 rfl ?_
      refine ev_inV 1 k_MM_344 h_MM_hold rfl rfl rfl rfl rfl ⟨by decide, by decide⟩ rfl ?_
      refine ev_gV [] [] rfl ?_
      refine ev_reti rfl ?_
      refine ev_gV [] [some 13] rfl ?_
      refine ev_inV 2 k_MM_354 h_MM_takes rfl rfl rfl rfl rfl ⟨by decide, by decide⟩ rfl ?_
      refine ev_gV [false] [] rfl ?_
      refine ev_inV 2 k_MM_202 h_MM_isKind rfl rfl rfl rfl rfl ⟨by decide, by decide⟩ rfl ?_
      refine ev_gV [false, false, false, true] [] rfl ?_
      refine ev_retz rfl (by first | decide | exact zb_01 _) ?_
      refine ev_gV [false] [] rfl ?_
      refine ev_retz rfl (by first | decide | exact zb_01 _) ?_
      refine ev_gV [true] [] rfl ?_
      refine ev_ret rfl ?_
      exact ⟨rfl, xj, xd, xf, xo, xi, xn, nI 3, rfl, bdd, lf_V, lf_V, hC, hM⟩
    · skip
      refine ev_g0 rfl ?_
      refine ev_retz rfl (by first | decide | exact zb_01 _) ?_
      refine ev_gV [true] [] rfl ?_
      refine ev_inV 2 k_HA_21 h_SD_setT rfl rfl rfl rfl rfl ⟨by decide, by decide⟩ rfl ?_
      refine ev_gV [] [] rfl ?_
      refine ev_ret rfl ?_
      refine ev_g0 rfl ?_
      refine ev_reti rfl ?_
      refine ev_g0 rfl ?_
      refine ev_reti rfl ?_
      refine ct_of h_MM_handles rfl rfl rfl ?_
      refine ev_g0 rfl ?_
      refine ev_inV 1 k_MM_344 h_MM_hold rfl rfl rfl rfl rfl ⟨by decide, by decide⟩ rfl ?_
      refine ev_gV [] [] rfl ?_
      refine ev_reti rfl ?_
      refine ev_gV [] [some 13] rfl ?_
      refine ev_inV 2 k_MM_354 h_MM_takes rfl rfl rfl rfl rfl ⟨by decide, by decide⟩ rfl ?_
      refine ev_gV [false] [] rfl ?_
      refine ev_inV 2 k_MM_202 h_MM_isKind rfl rfl rfl rfl rfl ⟨by decide, by decide⟩ rfl ?_
      refine ev_gV [false, false, false, false] [] rfl ?_
      refine ev_retz rfl (by first | decide | exact zb_01 _) ?_
      refine ev_gV [true] [] rfl ?_
      refine ev_retz rfl (by first | decide | exact zb_01 _) ?_
      refine ev_gV [false] [] rfl ?_
      refine ev_inV 2 k_MM_336 h_MM_keep rfl rfl rfl rfl rfl ⟨by decide, by decide⟩ rfl ?_
      refine ev_gV [] [] rfl ?_
      refine ev_ret rfl ?_
      refine ev_g0 rfl ?_
      refine ev_ret rfl ?_
      exact ⟨rfl, xj, xd, xf, (u3 xo 0 t a (some q)), xi, xn, nI 0, rfl, bdd, lf_V, lf_V, (CU_hol hC ht ha (fun _ h => by cases h; exact hq) lf_V lf_V), (MU_hol hM ht ha lf_V lf_V (fun i hi => (rc_isor hC hi).2.2.1))⟩
theorem A48_16 {ci : Nat → Nat → Nat → Int32} {cn : Nat → Nat → Nat → Nat} {co : Nat → Option Nat} {xj : Nat → Nat → Nat → Int64} {xd : Nat → Nat → Nat → UInt64} {xf : Nat → Nat → Nat → UInt32} {xo : Nat → Nat → Nat → Option Nat} {xi : Nat → Nat → Nat → Int32} {xn : Nat → Nat → Nat → Nat} {K : Nat → Nat} {I : Nat → Nat → Int32} {J : Nat → Nat → Int64} {F : Nat → Nat → UInt32} {D : Nat → Nat → UInt64} {R : Nat → Nat → Option Nat} {nx sl : Nat} {Km : Nat → Nat} {Im : Nat → Nat → Int32} {Jm : Nat → Nat → Int64} {Fm : Nat → Nat → UInt32} {Dm : Nat → Nat → UInt64} {Rm : Nat → Nat → Option Nat} {nxm slm : Nat} (hC : RC ci cn co xj xd xf xo xi xn I J F D R nx sl) (hM : RM ci cn co xj xd xf xo xi xn Im Jm Dm) {t a b : Nat} {go : Int32} (ht : t < 3) (ha : a < 8) (hb : b < 8) (x1 : Im 6 39 = nI t) (x2 : Im 6 40 = nI a) (x3 : Im 6 41 = nI b) (x4 : Im 6 42 = nI 16) (x5 : Im 6 43 = nI 0) (x6 : Im 6 44 = go) : Ct Y_HA_perform [vr 1 55, vr 8 (32 + 7 * t), vi (nI 48), vi (nI a), vi (nI b), vi (nI 16)] (K, I, J, F, D, R, nx, sl) (fun r μ1 => Ct Y_MM_handles [vr 11 6, vi (nI 48)] (Km, Im, Jm, Fm, Dm, Rm, nxm, slm) (fun r2 μ2 => r2 = none ∧ QA ci cn co go r μ1 μ2)) := by
  rcases ho : xo 0 t b with _ | q
  · skip
    refine ct_of h_HA_perform rfl rfl rfl ?_
    refine ev_gV [] [some 36] rfl ?_
    refine ev_inV 1 k_HA_15 h_SD_t rfl rfl rfl rfl rfl ⟨by decide, by decide⟩ rfl ?_
    refine ev_gV [] [none] rfl ?_
    refine ev_retn rfl ?_
    refine ev_g0 rfl ?_
    refine ev_inS 2 k_HA_49 h_HA_isA rfl rfl rfl rfl ⟨by decide, by decide⟩ rfl ?_
    refine ev_g0 rfl ?_
    refine ev_retz rfl (by first | decide | exact zb_01 _) ?_
    refine ev_gV [true] [] rfl ?_
    refine ev_inV 2 k_HA_53 h_SD_setN rfl rfl rfl rfl rfl ⟨by decide, by decide⟩ rfl ?_
    refine ev_gV [] [] rfl ?_
    refine ev_ret rfl ?_
    refine ev_g0 rfl ?_
    refine ev_reti rfl ?_
    refine ct_of h_MM_handles rfl rfl rfl ?_
    refine ev_g0 rfl ?_
    refine ev_inV 1 k_MM_344 h_MM_hold rfl rfl rfl rfl rfl ⟨by decide, by decide⟩ rfl ?_
    refine ev_gV [] [] rfl ?_
    refine ev_reti rfl ?_
    refine ev_gV [true] [some 12] rfl ?_
    refine ev_inV 2 k_MM_288 h_MM_lay rfl rfl rfl rfl rfl ⟨by decide, by decide⟩ rfl ?_
    refine ev_gV [] [] rfl ?_
    refine ev_ret rfl ?_
    refine ev_g0 rfl ?_
    refine ev_ret rfl ?_
    exact ⟨rfl, (u3 xj 0 t a ((nI 0).toInt64)), xd, xf, xo, xi, xn, nI 0, rfl, bdd, lf_V, lf_V, (CU_num hC ht ha lf_V lf_V), (MU_num hM ht ha lf_V lf_V (fun i hi => (rc_isor hC hi).2.2.1))⟩
  · skip
    have hq := rc_ihol hC ht hb _ ho
    have zq := rc_isor hC hq
    have yq := rc_imad hC
    refine ct_of h_HA_perform rfl rfl rfl ?_
    refine ev_gV [] [some 36] rfl ?_
    refine ev_inV 1 k_HA_15 h_SD_t rfl rfl rfl rfl rfl ⟨by decide, by decide⟩ rfl ?_
    refine ev_gV [] [some (94 + 4 * q)] rfl ?_
    refine ev_reta rfl ?_
    refine ev_g0 rfl ?_
    refine ev_inS 2 k_HA_49 h_HA_isA rfl rfl rfl rfl ⟨by decide, by decide⟩ rfl ?_
    refine ev_g0 rfl ?_
    refine ev_inV 1 k_HA_61 h_TH_isA rfl rfl rfl rfl rfl ⟨by decide, by decide⟩ rfl ?_
    refine ev_gV [false, true, false, false] [none] rfl ?_
    refine ev_inV 0 k_TH_73 h_TH_isRow rfl rfl rfl rfl rfl ⟨by decide, by decide⟩ rfl ?_
    refine ev_g0 rfl ?_
    refine ev_bV rfl rfl (fun h_1 => ?_) (fun h_1 => ?_)
    · skip
      refine ev_g0 rfl ?_
      refine ev_retz rfl (by first | decide | exact zb_01 _) ?_
      refine ev_gV [false] [] rfl ?_
      refine ev_inS 2 k_TH_77 h_TH_isUnder rfl rfl rfl rfl ⟨by decide, by decide⟩ rfl ?_
      refine ev_gV [true] [] rfl ?_
      refine ev_retz rfl (by first | decide | exact zb_01 _) ?_
      refine ev_gV [false] [] rfl ?_
      refine ev_retz rfl (by first | decide | exact zb_01 _) ?_
      refine ev_gV [false] [] rfl ?_
      refine ev_retz rfl (by first | decide | exact zb_01 _) ?_
      refine ev_gV [false] [] rfl ?_
      refine ev_inV 2 k_HA_53 h_SD_setN rfl rfl rfl rfl rfl ⟨by decide, by decide⟩ rfl ?_
      refine ev_gV [] [] rfl ?_
      refine ev_ret rfl ?_
      refine ev_g0 rfl ?_
      refine ev_reti rfl ?_
      refine ct_of h_MM_handles rfl rfl rfl ?_
      refine ev_g0 rfl ?_
      refine ev_inV 1 k_MM_344 h_MM_hold rfl rfl rfl rfl rfl ⟨by decide, by decide⟩ rfl ?_
      refine ev_gV [] [] rfl ?_
      refine ev_reti rfl ?_
      refine ev_gV [false] [some 12] rfl ?_
      refine ev_inV 2 k_MM_202 h_MM_isKind rfl rfl rfl rfl rfl ⟨by decide, by decide⟩ rfl ?_
      refine ev_gV [false, false, true, true, false, false] [] rfl ?_
      refine ev_inS 2 k_MM_192 h_MM_isOf rfl rfl rfl rfl ⟨by decide, by decide⟩ rfl ?_
      refine ev_gV [true] [] rfl ?_
      refine ev_retz rfl (by first | decide | exact zb_01 _) ?_
      refine ev_gV [false] [] rfl ?_
      refine ev_retz rfl (by first | decide | exact zb_01 _) ?_
      refine ev_gV [false] [] rfl ?_
      refine ev_inV 2 k_MM_288 h_MM_lay rfl rfl rfl rfl rfl ⟨by decide, by decide⟩ rfl ?_
      refine ev_gV [] [] rfl ?_
      refine ev_ret rfl ?_
      refine ev_g0 rfl ?_
      refine ev_ret rfl ?_
      exact ⟨rfl, (u3 xj 0 t a ((nI 1).toInt64)), xd, xf, xo, xi, xn, nI 0, rfl, bdd, lf_V, lf_V, (CU_num hC ht ha lf_V lf_V), (MU_num hM ht ha lf_V lf_V (fun i hi => (rc_isor hC hi).2.2.1))⟩
    · skip
      refine ev_g0 rfl ?_
      refine ev_retz rfl (by first | decide | exact zb_01 _) ?_
      refine ev_gV [true] [] rfl ?_
      refine ev_retz rfl (by first | decide | exact zb_01 _) ?_
      refine ev_gV [true] [] rfl ?_
      refine ev_retz rfl (by first | decide | exact zb_01 _) ?_
      refine ev_gV [true] [] rfl ?_
      refine ev_inV 2 k_HA_53 h_SD_setN rfl rfl rfl rfl rfl ⟨by decide, by decide⟩ rfl ?_
      refine ev_gV [] [] rfl ?_
      refine ev_ret rfl ?_
      refine ev_g0 rfl ?_
      refine ev_reti rfl ?_
      refine ct_of h_MM_handles rfl rfl rfl ?_
      refine ev_g0 rfl ?_
      refine ev_inV 1 k_MM_344 h_MM_hold rfl rfl rfl rfl rfl ⟨by decide, by decide⟩ rfl ?_
      refine ev_gV [] [] rfl ?_
      refine ev_reti rfl ?_
      refine ev_gV [false] [some 12] rfl ?_
      refine ev_inV 2 k_MM_202 h_MM_isKind rfl rfl rfl rfl rfl ⟨by decide, by decide⟩ rfl ?_
      refine ev_gV [false, false, true, true, false, true] [] rfl ?_
      refine ev_retz rfl (by first | decide | exact zb_01 _) ?_
      refine ev_gV [true] [] rfl ?_
      refine ev_inV 2 k_MM_288 h_MM_lay rfl rfl rfl rfl rfl ⟨by decide, by decide⟩ rfl ?_
      refine ev_gV [] [] rfl ?_
      refine ev_ret rfl ?_
      refine ev_g0 rfl ?_
      refine ev_ret rfl ?_
      exact ⟨rfl, (u3 xj 0 t a ((nI 0).toInt64)), xd, xf, xo, xi, xn, nI 0, rfl, bdd, lf_V, lf_V, (CU_num hC ht ha lf_V lf_V), (MU_num hM ht ha lf_V lf_V (fun i hi => (rc_isor hC hi).2.2.1))⟩
theorem A49_16 {ci : Nat → Nat → Nat → Int32} {cn : Nat → Nat → Nat → Nat} {co : Nat → Option Nat} {xj : Nat → Nat → Nat → Int64} {xd : Nat → Nat → Nat → UInt64} {xf : Nat → Nat → Nat → UInt32} {xo : Nat → Nat → Nat → Option Nat} {xi : Nat → Nat → Nat → Int32} {xn : Nat → Nat → Nat → Nat} {K : Nat → Nat} {I : Nat → Nat → Int32} {J : Nat → Nat → Int64} {F : Nat → Nat → UInt32} {D : Nat → Nat → UInt64} {R : Nat → Nat → Option Nat} {nx sl : Nat} {Km : Nat → Nat} {Im : Nat → Nat → Int32} {Jm : Nat → Nat → Int64} {Fm : Nat → Nat → UInt32} {Dm : Nat → Nat → UInt64} {Rm : Nat → Nat → Option Nat} {nxm slm : Nat} (hC : RC ci cn co xj xd xf xo xi xn I J F D R nx sl) (hM : RM ci cn co xj xd xf xo xi xn Im Jm Dm) {t a b : Nat} {go : Int32} (ht : t < 3) (ha : a < 8) (hb : b < 8) (x1 : Im 6 39 = nI t) (x2 : Im 6 40 = nI a) (x3 : Im 6 41 = nI b) (x4 : Im 6 42 = nI 16) (x5 : Im 6 43 = nI 0) (x6 : Im 6 44 = go) : Ct Y_HA_perform [vr 1 55, vr 8 (32 + 7 * t), vi (nI 49), vi (nI a), vi (nI b), vi (nI 16)] (K, I, J, F, D, R, nx, sl) (fun r μ1 => Ct Y_MM_handles [vr 11 6, vi (nI 49)] (Km, Im, Jm, Fm, Dm, Rm, nxm, slm) (fun r2 μ2 => r2 = none ∧ QA ci cn co go r μ1 μ2)) := by
  rcases ho : xo 0 t b with _ | q
  · skip
    refine ct_of h_HA_perform rfl rfl rfl ?_
    refine ev_gV [] [some 37] rfl ?_
    refine ev_inV 1 k_HA_15 h_SD_t rfl rfl rfl rfl rfl ⟨by decide, by decide⟩ rfl ?_
    refine ev_gV [] [none] rfl ?_
    refine ev_retn rfl ?_
    refine ev_g0 rfl ?_
    refine ev_inS 4 k_HA_57 h_HA_takeAs rfl rfl rfl rfl ⟨by decide, by decide⟩ rfl ?_
    refine ev_g0 rfl ?_
    refine ev_inV 2 k_HA_21 h_SD_setT rfl rfl rfl rfl rfl ⟨by decide, by decide⟩ rfl ?_
    refine ev_gV [] [] rfl ?_
    refine ev_ret rfl ?_
    refine ev_g0 rfl ?_
    refine ev_reti rfl ?_
    refine ev_g0 rfl ?_
    refine ev_reti rfl ?_
    refine ct_of h_MM_handles rfl rfl rfl ?_
    refine ev_g0 rfl ?_
    refine ev_inV 1 k_MM_344 h_MM_hold rfl rfl rfl rfl rfl ⟨by decide, by decide⟩ rfl ?_
    refine ev_gV [] [] rfl ?_
    refine ev_reti rfl ?_
    refine ev_gV [] [some 13] rfl ?_
    refine ev_inV 2 k_MM_354 h_MM_takes rfl rfl rfl rfl rfl ⟨by decide, by decide⟩ rfl ?_
    refine ev_gV [true] [] rfl ?_
    refine ev_retz rfl (by first | decide | exact zb_01 _) ?_
    refine ev_gV [false] [] rfl ?_
    refine ev_inV 2 k_MM_336 h_MM_keep rfl rfl rfl rfl rfl ⟨by decide, by decide⟩ rfl ?_
    refine ev_gV [] [] rfl ?_
    refine ev_ret rfl ?_
    refine ev_g0 rfl ?_
    refine ev_ret rfl ?_
    exact ⟨rfl, xj, xd, xf, (u3 xo 0 t a (none)), xi, xn, nI 0, rfl, bdd, lf_V, lf_V, (CU_hol hC ht ha (fun _ h => by cases h) lf_V lf_V), (MU_hol hM ht ha lf_V lf_V (fun i hi => (rc_isor hC hi).2.2.1))⟩
  · skip
    have hq := rc_ihol hC ht hb _ ho
    have zq := rc_isor hC hq
    have yq := rc_imad hC
    refine ct_of h_HA_perform rfl rfl rfl ?_
    refine ev_gV [] [some 37] rfl ?_
    refine ev_inV 1 k_HA_15 h_SD_t rfl rfl rfl rfl rfl ⟨by decide, by decide⟩ rfl ?_
    refine ev_gV [] [some (94 + 4 * q)] rfl ?_
    refine ev_reta rfl ?_
    refine ev_g0 rfl ?_
    refine ev_inS 4 k_HA_57 h_HA_takeAs rfl rfl rfl rfl ⟨by decide, by decide⟩ rfl ?_
    refine ev_g0 rfl ?_
    refine ev_inV 1 k_HA_61 h_TH_isA rfl rfl rfl rfl rfl ⟨by decide, by decide⟩ rfl ?_
    refine ev_gV [false, true, false, false] [none] rfl ?_
    refine ev_inV 0 k_TH_73 h_TH_isRow rfl rfl rfl rfl rfl ⟨by decide, by decide⟩ rfl ?_
    refine ev_g0 rfl ?_
    refine ev_bV rfl rfl (fun h_1 => ?_) (fun h_1 => ?_)
    · skip
      refine ev_g0 rfl ?_
      refine ev_retz rfl (by first | decide | exact zb_01 _) ?_
      refine ev_gV [false] [] rfl ?_
      refine ev_inS 2 k_TH_77 h_TH_isUnder rfl rfl rfl rfl ⟨by decide, by decide⟩ rfl ?_
      refine ev_gV [true] [] rfl ?_
      refine ev_retz rfl (by first | decide | exact zb_01 _) ?_
      refine ev_gV [false] [] rfl ?_
      refine ev_retz rfl (by first | decide | exact zb_01 _) ?_
      refine ev_gV [true] [] rfl ?_
      refine ev_inV 2 k_HA_21 h_SD_setT rfl rfl rfl rfl rfl ⟨by decide, by decide⟩ rfl ?_
      refine ev_gV [] [] rfl ?_
      refine ev_ret rfl ?_
      refine ev_g0 rfl ?_
      refine ev_reti rfl ?_
      refine ev_g0 rfl ?_
      refine ev_reti rfl ?_
      refine ct_of h_MM_handles rfl rfl rfl ?_
      refine ev_g0 rfl ?_
      refine ev_inV 1 k_MM_344 h_MM_hold rfl rfl rfl rfl rfl ⟨by decide, by decide⟩ rfl ?_
      refine ev_gV [] [] rfl ?_
      refine ev_reti rfl ?_
      refine ev_gV [] [some 13] rfl ?_
      refine ev_inV 2 k_MM_354 h_MM_takes rfl rfl rfl rfl rfl ⟨by decide, by decide⟩ rfl ?_
      refine ev_gV [false] [] rfl ?_
      refine ev_inV 2 k_MM_202 h_MM_isKind rfl rfl rfl rfl rfl ⟨by decide, by decide⟩ rfl ?_
      refine ev_gV [false, false, true, true, false, false] [] rfl ?_
      refine ev_inS 2 k_MM_192 h_MM_isOf rfl rfl rfl rfl ⟨by decide, by decide⟩ rfl ?_
      refine ev_gV [true] [] rfl ?_
      refine ev_retz rfl (by first | decide | exact zb_01 _) ?_
      refine ev_gV [false] [] rfl ?_
      refine ev_retz rfl (by first | decide | exact zb_01 _) ?_
      refine ev_gV [true] [] rfl ?_
      refine ev_retz rfl (by first | decide | exact zb_01 _) ?_
      refine ev_gV [false] [] rfl ?_
      refine ev_inV 2 k_MM_336 h_MM_keep rfl rfl rfl rfl rfl ⟨by decide, by decide⟩ rfl ?_
      refine ev_gV [] [] rfl ?_
      refine ev_ret rfl ?_
      refine ev_g0 rfl ?_
      refine ev_ret rfl ?_
      exact ⟨rfl, xj, xd, xf, (u3 xo 0 t a (some q)), xi, xn, nI 0, rfl, bdd, lf_V, lf_V, (CU_hol hC ht ha (fun _ h => by cases h; exact hq) lf_V lf_V), (MU_hol hM ht ha lf_V lf_V (fun i hi => (rc_isor hC hi).2.2.1))⟩
    · skip
      refine ev_g0 rfl ?_
      refine ev_retz rfl (by first | decide | exact zb_01 _) ?_
      refine ev_gV [true] [] rfl ?_
      refine ev_retz rfl (by first | decide | exact zb_01 _) ?_
      refine ev_gV [false] [] rfl ?_
      refine ev_reti rfl ?_
      refine ev_g0 rfl ?_
      refine ev_reti rfl ?_
      refine ct_of h_MM_handles rfl rfl rfl ?_
      refine ev_g0 rfl ?_
      refine ev_inV 1 k_MM_344 h_MM_hold rfl rfl rfl rfl rfl ⟨by decide, by decide⟩ rfl ?_
      refine ev_gV [] [] rfl ?_
      refine ev_reti rfl ?_
      refine ev_gV [] [some 13] rfl ?_
      refine ev_inV 2 k_MM_354 h_MM_takes rfl rfl rfl rfl rfl ⟨by decide, by decide⟩ rfl ?_
      refine ev_gV [false] [] rfl ?_
      refine ev_inV 2 k_MM_202 h_MM_isKind rfl rfl rfl rfl rfl ⟨by decide, by decide⟩ rfl ?_
      refine ev_gV [false, false, true, true, false, true] [] rfl ?_
      refine ev_retz rfl (by first | decide | exact zb_01 _) ?_
      refine ev_gV [false] [] rfl ?_
      refine ev_retz rfl (by first | decide | exact zb_01 _) ?_
      refine ev_gV [true] [] rfl ?_
      refine ev_ret rfl ?_
      exact ⟨rfl, xj, xd, xf, xo, xi, xn, nI 3, rfl, bdd, lf_V, lf_V, hC, hM⟩
theorem A48_17 {ci : Nat → Nat → Nat → Int32} {cn : Nat → Nat → Nat → Nat} {co : Nat → Option Nat} {xj : Nat → Nat → Nat → Int64} {xd : Nat → Nat → Nat → UInt64} {xf : Nat → Nat → Nat → UInt32} {xo : Nat → Nat → Nat → Option Nat} {xi : Nat → Nat → Nat → Int32} {xn : Nat → Nat → Nat → Nat} {K : Nat → Nat} {I : Nat → Nat → Int32} {J : Nat → Nat → Int64} {F : Nat → Nat → UInt32} {D : Nat → Nat → UInt64} {R : Nat → Nat → Option Nat} {nx sl : Nat} {Km : Nat → Nat} {Im : Nat → Nat → Int32} {Jm : Nat → Nat → Int64} {Fm : Nat → Nat → UInt32} {Dm : Nat → Nat → UInt64} {Rm : Nat → Nat → Option Nat} {nxm slm : Nat} (hC : RC ci cn co xj xd xf xo xi xn I J F D R nx sl) (hM : RM ci cn co xj xd xf xo xi xn Im Jm Dm) {t a b : Nat} {go : Int32} (ht : t < 3) (ha : a < 8) (hb : b < 8) (x1 : Im 6 39 = nI t) (x2 : Im 6 40 = nI a) (x3 : Im 6 41 = nI b) (x4 : Im 6 42 = nI 17) (x5 : Im 6 43 = nI 0) (x6 : Im 6 44 = go) : Ct Y_HA_perform [vr 1 55, vr 8 (32 + 7 * t), vi (nI 48), vi (nI a), vi (nI b), vi (nI 17)] (K, I, J, F, D, R, nx, sl) (fun r μ1 => Ct Y_MM_handles [vr 11 6, vi (nI 48)] (Km, Im, Jm, Fm, Dm, Rm, nxm, slm) (fun r2 μ2 => r2 = none ∧ QA ci cn co go r μ1 μ2)) := by
  rcases ho : xo 0 t b with _ | q
  · skip
    refine ct_of h_HA_perform rfl rfl rfl ?_
    refine ev_gV [] [some 36] rfl ?_
    refine ev_inV 1 k_HA_15 h_SD_t rfl rfl rfl rfl rfl ⟨by decide, by decide⟩ rfl ?_
    refine ev_gV [] [none] rfl ?_
    refine ev_retn rfl ?_
    refine ev_g0 rfl ?_
    refine ev_inS 2 k_HA_49 h_HA_isA rfl rfl rfl rfl ⟨by decide, by decide⟩ rfl ?_
    refine ev_g0 rfl ?_
    refine ev_retz rfl (by first | decide | exact zb_01 _) ?_
    refine ev_gV [true] [] rfl ?_
    refine ev_inV 2 k_HA_53 h_SD_setN rfl rfl rfl rfl rfl ⟨by decide, by decide⟩ rfl ?_
    refine ev_gV [] [] rfl ?_
    refine ev_ret rfl ?_
    refine ev_g0 rfl ?_
    refine ev_reti rfl ?_
    refine ct_of h_MM_handles rfl rfl rfl ?_
    refine ev_g0 rfl ?_
    refine ev_inV 1 k_MM_344 h_MM_hold rfl rfl rfl rfl rfl ⟨by decide, by decide⟩ rfl ?_
    refine ev_gV [] [] rfl ?_
    refine ev_reti rfl ?_
    refine ev_gV [true] [some 12] rfl ?_
    refine ev_inV 2 k_MM_288 h_MM_lay rfl rfl rfl rfl rfl ⟨by decide, by decide⟩ rfl ?_
    refine ev_gV [] [] rfl ?_
    refine ev_ret rfl ?_
    refine ev_g0 rfl ?_
    refine ev_ret rfl ?_
    exact ⟨rfl, (u3 xj 0 t a ((nI 0).toInt64)), xd, xf, xo, xi, xn, nI 0, rfl, bdd, lf_V, lf_V, (CU_num hC ht ha lf_V lf_V), (MU_num hM ht ha lf_V lf_V (fun i hi => (rc_isor hC hi).2.2.1))⟩
  · skip
    have hq := rc_ihol hC ht hb _ ho
    have zq := rc_isor hC hq
    have yq := rc_imad hC
    refine ct_of h_HA_perform rfl rfl rfl ?_
    refine ev_gV [] [some 36] rfl ?_
    refine ev_inV 1 k_HA_15 h_SD_t rfl rfl rfl rfl rfl ⟨by decide, by decide⟩ rfl ?_
    refine ev_gV [] [some (94 + 4 * q)] rfl ?_
    refine ev_reta rfl ?_
    refine ev_g0 rfl ?_
    refine ev_inS 2 k_HA_49 h_HA_isA rfl rfl rfl rfl ⟨by decide, by decide⟩ rfl ?_
    refine ev_g0 rfl ?_
    refine ev_inV 1 k_HA_61 h_TH_isA rfl rfl rfl rfl rfl ⟨by decide, by decide⟩ rfl ?_
    refine ev_gV [false, true, false, false] [none] rfl ?_
    refine ev_inV 0 k_TH_73 h_TH_isRow rfl rfl rfl rfl rfl ⟨by decide, by decide⟩ rfl ?_
    refine ev_g0 rfl ?_
    refine ev_bV rfl rfl (fun h_1 => ?_) (fun h_1 => ?_)
    · skip
      refine ev_g0 rfl ?_
      refine ev_retz rfl (by first | decide | exact zb_01 _) ?_
      refine ev_gV [false] [] rfl ?_
      refine ev_inS 2 k_TH_77 h_TH_isUnder rfl rfl rfl rfl ⟨by decide, by decide⟩ rfl ?_
      refine ev_gV [false] [] rfl ?_
      refine ev_bV rfl rfl (fun h_2 => ?_) (fun h_2 => ?_)
      · skip
        refine ev_g0 rfl ?_
        refine ev_retz rfl (by first | decide | exact zb_01 _) ?_
        refine ev_gV [false] [] rfl ?_
        refine ev_retz rfl (by first | decide | exact zb_01 _) ?_
        refine ev_gV [false] [] rfl ?_
        refine ev_retz rfl (by first | decide | exact zb_01 _) ?_
        refine ev_gV [false] [] rfl ?_
        refine ev_inV 2 k_HA_53 h_SD_setN rfl rfl rfl rfl rfl ⟨by decide, by decide⟩ rfl ?_
        refine ev_gV [] [] rfl ?_
        refine ev_ret rfl ?_
        refine ev_g0 rfl ?_
        refine ev_reti rfl ?_
        refine ct_of h_MM_handles rfl rfl rfl ?_
        refine ev_g0 rfl ?_
        refine ev_inV 1 k_MM_344 h_MM_hold rfl rfl rfl rfl rfl ⟨by decide, by decide⟩ rfl ?_
        refine ev_gV [] [] rfl ?_
        refine ev_reti rfl ?_
        refine ev_gV [false] [some 12] rfl ?_
        refine ev_inV 2 k_MM_202 h_MM_isKind rfl rfl rfl rfl rfl ⟨by decide, by decide⟩ rfl ?_
        refine ev_gV [false, false, true, true, false, false] [] rfl ?_
        refine ev_inS 2 k_MM_192 h_MM_isOf rfl rfl rfl rfl ⟨by decide, by decide⟩ rfl ?_
        refine ev_gV [false, true] [] rfl ?_
        refine ev_retz rfl (by first | decide | exact zb_01 _) ?_
        refine ev_gV [false] [] rfl ?_
        refine ev_retz rfl (by first | decide | exact zb_01 _) ?_
        refine ev_gV [false] [] rfl ?_
        refine ev_inV 2 k_MM_288 h_MM_lay rfl rfl rfl rfl rfl ⟨by decide, by decide⟩ rfl ?_
        refine ev_gV [] [] rfl ?_
        refine ev_ret rfl ?_
        refine ev_g0 rfl ?_
        refine ev_ret rfl ?_
        exact ⟨rfl, (u3 xj 0 t a ((nI 1).toInt64)), xd, xf, xo, xi, xn, nI 0, rfl, bdd, lf_V, lf_V, (CU_num hC ht ha lf_V lf_V), (MU_num hM ht ha lf_V lf_V (fun i hi => (rc_isor hC hi).2.2.1))⟩
      · skip
        refine ev_g0 rfl ?_
        refine ev_bV rfl rfl (fun h_3 => ?_) (fun h_3 => ?_)
        · skip
          refine ev_g0 rfl ?_
          refine ev_retz rfl (by first | decide | exact zb_01 _) ?_
          refine ev_gV [true] [] rfl ?_
          refine ev_retz rfl (by first | decide | exact zb_01 _) ?_
          refine ev_gV [true] [] rfl ?_
          refine ev_retz rfl (by first | decide | exact zb_01 _) ?_
          refine ev_gV [true] [] rfl ?_
          refine ev_inV 2 k_HA_53 h_SD_setN rfl rfl rfl rfl rfl ⟨by decide, by decide⟩ rfl ?_
          refine ev_gV [] [] rfl ?_
          refine ev_ret rfl ?_
          refine ev_g0 rfl ?_
          refine ev_reti rfl ?_
          refine ct_of h_MM_handles rfl rfl rfl ?_
          refine ev_g0 rfl ?_
          refine ev_inV 1 k_MM_344 h_MM_hold rfl rfl rfl rfl rfl ⟨by decide, by decide⟩ rfl ?_
          refine ev_gV [] [] rfl ?_
          refine ev_reti rfl ?_
          refine ev_gV [false] [some 12] rfl ?_
          refine ev_inV 2 k_MM_202 h_MM_isKind rfl rfl rfl rfl rfl ⟨by decide, by decide⟩ rfl ?_
          refine ev_gV [false, false, true, true, false, false] [] rfl ?_
          refine ev_inS 2 k_MM_192 h_MM_isOf rfl rfl rfl rfl ⟨by decide, by decide⟩ rfl ?_
          refine ev_gV [false, false, false, false, false, true] [] rfl ?_
          refine ev_retz rfl (by first | decide | exact zb_01 _) ?_
          refine ev_gV [true] [] rfl ?_
          refine ev_retz rfl (by first | decide | exact zb_01 _) ?_
          refine ev_gV [true] [] rfl ?_
          refine ev_inV 2 k_MM_288 h_MM_lay rfl rfl rfl rfl rfl ⟨by decide, by decide⟩ rfl ?_
          refine ev_gV [] [] rfl ?_
          refine ev_ret rfl ?_
          refine ev_g0 rfl ?_
          refine ev_ret rfl ?_
          exact ⟨rfl, (u3 xj 0 t a ((nI 0).toInt64)), xd, xf, xo, xi, xn, nI 0, rfl, bdd, lf_V, lf_V, (CU_num hC ht ha lf_V lf_V), (MU_num hM ht ha lf_V lf_V (fun i hi => (rc_isor hC hi).2.2.1))⟩
        · skip
          refine ev_g0 rfl ?_
          refine ev_bV rfl rfl (fun h_4 => ?_) (fun h_4 => ?_)
          · skip
            refine ev_g0 rfl ?_
            refine ev_retz rfl (by first | decide | exact zb_01 _) ?_
            refine ev_gV [true] [] rfl ?_
            refine ev_retz rfl (by first | decide | exact zb_01 _) ?_
            refine ev_gV [true] [] rfl ?_
            refine ev_retz rfl (by first | decide | exact zb_01 _) ?_
            refine ev_gV [true] [] rfl ?_
            refine ev_inV 2 k_HA_53 h_SD_setN rfl rfl rfl rfl rfl ⟨by decide, by decide⟩ rfl ?_
            refine ev_gV [] [] rfl ?_
            refine ev_ret rfl ?_
            refine ev_g0 rfl ?_
            refine ev_reti rfl ?_
            refine ct_of h_MM_handles rfl rfl rfl ?_
            refine ev_g0 rfl ?_
            refine ev_inV 1 k_MM_344 h_MM_hold rfl rfl rfl rfl rfl ⟨by decide, by decide⟩ rfl ?_
            refine ev_gV [] [] rfl ?_
            refine ev_reti rfl ?_
            refine ev_gV [false] [some 12] rfl ?_
            refine ev_inV 2 k_MM_202 h_MM_isKind rfl rfl rfl rfl rfl ⟨by decide, by decide⟩ rfl ?_
            refine ev_gV [false, false, true, true, false, false] [] rfl ?_
            refine ev_inS 2 k_MM_192 h_MM_isOf rfl rfl rfl rfl ⟨by decide, by decide⟩ rfl ?_
            refine ev_gV [false, false, false, false, false, true] [] rfl ?_
            refine ev_retz rfl (by first | decide | exact zb_01 _) ?_
            refine ev_gV [true] [] rfl ?_
            refine ev_retz rfl (by first | decide | exact zb_01 _) ?_
            refine ev_gV [true] [] rfl ?_
            refine ev_inV 2 k_MM_288 h_MM_lay rfl rfl rfl rfl rfl ⟨by decide, by decide⟩ rfl ?_
            refine ev_gV [] [] rfl ?_
            refine ev_ret rfl ?_
            refine ev_g0 rfl ?_
            refine ev_ret rfl ?_
            exact ⟨rfl, (u3 xj 0 t a ((nI 0).toInt64)), xd, xf, xo, xi, xn, nI 0, rfl, bdd, lf_V, lf_V, (CU_num hC ht ha lf_V lf_V), (MU_num hM ht ha lf_V lf_V (fun i hi => (rc_isor hC hi).2.2.1))⟩
          · skip
            refine ev_g0 rfl ?_
            refine ev_retz rfl (by first | decide | exact zb_01 _) ?_
            refine ev_gV [false] [] rfl ?_
            refine ev_retz rfl (by first | decide | exact zb_01 _) ?_
            refine ev_gV [false] [] rfl ?_
            refine ev_retz rfl (by first | decide | exact zb_01 _) ?_
            refine ev_gV [false] [] rfl ?_
            refine ev_inV 2 k_HA_53 h_SD_setN rfl rfl rfl rfl rfl ⟨by decide, by decide⟩ rfl ?_
            refine ev_gV [] [] rfl ?_
            refine ev_ret rfl ?_
            refine ev_g0 rfl ?_
            refine ev_reti rfl ?_
            refine ct_of h_MM_handles rfl rfl rfl ?_
            refine ev_g0 rfl ?_
            refine ev_inV 1 k_MM_344 h_MM_hold rfl rfl rfl rfl rfl ⟨by decide, by decide⟩ rfl ?_
            refine ev_gV [] [] rfl ?_
            refine ev_reti rfl ?_
            refine ev_gV [false] [some 12] rfl ?_
            refine ev_inV 2 k_MM_202 h_MM_isKind rfl rfl rfl rfl rfl ⟨by decide, by decide⟩ rfl ?_
            refine ev_gV [false, false, true, true, false, false] [] rfl ?_
            refine ev_inS 2 k_MM_192 h_MM_isOf rfl rfl rfl rfl ⟨by decide, by decide⟩ rfl ?_
            refine ev_gV [false, false, false] [] rfl ?_
            refine ev_bV rfl rfl (fun h_5 => ?_) (fun h_5 => ?_)
            · skip
              refine ev_g0 rfl ?_
              refine ev_retz rfl (by first | decide | exact zb_01 _) ?_
              refine ev_gV [false] [] rfl ?_
              refine ev_retz rfl (by first | decide | exact zb_01 _) ?_
              refine ev_gV [false] [] rfl ?_
              refine ev_inV 2 k_MM_288 h_MM_lay rfl rfl rfl rfl rfl ⟨by decide, by decide⟩ rfl ?_
              refine ev_gV [] [] rfl ?_
              refine ev_ret rfl ?_
              refine ev_g0 rfl ?_
              refine ev_ret rfl ?_
              exact ⟨rfl, (u3 xj 0 t a ((nI 1).toInt64)), xd, xf, xo, xi, xn, nI 0, rfl, bdd, lf_V, lf_V, (CU_num hC ht ha lf_V lf_V), (MU_num hM ht ha lf_V lf_V (fun i hi => (rc_isor hC hi).2.2.1))⟩
            · skip
              refine ev_gV [true] [] rfl ?_
              refine ev_retz rfl (by first | decide | exact zb_01 _) ?_
              refine ev_gV [false] [] rfl ?_
              refine ev_retz rfl (by first | decide | exact zb_01 _) ?_
              refine ev_gV [false] [] rfl ?_
              refine ev_inV 2 k_MM_288 h_MM_lay rfl rfl rfl rfl rfl ⟨by decide, by decide⟩ rfl ?_
              refine ev_gV [] [] rfl ?_
              refine ev_ret rfl ?_
              refine ev_g0 rfl ?_
              refine ev_ret rfl ?_
              exact ⟨rfl, (u3 xj 0 t a ((nI 1).toInt64)), xd, xf, xo, xi, xn, nI 0, rfl, bdd, lf_V, lf_V, (CU_num hC ht ha lf_V lf_V), (MU_num hM ht ha lf_V lf_V (fun i hi => (rc_isor hC hi).2.2.1))⟩
    · skip
      refine ev_g0 rfl ?_
      refine ev_retz rfl (by first | decide | exact zb_01 _) ?_
      refine ev_gV [true] [] rfl ?_
      refine ev_retz rfl (by first | decide | exact zb_01 _) ?_
      refine ev_gV [true] [] rfl ?_
      refine ev_retz rfl (by first | decide | exact zb_01 _) ?_
      refine ev_gV [true] [] rfl ?_
      refine ev_inV 2 k_HA_53 h_SD_setN rfl rfl rfl rfl rfl ⟨by decide, by decide⟩ rfl ?_
      refine ev_gV [] [] rfl ?_
      refine ev_ret rfl ?_
      refine ev_g0 rfl ?_
      refine ev_reti rfl ?_
      refine ct_of h_MM_handles rfl rfl rfl ?_
      refine ev_g0 rfl ?_
      refine ev_inV 1 k_MM_344 h_MM_hold rfl rfl rfl rfl rfl ⟨by decide, by decide⟩ rfl ?_
      refine ev_gV [] [] rfl ?_
      refine ev_reti rfl ?_
      refine ev_gV [false] [some 12] rfl ?_
      refine ev_inV 2 k_MM_202 h_MM_isKind rfl rfl rfl rfl rfl ⟨by decide, by decide⟩ rfl ?_
      refine ev_gV [false, false, true, true, false, true] [] rfl ?_
      refine ev_retz rfl (by first | decide | exact zb_01 _) ?_
      refine ev_gV [true] [] rfl ?_
      refine ev_inV 2 k_MM_288 h_MM_lay rfl rfl rfl rfl rfl ⟨by decide, by decide⟩ rfl ?_
      refine ev_gV [] [] rfl ?_
      refine ev_ret rfl ?_
      refine ev_g0 rfl ?_
      refine ev_ret rfl ?_
      exact ⟨rfl, (u3 xj 0 t a ((nI 0).toInt64)), xd, xf, xo, xi, xn, nI 0, rfl, bdd, lf_V, lf_V, (CU_num hC ht ha lf_V lf_V), (MU_num hM ht ha lf_V lf_V (fun i hi => (rc_isor hC hi).2.2.1))⟩
theorem A49_17 {ci : Nat → Nat → Nat → Int32} {cn : Nat → Nat → Nat → Nat} {co : Nat → Option Nat} {xj : Nat → Nat → Nat → Int64} {xd : Nat → Nat → Nat → UInt64} {xf : Nat → Nat → Nat → UInt32} {xo : Nat → Nat → Nat → Option Nat} {xi : Nat → Nat → Nat → Int32} {xn : Nat → Nat → Nat → Nat} {K : Nat → Nat} {I : Nat → Nat → Int32} {J : Nat → Nat → Int64} {F : Nat → Nat → UInt32} {D : Nat → Nat → UInt64} {R : Nat → Nat → Option Nat} {nx sl : Nat} {Km : Nat → Nat} {Im : Nat → Nat → Int32} {Jm : Nat → Nat → Int64} {Fm : Nat → Nat → UInt32} {Dm : Nat → Nat → UInt64} {Rm : Nat → Nat → Option Nat} {nxm slm : Nat} (hC : RC ci cn co xj xd xf xo xi xn I J F D R nx sl) (hM : RM ci cn co xj xd xf xo xi xn Im Jm Dm) {t a b : Nat} {go : Int32} (ht : t < 3) (ha : a < 8) (hb : b < 8) (x1 : Im 6 39 = nI t) (x2 : Im 6 40 = nI a) (x3 : Im 6 41 = nI b) (x4 : Im 6 42 = nI 17) (x5 : Im 6 43 = nI 0) (x6 : Im 6 44 = go) : Ct Y_HA_perform [vr 1 55, vr 8 (32 + 7 * t), vi (nI 49), vi (nI a), vi (nI b), vi (nI 17)] (K, I, J, F, D, R, nx, sl) (fun r μ1 => Ct Y_MM_handles [vr 11 6, vi (nI 49)] (Km, Im, Jm, Fm, Dm, Rm, nxm, slm) (fun r2 μ2 => r2 = none ∧ QA ci cn co go r μ1 μ2)) := by
  rcases ho : xo 0 t b with _ | q
  · skip
    refine ct_of h_HA_perform rfl rfl rfl ?_
    refine ev_gV [] [some 37] rfl ?_
    refine ev_inV 1 k_HA_15 h_SD_t rfl rfl rfl rfl rfl ⟨by decide, by decide⟩ rfl ?_
    refine ev_gV [] [none] rfl ?_
    refine ev_retn rfl ?_
    refine ev_g0 rfl ?_
    refine ev_inS 4 k_HA_57 h_HA_takeAs rfl rfl rfl rfl ⟨by decide, by decide⟩ rfl ?_
    refine ev_g0 rfl ?_
    refine ev_inV 2 k_HA_21 h_SD_setT rfl rfl rfl rfl rfl ⟨by decide, by decide⟩ rfl ?_
    refine ev_gV [] [] rfl ?_
    refine ev_ret rfl ?_
    refine ev_g0 rfl ?_
    refine ev_reti rfl ?_
    refine ev_g0 rfl ?_
    refine ev_reti rfl ?_
    refine ct_of h_MM_handles rfl rfl rfl ?_
    refine ev_g0 rfl ?_
    refine ev_inV 1 k_MM_344 h_MM_hold rfl rfl rfl rfl rfl ⟨by decide, by decide⟩ rfl ?_
    refine ev_gV [] [] rfl ?_
    refine ev_reti rfl ?_
    refine ev_gV [] [some 13] rfl ?_
    refine ev_inV 2 k_MM_354 h_MM_takes rfl rfl rfl rfl rfl ⟨by decide, by decide⟩ rfl ?_
    refine ev_gV [true] [] rfl ?_
    refine ev_retz rfl (by first | decide | exact zb_01 _) ?_
    refine ev_gV [false] [] rfl ?_
    refine ev_inV 2 k_MM_336 h_MM_keep rfl rfl rfl rfl rfl ⟨by decide, by decide⟩ rfl ?_
    refine ev_gV [] [] rfl ?_
    refine ev_ret rfl ?_
    refine ev_g0 rfl ?_
    refine ev_ret rfl ?_
    exact ⟨rfl, xj, xd, xf, (u3 xo 0 t a (none)), xi, xn, nI 0, rfl, bdd, lf_V, lf_V, (CU_hol hC ht ha (fun _ h => by cases h) lf_V lf_V), (MU_hol hM ht ha lf_V lf_V (fun i hi => (rc_isor hC hi).2.2.1))⟩
  · skip
    have hq := rc_ihol hC ht hb _ ho
    have zq := rc_isor hC hq
    have yq := rc_imad hC
    refine ct_of h_HA_perform rfl rfl rfl ?_
    refine ev_gV [] [some 37] rfl ?_
    refine ev_inV 1 k_HA_15 h_SD_t rfl rfl rfl rfl rfl ⟨by decide, by decide⟩ rfl ?_
    refine ev_gV [] [some (94 + 4 * q)] rfl ?_
    refine ev_reta rfl ?_
    refine ev_g0 rfl ?_
    refine ev_inS 4 k_HA_57 h_HA_takeAs rfl rfl rfl rfl ⟨by decide, by decide⟩ rfl ?_
    refine ev_g0 rfl ?_
    refine ev_inV 1 k_HA_61 h_TH_isA rfl rfl rfl rfl rfl ⟨by decide, by decide⟩ rfl ?_
    refine ev_gV [false, true, false, false] [none] rfl ?_
    refine ev_inV 0 k_TH_73 h_TH_isRow rfl rfl rfl rfl rfl ⟨by decide, by decide⟩ rfl ?_
    refine ev_g0 rfl ?_
    refine ev_bV rfl rfl (fun h_1 => ?_) (fun h_1 => ?_)
    · skip
      refine ev_g0 rfl ?_
      refine ev_retz rfl (by first | decide | exact zb_01 _) ?_
      refine ev_gV [false] [] rfl ?_
      refine ev_inS 2 k_TH_77 h_TH_isUnder rfl rfl rfl rfl ⟨by decide, by decide⟩ rfl ?_
      refine ev_gV [false] [] rfl ?_
      refine ev_bV rfl rfl (fun h_2 => ?_) (fun h_2 => ?_)
      · skip
        refine ev_g0 rfl ?_
        refine ev_retz rfl (by first | decide | exact zb_01 _) ?_
        refine ev_gV [false] [] rfl ?_
        refine ev_retz rfl (by first | decide | exact zb_01 _) ?_
        refine ev_gV [true] [] rfl ?_
        refine ev_inV 2 k_HA_21 h_SD_setT rfl rfl rfl rfl rfl ⟨by decide, by decide⟩ rfl ?_
        refine ev_gV [] [] rfl ?_
        refine ev_ret rfl ?_
        refine ev_g0 rfl ?_
        refine ev_reti rfl ?_
        refine ev_g0 rfl ?_
        refine ev_reti rfl ?_
        refine ct_of h_MM_handles rfl rfl rfl ?_
        refine ev_g0 rfl ?_
        refine ev_inV 1 k_MM_344 h_MM_hold rfl rfl rfl rfl rfl ⟨by decide, by decide⟩ rfl ?_
        refine ev_gV [] [] rfl ?_
        refine ev_reti rfl ?_
        refine ev_gV [] [some 13] rfl ?_
        refine ev_inV 2 k_MM_354 h_MM_takes rfl rfl rfl rfl rfl ⟨by decide, by decide⟩ rfl ?_
        refine ev_gV [false] [] rfl ?_
        refine ev_inV 2 k_MM_202 h_MM_isKind rfl rfl rfl rfl rfl ⟨by decide, by decide⟩ rfl ?_
        refine ev_gV [false, false, true, true, false, false] [] rfl ?_
        refine ev_inS 2 k_MM_192 h_MM_isOf rfl rfl rfl rfl ⟨by decide, by decide⟩ rfl ?_
        refine ev_gV [false, true] [] rfl ?_
        refine ev_retz rfl (by first | decide | exact zb_01 _) ?_
        refine ev_gV [false] [] rfl ?_
        refine ev_retz rfl (by first | decide | exact zb_01 _) ?_
        refine ev_gV [true] [] rfl ?_
        refine ev_retz rfl (by first | decide | exact zb_01 _) ?_
        refine ev_gV [false] [] rfl ?_
        refine ev_inV 2 k_MM_336 h_MM_keep rfl rfl rfl rfl rfl ⟨by decide, by decide⟩ rfl ?_
        refine ev_gV [] [] rfl ?_
        refine ev_ret rfl ?_
        refine ev_g0 rfl ?_
        refine ev_ret rfl ?_
        exact ⟨rfl, xj, xd, xf, (u3 xo 0 t a (some q)), xi, xn, nI 0, rfl, bdd, lf_V, lf_V, (CU_hol hC ht ha (fun _ h => by cases h; exact hq) lf_V lf_V), (MU_hol hM ht ha lf_V lf_V (fun i hi => (rc_isor hC hi).2.2.1))⟩
      · skip
        refine ev_g0 rfl ?_
        refine ev_bV rfl rfl (fun h_3 => ?_) (fun h_3 => ?_)
        · skip
          refine ev_g0 rfl ?_
          refine ev_retz rfl (by first | decide | exact zb_01 _) ?_
          refine ev_gV [true] [] rfl ?_
          refine ev_retz rfl (by first | decide | exact zb_01 _) ?_
          refine ev_gV [false] [] rfl ?_
          refine ev_reti rfl ?_
          refine ev_g0 rfl ?_
          refine ev_reti rfl ?_
          refine ct_of h_MM_handles rfl rfl rfl ?_
          refine ev_g0 rfl ?_
          refine ev_inV 1 k_MM_344 h_MM_hold rfl rfl rfl rfl rfl ⟨by decide, by decide⟩ rfl ?_
          refine ev_gV [] [] rfl ?_
          refine ev_reti rfl ?_
          refine ev_gV [] [some 13] rfl ?_
          refine ev_inV 2 k_MM_354 h_MM_takes rfl rfl rfl rfl rfl ⟨by decide, by decide⟩ rfl ?_
          refine ev_gV [false] [] rfl ?_
          refine ev_inV 2 k_MM_202 h_MM_isKind rfl rfl rfl rfl rfl ⟨by decide, by decide⟩ rfl ?_
          refine ev_gV [false, false, true, true, false, false] [] rfl ?_
          refine ev_inS 2 k_MM_192 h_MM_isOf rfl rfl rfl rfl ⟨by decide, by decide⟩ rfl ?_
          refine ev_gV [false, false, false, false, false, true] [] rfl ?_
          refine ev_retz rfl (by first | decide | exact zb_01 _) ?_
          refine ev_gV [true] [] rfl ?_
          refine ev_retz rfl (by first | decide | exact zb_01 _) ?_
          refine ev_gV [false] [] rfl ?_
          refine ev_retz rfl (by first | decide | exact zb_01 _) ?_
          refine ev_gV [true] [] rfl ?_
          refine ev_ret rfl ?_
          exact ⟨rfl, xj, xd, xf, xo, xi, xn, nI 3, rfl, bdd, lf_V, lf_V, hC, hM⟩
        · skip
          refine ev_g0 rfl ?_
          refine ev_bV rfl rfl (fun h_4 => ?_) (fun h_4 => ?_)
          · skip
            refine ev_g0 rfl ?_
            refine ev_retz rfl (by first | decide | exact zb_01 _) ?_
            refine ev_gV [true] [] rfl ?_
            refine ev_retz rfl (by first | decide | exact zb_01 _) ?_
            refine ev_gV [false] [] rfl ?_
            refine ev_reti rfl ?_
            refine ev_g0 rfl ?_
            refine ev_reti rfl ?_
            refine ct_of h_MM_handles rfl rfl rfl ?_
            refine ev_g0 rfl ?_
            refine ev_inV 1 k_MM_344 h_MM_hold rfl rfl rfl rfl rfl ⟨by decide, by decide⟩ rfl ?_
            refine ev_gV [] [] rfl ?_
            refine ev_reti rfl ?_
            refine ev_gV [] [some 13] rfl ?_
            refine ev_inV 2 k_MM_354 h_MM_takes rfl rfl rfl rfl rfl ⟨by decide, by decide⟩ rfl ?_
            refine ev_gV [false] [] rfl ?_
            refine ev_inV 2 k_MM_202 h_MM_isKind rfl rfl rfl rfl rfl ⟨by decide, by decide⟩ rfl ?_
            refine ev_gV [false, false, true, true, false, false] [] rfl ?_
            refine ev_inS 2 k_MM_192 h_MM_isOf rfl rfl rfl rfl ⟨by decide, by decide⟩ rfl ?_
            refine ev_gV [false, false, false, false, false, true] [] rfl ?_
            refine ev_retz rfl (by first | decide | exact zb_01 _) ?_
            refine ev_gV [true] [] rfl ?_
            refine ev_retz rfl (by first | decide | exact zb_01 _) ?_
            refine ev_gV [false] [] rfl ?_
            refine ev_retz rfl (by first | decide | exact zb_01 _) ?_
            refine ev_gV [true] [] rfl ?_
            refine ev_ret rfl ?_
            exact ⟨rfl, xj, xd, xf, xo, xi, xn, nI 3, rfl, bdd, lf_V, lf_V, hC, hM⟩
          · skip
            refine ev_g0 rfl ?_
            refine ev_retz rfl (by first | decide | exact zb_01 _) ?_
            refine ev_gV [false] [] rfl ?_
            refine ev_retz rfl (by first | decide | exact zb_01 _) ?_
            refine ev_gV [true] [] rfl ?_
            refine ev_inV 2 k_HA_21 h_SD_setT rfl rfl rfl rfl rfl ⟨by decide, by decide⟩ rfl ?_
            refine ev_gV [] [] rfl ?_
            refine ev_ret rfl ?_
            refine ev_g0 rfl ?_
            refine ev_reti rfl ?_
            refine ev_g0 rfl ?_
            refine ev_reti rfl ?_
            refine ct_of h_MM_handles rfl rfl rfl ?_
            refine ev_g0 rfl ?_
            refine ev_inV 1 k_MM_344 h_MM_hold rfl rfl rfl rfl rfl ⟨by decide, by decide⟩ rfl ?_
            refine ev_gV [] [] rfl ?_
            refine ev_reti rfl ?_
            refine ev_gV [] [some 13] rfl ?_
            refine ev_inV 2 k_MM_354 h_MM_takes rfl rfl rfl rfl rfl ⟨by decide, by decide⟩ rfl ?_
            refine ev_gV [false] [] rfl ?_
            refine ev_inV 2 k_MM_202 h_MM_isKind rfl rfl rfl rfl rfl ⟨by decide, by decide⟩ rfl ?_
            refine ev_gV [false, false, true, true, false, false] [] rfl ?_
            refine ev_inS 2 k_MM_192 h_MM_isOf rfl rfl rfl rfl ⟨by decide, by decide⟩ rfl ?_
            refine ev_gV [false, false, false] [] rfl ?_
            refine ev_bV rfl rfl (fun h_5 => ?_) (fun h_5 => ?_)
            · skip
              refine ev_g0 rfl ?_
              refine ev_retz rfl (by first | decide | exact zb_01 _) ?_
              refine ev_gV [false] [] rfl ?_
              refine ev_retz rfl (by first | decide | exact zb_01 _) ?_
              refine ev_gV [true] [] rfl ?_
              refine ev_retz rfl (by first | decide | exact zb_01 _) ?_
              refine ev_gV [false] [] rfl ?_
              refine ev_inV 2 k_MM_336 h_MM_keep rfl rfl rfl rfl rfl ⟨by decide, by decide⟩ rfl ?_
              refine ev_gV [] [] rfl ?_
              refine ev_ret rfl ?_
              refine ev_g0 rfl ?_
              refine ev_ret rfl ?_
              exact ⟨rfl, xj, xd, xf, (u3 xo 0 t a (some q)), xi, xn, nI 0, rfl, bdd, lf_V, lf_V, (CU_hol hC ht ha (fun _ h => by cases h; exact hq) lf_V lf_V), (MU_hol hM ht ha lf_V lf_V (fun i hi => (rc_isor hC hi).2.2.1))⟩
            · skip
              refine ev_gV [true] [] rfl ?_
              refine ev_retz rfl (by first | decide | exact zb_01 _) ?_
              refine ev_gV [false] [] rfl ?_
              refine ev_retz rfl (by first | decide | exact zb_01 _) ?_
              refine ev_gV [true] [] rfl ?_
              refine ev_retz rfl (by first | decide | exact zb_01 _) ?_
              refine ev_gV [false] [] rfl ?_
              refine ev_inV 2 k_MM_336 h_MM_keep rfl rfl rfl rfl rfl ⟨by decide, by decide⟩ rfl ?_
              refine ev_gV [] [] rfl ?_
              refine ev_ret rfl ?_
              refine ev_g0 rfl ?_
              refine ev_ret rfl ?_
              exact ⟨rfl, xj, xd, xf, (u3 xo 0 t a (some q)), xi, xn, nI 0, rfl, bdd, lf_V, lf_V, (CU_hol hC ht ha (fun _ h => by cases h; exact hq) lf_V lf_V), (MU_hol hM ht ha lf_V lf_V (fun i hi => (rc_isor hC hi).2.2.1))⟩
    · skip
      refine ev_g0 rfl ?_
      refine ev_retz rfl (by first | decide | exact zb_01 _) ?_
      refine ev_gV [true] [] rfl ?_
      refine ev_retz rfl (by first | decide | exact zb_01 _) ?_
      refine ev_gV [false] [] rfl ?_
      refine ev_reti rfl ?_
      refine ev_g0 rfl ?_
      refine ev_reti rfl ?_
      refine ct_of h_MM_handles rfl rfl rfl ?_
      refine ev_g0 rfl ?_
      refine ev_inV 1 k_MM_344 h_MM_hold rfl rfl rfl rfl rfl ⟨by decide, by decide⟩ rfl ?_
      refine ev_gV [] [] rfl ?_
      refine ev_reti rfl ?_
      refine ev_gV [] [some 13] rfl ?_
      refine ev_inV 2 k_MM_354 h_MM_takes rfl rfl rfl rfl rfl ⟨by decide, by decide⟩ rfl ?_
      refine ev_gV [false] [] rfl ?_
      refine ev_inV 2 k_MM_202 h_MM_isKind rfl rfl rfl rfl rfl ⟨by decide, by decide⟩ rfl ?_
      refine ev_gV [false, false, true, true, false, true] [] rfl ?_
      refine ev_retz rfl (by first | decide | exact zb_01 _) ?_
      refine ev_gV [false] [] rfl ?_
      refine ev_retz rfl (by first | decide | exact zb_01 _) ?_
      refine ev_gV [true] [] rfl ?_
      refine ev_ret rfl ?_
      exact ⟨rfl, xj, xd, xf, xo, xi, xn, nI 3, rfl, bdd, lf_V, lf_V, hC, hM⟩
theorem A48_18 {ci : Nat → Nat → Nat → Int32} {cn : Nat → Nat → Nat → Nat} {co : Nat → Option Nat} {xj : Nat → Nat → Nat → Int64} {xd : Nat → Nat → Nat → UInt64} {xf : Nat → Nat → Nat → UInt32} {xo : Nat → Nat → Nat → Option Nat} {xi : Nat → Nat → Nat → Int32} {xn : Nat → Nat → Nat → Nat} {K : Nat → Nat} {I : Nat → Nat → Int32} {J : Nat → Nat → Int64} {F : Nat → Nat → UInt32} {D : Nat → Nat → UInt64} {R : Nat → Nat → Option Nat} {nx sl : Nat} {Km : Nat → Nat} {Im : Nat → Nat → Int32} {Jm : Nat → Nat → Int64} {Fm : Nat → Nat → UInt32} {Dm : Nat → Nat → UInt64} {Rm : Nat → Nat → Option Nat} {nxm slm : Nat} (hC : RC ci cn co xj xd xf xo xi xn I J F D R nx sl) (hM : RM ci cn co xj xd xf xo xi xn Im Jm Dm) {t a b : Nat} {go : Int32} (ht : t < 3) (ha : a < 8) (hb : b < 8) (x1 : Im 6 39 = nI t) (x2 : Im 6 40 = nI a) (x3 : Im 6 41 = nI b) (x4 : Im 6 42 = nI 18) (x5 : Im 6 43 = nI 0) (x6 : Im 6 44 = go) : Ct Y_HA_perform [vr 1 55, vr 8 (32 + 7 * t), vi (nI 48), vi (nI a), vi (nI b), vi (nI 18)] (K, I, J, F, D, R, nx, sl) (fun r μ1 => Ct Y_MM_handles [vr 11 6, vi (nI 48)] (Km, Im, Jm, Fm, Dm, Rm, nxm, slm) (fun r2 μ2 => r2 = none ∧ QA ci cn co go r μ1 μ2)) := by
  rcases ho : xo 0 t b with _ | q
  · skip
    refine ct_of h_HA_perform rfl rfl rfl ?_
    refine ev_gV [] [some 36] rfl ?_
    refine ev_inV 1 k_HA_15 h_SD_t rfl rfl rfl rfl rfl ⟨by decide, by decide⟩ rfl ?_
    refine ev_gV [] [none] rfl ?_
    refine ev_retn rfl ?_
    refine ev_g0 rfl ?_
    refine ev_inS 2 k_HA_49 h_HA_isA rfl rfl rfl rfl ⟨by decide, by decide⟩ rfl ?_
    refine ev_g0 rfl ?_
    refine ev_retz rfl (by first | decide | exact zb_01 _) ?_
    refine ev_gV [true] [] rfl ?_
    refine ev_inV 2 k_HA_53 h_SD_setN rfl rfl rfl rfl rfl ⟨by decide, by decide⟩ rfl ?_
    refine ev_gV [] [] rfl ?_
    refine ev_ret rfl ?_
    refine ev_g0 rfl ?_
    refine ev_reti rfl ?_
    refine ct_of h_MM_handles rfl rfl rfl ?_
    refine ev_g0 rfl ?_
    refine ev_inV 1 k_MM_344 h_MM_hold rfl rfl rfl rfl rfl ⟨by decide, by decide⟩ rfl ?_
    refine ev_gV [] [] rfl ?_
    refine ev_reti rfl ?_
    refine ev_gV [true] [some 12] rfl ?_
    refine ev_inV 2 k_MM_288 h_MM_lay rfl rfl rfl rfl rfl ⟨by decide, by decide⟩ rfl ?_
    refine ev_gV [] [] rfl ?_
    refine ev_ret rfl ?_
    refine ev_g0 rfl ?_
    refine ev_ret rfl ?_
    exact ⟨rfl, (u3 xj 0 t a ((nI 0).toInt64)), xd, xf, xo, xi, xn, nI 0, rfl, bdd, lf_V, lf_V, (CU_num hC ht ha lf_V lf_V), (MU_num hM ht ha lf_V lf_V (fun i hi => (rc_isor hC hi).2.2.1))⟩
  · skip
    have hq := rc_ihol hC ht hb _ ho
    have zq := rc_isor hC hq
    have yq := rc_imad hC
    refine ct_of h_HA_perform rfl rfl rfl ?_
    refine ev_gV [] [some 36] rfl ?_
    refine ev_inV 1 k_HA_15 h_SD_t rfl rfl rfl rfl rfl ⟨by decide, by decide⟩ rfl ?_
    refine ev_gV [] [some (94 + 4 * q)] rfl ?_
    refine ev_reta rfl ?_
    refine ev_g0 rfl ?_
    refine ev_inS 2 k_HA_49 h_HA_isA rfl rfl rfl rfl ⟨by decide, by decide⟩ rfl ?_
    refine ev_g0 rfl ?_
    refine ev_inV 1 k_HA_61 h_TH_isA rfl rfl rfl rfl rfl ⟨by decide, by decide⟩ rfl ?_
    refine ev_gV [false, true, false, false] [none] rfl ?_
    refine ev_inV 0 k_TH_73 h_TH_isRow rfl rfl rfl rfl rfl ⟨by decide, by decide⟩ rfl ?_
    refine ev_g0 rfl ?_
    refine ev_bV rfl rfl (fun h_1 => ?_) (fun h_1 => ?_)
    · skip
      refine ev_g0 rfl ?_
      refine ev_retz rfl (by first | decide | exact zb_01 _) ?_
      refine ev_gV [false] [] rfl ?_
      refine ev_inS 2 k_TH_77 h_TH_isUnder rfl rfl rfl rfl ⟨by decide, by decide⟩ rfl ?_
      refine ev_gV [false] [] rfl ?_
      refine ev_bV rfl rfl (fun h_2 => ?_) (fun h_2 => ?_)
      · skip
        refine ev_g0 rfl ?_
        refine ev_retz rfl (by first | decide | exact zb_01 _) ?_
        refine ev_gV [false] [] rfl ?_
        refine ev_retz rfl (by first | decide | exact zb_01 _) ?_
        refine ev_gV [false] [] rfl ?_
        refine ev_retz rfl (by first | decide | exact zb_01 _) ?_
        refine ev_gV [false] [] rfl ?_
        refine ev_inV 2 k_HA_53 h_SD_setN rfl rfl rfl rfl rfl ⟨by decide, by decide⟩ rfl ?_
        refine ev_gV [] [] rfl ?_
        refine ev_ret rfl ?_
        refine ev_g0 rfl ?_
        refine ev_reti rfl ?_
        refine ct_of h_MM_handles rfl rfl rfl ?_
        refine ev_g0 rfl ?_
        refine ev_inV 1 k_MM_344 h_MM_hold rfl rfl rfl rfl rfl ⟨by decide, by decide⟩ rfl ?_
        refine ev_gV [] [] rfl ?_
        refine ev_reti rfl ?_
        refine ev_gV [false] [some 12] rfl ?_
        refine ev_inV 2 k_MM_202 h_MM_isKind rfl rfl rfl rfl rfl ⟨by decide, by decide⟩ rfl ?_
        refine ev_gV [false, false, true, true, false, false] [] rfl ?_
        refine ev_inS 2 k_MM_192 h_MM_isOf rfl rfl rfl rfl ⟨by decide, by decide⟩ rfl ?_
        refine ev_gV [false, true] [] rfl ?_
        refine ev_retz rfl (by first | decide | exact zb_01 _) ?_
        refine ev_gV [false] [] rfl ?_
        refine ev_retz rfl (by first | decide | exact zb_01 _) ?_
        refine ev_gV [false] [] rfl ?_
        refine ev_inV 2 k_MM_288 h_MM_lay rfl rfl rfl rfl rfl ⟨by decide, by decide⟩ rfl ?_
        refine ev_gV [] [] rfl ?_
        refine ev_ret rfl ?_
        refine ev_g0 rfl ?_
        refine ev_ret rfl ?_
        exact ⟨rfl, (u3 xj 0 t a ((nI 1).toInt64)), xd, xf, xo, xi, xn, nI 0, rfl, bdd, lf_V, lf_V, (CU_num hC ht ha lf_V lf_V), (MU_num hM ht ha lf_V lf_V (fun i hi => (rc_isor hC hi).2.2.1))⟩
      · skip
        refine ev_g0 rfl ?_
        refine ev_bV rfl rfl (fun h_3 => ?_) (fun h_3 => ?_)
        · skip
          refine ev_g0 rfl ?_
          refine ev_retz rfl (by first | decide | exact zb_01 _) ?_
          refine ev_gV [true] [] rfl ?_
          refine ev_retz rfl (by first | decide | exact zb_01 _) ?_
          refine ev_gV [true] [] rfl ?_
          refine ev_retz rfl (by first | decide | exact zb_01 _) ?_
          refine ev_gV [true] [] rfl ?_
          refine ev_inV 2 k_HA_53 h_SD_setN rfl rfl rfl rfl rfl ⟨by decide, by decide⟩ rfl ?_
          refine ev_gV [] [] rfl ?_
          refine ev_ret rfl ?_
          refine ev_g0 rfl ?_
          refine ev_reti rfl ?_
          refine ct_of h_MM_handles rfl rfl rfl ?_
          refine ev_g0 rfl ?_
          refine ev_inV 1 k_MM_344 h_MM_hold rfl rfl rfl rfl rfl ⟨by decide, by decide⟩ rfl ?_
          refine ev_gV [] [] rfl ?_
          refine ev_reti rfl ?_
          refine ev_gV [false] [some 12] rfl ?_
          refine ev_inV 2 k_MM_202 h_MM_isKind rfl rfl rfl rfl rfl ⟨by decide, by decide⟩ rfl ?_
          refine ev_gV [false, false, true, true, false, false] [] rfl ?_
          refine ev_inS 2 k_MM_192 h_MM_isOf rfl rfl rfl rfl ⟨by decide, by decide⟩ rfl ?_
          refine ev_gV [false, false, true, false, true] [] rfl ?_
          refine ev_retz rfl (by first | decide | exact zb_01 _) ?_
          refine ev_gV [true] [] rfl ?_
          refine ev_retz rfl (by first | decide | exact zb_01 _) ?_
          refine ev_gV [true] [] rfl ?_
          refine ev_inV 2 k_MM_288 h_MM_lay rfl rfl rfl rfl rfl ⟨by decide, by decide⟩ rfl ?_
          refine ev_gV [] [] rfl ?_
          refine ev_ret rfl ?_
          refine ev_g0 rfl ?_
          refine ev_ret rfl ?_
          exact ⟨rfl, (u3 xj 0 t a ((nI 0).toInt64)), xd, xf, xo, xi, xn, nI 0, rfl, bdd, lf_V, lf_V, (CU_num hC ht ha lf_V lf_V), (MU_num hM ht ha lf_V lf_V (fun i hi => (rc_isor hC hi).2.2.1))⟩
        · skip
          refine ev_g0 rfl ?_
          refine ev_bV rfl rfl (fun h_4 => ?_) (fun h_4 => ?_)
          · skip
            refine ev_g0 rfl ?_
            refine ev_retz rfl (by first | decide | exact zb_01 _) ?_
            refine ev_gV [true] [] rfl ?_
            refine ev_retz rfl (by first | decide | exact zb_01 _) ?_
            refine ev_gV [true] [] rfl ?_
            refine ev_retz rfl (by first | decide | exact zb_01 _) ?_
            refine ev_gV [true] [] rfl ?_
            refine ev_inV 2 k_HA_53 h_SD_setN rfl rfl rfl rfl rfl ⟨by decide, by decide⟩ rfl ?_
            refine ev_gV [] [] rfl ?_
            refine ev_ret rfl ?_
            refine ev_g0 rfl ?_
            refine ev_reti rfl ?_
            refine ct_of h_MM_handles rfl rfl rfl ?_
            refine ev_g0 rfl ?_
            refine ev_inV 1 k_MM_344 h_MM_hold rfl rfl rfl rfl rfl ⟨by decide, by decide⟩ rfl ?_
            refine ev_gV [] [] rfl ?_
            refine ev_reti rfl ?_
            refine ev_gV [false] [some 12] rfl ?_
            refine ev_inV 2 k_MM_202 h_MM_isKind rfl rfl rfl rfl rfl ⟨by decide, by decide⟩ rfl ?_
            refine ev_gV [false, false, true, true, false, false] [] rfl ?_
            refine ev_inS 2 k_MM_192 h_MM_isOf rfl rfl rfl rfl ⟨by decide, by decide⟩ rfl ?_
            refine ev_gV [false, false, true, false, true] [] rfl ?_
            refine ev_retz rfl (by first | decide | exact zb_01 _) ?_
            refine ev_gV [true] [] rfl ?_
            refine ev_retz rfl (by first | decide | exact zb_01 _) ?_
            refine ev_gV [true] [] rfl ?_
            refine ev_inV 2 k_MM_288 h_MM_lay rfl rfl rfl rfl rfl ⟨by decide, by decide⟩ rfl ?_
            refine ev_gV [] [] rfl ?_
            refine ev_ret rfl ?_
            refine ev_g0 rfl ?_
            refine ev_ret rfl ?_
            exact ⟨rfl, (u3 xj 0 t a ((nI 0).toInt64)), xd, xf, xo, xi, xn, nI 0, rfl, bdd, lf_V, lf_V, (CU_num hC ht ha lf_V lf_V), (MU_num hM ht ha lf_V lf_V (fun i hi => (rc_isor hC hi).2.2.1))⟩
          · skip
            refine ev_g0 rfl ?_
            refine ev_retz rfl (by first | decide | exact zb_01 _) ?_
            refine ev_gV [false] [] rfl ?_
            refine ev_retz rfl (by first | decide | exact zb_01 _) ?_
            refine ev_gV [false] [] rfl ?_
            refine ev_retz rfl (by first | decide | exact zb_01 _) ?_
            refine ev_gV [false] [] rfl ?_
            refine ev_inV 2 k_HA_53 h_SD_setN rfl rfl rfl rfl rfl ⟨by decide, by decide⟩ rfl ?_
            refine ev_gV [] [] rfl ?_
            refine ev_ret rfl ?_
            refine ev_g0 rfl ?_
            refine ev_reti rfl ?_
            refine ct_of h_MM_handles rfl rfl rfl ?_
            refine ev_g0 rfl ?_
            refine ev_inV 1 k_MM_344 h_MM_hold rfl rfl rfl rfl rfl ⟨by decide, by decide⟩ rfl ?_
            refine ev_gV [] [] rfl ?_
            refine ev_reti rfl ?_
            refine ev_gV [false] [some 12] rfl ?_
            refine ev_inV 2 k_MM_202 h_MM_isKind rfl rfl rfl rfl rfl ⟨by decide, by decide⟩ rfl ?_
            refine ev_gV [false, false, true, true, false, false] [] rfl ?_
            refine ev_inS 2 k_MM_192 h_MM_isOf rfl rfl rfl rfl ⟨by decide, by decide⟩ rfl ?_
            refine ev_gV [false, false, true, false, false] [] rfl ?_
            refine ev_retz rfl (by first | decide | exact zb_01 _) ?_
            refine ev_gV [false] [] rfl ?_
            refine ev_retz rfl (by first | decide | exact zb_01 _) ?_
            refine ev_gV [false] [] rfl ?_
            refine ev_inV 2 k_MM_288 h_MM_lay rfl rfl rfl rfl rfl ⟨by decide, by decide⟩ rfl ?_
            refine ev_gV [] [] rfl ?_
            refine ev_ret rfl ?_
            refine ev_g0 rfl ?_
            refine ev_ret rfl ?_
            exact ⟨rfl, (u3 xj 0 t a ((nI 1).toInt64)), xd, xf, xo, xi, xn, nI 0, rfl, bdd, lf_V, lf_V, (CU_num hC ht ha lf_V lf_V), (MU_num hM ht ha lf_V lf_V (fun i hi => (rc_isor hC hi).2.2.1))⟩
    · skip
      refine ev_g0 rfl ?_
      refine ev_retz rfl (by first | decide | exact zb_01 _) ?_
      refine ev_gV [true] [] rfl ?_
      refine ev_retz rfl (by first | decide | exact zb_01 _) ?_
      refine ev_gV [true] [] rfl ?_
      refine ev_retz rfl (by first | decide | exact zb_01 _) ?_
      refine ev_gV [true] [] rfl ?_
      refine ev_inV 2 k_HA_53 h_SD_setN rfl rfl rfl rfl rfl ⟨by decide, by decide⟩ rfl ?_
      refine ev_gV [] [] rfl ?_
      refine ev_ret rfl ?_
      refine ev_g0 rfl ?_
      refine ev_reti rfl ?_
      refine ct_of h_MM_handles rfl rfl rfl ?_
      refine ev_g0 rfl ?_
      refine ev_inV 1 k_MM_344 h_MM_hold rfl rfl rfl rfl rfl ⟨by decide, by decide⟩ rfl ?_
      refine ev_gV [] [] rfl ?_
      refine ev_reti rfl ?_
      refine ev_gV [false] [some 12] rfl ?_
      refine ev_inV 2 k_MM_202 h_MM_isKind rfl rfl rfl rfl rfl ⟨by decide, by decide⟩ rfl ?_
      refine ev_gV [false, false, true, true, false, true] [] rfl ?_
      refine ev_retz rfl (by first | decide | exact zb_01 _) ?_
      refine ev_gV [true] [] rfl ?_
      refine ev_inV 2 k_MM_288 h_MM_lay rfl rfl rfl rfl rfl ⟨by decide, by decide⟩ rfl ?_
      refine ev_gV [] [] rfl ?_
      refine ev_ret rfl ?_
      refine ev_g0 rfl ?_
      refine ev_ret rfl ?_
      exact ⟨rfl, (u3 xj 0 t a ((nI 0).toInt64)), xd, xf, xo, xi, xn, nI 0, rfl, bdd, lf_V, lf_V, (CU_num hC ht ha lf_V lf_V), (MU_num hM ht ha lf_V lf_V (fun i hi => (rc_isor hC hi).2.2.1))⟩
theorem A49_18 {ci : Nat → Nat → Nat → Int32} {cn : Nat → Nat → Nat → Nat} {co : Nat → Option Nat} {xj : Nat → Nat → Nat → Int64} {xd : Nat → Nat → Nat → UInt64} {xf : Nat → Nat → Nat → UInt32} {xo : Nat → Nat → Nat → Option Nat} {xi : Nat → Nat → Nat → Int32} {xn : Nat → Nat → Nat → Nat} {K : Nat → Nat} {I : Nat → Nat → Int32} {J : Nat → Nat → Int64} {F : Nat → Nat → UInt32} {D : Nat → Nat → UInt64} {R : Nat → Nat → Option Nat} {nx sl : Nat} {Km : Nat → Nat} {Im : Nat → Nat → Int32} {Jm : Nat → Nat → Int64} {Fm : Nat → Nat → UInt32} {Dm : Nat → Nat → UInt64} {Rm : Nat → Nat → Option Nat} {nxm slm : Nat} (hC : RC ci cn co xj xd xf xo xi xn I J F D R nx sl) (hM : RM ci cn co xj xd xf xo xi xn Im Jm Dm) {t a b : Nat} {go : Int32} (ht : t < 3) (ha : a < 8) (hb : b < 8) (x1 : Im 6 39 = nI t) (x2 : Im 6 40 = nI a) (x3 : Im 6 41 = nI b) (x4 : Im 6 42 = nI 18) (x5 : Im 6 43 = nI 0) (x6 : Im 6 44 = go) : Ct Y_HA_perform [vr 1 55, vr 8 (32 + 7 * t), vi (nI 49), vi (nI a), vi (nI b), vi (nI 18)] (K, I, J, F, D, R, nx, sl) (fun r μ1 => Ct Y_MM_handles [vr 11 6, vi (nI 49)] (Km, Im, Jm, Fm, Dm, Rm, nxm, slm) (fun r2 μ2 => r2 = none ∧ QA ci cn co go r μ1 μ2)) := by
  rcases ho : xo 0 t b with _ | q
  · skip
    refine ct_of h_HA_perform rfl rfl rfl ?_
    refine ev_gV [] [some 37] rfl ?_
    refine ev_inV 1 k_HA_15 h_SD_t rfl rfl rfl rfl rfl ⟨by decide, by decide⟩ rfl ?_
    refine ev_gV [] [none] rfl ?_
    refine ev_retn rfl ?_
    refine ev_g0 rfl ?_
    refine ev_inS 4 k_HA_57 h_HA_takeAs rfl rfl rfl rfl ⟨by decide, by decide⟩ rfl ?_
    refine ev_g0 rfl ?_
    refine ev_inV 2 k_HA_21 h_SD_setT rfl rfl rfl rfl rfl ⟨by decide, by decide⟩ rfl ?_
    refine ev_gV [] [] rfl ?_
    refine ev_ret rfl ?_
    refine ev_g0 rfl ?_
    refine ev_reti rfl ?_
    refine ev_g0 rfl ?_
    refine ev_reti rfl ?_
    refine ct_of h_MM_handles rfl rfl rfl ?_
    refine ev_g0 rfl ?_
    refine ev_inV 1 k_MM_344 h_MM_hold rfl rfl rfl rfl rfl ⟨by decide, by decide⟩ rfl ?_
    refine ev_gV [] [] rfl ?_
    refine ev_reti rfl ?_
    refine ev_gV [] [some 13] rfl ?_
    refine ev_inV 2 k_MM_354 h_MM_takes rfl rfl rfl rfl rfl ⟨by decide, by decide⟩ rfl ?_
    refine ev_gV [true] [] rfl ?_
    refine ev_retz rfl (by first | decide | exact zb_01 _) ?_
    refine ev_gV [false] [] rfl ?_
    refine ev_inV 2 k_MM_336 h_MM_keep rfl rfl rfl rfl rfl ⟨by decide, by decide⟩ rfl ?_
    refine ev_gV [] [] rfl ?_
    refine ev_ret rfl ?_
    refine ev_g0 rfl ?_
    refine ev_ret rfl ?_
    exact ⟨rfl, xj, xd, xf, (u3 xo 0 t a (none)), xi, xn, nI 0, rfl, bdd, lf_V, lf_V, (CU_hol hC ht ha (fun _ h => by cases h) lf_V lf_V), (MU_hol hM ht ha lf_V lf_V (fun i hi => (rc_isor hC hi).2.2.1))⟩
  · skip
    have hq := rc_ihol hC ht hb _ ho
    have zq := rc_isor hC hq
    have yq := rc_imad hC
    refine ct_of h_HA_perform rfl rfl rfl ?_
    refine ev_gV [] [some 37] rfl ?_
    refine ev_inV 1 k_HA_15 h_SD_t rfl rfl rfl rfl rfl ⟨by decide, by decide⟩ rfl ?_
    refine ev_gV [] [some (94 + 4 * q)] rfl ?_
    refine ev_reta rfl ?_
    refine ev_g0 rfl ?_
    refine ev_inS 4 k_HA_57 h_HA_takeAs rfl rfl rfl rfl ⟨by decide, by decide⟩ rfl ?_
    refine ev_g0 rfl ?_
    refine ev_inV 1 k_HA_61 h_TH_isA rfl rfl rfl rfl rfl ⟨by decide, by decide⟩ rfl ?_
    refine ev_gV [false, true, false, false] [none] rfl ?_
    refine ev_inV 0 k_TH_73 h_TH_isRow rfl rfl rfl rfl rfl ⟨by decide, by decide⟩ rfl ?_
    refine ev_g0 rfl ?_
    refine ev_bV rfl rfl (fun h_1 => ?_) (fun h_1 => ?_)
    · skip
      refine ev_g0 rfl ?_
      refine ev_retz rfl (by first | decide | exact zb_01 _) ?_
      refine ev_gV [false] [] rfl ?_
      refine ev_inS 2 k_TH_77 h_TH_isUnder rfl rfl rfl rfl ⟨by decide, by decide⟩ rfl ?_
      refine ev_gV [false] [] rfl ?_
      refine ev_bV rfl rfl (fun h_2 => ?_) (fun h_2 => ?_)
      · skip
        refine ev_g0 rfl ?_
        refine ev_retz rfl (by first | decide | exact zb_01 _) ?_
        refine ev_gV [false] [] rfl ?_
        refine ev_retz rfl (by first | decide | exact zb_01 _) ?_
        refine ev_gV [true] [] rfl ?_
        refine ev_inV 2 k_HA_21 h_SD_setT rfl rfl rfl rfl rfl ⟨by decide, by decide⟩ rfl ?_
        refine ev_gV [] [] rfl ?_
        refine ev_ret rfl ?_
        refine ev_g0 rfl ?_
        refine ev_reti rfl ?_
        refine ev_g0 rfl ?_
        refine ev_reti rfl ?_
        refine ct_of h_MM_handles rfl rfl rfl ?_
        refine ev_g0 rfl ?_
        refine ev_inV 1 k_MM_344 h_MM_hold rfl rfl rfl rfl rfl ⟨by decide, by decide⟩ rfl ?_
        refine ev_gV [] [] rfl ?_
        refine ev_reti rfl ?_
        refine ev_gV [] [some 13] rfl ?_
        refine ev_inV 2 k_MM_354 h_MM_takes rfl rfl rfl rfl rfl ⟨by decide, by decide⟩ rfl ?_
        refine ev_gV [false] [] rfl ?_
        refine ev_inV 2 k_MM_202 h_MM_isKind rfl rfl rfl rfl rfl ⟨by decide, by decide⟩ rfl ?_
        refine ev_gV [false, false, true, true, false, false] [] rfl ?_
        refine ev_inS 2 k_MM_192 h_MM_isOf rfl rfl rfl rfl ⟨by decide, by decide⟩ rfl ?_
        refine ev_gV [false, true] [] rfl ?_
        refine ev_retz rfl (by first | decide | exact zb_01 _) ?_
        refine ev_gV [false] [] rfl ?_
        refine ev_retz rfl (by first | decide | exact zb_01 _) ?_
        refine ev_gV [true] [] rfl ?_
        refine ev_retz rfl (by first | decide | exact zb_01 _) ?_
        refine ev_gV [false] [] rfl ?_
        refine ev_inV 2 k_MM_336 h_MM_keep rfl rfl rfl rfl rfl ⟨by decide, by decide⟩ rfl ?_
        refine ev_gV [] [] rfl ?_
        refine ev_ret rfl ?_
        refine ev_g0 rfl ?_
        refine ev_ret rfl ?_
        exact ⟨rfl, xj, xd, xf, (u3 xo 0 t a (some q)), xi, xn, nI 0, rfl, bdd, lf_V, lf_V, (CU_hol hC ht ha (fun _ h => by cases h; exact hq) lf_V lf_V), (MU_hol hM ht ha lf_V lf_V (fun i hi => (rc_isor hC hi).2.2.1))⟩
      · skip
        refine ev_g0 rfl ?_
        refine ev_bV rfl rfl (fun h_3 => ?_) (fun h_3 => ?_)
        · skip
          refine ev_g0 rfl ?_
          refine ev_retz rfl (by first | decide | exact zb_01 _) ?_
          refine ev_gV [true] [] rfl ?_
          refine ev_retz rfl (by first | decide | exact zb_01 _) ?_
          refine ev_gV [false] [] rfl ?_
          refine ev_reti rfl ?_
          refine ev_g0 rfl ?_
          refine ev_reti rfl ?_
          refine ct_of h_MM_handles rfl rfl rfl ?_
          refine ev_g0 rfl ?_
          refine ev_inV 1 k_MM_344 h_MM_hold rfl rfl rfl rfl rfl ⟨by decide, by decide⟩ rfl ?_
          refine ev_gV [] [] rfl ?_
          refine ev_reti rfl ?_
          refine ev_gV [] [some 13] rfl ?_
          refine ev_inV 2 k_MM_354 h_MM_takes rfl rfl rfl rfl rfl ⟨by decide, by decide⟩ rfl ?_
          refine ev_gV [false] [] rfl ?_
          refine ev_inV 2 k_MM_202 h_MM_isKind rfl rfl rfl rfl rfl ⟨by decide, by decide⟩ rfl ?_
          refine ev_gV [false, false, true, true, false, false] [] rfl ?_
          refine ev_inS 2 k_MM_192 h_MM_isOf rfl rfl rfl rfl ⟨by decide, by decide⟩ rfl ?_
          refine ev_gV [false, false, true, false, true] [] rfl ?_
          refine ev_retz rfl (by first | decide | exact zb_01 _) ?_
          refine ev_gV [true] [] rfl ?_
          refine ev_retz rfl (by first | decide | exact zb_01 _) ?_
          refine ev_gV [false] [] rfl ?_
          refine ev_retz rfl (by first | decide | exact zb_01 _) ?_
          refine ev_gV [true] [] rfl ?_
          refine ev_ret rfl ?_
          exact ⟨rfl, xj, xd, xf, xo, xi, xn, nI 3, rfl, bdd, lf_V, lf_V, hC, hM⟩
        · skip
          refine ev_g0 rfl ?_
          refine ev_bV rfl rfl (fun h_4 => ?_) (fun h_4 => ?_)
          · skip
            refine ev_g0 rfl ?_
            refine ev_retz rfl (by first | decide | exact zb_01 _) ?_
            refine ev_gV [true] [] rfl ?_
            refine ev_retz rfl (by first | decide | exact zb_01 _) ?_
            refine ev_gV [false] [] rfl ?_
            refine ev_reti rfl ?_
            refine ev_g0 rfl ?_
            refine ev_reti rfl ?_
            refine ct_of h_MM_handles rfl rfl rfl ?_
            refine ev_g0 rfl ?_
            refine ev_inV 1 k_MM_344 h_MM_hold rfl rfl rfl rfl rfl ⟨by decide, by decide⟩ rfl ?_
            refine ev_gV [] [] rfl ?_
            refine ev_reti rfl ?_
            refine ev_gV [] [some 13] rfl ?_
            refine ev_inV 2 k_MM_354 h_MM_takes rfl rfl rfl rfl rfl ⟨by decide, by decide⟩ rfl ?_
            refine ev_gV [false] [] rfl ?_
            refine ev_inV 2 k_MM_202 h_MM_isKind rfl rfl rfl rfl rfl ⟨by decide, by decide⟩ rfl ?_
            refine ev_gV [false, false, true, true, false, false] [] rfl ?_
            refine ev_inS 2 k_MM_192 h_MM_isOf rfl rfl rfl rfl ⟨by decide, by decide⟩ rfl ?_
            refine ev_gV [false, false, true, false, true] [] rfl ?_
            refine ev_retz rfl (by first | decide | exact zb_01 _) ?_
            refine ev_gV [true] [] rfl ?_
            refine ev_retz rfl (by first | decide | exact zb_01 _) ?_
            refine ev_gV [false] [] rfl ?_
            refine ev_retz rfl (by first | decide | exact zb_01 _) ?_
            refine ev_gV [true] [] rfl ?_
            refine ev_ret rfl ?_
            exact ⟨rfl, xj, xd, xf, xo, xi, xn, nI 3, rfl, bdd, lf_V, lf_V, hC, hM⟩
          · skip
            refine ev_g0 rfl ?_
            refine ev_retz rfl (by first | decide | exact zb_01 _) ?_
            refine ev_gV [false] [] rfl ?_
            refine ev_retz rfl (by first | decide | exact zb_01 _) ?_
            refine ev_gV [true] [] rfl ?_
            refine ev_inV 2 k_HA_21 h_SD_setT rfl rfl rfl rfl rfl ⟨by decide, by decide⟩ rfl ?_
            refine ev_gV [] [] rfl ?_
            refine ev_ret rfl ?_
            refine ev_g0 rfl ?_
            refine ev_reti rfl ?_
            refine ev_g0 rfl ?_
            refine ev_reti rfl ?_
            refine ct_of h_MM_handles rfl rfl rfl ?_
            refine ev_g0 rfl ?_
            refine ev_inV 1 k_MM_344 h_MM_hold rfl rfl rfl rfl rfl ⟨by decide, by decide⟩ rfl ?_
            refine ev_gV [] [] rfl ?_
            refine ev_reti rfl ?_
            refine ev_gV [] [some 13] rfl ?_
            refine ev_inV 2 k_MM_354 h_MM_takes rfl rfl rfl rfl rfl ⟨by decide, by decide⟩ rfl ?_
            refine ev_gV [false] [] rfl ?_
            refine ev_inV 2 k_MM_202 h_MM_isKind rfl rfl rfl rfl rfl ⟨by decide, by decide⟩ rfl ?_
            refine ev_gV [false, false, true, true, false, false] [] rfl ?_
            refine ev_inS 2 k_MM_192 h_MM_isOf rfl rfl rfl rfl ⟨by decide, by decide⟩ rfl ?_
            refine ev_gV [false, false, true, false, false] [] rfl ?_
            refine ev_retz rfl (by first | decide | exact zb_01 _) ?_
            refine ev_gV [false] [] rfl ?_
            refine ev_retz rfl (by first | decide | exact zb_01 _) ?_
            refine ev_gV [true] [] rfl ?_
            refine ev_retz rfl (by first | decide | exact zb_01 _) ?_
            refine ev_gV [false] [] rfl ?_
            refine ev_inV 2 k_MM_336 h_MM_keep rfl rfl rfl rfl rfl ⟨by decide, by decide⟩ rfl ?_
            refine ev_gV [] [] rfl ?_
            refine ev_ret rfl ?_
            refine ev_g0 rfl ?_
            refine ev_ret rfl ?_
            exact ⟨rfl, xj, xd, xf, (u3 xo 0 t a (some q)), xi, xn, nI 0, rfl, bdd, lf_V, lf_V, (CU_hol hC ht ha (fun _ h => by cases h; exact hq) lf_V lf_V), (MU_hol hM ht ha lf_V lf_V (fun i hi => (rc_isor hC hi).2.2.1))⟩
    · skip
      refine ev_g0 rfl ?_
      refine ev_retz rfl (by first | decide | exact zb_01 _) ?_
      refine ev_gV [true] [] rfl ?_
      refine ev_retz rfl (by first | decide | exact zb_01 _) ?_
      refine ev_gV [false] [] rfl ?_
      refine ev_reti rfl ?_
      refine ev_g0 rfl ?_
      refine ev_reti rfl ?_
      refine ct_of h_MM_handles rfl rfl rfl ?_
      refine ev_g0 rfl ?_
      refine ev_inV 1 k_MM_344 h_MM_hold rfl rfl rfl rfl rfl ⟨by decide, by decide⟩ rfl ?_
      refine ev_gV [] [] rfl ?_
      refine ev_reti rfl ?_
      refine ev_gV [] [some 13] rfl ?_
      refine ev_inV 2 k_MM_354 h_MM_takes rfl rfl rfl rfl rfl ⟨by decide, by decide⟩ rfl ?_
      refine ev_gV [false] [] rfl ?_
      refine ev_inV 2 k_MM_202 h_MM_isKind rfl rfl rfl rfl rfl ⟨by decide, by decide⟩ rfl ?_
      refine ev_gV [false, false, true, true, false, true] [] rfl ?_
      refine ev_retz rfl (by first | decide | exact zb_01 _) ?_
      refine ev_gV [false] [] rfl ?_
      refine ev_retz rfl (by first | decide | exact zb_01 _) ?_
      refine ev_gV [true] [] rfl ?_
      refine ev_ret rfl ?_
      exact ⟨rfl, xj, xd, xf, xo, xi, xn, nI 3, rfl, bdd, lf_V, lf_V, hC, hM⟩
theorem A48_19 {ci : Nat → Nat → Nat → Int32} {cn : Nat → Nat → Nat → Nat} {co : Nat → Option Nat} {xj : Nat → Nat → Nat → Int64} {xd : Nat → Nat → Nat → UInt64} {xf : Nat → Nat → Nat → UInt32} {xo : Nat → Nat → Nat → Option Nat} {xi : Nat → Nat → Nat → Int32} {xn : Nat → Nat → Nat → Nat} {K : Nat → Nat} {I : Nat → Nat → Int32} {J : Nat → Nat → Int64} {F : Nat → Nat → UInt32} {D : Nat → Nat → UInt64} {R : Nat → Nat → Option Nat} {nx sl : Nat} {Km : Nat → Nat} {Im : Nat → Nat → Int32} {Jm : Nat → Nat → Int64} {Fm : Nat → Nat → UInt32} {Dm : Nat → Nat → UInt64} {Rm : Nat → Nat → Option Nat} {nxm slm : Nat} (hC : RC ci cn co xj xd xf xo xi xn I J F D R nx sl) (hM : RM ci cn co xj xd xf xo xi xn Im Jm Dm) {t a b : Nat} {go : Int32} (ht : t < 3) (ha : a < 8) (hb : b < 8) (x1 : Im 6 39 = nI t) (x2 : Im 6 40 = nI a) (x3 : Im 6 41 = nI b) (x4 : Im 6 42 = nI 19) (x5 : Im 6 43 = nI 0) (x6 : Im 6 44 = go) : Ct Y_HA_perform [vr 1 55, vr 8 (32 + 7 * t), vi (nI 48), vi (nI a), vi (nI b), vi (nI 19)] (K, I, J, F, D, R, nx, sl) (fun r μ1 => Ct Y_MM_handles [vr 11 6, vi (nI 48)] (Km, Im, Jm, Fm, Dm, Rm, nxm, slm) (fun r2 μ2 => r2 = none ∧ QA ci cn co go r μ1 μ2)) := by
  rcases ho : xo 0 t b with _ | q
  · skip
    refine ct_of h_HA_perform rfl rfl rfl ?_
    refine ev_gV [] [some 36] rfl ?_
    refine ev_inV 1 k_HA_15 h_SD_t rfl rfl rfl rfl rfl ⟨by decide, by decide⟩ rfl ?_
    refine ev_gV [] [none] rfl ?_
    refine ev_retn rfl ?_
    refine ev_g0 rfl ?_
    refine ev_inS 2 k_HA_49 h_HA_isA rfl rfl rfl rfl ⟨by decide, by decide⟩ rfl ?_
    refine ev_g0 rfl ?_
    refine ev_retz rfl (by first | decide | exact zb_01 _) ?_
    refine ev_gV [true] [] rfl ?_
    refine ev_inV 2 k_HA_53 h_SD_setN rfl rfl rfl rfl rfl ⟨by decide, by decide⟩ rfl ?_
    refine ev_gV [] [] rfl ?_
    refine ev_ret rfl ?_
    refine ev_g0 rfl ?_
    refine ev_reti rfl ?_
    refine ct_of h_MM_handles rfl rfl rfl ?_
    refine ev_g0 rfl ?_
    refine ev_inV 1 k_MM_344 h_MM_hold rfl rfl rfl rfl rfl ⟨by decide, by decide⟩ rfl ?_
    refine ev_gV [] [] rfl ?_
    refine ev_reti rfl ?_
    refine ev_gV [true] [some 12] rfl ?_
    refine ev_inV 2 k_MM_288 h_MM_lay rfl rfl rfl rfl rfl ⟨by decide, by decide⟩ rfl ?_
    refine ev_gV [] [] rfl ?_
    refine ev_ret rfl ?_
    refine ev_g0 rfl ?_
    refine ev_ret rfl ?_
    exact ⟨rfl, (u3 xj 0 t a ((nI 0).toInt64)), xd, xf, xo, xi, xn, nI 0, rfl, bdd, lf_V, lf_V, (CU_num hC ht ha lf_V lf_V), (MU_num hM ht ha lf_V lf_V (fun i hi => (rc_isor hC hi).2.2.1))⟩
  · skip
    have hq := rc_ihol hC ht hb _ ho
    have zq := rc_isor hC hq
    have yq := rc_imad hC
    refine ct_of h_HA_perform rfl rfl rfl ?_
    refine ev_gV [] [some 36] rfl ?_
    refine ev_inV 1 k_HA_15 h_SD_t rfl rfl rfl rfl rfl ⟨by decide, by decide⟩ rfl ?_
    refine ev_gV [] [some (94 + 4 * q)] rfl ?_
    refine ev_reta rfl ?_
    refine ev_g0 rfl ?_
    refine ev_inS 2 k_HA_49 h_HA_isA rfl rfl rfl rfl ⟨by decide, by decide⟩ rfl ?_
    refine ev_g0 rfl ?_
    refine ev_inV 1 k_HA_61 h_TH_isA rfl rfl rfl rfl rfl ⟨by decide, by decide⟩ rfl ?_
    refine ev_gV [false, true, false, false] [none] rfl ?_
    refine ev_inV 0 k_TH_73 h_TH_isRow rfl rfl rfl rfl rfl ⟨by decide, by decide⟩ rfl ?_
    refine ev_g0 rfl ?_
    refine ev_bV rfl rfl (fun h_1 => ?_) (fun h_1 => ?_)
    · skip
      refine ev_g0 rfl ?_
      refine ev_retz rfl (by first | decide | exact zb_01 _) ?_
      refine ev_gV [false] [] rfl ?_
      refine ev_inS 2 k_TH_77 h_TH_isUnder rfl rfl rfl rfl ⟨by decide, by decide⟩ rfl ?_
      refine ev_gV [false] [] rfl ?_
      refine ev_bV rfl rfl (fun h_2 => ?_) (fun h_2 => ?_)
      · skip
        refine ev_g0 rfl ?_
        refine ev_retz rfl (by first | decide | exact zb_01 _) ?_
        refine ev_gV [false] [] rfl ?_
        refine ev_retz rfl (by first | decide | exact zb_01 _) ?_
        refine ev_gV [false] [] rfl ?_
        refine ev_retz rfl (by first | decide | exact zb_01 _) ?_
        refine ev_gV [false] [] rfl ?_
        refine ev_inV 2 k_HA_53 h_SD_setN rfl rfl rfl rfl rfl ⟨by decide, by decide⟩ rfl ?_
        refine ev_gV [] [] rfl ?_
        refine ev_ret rfl ?_
        refine ev_g0 rfl ?_
        refine ev_reti rfl ?_
        refine ct_of h_MM_handles rfl rfl rfl ?_
        refine ev_g0 rfl ?_
        refine ev_inV 1 k_MM_344 h_MM_hold rfl rfl rfl rfl rfl ⟨by decide, by decide⟩ rfl ?_
        refine ev_gV [] [] rfl ?_
        refine ev_reti rfl ?_
        refine ev_gV [false] [some 12] rfl ?_
        refine ev_inV 2 k_MM_202 h_MM_isKind rfl rfl rfl rfl rfl ⟨by decide, by decide⟩ rfl ?_
        refine ev_gV [false, false, true, true, false, false] [] rfl ?_
        refine ev_inS 2 k_MM_192 h_MM_isOf rfl rfl rfl rfl ⟨by decide, by decide⟩ rfl ?_
        refine ev_gV [false, true] [] rfl ?_
        refine ev_retz rfl (by first | decide | exact zb_01 _) ?_
        refine ev_gV [false] [] rfl ?_
        refine ev_retz rfl (by first | decide | exact zb_01 _) ?_
        refine ev_gV [false] [] rfl ?_
        refine ev_inV 2 k_MM_288 h_MM_lay rfl rfl rfl rfl rfl ⟨by decide, by decide⟩ rfl ?_
        refine ev_gV [] [] rfl ?_
        refine ev_ret rfl ?_
        refine ev_g0 rfl ?_
        refine ev_ret rfl ?_
        exact ⟨rfl, (u3 xj 0 t a ((nI 1).toInt64)), xd, xf, xo, xi, xn, nI 0, rfl, bdd, lf_V, lf_V, (CU_num hC ht ha lf_V lf_V), (MU_num hM ht ha lf_V lf_V (fun i hi => (rc_isor hC hi).2.2.1))⟩
      · skip
        refine ev_g0 rfl ?_
        refine ev_bV rfl rfl (fun h_3 => ?_) (fun h_3 => ?_)
        · skip
          refine ev_g0 rfl ?_
          refine ev_retz rfl (by first | decide | exact zb_01 _) ?_
          refine ev_gV [true] [] rfl ?_
          refine ev_retz rfl (by first | decide | exact zb_01 _) ?_
          refine ev_gV [true] [] rfl ?_
          refine ev_retz rfl (by first | decide | exact zb_01 _) ?_
          refine ev_gV [true] [] rfl ?_
          refine ev_inV 2 k_HA_53 h_SD_setN rfl rfl rfl rfl rfl ⟨by decide, by decide⟩ rfl ?_
          refine ev_gV [] [] rfl ?_
          refine ev_ret rfl ?_
          refine ev_g0 rfl ?_
          refine ev_reti rfl ?_
          refine ct_of h_MM_handles rfl rfl rfl ?_
          refine ev_g0 rfl ?_
          refine ev_inV 1 k_MM_344 h_MM_hold rfl rfl rfl rfl rfl ⟨by decide, by decide⟩ rfl ?_
          refine ev_gV [] [] rfl ?_
          refine ev_reti rfl ?_
          refine ev_gV [false] [some 12] rfl ?_
          refine ev_inV 2 k_MM_202 h_MM_isKind rfl rfl rfl rfl rfl ⟨by decide, by decide⟩ rfl ?_
          refine ev_gV [false, false, true, true, false, false] [] rfl ?_
          refine ev_inS 2 k_MM_192 h_MM_isOf rfl rfl rfl rfl ⟨by decide, by decide⟩ rfl ?_
          refine ev_gV [false, false, true, true] [] rfl ?_
          refine ev_retz rfl (by first | decide | exact zb_01 _) ?_
          refine ev_gV [true] [] rfl ?_
          refine ev_retz rfl (by first | decide | exact zb_01 _) ?_
          refine ev_gV [true] [] rfl ?_
          refine ev_inV 2 k_MM_288 h_MM_lay rfl rfl rfl rfl rfl ⟨by decide, by decide⟩ rfl ?_
          refine ev_gV [] [] rfl ?_
          refine ev_ret rfl ?_
          refine ev_g0 rfl ?_
          refine ev_ret rfl ?_
          exact ⟨rfl, (u3 xj 0 t a ((nI 0).toInt64)), xd, xf, xo, xi, xn, nI 0, rfl, bdd, lf_V, lf_V, (CU_num hC ht ha lf_V lf_V), (MU_num hM ht ha lf_V lf_V (fun i hi => (rc_isor hC hi).2.2.1))⟩
        · skip
          refine ev_gV [true] [] rfl ?_
          refine ev_retz rfl (by first | decide | exact zb_01 _) ?_
          refine ev_gV [true] [] rfl ?_
          refine ev_retz rfl (by first | decide | exact zb_01 _) ?_
          refine ev_gV [true] [] rfl ?_
          refine ev_retz rfl (by first | decide | exact zb_01 _) ?_
          refine ev_gV [true] [] rfl ?_
          refine ev_inV 2 k_HA_53 h_SD_setN rfl rfl rfl rfl rfl ⟨by decide, by decide⟩ rfl ?_
          refine ev_gV [] [] rfl ?_
          refine ev_ret rfl ?_
          refine ev_g0 rfl ?_
          refine ev_reti rfl ?_
          refine ct_of h_MM_handles rfl rfl rfl ?_
          refine ev_g0 rfl ?_
          refine ev_inV 1 k_MM_344 h_MM_hold rfl rfl rfl rfl rfl ⟨by decide, by decide⟩ rfl ?_
          refine ev_gV [] [] rfl ?_
          refine ev_reti rfl ?_
          refine ev_gV [false] [some 12] rfl ?_
          refine ev_inV 2 k_MM_202 h_MM_isKind rfl rfl rfl rfl rfl ⟨by decide, by decide⟩ rfl ?_
          refine ev_gV [false, false, true, true, false, false] [] rfl ?_
          refine ev_inS 2 k_MM_192 h_MM_isOf rfl rfl rfl rfl ⟨by decide, by decide⟩ rfl ?_
          refine ev_gV [false, false, true, true] [] rfl ?_
          refine ev_retz rfl (by first | decide | exact zb_01 _) ?_
          refine ev_gV [true] [] rfl ?_
          refine ev_retz rfl (by first | decide | exact zb_01 _) ?_
          refine ev_gV [true] [] rfl ?_
          refine ev_inV 2 k_MM_288 h_MM_lay rfl rfl rfl rfl rfl ⟨by decide, by decide⟩ rfl ?_
          refine ev_gV [] [] rfl ?_
          refine ev_ret rfl ?_
          refine ev_g0 rfl ?_
          refine ev_ret rfl ?_
          exact ⟨rfl, (u3 xj 0 t a ((nI 0).toInt64)), xd, xf, xo, xi, xn, nI 0, rfl, bdd, lf_V, lf_V, (CU_num hC ht ha lf_V lf_V), (MU_num hM ht ha lf_V lf_V (fun i hi => (rc_isor hC hi).2.2.1))⟩
    · skip
      refine ev_g0 rfl ?_
      refine ev_retz rfl (by first | decide | exact zb_01 _) ?_
      refine ev_gV [true] [] rfl ?_
      refine ev_retz rfl (by first | decide | exact zb_01 _) ?_
      refine ev_gV [true] [] rfl ?_
      refine ev_retz rfl (by first | decide | exact zb_01 _) ?_
      refine ev_gV [true] [] rfl ?_
      refine ev_inV 2 k_HA_53 h_SD_setN rfl rfl rfl rfl rfl ⟨by decide, by decide⟩ rfl ?_
      refine ev_gV [] [] rfl ?_
      refine ev_ret rfl ?_
      refine ev_g0 rfl ?_
      refine ev_reti rfl ?_
      refine ct_of h_MM_handles rfl rfl rfl ?_
      refine ev_g0 rfl ?_
      refine ev_inV 1 k_MM_344 h_MM_hold rfl rfl rfl rfl rfl ⟨by decide, by decide⟩ rfl ?_
      refine ev_gV [] [] rfl ?_
      refine ev_reti rfl ?_
      refine ev_gV [false] [some 12] rfl ?_
      refine ev_inV 2 k_MM_202 h_MM_isKind rfl rfl rfl rfl rfl ⟨by decide, by decide⟩ rfl ?_
      refine ev_gV [false, false, true, true, false, true] [] rfl ?_
      refine ev_retz rfl (by first | decide | exact zb_01 _) ?_
      refine ev_gV [true] [] rfl ?_
      refine ev_inV 2 k_MM_288 h_MM_lay rfl rfl rfl rfl rfl ⟨by decide, by decide⟩ rfl ?_
      refine ev_gV [] [] rfl ?_
      refine ev_ret rfl ?_
      refine ev_g0 rfl ?_
      refine ev_ret rfl ?_
      exact ⟨rfl, (u3 xj 0 t a ((nI 0).toInt64)), xd, xf, xo, xi, xn, nI 0, rfl, bdd, lf_V, lf_V, (CU_num hC ht ha lf_V lf_V), (MU_num hM ht ha lf_V lf_V (fun i hi => (rc_isor hC hi).2.2.1))⟩
theorem A49_19 {ci : Nat → Nat → Nat → Int32} {cn : Nat → Nat → Nat → Nat} {co : Nat → Option Nat} {xj : Nat → Nat → Nat → Int64} {xd : Nat → Nat → Nat → UInt64} {xf : Nat → Nat → Nat → UInt32} {xo : Nat → Nat → Nat → Option Nat} {xi : Nat → Nat → Nat → Int32} {xn : Nat → Nat → Nat → Nat} {K : Nat → Nat} {I : Nat → Nat → Int32} {J : Nat → Nat → Int64} {F : Nat → Nat → UInt32} {D : Nat → Nat → UInt64} {R : Nat → Nat → Option Nat} {nx sl : Nat} {Km : Nat → Nat} {Im : Nat → Nat → Int32} {Jm : Nat → Nat → Int64} {Fm : Nat → Nat → UInt32} {Dm : Nat → Nat → UInt64} {Rm : Nat → Nat → Option Nat} {nxm slm : Nat} (hC : RC ci cn co xj xd xf xo xi xn I J F D R nx sl) (hM : RM ci cn co xj xd xf xo xi xn Im Jm Dm) {t a b : Nat} {go : Int32} (ht : t < 3) (ha : a < 8) (hb : b < 8) (x1 : Im 6 39 = nI t) (x2 : Im 6 40 = nI a) (x3 : Im 6 41 = nI b) (x4 : Im 6 42 = nI 19) (x5 : Im 6 43 = nI 0) (x6 : Im 6 44 = go) : Ct Y_HA_perform [vr 1 55, vr 8 (32 + 7 * t), vi (nI 49), vi (nI a), vi (nI b), vi (nI 19)] (K, I, J, F, D, R, nx, sl) (fun r μ1 => Ct Y_MM_handles [vr 11 6, vi (nI 49)] (Km, Im, Jm, Fm, Dm, Rm, nxm, slm) (fun r2 μ2 => r2 = none ∧ QA ci cn co go r μ1 μ2)) := by
  rcases ho : xo 0 t b with _ | q
  · skip
    refine ct_of h_HA_perform rfl rfl rfl ?_
    refine ev_gV [] [some 37] rfl ?_
    refine ev_inV 1 k_HA_15 h_SD_t rfl rfl rfl rfl rfl ⟨by decide, by decide⟩ rfl ?_
    refine ev_gV [] [none] rfl ?_
    refine ev_retn rfl ?_
    refine ev_g0 rfl ?_
    refine ev_inS 4 k_HA_57 h_HA_takeAs rfl rfl rfl rfl ⟨by decide, by decide⟩ rfl ?_
    refine ev_g0 rfl ?_
    refine ev_inV 2 k_HA_21 h_SD_setT rfl rfl rfl rfl rfl ⟨by decide, by decide⟩ rfl ?_
    refine ev_gV [] [] rfl ?_
    refine ev_ret rfl ?_
    refine ev_g0 rfl ?_
    refine ev_reti rfl ?_
    refine ev_g0 rfl ?_
    refine ev_reti rfl ?_
    refine ct_of h_MM_handles rfl rfl rfl ?_
    refine ev_g0 rfl ?_
    refine ev_inV 1 k_MM_344 h_MM_hold rfl rfl rfl rfl rfl ⟨by decide, by decide⟩ rfl ?_
    refine ev_gV [] [] rfl ?_
    refine ev_reti rfl ?_
    refine ev_gV [] [some 13] rfl ?_
    refine ev_inV 2 k_MM_354 h_MM_takes rfl rfl rfl rfl rfl ⟨by decide, by decide⟩ rfl ?_
    refine ev_gV [true] [] rfl ?_
    refine ev_retz rfl (by first | decide | exact zb_01 _) ?_
    refine ev_gV [false] [] rfl ?_
    refine ev_inV 2 k_MM_336 h_MM_keep rfl rfl rfl rfl rfl ⟨by decide, by decide⟩ rfl ?_
    refine ev_gV [] [] rfl ?_
    refine ev_ret rfl ?_
    refine ev_g0 rfl ?_
    refine ev_ret rfl ?_
    exact ⟨rfl, xj, xd, xf, (u3 xo 0 t a (none)), xi, xn, nI 0, rfl, bdd, lf_V, lf_V, (CU_hol hC ht ha (fun _ h => by cases h) lf_V lf_V), (MU_hol hM ht ha lf_V lf_V (fun i hi => (rc_isor hC hi).2.2.1))⟩
  · skip
    have hq := rc_ihol hC ht hb _ ho
    have zq := rc_isor hC hq
    have yq := rc_imad hC
    refine ct_of h_HA_perform rfl rfl rfl ?_
    refine ev_gV [] [some 37] rfl ?_
    refine ev_inV 1 k_HA_15 h_SD_t rfl rfl rfl rfl rfl ⟨by decide, by decide⟩ rfl ?_
    refine ev_gV [] [some (94 + 4 * q)] rfl ?_
    refine ev_reta rfl ?_
    refine ev_g0 rfl ?_
    refine ev_inS 4 k_HA_57 h_HA_takeAs rfl rfl rfl rfl ⟨by decide, by decide⟩ rfl ?_
    refine ev_g0 rfl ?_
    refine ev_inV 1 k_HA_61 h_TH_isA rfl rfl rfl rfl rfl ⟨by decide, by decide⟩ rfl ?_
    refine ev_gV [false, true, false, false] [none] rfl ?_
    refine ev_inV 0 k_TH_73 h_TH_isRow rfl rfl rfl rfl rfl ⟨by decide, by decide⟩ rfl ?_
    refine ev_g0 rfl ?_
    refine ev_bV rfl rfl (fun h_1 => ?_) (fun h_1 => ?_)
    · skip
      refine ev_g0 rfl ?_
      refine ev_retz rfl (by first | decide | exact zb_01 _) ?_
      refine ev_gV [false] [] rfl ?_
      refine ev_inS 2 k_TH_77 h_TH_isUnder rfl rfl rfl rfl ⟨by decide, by decide⟩ rfl ?_
      refine ev_gV [false] [] rfl ?_
      refine ev_bV rfl rfl (fun h_2 => ?_) (fun h_2 => ?_)
      · skip
        refine ev_g0 rfl ?_
        refine ev_retz rfl (by first | decide | exact zb_01 _) ?_
        refine ev_gV [false] [] rfl ?_
        refine ev_retz rfl (by first | decide | exact zb_01 _) ?_
        refine ev_gV [true] [] rfl ?_
        refine ev_inV 2 k_HA_21 h_SD_setT rfl rfl rfl rfl rfl ⟨by decide, by decide⟩ rfl ?_
        refine ev_gV [] [] rfl ?_
        refine ev_ret rfl ?_
        refine ev_g0 rfl ?_
        refine ev_reti rfl ?_
        refine ev_g0 rfl ?_
        refine ev_reti rfl ?_
        refine ct_of h_MM_handles rfl rfl rfl ?_
        refine ev_g0 rfl ?_
        refine ev_inV 1 k_MM_344 h_MM_hold rfl rfl rfl rfl rfl ⟨by decide, by decide⟩ rfl ?_
        refine ev_gV [] [] rfl ?_
        refine ev_reti rfl ?_
        refine ev_gV [] [some 13] rfl ?_
        refine ev_inV 2 k_MM_354 h_MM_takes rfl rfl rfl rfl rfl ⟨by decide, by decide⟩ rfl ?_
        refine ev_gV [false] [] rfl ?_
        refine ev_inV 2 k_MM_202 h_MM_isKind rfl rfl rfl rfl rfl ⟨by decide, by decide⟩ rfl ?_
        refine ev_gV [false, false, true, true, false, false] [] rfl ?_
        refine ev_inS 2 k_MM_192 h_MM_isOf rfl rfl rfl rfl ⟨by decide, by decide⟩ rfl ?_
        refine ev_gV [false, true] [] rfl ?_
        refine ev_retz rfl (by first | decide | exact zb_01 _) ?_
        refine ev_gV [false] [] rfl ?_
        refine ev_retz rfl (by first | decide | exact zb_01 _) ?_
        refine ev_gV [true] [] rfl ?_
        refine ev_retz rfl (by first | decide | exact zb_01 _) ?_
        refine ev_gV [false] [] rfl ?_
        refine ev_inV 2 k_MM_336 h_MM_keep rfl rfl rfl rfl rfl ⟨by decide, by decide⟩ rfl ?_
        refine ev_gV [] [] rfl ?_
        refine ev_ret rfl ?_
        refine ev_g0 rfl ?_
        refine ev_ret rfl ?_
        exact ⟨rfl, xj, xd, xf, (u3 xo 0 t a (some q)), xi, xn, nI 0, rfl, bdd, lf_V, lf_V, (CU_hol hC ht ha (fun _ h => by cases h; exact hq) lf_V lf_V), (MU_hol hM ht ha lf_V lf_V (fun i hi => (rc_isor hC hi).2.2.1))⟩
      · skip
        refine ev_g0 rfl ?_
        refine ev_bV rfl rfl (fun h_3 => ?_) (fun h_3 => ?_)
        · skip
          refine ev_g0 rfl ?_
          refine ev_retz rfl (by first | decide | exact zb_01 _) ?_
          refine ev_gV [true] [] rfl ?_
          refine ev_retz rfl (by first | decide | exact zb_01 _) ?_
          refine ev_gV [false] [] rfl ?_
          refine ev_reti rfl ?_
          refine ev_g0 rfl ?_
          refine ev_reti rfl ?_
          refine ct_of h_MM_handles rfl rfl rfl ?_
          refine ev_g0 rfl ?_
          refine ev_inV 1 k_MM_344 h_MM_hold rfl rfl rfl rfl rfl ⟨by decide, by decide⟩ rfl ?_
          refine ev_gV [] [] rfl ?_
          refine ev_reti rfl ?_
          refine ev_gV [] [some 13] rfl ?_
          refine ev_inV 2 k_MM_354 h_MM_takes rfl rfl rfl rfl rfl ⟨by decide, by decide⟩ rfl ?_
          refine ev_gV [false] [] rfl ?_
          refine ev_inV 2 k_MM_202 h_MM_isKind rfl rfl rfl rfl rfl ⟨by decide, by decide⟩ rfl ?_
          refine ev_gV [false, false, true, true, false, false] [] rfl ?_
          refine ev_inS 2 k_MM_192 h_MM_isOf rfl rfl rfl rfl ⟨by decide, by decide⟩ rfl ?_
          refine ev_gV [false, false, true, true] [] rfl ?_
          refine ev_retz rfl (by first | decide | exact zb_01 _) ?_
          refine ev_gV [true] [] rfl ?_
          refine ev_retz rfl (by first | decide | exact zb_01 _) ?_
          refine ev_gV [false] [] rfl ?_
          refine ev_retz rfl (by first | decide | exact zb_01 _) ?_
          refine ev_gV [true] [] rfl ?_
          refine ev_ret rfl ?_
          exact ⟨rfl, xj, xd, xf, xo, xi, xn, nI 3, rfl, bdd, lf_V, lf_V, hC, hM⟩
        · skip
          refine ev_gV [true] [] rfl ?_
          refine ev_retz rfl (by first | decide | exact zb_01 _) ?_
          refine ev_gV [true] [] rfl ?_
          refine ev_retz rfl (by first | decide | exact zb_01 _) ?_
          refine ev_gV [false] [] rfl ?_
          refine ev_reti rfl ?_
          refine ev_g0 rfl ?_
          refine ev_reti rfl ?_
          refine ct_of h_MM_handles rfl rfl rfl ?_
          refine ev_g0 rfl ?_
          refine ev_inV 1 k_MM_344 h_MM_hold rfl rfl rfl rfl rfl ⟨by decide, by decide⟩ rfl ?_
          refine ev_gV [] [] rfl ?_
          refine ev_reti rfl ?_
          refine ev_gV [] [some 13] rfl ?_
          refine ev_inV 2 k_MM_354 h_MM_takes rfl rfl rfl rfl rfl ⟨by decide, by decide⟩ rfl ?_
          refine ev_gV [false] [] rfl ?_
          refine ev_inV 2 k_MM_202 h_MM_isKind rfl rfl rfl rfl rfl ⟨by decide, by decide⟩ rfl ?_
          refine ev_gV [false, false, true, true, false, false] [] rfl ?_
          refine ev_inS 2 k_MM_192 h_MM_isOf rfl rfl rfl rfl ⟨by decide, by decide⟩ rfl ?_
          refine ev_gV [false, false, true, true] [] rfl ?_
          refine ev_retz rfl (by first | decide | exact zb_01 _) ?_
          refine ev_gV [true] [] rfl ?_
          refine ev_retz rfl (by first | decide | exact zb_01 _) ?_
          refine ev_gV [false] [] rfl ?_
          refine ev_retz rfl (by first | decide | exact zb_01 _) ?_
          refine ev_gV [true] [] rfl ?_
          refine ev_ret rfl ?_
          exact ⟨rfl, xj, xd, xf, xo, xi, xn, nI 3, rfl, bdd, lf_V, lf_V, hC, hM⟩
    · skip
      refine ev_g0 rfl ?_
      refine ev_retz rfl (by first | decide | exact zb_01 _) ?_
      refine ev_gV [true] [] rfl ?_
      refine ev_retz rfl (by first | decide | exact zb_01 _) ?_
      refine ev_gV [false] [] rfl ?_
      refine ev_reti rfl ?_
      refine ev_g0 rfl ?_
      refine ev_reti rfl ?_
      refine ct_of h_MM_handles rfl rfl rfl ?_
      refine ev_g0 rfl ?_
      refine ev_inV 1 k_MM_344 h_MM_hold rfl rfl rfl rfl rfl ⟨by decide, by decide⟩ rfl ?_
      refine ev_gV [] [] rfl ?_
      refine ev_reti rfl ?_
      refine ev_gV [] [some 13] rfl ?_
      refine ev_inV 2 k_MM_354 h_MM_takes rfl rfl rfl rfl rfl ⟨by decide, by decide⟩ rfl ?_
      refine ev_gV [false] [] rfl ?_
      refine ev_inV 2 k_MM_202 h_MM_isKind rfl rfl rfl rfl rfl ⟨by decide, by decide⟩ rfl ?_
      refine ev_gV [false, false, true, true, false, true] [] rfl ?_
      refine ev_retz rfl (by first | decide | exact zb_01 _) ?_
      refine ev_gV [false] [] rfl ?_
      refine ev_retz rfl (by first | decide | exact zb_01 _) ?_
      refine ev_gV [true] [] rfl ?_
      refine ev_ret rfl ?_
      exact ⟨rfl, xj, xd, xf, xo, xi, xn, nI 3, rfl, bdd, lf_V, lf_V, hC, hM⟩
theorem A48_20 {ci : Nat → Nat → Nat → Int32} {cn : Nat → Nat → Nat → Nat} {co : Nat → Option Nat} {xj : Nat → Nat → Nat → Int64} {xd : Nat → Nat → Nat → UInt64} {xf : Nat → Nat → Nat → UInt32} {xo : Nat → Nat → Nat → Option Nat} {xi : Nat → Nat → Nat → Int32} {xn : Nat → Nat → Nat → Nat} {K : Nat → Nat} {I : Nat → Nat → Int32} {J : Nat → Nat → Int64} {F : Nat → Nat → UInt32} {D : Nat → Nat → UInt64} {R : Nat → Nat → Option Nat} {nx sl : Nat} {Km : Nat → Nat} {Im : Nat → Nat → Int32} {Jm : Nat → Nat → Int64} {Fm : Nat → Nat → UInt32} {Dm : Nat → Nat → UInt64} {Rm : Nat → Nat → Option Nat} {nxm slm : Nat} (hC : RC ci cn co xj xd xf xo xi xn I J F D R nx sl) (hM : RM ci cn co xj xd xf xo xi xn Im Jm Dm) {t a b : Nat} {go : Int32} (ht : t < 3) (ha : a < 8) (hb : b < 8) (x1 : Im 6 39 = nI t) (x2 : Im 6 40 = nI a) (x3 : Im 6 41 = nI b) (x4 : Im 6 42 = nI 20) (x5 : Im 6 43 = nI 0) (x6 : Im 6 44 = go) : Ct Y_HA_perform [vr 1 55, vr 8 (32 + 7 * t), vi (nI 48), vi (nI a), vi (nI b), vi (nI 20)] (K, I, J, F, D, R, nx, sl) (fun r μ1 => Ct Y_MM_handles [vr 11 6, vi (nI 48)] (Km, Im, Jm, Fm, Dm, Rm, nxm, slm) (fun r2 μ2 => r2 = none ∧ QA ci cn co go r μ1 μ2)) := by
  rcases ho : xo 0 t b with _ | q
  · skip
    refine ct_of h_HA_perform rfl rfl rfl ?_
    refine ev_gV [] [some 36] rfl ?_
    refine ev_inV 1 k_HA_15 h_SD_t rfl rfl rfl rfl rfl ⟨by decide, by decide⟩ rfl ?_
    refine ev_gV [] [none] rfl ?_
    refine ev_retn rfl ?_
    refine ev_g0 rfl ?_
    refine ev_inS 2 k_HA_49 h_HA_isA rfl rfl rfl rfl ⟨by decide, by decide⟩ rfl ?_
    refine ev_g0 rfl ?_
    refine ev_retz rfl (by first | decide | exact zb_01 _) ?_
    refine ev_gV [true] [] rfl ?_
    refine ev_inV 2 k_HA_53 h_SD_setN rfl rfl rfl rfl rfl ⟨by decide, by decide⟩ rfl ?_
    refine ev_gV [] [] rfl ?_
    refine ev_ret rfl ?_
    refine ev_g0 rfl ?_
    refine ev_reti rfl ?_
    refine ct_of h_MM_handles rfl rfl rfl ?_
    refine ev_g0 rfl ?_
    refine ev_inV 1 k_MM_344 h_MM_hold rfl rfl rfl rfl rfl ⟨by decide, by decide⟩ rfl ?_
    refine ev_gV [] [] rfl ?_
    refine ev_reti rfl ?_
    refine ev_gV [true] [some 12] rfl ?_
    refine ev_inV 2 k_MM_288 h_MM_lay rfl rfl rfl rfl rfl ⟨by decide, by decide⟩ rfl ?_
    refine ev_gV [] [] rfl ?_
    refine ev_ret rfl ?_
    refine ev_g0 rfl ?_
    refine ev_ret rfl ?_
    exact ⟨rfl, (u3 xj 0 t a ((nI 0).toInt64)), xd, xf, xo, xi, xn, nI 0, rfl, bdd, lf_V, lf_V, (CU_num hC ht ha lf_V lf_V), (MU_num hM ht ha lf_V lf_V (fun i hi => (rc_isor hC hi).2.2.1))⟩
  · skip
    have hq := rc_ihol hC ht hb _ ho
    have zq := rc_isor hC hq
    have yq := rc_imad hC
    refine ct_of h_HA_perform rfl rfl rfl ?_
    refine ev_gV [] [some 36] rfl ?_
    refine ev_inV 1 k_HA_15 h_SD_t rfl rfl rfl rfl rfl ⟨by decide, by decide⟩ rfl ?_
    refine ev_gV [] [some (94 + 4 * q)] rfl ?_
    refine ev_reta rfl ?_
    refine ev_g0 rfl ?_
    refine ev_inS 2 k_HA_49 h_HA_isA rfl rfl rfl rfl ⟨by decide, by decide⟩ rfl ?_
    refine ev_g0 rfl ?_
    refine ev_inV 1 k_HA_61 h_TH_isA rfl rfl rfl rfl rfl ⟨by decide, by decide⟩ rfl ?_
    refine ev_gV [false, true, false, false] [none] rfl ?_
    refine ev_inV 0 k_TH_73 h_TH_isRow rfl rfl rfl rfl rfl ⟨by decide, by decide⟩ rfl ?_
    refine ev_g0 rfl ?_
    refine ev_bV rfl rfl (fun h_1 => ?_) (fun h_1 => ?_)
    · skip
      refine ev_g0 rfl ?_
      refine ev_retz rfl (by first | decide | exact zb_01 _) ?_
      refine ev_gV [false] [] rfl ?_
      refine ev_inS 2 k_TH_77 h_TH_isUnder rfl rfl rfl rfl ⟨by decide, by decide⟩ rfl ?_
      refine ev_gV [false] [] rfl ?_
      refine ev_bV rfl rfl (fun h_2 => ?_) (fun h_2 => ?_)
      · skip
        refine ev_g0 rfl ?_
        refine ev_retz rfl (by first | decide | exact zb_01 _) ?_
        refine ev_gV [false] [] rfl ?_
        refine ev_retz rfl (by first | decide | exact zb_01 _) ?_
        refine ev_gV [false] [] rfl ?_
        refine ev_retz rfl (by first | decide | exact zb_01 _) ?_
        refine ev_gV [false] [] rfl ?_
        refine ev_inV 2 k_HA_53 h_SD_setN rfl rfl rfl rfl rfl ⟨by decide, by decide⟩ rfl ?_
        refine ev_gV [] [] rfl ?_
        refine ev_ret rfl ?_
        refine ev_g0 rfl ?_
        refine ev_reti rfl ?_
        refine ct_of h_MM_handles rfl rfl rfl ?_
        refine ev_g0 rfl ?_
        refine ev_inV 1 k_MM_344 h_MM_hold rfl rfl rfl rfl rfl ⟨by decide, by decide⟩ rfl ?_
        refine ev_gV [] [] rfl ?_
        refine ev_reti rfl ?_
        refine ev_gV [false] [some 12] rfl ?_
        refine ev_inV 2 k_MM_202 h_MM_isKind rfl rfl rfl rfl rfl ⟨by decide, by decide⟩ rfl ?_
        refine ev_gV [false, false, true, true, false, false] [] rfl ?_
        refine ev_inS 2 k_MM_192 h_MM_isOf rfl rfl rfl rfl ⟨by decide, by decide⟩ rfl ?_
        refine ev_gV [false, true] [] rfl ?_
        refine ev_retz rfl (by first | decide | exact zb_01 _) ?_
        refine ev_gV [false] [] rfl ?_
        refine ev_retz rfl (by first | decide | exact zb_01 _) ?_
        refine ev_gV [false] [] rfl ?_
        refine ev_inV 2 k_MM_288 h_MM_lay rfl rfl rfl rfl rfl ⟨by decide, by decide⟩ rfl ?_
        refine ev_gV [] [] rfl ?_
        refine ev_ret rfl ?_
        refine ev_g0 rfl ?_
        refine ev_ret rfl ?_
        exact ⟨rfl, (u3 xj 0 t a ((nI 1).toInt64)), xd, xf, xo, xi, xn, nI 0, rfl, bdd, lf_V, lf_V, (CU_num hC ht ha lf_V lf_V), (MU_num hM ht ha lf_V lf_V (fun i hi => (rc_isor hC hi).2.2.1))⟩
      · skip
        refine ev_gV [true] [] rfl ?_
        refine ev_retz rfl (by first | decide | exact zb_01 _) ?_
        refine ev_gV [true] [] rfl ?_
        refine ev_retz rfl (by first | decide | exact zb_01 _) ?_
        refine ev_gV [true] [] rfl ?_
        refine ev_retz rfl (by first | decide | exact zb_01 _) ?_
        refine ev_gV [true] [] rfl ?_
        refine ev_inV 2 k_HA_53 h_SD_setN rfl rfl rfl rfl rfl ⟨by decide, by decide⟩ rfl ?_
        refine ev_gV [] [] rfl ?_
        refine ev_ret rfl ?_
        refine ev_g0 rfl ?_
        refine ev_reti rfl ?_
        refine ct_of h_MM_handles rfl rfl rfl ?_
        refine ev_g0 rfl ?_
        refine ev_inV 1 k_MM_344 h_MM_hold rfl rfl rfl rfl rfl ⟨by decide, by decide⟩ rfl ?_
        refine ev_gV [] [] rfl ?_
        refine ev_reti rfl ?_
        refine ev_gV [false] [some 12] rfl ?_
        refine ev_inV 2 k_MM_202 h_MM_isKind rfl rfl rfl rfl rfl ⟨by decide, by decide⟩ rfl ?_
        refine ev_gV [false, false, true, true, false, false] [] rfl ?_
        refine ev_inS 2 k_MM_192 h_MM_isOf rfl rfl rfl rfl ⟨by decide, by decide⟩ rfl ?_
        refine ev_gV [false, false, true, true] [] rfl ?_
        refine ev_retz rfl (by first | decide | exact zb_01 _) ?_
        refine ev_gV [true] [] rfl ?_
        refine ev_retz rfl (by first | decide | exact zb_01 _) ?_
        refine ev_gV [true] [] rfl ?_
        refine ev_inV 2 k_MM_288 h_MM_lay rfl rfl rfl rfl rfl ⟨by decide, by decide⟩ rfl ?_
        refine ev_gV [] [] rfl ?_
        refine ev_ret rfl ?_
        refine ev_g0 rfl ?_
        refine ev_ret rfl ?_
        exact ⟨rfl, (u3 xj 0 t a ((nI 0).toInt64)), xd, xf, xo, xi, xn, nI 0, rfl, bdd, lf_V, lf_V, (CU_num hC ht ha lf_V lf_V), (MU_num hM ht ha lf_V lf_V (fun i hi => (rc_isor hC hi).2.2.1))⟩
    · skip
      refine ev_g0 rfl ?_
      refine ev_retz rfl (by first | decide | exact zb_01 _) ?_
      refine ev_gV [true] [] rfl ?_
      refine ev_retz rfl (by first | decide | exact zb_01 _) ?_
      refine ev_gV [true] [] rfl ?_
      refine ev_retz rfl (by first | decide | exact zb_01 _) ?_
      refine ev_gV [true] [] rfl ?_
      refine ev_inV 2 k_HA_53 h_SD_setN rfl rfl rfl rfl rfl ⟨by decide, by decide⟩ rfl ?_
      refine ev_gV [] [] rfl ?_
      refine ev_ret rfl ?_
      refine ev_g0 rfl ?_
      refine ev_reti rfl ?_
      refine ct_of h_MM_handles rfl rfl rfl ?_
      refine ev_g0 rfl ?_
      refine ev_inV 1 k_MM_344 h_MM_hold rfl rfl rfl rfl rfl ⟨by decide, by decide⟩ rfl ?_
      refine ev_gV [] [] rfl ?_
      refine ev_reti rfl ?_
      refine ev_gV [false] [some 12] rfl ?_
      refine ev_inV 2 k_MM_202 h_MM_isKind rfl rfl rfl rfl rfl ⟨by decide, by decide⟩ rfl ?_
      refine ev_gV [false, false, true, true, false, true] [] rfl ?_
      refine ev_retz rfl (by first | decide | exact zb_01 _) ?_
      refine ev_gV [true] [] rfl ?_
      refine ev_inV 2 k_MM_288 h_MM_lay rfl rfl rfl rfl rfl ⟨by decide, by decide⟩ rfl ?_
      refine ev_gV [] [] rfl ?_
      refine ev_ret rfl ?_
      refine ev_g0 rfl ?_
      refine ev_ret rfl ?_
      exact ⟨rfl, (u3 xj 0 t a ((nI 0).toInt64)), xd, xf, xo, xi, xn, nI 0, rfl, bdd, lf_V, lf_V, (CU_num hC ht ha lf_V lf_V), (MU_num hM ht ha lf_V lf_V (fun i hi => (rc_isor hC hi).2.2.1))⟩
theorem A49_20 {ci : Nat → Nat → Nat → Int32} {cn : Nat → Nat → Nat → Nat} {co : Nat → Option Nat} {xj : Nat → Nat → Nat → Int64} {xd : Nat → Nat → Nat → UInt64} {xf : Nat → Nat → Nat → UInt32} {xo : Nat → Nat → Nat → Option Nat} {xi : Nat → Nat → Nat → Int32} {xn : Nat → Nat → Nat → Nat} {K : Nat → Nat} {I : Nat → Nat → Int32} {J : Nat → Nat → Int64} {F : Nat → Nat → UInt32} {D : Nat → Nat → UInt64} {R : Nat → Nat → Option Nat} {nx sl : Nat} {Km : Nat → Nat} {Im : Nat → Nat → Int32} {Jm : Nat → Nat → Int64} {Fm : Nat → Nat → UInt32} {Dm : Nat → Nat → UInt64} {Rm : Nat → Nat → Option Nat} {nxm slm : Nat} (hC : RC ci cn co xj xd xf xo xi xn I J F D R nx sl) (hM : RM ci cn co xj xd xf xo xi xn Im Jm Dm) {t a b : Nat} {go : Int32} (ht : t < 3) (ha : a < 8) (hb : b < 8) (x1 : Im 6 39 = nI t) (x2 : Im 6 40 = nI a) (x3 : Im 6 41 = nI b) (x4 : Im 6 42 = nI 20) (x5 : Im 6 43 = nI 0) (x6 : Im 6 44 = go) : Ct Y_HA_perform [vr 1 55, vr 8 (32 + 7 * t), vi (nI 49), vi (nI a), vi (nI b), vi (nI 20)] (K, I, J, F, D, R, nx, sl) (fun r μ1 => Ct Y_MM_handles [vr 11 6, vi (nI 49)] (Km, Im, Jm, Fm, Dm, Rm, nxm, slm) (fun r2 μ2 => r2 = none ∧ QA ci cn co go r μ1 μ2)) := by
  rcases ho : xo 0 t b with _ | q
  · skip
    refine ct_of h_HA_perform rfl rfl rfl ?_
    refine ev_gV [] [some 37] rfl ?_
    refine ev_inV 1 k_HA_15 h_SD_t rfl rfl rfl rfl rfl ⟨by decide, by decide⟩ rfl ?_
    refine ev_gV [] [none] rfl ?_
    refine ev_retn rfl ?_
    refine ev_g0 rfl ?_
    refine ev_inS 4 k_HA_57 h_HA_takeAs rfl rfl rfl rfl ⟨by decide, by decide⟩ rfl ?_
    refine ev_g0 rfl ?_
    refine ev_inV 2 k_HA_21 h_SD_setT rfl rfl rfl rfl rfl ⟨by decide, by decide⟩ rfl ?_
    refine ev_gV [] [] rfl ?_
    refine ev_ret rfl ?_
    refine ev_g0 rfl ?_
    refine ev_reti rfl ?_
    refine ev_g0 rfl ?_
    refine ev_reti rfl ?_
    refine ct_of h_MM_handles rfl rfl rfl ?_
    refine ev_g0 rfl ?_
    refine ev_inV 1 k_MM_344 h_MM_hold rfl rfl rfl rfl rfl ⟨by decide, by decide⟩ rfl ?_
    refine ev_gV [] [] rfl ?_
    refine ev_reti rfl ?_
    refine ev_gV [] [some 13] rfl ?_
    refine ev_inV 2 k_MM_354 h_MM_takes rfl rfl rfl rfl rfl ⟨by decide, by decide⟩ rfl ?_
    refine ev_gV [true] [] rfl ?_
    refine ev_retz rfl (by first | decide | exact zb_01 _) ?_
    refine ev_gV [false] [] rfl ?_
    refine ev_inV 2 k_MM_336 h_MM_keep rfl rfl rfl rfl rfl ⟨by decide, by decide⟩ rfl ?_
    refine ev_gV [] [] rfl ?_
    refine ev_ret rfl ?_
    refine ev_g0 rfl ?_
    refine ev_ret rfl ?_
    exact ⟨rfl, xj, xd, xf, (u3 xo 0 t a (none)), xi, xn, nI 0, rfl, bdd, lf_V, lf_V, (CU_hol hC ht ha (fun _ h => by cases h) lf_V lf_V), (MU_hol hM ht ha lf_V lf_V (fun i hi => (rc_isor hC hi).2.2.1))⟩
  · skip
    have hq := rc_ihol hC ht hb _ ho
    have zq := rc_isor hC hq
    have yq := rc_imad hC
    refine ct_of h_HA_perform rfl rfl rfl ?_
    refine ev_gV [] [some 37] rfl ?_
    refine ev_inV 1 k_HA_15 h_SD_t rfl rfl rfl rfl rfl ⟨by decide, by decide⟩ rfl ?_
    refine ev_gV [] [some (94 + 4 * q)] rfl ?_
    refine ev_reta rfl ?_
    refine ev_g0 rfl ?_
    refine ev_inS 4 k_HA_57 h_HA_takeAs rfl rfl rfl rfl ⟨by decide, by decide⟩ rfl ?_
    refine ev_g0 rfl ?_
    refine ev_inV 1 k_HA_61 h_TH_isA rfl rfl rfl rfl rfl ⟨by decide, by decide⟩ rfl ?_
    refine ev_gV [false, true, false, false] [none] rfl ?_
    refine ev_inV 0 k_TH_73 h_TH_isRow rfl rfl rfl rfl rfl ⟨by decide, by decide⟩ rfl ?_
    refine ev_g0 rfl ?_
    refine ev_bV rfl rfl (fun h_1 => ?_) (fun h_1 => ?_)
    · skip
      refine ev_g0 rfl ?_
      refine ev_retz rfl (by first | decide | exact zb_01 _) ?_
      refine ev_gV [false] [] rfl ?_
      refine ev_inS 2 k_TH_77 h_TH_isUnder rfl rfl rfl rfl ⟨by decide, by decide⟩ rfl ?_
      refine ev_gV [false] [] rfl ?_
      refine ev_bV rfl rfl (fun h_2 => ?_) (fun h_2 => ?_)
      · skip
        refine ev_g0 rfl ?_
        refine ev_retz rfl (by first | decide | exact zb_01 _) ?_
        refine ev_gV [false] [] rfl ?_
        refine ev_retz rfl (by first | decide | exact zb_01 _) ?_
        refine ev_gV [true] [] rfl ?_
        refine ev_inV 2 k_HA_21 h_SD_setT rfl rfl rfl rfl rfl ⟨by decide, by decide⟩ rfl ?_
        refine ev_gV [] [] rfl ?_
        refine ev_ret rfl ?_
        refine ev_g0 rfl ?_
        refine ev_reti rfl ?_
        refine ev_g0 rfl ?_
        refine ev_reti rfl ?_
        refine ct_of h_MM_handles rfl rfl rfl ?_
        refine ev_g0 rfl ?_
        refine ev_inV 1 k_MM_344 h_MM_hold rfl rfl rfl rfl rfl ⟨by decide, by decide⟩ rfl ?_
        refine ev_gV [] [] rfl ?_
        refine ev_reti rfl ?_
        refine ev_gV [] [some 13] rfl ?_
        refine ev_inV 2 k_MM_354 h_MM_takes rfl rfl rfl rfl rfl ⟨by decide, by decide⟩ rfl ?_
        refine ev_gV [false] [] rfl ?_
        refine ev_inV 2 k_MM_202 h_MM_isKind rfl rfl rfl rfl rfl ⟨by decide, by decide⟩ rfl ?_
        refine ev_gV [false, false, true, true, false, false] [] rfl ?_
        refine ev_inS 2 k_MM_192 h_MM_isOf rfl rfl rfl rfl ⟨by decide, by decide⟩ rfl ?_
        refine ev_gV [false, true] [] rfl ?_
        refine ev_retz rfl (by first | decide | exact zb_01 _) ?_
        refine ev_gV [false] [] rfl ?_
        refine ev_retz rfl (by first | decide | exact zb_01 _) ?_
        refine ev_gV [true] [] rfl ?_
        refine ev_retz rfl (by first | decide | exact zb_01 _) ?_
        refine ev_gV [false] [] rfl ?_
        refine ev_inV 2 k_MM_336 h_MM_keep rfl rfl rfl rfl rfl ⟨by decide, by decide⟩ rfl ?_
        refine ev_gV [] [] rfl ?_
        refine ev_ret rfl ?_
        refine ev_g0 rfl ?_
        refine ev_ret rfl ?_
        exact ⟨rfl, xj, xd, xf, (u3 xo 0 t a (some q)), xi, xn, nI 0, rfl, bdd, lf_V, lf_V, (CU_hol hC ht ha (fun _ h => by cases h; exact hq) lf_V lf_V), (MU_hol hM ht ha lf_V lf_V (fun i hi => (rc_isor hC hi).2.2.1))⟩
      · skip
        refine ev_gV [true] [] rfl ?_
        refine ev_retz rfl (by first | decide | exact zb_01 _) ?_
        refine ev_gV [true] [] rfl ?_
        refine ev_retz rfl (by first | decide | exact zb_01 _) ?_
        refine ev_gV [false] [] rfl ?_
        refine ev_reti rfl ?_
        refine ev_g0 rfl ?_
        refine ev_reti rfl ?_
        refine ct_of h_MM_handles rfl rfl rfl ?_
        refine ev_g0 rfl ?_
        refine ev_inV 1 k_MM_344 h_MM_hold rfl rfl rfl rfl rfl ⟨by decide, by decide⟩ rfl ?_
        refine ev_gV [] [] rfl ?_
        refine ev_reti rfl ?_
        refine ev_gV [] [some 13] rfl ?_
        refine ev_inV 2 k_MM_354 h_MM_takes rfl rfl rfl rfl rfl ⟨by decide, by decide⟩ rfl ?_
        refine ev_gV [false] [] rfl ?_
        refine ev_inV 2 k_MM_202 h_MM_isKind rfl rfl rfl rfl rfl ⟨by decide, by decide⟩ rfl ?_
        refine ev_gV [false, false, true, true, false, false] [] rfl ?_
        refine ev_inS 2 k_MM_192 h_MM_isOf rfl rfl rfl rfl ⟨by decide, by decide⟩ rfl ?_
        refine ev_gV [false, false, true, true] [] rfl ?_
        refine ev_retz rfl (by first | decide | exact zb_01 _) ?_
        refine ev_gV [true] [] rfl ?_
        refine ev_retz rfl (by first | decide | exact zb_01 _) ?_
        refine ev_gV [false] [] rfl ?_
        refine ev_retz rfl (by first | decide | exact zb_01 _) ?_
        refine ev_gV [true] [] rfl ?_
        refine ev_ret rfl ?_
        exact ⟨rfl, xj, xd, xf, xo, xi, xn, nI 3, rfl, bdd, lf_V, lf_V, hC, hM⟩
    · skip
      refine ev_g0 rfl ?_
      refine ev_retz rfl (by first | decide | exact zb_01 _) ?_
      refine ev_gV [true] [] rfl ?_
      refine ev_retz rfl (by first | decide | exact zb_01 _) ?_
      refine ev_gV [false] [] rfl ?_
      refine ev_reti rfl ?_
      refine ev_g0 rfl ?_
      refine ev_reti rfl ?_
      refine ct_of h_MM_handles rfl rfl rfl ?_
      refine ev_g0 rfl ?_
      refine ev_inV 1 k_MM_344 h_MM_hold rfl rfl rfl rfl rfl ⟨by decide, by decide⟩ rfl ?_
      refine ev_gV [] [] rfl ?_
      refine ev_reti rfl ?_
      refine ev_gV [] [some 13] rfl ?_
      refine ev_inV 2 k_MM_354 h_MM_takes rfl rfl rfl rfl rfl ⟨by decide, by decide⟩ rfl ?_
      refine ev_gV [false] [] rfl ?_
      refine ev_inV 2 k_MM_202 h_MM_isKind rfl rfl rfl rfl rfl ⟨by decide, by decide⟩ rfl ?_
      refine ev_gV [false, false, true, true, false, true] [] rfl ?_
      refine ev_retz rfl (by first | decide | exact zb_01 _) ?_
      refine ev_gV [false] [] rfl ?_
      refine ev_retz rfl (by first | decide | exact zb_01 _) ?_
      refine ev_gV [true] [] rfl ?_
      refine ev_ret rfl ?_
      exact ⟨rfl, xj, xd, xf, xo, xi, xn, nI 3, rfl, bdd, lf_V, lf_V, hC, hM⟩
theorem A48_21 {ci : Nat → Nat → Nat → Int32} {cn : Nat → Nat → Nat → Nat} {co : Nat → Option Nat} {xj : Nat → Nat → Nat → Int64} {xd : Nat → Nat → Nat → UInt64} {xf : Nat → Nat → Nat → UInt32} {xo : Nat → Nat → Nat → Option Nat} {xi : Nat → Nat → Nat → Int32} {xn : Nat → Nat → Nat → Nat} {K : Nat → Nat} {I : Nat → Nat → Int32} {J : Nat → Nat → Int64} {F : Nat → Nat → UInt32} {D : Nat → Nat → UInt64} {R : Nat → Nat → Option Nat} {nx sl : Nat} {Km : Nat → Nat} {Im : Nat → Nat → Int32} {Jm : Nat → Nat → Int64} {Fm : Nat → Nat → UInt32} {Dm : Nat → Nat → UInt64} {Rm : Nat → Nat → Option Nat} {nxm slm : Nat} (hC : RC ci cn co xj xd xf xo xi xn I J F D R nx sl) (hM : RM ci cn co xj xd xf xo xi xn Im Jm Dm) {t a b : Nat} {go : Int32} (ht : t < 3) (ha : a < 8) (hb : b < 8) (x1 : Im 6 39 = nI t) (x2 : Im 6 40 = nI a) (x3 : Im 6 41 = nI b) (x4 : Im 6 42 = nI 21) (x5 : Im 6 43 = nI 0) (x6 : Im 6 44 = go) : Ct Y_HA_perform [vr 1 55, vr 8 (32 + 7 * t), vi (nI 48), vi (nI a), vi (nI b), vi (nI 21)] (K, I, J, F, D, R, nx, sl) (fun r μ1 => Ct Y_MM_handles [vr 11 6, vi (nI 48)] (Km, Im, Jm, Fm, Dm, Rm, nxm, slm) (fun r2 μ2 => r2 = none ∧ QA ci cn co go r μ1 μ2)) := by
  rcases ho : xo 0 t b with _ | q
  · skip
    refine ct_of h_HA_perform rfl rfl rfl ?_
    refine ev_gV [] [some 36] rfl ?_
    refine ev_inV 1 k_HA_15 h_SD_t rfl rfl rfl rfl rfl ⟨by decide, by decide⟩ rfl ?_
    refine ev_gV [] [none] rfl ?_
    refine ev_retn rfl ?_
    refine ev_g0 rfl ?_
    refine ev_inS 2 k_HA_49 h_HA_isA rfl rfl rfl rfl ⟨by decide, by decide⟩ rfl ?_
    refine ev_g0 rfl ?_
    refine ev_retz rfl (by first | decide | exact zb_01 _) ?_
    refine ev_gV [true] [] rfl ?_
    refine ev_inV 2 k_HA_53 h_SD_setN rfl rfl rfl rfl rfl ⟨by decide, by decide⟩ rfl ?_
    refine ev_gV [] [] rfl ?_
    refine ev_ret rfl ?_
    refine ev_g0 rfl ?_
    refine ev_reti rfl ?_
    refine ct_of h_MM_handles rfl rfl rfl ?_
    refine ev_g0 rfl ?_
    refine ev_inV 1 k_MM_344 h_MM_hold rfl rfl rfl rfl rfl ⟨by decide, by decide⟩ rfl ?_
    refine ev_gV [] [] rfl ?_
    refine ev_reti rfl ?_
    refine ev_gV [true] [some 12] rfl ?_
    refine ev_inV 2 k_MM_288 h_MM_lay rfl rfl rfl rfl rfl ⟨by decide, by decide⟩ rfl ?_
    refine ev_gV [] [] rfl ?_
    refine ev_ret rfl ?_
    refine ev_g0 rfl ?_
    refine ev_ret rfl ?_
    exact ⟨rfl, (u3 xj 0 t a ((nI 0).toInt64)), xd, xf, xo, xi, xn, nI 0, rfl, bdd, lf_V, lf_V, (CU_num hC ht ha lf_V lf_V), (MU_num hM ht ha lf_V lf_V (fun i hi => (rc_isor hC hi).2.2.1))⟩
  · skip
    have hq := rc_ihol hC ht hb _ ho
    have zq := rc_isor hC hq
    have yq := rc_imad hC
    refine ct_of h_HA_perform rfl rfl rfl ?_
    refine ev_gV [] [some 36] rfl ?_
    refine ev_inV 1 k_HA_15 h_SD_t rfl rfl rfl rfl rfl ⟨by decide, by decide⟩ rfl ?_
    refine ev_gV [] [some (94 + 4 * q)] rfl ?_
    refine ev_reta rfl ?_
    refine ev_g0 rfl ?_
    refine ev_inS 2 k_HA_49 h_HA_isA rfl rfl rfl rfl ⟨by decide, by decide⟩ rfl ?_
    refine ev_g0 rfl ?_
    refine ev_inV 1 k_HA_61 h_TH_isA rfl rfl rfl rfl rfl ⟨by decide, by decide⟩ rfl ?_
    refine ev_gV [] [some 0] rfl ?_
    refine ev_inV 0 k_TH_73 h_TH_isRow rfl rfl rfl rfl rfl ⟨by decide, by decide⟩ rfl ?_
    refine ev_g0 rfl ?_
    refine ev_bV rfl rfl (fun h_1 => ?_) (fun h_1 => ?_)
    · skip
      refine ev_g0 rfl ?_
      refine ev_retz rfl (by first | decide | exact zb_01 _) ?_
      refine ev_gV [false] [] rfl ?_
      refine ev_retz rfl (by first | decide | exact zb_01 _) ?_
      refine ev_gV [false] [] rfl ?_
      refine ev_retz rfl (by first | decide | exact zb_01 _) ?_
      refine ev_gV [false] [] rfl ?_
      refine ev_inV 2 k_HA_53 h_SD_setN rfl rfl rfl rfl rfl ⟨by decide, by decide⟩ rfl ?_
      refine ev_gV [] [] rfl ?_
      refine ev_ret rfl ?_
      refine ev_g0 rfl ?_
      refine ev_reti rfl ?_
      refine ct_of h_MM_handles rfl rfl rfl ?_
      refine ev_g0 rfl ?_
      refine ev_inV 1 k_MM_344 h_MM_hold rfl rfl rfl rfl rfl ⟨by decide, by decide⟩ rfl ?_
      refine ev_gV [] [] rfl ?_
      refine ev_reti rfl ?_
      refine ev_gV [false] [some 12] rfl ?_
      refine ev_inV 2 k_MM_202 h_MM_isKind rfl rfl rfl rfl rfl ⟨by decide, by decide⟩ rfl ?_
      refine ev_gV [false, false, true, true, true, false] [some 0] rfl ?_
      refine ev_retz rfl (by first | decide | exact zb_01 _) ?_
      refine ev_gV [false] [] rfl ?_
      refine ev_inV 2 k_MM_288 h_MM_lay rfl rfl rfl rfl rfl ⟨by decide, by decide⟩ rfl ?_
      refine ev_gV [] [] rfl ?_
      refine ev_ret rfl ?_
      refine ev_g0 rfl ?_
      refine ev_ret rfl ?_
      exact ⟨rfl, (u3 xj 0 t a ((nI 1).toInt64)), xd, xf, xo, xi, xn, nI 0, rfl, bdd, lf_V, lf_V, (CU_num hC ht ha lf_V lf_V), (MU_num hM ht ha lf_V lf_V (fun i hi => (rc_isor hC hi).2.2.1))⟩
    · skip
      refine ev_g0 rfl ?_
      refine ev_retz rfl (by first | decide | exact zb_01 _) ?_
      refine ev_gV [true] [] rfl ?_
      refine ev_retz rfl (by first | decide | exact zb_01 _) ?_
      refine ev_gV [true] [] rfl ?_
      refine ev_retz rfl (by first | decide | exact zb_01 _) ?_
      refine ev_gV [true] [] rfl ?_
      refine ev_inV 2 k_HA_53 h_SD_setN rfl rfl rfl rfl rfl ⟨by decide, by decide⟩ rfl ?_
      refine ev_gV [] [] rfl ?_
      refine ev_ret rfl ?_
      refine ev_g0 rfl ?_
      refine ev_reti rfl ?_
      refine ct_of h_MM_handles rfl rfl rfl ?_
      refine ev_g0 rfl ?_
      refine ev_inV 1 k_MM_344 h_MM_hold rfl rfl rfl rfl rfl ⟨by decide, by decide⟩ rfl ?_
      refine ev_gV [] [] rfl ?_
      refine ev_reti rfl ?_
      refine ev_gV [false] [some 12] rfl ?_
      refine ev_inV 2 k_MM_202 h_MM_isKind rfl rfl rfl rfl rfl ⟨by decide, by decide⟩ rfl ?_
      refine ev_gV [false, false, true, true, true, true] [some 0] rfl ?_
      refine ev_retz rfl (by first | decide | exact zb_01 _) ?_
      refine ev_gV [true] [] rfl ?_
      refine ev_inV 2 k_MM_288 h_MM_lay rfl rfl rfl rfl rfl ⟨by decide, by decide⟩ rfl ?_
      refine ev_gV [] [] rfl ?_
      refine ev_ret rfl ?_
      refine ev_g0 rfl ?_
      refine ev_ret rfl ?_
      exact ⟨rfl, (u3 xj 0 t a ((nI 0).toInt64)), xd, xf, xo, xi, xn, nI 0, rfl, bdd, lf_V, lf_V, (CU_num hC ht ha lf_V lf_V), (MU_num hM ht ha lf_V lf_V (fun i hi => (rc_isor hC hi).2.2.1))⟩
theorem A49_21 {ci : Nat → Nat → Nat → Int32} {cn : Nat → Nat → Nat → Nat} {co : Nat → Option Nat} {xj : Nat → Nat → Nat → Int64} {xd : Nat → Nat → Nat → UInt64} {xf : Nat → Nat → Nat → UInt32} {xo : Nat → Nat → Nat → Option Nat} {xi : Nat → Nat → Nat → Int32} {xn : Nat → Nat → Nat → Nat} {K : Nat → Nat} {I : Nat → Nat → Int32} {J : Nat → Nat → Int64} {F : Nat → Nat → UInt32} {D : Nat → Nat → UInt64} {R : Nat → Nat → Option Nat} {nx sl : Nat} {Km : Nat → Nat} {Im : Nat → Nat → Int32} {Jm : Nat → Nat → Int64} {Fm : Nat → Nat → UInt32} {Dm : Nat → Nat → UInt64} {Rm : Nat → Nat → Option Nat} {nxm slm : Nat} (hC : RC ci cn co xj xd xf xo xi xn I J F D R nx sl) (hM : RM ci cn co xj xd xf xo xi xn Im Jm Dm) {t a b : Nat} {go : Int32} (ht : t < 3) (ha : a < 8) (hb : b < 8) (x1 : Im 6 39 = nI t) (x2 : Im 6 40 = nI a) (x3 : Im 6 41 = nI b) (x4 : Im 6 42 = nI 21) (x5 : Im 6 43 = nI 0) (x6 : Im 6 44 = go) : Ct Y_HA_perform [vr 1 55, vr 8 (32 + 7 * t), vi (nI 49), vi (nI a), vi (nI b), vi (nI 21)] (K, I, J, F, D, R, nx, sl) (fun r μ1 => Ct Y_MM_handles [vr 11 6, vi (nI 49)] (Km, Im, Jm, Fm, Dm, Rm, nxm, slm) (fun r2 μ2 => r2 = none ∧ QA ci cn co go r μ1 μ2)) := by
  rcases ho : xo 0 t b with _ | q
  · skip
    refine ct_of h_HA_perform rfl rfl rfl ?_
    refine ev_gV [] [some 37] rfl ?_
    refine ev_inV 1 k_HA_15 h_SD_t rfl rfl rfl rfl rfl ⟨by decide, by decide⟩ rfl ?_
    refine ev_gV [] [none] rfl ?_
    refine ev_retn rfl ?_
    refine ev_g0 rfl ?_
    refine ev_inS 4 k_HA_57 h_HA_takeAs rfl rfl rfl rfl ⟨by decide, by decide⟩ rfl ?_
    refine ev_g0 rfl ?_
    refine ev_inV 2 k_HA_21 h_SD_setT rfl rfl rfl rfl rfl ⟨by decide, by decide⟩ rfl ?_
    refine ev_gV [] [] rfl ?_
    refine ev_ret rfl ?_
    refine ev_g0 rfl ?_
    refine ev_reti rfl ?_
    refine ev_g0 rfl ?_
    refine ev_reti rfl ?_
    refine ct_of h_MM_handles rfl rfl rfl ?_
    refine ev_g0 rfl ?_
    refine ev_inV 1 k_MM_344 h_MM_hold rfl rfl rfl rfl rfl ⟨by decide, by decide⟩ rfl ?_
    refine ev_gV [] [] rfl ?_
    refine ev_reti rfl ?_
    refine ev_gV [] [some 13] rfl ?_
    refine ev_inV 2 k_MM_354 h_MM_takes rfl rfl rfl rfl rfl ⟨by decide, by decide⟩ rfl ?_
    refine ev_gV [true] [] rfl ?_
    refine ev_retz rfl (by first | decide | exact zb_01 _) ?_
    refine ev_gV [false] [] rfl ?_
    refine ev_inV 2 k_MM_336 h_MM_keep rfl rfl rfl rfl rfl ⟨by decide, by decide⟩ rfl ?_
    refine ev_gV [] [] rfl ?_
    refine ev_ret rfl ?_
    refine ev_g0 rfl ?_
    refine ev_ret rfl ?_
    exact ⟨rfl, xj, xd, xf, (u3 xo 0 t a (none)), xi, xn, nI 0, rfl, bdd, lf_V, lf_V, (CU_hol hC ht ha (fun _ h => by cases h) lf_V lf_V), (MU_hol hM ht ha lf_V lf_V (fun i hi => (rc_isor hC hi).2.2.1))⟩
  · skip
    have hq := rc_ihol hC ht hb _ ho
    have zq := rc_isor hC hq
    have yq := rc_imad hC
    refine ct_of h_HA_perform rfl rfl rfl ?_
    refine ev_gV [] [some 37] rfl ?_
    refine ev_inV 1 k_HA_15 h_SD_t rfl rfl rfl rfl rfl ⟨by decide, by decide⟩ rfl ?_
    refine ev_gV [] [some (94 + 4 * q)] rfl ?_
    refine ev_reta rfl ?_
    refine ev_g0 rfl ?_
    refine ev_inS 4 k_HA_57 h_HA_takeAs rfl rfl rfl rfl ⟨by decide, by decide⟩ rfl ?_
    refine ev_g0 rfl ?_
    refine ev_inV 1 k_HA_61 h_TH_isA rfl rfl rfl rfl rfl ⟨by decide, by decide⟩ rfl ?_
    refine ev_gV [] [some 0] rfl ?_
    refine ev_inV 0 k_TH_73 h_TH_isRow rfl rfl rfl rfl rfl ⟨by decide, by decide⟩ rfl ?_
    refine ev_g0 rfl ?_
    refine ev_bV rfl rfl (fun h_1 => ?_) (fun h_1 => ?_)
    · skip
      refine ev_g0 rfl ?_
      refine ev_retz rfl (by first | decide | exact zb_01 _) ?_
      refine ev_gV [false] [] rfl ?_
      refine ev_retz rfl (by first | decide | exact zb_01 _) ?_
      refine ev_gV [true] [] rfl ?_
      refine ev_inV 2 k_HA_21 h_SD_setT rfl rfl rfl rfl rfl ⟨by decide, by decide⟩ rfl ?_
      refine ev_gV [] [] rfl ?_
      refine ev_ret rfl ?_
      refine ev_g0 rfl ?_
      refine ev_reti rfl ?_
      refine ev_g0 rfl ?_
      refine ev_reti rfl ?_
      refine ct_of h_MM_handles rfl rfl rfl ?_
      refine ev_g0 rfl ?_
      refine ev_inV 1 k_MM_344 h_MM_hold rfl rfl rfl rfl rfl ⟨by decide, by decide⟩ rfl ?_
      refine ev_gV [] [] rfl ?_
      refine ev_reti rfl ?_
      refine ev_gV [] [some 13] rfl ?_
      refine ev_inV 2 k_MM_354 h_MM_takes rfl rfl rfl rfl rfl ⟨by decide, by decide⟩ rfl ?_
      refine ev_gV [false] [] rfl ?_
      refine ev_inV 2 k_MM_202 h_MM_isKind rfl rfl rfl rfl rfl ⟨by decide, by decide⟩ rfl ?_
      refine ev_gV [false, false, true, true, true, false] [some 0] rfl ?_
      refine ev_retz rfl (by first | decide | exact zb_01 _) ?_
      refine ev_gV [true] [] rfl ?_
      refine ev_retz rfl (by first | decide | exact zb_01 _) ?_
      refine ev_gV [false] [] rfl ?_
      refine ev_inV 2 k_MM_336 h_MM_keep rfl rfl rfl rfl rfl ⟨by decide, by decide⟩ rfl ?_
      refine ev_gV [] [] rfl ?_
      refine ev_ret rfl ?_
      refine ev_g0 rfl ?_
      refine ev_ret rfl ?_
      exact ⟨rfl, xj, xd, xf, (u3 xo 0 t a (some q)), xi, xn, nI 0, rfl, bdd, lf_V, lf_V, (CU_hol hC ht ha (fun _ h => by cases h; exact hq) lf_V lf_V), (MU_hol hM ht ha lf_V lf_V (fun i hi => (rc_isor hC hi).2.2.1))⟩
    · skip
      refine ev_g0 rfl ?_
      refine ev_retz rfl (by first | decide | exact zb_01 _) ?_
      refine ev_gV [true] [] rfl ?_
      refine ev_retz rfl (by first | decide | exact zb_01 _) ?_
      refine ev_gV [false] [] rfl ?_
      refine ev_reti rfl ?_
      refine ev_g0 rfl ?_
      refine ev_reti rfl ?_
      refine ct_of h_MM_handles rfl rfl rfl ?_
      refine ev_g0 rfl ?_
      refine ev_inV 1 k_MM_344 h_MM_hold rfl rfl rfl rfl rfl ⟨by decide, by decide⟩ rfl ?_
      refine ev_gV [] [] rfl ?_
      refine ev_reti rfl ?_
      refine ev_gV [] [some 13] rfl ?_
      refine ev_inV 2 k_MM_354 h_MM_takes rfl rfl rfl rfl rfl ⟨by decide, by decide⟩ rfl ?_
      refine ev_gV [false] [] rfl ?_
      refine ev_inV 2 k_MM_202 h_MM_isKind rfl rfl rfl rfl rfl ⟨by decide, by decide⟩ rfl ?_
      refine ev_gV [false, false, true, true, true, true] [some 0] rfl ?_
      refine ev_retz rfl (by first | decide | exact zb_01 _) ?_
      refine ev_gV [false] [] rfl ?_
      refine ev_retz rfl (by first | decide | exact zb_01 _) ?_
      refine ev_gV [true] [] rfl ?_
      refine ev_ret rfl ?_
      exact ⟨rfl, xj, xd, xf, xo, xi, xn, nI 3, rfl, bdd, lf_V, lf_V, hC, hM⟩
theorem A48_22 {ci : Nat → Nat → Nat → Int32} {cn : Nat → Nat → Nat → Nat} {co : Nat → Option Nat} {xj : Nat → Nat → Nat → Int64} {xd : Nat → Nat → Nat → UInt64} {xf : Nat → Nat → Nat → UInt32} {xo : Nat → Nat → Nat → Option Nat} {xi : Nat → Nat → Nat → Int32} {xn : Nat → Nat → Nat → Nat} {K : Nat → Nat} {I : Nat → Nat → Int32} {J : Nat → Nat → Int64} {F : Nat → Nat → UInt32} {D : Nat → Nat → UInt64} {R : Nat → Nat → Option Nat} {nx sl : Nat} {Km : Nat → Nat} {Im : Nat → Nat → Int32} {Jm : Nat → Nat → Int64} {Fm : Nat → Nat → UInt32} {Dm : Nat → Nat → UInt64} {Rm : Nat → Nat → Option Nat} {nxm slm : Nat} (hC : RC ci cn co xj xd xf xo xi xn I J F D R nx sl) (hM : RM ci cn co xj xd xf xo xi xn Im Jm Dm) {t a b : Nat} {go : Int32} (ht : t < 3) (ha : a < 8) (hb : b < 8) (x1 : Im 6 39 = nI t) (x2 : Im 6 40 = nI a) (x3 : Im 6 41 = nI b) (x4 : Im 6 42 = nI 22) (x5 : Im 6 43 = nI 0) (x6 : Im 6 44 = go) : Ct Y_HA_perform [vr 1 55, vr 8 (32 + 7 * t), vi (nI 48), vi (nI a), vi (nI b), vi (nI 22)] (K, I, J, F, D, R, nx, sl) (fun r μ1 => Ct Y_MM_handles [vr 11 6, vi (nI 48)] (Km, Im, Jm, Fm, Dm, Rm, nxm, slm) (fun r2 μ2 => r2 = none ∧ QA ci cn co go r μ1 μ2)) := by
  rcases ho : xo 0 t b with _ | q
  · skip
    refine ct_of h_HA_perform rfl rfl rfl ?_
    refine ev_gV [] [some 36] rfl ?_
    refine ev_inV 1 k_HA_15 h_SD_t rfl rfl rfl rfl rfl ⟨by decide, by decide⟩ rfl ?_
    refine ev_gV [] [none] rfl ?_
    refine ev_retn rfl ?_
    refine ev_g0 rfl ?_
    refine ev_inS 2 k_HA_49 h_HA_isA rfl rfl rfl rfl ⟨by decide, by decide⟩ rfl ?_
    refine ev_g0 rfl ?_
    refine ev_retz rfl (by first | decide | exact zb_01 _) ?_
    refine ev_gV [true] [] rfl ?_
    refine ev_inV 2 k_HA_53 h_SD_setN rfl rfl rfl rfl rfl ⟨by decide, by decide⟩ rfl ?_
    refine ev_gV [] [] rfl ?_
    refine ev_ret rfl ?_
    refine ev_g0 rfl ?_
    refine ev_reti rfl ?_
    refine ct_of h_MM_handles rfl rfl rfl ?_
    refine ev_g0 rfl ?_
    refine ev_inV 1 k_MM_344 h_MM_hold rfl rfl rfl rfl rfl ⟨by decide, by decide⟩ rfl ?_
    refine ev_gV [] [] rfl ?_
    refine ev_reti rfl ?_
    refine ev_gV [true] [some 12] rfl ?_
    refine ev_inV 2 k_MM_288 h_MM_lay rfl rfl rfl rfl rfl ⟨by decide, by decide⟩ rfl ?_
    refine ev_gV [] [] rfl ?_
    refine ev_ret rfl ?_
    refine ev_g0 rfl ?_
    refine ev_ret rfl ?_
    exact ⟨rfl, (u3 xj 0 t a ((nI 0).toInt64)), xd, xf, xo, xi, xn, nI 0, rfl, bdd, lf_V, lf_V, (CU_num hC ht ha lf_V lf_V), (MU_num hM ht ha lf_V lf_V (fun i hi => (rc_isor hC hi).2.2.1))⟩
  · skip
    have hq := rc_ihol hC ht hb _ ho
    have zq := rc_isor hC hq
    have yq := rc_imad hC
    refine ct_of h_HA_perform rfl rfl rfl ?_
    refine ev_gV [] [some 36] rfl ?_
    refine ev_inV 1 k_HA_15 h_SD_t rfl rfl rfl rfl rfl ⟨by decide, by decide⟩ rfl ?_
    refine ev_gV [] [some (94 + 4 * q)] rfl ?_
    refine ev_reta rfl ?_
    refine ev_g0 rfl ?_
    refine ev_inS 2 k_HA_49 h_HA_isA rfl rfl rfl rfl ⟨by decide, by decide⟩ rfl ?_
    refine ev_g0 rfl ?_
    refine ev_inV 1 k_HA_61 h_TH_isA rfl rfl rfl rfl rfl ⟨by decide, by decide⟩ rfl ?_
    refine ev_gV [] [some 1] rfl ?_
    refine ev_bV rfl rfl (fun h_1 => ?_) (fun h_1 => ?_)
    · skip
      refine ev_g0 rfl ?_
      refine ev_retz rfl (by first | decide | exact zb_01 _) ?_
      refine ev_gV [false] [] rfl ?_
      refine ev_retz rfl (by first | decide | exact zb_01 _) ?_
      refine ev_gV [false] [] rfl ?_
      refine ev_inV 2 k_HA_53 h_SD_setN rfl rfl rfl rfl rfl ⟨by decide, by decide⟩ rfl ?_
      refine ev_gV [] [] rfl ?_
      refine ev_ret rfl ?_
      refine ev_g0 rfl ?_
      refine ev_reti rfl ?_
      refine ct_of h_MM_handles rfl rfl rfl ?_
      refine ev_g0 rfl ?_
      refine ev_inV 1 k_MM_344 h_MM_hold rfl rfl rfl rfl rfl ⟨by decide, by decide⟩ rfl ?_
      refine ev_gV [] [] rfl ?_
      refine ev_reti rfl ?_
      refine ev_gV [false] [some 12] rfl ?_
      refine ev_inV 2 k_MM_202 h_MM_isKind rfl rfl rfl rfl rfl ⟨by decide, by decide⟩ rfl ?_
      refine ev_gV [false, false, true, true, true, true] [some 1] rfl ?_
      refine ev_retz rfl (by first | decide | exact zb_01 _) ?_
      refine ev_gV [false] [] rfl ?_
      refine ev_inV 2 k_MM_288 h_MM_lay rfl rfl rfl rfl rfl ⟨by decide, by decide⟩ rfl ?_
      refine ev_gV [] [] rfl ?_
      refine ev_ret rfl ?_
      refine ev_g0 rfl ?_
      refine ev_ret rfl ?_
      exact ⟨rfl, (u3 xj 0 t a ((nI 1).toInt64)), xd, xf, xo, xi, xn, nI 0, rfl, bdd, lf_V, lf_V, (CU_num hC ht ha lf_V lf_V), (MU_num hM ht ha lf_V lf_V (fun i hi => (rc_isor hC hi).2.2.1))⟩
    · skip
      refine ev_g0 rfl ?_
      refine ev_bV rfl rfl (fun h_2 => ?_) (fun h_2 => ?_)
      · skip
        refine ev_g0 rfl ?_
        refine ev_retz rfl (by first | decide | exact zb_01 _) ?_
        refine ev_gV [true] [] rfl ?_
        refine ev_retz rfl (by first | decide | exact zb_01 _) ?_
        refine ev_gV [true] [] rfl ?_
        refine ev_inV 2 k_HA_53 h_SD_setN rfl rfl rfl rfl rfl ⟨by decide, by decide⟩ rfl ?_
        refine ev_gV [] [] rfl ?_
        refine ev_ret rfl ?_
        refine ev_g0 rfl ?_
        refine ev_reti rfl ?_
        refine ct_of h_MM_handles rfl rfl rfl ?_
        refine ev_g0 rfl ?_
        refine ev_inV 1 k_MM_344 h_MM_hold rfl rfl rfl rfl rfl ⟨by decide, by decide⟩ rfl ?_
        refine ev_gV [] [] rfl ?_
        refine ev_reti rfl ?_
        refine ev_gV [false] [some 12] rfl ?_
        refine ev_inV 2 k_MM_202 h_MM_isKind rfl rfl rfl rfl rfl ⟨by decide, by decide⟩ rfl ?_
        refine ev_gV [false, false, true, true, true, false, true] [some 1] rfl ?_
        refine ev_retz rfl (by first | decide | exact zb_01 _) ?_
        refine ev_gV [true] [] rfl ?_
        refine ev_inV 2 k_MM_288 h_MM_lay rfl rfl rfl rfl rfl ⟨by decide, by decide⟩ rfl ?_
        refine ev_gV [] [] rfl ?_
        refine ev_ret rfl ?_
        refine ev_g0 rfl ?_
        refine ev_ret rfl ?_
        exact ⟨rfl, (u3 xj 0 t a ((nI 0).toInt64)), xd, xf, xo, xi, xn, nI 0, rfl, bdd, lf_V, lf_V, (CU_num hC ht ha lf_V lf_V), (MU_num hM ht ha lf_V lf_V (fun i hi => (rc_isor hC hi).2.2.1))⟩
      · skip
        refine ev_g0 rfl ?_
        refine ev_retz rfl (by first | decide | exact zb_01 _) ?_
        refine ev_gV [false] [] rfl ?_
        refine ev_retz rfl (by first | decide | exact zb_01 _) ?_
        refine ev_gV [false] [] rfl ?_
        refine ev_inV 2 k_HA_53 h_SD_setN rfl rfl rfl rfl rfl ⟨by decide, by decide⟩ rfl ?_
        refine ev_gV [] [] rfl ?_
        refine ev_ret rfl ?_
        refine ev_g0 rfl ?_
        refine ev_reti rfl ?_
        refine ct_of h_MM_handles rfl rfl rfl ?_
        refine ev_g0 rfl ?_
        refine ev_inV 1 k_MM_344 h_MM_hold rfl rfl rfl rfl rfl ⟨by decide, by decide⟩ rfl ?_
        refine ev_gV [] [] rfl ?_
        refine ev_reti rfl ?_
        refine ev_gV [false] [some 12] rfl ?_
        refine ev_inV 2 k_MM_202 h_MM_isKind rfl rfl rfl rfl rfl ⟨by decide, by decide⟩ rfl ?_
        refine ev_gV [false, false, true, true, true, false, false] [some 1] rfl ?_
        refine ev_retz rfl (by first | decide | exact zb_01 _) ?_
        refine ev_gV [false] [] rfl ?_
        refine ev_inV 2 k_MM_288 h_MM_lay rfl rfl rfl rfl rfl ⟨by decide, by decide⟩ rfl ?_
        refine ev_gV [] [] rfl ?_
        refine ev_ret rfl ?_
        refine ev_g0 rfl ?_
        refine ev_ret rfl ?_
        exact ⟨rfl, (u3 xj 0 t a ((nI 1).toInt64)), xd, xf, xo, xi, xn, nI 0, rfl, bdd, lf_V, lf_V, (CU_num hC ht ha lf_V lf_V), (MU_num hM ht ha lf_V lf_V (fun i hi => (rc_isor hC hi).2.2.1))⟩
theorem A49_22 {ci : Nat → Nat → Nat → Int32} {cn : Nat → Nat → Nat → Nat} {co : Nat → Option Nat} {xj : Nat → Nat → Nat → Int64} {xd : Nat → Nat → Nat → UInt64} {xf : Nat → Nat → Nat → UInt32} {xo : Nat → Nat → Nat → Option Nat} {xi : Nat → Nat → Nat → Int32} {xn : Nat → Nat → Nat → Nat} {K : Nat → Nat} {I : Nat → Nat → Int32} {J : Nat → Nat → Int64} {F : Nat → Nat → UInt32} {D : Nat → Nat → UInt64} {R : Nat → Nat → Option Nat} {nx sl : Nat} {Km : Nat → Nat} {Im : Nat → Nat → Int32} {Jm : Nat → Nat → Int64} {Fm : Nat → Nat → UInt32} {Dm : Nat → Nat → UInt64} {Rm : Nat → Nat → Option Nat} {nxm slm : Nat} (hC : RC ci cn co xj xd xf xo xi xn I J F D R nx sl) (hM : RM ci cn co xj xd xf xo xi xn Im Jm Dm) {t a b : Nat} {go : Int32} (ht : t < 3) (ha : a < 8) (hb : b < 8) (x1 : Im 6 39 = nI t) (x2 : Im 6 40 = nI a) (x3 : Im 6 41 = nI b) (x4 : Im 6 42 = nI 22) (x5 : Im 6 43 = nI 0) (x6 : Im 6 44 = go) : Ct Y_HA_perform [vr 1 55, vr 8 (32 + 7 * t), vi (nI 49), vi (nI a), vi (nI b), vi (nI 22)] (K, I, J, F, D, R, nx, sl) (fun r μ1 => Ct Y_MM_handles [vr 11 6, vi (nI 49)] (Km, Im, Jm, Fm, Dm, Rm, nxm, slm) (fun r2 μ2 => r2 = none ∧ QA ci cn co go r μ1 μ2)) := by
  rcases ho : xo 0 t b with _ | q
  · skip
    refine ct_of h_HA_perform rfl rfl rfl ?_
    refine ev_gV [] [some 37] rfl ?_
    refine ev_inV 1 k_HA_15 h_SD_t rfl rfl rfl rfl rfl ⟨by decide, by decide⟩ rfl ?_
    refine ev_gV [] [none] rfl ?_
    refine ev_retn rfl ?_
    refine ev_g0 rfl ?_
    refine ev_inS 4 k_HA_57 h_HA_takeAs rfl rfl rfl rfl ⟨by decide, by decide⟩ rfl ?_
    refine ev_g0 rfl ?_
    refine ev_inV 2 k_HA_21 h_SD_setT rfl rfl rfl rfl rfl ⟨by decide, by decide⟩ rfl ?_
    refine ev_gV [] [] rfl ?_
    refine ev_ret rfl ?_
    refine ev_g0 rfl ?_
    refine ev_reti rfl ?_
    refine ev_g0 rfl ?_
    refine ev_reti rfl ?_
    refine ct_of h_MM_handles rfl rfl rfl ?_
    refine ev_g0 rfl ?_
    refine ev_inV 1 k_MM_344 h_MM_hold rfl rfl rfl rfl rfl ⟨by decide, by decide⟩ rfl ?_
    refine ev_gV [] [] rfl ?_
    refine ev_reti rfl ?_
    refine ev_gV [] [some 13] rfl ?_
    refine ev_inV 2 k_MM_354 h_MM_takes rfl rfl rfl rfl rfl ⟨by decide, by decide⟩ rfl ?_
    refine ev_gV [true] [] rfl ?_
    refine ev_retz rfl (by first | decide | exact zb_01 _) ?_
    refine ev_gV [false] [] rfl ?_
    refine ev_inV 2 k_MM_336 h_MM_keep rfl rfl rfl rfl rfl ⟨by decide, by decide⟩ rfl ?_
    refine ev_gV [] [] rfl ?_
    refine ev_ret rfl ?_
    refine ev_g0 rfl ?_
    refine ev_ret rfl ?_
    exact ⟨rfl, xj, xd, xf, (u3 xo 0 t a (none)), xi, xn, nI 0, rfl, bdd, lf_V, lf_V, (CU_hol hC ht ha (fun _ h => by cases h) lf_V lf_V), (MU_hol hM ht ha lf_V lf_V (fun i hi => (rc_isor hC hi).2.2.1))⟩
  · skip
    have hq := rc_ihol hC ht hb _ ho
    have zq := rc_isor hC hq
    have yq := rc_imad hC
    refine ct_of h_HA_perform rfl rfl rfl ?_
    refine ev_gV [] [some 37] rfl ?_
    refine ev_inV 1 k_HA_15 h_SD_t rfl rfl rfl rfl rfl ⟨by decide, by decide⟩ rfl ?_
    refine ev_gV [] [some (94 + 4 * q)] rfl ?_
    refine ev_reta rfl ?_
    refine ev_g0 rfl ?_
    refine ev_inS 4 k_HA_57 h_HA_takeAs rfl rfl rfl rfl ⟨by decide, by decide⟩ rfl ?_
    refine ev_g0 rfl ?_
    refine ev_inV 1 k_HA_61 h_TH_isA rfl rfl rfl rfl rfl ⟨by decide, by decide⟩ rfl ?_
    refine ev_gV [] [some 1] rfl ?_
    refine ev_bV rfl rfl (fun h_1 => ?_) (fun h_1 => ?_)
    · skip
      refine ev_g0 rfl ?_
      refine ev_retz rfl (by first | decide | exact zb_01 _) ?_
      refine ev_gV [true] [] rfl ?_
      refine ev_inV 2 k_HA_21 h_SD_setT rfl rfl rfl rfl rfl ⟨by decide, by decide⟩ rfl ?_
      refine ev_gV [] [] rfl ?_
      refine ev_ret rfl ?_
      refine ev_g0 rfl ?_
      refine ev_reti rfl ?_
      refine ev_g0 rfl ?_
      refine ev_reti rfl ?_
      refine ct_of h_MM_handles rfl rfl rfl ?_
      refine ev_g0 rfl ?_
      refine ev_inV 1 k_MM_344 h_MM_hold rfl rfl rfl rfl rfl ⟨by decide, by decide⟩ rfl ?_
      refine ev_gV [] [] rfl ?_
      refine ev_reti rfl ?_
      refine ev_gV [] [some 13] rfl ?_
      refine ev_inV 2 k_MM_354 h_MM_takes rfl rfl rfl rfl rfl ⟨by decide, by decide⟩ rfl ?_
      refine ev_gV [false] [] rfl ?_
      refine ev_inV 2 k_MM_202 h_MM_isKind rfl rfl rfl rfl rfl ⟨by decide, by decide⟩ rfl ?_
      refine ev_gV [false, false, true, true, true, true] [some 1] rfl ?_
      refine ev_retz rfl (by first | decide | exact zb_01 _) ?_
      refine ev_gV [true] [] rfl ?_
      refine ev_retz rfl (by first | decide | exact zb_01 _) ?_
      refine ev_gV [false] [] rfl ?_
      refine ev_inV 2 k_MM_336 h_MM_keep rfl rfl rfl rfl rfl ⟨by decide, by decide⟩ rfl ?_
      refine ev_gV [] [] rfl ?_
      refine ev_ret rfl ?_
      refine ev_g0 rfl ?_
      refine ev_ret rfl ?_
      exact ⟨rfl, xj, xd, xf, (u3 xo 0 t a (some q)), xi, xn, nI 0, rfl, bdd, lf_V, lf_V, (CU_hol hC ht ha (fun _ h => by cases h; exact hq) lf_V lf_V), (MU_hol hM ht ha lf_V lf_V (fun i hi => (rc_isor hC hi).2.2.1))⟩
    · skip
      refine ev_g0 rfl ?_
      refine ev_bV rfl rfl (fun h_2 => ?_) (fun h_2 => ?_)
      · skip
        refine ev_g0 rfl ?_
        refine ev_retz rfl (by first | decide | exact zb_01 _) ?_
        refine ev_gV [false] [] rfl ?_
        refine ev_reti rfl ?_
        refine ev_g0 rfl ?_
        refine ev_reti rfl ?_
        refine ct_of h_MM_handles rfl rfl rfl ?_
        refine ev_g0 rfl ?_
        refine ev_inV 1 k_MM_344 h_MM_hold rfl rfl rfl rfl rfl ⟨by decide, by decide⟩ rfl ?_
        refine ev_gV [] [] rfl ?_
        refine ev_reti rfl ?_
        refine ev_gV [] [some 13] rfl ?_
        refine ev_inV 2 k_MM_354 h_MM_takes rfl rfl rfl rfl rfl ⟨by decide, by decide⟩ rfl ?_
        refine ev_gV [false] [] rfl ?_
        refine ev_inV 2 k_MM_202 h_MM_isKind rfl rfl rfl rfl rfl ⟨by decide, by decide⟩ rfl ?_
        refine ev_gV [false, false, true, true, true, false, true] [some 1] rfl ?_
        refine ev_retz rfl (by first | decide | exact zb_01 _) ?_
        refine ev_gV [false] [] rfl ?_
        refine ev_retz rfl (by first | decide | exact zb_01 _) ?_
        refine ev_gV [true] [] rfl ?_
        refine ev_ret rfl ?_
        exact ⟨rfl, xj, xd, xf, xo, xi, xn, nI 3, rfl, bdd, lf_V, lf_V, hC, hM⟩
      · skip
        refine ev_g0 rfl ?_
        refine ev_retz rfl (by first | decide | exact zb_01 _) ?_
        refine ev_gV [true] [] rfl ?_
        refine ev_inV 2 k_HA_21 h_SD_setT rfl rfl rfl rfl rfl ⟨by decide, by decide⟩ rfl ?_
        refine ev_gV [] [] rfl ?_
        refine ev_ret rfl ?_
        refine ev_g0 rfl ?_
        refine ev_reti rfl ?_
        refine ev_g0 rfl ?_
        refine ev_reti rfl ?_
        refine ct_of h_MM_handles rfl rfl rfl ?_
        refine ev_g0 rfl ?_
        refine ev_inV 1 k_MM_344 h_MM_hold rfl rfl rfl rfl rfl ⟨by decide, by decide⟩ rfl ?_
        refine ev_gV [] [] rfl ?_
        refine ev_reti rfl ?_
        refine ev_gV [] [some 13] rfl ?_
        refine ev_inV 2 k_MM_354 h_MM_takes rfl rfl rfl rfl rfl ⟨by decide, by decide⟩ rfl ?_
        refine ev_gV [false] [] rfl ?_
        refine ev_inV 2 k_MM_202 h_MM_isKind rfl rfl rfl rfl rfl ⟨by decide, by decide⟩ rfl ?_
        refine ev_gV [false, false, true, true, true, false, false] [some 1] rfl ?_
        refine ev_retz rfl (by first | decide | exact zb_01 _) ?_
        refine ev_gV [true] [] rfl ?_
        refine ev_retz rfl (by first | decide | exact zb_01 _) ?_
        refine ev_gV [false] [] rfl ?_
        refine ev_inV 2 k_MM_336 h_MM_keep rfl rfl rfl rfl rfl ⟨by decide, by decide⟩ rfl ?_
        refine ev_gV [] [] rfl ?_
        refine ev_ret rfl ?_
        refine ev_g0 rfl ?_
        refine ev_ret rfl ?_
        exact ⟨rfl, xj, xd, xf, (u3 xo 0 t a (some q)), xi, xn, nI 0, rfl, bdd, lf_V, lf_V, (CU_hol hC ht ha (fun _ h => by cases h; exact hq) lf_V lf_V), (MU_hol hM ht ha lf_V lf_V (fun i hi => (rc_isor hC hi).2.2.1))⟩
theorem A48_23 {ci : Nat → Nat → Nat → Int32} {cn : Nat → Nat → Nat → Nat} {co : Nat → Option Nat} {xj : Nat → Nat → Nat → Int64} {xd : Nat → Nat → Nat → UInt64} {xf : Nat → Nat → Nat → UInt32} {xo : Nat → Nat → Nat → Option Nat} {xi : Nat → Nat → Nat → Int32} {xn : Nat → Nat → Nat → Nat} {K : Nat → Nat} {I : Nat → Nat → Int32} {J : Nat → Nat → Int64} {F : Nat → Nat → UInt32} {D : Nat → Nat → UInt64} {R : Nat → Nat → Option Nat} {nx sl : Nat} {Km : Nat → Nat} {Im : Nat → Nat → Int32} {Jm : Nat → Nat → Int64} {Fm : Nat → Nat → UInt32} {Dm : Nat → Nat → UInt64} {Rm : Nat → Nat → Option Nat} {nxm slm : Nat} (hC : RC ci cn co xj xd xf xo xi xn I J F D R nx sl) (hM : RM ci cn co xj xd xf xo xi xn Im Jm Dm) {t a b : Nat} {go : Int32} (ht : t < 3) (ha : a < 8) (hb : b < 8) (x1 : Im 6 39 = nI t) (x2 : Im 6 40 = nI a) (x3 : Im 6 41 = nI b) (x4 : Im 6 42 = nI 23) (x5 : Im 6 43 = nI 0) (x6 : Im 6 44 = go) : Ct Y_HA_perform [vr 1 55, vr 8 (32 + 7 * t), vi (nI 48), vi (nI a), vi (nI b), vi (nI 23)] (K, I, J, F, D, R, nx, sl) (fun r μ1 => Ct Y_MM_handles [vr 11 6, vi (nI 48)] (Km, Im, Jm, Fm, Dm, Rm, nxm, slm) (fun r2 μ2 => r2 = none ∧ QA ci cn co go r μ1 μ2)) := by
  rcases ho : xo 0 t b with _ | q
  · skip
    refine ct_of h_HA_perform rfl rfl rfl ?_
    refine ev_gV [] [some 36] rfl ?_
    refine ev_inV 1 k_HA_15 h_SD_t rfl rfl rfl rfl rfl ⟨by decide, by decide⟩ rfl ?_
    refine ev_gV [] [none] rfl ?_
    refine ev_retn rfl ?_
    refine ev_g0 rfl ?_
    refine ev_inS 2 k_HA_49 h_HA_isA rfl rfl rfl rfl ⟨by decide, by decide⟩ rfl ?_
    refine ev_g0 rfl ?_
    refine ev_retz rfl (by first | decide | exact zb_01 _) ?_
    refine ev_gV [true] [] rfl ?_
    refine ev_inV 2 k_HA_53 h_SD_setN rfl rfl rfl rfl rfl ⟨by decide, by decide⟩ rfl ?_
    refine ev_gV [] [] rfl ?_
    refine ev_ret rfl ?_
    refine ev_g0 rfl ?_
    refine ev_reti rfl ?_
    refine ct_of h_MM_handles rfl rfl rfl ?_
    refine ev_g0 rfl ?_
    refine ev_inV 1 k_MM_344 h_MM_hold rfl rfl rfl rfl rfl ⟨by decide, by decide⟩ rfl ?_
    refine ev_gV [] [] rfl ?_
    refine ev_reti rfl ?_
    refine ev_gV [true] [some 12] rfl ?_
    refine ev_inV 2 k_MM_288 h_MM_lay rfl rfl rfl rfl rfl ⟨by decide, by decide⟩ rfl ?_
    refine ev_gV [] [] rfl ?_
    refine ev_ret rfl ?_
    refine ev_g0 rfl ?_
    refine ev_ret rfl ?_
    exact ⟨rfl, (u3 xj 0 t a ((nI 0).toInt64)), xd, xf, xo, xi, xn, nI 0, rfl, bdd, lf_V, lf_V, (CU_num hC ht ha lf_V lf_V), (MU_num hM ht ha lf_V lf_V (fun i hi => (rc_isor hC hi).2.2.1))⟩
  · skip
    have hq := rc_ihol hC ht hb _ ho
    have zq := rc_isor hC hq
    have yq := rc_imad hC
    refine ct_of h_HA_perform rfl rfl rfl ?_
    refine ev_gV [] [some 36] rfl ?_
    refine ev_inV 1 k_HA_15 h_SD_t rfl rfl rfl rfl rfl ⟨by decide, by decide⟩ rfl ?_
    refine ev_gV [] [some (94 + 4 * q)] rfl ?_
    refine ev_reta rfl ?_
    refine ev_g0 rfl ?_
    refine ev_inS 2 k_HA_49 h_HA_isA rfl rfl rfl rfl ⟨by decide, by decide⟩ rfl ?_
    refine ev_g0 rfl ?_
    refine ev_inV 1 k_HA_61 h_TH_isA rfl rfl rfl rfl rfl ⟨by decide, by decide⟩ rfl ?_
    refine ev_gV [] [some 2] rfl ?_
    refine ev_bV rfl rfl (fun h_1 => ?_) (fun h_1 => ?_)
    · skip
      refine ev_g0 rfl ?_
      refine ev_retz rfl (by first | decide | exact zb_01 _) ?_
      refine ev_gV [true] [] rfl ?_
      refine ev_retz rfl (by first | decide | exact zb_01 _) ?_
      refine ev_gV [true] [] rfl ?_
      refine ev_inV 2 k_HA_53 h_SD_setN rfl rfl rfl rfl rfl ⟨by decide, by decide⟩ rfl ?_
      refine ev_gV [] [] rfl ?_
      refine ev_ret rfl ?_
      refine ev_g0 rfl ?_
      refine ev_reti rfl ?_
      refine ct_of h_MM_handles rfl rfl rfl ?_
      refine ev_g0 rfl ?_
      refine ev_inV 1 k_MM_344 h_MM_hold rfl rfl rfl rfl rfl ⟨by decide, by decide⟩ rfl ?_
      refine ev_gV [] [] rfl ?_
      refine ev_reti rfl ?_
      refine ev_gV [false] [some 12] rfl ?_
      refine ev_inV 2 k_MM_202 h_MM_isKind rfl rfl rfl rfl rfl ⟨by decide, by decide⟩ rfl ?_
      refine ev_gV [false, false, true, true, true, true] [some 2] rfl ?_
      refine ev_retz rfl (by first | decide | exact zb_01 _) ?_
      refine ev_gV [true] [] rfl ?_
      refine ev_inV 2 k_MM_288 h_MM_lay rfl rfl rfl rfl rfl ⟨by decide, by decide⟩ rfl ?_
      refine ev_gV [] [] rfl ?_
      refine ev_ret rfl ?_
      refine ev_g0 rfl ?_
      refine ev_ret rfl ?_
      exact ⟨rfl, (u3 xj 0 t a ((nI 0).toInt64)), xd, xf, xo, xi, xn, nI 0, rfl, bdd, lf_V, lf_V, (CU_num hC ht ha lf_V lf_V), (MU_num hM ht ha lf_V lf_V (fun i hi => (rc_isor hC hi).2.2.1))⟩
    · skip
      refine ev_g0 rfl ?_
      refine ev_retz rfl (by first | decide | exact zb_01 _) ?_
      refine ev_gV [false] [] rfl ?_
      refine ev_retz rfl (by first | decide | exact zb_01 _) ?_
      refine ev_gV [false] [] rfl ?_
      refine ev_inV 2 k_HA_53 h_SD_setN rfl rfl rfl rfl rfl ⟨by decide, by decide⟩ rfl ?_
      refine ev_gV [] [] rfl ?_
      refine ev_ret rfl ?_
      refine ev_g0 rfl ?_
      refine ev_reti rfl ?_
      refine ct_of h_MM_handles rfl rfl rfl ?_
      refine ev_g0 rfl ?_
      refine ev_inV 1 k_MM_344 h_MM_hold rfl rfl rfl rfl rfl ⟨by decide, by decide⟩ rfl ?_
      refine ev_gV [] [] rfl ?_
      refine ev_reti rfl ?_
      refine ev_gV [false] [some 12] rfl ?_
      refine ev_inV 2 k_MM_202 h_MM_isKind rfl rfl rfl rfl rfl ⟨by decide, by decide⟩ rfl ?_
      refine ev_gV [false, false, true, true, true, false] [some 2] rfl ?_
      refine ev_retz rfl (by first | decide | exact zb_01 _) ?_
      refine ev_gV [false] [] rfl ?_
      refine ev_inV 2 k_MM_288 h_MM_lay rfl rfl rfl rfl rfl ⟨by decide, by decide⟩ rfl ?_
      refine ev_gV [] [] rfl ?_
      refine ev_ret rfl ?_
      refine ev_g0 rfl ?_
      refine ev_ret rfl ?_
      exact ⟨rfl, (u3 xj 0 t a ((nI 1).toInt64)), xd, xf, xo, xi, xn, nI 0, rfl, bdd, lf_V, lf_V, (CU_num hC ht ha lf_V lf_V), (MU_num hM ht ha lf_V lf_V (fun i hi => (rc_isor hC hi).2.2.1))⟩
theorem A49_23 {ci : Nat → Nat → Nat → Int32} {cn : Nat → Nat → Nat → Nat} {co : Nat → Option Nat} {xj : Nat → Nat → Nat → Int64} {xd : Nat → Nat → Nat → UInt64} {xf : Nat → Nat → Nat → UInt32} {xo : Nat → Nat → Nat → Option Nat} {xi : Nat → Nat → Nat → Int32} {xn : Nat → Nat → Nat → Nat} {K : Nat → Nat} {I : Nat → Nat → Int32} {J : Nat → Nat → Int64} {F : Nat → Nat → UInt32} {D : Nat → Nat → UInt64} {R : Nat → Nat → Option Nat} {nx sl : Nat} {Km : Nat → Nat} {Im : Nat → Nat → Int32} {Jm : Nat → Nat → Int64} {Fm : Nat → Nat → UInt32} {Dm : Nat → Nat → UInt64} {Rm : Nat → Nat → Option Nat} {nxm slm : Nat} (hC : RC ci cn co xj xd xf xo xi xn I J F D R nx sl) (hM : RM ci cn co xj xd xf xo xi xn Im Jm Dm) {t a b : Nat} {go : Int32} (ht : t < 3) (ha : a < 8) (hb : b < 8) (x1 : Im 6 39 = nI t) (x2 : Im 6 40 = nI a) (x3 : Im 6 41 = nI b) (x4 : Im 6 42 = nI 23) (x5 : Im 6 43 = nI 0) (x6 : Im 6 44 = go) : Ct Y_HA_perform [vr 1 55, vr 8 (32 + 7 * t), vi (nI 49), vi (nI a), vi (nI b), vi (nI 23)] (K, I, J, F, D, R, nx, sl) (fun r μ1 => Ct Y_MM_handles [vr 11 6, vi (nI 49)] (Km, Im, Jm, Fm, Dm, Rm, nxm, slm) (fun r2 μ2 => r2 = none ∧ QA ci cn co go r μ1 μ2)) := by
  rcases ho : xo 0 t b with _ | q
  · skip
    refine ct_of h_HA_perform rfl rfl rfl ?_
    refine ev_gV [] [some 37] rfl ?_
    refine ev_inV 1 k_HA_15 h_SD_t rfl rfl rfl rfl rfl ⟨by decide, by decide⟩ rfl ?_
    refine ev_gV [] [none] rfl ?_
    refine ev_retn rfl ?_
    refine ev_g0 rfl ?_
    refine ev_inS 4 k_HA_57 h_HA_takeAs rfl rfl rfl rfl ⟨by decide, by decide⟩ rfl ?_
    refine ev_g0 rfl ?_
    refine ev_inV 2 k_HA_21 h_SD_setT rfl rfl rfl rfl rfl ⟨by decide, by decide⟩ rfl ?_
    refine ev_gV [] [] rfl ?_
    refine ev_ret rfl ?_
    refine ev_g0 rfl ?_
    refine ev_reti rfl ?_
    refine ev_g0 rfl ?_
    refine ev_reti rfl ?_
    refine ct_of h_MM_handles rfl rfl rfl ?_
    refine ev_g0 rfl ?_
    refine ev_inV 1 k_MM_344 h_MM_hold rfl rfl rfl rfl rfl ⟨by decide, by decide⟩ rfl ?_
    refine ev_gV [] [] rfl ?_
    refine ev_reti rfl ?_
    refine ev_gV [] [some 13] rfl ?_
    refine ev_inV 2 k_MM_354 h_MM_takes rfl rfl rfl rfl rfl ⟨by decide, by decide⟩ rfl ?_
    refine ev_gV [true] [] rfl ?_
    refine ev_retz rfl (by first | decide | exact zb_01 _) ?_
    refine ev_gV [false] [] rfl ?_
    refine ev_inV 2 k_MM_336 h_MM_keep rfl rfl rfl rfl rfl ⟨by decide, by decide⟩ rfl ?_
    refine ev_gV [] [] rfl ?_
    refine ev_ret rfl ?_
    refine ev_g0 rfl ?_
    refine ev_ret rfl ?_
    exact ⟨rfl, xj, xd, xf, (u3 xo 0 t a (none)), xi, xn, nI 0, rfl, bdd, lf_V, lf_V, (CU_hol hC ht ha (fun _ h => by cases h) lf_V lf_V), (MU_hol hM ht ha lf_V lf_V (fun i hi => (rc_isor hC hi).2.2.1))⟩
  · skip
    have hq := rc_ihol hC ht hb _ ho
    have zq := rc_isor hC hq
    have yq := rc_imad hC
    refine ct_of h_HA_perform rfl rfl rfl ?_
    refine ev_gV [] [some 37] rfl ?_
    refine ev_inV 1 k_HA_15 h_SD_t rfl rfl rfl rfl rfl ⟨by decide, by decide⟩ rfl ?_
    refine ev_gV [] [some (94 + 4 * q)] rfl ?_
    refine ev_reta rfl ?_
    refine ev_g0 rfl ?_
    refine ev_inS 4 k_HA_57 h_HA_takeAs rfl rfl rfl rfl ⟨by decide, by decide⟩ rfl ?_
    refine ev_g0 rfl ?_
    refine ev_inV 1 k_HA_61 h_TH_isA rfl rfl rfl rfl rfl ⟨by decide, by decide⟩ rfl ?_
    refine ev_gV [] [some 2] rfl ?_
    refine ev_bV rfl rfl (fun h_1 => ?_) (fun h_1 => ?_)
    · skip
      refine ev_g0 rfl ?_
      refine ev_retz rfl (by first | decide | exact zb_01 _) ?_
      refine ev_gV [false] [] rfl ?_
      refine ev_reti rfl ?_
      refine ev_g0 rfl ?_
      refine ev_reti rfl ?_
      refine ct_of h_MM_handles rfl rfl rfl ?_
      refine ev_g0 rfl ?_
      refine ev_inV 1 k_MM_344 h_MM_hold rfl rfl rfl rfl rfl ⟨by decide, by decide⟩ rfl ?_
      refine ev_gV [] [] rfl ?_
      refine ev_reti rfl ?_
      refine ev_gV [] [some 13] rfl ?_
      refine ev_inV 2 k_MM_354 h_MM_takes rfl rfl rfl rfl rfl ⟨by decide, by decide⟩ rfl ?_
      refine ev_gV [false] [] rfl ?_
      refine ev_inV 2 k_MM_202 h_MM_isKind rfl rfl rfl rfl rfl ⟨by decide, by decide⟩ rfl ?_
      refine ev_gV [false, false, true, true, true, true] [some 2] rfl ?_
      refine ev_retz rfl (by first | decide | exact zb_01 _) ?_
      refine ev_gV [false] [] rfl ?_
      refine ev_retz rfl (by first | decide | exact zb_01 _) ?_
      refine ev_gV [true] [] rfl ?_
      refine ev_ret rfl ?_
      exact ⟨rfl, xj, xd, xf, xo, xi, xn, nI 3, rfl, bdd, lf_V, lf_V, hC, hM⟩
    · skip
      refine ev_g0 rfl ?_
      refine ev_retz rfl (by first | decide | exact zb_01 _) ?_
      refine ev_gV [true] [] rfl ?_
      refine ev_inV 2 k_HA_21 h_SD_setT rfl rfl rfl rfl rfl ⟨by decide, by decide⟩ rfl ?_
      refine ev_gV [] [] rfl ?_
      refine ev_ret rfl ?_
      refine ev_g0 rfl ?_
      refine ev_reti rfl ?_
      refine ev_g0 rfl ?_
      refine ev_reti rfl ?_
      refine ct_of h_MM_handles rfl rfl rfl ?_
      refine ev_g0 rfl ?_
      refine ev_inV 1 k_MM_344 h_MM_hold rfl rfl rfl rfl rfl ⟨by decide, by decide⟩ rfl ?_
      refine ev_gV [] [] rfl ?_
      refine ev_reti rfl ?_
      refine ev_gV [] [some 13] rfl ?_
      refine ev_inV 2 k_MM_354 h_MM_takes rfl rfl rfl rfl rfl ⟨by decide, by decide⟩ rfl ?_
      refine ev_gV [false] [] rfl ?_
      refine ev_inV 2 k_MM_202 h_MM_isKind rfl rfl rfl rfl rfl ⟨by decide, by decide⟩ rfl ?_
      refine ev_gV [false, false, true, true, true, false] [some 2] rfl ?_
      refine ev_retz rfl (by first | decide | exact zb_01 _) ?_
      refine ev_gV [true] [] rfl ?_
      refine ev_retz rfl (by first | decide | exact zb_01 _) ?_
      refine ev_gV [false] [] rfl ?_
      refine ev_inV 2 k_MM_336 h_MM_keep rfl rfl rfl rfl rfl ⟨by decide, by decide⟩ rfl ?_
      refine ev_gV [] [] rfl ?_
      refine ev_ret rfl ?_
      refine ev_g0 rfl ?_
      refine ev_ret rfl ?_
      exact ⟨rfl, xj, xd, xf, (u3 xo 0 t a (some q)), xi, xn, nI 0, rfl, bdd, lf_V, lf_V, (CU_hol hC ht ha (fun _ h => by cases h; exact hq) lf_V lf_V), (MU_hol hM ht ha lf_V lf_V (fun i hi => (rc_isor hC hi).2.2.1))⟩
theorem A48_24 {ci : Nat → Nat → Nat → Int32} {cn : Nat → Nat → Nat → Nat} {co : Nat → Option Nat} {xj : Nat → Nat → Nat → Int64} {xd : Nat → Nat → Nat → UInt64} {xf : Nat → Nat → Nat → UInt32} {xo : Nat → Nat → Nat → Option Nat} {xi : Nat → Nat → Nat → Int32} {xn : Nat → Nat → Nat → Nat} {K : Nat → Nat} {I : Nat → Nat → Int32} {J : Nat → Nat → Int64} {F : Nat → Nat → UInt32} {D : Nat → Nat → UInt64} {R : Nat → Nat → Option Nat} {nx sl : Nat} {Km : Nat → Nat} {Im : Nat → Nat → Int32} {Jm : Nat → Nat → Int64} {Fm : Nat → Nat → UInt32} {Dm : Nat → Nat → UInt64} {Rm : Nat → Nat → Option Nat} {nxm slm : Nat} (hC : RC ci cn co xj xd xf xo xi xn I J F D R nx sl) (hM : RM ci cn co xj xd xf xo xi xn Im Jm Dm) {t a b : Nat} {go : Int32} (ht : t < 3) (ha : a < 8) (hb : b < 8) (x1 : Im 6 39 = nI t) (x2 : Im 6 40 = nI a) (x3 : Im 6 41 = nI b) (x4 : Im 6 42 = nI 24) (x5 : Im 6 43 = nI 0) (x6 : Im 6 44 = go) : Ct Y_HA_perform [vr 1 55, vr 8 (32 + 7 * t), vi (nI 48), vi (nI a), vi (nI b), vi (nI 24)] (K, I, J, F, D, R, nx, sl) (fun r μ1 => Ct Y_MM_handles [vr 11 6, vi (nI 48)] (Km, Im, Jm, Fm, Dm, Rm, nxm, slm) (fun r2 μ2 => r2 = none ∧ QA ci cn co go r μ1 μ2)) := by
  rcases ho : xo 0 t b with _ | q
  · skip
    refine ct_of h_HA_perform rfl rfl rfl ?_
    refine ev_gV [] [some 36] rfl ?_
    refine ev_inV 1 k_HA_15 h_SD_t rfl rfl rfl rfl rfl ⟨by decide, by decide⟩ rfl ?_
    refine ev_gV [] [none] rfl ?_
    refine ev_retn rfl ?_
    refine ev_g0 rfl ?_
    refine ev_inS 2 k_HA_49 h_HA_isA rfl rfl rfl rfl ⟨by decide, by decide⟩ rfl ?_
    refine ev_g0 rfl ?_
    refine ev_retz rfl (by first | decide | exact zb_01 _) ?_
    refine ev_gV [true] [] rfl ?_
    refine ev_inV 2 k_HA_53 h_SD_setN rfl rfl rfl rfl rfl ⟨by decide, by decide⟩ rfl ?_
    refine ev_gV [] [] rfl ?_
    refine ev_ret rfl ?_
    refine ev_g0 rfl ?_
    refine ev_reti rfl ?_
    refine ct_of h_MM_handles rfl rfl rfl ?_
    refine ev_g0 rfl ?_
    refine ev_inV 1 k_MM_344 h_MM_hold rfl rfl rfl rfl rfl ⟨by decide, by decide⟩ rfl ?_
    refine ev_gV [] [] rfl ?_
    refine ev_reti rfl ?_
    refine ev_gV [true] [some 12] rfl ?_
    refine ev_inV 2 k_MM_288 h_MM_lay rfl rfl rfl rfl rfl ⟨by decide, by decide⟩ rfl ?_
    refine ev_gV [] [] rfl ?_
    refine ev_ret rfl ?_
    refine ev_g0 rfl ?_
    refine ev_ret rfl ?_
    exact ⟨rfl, (u3 xj 0 t a ((nI 0).toInt64)), xd, xf, xo, xi, xn, nI 0, rfl, bdd, lf_V, lf_V, (CU_num hC ht ha lf_V lf_V), (MU_num hM ht ha lf_V lf_V (fun i hi => (rc_isor hC hi).2.2.1))⟩
  · skip
    have hq := rc_ihol hC ht hb _ ho
    have zq := rc_isor hC hq
    have yq := rc_imad hC
    refine ct_of h_HA_perform rfl rfl rfl ?_
    refine ev_gV [] [some 36] rfl ?_
    refine ev_inV 1 k_HA_15 h_SD_t rfl rfl rfl rfl rfl ⟨by decide, by decide⟩ rfl ?_
    refine ev_gV [] [some (94 + 4 * q)] rfl ?_
    refine ev_reta rfl ?_
    refine ev_g0 rfl ?_
    refine ev_inS 2 k_HA_49 h_HA_isA rfl rfl rfl rfl ⟨by decide, by decide⟩ rfl ?_
    refine ev_g0 rfl ?_
    refine ev_inV 1 k_HA_61 h_TH_isA rfl rfl rfl rfl rfl ⟨by decide, by decide⟩ rfl ?_
    refine ev_gV [false, true, false, true, true] [some 3] rfl ?_
    refine ev_retz rfl (by first | decide | exact zb_01 _) ?_
    refine ev_gV [true] [] rfl ?_
    refine ev_retz rfl (by first | decide | exact zb_01 _) ?_
    refine ev_gV [true] [] rfl ?_
    refine ev_inV 2 k_HA_53 h_SD_setN rfl rfl rfl rfl rfl ⟨by decide, by decide⟩ rfl ?_
    refine ev_gV [] [] rfl ?_
    refine ev_ret rfl ?_
    refine ev_g0 rfl ?_
    refine ev_reti rfl ?_
    refine ct_of h_MM_handles rfl rfl rfl ?_
    refine ev_g0 rfl ?_
    refine ev_inV 1 k_MM_344 h_MM_hold rfl rfl rfl rfl rfl ⟨by decide, by decide⟩ rfl ?_
    refine ev_gV [] [] rfl ?_
    refine ev_reti rfl ?_
    refine ev_gV [false] [some 12] rfl ?_
    refine ev_inV 2 k_MM_202 h_MM_isKind rfl rfl rfl rfl rfl ⟨by decide, by decide⟩ rfl ?_
    refine ev_gV [false, false, true, true, true] [some 3] rfl ?_
    refine ev_retz rfl (by first | decide | exact zb_01 _) ?_
    refine ev_gV [true] [] rfl ?_
    refine ev_inV 2 k_MM_288 h_MM_lay rfl rfl rfl rfl rfl ⟨by decide, by decide⟩ rfl ?_
    refine ev_gV [] [] rfl ?_
    refine ev_ret rfl ?_
    refine ev_g0 rfl ?_
    refine ev_ret rfl ?_
    exact ⟨rfl, (u3 xj 0 t a ((nI 0).toInt64)), xd, xf, xo, xi, xn, nI 0, rfl, bdd, lf_V, lf_V, (CU_num hC ht ha lf_V lf_V), (MU_num hM ht ha lf_V lf_V (fun i hi => (rc_isor hC hi).2.2.1))⟩
theorem A49_24 {ci : Nat → Nat → Nat → Int32} {cn : Nat → Nat → Nat → Nat} {co : Nat → Option Nat} {xj : Nat → Nat → Nat → Int64} {xd : Nat → Nat → Nat → UInt64} {xf : Nat → Nat → Nat → UInt32} {xo : Nat → Nat → Nat → Option Nat} {xi : Nat → Nat → Nat → Int32} {xn : Nat → Nat → Nat → Nat} {K : Nat → Nat} {I : Nat → Nat → Int32} {J : Nat → Nat → Int64} {F : Nat → Nat → UInt32} {D : Nat → Nat → UInt64} {R : Nat → Nat → Option Nat} {nx sl : Nat} {Km : Nat → Nat} {Im : Nat → Nat → Int32} {Jm : Nat → Nat → Int64} {Fm : Nat → Nat → UInt32} {Dm : Nat → Nat → UInt64} {Rm : Nat → Nat → Option Nat} {nxm slm : Nat} (hC : RC ci cn co xj xd xf xo xi xn I J F D R nx sl) (hM : RM ci cn co xj xd xf xo xi xn Im Jm Dm) {t a b : Nat} {go : Int32} (ht : t < 3) (ha : a < 8) (hb : b < 8) (x1 : Im 6 39 = nI t) (x2 : Im 6 40 = nI a) (x3 : Im 6 41 = nI b) (x4 : Im 6 42 = nI 24) (x5 : Im 6 43 = nI 0) (x6 : Im 6 44 = go) : Ct Y_HA_perform [vr 1 55, vr 8 (32 + 7 * t), vi (nI 49), vi (nI a), vi (nI b), vi (nI 24)] (K, I, J, F, D, R, nx, sl) (fun r μ1 => Ct Y_MM_handles [vr 11 6, vi (nI 49)] (Km, Im, Jm, Fm, Dm, Rm, nxm, slm) (fun r2 μ2 => r2 = none ∧ QA ci cn co go r μ1 μ2)) := by
  rcases ho : xo 0 t b with _ | q
  · skip
    refine ct_of h_HA_perform rfl rfl rfl ?_
    refine ev_gV [] [some 37] rfl ?_
    refine ev_inV 1 k_HA_15 h_SD_t rfl rfl rfl rfl rfl ⟨by decide, by decide⟩ rfl ?_
    refine ev_gV [] [none] rfl ?_
    refine ev_retn rfl ?_
    refine ev_g0 rfl ?_
    refine ev_inS 4 k_HA_57 h_HA_takeAs rfl rfl rfl rfl ⟨by decide, by decide⟩ rfl ?_
    refine ev_g0 rfl ?_
    refine ev_inV 2 k_HA_21 h_SD_setT rfl rfl rfl rfl rfl ⟨by decide, by decide⟩ rfl ?_
    refine ev_gV [] [] rfl ?_
    refine ev_ret rfl ?_
    refine ev_g0 rfl ?_
    refine ev_reti rfl ?_
    refine ev_g0 rfl ?_
    refine ev_reti rfl ?_
    refine ct_of h_MM_handles rfl rfl rfl ?_
    refine ev_g0 rfl ?_
    refine ev_inV 1 k_MM_344 h_MM_hold rfl rfl rfl rfl rfl ⟨by decide, by decide⟩ rfl ?_
    refine ev_gV [] [] rfl ?_
    refine ev_reti rfl ?_
    refine ev_gV [] [some 13] rfl ?_
    refine ev_inV 2 k_MM_354 h_MM_takes rfl rfl rfl rfl rfl ⟨by decide, by decide⟩ rfl ?_
    refine ev_gV [true] [] rfl ?_
    refine ev_retz rfl (by first | decide | exact zb_01 _) ?_
    refine ev_gV [false] [] rfl ?_
    refine ev_inV 2 k_MM_336 h_MM_keep rfl rfl rfl rfl rfl ⟨by decide, by decide⟩ rfl ?_
    refine ev_gV [] [] rfl ?_
    refine ev_ret rfl ?_
    refine ev_g0 rfl ?_
    refine ev_ret rfl ?_
    exact ⟨rfl, xj, xd, xf, (u3 xo 0 t a (none)), xi, xn, nI 0, rfl, bdd, lf_V, lf_V, (CU_hol hC ht ha (fun _ h => by cases h) lf_V lf_V), (MU_hol hM ht ha lf_V lf_V (fun i hi => (rc_isor hC hi).2.2.1))⟩
  · skip
    have hq := rc_ihol hC ht hb _ ho
    have zq := rc_isor hC hq
    have yq := rc_imad hC
    refine ct_of h_HA_perform rfl rfl rfl ?_
    refine ev_gV [] [some 37] rfl ?_
    refine ev_inV 1 k_HA_15 h_SD_t rfl rfl rfl rfl rfl ⟨by decide, by decide⟩ rfl ?_
    refine ev_gV [] [some (94 + 4 * q)] rfl ?_
    refine ev_reta rfl ?_
    refine ev_g0 rfl ?_
    refine ev_inS 4 k_HA_57 h_HA_takeAs rfl rfl rfl rfl ⟨by decide, by decide⟩ rfl ?_
    refine ev_g0 rfl ?_
    refine ev_inV 1 k_HA_61 h_TH_isA rfl rfl rfl rfl rfl ⟨by decide, by decide⟩ rfl ?_
    refine ev_gV [false, true, false, true, true] [some 3] rfl ?_
    refine ev_retz rfl (by first | decide | exact zb_01 _) ?_
    refine ev_gV [false] [] rfl ?_
    refine ev_reti rfl ?_
    refine ev_g0 rfl ?_
    refine ev_reti rfl ?_
    refine ct_of h_MM_handles rfl rfl rfl ?_
    refine ev_g0 rfl ?_
    refine ev_inV 1 k_MM_344 h_MM_hold rfl rfl rfl rfl rfl ⟨by decide, by decide⟩ rfl ?_
    refine ev_gV [] [] rfl ?_
    refine ev_reti rfl ?_
    refine ev_gV [] [some 13] rfl ?_
    refine ev_inV 2 k_MM_354 h_MM_takes rfl rfl rfl rfl rfl ⟨by decide, by decide⟩ rfl ?_
    refine ev_gV [false] [] rfl ?_
    refine ev_inV 2 k_MM_202 h_MM_isKind rfl rfl rfl rfl rfl ⟨by decide, by decide⟩ rfl ?_
    refine ev_gV [false, false, true, true, true] [some 3] rfl ?_
    refine ev_retz rfl (by first | decide | exact zb_01 _) ?_
    refine ev_gV [false] [] rfl ?_
    refine ev_retz rfl (by first | decide | exact zb_01 _) ?_
    refine ev_gV [true] [] rfl ?_
    refine ev_ret rfl ?_
    exact ⟨rfl, xj, xd, xf, xo, xi, xn, nI 3, rfl, bdd, lf_V, lf_V, hC, hM⟩
theorem A48_25 {ci : Nat → Nat → Nat → Int32} {cn : Nat → Nat → Nat → Nat} {co : Nat → Option Nat} {xj : Nat → Nat → Nat → Int64} {xd : Nat → Nat → Nat → UInt64} {xf : Nat → Nat → Nat → UInt32} {xo : Nat → Nat → Nat → Option Nat} {xi : Nat → Nat → Nat → Int32} {xn : Nat → Nat → Nat → Nat} {K : Nat → Nat} {I : Nat → Nat → Int32} {J : Nat → Nat → Int64} {F : Nat → Nat → UInt32} {D : Nat → Nat → UInt64} {R : Nat → Nat → Option Nat} {nx sl : Nat} {Km : Nat → Nat} {Im : Nat → Nat → Int32} {Jm : Nat → Nat → Int64} {Fm : Nat → Nat → UInt32} {Dm : Nat → Nat → UInt64} {Rm : Nat → Nat → Option Nat} {nxm slm : Nat} (hC : RC ci cn co xj xd xf xo xi xn I J F D R nx sl) (hM : RM ci cn co xj xd xf xo xi xn Im Jm Dm) {t a b : Nat} {go : Int32} (ht : t < 3) (ha : a < 8) (hb : b < 8) (x1 : Im 6 39 = nI t) (x2 : Im 6 40 = nI a) (x3 : Im 6 41 = nI b) (x4 : Im 6 42 = nI 25) (x5 : Im 6 43 = nI 0) (x6 : Im 6 44 = go) : Ct Y_HA_perform [vr 1 55, vr 8 (32 + 7 * t), vi (nI 48), vi (nI a), vi (nI b), vi (nI 25)] (K, I, J, F, D, R, nx, sl) (fun r μ1 => Ct Y_MM_handles [vr 11 6, vi (nI 48)] (Km, Im, Jm, Fm, Dm, Rm, nxm, slm) (fun r2 μ2 => r2 = none ∧ QA ci cn co go r μ1 μ2)) := by
  rcases ho : xo 0 t b with _ | q
  · skip
    refine ct_of h_HA_perform rfl rfl rfl ?_
    refine ev_gV [] [some 36] rfl ?_
    refine ev_inV 1 k_HA_15 h_SD_t rfl rfl rfl rfl rfl ⟨by decide, by decide⟩ rfl ?_
    refine ev_gV [] [none] rfl ?_
    refine ev_retn rfl ?_
    refine ev_g0 rfl ?_
    refine ev_inS 2 k_HA_49 h_HA_isA rfl rfl rfl rfl ⟨by decide, by decide⟩ rfl ?_
    refine ev_g0 rfl ?_
    refine ev_retz rfl (by first | decide | exact zb_01 _) ?_
    refine ev_gV [true] [] rfl ?_
    refine ev_inV 2 k_HA_53 h_SD_setN rfl rfl rfl rfl rfl ⟨by decide, by decide⟩ rfl ?_
    refine ev_gV [] [] rfl ?_
    refine ev_ret rfl ?_
    refine ev_g0 rfl ?_
    refine ev_reti rfl ?_
    refine ct_of h_MM_handles rfl rfl rfl ?_
    refine ev_g0 rfl ?_
    refine ev_inV 1 k_MM_344 h_MM_hold rfl rfl rfl rfl rfl ⟨by decide, by decide⟩ rfl ?_
    refine ev_gV [] [] rfl ?_
    refine ev_reti rfl ?_
    refine ev_gV [true] [some 12] rfl ?_
    refine ev_inV 2 k_MM_288 h_MM_lay rfl rfl rfl rfl rfl ⟨by decide, by decide⟩ rfl ?_
    refine ev_gV [] [] rfl ?_
    refine ev_ret rfl ?_
    refine ev_g0 rfl ?_
    refine ev_ret rfl ?_
    exact ⟨rfl, (u3 xj 0 t a ((nI 0).toInt64)), xd, xf, xo, xi, xn, nI 0, rfl, bdd, lf_V, lf_V, (CU_num hC ht ha lf_V lf_V), (MU_num hM ht ha lf_V lf_V (fun i hi => (rc_isor hC hi).2.2.1))⟩
  · skip
    have hq := rc_ihol hC ht hb _ ho
    have zq := rc_isor hC hq
    have yq := rc_imad hC
    refine ct_of h_HA_perform rfl rfl rfl ?_
    refine ev_gV [] [some 36] rfl ?_
    refine ev_inV 1 k_HA_15 h_SD_t rfl rfl rfl rfl rfl ⟨by decide, by decide⟩ rfl ?_
    refine ev_gV [] [some (94 + 4 * q)] rfl ?_
    refine ev_reta rfl ?_
    refine ev_g0 rfl ?_
    refine ev_inS 2 k_HA_49 h_HA_isA rfl rfl rfl rfl ⟨by decide, by decide⟩ rfl ?_
    refine ev_g0 rfl ?_
    refine ev_inV 1 k_HA_61 h_TH_isA rfl rfl rfl rfl rfl ⟨by decide, by decide⟩ rfl ?_
    refine ev_gV [] [some 4] rfl ?_
    refine ev_inV 0 k_TH_73 h_TH_isRow rfl rfl rfl rfl rfl ⟨by decide, by decide⟩ rfl ?_
    refine ev_g0 rfl ?_
    refine ev_bV rfl rfl (fun h_1 => ?_) (fun h_1 => ?_)
    · skip
      refine ev_g0 rfl ?_
      refine ev_retz rfl (by first | decide | exact zb_01 _) ?_
      refine ev_g0 rfl ?_
      refine ev_retz rfl (by first | decide | exact zb_01 _) ?_
      refine ev_gV [true] [] rfl ?_
      refine ev_retz rfl (by first | decide | exact zb_01 _) ?_
      refine ev_gV [true] [] rfl ?_
      refine ev_inV 2 k_HA_53 h_SD_setN rfl rfl rfl rfl rfl ⟨by decide, by decide⟩ rfl ?_
      refine ev_gV [] [] rfl ?_
      refine ev_ret rfl ?_
      refine ev_g0 rfl ?_
      refine ev_reti rfl ?_
      refine ct_of h_MM_handles rfl rfl rfl ?_
      refine ev_g0 rfl ?_
      refine ev_inV 1 k_MM_344 h_MM_hold rfl rfl rfl rfl rfl ⟨by decide, by decide⟩ rfl ?_
      refine ev_gV [] [] rfl ?_
      refine ev_reti rfl ?_
      refine ev_gV [false] [some 12] rfl ?_
      refine ev_inV 2 k_MM_202 h_MM_isKind rfl rfl rfl rfl rfl ⟨by decide, by decide⟩ rfl ?_
      refine ev_gV [false, false, true, true, true, true] [none] rfl ?_
      refine ev_retz rfl (by first | decide | exact zb_01 _) ?_
      refine ev_gV [true] [] rfl ?_
      refine ev_inV 2 k_MM_288 h_MM_lay rfl rfl rfl rfl rfl ⟨by decide, by decide⟩ rfl ?_
      refine ev_gV [] [] rfl ?_
      refine ev_ret rfl ?_
      refine ev_g0 rfl ?_
      refine ev_ret rfl ?_
      exact ⟨rfl, (u3 xj 0 t a ((nI 0).toInt64)), xd, xf, xo, xi, xn, nI 0, rfl, bdd, lf_V, lf_V, (CU_num hC ht ha lf_V lf_V), (MU_num hM ht ha lf_V lf_V (fun i hi => (rc_isor hC hi).2.2.1))⟩
    · skip
      refine ev_g0 rfl ?_
      refine ev_retz rfl (by first | decide | exact zb_01 _) ?_
      refine ev_g0 rfl ?_
      refine ev_retz rfl (by first | decide | exact zb_01 _) ?_
      refine ev_gV [false] [] rfl ?_
      refine ev_retz rfl (by first | decide | exact zb_01 _) ?_
      refine ev_gV [false] [] rfl ?_
      refine ev_inV 2 k_HA_53 h_SD_setN rfl rfl rfl rfl rfl ⟨by decide, by decide⟩ rfl ?_
      refine ev_gV [] [] rfl ?_
      refine ev_ret rfl ?_
      refine ev_g0 rfl ?_
      refine ev_reti rfl ?_
      refine ct_of h_MM_handles rfl rfl rfl ?_
      refine ev_g0 rfl ?_
      refine ev_inV 1 k_MM_344 h_MM_hold rfl rfl rfl rfl rfl ⟨by decide, by decide⟩ rfl ?_
      refine ev_gV [] [] rfl ?_
      refine ev_reti rfl ?_
      refine ev_gV [false] [some 12] rfl ?_
      refine ev_inV 2 k_MM_202 h_MM_isKind rfl rfl rfl rfl rfl ⟨by decide, by decide⟩ rfl ?_
      refine ev_gV [false, false, true, true, true, false] [none] rfl ?_
      refine ev_retz rfl (by first | decide | exact zb_01 _) ?_
      refine ev_gV [false] [] rfl ?_
      refine ev_inV 2 k_MM_288 h_MM_lay rfl rfl rfl rfl rfl ⟨by decide, by decide⟩ rfl ?_
      refine ev_gV [] [] rfl ?_
      refine ev_ret rfl ?_
      refine ev_g0 rfl ?_
      refine ev_ret rfl ?_
      exact ⟨rfl, (u3 xj 0 t a ((nI 1).toInt64)), xd, xf, xo, xi, xn, nI 0, rfl, bdd, lf_V, lf_V, (CU_num hC ht ha lf_V lf_V), (MU_num hM ht ha lf_V lf_V (fun i hi => (rc_isor hC hi).2.2.1))⟩
theorem A49_25 {ci : Nat → Nat → Nat → Int32} {cn : Nat → Nat → Nat → Nat} {co : Nat → Option Nat} {xj : Nat → Nat → Nat → Int64} {xd : Nat → Nat → Nat → UInt64} {xf : Nat → Nat → Nat → UInt32} {xo : Nat → Nat → Nat → Option Nat} {xi : Nat → Nat → Nat → Int32} {xn : Nat → Nat → Nat → Nat} {K : Nat → Nat} {I : Nat → Nat → Int32} {J : Nat → Nat → Int64} {F : Nat → Nat → UInt32} {D : Nat → Nat → UInt64} {R : Nat → Nat → Option Nat} {nx sl : Nat} {Km : Nat → Nat} {Im : Nat → Nat → Int32} {Jm : Nat → Nat → Int64} {Fm : Nat → Nat → UInt32} {Dm : Nat → Nat → UInt64} {Rm : Nat → Nat → Option Nat} {nxm slm : Nat} (hC : RC ci cn co xj xd xf xo xi xn I J F D R nx sl) (hM : RM ci cn co xj xd xf xo xi xn Im Jm Dm) {t a b : Nat} {go : Int32} (ht : t < 3) (ha : a < 8) (hb : b < 8) (x1 : Im 6 39 = nI t) (x2 : Im 6 40 = nI a) (x3 : Im 6 41 = nI b) (x4 : Im 6 42 = nI 25) (x5 : Im 6 43 = nI 0) (x6 : Im 6 44 = go) : Ct Y_HA_perform [vr 1 55, vr 8 (32 + 7 * t), vi (nI 49), vi (nI a), vi (nI b), vi (nI 25)] (K, I, J, F, D, R, nx, sl) (fun r μ1 => Ct Y_MM_handles [vr 11 6, vi (nI 49)] (Km, Im, Jm, Fm, Dm, Rm, nxm, slm) (fun r2 μ2 => r2 = none ∧ QA ci cn co go r μ1 μ2)) := by
  rcases ho : xo 0 t b with _ | q
  · skip
    refine ct_of h_HA_perform rfl rfl rfl ?_
    refine ev_gV [] [some 37] rfl ?_
    refine ev_inV 1 k_HA_15 h_SD_t rfl rfl rfl rfl rfl ⟨by decide, by decide⟩ rfl ?_
    refine ev_gV [] [none] rfl ?_
    refine ev_retn rfl ?_
    refine ev_g0 rfl ?_
    refine ev_inS 4 k_HA_57 h_HA_takeAs rfl rfl rfl rfl ⟨by decide, by decide⟩ rfl ?_
    refine ev_g0 rfl ?_
    refine ev_inV 2 k_HA_21 h_SD_setT rfl rfl rfl rfl rfl ⟨by decide, by decide⟩ rfl ?_
    refine ev_gV [] [] rfl ?_
    refine ev_ret rfl ?_
    refine ev_g0 rfl ?_
    refine ev_reti rfl ?_
    refine ev_g0 rfl ?_
    refine ev_reti rfl ?_
    refine ct_of h_MM_handles rfl rfl rfl ?_
    refine ev_g0 rfl ?_
    refine ev_inV 1 k_MM_344 h_MM_hold rfl rfl rfl rfl rfl ⟨by decide, by decide⟩ rfl ?_
    refine ev_gV [] [] rfl ?_
    refine ev_reti rfl ?_
    refine ev_gV [] [some 13] rfl ?_
    refine ev_inV 2 k_MM_354 h_MM_takes rfl rfl rfl rfl rfl ⟨by decide, by decide⟩ rfl ?_
    refine ev_gV [true] [] rfl ?_
    refine ev_retz rfl (by first | decide | exact zb_01 _) ?_
    refine ev_gV [false] [] rfl ?_
    refine ev_inV 2 k_MM_336 h_MM_keep rfl rfl rfl rfl rfl ⟨by decide, by decide⟩ rfl ?_
    refine ev_gV [] [] rfl ?_
    refine ev_ret rfl ?_
    refine ev_g0 rfl ?_
    refine ev_ret rfl ?_
    exact ⟨rfl, xj, xd, xf, (u3 xo 0 t a (none)), xi, xn, nI 0, rfl, bdd, lf_V, lf_V, (CU_hol hC ht ha (fun _ h => by cases h) lf_V lf_V), (MU_hol hM ht ha lf_V lf_V (fun i hi => (rc_isor hC hi).2.2.1))⟩
  · skip
    have hq := rc_ihol hC ht hb _ ho
    have zq := rc_isor hC hq
    have yq := rc_imad hC
    refine ct_of h_HA_perform rfl rfl rfl ?_
    refine ev_gV [] [some 37] rfl ?_
    refine ev_inV 1 k_HA_15 h_SD_t rfl rfl rfl rfl rfl ⟨by decide, by decide⟩ rfl ?_
    refine ev_gV [] [some (94 + 4 * q)] rfl ?_
    refine ev_reta rfl ?_
    refine ev_g0 rfl ?_
    refine ev_inS 4 k_HA_57 h_HA_takeAs rfl rfl rfl rfl ⟨by decide, by decide⟩ rfl ?_
    refine ev_g0 rfl ?_
    refine ev_inV 1 k_HA_61 h_TH_isA rfl rfl rfl rfl rfl ⟨by decide, by decide⟩ rfl ?_
    refine ev_gV [] [some 4] rfl ?_
    refine ev_inV 0 k_TH_73 h_TH_isRow rfl rfl rfl rfl rfl ⟨by decide, by decide⟩ rfl ?_
    refine ev_g0 rfl ?_
    refine ev_bV rfl rfl (fun h_1 => ?_) (fun h_1 => ?_)
    · skip
      refine ev_g0 rfl ?_
      refine ev_retz rfl (by first | decide | exact zb_01 _) ?_
      refine ev_g0 rfl ?_
      refine ev_retz rfl (by first | decide | exact zb_01 _) ?_
      refine ev_gV [false] [] rfl ?_
      refine ev_reti rfl ?_
      refine ev_g0 rfl ?_
      refine ev_reti rfl ?_
      refine ct_of h_MM_handles rfl rfl rfl ?_
      refine ev_g0 rfl ?_
      refine ev_inV 1 k_MM_344 h_MM_hold rfl rfl rfl rfl rfl ⟨by decide, by decide⟩ rfl ?_
      refine ev_gV [] [] rfl ?_
      refine ev_reti rfl ?_
      refine ev_gV [] [some 13] rfl ?_
      refine ev_inV 2 k_MM_354 h_MM_takes rfl rfl rfl rfl rfl ⟨by decide, by decide⟩ rfl ?_
      refine ev_gV [false] [] rfl ?_
      refine ev_inV 2 k_MM_202 h_MM_isKind rfl rfl rfl rfl rfl ⟨by decide, by decide⟩ rfl ?_
      refine ev_gV [false, false, true, true, true, true] [none] rfl ?_
      refine ev_retz rfl (by first | decide | exact zb_01 _) ?_
      refine ev_gV [false] [] rfl ?_
      refine ev_retz rfl (by first | decide | exact zb_01 _) ?_
      refine ev_gV [true] [] rfl ?_
      refine ev_ret rfl ?_
      exact ⟨rfl, xj, xd, xf, xo, xi, xn, nI 3, rfl, bdd, lf_V, lf_V, hC, hM⟩
    · skip
      refine ev_g0 rfl ?_
      refine ev_retz rfl (by first | decide | exact zb_01 _) ?_
      refine ev_g0 rfl ?_
      refine ev_retz rfl (by first | decide | exact zb_01 _) ?_
      refine ev_gV [true] [] rfl ?_
      refine ev_inV 2 k_HA_21 h_SD_setT rfl rfl rfl rfl rfl ⟨by decide, by decide⟩ rfl ?_
      refine ev_gV [] [] rfl ?_
      refine ev_ret rfl ?_
      refine ev_g0 rfl ?_
      refine ev_reti rfl ?_
      refine ev_g0 rfl ?_
      refine ev_reti rfl ?_
      refine ct_of h_MM_handles rfl rfl rfl ?_
      refine ev_g0 rfl ?_
      refine ev_inV 1 k_MM_344 h_MM_hold rfl rfl rfl rfl rfl ⟨by decide, by decide⟩ rfl ?_
      refine ev_gV [] [] rfl ?_
      refine ev_reti rfl ?_
      refine ev_gV [] [some 13] rfl ?_
      refine ev_inV 2 k_MM_354 h_MM_takes rfl rfl rfl rfl rfl ⟨by decide, by decide⟩ rfl ?_
      refine ev_gV [false] [] rfl ?_
      refine ev_inV 2 k_MM_202 h_MM_isKind rfl rfl rfl rfl rfl ⟨by decide, by decide⟩ rfl ?_
      refine ev_gV [false, false, true, true, true, false] [none] rfl ?_
      refine ev_retz rfl (by first | decide | exact zb_01 _) ?_
      refine ev_gV [true] [] rfl ?_
      refine ev_retz rfl (by first | decide | exact zb_01 _) ?_
      refine ev_gV [false] [] rfl ?_
      refine ev_inV 2 k_MM_336 h_MM_keep rfl rfl rfl rfl rfl ⟨by decide, by decide⟩ rfl ?_
      refine ev_gV [] [] rfl ?_
      refine ev_ret rfl ?_
      refine ev_g0 rfl ?_
      refine ev_ret rfl ?_
      exact ⟨rfl, xj, xd, xf, (u3 xo 0 t a (some q)), xi, xn, nI 0, rfl, bdd, lf_V, lf_V, (CU_hol hC ht ha (fun _ h => by cases h; exact hq) lf_V lf_V), (MU_hol hM ht ha lf_V lf_V (fun i hi => (rc_isor hC hi).2.2.1))⟩
