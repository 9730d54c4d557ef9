theorem ev_gT {Y : mm_Y} {μ0 : mm_M} {rem : List mm_E} {L : mm_L} {st : List mm_V} {μ : mm_M} {Post : Option mm_V → mm_M → Prop} (bs : List Bool) (os : List (Option Nat)) {e2 : mm_E} {rem2 : List mm_E} {L2 : mm_L} {st2 : List mm_V} {μ2 : mm_M} {P2 : Prop} (h : mm_go 5000 (mm_co Y) rem L st μ bs os True = some (e2 :: rem2, L2, st2, μ2, P2)) (k : Ev Y μ0 (e2 :: rem2) L2 st2 μ2 Post) (hp : P2 := by (repeat' apply And.intro) <;> first | exact trivial | assumption | rfl | decide | omega | (simp (disch := first | assumption | omega | decide) only [i_add, i_mul, n_cl, nI_and7, nI_and3, v_in, i_eq, i_lt, i_le, i_eq0, i_lt0, i_ge0, i_gt0, i_le0, lg_cmp_eq, lg_cmp_ge, lg_cmp_gt, lg_cmp_le, lg_cmp_lt, zb_e0, zb_n0, Classical.not_not, up_ne, Nat.zero_add, Nat.add_zero, rc_num hC, rc_hol hC, rc_who hC, rc_rea hC, rc_par hC, rc_nn hC, rc_xx hC, rc_ff hC, rc_nxt hC, rc_lin hC, rc_sor hC, rc_len hC, rc_own hC, rc_tim hC, rc_tal hC, rc_dbl hC, rc_flt hC, rc_mad hC, rc_trc hC, rc_mk0 hC, rc_mk1 hC, rc_mk2 hC, rc_tix hC, rc_thg hC, rm_num hM, rm_hol hM, rm_who hM, rm_rea hM, rm_par hM, rm_nn hM, rm_xx hM, rm_ff hM, rm_nxt hM, rm_lin hM, rm_sor hM, rm_len hM, rm_own hM, rm_tim hM, rm_tal hM, rm_dbl hM, rm_flt hM, rm_mad hM, rm_trc hM, rm_mk hM, tR_s, tR_n, eI_s, eI_n, e_nm, e_mm, lN_i, l_lt, l_le, l_eq, l_z, lN_t, nI_tl, n_s1, i_sub, eLi, eL_s, eL_n, up_eq, mkz, i_l1, i_l2, i_l3, *] <;> first | assumption | omega | decide)) : Ev Y μ0 rem L st μ Post := ev_go bs os h hp k
theorem ev_bT {Y : mm_Y} {μ0 : mm_M} {rem : List mm_E} {L : mm_L} {st : List mm_V} {μ : mm_M} {Post : Option mm_V → mm_M → Prop} {e2 e3 : mm_E} {rem2 rem3 : List mm_E} {L2 L3 : mm_L} {st2 st3 : List mm_V} {μ2 μ3 : mm_M} {c c2 d d2 : Prop} (hT : mm_go 1 (mm_co Y) rem L st μ [true] [] True = some (e2 :: rem2, L2, st2, μ2, True ∧ c)) (hF : mm_go 1 (mm_co Y) rem L st μ [false] [] True = some (e3 :: rem3, L3, st3, μ3, True ∧ c2)) (kt : d → Ev Y μ0 (e2 :: rem2) L2 st2 μ2 Post) (kf : d2 → Ev Y μ0 (e3 :: rem3) L3 st3 μ3 Post) (hc : ¬ c → c2 := by first | exact id | exact Classical.not_not.mp) (g1 : c → d := by intro hh; (try simp (disch := first | assumption | omega | decide) only [i_add, i_mul, n_cl, nI_and7, nI_and3, v_in, i_eq, i_lt, i_le, i_eq0, i_lt0, i_ge0, i_gt0, i_le0, lg_cmp_eq, lg_cmp_ge, lg_cmp_gt, lg_cmp_le, lg_cmp_lt, zb_e0, zb_n0, Classical.not_not, up_ne, Nat.zero_add, Nat.add_zero, rc_num hC, rc_hol hC, rc_who hC, rc_rea hC, rc_par hC, rc_nn hC, rc_xx hC, rc_ff hC, rc_nxt hC, rc_lin hC, rc_sor hC, rc_len hC, rc_own hC, rc_tim hC, rc_tal hC, rc_dbl hC, rc_flt hC, rc_mad hC, rc_trc hC, rc_mk0 hC, rc_mk1 hC, rc_mk2 hC, rc_tix hC, rc_thg hC, rm_num hM, rm_hol hM, rm_who hM, rm_rea hM, rm_par hM, rm_nn hM, rm_xx hM, rm_ff hM, rm_nxt hM, rm_lin hM, rm_sor hM, rm_len hM, rm_own hM, rm_tim hM, rm_tal hM, rm_dbl hM, rm_flt hM, rm_mad hM, rm_trc hM, rm_mk hM, tR_s, tR_n, eI_s, eI_n, e_nm, e_mm, lN_i, l_lt, l_le, l_eq, l_z, lN_t, nI_tl, n_s1, i_sub, eLi, eL_s, eL_n, up_eq, mkz, i_l1, i_l2, i_l3, *] at hh); exact hh) (g2 : c2 → d2 := by intro hh; (try simp (disch := first | assumption | omega | decide) only [i_add, i_mul, n_cl, nI_and7, nI_and3, v_in, i_eq, i_lt, i_le, i_eq0, i_lt0, i_ge0, i_gt0, i_le0, lg_cmp_eq, lg_cmp_ge, lg_cmp_gt, lg_cmp_le, lg_cmp_lt, zb_e0, zb_n0, Classical.not_not, up_ne, Nat.zero_add, Nat.add_zero, rc_num hC, rc_hol hC, rc_who hC, rc_rea hC, rc_par hC, rc_nn hC, rc_xx hC, rc_ff hC, rc_nxt hC, rc_lin hC, rc_sor hC, rc_len hC, rc_own hC, rc_tim hC, rc_tal hC, rc_dbl hC, rc_flt hC, rc_mad hC, rc_trc hC, rc_mk0 hC, rc_mk1 hC, rc_mk2 hC, rc_tix hC, rc_thg hC, rm_num hM, rm_hol hM, rm_who hM, rm_rea hM, rm_par hM, rm_nn hM, rm_xx hM, rm_ff hM, rm_nxt hM, rm_lin hM, rm_sor hM, rm_len hM, rm_own hM, rm_tim hM, rm_tal hM, rm_dbl hM, rm_flt hM, rm_mad hM, rm_trc hM, rm_mk hM, tR_s, tR_n, eI_s, eI_n, e_nm, e_mm, lN_i, l_lt, l_le, l_eq, l_z, lN_t, nI_tl, n_s1, i_sub, eLi, eL_s, eL_n, up_eq, mkz, i_l1, i_l2, i_l3, *] at hh); exact hh) : Ev Y μ0 rem L st μ Post := ev_br hT hF hc (fun h => kt (g1 h)) (fun h => kf (g2 h))
theorem lf_T {p : Prop} (h : p := by first | rfl | assumption | (simp (disch := first | assumption | omega | decide) only [i_add, i_mul, n_cl, nI_and7, nI_and3, v_in, i_eq, i_lt, i_le, i_eq0, i_lt0, i_ge0, i_gt0, i_le0, lg_cmp_eq, lg_cmp_ge, lg_cmp_gt, lg_cmp_le, lg_cmp_lt, zb_e0, zb_n0, Classical.not_not, up_ne, Nat.zero_add, Nat.add_zero, rc_num hC, rc_hol hC, rc_who hC, rc_rea hC, rc_par hC, rc_nn hC, rc_xx hC, rc_ff hC, rc_nxt hC, rc_lin hC, rc_sor hC, rc_len hC, rc_own hC, rc_tim hC, rc_tal hC, rc_dbl hC, rc_flt hC, rc_mad hC, rc_trc hC, rc_mk0 hC, rc_mk1 hC, rc_mk2 hC, rc_tix hC, rc_thg hC, rm_num hM, rm_hol hM, rm_who hM, rm_rea hM, rm_par hM, rm_nn hM, rm_xx hM, rm_ff hM, rm_nxt hM, rm_lin hM, rm_sor hM, rm_len hM, rm_own hM, rm_tim hM, rm_tal hM, rm_dbl hM, rm_flt hM, rm_mad hM, rm_trc hM, rm_mk hM, tR_s, tR_n, eI_s, eI_n, e_nm, e_mm, lN_i, l_lt, l_le, l_eq, l_z, lN_t, nI_tl, n_s1, i_sub, eLi, eL_s, eL_n, up_eq, mkz, i_l1, i_l2, i_l3, *] <;> first | rfl | assumption | omega | decide)) : p := h
theorem A20 {ci : Nat → Nat → Nat → Int32} {cn : Nat → Nat → Nat → Nat} {co : Nat → Option Nat} {xj : Nat → Nat → Nat → Int64} {xd : Nat → Nat → Nat → UInt64} {xf : Nat → Nat → Nat → UInt32} {xo : Nat → Nat → Nat → Option Nat} {xi : Nat → Nat → Nat → Int32} {xn : Nat → Nat → Nat → Nat} {K : Nat → Nat} {I : Nat → Nat → Int32} {J : Nat → Nat → Int64} {F : Nat → Nat → UInt32} {D : Nat → Nat → UInt64} {R : Nat → Nat → Option Nat} {nx sl : Nat} {Km : Nat → Nat} {Im : Nat → Nat → Int32} {Jm : Nat → Nat → Int64} {Fm : Nat → Nat → UInt32} {Dm : Nat → Nat → UInt64} {Rm : Nat → Nat → Option Nat} {nxm slm : Nat} (hC : RC ci cn co xj xd xf xo xi xn I J F D R nx sl) (hM : RM ci cn co xj xd xf xo xi xn Im Jm Dm) {t a b c : Nat} {go : Int32} (ht : t < 3) (ha : a < 8) (hb : b < 8) (hc : c < 8) (x1 : Im 6 39 = nI t) (x2 : Im 6 40 = nI a) (x3 : Im 6 41 = nI b) (x4 : Im 6 42 = nI c) (x5 : Im 6 43 = nI 0) (x6 : Im 6 44 = go) : Ct Y_IA_perform [vr 8 (32 + 7 * t), vi (nI 20), vi (nI a), vi (nI b), vi (nI c)] (K, I, J, F, D, R, nx, sl) (fun r μ1 => Ct Y_MM_loads [vr 11 6, vi (nI 0)] (Km, Im, Jm, Fm, Dm, Rm, nxm, slm) (fun r2 μ2 => r2 = none ∧ QA ci cn co go r μ1 μ2)) := by
  rcases ho : xo 0 t b with _ | q
  · skip
    refine ct_of h_IA_perform rfl rfl rfl ?_
    refine ev_g0 rfl ?_
    refine ev_inV 1 k_IA_9 h_SD_t rfl rfl rfl rfl rfl ⟨by decide, by decide⟩ rfl ?_
    refine ev_gT [] [none] rfl ?_
    refine ev_retn rfl ?_
    refine ev_gT [false] [] rfl ?_
    refine ev_inV 1 k_IA_17 h_SD_n rfl rfl rfl rfl rfl ⟨by decide, by decide⟩ rfl ?_
    refine ev_gT [] [] rfl ?_
    refine ev_retl rfl ?_
    refine ev_g0 rfl ?_
    refine ev_inS 5 k_IA_21 h_IA_getItem rfl rfl rfl rfl ⟨by decide, by decide⟩ rfl ?_
    refine ev_g0 rfl ?_
    refine ev_reti rfl ?_
    refine ev_g0 rfl ?_
    refine ev_reti rfl ?_
    refine ct_of h_MM_loads rfl rfl rfl ?_
    refine ev_g0 rfl ?_
    refine ev_inV 1 k_MM_344 h_MM_hold rfl rfl rfl rfl rfl ⟨by decide, by decide⟩ rfl ?_
    refine ev_gT [] [] rfl ?_
    refine ev_reti rfl ?_
    refine ev_g0 rfl ?_
    refine ev_inV 2 k_MM_354 h_MM_takes rfl rfl rfl rfl rfl ⟨by decide, by decide⟩ rfl ?_
    refine ev_gT [true] [] rfl ?_
    refine ev_retz rfl (by first | decide | exact zb_01 _) ?_
    refine ev_gT [false] [] rfl ?_
    refine ev_inV 1 k_MM_357 h_MM_is rfl rfl rfl rfl rfl ⟨by decide, by decide⟩ rfl ?_
    refine ev_gT [false, true] [] rfl ?_
    refine ev_retz rfl (by first | decide | exact zb_01 _) ?_
    refine ev_gT [true] [] rfl ?_
    refine ev_ret rfl ?_
    exact ⟨rfl, xj, xd, xf, xo, xi, xn, nI 1, rfl, bdd, lf_T, lf_T, hC, hM⟩
  · skip
    have hq := rc_ihol hC ht hb _ ho
    have zq := rc_isor hC hq
    have yq := rc_imad hC
    rcases ixc (xj 0 t c) (xn 1 q 0) with ⟨j, hj, hi⟩ | hi
    · skip
      refine ct_of h_IA_perform rfl rfl rfl ?_
      refine ev_g0 rfl ?_
      refine ev_inV 1 k_IA_9 h_SD_t rfl rfl rfl rfl rfl ⟨by decide, by decide⟩ rfl ?_
      refine ev_gT [] [some (94 + 4 * q)] rfl ?_
      refine ev_reta rfl ?_
      refine ev_gT [false] [] rfl ?_
      refine ev_inV 1 k_IA_17 h_SD_n rfl rfl rfl rfl rfl ⟨by decide, by decide⟩ rfl ?_
      refine ev_gT [] [] rfl ?_
      refine ev_retl rfl ?_
      refine ev_g0 rfl ?_
      refine ev_inS 5 k_IA_21 h_IA_getItem rfl rfl rfl rfl ⟨by decide, by decide⟩ rfl ?_
      refine ev_g0 rfl ?_
      refine ev_bT rfl rfl (fun h_1 => ?_) (fun h_1 => ?_)
      · skip
        refine ev_g0 rfl ?_
        refine ev_inV 1 k_IA_60 h_TH_hasItem rfl rfl rfl rfl rfl ⟨by decide, by decide⟩ rfl ?_
        refine ev_gT [false, false] [] rfl ?_
        refine ev_retz rfl (by first | decide | exact zb_01 _) ?_
        refine ev_gT [true, true, true] [] rfl ?_
        refine ev_inV 2 k_IA_80 h_SD_setN rfl rfl rfl rfl rfl ⟨by decide, by decide⟩ rfl ?_
        refine ev_gT [] [] rfl ?_
        refine ev_ret rfl ?_
        refine ev_g0 rfl ?_
        refine ev_reti rfl ?_
        refine ev_g0 rfl ?_
        refine ev_reti rfl ?_
        refine ct_of h_MM_loads rfl rfl rfl ?_
        refine ev_g0 rfl ?_
        refine ev_inV 1 k_MM_344 h_MM_hold rfl rfl rfl rfl rfl ⟨by decide, by decide⟩ rfl ?_
        refine ev_gT [] [] rfl ?_
        refine ev_reti rfl ?_
        refine ev_g0 rfl ?_
        refine ev_inV 2 k_MM_354 h_MM_takes rfl rfl rfl rfl rfl ⟨by decide, by decide⟩ rfl ?_
        refine ev_gT [false] [] rfl ?_
        refine ev_inV 2 k_MM_202 h_MM_isKind rfl rfl rfl rfl rfl ⟨by decide, by decide⟩ rfl ?_
        refine ev_gT [true, false] [] rfl ?_
        refine ev_retz rfl (by first | decide | exact zb_01 _) ?_
        refine ev_gT [true] [] rfl ?_
        refine ev_retz rfl (by first | decide | exact zb_01 _) ?_
        refine ev_gT [false] [] rfl ?_
        refine ev_inV 1 k_MM_357 h_MM_is rfl rfl rfl rfl rfl ⟨by decide, by decide⟩ rfl ?_
        refine ev_gT [true, false] [] rfl ?_
        refine ev_retz rfl (by first | decide | exact zb_01 _) ?_
        refine ev_gT [false] [] rfl ?_
        refine ev_inV 1 k_MM_277 h_MM_number rfl rfl rfl rfl rfl ⟨by decide, by decide⟩ rfl ?_
        refine ev_gT [] [] rfl ?_
        refine ev_retl rfl ?_
        refine ev_g0 rfl ?_
        refine ev_inV 2 k_MM_360 h_MM_holdsIndex rfl rfl rfl rfl rfl ⟨by decide, by decide⟩ rfl ?_
        refine ev_gT [] [] rfl ?_
        refine ev_inS 3 k_MM_188 h_MM_in rfl rfl rfl rfl ⟨by decide, by decide⟩ rfl ?_
        refine ev_gT [false, false] [] rfl ?_
        refine ev_retz rfl (by first | decide | exact zb_01 _) ?_
        refine ev_gT [true] [] rfl ?_
        refine ev_retz rfl (by first | decide | exact zb_01 _) ?_
        refine ev_gT [true] [] rfl ?_
        refine ev_inV 1 k_MM_277 h_MM_number rfl rfl rfl rfl rfl ⟨by decide, by decide⟩ rfl ?_
        refine ev_gT [] [] rfl ?_
        refine ev_retl rfl ?_
        refine ev_gT [true, true] [] rfl ?_
        refine ev_inV 2 k_MM_288 h_MM_lay rfl rfl rfl rfl rfl ⟨by decide, by decide⟩ rfl ?_
        refine ev_gT [] [] rfl ?_
        refine ev_ret rfl ?_
        refine ev_g0 rfl ?_
        refine ev_ret rfl ?_
        exact ⟨rfl, (u3 xj 0 t a (xj 1 q j)), xd, xf, xo, xi, xn, nI 0, rfl, bdd, lf_T, lf_T, (CU_num hC ht ha lf_T lf_T), (MU_num hM ht ha lf_T lf_T (fun i hi => (rc_isor hC hi).2.2.1))⟩
      · skip
        refine ev_g0 rfl ?_
        refine ev_reti rfl ?_
        refine ev_g0 rfl ?_
        refine ev_reti rfl ?_
        refine ct_of h_MM_loads rfl rfl rfl ?_
        refine ev_g0 rfl ?_
        refine ev_inV 1 k_MM_344 h_MM_hold rfl rfl rfl rfl rfl ⟨by decide, by decide⟩ rfl ?_
        refine ev_gT [] [] rfl ?_
        refine ev_reti rfl ?_
        refine ev_g0 rfl ?_
        refine ev_inV 2 k_MM_354 h_MM_takes rfl rfl rfl rfl rfl ⟨by decide, by decide⟩ rfl ?_
        refine ev_gT [false] [] rfl ?_
        refine ev_inV 2 k_MM_202 h_MM_isKind rfl rfl rfl rfl rfl ⟨by decide, by decide⟩ rfl ?_
        refine ev_gT [true, true] [] rfl ?_
        refine ev_retz rfl (by first | decide | exact zb_01 _) ?_
        refine ev_gT [false] [] rfl ?_
        refine ev_retz rfl (by first | decide | exact zb_01 _) ?_
        refine ev_gT [true] [] rfl ?_
        refine ev_ret rfl ?_
        exact ⟨rfl, xj, xd, xf, xo, xi, xn, nI 3, rfl, bdd, lf_T, lf_T, hC, hM⟩
    · skip
      refine ct_of h_IA_perform rfl rfl rfl ?_
      refine ev_g0 rfl ?_
      refine ev_inV 1 k_IA_9 h_SD_t rfl rfl rfl rfl rfl ⟨by decide, by decide⟩ rfl ?_
      refine ev_gT [] [some (94 + 4 * q)] rfl ?_
      refine ev_reta rfl ?_
      refine ev_gT [false] [] rfl ?_
      refine ev_inV 1 k_IA_17 h_SD_n rfl rfl rfl rfl rfl ⟨by decide, by decide⟩ rfl ?_
      refine ev_gT [] [] rfl ?_
      refine ev_retl rfl ?_
      refine ev_g0 rfl ?_
      refine ev_inS 5 k_IA_21 h_IA_getItem rfl rfl rfl rfl ⟨by decide, by decide⟩ rfl ?_
      refine ev_g0 rfl ?_
      refine ev_bT rfl rfl (fun h_2 => ?_) (fun h_2 => ?_)
      · skip
        refine ev_g0 rfl ?_
        refine ev_inV 1 k_IA_60 h_TH_hasItem rfl rfl rfl rfl rfl ⟨by decide, by decide⟩ rfl ?_
        refine ev_g0 rfl ?_
        refine ev_bT rfl rfl (fun h_3 => ?_) (fun h_3 => ?_)
        · skip
          refine ev_g0 rfl ?_
          refine ev_retz rfl (by first | decide | exact zb_01 _) ?_
          refine ev_gT [false] [] rfl ?_
          refine ev_reti rfl ?_
          refine ev_g0 rfl ?_
          refine ev_reti rfl ?_
          refine ct_of h_MM_loads rfl rfl rfl ?_
          refine ev_g0 rfl ?_
          refine ev_inV 1 k_MM_344 h_MM_hold rfl rfl rfl rfl rfl ⟨by decide, by decide⟩ rfl ?_
          refine ev_gT [] [] rfl ?_
          refine ev_reti rfl ?_
          refine ev_g0 rfl ?_
          refine ev_inV 2 k_MM_354 h_MM_takes rfl rfl rfl rfl rfl ⟨by decide, by decide⟩ rfl ?_
          refine ev_gT [false] [] rfl ?_
          refine ev_inV 2 k_MM_202 h_MM_isKind rfl rfl rfl rfl rfl ⟨by decide, by decide⟩ rfl ?_
          refine ev_gT [true, false] [] rfl ?_
          refine ev_retz rfl (by first | decide | exact zb_01 _) ?_
          refine ev_gT [true] [] rfl ?_
          refine ev_retz rfl (by first | decide | exact zb_01 _) ?_
          refine ev_gT [false] [] rfl ?_
          refine ev_inV 1 k_MM_357 h_MM_is rfl rfl rfl rfl rfl ⟨by decide, by decide⟩ rfl ?_
          refine ev_gT [true, false] [] rfl ?_
          refine ev_retz rfl (by first | decide | exact zb_01 _) ?_
          refine ev_gT [false] [] rfl ?_
          refine ev_inV 1 k_MM_277 h_MM_number rfl rfl rfl rfl rfl ⟨by decide, by decide⟩ rfl ?_
          refine ev_gT [] [] rfl ?_
          refine ev_retl rfl ?_
          refine ev_g0 rfl ?_
          refine ev_inV 2 k_MM_360 h_MM_holdsIndex rfl rfl rfl rfl rfl ⟨by decide, by decide⟩ rfl ?_
          refine ev_gT [] [] rfl ?_
          refine ev_inS 3 k_MM_188 h_MM_in rfl rfl rfl rfl ⟨by decide, by decide⟩ rfl ?_
          refine ev_gT [true] [] rfl ?_
          refine ev_retz rfl (by first | decide | exact zb_01 _) ?_
          refine ev_gT [false] [] rfl ?_
          refine ev_retz rfl (by first | decide | exact zb_01 _) ?_
          refine ev_gT [false] [] rfl ?_
          refine ev_ret rfl ?_
          exact ⟨rfl, xj, xd, xf, xo, xi, xn, nI 2, rfl, bdd, lf_T, lf_T, hC, hM⟩
        · skip
          refine ev_gT [true] [] rfl ?_
          refine ev_retz rfl (by first | decide | exact zb_01 _) ?_
          refine ev_gT [false] [] rfl ?_
          refine ev_reti rfl ?_
          refine ev_g0 rfl ?_
          refine ev_reti rfl ?_
          refine ct_of h_MM_loads rfl rfl rfl ?_
          refine ev_g0 rfl ?_
          refine ev_inV 1 k_MM_344 h_MM_hold rfl rfl rfl rfl rfl ⟨by decide, by decide⟩ rfl ?_
          refine ev_gT [] [] rfl ?_
          refine ev_reti rfl ?_
          refine ev_g0 rfl ?_
          refine ev_inV 2 k_MM_354 h_MM_takes rfl rfl rfl rfl rfl ⟨by decide, by decide⟩ rfl ?_
          refine ev_gT [false] [] rfl ?_
          refine ev_inV 2 k_MM_202 h_MM_isKind rfl rfl rfl rfl rfl ⟨by decide, by decide⟩ rfl ?_
          refine ev_gT [true, false] [] rfl ?_
          refine ev_retz rfl (by first | decide | exact zb_01 _) ?_
          refine ev_gT [true] [] rfl ?_
          refine ev_retz rfl (by first | decide | exact zb_01 _) ?_
          refine ev_gT [false] [] rfl ?_
          refine ev_inV 1 k_MM_357 h_MM_is rfl rfl rfl rfl rfl ⟨by decide, by decide⟩ rfl ?_
          refine ev_gT [true, false] [] rfl ?_
          refine ev_retz rfl (by first | decide | exact zb_01 _) ?_
          refine ev_gT [false] [] rfl ?_
          refine ev_inV 1 k_MM_277 h_MM_number rfl rfl rfl rfl rfl ⟨by decide, by decide⟩ rfl ?_
          refine ev_gT [] [] rfl ?_
          refine ev_retl rfl ?_
          refine ev_g0 rfl ?_
          refine ev_inV 2 k_MM_360 h_MM_holdsIndex rfl rfl rfl rfl rfl ⟨by decide, by decide⟩ rfl ?_
          refine ev_gT [] [] rfl ?_
          refine ev_inS 3 k_MM_188 h_MM_in rfl rfl rfl rfl ⟨by decide, by decide⟩ rfl ?_
          refine ev_gT [false, true] [] rfl ?_
          refine ev_retz rfl (by first | decide | exact zb_01 _) ?_
          refine ev_gT [false] [] rfl ?_
          refine ev_retz rfl (by first | decide | exact zb_01 _) ?_
          refine ev_gT [false] [] rfl ?_
          refine ev_ret rfl ?_
          exact ⟨rfl, xj, xd, xf, xo, xi, xn, nI 2, rfl, bdd, lf_T, lf_T, hC, hM⟩
      · skip
        refine ev_g0 rfl ?_
        refine ev_reti rfl ?_
        refine ev_g0 rfl ?_
        refine ev_reti rfl ?_
        refine ct_of h_MM_loads rfl rfl rfl ?_
        refine ev_g0 rfl ?_
        refine ev_inV 1 k_MM_344 h_MM_hold rfl rfl rfl rfl rfl ⟨by decide, by decide⟩ rfl ?_
        refine ev_gT [] [] rfl ?_
        refine ev_reti rfl ?_
        refine ev_g0 rfl ?_
        refine ev_inV 2 k_MM_354 h_MM_takes rfl rfl rfl rfl rfl ⟨by decide, by decide⟩ rfl ?_
        refine ev_gT [false] [] rfl ?_
        refine ev_inV 2 k_MM_202 h_MM_isKind rfl rfl rfl rfl rfl ⟨by decide, by decide⟩ rfl ?_
        refine ev_gT [true, true] [] rfl ?_
        refine ev_retz rfl (by first | decide | exact zb_01 _) ?_
        refine ev_gT [false] [] rfl ?_
        refine ev_retz rfl (by first | decide | exact zb_01 _) ?_
        refine ev_gT [true] [] rfl ?_
        refine ev_ret rfl ?_
        exact ⟨rfl, xj, xd, xf, xo, xi, xn, nI 3, rfl, bdd, lf_T, lf_T, hC, hM⟩
theorem A24 {ci : Nat → Nat → Nat → Int32} {cn : Nat → Nat → Nat → Nat} {co : Nat → Option Nat} {xj : Nat → Nat → Nat → Int64} {xd : Nat → Nat → Nat → UInt64} {xf : Nat → Nat → Nat → UInt32} {xo : Nat → Nat → Nat → Option Nat} {xi : Nat → Nat → Nat → Int32} {xn : Nat → Nat → Nat → Nat} {K : Nat → Nat} {I : Nat → Nat → Int32} {J : Nat → Nat → Int64} {F : Nat → Nat → UInt32} {D : Nat → Nat → UInt64} {R : Nat → Nat → Option Nat} {nx sl : Nat} {Km : Nat → Nat} {Im : Nat → Nat → Int32} {Jm : Nat → Nat → Int64} {Fm : Nat → Nat → UInt32} {Dm : Nat → Nat → UInt64} {Rm : Nat → Nat → Option Nat} {nxm slm : Nat} (hC : RC ci cn co xj xd xf xo xi xn I J F D R nx sl) (hM : RM ci cn co xj xd xf xo xi xn Im Jm Dm) {t a b c : Nat} {go : Int32} (ht : t < 3) (ha : a < 8) (hb : b < 8) (hc : c < 8) (x1 : Im 6 39 = nI t) (x2 : Im 6 40 = nI a) (x3 : Im 6 41 = nI b) (x4 : Im 6 42 = nI c) (x5 : Im 6 43 = nI 0) (x6 : Im 6 44 = go) : Ct Y_IA_perform [vr 8 (32 + 7 * t), vi (nI 24), vi (nI a), vi (nI b), vi (nI c)] (K, I, J, F, D, R, nx, sl) (fun r μ1 => Ct Y_MM_loads [vr 11 6, vi (nI 4)] (Km, Im, Jm, Fm, Dm, Rm, nxm, slm) (fun r2 μ2 => r2 = none ∧ QA ci cn co go r μ1 μ2)) := by
  rcases ho : xo 0 t b with _ | q
  · skip
    refine ct_of h_IA_perform rfl rfl rfl ?_
    refine ev_g0 rfl ?_
    refine ev_inV 1 k_IA_9 h_SD_t rfl rfl rfl rfl rfl ⟨by decide, by decide⟩ rfl ?_
    refine ev_gT [] [none] rfl ?_
    refine ev_retn rfl ?_
    refine ev_gT [false] [] rfl ?_
    refine ev_inV 1 k_IA_17 h_SD_n rfl rfl rfl rfl rfl ⟨by decide, by decide⟩ rfl ?_
    refine ev_gT [] [] rfl ?_
    refine ev_retl rfl ?_
    refine ev_g0 rfl ?_
    refine ev_inS 5 k_IA_21 h_IA_getItem rfl rfl rfl rfl ⟨by decide, by decide⟩ rfl ?_
    refine ev_g0 rfl ?_
    refine ev_reti rfl ?_
    refine ev_g0 rfl ?_
    refine ev_reti rfl ?_
    refine ct_of h_MM_loads rfl rfl rfl ?_
    refine ev_g0 rfl ?_
    refine ev_inV 1 k_MM_344 h_MM_hold rfl rfl rfl rfl rfl ⟨by decide, by decide⟩ rfl ?_
    refine ev_gT [] [] rfl ?_
    refine ev_reti rfl ?_
    refine ev_g0 rfl ?_
    refine ev_inV 2 k_MM_354 h_MM_takes rfl rfl rfl rfl rfl ⟨by decide, by decide⟩ rfl ?_
    refine ev_gT [true] [] rfl ?_
    refine ev_retz rfl (by first | decide | exact zb_01 _) ?_
    refine ev_gT [false] [] rfl ?_
    refine ev_inV 1 k_MM_357 h_MM_is rfl rfl rfl rfl rfl ⟨by decide, by decide⟩ rfl ?_
    refine ev_gT [false, true] [] rfl ?_
    refine ev_retz rfl (by first | decide | exact zb_01 _) ?_
    refine ev_gT [true] [] rfl ?_
    refine ev_ret rfl ?_
    exact ⟨rfl, xj, xd, xf, xo, xi, xn, nI 1, rfl, bdd, lf_T, lf_T, hC, hM⟩
  · skip
    have hq := rc_ihol hC ht hb _ ho
    have zq := rc_isor hC hq
    have yq := rc_imad hC
    rcases ixc (xj 0 t c) (xn 1 q 0) with ⟨j, hj, hi⟩ | hi
    · skip
      refine ct_of h_IA_perform rfl rfl rfl ?_
      refine ev_g0 rfl ?_
      refine ev_inV 1 k_IA_9 h_SD_t rfl rfl rfl rfl rfl ⟨by decide, by decide⟩ rfl ?_
      refine ev_gT [] [some (94 + 4 * q)] rfl ?_
      refine ev_reta rfl ?_
      refine ev_gT [false] [] rfl ?_
      refine ev_inV 1 k_IA_17 h_SD_n rfl rfl rfl rfl rfl ⟨by decide, by decide⟩ rfl ?_
      refine ev_gT [] [] rfl ?_
      refine ev_retl rfl ?_
      refine ev_g0 rfl ?_
      refine ev_inS 5 k_IA_21 h_IA_getItem rfl rfl rfl rfl ⟨by decide, by decide⟩ rfl ?_
      refine ev_g0 rfl ?_
      refine ev_bT rfl rfl (fun h_1 => ?_) (fun h_1 => ?_)
      · skip
        refine ev_g0 rfl ?_
        refine ev_inV 1 k_IA_60 h_TH_hasItem rfl rfl rfl rfl rfl ⟨by decide, by decide⟩ rfl ?_
        refine ev_gT [false, false] [] rfl ?_
        refine ev_retz rfl (by first | decide | exact zb_01 _) ?_
        refine ev_gT [true, true, true] [] rfl ?_
        refine ev_inV 2 k_IA_80 h_SD_setN rfl rfl rfl rfl rfl ⟨by decide, by decide⟩ rfl ?_
        refine ev_gT [] [] rfl ?_
        refine ev_ret rfl ?_
        refine ev_g0 rfl ?_
        refine ev_reti rfl ?_
        refine ev_g0 rfl ?_
        refine ev_reti rfl ?_
        refine ct_of h_MM_loads rfl rfl rfl ?_
        refine ev_g0 rfl ?_
        refine ev_inV 1 k_MM_344 h_MM_hold rfl rfl rfl rfl rfl ⟨by decide, by decide⟩ rfl ?_
        refine ev_gT [] [] rfl ?_
        refine ev_reti rfl ?_
        refine ev_g0 rfl ?_
        refine ev_inV 2 k_MM_354 h_MM_takes rfl rfl rfl rfl rfl ⟨by decide, by decide⟩ rfl ?_
        refine ev_gT [false] [] rfl ?_
        refine ev_inV 2 k_MM_202 h_MM_isKind rfl rfl rfl rfl rfl ⟨by decide, by decide⟩ rfl ?_
        refine ev_gT [true, false] [] rfl ?_
        refine ev_retz rfl (by first | decide | exact zb_01 _) ?_
        refine ev_gT [true] [] rfl ?_
        refine ev_retz rfl (by first | decide | exact zb_01 _) ?_
        refine ev_gT [false] [] rfl ?_
        refine ev_inV 1 k_MM_357 h_MM_is rfl rfl rfl rfl rfl ⟨by decide, by decide⟩ rfl ?_
        refine ev_gT [true, false] [] rfl ?_
        refine ev_retz rfl (by first | decide | exact zb_01 _) ?_
        refine ev_gT [false] [] rfl ?_
        refine ev_inV 1 k_MM_277 h_MM_number rfl rfl rfl rfl rfl ⟨by decide, by decide⟩ rfl ?_
        refine ev_gT [] [] rfl ?_
        refine ev_retl rfl ?_
        refine ev_g0 rfl ?_
        refine ev_inV 2 k_MM_360 h_MM_holdsIndex rfl rfl rfl rfl rfl ⟨by decide, by decide⟩ rfl ?_
        refine ev_gT [] [] rfl ?_
        refine ev_inS 3 k_MM_188 h_MM_in rfl rfl rfl rfl ⟨by decide, by decide⟩ rfl ?_
        refine ev_gT [false, false] [] rfl ?_
        refine ev_retz rfl (by first | decide | exact zb_01 _) ?_
        refine ev_gT [true] [] rfl ?_
        refine ev_retz rfl (by first | decide | exact zb_01 _) ?_
        refine ev_gT [true] [] rfl ?_
        refine ev_inV 1 k_MM_277 h_MM_number rfl rfl rfl rfl rfl ⟨by decide, by decide⟩ rfl ?_
        refine ev_gT [] [] rfl ?_
        refine ev_retl rfl ?_
        refine ev_gT [true, true] [] rfl ?_
        refine ev_inV 2 k_MM_288 h_MM_lay rfl rfl rfl rfl rfl ⟨by decide, by decide⟩ rfl ?_
        refine ev_gT [] [] rfl ?_
        refine ev_ret rfl ?_
        refine ev_g0 rfl ?_
        refine ev_ret rfl ?_
        exact ⟨rfl, (u3 xj 0 t a (xj 1 q j)), xd, xf, xo, xi, xn, nI 0, rfl, bdd, lf_T, lf_T, (CU_num hC ht ha lf_T lf_T), (MU_num hM ht ha lf_T lf_T (fun i hi => (rc_isor hC hi).2.2.1))⟩
      · skip
        refine ev_g0 rfl ?_
        refine ev_reti rfl ?_
        refine ev_g0 rfl ?_
        refine ev_reti rfl ?_
        refine ct_of h_MM_loads rfl rfl rfl ?_
        refine ev_g0 rfl ?_
        refine ev_inV 1 k_MM_344 h_MM_hold rfl rfl rfl rfl rfl ⟨by decide, by decide⟩ rfl ?_
        refine ev_gT [] [] rfl ?_
        refine ev_reti rfl ?_
        refine ev_g0 rfl ?_
        refine ev_inV 2 k_MM_354 h_MM_takes rfl rfl rfl rfl rfl ⟨by decide, by decide⟩ rfl ?_
        refine ev_gT [false] [] rfl ?_
        refine ev_inV 2 k_MM_202 h_MM_isKind rfl rfl rfl rfl rfl ⟨by decide, by decide⟩ rfl ?_
        refine ev_gT [true, true] [] rfl ?_
        refine ev_retz rfl (by first | decide | exact zb_01 _) ?_
        refine ev_gT [false] [] rfl ?_
        refine ev_retz rfl (by first | decide | exact zb_01 _) ?_
        refine ev_gT [true] [] rfl ?_
        refine ev_ret rfl ?_
        exact ⟨rfl, xj, xd, xf, xo, xi, xn, nI 3, rfl, bdd, lf_T, lf_T, hC, hM⟩
    · skip
      refine ct_of h_IA_perform rfl rfl rfl ?_
      refine ev_g0 rfl ?_
      refine ev_inV 1 k_IA_9 h_SD_t rfl rfl rfl rfl rfl ⟨by decide, by decide⟩ rfl ?_
      refine ev_gT [] [some (94 + 4 * q)] rfl ?_
      refine ev_reta rfl ?_
      refine ev_gT [false] [] rfl ?_
      refine ev_inV 1 k_IA_17 h_SD_n rfl rfl rfl rfl rfl ⟨by decide, by decide⟩ rfl ?_
      refine ev_gT [] [] rfl ?_
      refine ev_retl rfl ?_
      refine ev_g0 rfl ?_
      refine ev_inS 5 k_IA_21 h_IA_getItem rfl rfl rfl rfl ⟨by decide, by decide⟩ rfl ?_
      refine ev_g0 rfl ?_
      refine ev_bT rfl rfl (fun h_2 => ?_) (fun h_2 => ?_)
      · skip
        refine ev_g0 rfl ?_
        refine ev_inV 1 k_IA_60 h_TH_hasItem rfl rfl rfl rfl rfl ⟨by decide, by decide⟩ rfl ?_
        refine ev_g0 rfl ?_
        refine ev_bT rfl rfl (fun h_3 => ?_) (fun h_3 => ?_)
        · skip
          refine ev_g0 rfl ?_
          refine ev_retz rfl (by first | decide | exact zb_01 _) ?_
          refine ev_gT [false] [] rfl ?_
          refine ev_reti rfl ?_
          refine ev_g0 rfl ?_
          refine ev_reti rfl ?_
          refine ct_of h_MM_loads rfl rfl rfl ?_
          refine ev_g0 rfl ?_
          refine ev_inV 1 k_MM_344 h_MM_hold rfl rfl rfl rfl rfl ⟨by decide, by decide⟩ rfl ?_
          refine ev_gT [] [] rfl ?_
          refine ev_reti rfl ?_
          refine ev_g0 rfl ?_
          refine ev_inV 2 k_MM_354 h_MM_takes rfl rfl rfl rfl rfl ⟨by decide, by decide⟩ rfl ?_
          refine ev_gT [false] [] rfl ?_
          refine ev_inV 2 k_MM_202 h_MM_isKind rfl rfl rfl rfl rfl ⟨by decide, by decide⟩ rfl ?_
          refine ev_gT [true, false] [] rfl ?_
          refine ev_retz rfl (by first | decide | exact zb_01 _) ?_
          refine ev_gT [true] [] rfl ?_
          refine ev_retz rfl (by first | decide | exact zb_01 _) ?_
          refine ev_gT [false] [] rfl ?_
          refine ev_inV 1 k_MM_357 h_MM_is rfl rfl rfl rfl rfl ⟨by decide, by decide⟩ rfl ?_
          refine ev_gT [true, false] [] rfl ?_
          refine ev_retz rfl (by first | decide | exact zb_01 _) ?_
          refine ev_gT [false] [] rfl ?_
          refine ev_inV 1 k_MM_277 h_MM_number rfl rfl rfl rfl rfl ⟨by decide, by decide⟩ rfl ?_
          refine ev_gT [] [] rfl ?_
          refine ev_retl rfl ?_
          refine ev_g0 rfl ?_
          refine ev_inV 2 k_MM_360 h_MM_holdsIndex rfl rfl rfl rfl rfl ⟨by decide, by decide⟩ rfl ?_
          refine ev_gT [] [] rfl ?_
          refine ev_inS 3 k_MM_188 h_MM_in rfl rfl rfl rfl ⟨by decide, by decide⟩ rfl ?_
          refine ev_gT [true] [] rfl ?_
          refine ev_retz rfl (by first | decide | exact zb_01 _) ?_
          refine ev_gT [false] [] rfl ?_
          refine ev_retz rfl (by first | decide | exact zb_01 _) ?_
          refine ev_gT [false] [] rfl ?_
          refine ev_ret rfl ?_
          exact ⟨rfl, xj, xd, xf, xo, xi, xn, nI 2, rfl, bdd, lf_T, lf_T, hC, hM⟩
        · skip
          refine ev_gT [true] [] rfl ?_
          refine ev_retz rfl (by first | decide | exact zb_01 _) ?_
          refine ev_gT [false] [] rfl ?_
          refine ev_reti rfl ?_
          refine ev_g0 rfl ?_
          refine ev_reti rfl ?_
          refine ct_of h_MM_loads rfl rfl rfl ?_
          refine ev_g0 rfl ?_
          refine ev_inV 1 k_MM_344 h_MM_hold rfl rfl rfl rfl rfl ⟨by decide, by decide⟩ rfl ?_
          refine ev_gT [] [] rfl ?_
          refine ev_reti rfl ?_
          refine ev_g0 rfl ?_
          refine ev_inV 2 k_MM_354 h_MM_takes rfl rfl rfl rfl rfl ⟨by decide, by decide⟩ rfl ?_
          refine ev_gT [false] [] rfl ?_
          refine ev_inV 2 k_MM_202 h_MM_isKind rfl rfl rfl rfl rfl ⟨by decide, by decide⟩ rfl ?_
          refine ev_gT [true, false] [] rfl ?_
          refine ev_retz rfl (by first | decide | exact zb_01 _) ?_
          refine ev_gT [true] [] rfl ?_
          refine ev_retz rfl (by first | decide | exact zb_01 _) ?_
          refine ev_gT [false] [] rfl ?_
          refine ev_inV 1 k_MM_357 h_MM_is rfl rfl rfl rfl rfl ⟨by decide, by decide⟩ rfl ?_
          refine ev_gT [true, false] [] rfl ?_
          refine ev_retz rfl (by first | decide | exact zb_01 _) ?_
          refine ev_gT [false] [] rfl ?_
          refine ev_inV 1 k_MM_277 h_MM_number rfl rfl rfl rfl rfl ⟨by decide, by decide⟩ rfl ?_
          refine ev_gT [] [] rfl ?_
          refine ev_retl rfl ?_
          refine ev_g0 rfl ?_
          refine ev_inV 2 k_MM_360 h_MM_holdsIndex rfl rfl rfl rfl rfl ⟨by decide, by decide⟩ rfl ?_
          refine ev_gT [] [] rfl ?_
          refine ev_inS 3 k_MM_188 h_MM_in rfl rfl rfl rfl ⟨by decide, by decide⟩ rfl ?_
          refine ev_gT [false, true] [] rfl ?_
          refine ev_retz rfl (by first | decide | exact zb_01 _) ?_
          refine ev_gT [false] [] rfl ?_
          refine ev_retz rfl (by first | decide | exact zb_01 _) ?_
          refine ev_gT [false] [] rfl ?_
          refine ev_ret rfl ?_
          exact ⟨rfl, xj, xd, xf, xo, xi, xn, nI 2, rfl, bdd, lf_T, lf_T, hC, hM⟩
      · skip
        refine ev_g0 rfl ?_
        refine ev_reti rfl ?_
        refine ev_g0 rfl ?_
        refine ev_reti rfl ?_
        refine ct_of h_MM_loads rfl rfl rfl ?_
        refine ev_g0 rfl ?_
        refine ev_inV 1 k_MM_344 h_MM_hold rfl rfl rfl rfl rfl ⟨by decide, by decide⟩ rfl ?_
        refine ev_gT [] [] rfl ?_
        refine ev_reti rfl ?_
        refine ev_g0 rfl ?_
        refine ev_inV 2 k_MM_354 h_MM_takes rfl rfl rfl rfl rfl ⟨by decide, by decide⟩ rfl ?_
        refine ev_gT [false] [] rfl ?_
        refine ev_inV 2 k_MM_202 h_MM_isKind rfl rfl rfl rfl rfl ⟨by decide, by decide⟩ rfl ?_
        refine ev_gT [true, true] [] rfl ?_
        refine ev_retz rfl (by first | decide | exact zb_01 _) ?_
        refine ev_gT [false] [] rfl ?_
        refine ev_retz rfl (by first | decide | exact zb_01 _) ?_
        refine ev_gT [true] [] rfl ?_
        refine ev_ret rfl ?_
        exact ⟨rfl, xj, xd, xf, xo, xi, xn, nI 3, rfl, bdd, lf_T, lf_T, hC, hM⟩
theorem A25 {ci : Nat → Nat → Nat → Int32} {cn : Nat → Nat → Nat → Nat} {co : Nat → Option Nat} {xj : Nat → Nat → Nat → Int64} {xd : Nat → Nat → Nat → UInt64} {xf : Nat → Nat → Nat → UInt32} {xo : Nat → Nat → Nat → Option Nat} {xi : Nat → Nat → Nat → Int32} {xn : Nat → Nat → Nat → Nat} {K : Nat → Nat} {I : Nat → Nat → Int32} {J : Nat → Nat → Int64} {F : Nat → Nat → UInt32} {D : Nat → Nat → UInt64} {R : Nat → Nat → Option Nat} {nx sl : Nat} {Km : Nat → Nat} {Im : Nat → Nat → Int32} {Jm : Nat → Nat → Int64} {Fm : Nat → Nat → UInt32} {Dm : Nat → Nat → UInt64} {Rm : Nat → Nat → Option Nat} {nxm slm : Nat} (hC : RC ci cn co xj xd xf xo xi xn I J F D R nx sl) (hM : RM ci cn co xj xd xf xo xi xn Im Jm Dm) {t a b c : Nat} {go : Int32} (ht : t < 3) (ha : a < 8) (hb : b < 8) (hc : c < 8) (x1 : Im 6 39 = nI t) (x2 : Im 6 40 = nI a) (x3 : Im 6 41 = nI b) (x4 : Im 6 42 = nI c) (x5 : Im 6 43 = nI 0) (x6 : Im 6 44 = go) : Ct Y_IA_perform [vr 8 (32 + 7 * t), vi (nI 25), vi (nI a), vi (nI b), vi (nI c)] (K, I, J, F, D, R, nx, sl) (fun r μ1 => Ct Y_MM_loads [vr 11 6, vi (nI 5)] (Km, Im, Jm, Fm, Dm, Rm, nxm, slm) (fun r2 μ2 => r2 = none ∧ QA ci cn co go r μ1 μ2)) := by
  rcases ho : xo 0 t b with _ | q
  · skip
    refine ct_of h_IA_perform rfl rfl rfl ?_
    refine ev_g0 rfl ?_
    refine ev_inV 1 k_IA_9 h_SD_t rfl rfl rfl rfl rfl ⟨by decide, by decide⟩ rfl ?_
    refine ev_gT [] [none] rfl ?_
    refine ev_retn rfl ?_
    refine ev_gT [false] [] rfl ?_
    refine ev_inV 1 k_IA_17 h_SD_n rfl rfl rfl rfl rfl ⟨by decide, by decide⟩ rfl ?_
    refine ev_gT [] [] rfl ?_
    refine ev_retl rfl ?_
    refine ev_g0 rfl ?_
    refine ev_inS 5 k_IA_21 h_IA_getItem rfl rfl rfl rfl ⟨by decide, by decide⟩ rfl ?_
    refine ev_g0 rfl ?_
    refine ev_reti rfl ?_
    refine ev_g0 rfl ?_
    refine ev_reti rfl ?_
    refine ct_of h_MM_loads rfl rfl rfl ?_
    refine ev_g0 rfl ?_
    refine ev_inV 1 k_MM_344 h_MM_hold rfl rfl rfl rfl rfl ⟨by decide, by decide⟩ rfl ?_
    refine ev_gT [] [] rfl ?_
    refine ev_reti rfl ?_
    refine ev_g0 rfl ?_
    refine ev_inV 2 k_MM_354 h_MM_takes rfl rfl rfl rfl rfl ⟨by decide, by decide⟩ rfl ?_
    refine ev_gT [true] [] rfl ?_
    refine ev_retz rfl (by first | decide | exact zb_01 _) ?_
    refine ev_gT [false] [] rfl ?_
    refine ev_inV 1 k_MM_357 h_MM_is rfl rfl rfl rfl rfl ⟨by decide, by decide⟩ rfl ?_
    refine ev_gT [false, true] [] rfl ?_
    refine ev_retz rfl (by first | decide | exact zb_01 _) ?_
    refine ev_gT [true] [] rfl ?_
    refine ev_ret rfl ?_
    exact ⟨rfl, xj, xd, xf, xo, xi, xn, nI 1, rfl, bdd, lf_T, lf_T, hC, hM⟩
  · skip
    have hq := rc_ihol hC ht hb _ ho
    have zq := rc_isor hC hq
    have yq := rc_imad hC
    rcases ixc (xj 0 t c) (xn 1 q 0) with ⟨j, hj, hi⟩ | hi
    · skip
      refine ct_of h_IA_perform rfl rfl rfl ?_
      refine ev_g0 rfl ?_
      refine ev_inV 1 k_IA_9 h_SD_t rfl rfl rfl rfl rfl ⟨by decide, by decide⟩ rfl ?_
      refine ev_gT [] [some (94 + 4 * q)] rfl ?_
      refine ev_reta rfl ?_
      refine ev_gT [false] [] rfl ?_
      refine ev_inV 1 k_IA_17 h_SD_n rfl rfl rfl rfl rfl ⟨by decide, by decide⟩ rfl ?_
      refine ev_gT [] [] rfl ?_
      refine ev_retl rfl ?_
      refine ev_g0 rfl ?_
      refine ev_inS 5 k_IA_21 h_IA_getItem rfl rfl rfl rfl ⟨by decide, by decide⟩ rfl ?_
      refine ev_g0 rfl ?_
      refine ev_bT rfl rfl (fun h_1 => ?_) (fun h_1 => ?_)
      · skip
        refine ev_g0 rfl ?_
        refine ev_inV 1 k_IA_60 h_TH_hasItem rfl rfl rfl rfl rfl ⟨by decide, by decide⟩ rfl ?_
        refine ev_gT [false, false] [] rfl ?_
        refine ev_retz rfl (by first | decide | exact zb_01 _) ?_
        refine ev_gT [true, true, true] [] rfl ?_
        refine ev_inV 2 k_IA_80 h_SD_setN rfl rfl rfl rfl rfl ⟨by decide, by decide⟩ rfl ?_
        refine ev_gT [] [] rfl ?_
        refine ev_ret rfl ?_
        refine ev_g0 rfl ?_
        refine ev_reti rfl ?_
        refine ev_g0 rfl ?_
        refine ev_reti rfl ?_
        refine ct_of h_MM_loads rfl rfl rfl ?_
        refine ev_g0 rfl ?_
        refine ev_inV 1 k_MM_344 h_MM_hold rfl rfl rfl rfl rfl ⟨by decide, by decide⟩ rfl ?_
        refine ev_gT [] [] rfl ?_
        refine ev_reti rfl ?_
        refine ev_g0 rfl ?_
        refine ev_inV 2 k_MM_354 h_MM_takes rfl rfl rfl rfl rfl ⟨by decide, by decide⟩ rfl ?_
        refine ev_gT [false] [] rfl ?_
        refine ev_inV 2 k_MM_202 h_MM_isKind rfl rfl rfl rfl rfl ⟨by decide, by decide⟩ rfl ?_
        refine ev_gT [true, false] [] rfl ?_
        refine ev_retz rfl (by first | decide | exact zb_01 _) ?_
        refine ev_gT [true] [] rfl ?_
        refine ev_retz rfl (by first | decide | exact zb_01 _) ?_
        refine ev_gT [false] [] rfl ?_
        refine ev_inV 1 k_MM_357 h_MM_is rfl rfl rfl rfl rfl ⟨by decide, by decide⟩ rfl ?_
        refine ev_gT [true, false] [] rfl ?_
        refine ev_retz rfl (by first | decide | exact zb_01 _) ?_
        refine ev_gT [false] [] rfl ?_
        refine ev_inV 1 k_MM_277 h_MM_number rfl rfl rfl rfl rfl ⟨by decide, by decide⟩ rfl ?_
        refine ev_gT [] [] rfl ?_
        refine ev_retl rfl ?_
        refine ev_g0 rfl ?_
        refine ev_inV 2 k_MM_360 h_MM_holdsIndex rfl rfl rfl rfl rfl ⟨by decide, by decide⟩ rfl ?_
        refine ev_gT [] [] rfl ?_
        refine ev_inS 3 k_MM_188 h_MM_in rfl rfl rfl rfl ⟨by decide, by decide⟩ rfl ?_
        refine ev_gT [false, false] [] rfl ?_
        refine ev_retz rfl (by first | decide | exact zb_01 _) ?_
        refine ev_gT [true] [] rfl ?_
        refine ev_retz rfl (by first | decide | exact zb_01 _) ?_
        refine ev_gT [true] [] rfl ?_
        refine ev_inV 1 k_MM_277 h_MM_number rfl rfl rfl rfl rfl ⟨by decide, by decide⟩ rfl ?_
        refine ev_gT [] [] rfl ?_
        refine ev_retl rfl ?_
        refine ev_gT [true, true] [] rfl ?_
        refine ev_inV 2 k_MM_288 h_MM_lay rfl rfl rfl rfl rfl ⟨by decide, by decide⟩ rfl ?_
        refine ev_gT [] [] rfl ?_
        refine ev_ret rfl ?_
        refine ev_g0 rfl ?_
        refine ev_ret rfl ?_
        exact ⟨rfl, (u3 xj 0 t a (xj 1 q j)), xd, xf, xo, xi, xn, nI 0, rfl, bdd, lf_T, lf_T, (CU_num hC ht ha lf_T lf_T), (MU_num hM ht ha lf_T lf_T (fun i hi => (rc_isor hC hi).2.2.1))⟩
      · skip
        refine ev_g0 rfl ?_
        refine ev_reti rfl ?_
        refine ev_g0 rfl ?_
        refine ev_reti rfl ?_
        refine ct_of h_MM_loads rfl rfl rfl ?_
        refine ev_g0 rfl ?_
        refine ev_inV 1 k_MM_344 h_MM_hold rfl rfl rfl rfl rfl ⟨by decide, by decide⟩ rfl ?_
        refine ev_gT [] [] rfl ?_
        refine ev_reti rfl ?_
        refine ev_g0 rfl ?_
        refine ev_inV 2 k_MM_354 h_MM_takes rfl rfl rfl rfl rfl ⟨by decide, by decide⟩ rfl ?_
        refine ev_gT [false] [] rfl ?_
        refine ev_inV 2 k_MM_202 h_MM_isKind rfl rfl rfl rfl rfl ⟨by decide, by decide⟩ rfl ?_
        refine ev_gT [true, true] [] rfl ?_
        refine ev_retz rfl (by first | decide | exact zb_01 _) ?_
        refine ev_gT [false] [] rfl ?_
        refine ev_retz rfl (by first | decide | exact zb_01 _) ?_
        refine ev_gT [true] [] rfl ?_
        refine ev_ret rfl ?_
        exact ⟨rfl, xj, xd, xf, xo, xi, xn, nI 3, rfl, bdd, lf_T, lf_T, hC, hM⟩
    · skip
      refine ct_of h_IA_perform rfl rfl rfl ?_
      refine ev_g0 rfl ?_
      refine ev_inV 1 k_IA_9 h_SD_t rfl rfl rfl rfl rfl ⟨by decide, by decide⟩ rfl ?_
      refine ev_gT [] [some (94 + 4 * q)] rfl ?_
      refine ev_reta rfl ?_
      refine ev_gT [false] [] rfl ?_
      refine ev_inV 1 k_IA_17 h_SD_n rfl rfl rfl rfl rfl ⟨by decide, by decide⟩ rfl ?_
      refine ev_gT [] [] rfl ?_
      refine ev_retl rfl ?_
      refine ev_g0 rfl ?_
      refine ev_inS 5 k_IA_21 h_IA_getItem rfl rfl rfl rfl ⟨by decide, by decide⟩ rfl ?_
      refine ev_g0 rfl ?_
      refine ev_bT rfl rfl (fun h_2 => ?_) (fun h_2 => ?_)
      · skip
        refine ev_g0 rfl ?_
        refine ev_inV 1 k_IA_60 h_TH_hasItem rfl rfl rfl rfl rfl ⟨by decide, by decide⟩ rfl ?_
        refine ev_g0 rfl ?_
        refine ev_bT rfl rfl (fun h_3 => ?_) (fun h_3 => ?_)
        · skip
          refine ev_g0 rfl ?_
          refine ev_retz rfl (by first | decide | exact zb_01 _) ?_
          refine ev_gT [false] [] rfl ?_
          refine ev_reti rfl ?_
          refine ev_g0 rfl ?_
          refine ev_reti rfl ?_
          refine ct_of h_MM_loads rfl rfl rfl ?_
          refine ev_g0 rfl ?_
          refine ev_inV 1 k_MM_344 h_MM_hold rfl rfl rfl rfl rfl ⟨by decide, by decide⟩ rfl ?_
          refine ev_gT [] [] rfl ?_
          refine ev_reti rfl ?_
          refine ev_g0 rfl ?_
          refine ev_inV 2 k_MM_354 h_MM_takes rfl rfl rfl rfl rfl ⟨by decide, by decide⟩ rfl ?_
          refine ev_gT [false] [] rfl ?_
          refine ev_inV 2 k_MM_202 h_MM_isKind rfl rfl rfl rfl rfl ⟨by decide, by decide⟩ rfl ?_
          refine ev_gT [true, false] [] rfl ?_
          refine ev_retz rfl (by first | decide | exact zb_01 _) ?_
          refine ev_gT [true] [] rfl ?_
          refine ev_retz rfl (by first | decide | exact zb_01 _) ?_
          refine ev_gT [false] [] rfl ?_
          refine ev_inV 1 k_MM_357 h_MM_is rfl rfl rfl rfl rfl ⟨by decide, by decide⟩ rfl ?_
          refine ev_gT [true, false] [] rfl ?_
          refine ev_retz rfl (by first | decide | exact zb_01 _) ?_
          refine ev_gT [false] [] rfl ?_
          refine ev_inV 1 k_MM_277 h_MM_number rfl rfl rfl rfl rfl ⟨by decide, by decide⟩ rfl ?_
          refine ev_gT [] [] rfl ?_
          refine ev_retl rfl ?_
          refine ev_g0 rfl ?_
          refine ev_inV 2 k_MM_360 h_MM_holdsIndex rfl rfl rfl rfl rfl ⟨by decide, by decide⟩ rfl ?_
          refine ev_gT [] [] rfl ?_
          refine ev_inS 3 k_MM_188 h_MM_in rfl rfl rfl rfl ⟨by decide, by decide⟩ rfl ?_
          refine ev_gT [true] [] rfl ?_
          refine ev_retz rfl (by first | decide | exact zb_01 _) ?_
          refine ev_gT [false] [] rfl ?_
          refine ev_retz rfl (by first | decide | exact zb_01 _) ?_
          refine ev_gT [false] [] rfl ?_
          refine ev_ret rfl ?_
          exact ⟨rfl, xj, xd, xf, xo, xi, xn, nI 2, rfl, bdd, lf_T, lf_T, hC, hM⟩
        · skip
          refine ev_gT [true] [] rfl ?_
          refine ev_retz rfl (by first | decide | exact zb_01 _) ?_
          refine ev_gT [false] [] rfl ?_
          refine ev_reti rfl ?_
          refine ev_g0 rfl ?_
          refine ev_reti rfl ?_
          refine ct_of h_MM_loads rfl rfl rfl ?_
          refine ev_g0 rfl ?_
          refine ev_inV 1 k_MM_344 h_MM_hold rfl rfl rfl rfl rfl ⟨by decide, by decide⟩ rfl ?_
          refine ev_gT [] [] rfl ?_
          refine ev_reti rfl ?_
          refine ev_g0 rfl ?_
          refine ev_inV 2 k_MM_354 h_MM_takes rfl rfl rfl rfl rfl ⟨by decide, by decide⟩ rfl ?_
          refine ev_gT [false] [] rfl ?_
          refine ev_inV 2 k_MM_202 h_MM_isKind rfl rfl rfl rfl rfl ⟨by decide, by decide⟩ rfl ?_
          refine ev_gT [true, false] [] rfl ?_
          refine ev_retz rfl (by first | decide | exact zb_01 _) ?_
          refine ev_gT [true] [] rfl ?_
          refine ev_retz rfl (by first | decide | exact zb_01 _) ?_
          refine ev_gT [false] [] rfl ?_
          refine ev_inV 1 k_MM_357 h_MM_is rfl rfl rfl rfl rfl ⟨by decide, by decide⟩ rfl ?_
          refine ev_gT [true, false] [] rfl ?_
          refine ev_retz rfl (by first | decide | exact zb_01 _) ?_
          refine ev_gT [false] [] rfl ?_
          refine ev_inV 1 k_MM_277 h_MM_number rfl rfl rfl rfl rfl ⟨by decide, by decide⟩ rfl ?_
          refine ev_gT [] [] rfl ?_
          refine ev_retl rfl ?_
          refine ev_g0 rfl ?_
          refine ev_inV 2 k_MM_360 h_MM_holdsIndex rfl rfl rfl rfl rfl ⟨by decide, by decide⟩ rfl ?_
          refine ev_gT [] [] rfl ?_
          refine ev_inS 3 k_MM_188 h_MM_in rfl rfl rfl rfl ⟨by decide, by decide⟩ rfl ?_
          refine ev_gT [false, true] [] rfl ?_
          refine ev_retz rfl (by first | decide | exact zb_01 _) ?_
          refine ev_gT [false] [] rfl ?_
          refine ev_retz rfl (by first | decide | exact zb_01 _) ?_
          refine ev_gT [false] [] rfl ?_
          refine ev_ret rfl ?_
          exact ⟨rfl, xj, xd, xf, xo, xi, xn, nI 2, rfl, bdd, lf_T, lf_T, hC, hM⟩
      · skip
        refine ev_g0 rfl ?_
        refine ev_reti rfl ?_
        refine ev_g0 rfl ?_
        refine ev_reti rfl ?_
        refine ct_of h_MM_loads rfl rfl rfl ?_
        refine ev_g0 rfl ?_
        refine ev_inV 1 k_MM_344 h_MM_hold rfl rfl rfl rfl rfl ⟨by decide, by decide⟩ rfl ?_
        refine ev_gT [] [] rfl ?_
        refine ev_reti rfl ?_
        refine ev_g0 rfl ?_
        refine ev_inV 2 k_MM_354 h_MM_takes rfl rfl rfl rfl rfl ⟨by decide, by decide⟩ rfl ?_
        refine ev_gT [false] [] rfl ?_
        refine ev_inV 2 k_MM_202 h_MM_isKind rfl rfl rfl rfl rfl ⟨by decide, by decide⟩ rfl ?_
        refine ev_gT [true, true] [] rfl ?_
        refine ev_retz rfl (by first | decide | exact zb_01 _) ?_
        refine ev_gT [false] [] rfl ?_
        refine ev_retz rfl (by first | decide | exact zb_01 _) ?_
        refine ev_gT [true] [] rfl ?_
        refine ev_ret rfl ?_
        exact ⟨rfl, xj, xd, xf, xo, xi, xn, nI 3, rfl, bdd, lf_T, lf_T, hC, hM⟩
theorem A27 {ci : Nat → Nat → Nat → Int32} {cn : Nat → Nat → Nat → Nat} {co : Nat → Option Nat} {xj : Nat → Nat → Nat → Int64} {xd : Nat → Nat → Nat → UInt64} {xf : Nat → Nat → Nat → UInt32} {xo : Nat → Nat → Nat → Option Nat} {xi : Nat → Nat → Nat → Int32} {xn : Nat → Nat → Nat → Nat} {K : Nat → Nat} {I : Nat → Nat → Int32} {J : Nat → Nat → Int64} {F : Nat → Nat → UInt32} {D : Nat → Nat → UInt64} {R : Nat → Nat → Option Nat} {nx sl : Nat} {Km : Nat → Nat} {Im : Nat → Nat → Int32} {Jm : Nat → Nat → Int64} {Fm : Nat → Nat → UInt32} {Dm : Nat → Nat → UInt64} {Rm : Nat → Nat → Option Nat} {nxm slm : Nat} (hC : RC ci cn co xj xd xf xo xi xn I J F D R nx sl) (hM : RM ci cn co xj xd xf xo xi xn Im Jm Dm) {t a b c : Nat} {go : Int32} (ht : t < 3) (ha : a < 4) (hb : b < 8) (hc : c < 8) (x1 : Im 6 39 = nI t) (x2 : Im 6 40 = nI a) (x3 : Im 6 41 = nI b) (x4 : Im 6 42 = nI c) (x5 : Im 6 43 = nI 0) (x6 : Im 6 44 = go) : Ct Y_IA_perform [vr 8 (32 + 7 * t), vi (nI 27), vi (nI a), vi (nI b), vi (nI c)] (K, I, J, F, D, R, nx, sl) (fun r μ1 => Ct Y_MM_loads [vr 11 6, vi (nI 7)] (Km, Im, Jm, Fm, Dm, Rm, nxm, slm) (fun r2 μ2 => r2 = none ∧ QA ci cn co go r μ1 μ2)) := by
  rcases ho : xo 0 t b with _ | q
  · skip
    refine ct_of h_IA_perform rfl rfl rfl ?_
    refine ev_g0 rfl ?_
    refine ev_inV 1 k_IA_9 h_SD_t rfl rfl rfl rfl rfl ⟨by decide, by decide⟩ rfl ?_
    refine ev_gT [] [none] rfl ?_
    refine ev_retn rfl ?_
    refine ev_gT [false] [] rfl ?_
    refine ev_inV 1 k_IA_17 h_SD_n rfl rfl rfl rfl rfl ⟨by decide, by decide⟩ rfl ?_
    refine ev_gT [] [] rfl ?_
    refine ev_retl rfl ?_
    refine ev_g0 rfl ?_
    refine ev_inS 5 k_IA_21 h_IA_getItem rfl rfl rfl rfl ⟨by decide, by decide⟩ rfl ?_
    refine ev_g0 rfl ?_
    refine ev_reti rfl ?_
    refine ev_g0 rfl ?_
    refine ev_reti rfl ?_
    refine ct_of h_MM_loads rfl rfl rfl ?_
    refine ev_g0 rfl ?_
    refine ev_inV 1 k_MM_344 h_MM_hold rfl rfl rfl rfl rfl ⟨by decide, by decide⟩ rfl ?_
    refine ev_gT [] [] rfl ?_
    refine ev_reti rfl ?_
    refine ev_g0 rfl ?_
    refine ev_inV 2 k_MM_354 h_MM_takes rfl rfl rfl rfl rfl ⟨by decide, by decide⟩ rfl ?_
    refine ev_gT [true] [] rfl ?_
    refine ev_retz rfl (by first | decide | exact zb_01 _) ?_
    refine ev_gT [false] [] rfl ?_
    refine ev_inV 1 k_MM_357 h_MM_is rfl rfl rfl rfl rfl ⟨by decide, by decide⟩ rfl ?_
    refine ev_gT [false, true] [] rfl ?_
    refine ev_retz rfl (by first | decide | exact zb_01 _) ?_
    refine ev_gT [true] [] rfl ?_
    refine ev_ret rfl ?_
    exact ⟨rfl, xj, xd, xf, xo, xi, xn, nI 1, rfl, bdd, lf_T, lf_T, hC, hM⟩
  · skip
    have hq := rc_ihol hC ht hb _ ho
    have zq := rc_isor hC hq
    have yq := rc_imad hC
    rcases ixc (xj 0 t c) (xn 1 q 0) with ⟨j, hj, hi⟩ | hi
    · skip
      refine ct_of h_IA_perform rfl rfl rfl ?_
      refine ev_g0 rfl ?_
      refine ev_inV 1 k_IA_9 h_SD_t rfl rfl rfl rfl rfl ⟨by decide, by decide⟩ rfl ?_
      refine ev_gT [] [some (94 + 4 * q)] rfl ?_
      refine ev_reta rfl ?_
      refine ev_gT [false] [] rfl ?_
      refine ev_inV 1 k_IA_17 h_SD_n rfl rfl rfl rfl rfl ⟨by decide, by decide⟩ rfl ?_
      refine ev_gT [] [] rfl ?_
      refine ev_retl rfl ?_
      refine ev_g0 rfl ?_
      refine ev_inS 5 k_IA_21 h_IA_getItem rfl rfl rfl rfl ⟨by decide, by decide⟩ rfl ?_
      refine ev_g0 rfl ?_
      refine ev_bT rfl rfl (fun h_1 => ?_) (fun h_1 => ?_)
      · skip
        refine ev_g0 rfl ?_
        refine ev_inV 1 k_IA_60 h_TH_hasItem rfl rfl rfl rfl rfl ⟨by decide, by decide⟩ rfl ?_
        refine ev_gT [false, false] [] rfl ?_
        refine ev_retz rfl (by first | decide | exact zb_01 _) ?_
        refine ev_gT [true, true, false] [] rfl ?_
        refine ev_inV 2 k_IA_72 h_SD_setX rfl rfl rfl rfl rfl ⟨by decide, by decide⟩ rfl ?_
        refine ev_gT [] [] rfl ?_
        refine ev_ret rfl ?_
        refine ev_g0 rfl ?_
        refine ev_reti rfl ?_
        refine ev_g0 rfl ?_
        refine ev_reti rfl ?_
        refine ct_of h_MM_loads rfl rfl rfl ?_
        refine ev_g0 rfl ?_
        refine ev_inV 1 k_MM_344 h_MM_hold rfl rfl rfl rfl rfl ⟨by decide, by decide⟩ rfl ?_
        refine ev_gT [] [] rfl ?_
        refine ev_reti rfl ?_
        refine ev_g0 rfl ?_
        refine ev_inV 2 k_MM_354 h_MM_takes rfl rfl rfl rfl rfl ⟨by decide, by decide⟩ rfl ?_
        refine ev_gT [false] [] rfl ?_
        refine ev_inV 2 k_MM_202 h_MM_isKind rfl rfl rfl rfl rfl ⟨by decide, by decide⟩ rfl ?_
        refine ev_gT [true, false] [] rfl ?_
        refine ev_retz rfl (by first | decide | exact zb_01 _) ?_
        refine ev_gT [true] [] rfl ?_
        refine ev_retz rfl (by first | decide | exact zb_01 _) ?_
        refine ev_gT [false] [] rfl ?_
        refine ev_inV 1 k_MM_357 h_MM_is rfl rfl rfl rfl rfl ⟨by decide, by decide⟩ rfl ?_
        refine ev_gT [true, false] [] rfl ?_
        refine ev_retz rfl (by first | decide | exact zb_01 _) ?_
        refine ev_gT [false] [] rfl ?_
        refine ev_inV 1 k_MM_277 h_MM_number rfl rfl rfl rfl rfl ⟨by decide, by decide⟩ rfl ?_
        refine ev_gT [] [] rfl ?_
        refine ev_retl rfl ?_
        refine ev_g0 rfl ?_
        refine ev_inV 2 k_MM_360 h_MM_holdsIndex rfl rfl rfl rfl rfl ⟨by decide, by decide⟩ rfl ?_
        refine ev_gT [] [] rfl ?_
        refine ev_inS 3 k_MM_188 h_MM_in rfl rfl rfl rfl ⟨by decide, by decide⟩ rfl ?_
        refine ev_gT [false, false] [] rfl ?_
        refine ev_retz rfl (by first | decide | exact zb_01 _) ?_
        refine ev_gT [true] [] rfl ?_
        refine ev_retz rfl (by first | decide | exact zb_01 _) ?_
        refine ev_gT [true] [] rfl ?_
        refine ev_inV 1 k_MM_277 h_MM_number rfl rfl rfl rfl rfl ⟨by decide, by decide⟩ rfl ?_
        refine ev_gT [] [] rfl ?_
        refine ev_retl rfl ?_
        refine ev_gT [true, false] [] rfl ?_
        refine ev_inV 2 k_MM_281 h_MM_twin2 rfl rfl rfl rfl rfl ⟨by decide, by decide⟩ rfl ?_
        refine ev_gT [] [] rfl ?_
        refine ev_ret rfl ?_
        refine ev_g0 rfl ?_
        refine ev_ret rfl ?_
        exact ⟨rfl, xj, (u3 xd 0 t a (xd 1 q j)), xf, xo, xi, xn, nI 0, rfl, bdd, lf_T, lf_T, (CU_dbl hC ht ha (rc_irea hC hq hj (by omega) (by omega)) lf_T lf_T), (MU_dbl hM ht ha lf_T lf_T (fun i hi => (rc_isor hC hi).2.2.1))⟩
      · skip
        refine ev_g0 rfl ?_
        refine ev_reti rfl ?_
        refine ev_g0 rfl ?_
        refine ev_reti rfl ?_
        refine ct_of h_MM_loads rfl rfl rfl ?_
        refine ev_g0 rfl ?_
        refine ev_inV 1 k_MM_344 h_MM_hold rfl rfl rfl rfl rfl ⟨by decide, by decide⟩ rfl ?_
        refine ev_gT [] [] rfl ?_
        refine ev_reti rfl ?_
        refine ev_g0 rfl ?_
        refine ev_inV 2 k_MM_354 h_MM_takes rfl rfl rfl rfl rfl ⟨by decide, by decide⟩ rfl ?_
        refine ev_gT [false] [] rfl ?_
        refine ev_inV 2 k_MM_202 h_MM_isKind rfl rfl rfl rfl rfl ⟨by decide, by decide⟩ rfl ?_
        refine ev_gT [true, true] [] rfl ?_
        refine ev_retz rfl (by first | decide | exact zb_01 _) ?_
        refine ev_gT [false] [] rfl ?_
        refine ev_retz rfl (by first | decide | exact zb_01 _) ?_
        refine ev_gT [true] [] rfl ?_
        refine ev_ret rfl ?_
        exact ⟨rfl, xj, xd, xf, xo, xi, xn, nI 3, rfl, bdd, lf_T, lf_T, hC, hM⟩
    · skip
      refine ct_of h_IA_perform rfl rfl rfl ?_
      refine ev_g0 rfl ?_
      refine ev_inV 1 k_IA_9 h_SD_t rfl rfl rfl rfl rfl ⟨by decide, by decide⟩ rfl ?_
      refine ev_gT [] [some (94 + 4 * q)] rfl ?_
      refine ev_reta rfl ?_
      refine ev_gT [false] [] rfl ?_
      refine ev_inV 1 k_IA_17 h_SD_n rfl rfl rfl rfl rfl ⟨by decide, by decide⟩ rfl ?_
      refine ev_gT [] [] rfl ?_
      refine ev_retl rfl ?_
      refine ev_g0 rfl ?_
      refine ev_inS 5 k_IA_21 h_IA_getItem rfl rfl rfl rfl ⟨by decide, by decide⟩ rfl ?_
      refine ev_g0 rfl ?_
      refine ev_bT rfl rfl (fun h_2 => ?_) (fun h_2 => ?_)
      · skip
        refine ev_g0 rfl ?_
        refine ev_inV 1 k_IA_60 h_TH_hasItem rfl rfl rfl rfl rfl ⟨by decide, by decide⟩ rfl ?_
        refine ev_g0 rfl ?_
        refine ev_bT rfl rfl (fun h_3 => ?_) (fun h_3 => ?_)
        · skip
          refine ev_g0 rfl ?_
          refine ev_retz rfl (by first | decide | exact zb_01 _) ?_
          refine ev_gT [false] [] rfl ?_
          refine ev_reti rfl ?_
          refine ev_g0 rfl ?_
          refine ev_reti rfl ?_
          refine ct_of h_MM_loads rfl rfl rfl ?_
          refine ev_g0 rfl ?_
          refine ev_inV 1 k_MM_344 h_MM_hold rfl rfl rfl rfl rfl ⟨by decide, by decide⟩ rfl ?_
          refine ev_gT [] [] rfl ?_
          refine ev_reti rfl ?_
          refine ev_g0 rfl ?_
          refine ev_inV 2 k_MM_354 h_MM_takes rfl rfl rfl rfl rfl ⟨by decide, by decide⟩ rfl ?_
          refine ev_gT [false] [] rfl ?_
          refine ev_inV 2 k_MM_202 h_MM_isKind rfl rfl rfl rfl rfl ⟨by decide, by decide⟩ rfl ?_
          refine ev_gT [true, false] [] rfl ?_
          refine ev_retz rfl (by first | decide | exact zb_01 _) ?_
          refine ev_gT [true] [] rfl ?_
          refine ev_retz rfl (by first | decide | exact zb_01 _) ?_
          refine ev_gT [false] [] rfl ?_
          refine ev_inV 1 k_MM_357 h_MM_is rfl rfl rfl rfl rfl ⟨by decide, by decide⟩ rfl ?_
          refine ev_gT [true, false] [] rfl ?_
          refine ev_retz rfl (by first | decide | exact zb_01 _) ?_
          refine ev_gT [false] [] rfl ?_
          refine ev_inV 1 k_MM_277 h_MM_number rfl rfl rfl rfl rfl ⟨by decide, by decide⟩ rfl ?_
          refine ev_gT [] [] rfl ?_
          refine ev_retl rfl ?_
          refine ev_g0 rfl ?_
          refine ev_inV 2 k_MM_360 h_MM_holdsIndex rfl rfl rfl rfl rfl ⟨by decide, by decide⟩ rfl ?_
          refine ev_gT [] [] rfl ?_
          refine ev_inS 3 k_MM_188 h_MM_in rfl rfl rfl rfl ⟨by decide, by decide⟩ rfl ?_
          refine ev_gT [true] [] rfl ?_
          refine ev_retz rfl (by first | decide | exact zb_01 _) ?_
          refine ev_gT [false] [] rfl ?_
          refine ev_retz rfl (by first | decide | exact zb_01 _) ?_
          refine ev_gT [false] [] rfl ?_
          refine ev_ret rfl ?_
          exact ⟨rfl, xj, xd, xf, xo, xi, xn, nI 2, rfl, bdd, lf_T, lf_T, hC, hM⟩
        · skip
          refine ev_gT [true] [] rfl ?_
          refine ev_retz rfl (by first | decide | exact zb_01 _) ?_
          refine ev_gT [false] [] rfl ?_
          refine ev_reti rfl ?_
          refine ev_g0 rfl ?_
          refine ev_reti rfl ?_
          refine ct_of h_MM_loads rfl rfl rfl ?_
          refine ev_g0 rfl ?_
          refine ev_inV 1 k_MM_344 h_MM_hold rfl rfl rfl rfl rfl ⟨by decide, by decide⟩ rfl ?_
          refine ev_gT [] [] rfl ?_
          refine ev_reti rfl ?_
          refine ev_g0 rfl ?_
          refine ev_inV 2 k_MM_354 h_MM_takes rfl rfl rfl rfl rfl ⟨by decide, by decide⟩ rfl ?_
          refine ev_gT [false] [] rfl ?_
          refine ev_inV 2 k_MM_202 h_MM_isKind rfl rfl rfl rfl rfl ⟨by decide, by decide⟩ rfl ?_
          refine ev_gT [true, false] [] rfl ?_
          refine ev_retz rfl (by first | decide | exact zb_01 _) ?_
          refine ev_gT [true] [] rfl ?_
          refine ev_retz rfl (by first | decide | exact zb_01 _) ?_
          refine ev_gT [false] [] rfl ?_
          refine ev_inV 1 k_MM_357 h_MM_is rfl rfl rfl rfl rfl ⟨by decide, by decide⟩ rfl ?_
          refine ev_gT [true, false] [] rfl ?_
          refine ev_retz rfl (by first | decide | exact zb_01 _) ?_
          refine ev_gT [false] [] rfl ?_
          refine ev_inV 1 k_MM_277 h_MM_number rfl rfl rfl rfl rfl ⟨by decide, by decide⟩ rfl ?_
          refine ev_gT [] [] rfl ?_
          refine ev_retl rfl ?_
          refine ev_g0 rfl ?_
          refine ev_inV 2 k_MM_360 h_MM_holdsIndex rfl rfl rfl rfl rfl ⟨by decide, by decide⟩ rfl ?_
          refine ev_gT [] [] rfl ?_
          refine ev_inS 3 k_MM_188 h_MM_in rfl rfl rfl rfl ⟨by decide, by decide⟩ rfl ?_
          refine ev_gT [false, true] [] rfl ?_
          refine ev_retz rfl (by first | decide | exact zb_01 _) ?_
          refine ev_gT [false] [] rfl ?_
          refine ev_retz rfl (by first | decide | exact zb_01 _) ?_
          refine ev_gT [false] [] rfl ?_
          refine ev_ret rfl ?_
          exact ⟨rfl, xj, xd, xf, xo, xi, xn, nI 2, rfl, bdd, lf_T, lf_T, hC, hM⟩
      · skip
        refine ev_g0 rfl ?_
        refine ev_reti rfl ?_
        refine ev_g0 rfl ?_
        refine ev_reti rfl ?_
        refine ct_of h_MM_loads rfl rfl rfl ?_
        refine ev_g0 rfl ?_
        refine ev_inV 1 k_MM_344 h_MM_hold rfl rfl rfl rfl rfl ⟨by decide, by decide⟩ rfl ?_
        refine ev_gT [] [] rfl ?_
        refine ev_reti rfl ?_
        refine ev_g0 rfl ?_
        refine ev_inV 2 k_MM_354 h_MM_takes rfl rfl rfl rfl rfl ⟨by decide, by decide⟩ rfl ?_
        refine ev_gT [false] [] rfl ?_
        refine ev_inV 2 k_MM_202 h_MM_isKind rfl rfl rfl rfl rfl ⟨by decide, by decide⟩ rfl ?_
        refine ev_gT [true, true] [] rfl ?_
        refine ev_retz rfl (by first | decide | exact zb_01 _) ?_
        refine ev_gT [false] [] rfl ?_
        refine ev_retz rfl (by first | decide | exact zb_01 _) ?_
        refine ev_gT [true] [] rfl ?_
        refine ev_ret rfl ?_
        exact ⟨rfl, xj, xd, xf, xo, xi, xn, nI 3, rfl, bdd, lf_T, lf_T, hC, hM⟩
theorem A28 {ci : Nat → Nat → Nat → Int32} {cn : Nat → Nat → Nat → Nat} {co : Nat → Option Nat} {xj : Nat → Nat → Nat → Int64} {xd : Nat → Nat → Nat → UInt64} {xf : Nat → Nat → Nat → UInt32} {xo : Nat → Nat → Nat → Option Nat} {xi : Nat → Nat → Nat → Int32} {xn : Nat → Nat → Nat → Nat} {K : Nat → Nat} {I : Nat → Nat → Int32} {J : Nat → Nat → Int64} {F : Nat → Nat → UInt32} {D : Nat → Nat → UInt64} {R : Nat → Nat → Option Nat} {nx sl : Nat} {Km : Nat → Nat} {Im : Nat → Nat → Int32} {Jm : Nat → Nat → Int64} {Fm : Nat → Nat → UInt32} {Dm : Nat → Nat → UInt64} {Rm : Nat → Nat → Option Nat} {nxm slm : Nat} (hC : RC ci cn co xj xd xf xo xi xn I J F D R nx sl) (hM : RM ci cn co xj xd xf xo xi xn Im Jm Dm) {t a b c : Nat} {go : Int32} (ht : t < 3) (ha : a < 8) (hb : b < 8) (hc : c < 8) (x1 : Im 6 39 = nI t) (x2 : Im 6 40 = nI a) (x3 : Im 6 41 = nI b) (x4 : Im 6 42 = nI c) (x5 : Im 6 43 = nI 0) (x6 : Im 6 44 = go) : Ct Y_IA_perform [vr 8 (32 + 7 * t), vi (nI 28), vi (nI a), vi (nI b), vi (nI c)] (K, I, J, F, D, R, nx, sl) (fun r μ1 => Ct Y_MM_stores [vr 11 6, vi (nI 0)] (Km, Im, Jm, Fm, Dm, Rm, nxm, slm) (fun r2 μ2 => r2 = none ∧ QA ci cn co go r μ1 μ2)) := by
  rcases ho : xo 0 t b with _ | q
  · skip
    refine ct_of h_IA_perform rfl rfl rfl ?_
    refine ev_g0 rfl ?_
    refine ev_inV 1 k_IA_9 h_SD_t rfl rfl rfl rfl rfl ⟨by decide, by decide⟩ rfl ?_
    refine ev_gT [] [none] rfl ?_
    refine ev_retn rfl ?_
    refine ev_gT [true, false] [] rfl ?_
    refine ev_inV 1 k_IA_17 h_SD_n rfl rfl rfl rfl rfl ⟨by decide, by decide⟩ rfl ?_
    refine ev_gT [] [] rfl ?_
    refine ev_retl rfl ?_
    refine ev_g0 rfl ?_
    refine ev_inS 5 k_IA_25 h_IA_setItem rfl rfl rfl rfl ⟨by decide, by decide⟩ rfl ?_
    refine ev_g0 rfl ?_
    refine ev_reti rfl ?_
    refine ev_g0 rfl ?_
    refine ev_reti rfl ?_
    refine ct_of h_MM_stores rfl rfl rfl ?_
    refine ev_g0 rfl ?_
    refine ev_inV 1 k_MM_344 h_MM_hold rfl rfl rfl rfl rfl ⟨by decide, by decide⟩ rfl ?_
    refine ev_gT [] [] rfl ?_
    refine ev_reti rfl ?_
    refine ev_g0 rfl ?_
    refine ev_inV 2 k_MM_354 h_MM_takes rfl rfl rfl rfl rfl ⟨by decide, by decide⟩ rfl ?_
    refine ev_gT [true] [] rfl ?_
    refine ev_retz rfl (by first | decide | exact zb_01 _) ?_
    refine ev_gT [false] [] rfl ?_
    refine ev_inV 1 k_MM_357 h_MM_is rfl rfl rfl rfl rfl ⟨by decide, by decide⟩ rfl ?_
    refine ev_gT [false, true] [] rfl ?_
    refine ev_retz rfl (by first | decide | exact zb_01 _) ?_
    refine ev_gT [true] [] rfl ?_
    refine ev_ret rfl ?_
    exact ⟨rfl, xj, xd, xf, xo, xi, xn, nI 1, rfl, bdd, lf_T, lf_T, hC, hM⟩
  · skip
    have hq := rc_ihol hC ht hb _ ho
    have zq := rc_isor hC hq
    have yq := rc_imad hC
    rcases ixc (xj 0 t c) (xn 1 q 0) with ⟨j, hj, hi⟩ | hi
    · skip
      refine ct_of h_IA_perform rfl rfl rfl ?_
      refine ev_g0 rfl ?_
      refine ev_inV 1 k_IA_9 h_SD_t rfl rfl rfl rfl rfl ⟨by decide, by decide⟩ rfl ?_
      refine ev_gT [] [some (94 + 4 * q)] rfl ?_
      refine ev_reta rfl ?_
      refine ev_gT [true, false] [] rfl ?_
      refine ev_inV 1 k_IA_17 h_SD_n rfl rfl rfl rfl rfl ⟨by decide, by decide⟩ rfl ?_
      refine ev_gT [] [] rfl ?_
      refine ev_retl rfl ?_
      refine ev_g0 rfl ?_
      refine ev_inS 5 k_IA_25 h_IA_setItem rfl rfl rfl rfl ⟨by decide, by decide⟩ rfl ?_
      refine ev_g0 rfl ?_
      refine ev_bT rfl rfl (fun h_1 => ?_) (fun h_1 => ?_)
      · skip
        refine ev_g0 rfl ?_
        refine ev_inV 1 k_IA_60 h_TH_hasItem rfl rfl rfl rfl rfl ⟨by decide, by decide⟩ rfl ?_
        refine ev_gT [false, false] [] rfl ?_
        refine ev_retz rfl (by first | decide | exact zb_01 _) ?_
        refine ev_gT [true, true, true] [] rfl ?_
        refine ev_inV 1 k_IA_17 h_SD_n rfl rfl rfl rfl rfl ⟨by decide, by decide⟩ rfl ?_
        refine ev_gT [] [] rfl ?_
        refine ev_retl rfl ?_
        refine ev_g0 rfl ?_
        refine ev_inS 2 k_IA_92 h_IA_narrowed rfl rfl rfl rfl ⟨by decide, by decide⟩ rfl ?_
        refine ev_gT [] [some 0] rfl ?_
        refine ev_bT rfl rfl (fun h_2 => ?_) (fun h_2 => ?_)
        · skip
          refine ev_g0 rfl ?_
          refine ev_retl rfl ?_
          refine ev_gT [] [] rfl ?_
          refine ev_reti rfl ?_
          refine ev_g0 rfl ?_
          refine ev_reti rfl ?_
          refine ct_of h_MM_stores rfl rfl rfl ?_
          refine ev_g0 rfl ?_
          refine ev_inV 1 k_MM_344 h_MM_hold rfl rfl rfl rfl rfl ⟨by decide, by decide⟩ rfl ?_
          refine ev_gT [] [] rfl ?_
          refine ev_reti rfl ?_
          refine ev_g0 rfl ?_
          refine ev_inV 2 k_MM_354 h_MM_takes rfl rfl rfl rfl rfl ⟨by decide, by decide⟩ rfl ?_
          refine ev_gT [false] [] rfl ?_
          refine ev_inV 2 k_MM_202 h_MM_isKind rfl rfl rfl rfl rfl ⟨by decide, by decide⟩ rfl ?_
          refine ev_gT [true, false] [] rfl ?_
          refine ev_retz rfl (by first | decide | exact zb_01 _) ?_
          refine ev_gT [true] [] rfl ?_
          refine ev_retz rfl (by first | decide | exact zb_01 _) ?_
          refine ev_gT [false] [] rfl ?_
          refine ev_inV 1 k_MM_357 h_MM_is rfl rfl rfl rfl rfl ⟨by decide, by decide⟩ rfl ?_
          refine ev_gT [true, false] [] rfl ?_
          refine ev_retz rfl (by first | decide | exact zb_01 _) ?_
          refine ev_gT [false] [] rfl ?_
          refine ev_inV 1 k_MM_277 h_MM_number rfl rfl rfl rfl rfl ⟨by decide, by decide⟩ rfl ?_
          refine ev_gT [] [] rfl ?_
          refine ev_retl rfl ?_
          refine ev_g0 rfl ?_
          refine ev_inV 2 k_MM_360 h_MM_holdsIndex rfl rfl rfl rfl rfl ⟨by decide, by decide⟩ rfl ?_
          refine ev_gT [] [] rfl ?_
          refine ev_inS 3 k_MM_188 h_MM_in rfl rfl rfl rfl ⟨by decide, by decide⟩ rfl ?_
          refine ev_gT [false, false] [] rfl ?_
          refine ev_retz rfl (by first | decide | exact zb_01 _) ?_
          refine ev_gT [true] [] rfl ?_
          refine ev_retz rfl (by first | decide | exact zb_01 _) ?_
          refine ev_gT [true] [] rfl ?_
          refine ev_inV 1 k_MM_277 h_MM_number rfl rfl rfl rfl rfl ⟨by decide, by decide⟩ rfl ?_
          refine ev_gT [] [] rfl ?_
          refine ev_retl rfl ?_
          refine ev_gT [true, true] [] rfl ?_
          refine ev_inV 1 k_MM_277 h_MM_number rfl rfl rfl rfl rfl ⟨by decide, by decide⟩ rfl ?_
          refine ev_gT [] [] rfl ?_
          refine ev_retl rfl ?_
          refine ev_g0 rfl ?_
          refine ev_inS 2 k_MM_364 h_MM_lowest rfl rfl rfl rfl ⟨by decide, by decide⟩ rfl ?_
          refine ev_gT [false, true] [] rfl ?_
          refine ev_retl rfl ?_
          refine ev_gT [] [] rfl ?_
          refine ev_ret rfl ?_
          exact ⟨rfl, (u3 xj 1 q j ((nI 0).toInt64)), xd, xf, xo, xi, xn, nI 0, rfl, bdd, lf_T, lf_T, (CU_who hC hq hj (by omega) lf_T lf_T), (MU_who hM hq hj (by omega) lf_T lf_T (fun i hi => (rc_isor hC hi).2.2.1))⟩
        · skip
          refine ev_g0 rfl ?_
          refine ev_retl rfl ?_
          refine ev_gT [] [] rfl ?_
          refine ev_reti rfl ?_
          refine ev_g0 rfl ?_
          refine ev_reti rfl ?_
          refine ct_of h_MM_stores rfl rfl rfl ?_
          refine ev_g0 rfl ?_
          refine ev_inV 1 k_MM_344 h_MM_hold rfl rfl rfl rfl rfl ⟨by decide, by decide⟩ rfl ?_
          refine ev_gT [] [] rfl ?_
          refine ev_reti rfl ?_
          refine ev_g0 rfl ?_
          refine ev_inV 2 k_MM_354 h_MM_takes rfl rfl rfl rfl rfl ⟨by decide, by decide⟩ rfl ?_
          refine ev_gT [false] [] rfl ?_
          refine ev_inV 2 k_MM_202 h_MM_isKind rfl rfl rfl rfl rfl ⟨by decide, by decide⟩ rfl ?_
          refine ev_gT [true, false] [] rfl ?_
          refine ev_retz rfl (by first | decide | exact zb_01 _) ?_
          refine ev_gT [true] [] rfl ?_
          refine ev_retz rfl (by first | decide | exact zb_01 _) ?_
          refine ev_gT [false] [] rfl ?_
          refine ev_inV 1 k_MM_357 h_MM_is rfl rfl rfl rfl rfl ⟨by decide, by decide⟩ rfl ?_
          refine ev_gT [true, false] [] rfl ?_
          refine ev_retz rfl (by first | decide | exact zb_01 _) ?_
          refine ev_gT [false] [] rfl ?_
          refine ev_inV 1 k_MM_277 h_MM_number rfl rfl rfl rfl rfl ⟨by decide, by decide⟩ rfl ?_
          refine ev_gT [] [] rfl ?_
          refine ev_retl rfl ?_
          refine ev_g0 rfl ?_
          refine ev_inV 2 k_MM_360 h_MM_holdsIndex rfl rfl rfl rfl rfl ⟨by decide, by decide⟩ rfl ?_
          refine ev_gT [] [] rfl ?_
          refine ev_inS 3 k_MM_188 h_MM_in rfl rfl rfl rfl ⟨by decide, by decide⟩ rfl ?_
          refine ev_gT [false, false] [] rfl ?_
          refine ev_retz rfl (by first | decide | exact zb_01 _) ?_
          refine ev_gT [true] [] rfl ?_
          refine ev_retz rfl (by first | decide | exact zb_01 _) ?_
          refine ev_gT [true] [] rfl ?_
          refine ev_inV 1 k_MM_277 h_MM_number rfl rfl rfl rfl rfl ⟨by decide, by decide⟩ rfl ?_
          refine ev_gT [] [] rfl ?_
          refine ev_retl rfl ?_
          refine ev_gT [true, true] [] rfl ?_
          refine ev_inV 1 k_MM_277 h_MM_number rfl rfl rfl rfl rfl ⟨by decide, by decide⟩ rfl ?_
          refine ev_gT [] [] rfl ?_
          refine ev_retl rfl ?_
          refine ev_g0 rfl ?_
          refine ev_inS 2 k_MM_364 h_MM_lowest rfl rfl rfl rfl ⟨by decide, by decide⟩ rfl ?_
          refine ev_gT [false, false] [] rfl ?_
          refine ev_retl rfl ?_
          refine ev_gT [] [] rfl ?_
          refine ev_ret rfl ?_
          exact ⟨rfl, (u3 xj 1 q j ((nI 1).toInt64)), xd, xf, xo, xi, xn, nI 0, rfl, bdd, lf_T, lf_T, (CU_who hC hq hj (by omega) lf_T lf_T), (MU_who hM hq hj (by omega) lf_T lf_T (fun i hi => (rc_isor hC hi).2.2.1))⟩
      · skip
        refine ev_g0 rfl ?_
        refine ev_reti rfl ?_
        refine ev_g0 rfl ?_
        refine ev_reti rfl ?_
        refine ct_of h_MM_stores rfl rfl rfl ?_
        refine ev_g0 rfl ?_
        refine ev_inV 1 k_MM_344 h_MM_hold rfl rfl rfl rfl rfl ⟨by decide, by decide⟩ rfl ?_
        refine ev_gT [] [] rfl ?_
        refine ev_reti rfl ?_
        refine ev_g0 rfl ?_
        refine ev_inV 2 k_MM_354 h_MM_takes rfl rfl rfl rfl rfl ⟨by decide, by decide⟩ rfl ?_
        refine ev_gT [false] [] rfl ?_
        refine ev_inV 2 k_MM_202 h_MM_isKind rfl rfl rfl rfl rfl ⟨by decide, by decide⟩ rfl ?_
        refine ev_gT [true, true] [] rfl ?_
        refine ev_retz rfl (by first | decide | exact zb_01 _) ?_
        refine ev_gT [false] [] rfl ?_
        refine ev_retz rfl (by first | decide | exact zb_01 _) ?_
        refine ev_gT [true] [] rfl ?_
        refine ev_ret rfl ?_
        exact ⟨rfl, xj, xd, xf, xo, xi, xn, nI 3, rfl, bdd, lf_T, lf_T, hC, hM⟩
    · skip
      refine ct_of h_IA_perform rfl rfl rfl ?_
      refine ev_g0 rfl ?_
      refine ev_inV 1 k_IA_9 h_SD_t rfl rfl rfl rfl rfl ⟨by decide, by decide⟩ rfl ?_
      refine ev_gT [] [some (94 + 4 * q)] rfl ?_
      refine ev_reta rfl ?_
      refine ev_gT [true, false] [] rfl ?_
      refine ev_inV 1 k_IA_17 h_SD_n rfl rfl rfl rfl rfl ⟨by decide, by decide⟩ rfl ?_
      refine ev_gT [] [] rfl ?_
      refine ev_retl rfl ?_
      refine ev_g0 rfl ?_
      refine ev_inS 5 k_IA_25 h_IA_setItem rfl rfl rfl rfl ⟨by decide, by decide⟩ rfl ?_
      refine ev_g0 rfl ?_
      refine ev_bT rfl rfl (fun h_3 => ?_) (fun h_3 => ?_)
      · skip
        refine ev_g0 rfl ?_
        refine ev_inV 1 k_IA_60 h_TH_hasItem rfl rfl rfl rfl rfl ⟨by decide, by decide⟩ rfl ?_
        refine ev_g0 rfl ?_
        refine ev_bT rfl rfl (fun h_4 => ?_) (fun h_4 => ?_)
        · skip
          refine ev_g0 rfl ?_
          refine ev_retz rfl (by first | decide | exact zb_01 _) ?_
          refine ev_gT [false] [] rfl ?_
          refine ev_reti rfl ?_
          refine ev_g0 rfl ?_
          refine ev_reti rfl ?_
          refine ct_of h_MM_stores rfl rfl rfl ?_
          refine ev_g0 rfl ?_
          refine ev_inV 1 k_MM_344 h_MM_hold rfl rfl rfl rfl rfl ⟨by decide, by decide⟩ rfl ?_
          refine ev_gT [] [] rfl ?_
          refine ev_reti rfl ?_
          refine ev_g0 rfl ?_
          refine ev_inV 2 k_MM_354 h_MM_takes rfl rfl rfl rfl rfl ⟨by decide, by decide⟩ rfl ?_
          refine ev_gT [false] [] rfl ?_
          refine ev_inV 2 k_MM_202 h_MM_isKind rfl rfl rfl rfl rfl ⟨by decide, by decide⟩ rfl ?_
          refine ev_gT [true, false] [] rfl ?_
          refine ev_retz rfl (by first | decide | exact zb_01 _) ?_
          refine ev_gT [true] [] rfl ?_
          refine ev_retz rfl (by first | decide | exact zb_01 _) ?_
          refine ev_gT [false] [] rfl ?_
          refine ev_inV 1 k_MM_357 h_MM_is rfl rfl rfl rfl rfl ⟨by decide, by decide⟩ rfl ?_
          refine ev_gT [true, false] [] rfl ?_
          refine ev_retz rfl (by first | decide | exact zb_01 _) ?_
          refine ev_gT [false] [] rfl ?_
          refine ev_inV 1 k_MM_277 h_MM_number rfl rfl rfl rfl rfl ⟨by decide, by decide⟩ rfl ?_
          refine ev_gT [] [] rfl ?_
          refine ev_retl rfl ?_
          refine ev_g0 rfl ?_
          refine ev_inV 2 k_MM_360 h_MM_holdsIndex rfl rfl rfl rfl rfl ⟨by decide, by decide⟩ rfl ?_
          refine ev_gT [] [] rfl ?_
          refine ev_inS 3 k_MM_188 h_MM_in rfl rfl rfl rfl ⟨by decide, by decide⟩ rfl ?_
          refine ev_gT [true] [] rfl ?_
          refine ev_retz rfl (by first | decide | exact zb_01 _) ?_
          refine ev_gT [false] [] rfl ?_
          refine ev_retz rfl (by first | decide | exact zb_01 _) ?_
          refine ev_gT [false] [] rfl ?_
          refine ev_ret rfl ?_
          exact ⟨rfl, xj, xd, xf, xo, xi, xn, nI 2, rfl, bdd, lf_T, lf_T, hC, hM⟩
        · skip
          refine ev_gT [true] [] rfl ?_
          refine ev_retz rfl (by first | decide | exact zb_01 _) ?_
          refine ev_gT [false] [] rfl ?_
          refine ev_reti rfl ?_
          refine ev_g0 rfl ?_
          refine ev_reti rfl ?_
          refine ct_of h_MM_stores rfl rfl rfl ?_
          refine ev_g0 rfl ?_
          refine ev_inV 1 k_MM_344 h_MM_hold rfl rfl rfl rfl rfl ⟨by decide, by decide⟩ rfl ?_
          refine ev_gT [] [] rfl ?_
          refine ev_reti rfl ?_
          refine ev_g0 rfl ?_
          refine ev_inV 2 k_MM_354 h_MM_takes rfl rfl rfl rfl rfl ⟨by decide, by decide⟩ rfl ?_
          refine ev_gT [false] [] rfl ?_
          refine ev_inV 2 k_MM_202 h_MM_isKind rfl rfl rfl rfl rfl ⟨by decide, by decide⟩ rfl ?_
          refine ev_gT [true, false] [] rfl ?_
          refine ev_retz rfl (by first | decide | exact zb_01 _) ?_
          refine ev_gT [true] [] rfl ?_
          refine ev_retz rfl (by first | decide | exact zb_01 _) ?_
          refine ev_gT [false] [] rfl ?_
          refine ev_inV 1 k_MM_357 h_MM_is rfl rfl rfl rfl rfl ⟨by decide, by decide⟩ rfl ?_
          refine ev_gT [true, false] [] rfl ?_
          refine ev_retz rfl (by first | decide | exact zb_01 _) ?_
          refine ev_gT [false] [] rfl ?_
          refine ev_inV 1 k_MM_277 h_MM_number rfl rfl rfl rfl rfl ⟨by decide, by decide⟩ rfl ?_
          refine ev_gT [] [] rfl ?_
          refine ev_retl rfl ?_
          refine ev_g0 rfl ?_
          refine ev_inV 2 k_MM_360 h_MM_holdsIndex rfl rfl rfl rfl rfl ⟨by decide, by decide⟩ rfl ?_
          refine ev_gT [] [] rfl ?_
          refine ev_inS 3 k_MM_188 h_MM_in rfl rfl rfl rfl ⟨by decide, by decide⟩ rfl ?_
          refine ev_gT [false, true] [] rfl ?_
          refine ev_retz rfl (by first | decide | exact zb_01 _) ?_
          refine ev_gT [false] [] rfl ?_
          refine ev_retz rfl (by first | decide | exact zb_01 _) ?_
          refine ev_gT [false] [] rfl ?_
          refine ev_ret rfl ?_
          exact ⟨rfl, xj, xd, xf, xo, xi, xn, nI 2, rfl, bdd, lf_T, lf_T, hC, hM⟩
      · skip
        refine ev_g0 rfl ?_
        refine ev_reti rfl ?_
        refine ev_g0 rfl ?_
        refine ev_reti rfl ?_
        refine ct_of h_MM_stores rfl rfl rfl ?_
        refine ev_g0 rfl ?_
        refine ev_inV 1 k_MM_344 h_MM_hold rfl rfl rfl rfl rfl ⟨by decide, by decide⟩ rfl ?_
        refine ev_gT [] [] rfl ?_
        refine ev_reti rfl ?_
        refine ev_g0 rfl ?_
        refine ev_inV 2 k_MM_354 h_MM_takes rfl rfl rfl rfl rfl ⟨by decide, by decide⟩ rfl ?_
        refine ev_gT [false] [] rfl ?_
        refine ev_inV 2 k_MM_202 h_MM_isKind rfl rfl rfl rfl rfl ⟨by decide, by decide⟩ rfl ?_
        refine ev_gT [true, true] [] rfl ?_
        refine ev_retz rfl (by first | decide | exact zb_01 _) ?_
        refine ev_gT [false] [] rfl ?_
        refine ev_retz rfl (by first | decide | exact zb_01 _) ?_
        refine ev_gT [true] [] rfl ?_
        refine ev_ret rfl ?_
        exact ⟨rfl, xj, xd, xf, xo, xi, xn, nI 3, rfl, bdd, lf_T, lf_T, hC, hM⟩
theorem A29 {ci : Nat → Nat → Nat → Int32} {cn : Nat → Nat → Nat → Nat} {co : Nat → Option Nat} {xj : Nat → Nat → Nat → Int64} {xd : Nat → Nat → Nat → UInt64} {xf : Nat → Nat → Nat → UInt32} {xo : Nat → Nat → Nat → Option Nat} {xi : Nat → Nat → Nat → Int32} {xn : Nat → Nat → Nat → Nat} {K : Nat → Nat} {I : Nat → Nat → Int32} {J : Nat → Nat → Int64} {F : Nat → Nat → UInt32} {D : Nat → Nat → UInt64} {R : Nat → Nat → Option Nat} {nx sl : Nat} {Km : Nat → Nat} {Im : Nat → Nat → Int32} {Jm : Nat → Nat → Int64} {Fm : Nat → Nat → UInt32} {Dm : Nat → Nat → UInt64} {Rm : Nat → Nat → Option Nat} {nxm slm : Nat} (hC : RC ci cn co xj xd xf xo xi xn I J F D R nx sl) (hM : RM ci cn co xj xd xf xo xi xn Im Jm Dm) {t a b c : Nat} {go : Int32} (ht : t < 3) (ha : a < 8) (hb : b < 8) (hc : c < 8) (x1 : Im 6 39 = nI t) (x2 : Im 6 40 = nI a) (x3 : Im 6 41 = nI b) (x4 : Im 6 42 = nI c) (x5 : Im 6 43 = nI 0) (x6 : Im 6 44 = go) : Ct Y_IA_perform [vr 8 (32 + 7 * t), vi (nI 29), vi (nI a), vi (nI b), vi (nI c)] (K, I, J, F, D, R, nx, sl) (fun r μ1 => Ct Y_MM_stores [vr 11 6, vi (nI 1)] (Km, Im, Jm, Fm, Dm, Rm, nxm, slm) (fun r2 μ2 => r2 = none ∧ QA ci cn co go r μ1 μ2)) := by
  rcases ho : xo 0 t b with _ | q
  · skip
    refine ct_of h_IA_perform rfl rfl rfl ?_
    refine ev_g0 rfl ?_
    refine ev_inV 1 k_IA_9 h_SD_t rfl rfl rfl rfl rfl ⟨by decide, by decide⟩ rfl ?_
    refine ev_gT [] [none] rfl ?_
    refine ev_retn rfl ?_
    refine ev_gT [true, false] [] rfl ?_
    refine ev_inV 1 k_IA_17 h_SD_n rfl rfl rfl rfl rfl ⟨by decide, by decide⟩ rfl ?_
    refine ev_gT [] [] rfl ?_
    refine ev_retl rfl ?_
    refine ev_g0 rfl ?_
    refine ev_inS 5 k_IA_25 h_IA_setItem rfl rfl rfl rfl ⟨by decide, by decide⟩ rfl ?_
    refine ev_g0 rfl ?_
    refine ev_reti rfl ?_
    refine ev_g0 rfl ?_
    refine ev_reti rfl ?_
    refine ct_of h_MM_stores rfl rfl rfl ?_
    refine ev_g0 rfl ?_
    refine ev_inV 1 k_MM_344 h_MM_hold rfl rfl rfl rfl rfl ⟨by decide, by decide⟩ rfl ?_
    refine ev_gT [] [] rfl ?_
    refine ev_reti rfl ?_
    refine ev_g0 rfl ?_
    refine ev_inV 2 k_MM_354 h_MM_takes rfl rfl rfl rfl rfl ⟨by decide, by decide⟩ rfl ?_
    refine ev_gT [true] [] rfl ?_
    refine ev_retz rfl (by first | decide | exact zb_01 _) ?_
    refine ev_gT [false] [] rfl ?_
    refine ev_inV 1 k_MM_357 h_MM_is rfl rfl rfl rfl rfl ⟨by decide, by decide⟩ rfl ?_
    refine ev_gT [false, true] [] rfl ?_
    refine ev_retz rfl (by first | decide | exact zb_01 _) ?_
    refine ev_gT [true] [] rfl ?_
    refine ev_ret rfl ?_
    exact ⟨rfl, xj, xd, xf, xo, xi, xn, nI 1, rfl, bdd, lf_T, lf_T, hC, hM⟩
  · skip
    have hq := rc_ihol hC ht hb _ ho
    have zq := rc_isor hC hq
    have yq := rc_imad hC
    rcases ixc (xj 0 t c) (xn 1 q 0) with ⟨j, hj, hi⟩ | hi
    · skip
      refine ct_of h_IA_perform rfl rfl rfl ?_
      refine ev_g0 rfl ?_
      refine ev_inV 1 k_IA_9 h_SD_t rfl rfl rfl rfl rfl ⟨by decide, by decide⟩ rfl ?_
      refine ev_gT [] [some (94 + 4 * q)] rfl ?_
      refine ev_reta rfl ?_
      refine ev_gT [true, false] [] rfl ?_
      refine ev_inV 1 k_IA_17 h_SD_n rfl rfl rfl rfl rfl ⟨by decide, by decide⟩ rfl ?_
      refine ev_gT [] [] rfl ?_
      refine ev_retl rfl ?_
      refine ev_g0 rfl ?_
      refine ev_inS 5 k_IA_25 h_IA_setItem rfl rfl rfl rfl ⟨by decide, by decide⟩ rfl ?_
      refine ev_g0 rfl ?_
      refine ev_bT rfl rfl (fun h_1 => ?_) (fun h_1 => ?_)
      · skip
        refine ev_g0 rfl ?_
        refine ev_inV 1 k_IA_60 h_TH_hasItem rfl rfl rfl rfl rfl ⟨by decide, by decide⟩ rfl ?_
        refine ev_gT [false, false] [] rfl ?_
        refine ev_retz rfl (by first | decide | exact zb_01 _) ?_
        refine ev_gT [true, true, true] [] rfl ?_
        refine ev_inV 1 k_IA_17 h_SD_n rfl rfl rfl rfl rfl ⟨by decide, by decide⟩ rfl ?_
        refine ev_gT [] [] rfl ?_
        refine ev_retl rfl ?_
        refine ev_g0 rfl ?_
        refine ev_inS 2 k_IA_92 h_IA_narrowed rfl rfl rfl rfl ⟨by decide, by decide⟩ rfl ?_
        refine ev_gT [] [some 1] rfl ?_
        refine ev_retl rfl ?_
        refine ev_gT [] [] rfl ?_
        refine ev_reti rfl ?_
        refine ev_g0 rfl ?_
        refine ev_reti rfl ?_
        refine ct_of h_MM_stores rfl rfl rfl ?_
        refine ev_g0 rfl ?_
        refine ev_inV 1 k_MM_344 h_MM_hold rfl rfl rfl rfl rfl ⟨by decide, by decide⟩ rfl ?_
        refine ev_gT [] [] rfl ?_
        refine ev_reti rfl ?_
        refine ev_g0 rfl ?_
        refine ev_inV 2 k_MM_354 h_MM_takes rfl rfl rfl rfl rfl ⟨by decide, by decide⟩ rfl ?_
        refine ev_gT [false] [] rfl ?_
        refine ev_inV 2 k_MM_202 h_MM_isKind rfl rfl rfl rfl rfl ⟨by decide, by decide⟩ rfl ?_
        refine ev_gT [true, false] [] rfl ?_
        refine ev_retz rfl (by first | decide | exact zb_01 _) ?_
        refine ev_gT [true] [] rfl ?_
        refine ev_retz rfl (by first | decide | exact zb_01 _) ?_
        refine ev_gT [false] [] rfl ?_
        refine ev_inV 1 k_MM_357 h_MM_is rfl rfl rfl rfl rfl ⟨by decide, by decide⟩ rfl ?_
        refine ev_gT [true, false] [] rfl ?_
        refine ev_retz rfl (by first | decide | exact zb_01 _) ?_
        refine ev_gT [false] [] rfl ?_
        refine ev_inV 1 k_MM_277 h_MM_number rfl rfl rfl rfl rfl ⟨by decide, by decide⟩ rfl ?_
        refine ev_gT [] [] rfl ?_
        refine ev_retl rfl ?_
        refine ev_g0 rfl ?_
        refine ev_inV 2 k_MM_360 h_MM_holdsIndex rfl rfl rfl rfl rfl ⟨by decide, by decide⟩ rfl ?_
        refine ev_gT [] [] rfl ?_
        refine ev_inS 3 k_MM_188 h_MM_in rfl rfl rfl rfl ⟨by decide, by decide⟩ rfl ?_
        refine ev_gT [false, false] [] rfl ?_
        refine ev_retz rfl (by first | decide | exact zb_01 _) ?_
        refine ev_gT [true] [] rfl ?_
        refine ev_retz rfl (by first | decide | exact zb_01 _) ?_
        refine ev_gT [true] [] rfl ?_
        refine ev_inV 1 k_MM_277 h_MM_number rfl rfl rfl rfl rfl ⟨by decide, by decide⟩ rfl ?_
        refine ev_gT [] [] rfl ?_
        refine ev_retl rfl ?_
        refine ev_gT [true, true] [] rfl ?_
        refine ev_inV 1 k_MM_277 h_MM_number rfl rfl rfl rfl rfl ⟨by decide, by decide⟩ rfl ?_
        refine ev_gT [] [] rfl ?_
        refine ev_retl rfl ?_
        refine ev_g0 rfl ?_
        refine ev_inS 2 k_MM_364 h_MM_lowest rfl rfl rfl rfl ⟨by decide, by decide⟩ rfl ?_
        refine ev_gT [true, false] [] rfl ?_
        refine ev_retl rfl ?_
        refine ev_gT [] [] rfl ?_
        refine ev_ret rfl ?_
        exact ⟨rfl, (u3 xj 1 q j ((xj 0 t a).toInt32.toInt8.toInt32.toInt64)), xd, xf, xo, xi, xn, nI 0, rfl, bdd, lf_T, lf_T, (CU_who hC hq hj (by omega) lf_T lf_T), (MU_who hM hq hj (by omega) lf_T lf_T (fun i hi => (rc_isor hC hi).2.2.1))⟩
      · skip
        refine ev_g0 rfl ?_
        refine ev_reti rfl ?_
        refine ev_g0 rfl ?_
        refine ev_reti rfl ?_
        refine ct_of h_MM_stores rfl rfl rfl ?_
        refine ev_g0 rfl ?_
        refine ev_inV 1 k_MM_344 h_MM_hold rfl rfl rfl rfl rfl ⟨by decide, by decide⟩ rfl ?_
        refine ev_gT [] [] rfl ?_
        refine ev_reti rfl ?_
        refine ev_g0 rfl ?_
        refine ev_inV 2 k_MM_354 h_MM_takes rfl rfl rfl rfl rfl ⟨by decide, by decide⟩ rfl ?_
        refine ev_gT [false] [] rfl ?_
        refine ev_inV 2 k_MM_202 h_MM_isKind rfl rfl rfl rfl rfl ⟨by decide, by decide⟩ rfl ?_
        refine ev_gT [true, true] [] rfl ?_
        refine ev_retz rfl (by first | decide | exact zb_01 _) ?_
        refine ev_gT [false] [] rfl ?_
        refine ev_retz rfl (by first | decide | exact zb_01 _) ?_
        refine ev_gT [true] [] rfl ?_
        refine ev_ret rfl ?_
        exact ⟨rfl, xj, xd, xf, xo, xi, xn, nI 3, rfl, bdd, lf_T, lf_T, hC, hM⟩
    · skip
      refine ct_of h_IA_perform rfl rfl rfl ?_
      refine ev_g0 rfl ?_
      refine ev_inV 1 k_IA_9 h_SD_t rfl rfl rfl rfl rfl ⟨by decide, by decide⟩ rfl ?_
      refine ev_gT [] [some (94 + 4 * q)] rfl ?_
      refine ev_reta rfl ?_
      refine ev_gT [true, false] [] rfl ?_
      refine ev_inV 1 k_IA_17 h_SD_n rfl rfl rfl rfl rfl ⟨by decide, by decide⟩ rfl ?_
      refine ev_gT [] [] rfl ?_
      refine ev_retl rfl ?_
      refine ev_g0 rfl ?_
      refine ev_inS 5 k_IA_25 h_IA_setItem rfl rfl rfl rfl ⟨by decide, by decide⟩ rfl ?_
      refine ev_g0 rfl ?_
      refine ev_bT rfl rfl (fun h_2 => ?_) (fun h_2 => ?_)
      · skip
        refine ev_g0 rfl ?_
        refine ev_inV 1 k_IA_60 h_TH_hasItem rfl rfl rfl rfl rfl ⟨by decide, by decide⟩ rfl ?_
        refine ev_g0 rfl ?_
        refine ev_bT rfl rfl (fun h_3 => ?_) (fun h_3 => ?_)
        · skip
          refine ev_g0 rfl ?_
          refine ev_retz rfl (by first | decide | exact zb_01 _) ?_
          refine ev_gT [false] [] rfl ?_
          refine ev_reti rfl ?_
          refine ev_g0 rfl ?_
          refine ev_reti rfl ?_
          refine ct_of h_MM_stores rfl rfl rfl ?_
          refine ev_g0 rfl ?_
          refine ev_inV 1 k_MM_344 h_MM_hold rfl rfl rfl rfl rfl ⟨by decide, by decide⟩ rfl ?_
          refine ev_gT [] [] rfl ?_
          refine ev_reti rfl ?_
          refine ev_g0 rfl ?_
          refine ev_inV 2 k_MM_354 h_MM_takes rfl rfl rfl rfl rfl ⟨by decide, by decide⟩ rfl ?_
          refine ev_gT [false] [] rfl ?_
          refine ev_inV 2 k_MM_202 h_MM_isKind rfl rfl rfl rfl rfl ⟨by decide, by decide⟩ rfl ?_
          refine ev_gT [true, false] [] rfl ?_
          refine ev_retz rfl (by first | decide | exact zb_01 _) ?_
          refine ev_gT [true] [] rfl ?_
          refine ev_retz rfl (by first | decide | exact zb_01 _) ?_
          refine ev_gT [false] [] rfl ?_
          refine ev_inV 1 k_MM_357 h_MM_is rfl rfl rfl rfl rfl ⟨by decide, by decide⟩ rfl ?_
          refine ev_gT [true, false] [] rfl ?_
          refine ev_retz rfl (by first | decide | exact zb_01 _) ?_
          refine ev_gT [false] [] rfl ?_
          refine ev_inV 1 k_MM_277 h_MM_number rfl rfl rfl rfl rfl ⟨by decide, by decide⟩ rfl ?_
          refine ev_gT [] [] rfl ?_
          refine ev_retl rfl ?_
          refine ev_g0 rfl ?_
          refine ev_inV 2 k_MM_360 h_MM_holdsIndex rfl rfl rfl rfl rfl ⟨by decide, by decide⟩ rfl ?_
          refine ev_gT [] [] rfl ?_
          refine ev_inS 3 k_MM_188 h_MM_in rfl rfl rfl rfl ⟨by decide, by decide⟩ rfl ?_
          refine ev_gT [true] [] rfl ?_
          refine ev_retz rfl (by first | decide | exact zb_01 _) ?_
          refine ev_gT [false] [] rfl ?_
          refine ev_retz rfl (by first | decide | exact zb_01 _) ?_
          refine ev_gT [false] [] rfl ?_
          refine ev_ret rfl ?_
          exact ⟨rfl, xj, xd, xf, xo, xi, xn, nI 2, rfl, bdd, lf_T, lf_T, hC, hM⟩
        · skip
          refine ev_gT [true] [] rfl ?_
          refine ev_retz rfl (by first | decide | exact zb_01 _) ?_
          refine ev_gT [false] [] rfl ?_
          refine ev_reti rfl ?_
          refine ev_g0 rfl ?_
          refine ev_reti rfl ?_
          refine ct_of h_MM_stores rfl rfl rfl ?_
          refine ev_g0 rfl ?_
          refine ev_inV 1 k_MM_344 h_MM_hold rfl rfl rfl rfl rfl ⟨by decide, by decide⟩ rfl ?_
          refine ev_gT [] [] rfl ?_
          refine ev_reti rfl ?_
          refine ev_g0 rfl ?_
          refine ev_inV 2 k_MM_354 h_MM_takes rfl rfl rfl rfl rfl ⟨by decide, by decide⟩ rfl ?_
          refine ev_gT [false] [] rfl ?_
          refine ev_inV 2 k_MM_202 h_MM_isKind rfl rfl rfl rfl rfl ⟨by decide, by decide⟩ rfl ?_
          refine ev_gT [true, false] [] rfl ?_
          refine ev_retz rfl (by first | decide | exact zb_01 _) ?_
          refine ev_gT [true] [] rfl ?_
          refine ev_retz rfl (by first | decide | exact zb_01 _) ?_
          refine ev_gT [false] [] rfl ?_
          refine ev_inV 1 k_MM_357 h_MM_is rfl rfl rfl rfl rfl ⟨by decide, by decide⟩ rfl ?_
          refine ev_gT [true, false] [] rfl ?_
          refine ev_retz rfl (by first | decide | exact zb_01 _) ?_
          refine ev_gT [false] [] rfl ?_
          refine ev_inV 1 k_MM_277 h_MM_number rfl rfl rfl rfl rfl ⟨by decide, by decide⟩ rfl ?_
          refine ev_gT [] [] rfl ?_
          refine ev_retl rfl ?_
          refine ev_g0 rfl ?_
          refine ev_inV 2 k_MM_360 h_MM_holdsIndex rfl rfl rfl rfl rfl ⟨by decide, by decide⟩ rfl ?_
          refine ev_gT [] [] rfl ?_
          refine ev_inS 3 k_MM_188 h_MM_in rfl rfl rfl rfl ⟨by decide, by decide⟩ rfl ?_
          refine ev_gT [false, true] [] rfl ?_
          refine ev_retz rfl (by first | decide | exact zb_01 _) ?_
          refine ev_gT [false] [] rfl ?_
          refine ev_retz rfl (by first | decide | exact zb_01 _) ?_
          refine ev_gT [false] [] rfl ?_
          refine ev_ret rfl ?_
          exact ⟨rfl, xj, xd, xf, xo, xi, xn, nI 2, rfl, bdd, lf_T, lf_T, hC, hM⟩
      · skip
        refine ev_g0 rfl ?_
        refine ev_reti rfl ?_
        refine ev_g0 rfl ?_
        refine ev_reti rfl ?_
        refine ct_of h_MM_stores rfl rfl rfl ?_
        refine ev_g0 rfl ?_
        refine ev_inV 1 k_MM_344 h_MM_hold rfl rfl rfl rfl rfl ⟨by decide, by decide⟩ rfl ?_
        refine ev_gT [] [] rfl ?_
        refine ev_reti rfl ?_
        refine ev_g0 rfl ?_
        refine ev_inV 2 k_MM_354 h_MM_takes rfl rfl rfl rfl rfl ⟨by decide, by decide⟩ rfl ?_
        refine ev_gT [false] [] rfl ?_
        refine ev_inV 2 k_MM_202 h_MM_isKind rfl rfl rfl rfl rfl ⟨by decide, by decide⟩ rfl ?_
        refine ev_gT [true, true] [] rfl ?_
        refine ev_retz rfl (by first | decide | exact zb_01 _) ?_
        refine ev_gT [false] [] rfl ?_
        refine ev_retz rfl (by first | decide | exact zb_01 _) ?_
        refine ev_gT [true] [] rfl ?_
        refine ev_ret rfl ?_
        exact ⟨rfl, xj, xd, xf, xo, xi, xn, nI 3, rfl, bdd, lf_T, lf_T, hC, hM⟩
theorem A33 {ci : Nat → Nat → Nat → Int32} {cn : Nat → Nat → Nat → Nat} {co : Nat → Option Nat} {xj : Nat → Nat → Nat → Int64} {xd : Nat → Nat → Nat → UInt64} {xf : Nat → Nat → Nat → UInt32} {xo : Nat → Nat → Nat → Option Nat} {xi : Nat → Nat → Nat → Int32} {xn : Nat → Nat → Nat → Nat} {K : Nat → Nat} {I : Nat → Nat → Int32} {J : Nat → Nat → Int64} {F : Nat → Nat → UInt32} {D : Nat → Nat → UInt64} {R : Nat → Nat → Option Nat} {nx sl : Nat} {Km : Nat → Nat} {Im : Nat → Nat → Int32} {Jm : Nat → Nat → Int64} {Fm : Nat → Nat → UInt32} {Dm : Nat → Nat → UInt64} {Rm : Nat → Nat → Option Nat} {nxm slm : Nat} (hC : RC ci cn co xj xd xf xo xi xn I J F D R nx sl) (hM : RM ci cn co xj xd xf xo xi xn Im Jm Dm) {t a b c : Nat} {go : Int32} (ht : t < 3) (ha : a < 8) (hb : b < 8) (hc : c < 8) (x1 : Im 6 39 = nI t) (x2 : Im 6 40 = nI a) (x3 : Im 6 41 = nI b) (x4 : Im 6 42 = nI c) (x5 : Im 6 43 = nI 0) (x6 : Im 6 44 = go) : Ct Y_IA_perform [vr 8 (32 + 7 * t), vi (nI 33), vi (nI a), vi (nI b), vi (nI c)] (K, I, J, F, D, R, nx, sl) (fun r μ1 => Ct Y_MM_stores [vr 11 6, vi (nI 5)] (Km, Im, Jm, Fm, Dm, Rm, nxm, slm) (fun r2 μ2 => r2 = none ∧ QA ci cn co go r μ1 μ2)) := by
  rcases ho : xo 0 t b with _ | q
  · skip
    refine ct_of h_IA_perform rfl rfl rfl ?_
    refine ev_g0 rfl ?_
    refine ev_inV 1 k_IA_9 h_SD_t rfl rfl rfl rfl rfl ⟨by decide, by decide⟩ rfl ?_
    refine ev_gT [] [none] rfl ?_
    refine ev_retn rfl ?_
    refine ev_gT [true, false] [] rfl ?_
    refine ev_inV 1 k_IA_17 h_SD_n rfl rfl rfl rfl rfl ⟨by decide, by decide⟩ rfl ?_
    refine ev_gT [] [] rfl ?_
    refine ev_retl rfl ?_
    refine ev_g0 rfl ?_
    refine ev_inS 5 k_IA_25 h_IA_setItem rfl rfl rfl rfl ⟨by decide, by decide⟩ rfl ?_
    refine ev_g0 rfl ?_
    refine ev_reti rfl ?_
    refine ev_g0 rfl ?_
    refine ev_reti rfl ?_
    refine ct_of h_MM_stores rfl rfl rfl ?_
    refine ev_g0 rfl ?_
    refine ev_inV 1 k_MM_344 h_MM_hold rfl rfl rfl rfl rfl ⟨by decide, by decide⟩ rfl ?_
    refine ev_gT [] [] rfl ?_
    refine ev_reti rfl ?_
    refine ev_g0 rfl ?_
    refine ev_inV 2 k_MM_354 h_MM_takes rfl rfl rfl rfl rfl ⟨by decide, by decide⟩ rfl ?_
    refine ev_gT [true] [] rfl ?_
    refine ev_retz rfl (by first | decide | exact zb_01 _) ?_
    refine ev_gT [false] [] rfl ?_
    refine ev_inV 1 k_MM_357 h_MM_is rfl rfl rfl rfl rfl ⟨by decide, by decide⟩ rfl ?_
    refine ev_gT [false, true] [] rfl ?_
    refine ev_retz rfl (by first | decide | exact zb_01 _) ?_
    refine ev_gT [true] [] rfl ?_
    refine ev_ret rfl ?_
    exact ⟨rfl, xj, xd, xf, xo, xi, xn, nI 1, rfl, bdd, lf_T, lf_T, hC, hM⟩
  · skip
    have hq := rc_ihol hC ht hb _ ho
    have zq := rc_isor hC hq
    have yq := rc_imad hC
    rcases ixc (xj 0 t c) (xn 1 q 0) with ⟨j, hj, hi⟩ | hi
    · skip
      refine ct_of h_IA_perform rfl rfl rfl ?_
      refine ev_g0 rfl ?_
      refine ev_inV 1 k_IA_9 h_SD_t rfl rfl rfl rfl rfl ⟨by decide, by decide⟩ rfl ?_
      refine ev_gT [] [some (94 + 4 * q)] rfl ?_
      refine ev_reta rfl ?_
      refine ev_gT [true, false] [] rfl ?_
      refine ev_inV 1 k_IA_17 h_SD_n rfl rfl rfl rfl rfl ⟨by decide, by decide⟩ rfl ?_
      refine ev_gT [] [] rfl ?_
      refine ev_retl rfl ?_
      refine ev_g0 rfl ?_
      refine ev_inS 5 k_IA_25 h_IA_setItem rfl rfl rfl rfl ⟨by decide, by decide⟩ rfl ?_
      refine ev_g0 rfl ?_
      refine ev_bT rfl rfl (fun h_1 => ?_) (fun h_1 => ?_)
      · skip
        refine ev_g0 rfl ?_
        refine ev_inV 1 k_IA_60 h_TH_hasItem rfl rfl rfl rfl rfl ⟨by decide, by decide⟩ rfl ?_
        refine ev_gT [false, false] [] rfl ?_
        refine ev_retz rfl (by first | decide | exact zb_01 _) ?_
        refine ev_gT [true, true, true] [] rfl ?_
        refine ev_inV 1 k_IA_17 h_SD_n rfl rfl rfl rfl rfl ⟨by decide, by decide⟩ rfl ?_
        refine ev_gT [] [] rfl ?_
        refine ev_retl rfl ?_
        refine ev_g0 rfl ?_
        refine ev_inS 2 k_IA_92 h_IA_narrowed rfl rfl rfl rfl ⟨by decide, by decide⟩ rfl ?_
        refine ev_gT [] [none] rfl ?_
        refine ev_retl rfl ?_
        refine ev_gT [] [] rfl ?_
        refine ev_reti rfl ?_
        refine ev_g0 rfl ?_
        refine ev_reti rfl ?_
        refine ct_of h_MM_stores rfl rfl rfl ?_
        refine ev_g0 rfl ?_
        refine ev_inV 1 k_MM_344 h_MM_hold rfl rfl rfl rfl rfl ⟨by decide, by decide⟩ rfl ?_
        refine ev_gT [] [] rfl ?_
        refine ev_reti rfl ?_
        refine ev_g0 rfl ?_
        refine ev_inV 2 k_MM_354 h_MM_takes rfl rfl rfl rfl rfl ⟨by decide, by decide⟩ rfl ?_
        refine ev_gT [false] [] rfl ?_
        refine ev_inV 2 k_MM_202 h_MM_isKind rfl rfl rfl rfl rfl ⟨by decide, by decide⟩ rfl ?_
        refine ev_gT [true, false] [] rfl ?_
        refine ev_retz rfl (by first | decide | exact zb_01 _) ?_
        refine ev_gT [true] [] rfl ?_
        refine ev_retz rfl (by first | decide | exact zb_01 _) ?_
        refine ev_gT [false] [] rfl ?_
        refine ev_inV 1 k_MM_357 h_MM_is rfl rfl rfl rfl rfl ⟨by decide, by decide⟩ rfl ?_
        refine ev_gT [true, false] [] rfl ?_
        refine ev_retz rfl (by first | decide | exact zb_01 _) ?_
        refine ev_gT [false] [] rfl ?_
        refine ev_inV 1 k_MM_277 h_MM_number rfl rfl rfl rfl rfl ⟨by decide, by decide⟩ rfl ?_
        refine ev_gT [] [] rfl ?_
        refine ev_retl rfl ?_
        refine ev_g0 rfl ?_
        refine ev_inV 2 k_MM_360 h_MM_holdsIndex rfl rfl rfl rfl rfl ⟨by decide, by decide⟩ rfl ?_
        refine ev_gT [] [] rfl ?_
        refine ev_inS 3 k_MM_188 h_MM_in rfl rfl rfl rfl ⟨by decide, by decide⟩ rfl ?_
        refine ev_gT [false, false] [] rfl ?_
        refine ev_retz rfl (by first | decide | exact zb_01 _) ?_
        refine ev_gT [true] [] rfl ?_
        refine ev_retz rfl (by first | decide | exact zb_01 _) ?_
        refine ev_gT [true] [] rfl ?_
        refine ev_inV 1 k_MM_277 h_MM_number rfl rfl rfl rfl rfl ⟨by decide, by decide⟩ rfl ?_
        refine ev_gT [] [] rfl ?_
        refine ev_retl rfl ?_
        refine ev_gT [true, true] [] rfl ?_
        refine ev_inV 1 k_MM_277 h_MM_number rfl rfl rfl rfl rfl ⟨by decide, by decide⟩ rfl ?_
        refine ev_gT [] [] rfl ?_
        refine ev_retl rfl ?_
        refine ev_g0 rfl ?_
        refine ev_inS 2 k_MM_364 h_MM_lowest rfl rfl rfl rfl ⟨by decide, by decide⟩ rfl ?_
        refine ev_gT [true, true, true, true, true] [] rfl ?_
        refine ev_retl rfl ?_
        refine ev_gT [] [] rfl ?_
        refine ev_ret rfl ?_
        exact ⟨rfl, (u3 xj 1 q j (xj 0 t a)), xd, xf, xo, xi, xn, nI 0, rfl, bdd, lf_T, lf_T, (CU_who hC hq hj (by omega) lf_T lf_T), (MU_who hM hq hj (by omega) lf_T lf_T (fun i hi => (rc_isor hC hi).2.2.1))⟩
      · skip
        refine ev_g0 rfl ?_
        refine ev_reti rfl ?_
        refine ev_g0 rfl ?_
        refine ev_reti rfl ?_
        refine ct_of h_MM_stores rfl rfl rfl ?_
        refine ev_g0 rfl ?_
        refine ev_inV 1 k_MM_344 h_MM_hold rfl rfl rfl rfl rfl ⟨by decide, by decide⟩ rfl ?_
        refine ev_gT [] [] rfl ?_
        refine ev_reti rfl ?_
        refine ev_g0 rfl ?_
        refine ev_inV 2 k_MM_354 h_MM_takes rfl rfl rfl rfl rfl ⟨by decide, by decide⟩ rfl ?_
        refine ev_gT [false] [] rfl ?_
        refine ev_inV 2 k_MM_202 h_MM_isKind rfl rfl rfl rfl rfl ⟨by decide, by decide⟩ rfl ?_
        refine ev_gT [true, true] [] rfl ?_
        refine ev_retz rfl (by first | decide | exact zb_01 _) ?_
        refine ev_gT [false] [] rfl ?_
        refine ev_retz rfl (by first | decide | exact zb_01 _) ?_
        refine ev_gT [true] [] rfl ?_
        refine ev_ret rfl ?_
        exact ⟨rfl, xj, xd, xf, xo, xi, xn, nI 3, rfl, bdd, lf_T, lf_T, hC, hM⟩
    · skip
      refine ct_of h_IA_perform rfl rfl rfl ?_
      refine ev_g0 rfl ?_
      refine ev_inV 1 k_IA_9 h_SD_t rfl rfl rfl rfl rfl ⟨by decide, by decide⟩ rfl ?_
      refine ev_gT [] [some (94 + 4 * q)] rfl ?_
      refine ev_reta rfl ?_
      refine ev_gT [true, false] [] rfl ?_
      refine ev_inV 1 k_IA_17 h_SD_n rfl rfl rfl rfl rfl ⟨by decide, by decide⟩ rfl ?_
      refine ev_gT [] [] rfl ?_
      refine ev_retl rfl ?_
      refine ev_g0 rfl ?_
      refine ev_inS 5 k_IA_25 h_IA_setItem rfl rfl rfl rfl ⟨by decide, by decide⟩ rfl ?_
      refine ev_g0 rfl ?_
      refine ev_bT rfl rfl (fun h_2 => ?_) (fun h_2 => ?_)
      · skip
        refine ev_g0 rfl ?_
        refine ev_inV 1 k_IA_60 h_TH_hasItem rfl rfl rfl rfl rfl ⟨by decide, by decide⟩ rfl ?_
        refine ev_g0 rfl ?_
        refine ev_bT rfl rfl (fun h_3 => ?_) (fun h_3 => ?_)
        · skip
          refine ev_g0 rfl ?_
          refine ev_retz rfl (by first | decide | exact zb_01 _) ?_
          refine ev_gT [false] [] rfl ?_
          refine ev_reti rfl ?_
          refine ev_g0 rfl ?_
          refine ev_reti rfl ?_
          refine ct_of h_MM_stores rfl rfl rfl ?_
          refine ev_g0 rfl ?_
          refine ev_inV 1 k_MM_344 h_MM_hold rfl rfl rfl rfl rfl ⟨by decide, by decide⟩ rfl ?_
          refine ev_gT [] [] rfl ?_
          refine ev_reti rfl ?_
          refine ev_g0 rfl ?_
          refine ev_inV 2 k_MM_354 h_MM_takes rfl rfl rfl rfl rfl ⟨by decide, by decide⟩ rfl ?_
          refine ev_gT [false] [] rfl ?_
          refine ev_inV 2 k_MM_202 h_MM_isKind rfl rfl rfl rfl rfl ⟨by decide, by decide⟩ rfl ?_
          refine ev_gT [true, false] [] rfl ?_
          refine ev_retz rfl (by first | decide | exact zb_01 _) ?_
          refine ev_gT [true] [] rfl ?_
          refine ev_retz rfl (by first | decide | exact zb_01 _) ?_
          refine ev_gT [false] [] rfl ?_
          refine ev_inV 1 k_MM_357 h_MM_is rfl rfl rfl rfl rfl ⟨by decide, by decide⟩ rfl ?_
          refine ev_gT [true, false] [] rfl ?_
          refine ev_retz rfl (by first | decide | exact zb_01 _) ?_
          refine ev_gT [false] [] rfl ?_
          refine ev_inV 1 k_MM_277 h_MM_number rfl rfl rfl rfl rfl ⟨by decide, by decide⟩ rfl ?_
          refine ev_gT [] [] rfl ?_
          refine ev_retl rfl ?_
          refine ev_g0 rfl ?_
          refine ev_inV 2 k_MM_360 h_MM_holdsIndex rfl rfl rfl rfl rfl ⟨by decide, by decide⟩ rfl ?_
          refine ev_gT [] [] rfl ?_
          refine ev_inS 3 k_MM_188 h_MM_in rfl rfl rfl rfl ⟨by decide, by decide⟩ rfl ?_
          refine ev_gT [true] [] rfl ?_
          refine ev_retz rfl (by first | decide | exact zb_01 _) ?_
          refine ev_gT [false] [] rfl ?_
          refine ev_retz rfl (by first | decide | exact zb_01 _) ?_
          refine ev_gT [false] [] rfl ?_
          refine ev_ret rfl ?_
          exact ⟨rfl, xj, xd, xf, xo, xi, xn, nI 2, rfl, bdd, lf_T, lf_T, hC, hM⟩
        · skip
          refine ev_gT [true] [] rfl ?_
          refine ev_retz rfl (by first | decide | exact zb_01 _) ?_
          refine ev_gT [false] [] rfl ?_
          refine ev_reti rfl ?_
          refine ev_g0 rfl ?_
          refine ev_reti rfl ?_
          refine ct_of h_MM_stores rfl rfl rfl ?_
          refine ev_g0 rfl ?_
          refine ev_inV 1 k_MM_344 h_MM_hold rfl rfl rfl rfl rfl ⟨by decide, by decide⟩ rfl ?_
          refine ev_gT [] [] rfl ?_
          refine ev_reti rfl ?_
          refine ev_g0 rfl ?_
          refine ev_inV 2 k_MM_354 h_MM_takes rfl rfl rfl rfl rfl ⟨by decide, by decide⟩ rfl ?_
          refine ev_gT [false] [] rfl ?_
          refine ev_inV 2 k_MM_202 h_MM_isKind rfl rfl rfl rfl rfl ⟨by decide, by decide⟩ rfl ?_
          refine ev_gT [true, false] [] rfl ?_
          refine ev_retz rfl (by first | decide | exact zb_01 _) ?_
          refine ev_gT [true] [] rfl ?_
          refine ev_retz rfl (by first | decide | exact zb_01 _) ?_
          refine ev_gT [false] [] rfl ?_
          refine ev_inV 1 k_MM_357 h_MM_is rfl rfl rfl rfl rfl ⟨by decide, by decide⟩ rfl ?_
          refine ev_gT [true, false] [] rfl ?_
          refine ev_retz rfl (by first | decide | exact zb_01 _) ?_
          refine ev_gT [false] [] rfl ?_
          refine ev_inV 1 k_MM_277 h_MM_number rfl rfl rfl rfl rfl ⟨by decide, by decide⟩ rfl ?_
          refine ev_gT [] [] rfl ?_
          refine ev_retl rfl ?_
          refine ev_g0 rfl ?_
          refine ev_inV 2 k_MM_360 h_MM_holdsIndex rfl rfl rfl rfl rfl ⟨by decide, by decide⟩ rfl ?_
          refine ev_gT [] [] rfl ?_
          refine ev_inS 3 k_MM_188 h_MM_in rfl rfl rfl rfl ⟨by decide, by decide⟩ rfl ?_
          refine ev_gT [false, true] [] rfl ?_
          refine ev_retz rfl (by first | decide | exact zb_01 _) ?_
          refine ev_gT [false] [] rfl ?_
          refine ev_retz rfl (by first | decide | exact zb_01 _) ?_
          refine ev_gT [false] [] rfl ?_
          refine ev_ret rfl ?_
          exact ⟨rfl, xj, xd, xf, xo, xi, xn, nI 2, rfl, bdd, lf_T, lf_T, hC, hM⟩
      · skip
        refine ev_g0 rfl ?_
        refine ev_reti rfl ?_
        refine ev_g0 rfl ?_
        refine ev_reti rfl ?_
        refine ct_of h_MM_stores rfl rfl rfl ?_
        refine ev_g0 rfl ?_
        refine ev_inV 1 k_MM_344 h_MM_hold rfl rfl rfl rfl rfl ⟨by decide, by decide⟩ rfl ?_
        refine ev_gT [] [] rfl ?_
        refine ev_reti rfl ?_
        refine ev_g0 rfl ?_
        refine ev_inV 2 k_MM_354 h_MM_takes rfl rfl rfl rfl rfl ⟨by decide, by decide⟩ rfl ?_
        refine ev_gT [false] [] rfl ?_
        refine ev_inV 2 k_MM_202 h_MM_isKind rfl rfl rfl rfl rfl ⟨by decide, by decide⟩ rfl ?_
        refine ev_gT [true, true] [] rfl ?_
        refine ev_retz rfl (by first | decide | exact zb_01 _) ?_
        refine ev_gT [false] [] rfl ?_
        refine ev_retz rfl (by first | decide | exact zb_01 _) ?_
        refine ev_gT [true] [] rfl ?_
        refine ev_ret rfl ?_
        exact ⟨rfl, xj, xd, xf, xo, xi, xn, nI 3, rfl, bdd, lf_T, lf_T, hC, hM⟩
theorem A35 {ci : Nat → Nat → Nat → Int32} {cn : Nat → Nat → Nat → Nat} {co : Nat → Option Nat} {xj : Nat → Nat → Nat → Int64} {xd : Nat → Nat → Nat → UInt64} {xf : Nat → Nat → Nat → UInt32} {xo : Nat → Nat → Nat → Option Nat} {xi : Nat → Nat → Nat → Int32} {xn : Nat → Nat → Nat → Nat} {K : Nat → Nat} {I : Nat → Nat → Int32} {J : Nat → Nat → Int64} {F : Nat → Nat → UInt32} {D : Nat → Nat → UInt64} {R : Nat → Nat → Option Nat} {nx sl : Nat} {Km : Nat → Nat} {Im : Nat → Nat → Int32} {Jm : Nat → Nat → Int64} {Fm : Nat → Nat → UInt32} {Dm : Nat → Nat → UInt64} {Rm : Nat → Nat → Option Nat} {nxm slm : Nat} (hC : RC ci cn co xj xd xf xo xi xn I J F D R nx sl) (hM : RM ci cn co xj xd xf xo xi xn Im Jm Dm) {t a b c : Nat} {go : Int32} (ht : t < 3) (ha : a < 4) (hb : b < 8) (hc : c < 8) (x1 : Im 6 39 = nI t) (x2 : Im 6 40 = nI a) (x3 : Im 6 41 = nI b) (x4 : Im 6 42 = nI c) (x5 : Im 6 43 = nI 0) (x6 : Im 6 44 = go) : Ct Y_IA_perform [vr 8 (32 + 7 * t), vi (nI 35), vi (nI a), vi (nI b), vi (nI c)] (K, I, J, F, D, R, nx, sl) (fun r μ1 => Ct Y_MM_stores [vr 11 6, vi (nI 7)] (Km, Im, Jm, Fm, Dm, Rm, nxm, slm) (fun r2 μ2 => r2 = none ∧ QA ci cn co go r μ1 μ2)) := by
  rcases ho : xo 0 t b with _ | q
  · skip
    refine ct_of h_IA_perform rfl rfl rfl ?_
    refine ev_g0 rfl ?_
    refine ev_inV 1 k_IA_9 h_SD_t rfl rfl rfl rfl rfl ⟨by decide, by decide⟩ rfl ?_
    refine ev_gT [] [none] rfl ?_
    refine ev_retn rfl ?_
    refine ev_gT [true, false] [] rfl ?_
    refine ev_inV 1 k_IA_17 h_SD_n rfl rfl rfl rfl rfl ⟨by decide, by decide⟩ rfl ?_
    refine ev_gT [] [] rfl ?_
    refine ev_retl rfl ?_
    refine ev_g0 rfl ?_
    refine ev_inS 5 k_IA_25 h_IA_setItem rfl rfl rfl rfl ⟨by decide, by decide⟩ rfl ?_
    refine ev_g0 rfl ?_
    refine ev_reti rfl ?_
    refine ev_g0 rfl ?_
    refine ev_reti rfl ?_
    refine ct_of h_MM_stores rfl rfl rfl ?_
    refine ev_g0 rfl ?_
    refine ev_inV 1 k_MM_344 h_MM_hold rfl rfl rfl rfl rfl ⟨by decide, by decide⟩ rfl ?_
    refine ev_gT [] [] rfl ?_
    refine ev_reti rfl ?_
    refine ev_g0 rfl ?_
    refine ev_inV 2 k_MM_354 h_MM_takes rfl rfl rfl rfl rfl ⟨by decide, by decide⟩ rfl ?_
    refine ev_gT [true] [] rfl ?_
    refine ev_retz rfl (by first | decide | exact zb_01 _) ?_
    refine ev_gT [false] [] rfl ?_
    refine ev_inV 1 k_MM_357 h_MM_is rfl rfl rfl rfl rfl ⟨by decide, by decide⟩ rfl ?_
    refine ev_gT [false, true] [] rfl ?_
    refine ev_retz rfl (by first | decide | exact zb_01 _) ?_
    refine ev_gT [true] [] rfl ?_
    refine ev_ret rfl ?_
    exact ⟨rfl, xj, xd, xf, xo, xi, xn, nI 1, rfl, bdd, lf_T, lf_T, hC, hM⟩
  · skip
    have hq := rc_ihol hC ht hb _ ho
    have zq := rc_isor hC hq
    have yq := rc_imad hC
    rcases ixc (xj 0 t c) (xn 1 q 0) with ⟨j, hj, hi⟩ | hi
    · skip
      refine ct_of h_IA_perform rfl rfl rfl ?_
      refine ev_g0 rfl ?_
      refine ev_inV 1 k_IA_9 h_SD_t rfl rfl rfl rfl rfl ⟨by decide, by decide⟩ rfl ?_
      refine ev_gT [] [some (94 + 4 * q)] rfl ?_
      refine ev_reta rfl ?_
      refine ev_gT [true, false] [] rfl ?_
      refine ev_inV 1 k_IA_17 h_SD_n rfl rfl rfl rfl rfl ⟨by decide, by decide⟩ rfl ?_
      refine ev_gT [] [] rfl ?_
      refine ev_retl rfl ?_
      refine ev_g0 rfl ?_
      refine ev_inS 5 k_IA_25 h_IA_setItem rfl rfl rfl rfl ⟨by decide, by decide⟩ rfl ?_
      refine ev_g0 rfl ?_
      refine ev_bT rfl rfl (fun h_1 => ?_) (fun h_1 => ?_)
      · skip
        refine ev_g0 rfl ?_
        refine ev_inV 1 k_IA_60 h_TH_hasItem rfl rfl rfl rfl rfl ⟨by decide, by decide⟩ rfl ?_
        refine ev_gT [false, false] [] rfl ?_
        refine ev_retz rfl (by first | decide | exact zb_01 _) ?_
        refine ev_gT [true, true, false] [] rfl ?_
        refine ev_inV 1 k_IA_88 h_SD_x rfl rfl rfl rfl rfl ⟨by decide, by decide⟩ rfl ?_
        refine ev_gT [] [] rfl ?_
        refine ev_retd rfl ?_
        refine ev_gT [] [] rfl ?_
        refine ev_reti rfl ?_
        refine ev_g0 rfl ?_
        refine ev_reti rfl ?_
        refine ct_of h_MM_stores rfl rfl rfl ?_
        refine ev_g0 rfl ?_
        refine ev_inV 1 k_MM_344 h_MM_hold rfl rfl rfl rfl rfl ⟨by decide, by decide⟩ rfl ?_
        refine ev_gT [] [] rfl ?_
        refine ev_reti rfl ?_
        refine ev_g0 rfl ?_
        refine ev_inV 2 k_MM_354 h_MM_takes rfl rfl rfl rfl rfl ⟨by decide, by decide⟩ rfl ?_
        refine ev_gT [false] [] rfl ?_
        refine ev_inV 2 k_MM_202 h_MM_isKind rfl rfl rfl rfl rfl ⟨by decide, by decide⟩ rfl ?_
        refine ev_gT [true, false] [] rfl ?_
        refine ev_retz rfl (by first | decide | exact zb_01 _) ?_
        refine ev_gT [true] [] rfl ?_
        refine ev_retz rfl (by first | decide | exact zb_01 _) ?_
        refine ev_gT [false] [] rfl ?_
        refine ev_inV 1 k_MM_357 h_MM_is rfl rfl rfl rfl rfl ⟨by decide, by decide⟩ rfl ?_
        refine ev_gT [true, false] [] rfl ?_
        refine ev_retz rfl (by first | decide | exact zb_01 _) ?_
        refine ev_gT [false] [] rfl ?_
        refine ev_inV 1 k_MM_277 h_MM_number rfl rfl rfl rfl rfl ⟨by decide, by decide⟩ rfl ?_
        refine ev_gT [] [] rfl ?_
        refine ev_retl rfl ?_
        refine ev_g0 rfl ?_
        refine ev_inV 2 k_MM_360 h_MM_holdsIndex rfl rfl rfl rfl rfl ⟨by decide, by decide⟩ rfl ?_
        refine ev_gT [] [] rfl ?_
        refine ev_inS 3 k_MM_188 h_MM_in rfl rfl rfl rfl ⟨by decide, by decide⟩ rfl ?_
        refine ev_gT [false, false] [] rfl ?_
        refine ev_retz rfl (by first | decide | exact zb_01 _) ?_
        refine ev_gT [true] [] rfl ?_
        refine ev_retz rfl (by first | decide | exact zb_01 _) ?_
        refine ev_gT [true] [] rfl ?_
        refine ev_inV 1 k_MM_277 h_MM_number rfl rfl rfl rfl rfl ⟨by decide, by decide⟩ rfl ?_
        refine ev_gT [] [] rfl ?_
        refine ev_retl rfl ?_
        refine ev_gT [true, false] [] rfl ?_
        refine ev_inV 1 k_MM_285 h_MM_twin rfl rfl rfl rfl rfl ⟨by decide, by decide⟩ rfl ?_
        refine ev_gT [] [] rfl ?_
        refine ev_retd rfl ?_
        refine ev_gT [] [] rfl ?_
        refine ev_ret rfl ?_
        exact ⟨rfl, xj, (u3 xd 1 q j (xd 0 t a)), xf, xo, xi, xn, nI 0, rfl, bdd, lf_T, lf_T, (CU_rea hC hq hj (by omega) (by omega) (rc_idbl hC ht ha) lf_T lf_T), (MU_rea hM hq hj (by omega) (by omega) lf_T lf_T (fun i hi => (rc_isor hC hi).2.2.1))⟩
      · skip
        refine ev_g0 rfl ?_
        refine ev_reti rfl ?_
        refine ev_g0 rfl ?_
        refine ev_reti rfl ?_
        refine ct_of h_MM_stores rfl rfl rfl ?_
        refine ev_g0 rfl ?_
        refine ev_inV 1 k_MM_344 h_MM_hold rfl rfl rfl rfl rfl ⟨by decide, by decide⟩ rfl ?_
        refine ev_gT [] [] rfl ?_
        refine ev_reti rfl ?_
        refine ev_g0 rfl ?_
        refine ev_inV 2 k_MM_354 h_MM_takes rfl rfl rfl rfl rfl ⟨by decide, by decide⟩ rfl ?_
        refine ev_gT [false] [] rfl ?_
        refine ev_inV 2 k_MM_202 h_MM_isKind rfl rfl rfl rfl rfl ⟨by decide, by decide⟩ rfl ?_
        refine ev_gT [true, true] [] rfl ?_
        refine ev_retz rfl (by first | decide | exact zb_01 _) ?_
        refine ev_gT [false] [] rfl ?_
        refine ev_retz rfl (by first | decide | exact zb_01 _) ?_
        refine ev_gT [true] [] rfl ?_
        refine ev_ret rfl ?_
        exact ⟨rfl, xj, xd, xf, xo, xi, xn, nI 3, rfl, bdd, lf_T, lf_T, hC, hM⟩
    · skip
      refine ct_of h_IA_perform rfl rfl rfl ?_
      refine ev_g0 rfl ?_
      refine ev_inV 1 k_IA_9 h_SD_t rfl rfl rfl rfl rfl ⟨by decide, by decide⟩ rfl ?_
      refine ev_gT [] [some (94 + 4 * q)] rfl ?_
      refine ev_reta rfl ?_
      refine ev_gT [true, false] [] rfl ?_
      refine ev_inV 1 k_IA_17 h_SD_n rfl rfl rfl rfl rfl ⟨by decide, by decide⟩ rfl ?_
      refine ev_gT [] [] rfl ?_
      refine ev_retl rfl ?_
      refine ev_g0 rfl ?_
      refine ev_inS 5 k_IA_25 h_IA_setItem rfl rfl rfl rfl ⟨by decide, by decide⟩ rfl ?_
      refine ev_g0 rfl ?_
      refine ev_bT rfl rfl (fun h_2 => ?_) (fun h_2 => ?_)
      · skip
        refine ev_g0 rfl ?_
        refine ev_inV 1 k_IA_60 h_TH_hasItem rfl rfl rfl rfl rfl ⟨by decide, by decide⟩ rfl ?_
        refine ev_g0 rfl ?_
        refine ev_bT rfl rfl (fun h_3 => ?_) (fun h_3 => ?_)
        · skip
          refine ev_g0 rfl ?_
          refine ev_retz rfl (by first | decide | exact zb_01 _) ?_
          refine ev_gT [false] [] rfl ?_
          refine ev_reti rfl ?_
          refine ev_g0 rfl ?_
          refine ev_reti rfl ?_
          refine ct_of h_MM_stores rfl rfl rfl ?_
          refine ev_g0 rfl ?_
          refine ev_inV 1 k_MM_344 h_MM_hold rfl rfl rfl rfl rfl ⟨by decide, by decide⟩ rfl ?_
          refine ev_gT [] [] rfl ?_
          refine ev_reti rfl ?_
          refine ev_g0 rfl ?_
          refine ev_inV 2 k_MM_354 h_MM_takes rfl rfl rfl rfl rfl ⟨by decide, by decide⟩ rfl ?_
          refine ev_gT [false] [] rfl ?_
          refine ev_inV 2 k_MM_202 h_MM_isKind rfl rfl rfl rfl rfl ⟨by decide, by decide⟩ rfl ?_
          refine ev_gT [true, false] [] rfl ?_
          refine ev_retz rfl (by first | decide | exact zb_01 _) ?_
          refine ev_gT [true] [] rfl ?_
          refine ev_retz rfl (by first | decide | exact zb_01 _) ?_
          refine ev_gT [false] [] rfl ?_
          refine ev_inV 1 k_MM_357 h_MM_is rfl rfl rfl rfl rfl ⟨by decide, by decide⟩ rfl ?_
          refine ev_gT [true, false] [] rfl ?_
          refine ev_retz rfl (by first | decide | exact zb_01 _) ?_
          refine ev_gT [false] [] rfl ?_
          refine ev_inV 1 k_MM_277 h_MM_number rfl rfl rfl rfl rfl ⟨by decide, by decide⟩ rfl ?_
          refine ev_gT [] [] rfl ?_
          refine ev_retl rfl ?_
          refine ev_g0 rfl ?_
          refine ev_inV 2 k_MM_360 h_MM_holdsIndex rfl rfl rfl rfl rfl ⟨by decide, by decide⟩ rfl ?_
          refine ev_gT [] [] rfl ?_
          refine ev_inS 3 k_MM_188 h_MM_in rfl rfl rfl rfl ⟨by decide, by decide⟩ rfl ?_
          refine ev_gT [true] [] rfl ?_
          refine ev_retz rfl (by first | decide | exact zb_01 _) ?_
          refine ev_gT [false] [] rfl ?_
          refine ev_retz rfl (by first | decide | exact zb_01 _) ?_
          refine ev_gT [false] [] rfl ?_
          refine ev_ret rfl ?_
          exact ⟨rfl, xj, xd, xf, xo, xi, xn, nI 2, rfl, bdd, lf_T, lf_T, hC, hM⟩
        · skip
          refine ev_gT [true] [] rfl ?_
          refine ev_retz rfl (by first | decide | exact zb_01 _) ?_
          refine ev_gT [false] [] rfl ?_
          refine ev_reti rfl ?_
          refine ev_g0 rfl ?_
          refine ev_reti rfl ?_
          refine ct_of h_MM_stores rfl rfl rfl ?_
          refine ev_g0 rfl ?_
          refine ev_inV 1 k_MM_344 h_MM_hold rfl rfl rfl rfl rfl ⟨by decide, by decide⟩ rfl ?_
          refine ev_gT [] [] rfl ?_
          refine ev_reti rfl ?_
          refine ev_g0 rfl ?_
          refine ev_inV 2 k_MM_354 h_MM_takes rfl rfl rfl rfl rfl ⟨by decide, by decide⟩ rfl ?_
          refine ev_gT [false] [] rfl ?_
          refine ev_inV 2 k_MM_202 h_MM_isKind rfl rfl rfl rfl rfl ⟨by decide, by decide⟩ rfl ?_
          refine ev_gT [true, false] [] rfl ?_
          refine ev_retz rfl (by first | decide | exact zb_01 _) ?_
          refine ev_gT [true] [] rfl ?_
          refine ev_retz rfl (by first | decide | exact zb_01 _) ?_
          refine ev_gT [false] [] rfl ?_
          refine ev_inV 1 k_MM_357 h_MM_is rfl rfl rfl rfl rfl ⟨by decide, by decide⟩ rfl ?_
          refine ev_gT [true, false] [] rfl ?_
          refine ev_retz rfl (by first | decide | exact zb_01 _) ?_
          refine ev_gT [false] [] rfl ?_
          refine ev_inV 1 k_MM_277 h_MM_number rfl rfl rfl rfl rfl ⟨by decide, by decide⟩ rfl ?_
          refine ev_gT [] [] rfl ?_
          refine ev_retl rfl ?_
          refine ev_g0 rfl ?_
          refine ev_inV 2 k_MM_360 h_MM_holdsIndex rfl rfl rfl rfl rfl ⟨by decide, by decide⟩ rfl ?_
          refine ev_gT [] [] rfl ?_
          refine ev_inS 3 k_MM_188 h_MM_in rfl rfl rfl rfl ⟨by decide, by decide⟩ rfl ?_
          refine ev_gT [false, true] [] rfl ?_
          refine ev_retz rfl (by first | decide | exact zb_01 _) ?_
          refine ev_gT [false] [] rfl ?_
          refine ev_retz rfl (by first | decide | exact zb_01 _) ?_
          refine ev_gT [false] [] rfl ?_
          refine ev_ret rfl ?_
          exact ⟨rfl, xj, xd, xf, xo, xi, xn, nI 2, rfl, bdd, lf_T, lf_T, hC, hM⟩
      · skip
        refine ev_g0 rfl ?_
        refine ev_reti rfl ?_
        refine ev_g0 rfl ?_
        refine ev_reti rfl ?_
        refine ct_of h_MM_stores rfl rfl rfl ?_
        refine ev_g0 rfl ?_
        refine ev_inV 1 k_MM_344 h_MM_hold rfl rfl rfl rfl rfl ⟨by decide, by decide⟩ rfl ?_
        refine ev_gT [] [] rfl ?_
        refine ev_reti rfl ?_
        refine ev_g0 rfl ?_
        refine ev_inV 2 k_MM_354 h_MM_takes rfl rfl rfl rfl rfl ⟨by decide, by decide⟩ rfl ?_
        refine ev_gT [false] [] rfl ?_
        refine ev_inV 2 k_MM_202 h_MM_isKind rfl rfl rfl rfl rfl ⟨by decide, by decide⟩ rfl ?_
        refine ev_gT [true, true] [] rfl ?_
        refine ev_retz rfl (by first | decide | exact zb_01 _) ?_
        refine ev_gT [false] [] rfl ?_
        refine ev_retz rfl (by first | decide | exact zb_01 _) ?_
        refine ev_gT [true] [] rfl ?_
        refine ev_ret rfl ?_
        exact ⟨rfl, xj, xd, xf, xo, xi, xn, nI 3, rfl, bdd, lf_T, lf_T, hC, hM⟩
