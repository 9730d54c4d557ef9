theorem ev_gW {Y : mm_Y} {μ0 : mm_M} {rem : List mm_E} {L : mm_L} {st : List mm_V} {μ : mm_M} {Post : Option mm_V → mm_M → Prop} (bs : List Bool) (os : List (Option Nat)) {e2 : mm_E} {rem2 : List mm_E} {L2 : mm_L} {st2 : List mm_V} {μ2 : mm_M} {P2 : Prop} (h : mm_go 5000 (mm_co Y) rem L st μ bs os True = some (e2 :: rem2, L2, st2, μ2, P2)) (k : Ev Y μ0 (e2 :: rem2) L2 st2 μ2 Post) (hp : P2 := by (repeat' apply And.intro) <;> first | exact trivial | assumption | omega | (simp (disch := first | assumption | omega | decide | exact rc_iflt hC (by assumption) (by assumption) | exact rc_iff hC (by assumption) | exact l2f_n _ | exact i2f_n _ | exact d2f_n (rc_idbl hC (by assumption) (by assumption)) | exact d2f_n (rc_irea hC (by assumption) (by assumption) (by omega) (by omega))) only [i_add, i_mul, n_cl, nI_and7, nI_and3, v_in, i_eq, i_lt, i_le, i_eq0, i_lt0, i_ge0, i_gt0, i_le0, lg_cmp_eq, lg_cmp_ge, lg_cmp_gt, lg_cmp_le, lg_cmp_lt, zb_e0, zb_n0, Classical.not_not, up_ne, Nat.zero_add, Nat.add_zero, rc_num hC, rc_hol hC, rc_who hC, rc_rea hC, rc_par hC, rc_nn hC, rc_xx hC, rc_ff hC, rc_nxt hC, rc_lin hC, rc_sor hC, rc_len hC, rc_own hC, rc_tim hC, rc_tal hC, rc_dbl hC, rc_flt hC, rc_mad hC, rc_trc hC, rc_mk0 hC, rc_mk1 hC, rc_mk2 hC, rc_tix hC, rc_thg hC, rm_num hM, rm_hol hM, rm_who hM, rm_rea hM, rm_par hM, rm_nn hM, rm_xx hM, rm_ff hM, rm_nxt hM, rm_lin hM, rm_sor hM, rm_len hM, rm_own hM, rm_tim hM, rm_tal hM, rm_dbl hM, rm_flt hM, rm_mad hM, rm_trc hM, rm_mk hM, tR_s, tR_n, eI_s, eI_n, e_nm, e_mm, lN_i, l_lt, l_le, l_eq, l_z, lN_t, nI_tl, n_s1, i_sub, eLi, eL_s, eL_n, up_eq, mkz, i_l1, i_l2, i_l3, n_ti, i_tl2, e_mn, f2d_i, d2f_i, dff, rc_idbl hC, rc_iflt hC, rc_ixx hC, rc_iff hC, rc_irea hC, l2d_n, i2d_n, l2f_n, i2f_n, rm_mk0 hM, rm_mk1 hM, rm_mk2 hM, mks0, mks1, mks2, i_lk2, i_lk3, *] <;> first | assumption | omega | decide)) : Ev Y μ0 rem L st μ Post := ev_go bs os h hp k
theorem ev_bW {Y : mm_Y} {μ0 : mm_M} {rem : List mm_E} {L : mm_L} {st : List mm_V} {μ : mm_M} {Post : Option mm_V → mm_M → Prop} {e2 e3 : mm_E} {rem2 rem3 : List mm_E} {L2 L3 : mm_L} {st2 st3 : List mm_V} {μ2 μ3 : mm_M} {c c2 d d2 : Prop} (hT : mm_go 1 (mm_co Y) rem L st μ [true] [] True = some (e2 :: rem2, L2, st2, μ2, True ∧ c)) (hF : mm_go 1 (mm_co Y) rem L st μ [false] [] True = some (e3 :: rem3, L3, st3, μ3, True ∧ c2)) (kt : d → Ev Y μ0 (e2 :: rem2) L2 st2 μ2 Post) (kf : d2 → Ev Y μ0 (e3 :: rem3) L3 st3 μ3 Post) (hc : ¬ c → c2 := by first | exact id | exact Classical.not_not.mp) (g1 : c → d := by intro hh; (try simp (disch := first | assumption | omega | decide | exact rc_iflt hC (by assumption) (by assumption) | exact rc_iff hC (by assumption) | exact l2f_n _ | exact i2f_n _ | exact d2f_n (rc_idbl hC (by assumption) (by assumption)) | exact d2f_n (rc_irea hC (by assumption) (by assumption) (by omega) (by omega))) only [i_add, i_mul, n_cl, nI_and7, nI_and3, v_in, i_eq, i_lt, i_le, i_eq0, i_lt0, i_ge0, i_gt0, i_le0, lg_cmp_eq, lg_cmp_ge, lg_cmp_gt, lg_cmp_le, lg_cmp_lt, zb_e0, zb_n0, Classical.not_not, up_ne, Nat.zero_add, Nat.add_zero, rc_num hC, rc_hol hC, rc_who hC, rc_rea hC, rc_par hC, rc_nn hC, rc_xx hC, rc_ff hC, rc_nxt hC, rc_lin hC, rc_sor hC, rc_len hC, rc_own hC, rc_tim hC, rc_tal hC, rc_dbl hC, rc_flt hC, rc_mad hC, rc_trc hC, rc_mk0 hC, rc_mk1 hC, rc_mk2 hC, rc_tix hC, rc_thg hC, rm_num hM, rm_hol hM, rm_who hM, rm_rea hM, rm_par hM, rm_nn hM, rm_xx hM, rm_ff hM, rm_nxt hM, rm_lin hM, rm_sor hM, rm_len hM, rm_own hM, rm_tim hM, rm_tal hM, rm_dbl hM, rm_flt hM, rm_mad hM, rm_trc hM, rm_mk hM, tR_s, tR_n, eI_s, eI_n, e_nm, e_mm, lN_i, l_lt, l_le, l_eq, l_z, lN_t, nI_tl, n_s1, i_sub, eLi, eL_s, eL_n, up_eq, mkz, i_l1, i_l2, i_l3, n_ti, i_tl2, e_mn, f2d_i, d2f_i, dff, rc_idbl hC, rc_iflt hC, rc_ixx hC, rc_iff hC, rc_irea hC, l2d_n, i2d_n, l2f_n, i2f_n, rm_mk0 hM, rm_mk1 hM, rm_mk2 hM, mks0, mks1, mks2, i_lk2, i_lk3, *] at hh); exact hh) (g2 : c2 → d2 := by intro hh; (try simp (disch := first | assumption | omega | decide | exact rc_iflt hC (by assumption) (by assumption) | exact rc_iff hC (by assumption) | exact l2f_n _ | exact i2f_n _ | exact d2f_n (rc_idbl hC (by assumption) (by assumption)) | exact d2f_n (rc_irea hC (by assumption) (by assumption) (by omega) (by omega))) only [i_add, i_mul, n_cl, nI_and7, nI_and3, v_in, i_eq, i_lt, i_le, i_eq0, i_lt0, i_ge0, i_gt0, i_le0, lg_cmp_eq, lg_cmp_ge, lg_cmp_gt, lg_cmp_le, lg_cmp_lt, zb_e0, zb_n0, Classical.not_not, up_ne, Nat.zero_add, Nat.add_zero, rc_num hC, rc_hol hC, rc_who hC, rc_rea hC, rc_par hC, rc_nn hC, rc_xx hC, rc_ff hC, rc_nxt hC, rc_lin hC, rc_sor hC, rc_len hC, rc_own hC, rc_tim hC, rc_tal hC, rc_dbl hC, rc_flt hC, rc_mad hC, rc_trc hC, rc_mk0 hC, rc_mk1 hC, rc_mk2 hC, rc_tix hC, rc_thg hC, rm_num hM, rm_hol hM, rm_who hM, rm_rea hM, rm_par hM, rm_nn hM, rm_xx hM, rm_ff hM, rm_nxt hM, rm_lin hM, rm_sor hM, rm_len hM, rm_own hM, rm_tim hM, rm_tal hM, rm_dbl hM, rm_flt hM, rm_mad hM, rm_trc hM, rm_mk hM, tR_s, tR_n, eI_s, eI_n, e_nm, e_mm, lN_i, l_lt, l_le, l_eq, l_z, lN_t, nI_tl, n_s1, i_sub, eLi, eL_s, eL_n, up_eq, mkz, i_l1, i_l2, i_l3, n_ti, i_tl2, e_mn, f2d_i, d2f_i, dff, rc_idbl hC, rc_iflt hC, rc_ixx hC, rc_iff hC, rc_irea hC, l2d_n, i2d_n, l2f_n, i2f_n, rm_mk0 hM, rm_mk1 hM, rm_mk2 hM, mks0, mks1, mks2, i_lk2, i_lk3, *] at hh); exact hh) : Ev Y μ0 rem L st μ Post := ev_br hT hF hc (fun h => kt (g1 h)) (fun h => kf (g2 h))
theorem lf_W {p : Prop} (h : p := by first | assumption | (simp (disch := first | assumption | omega | decide | exact rc_iflt hC (by assumption) (by assumption) | exact rc_iff hC (by assumption) | exact l2f_n _ | exact i2f_n _ | exact d2f_n (rc_idbl hC (by assumption) (by assumption)) | exact d2f_n (rc_irea hC (by assumption) (by assumption) (by omega) (by omega))) only [i_add, i_mul, n_cl, nI_and7, nI_and3, v_in, i_eq, i_lt, i_le, i_eq0, i_lt0, i_ge0, i_gt0, i_le0, lg_cmp_eq, lg_cmp_ge, lg_cmp_gt, lg_cmp_le, lg_cmp_lt, zb_e0, zb_n0, Classical.not_not, up_ne, Nat.zero_add, Nat.add_zero, rc_num hC, rc_hol hC, rc_who hC, rc_rea hC, rc_par hC, rc_nn hC, rc_xx hC, rc_ff hC, rc_nxt hC, rc_lin hC, rc_sor hC, rc_len hC, rc_own hC, rc_tim hC, rc_tal hC, rc_dbl hC, rc_flt hC, rc_mad hC, rc_trc hC, rc_mk0 hC, rc_mk1 hC, rc_mk2 hC, rc_tix hC, rc_thg hC, rm_num hM, rm_hol hM, rm_who hM, rm_rea hM, rm_par hM, rm_nn hM, rm_xx hM, rm_ff hM, rm_nxt hM, rm_lin hM, rm_sor hM, rm_len hM, rm_own hM, rm_tim hM, rm_tal hM, rm_dbl hM, rm_flt hM, rm_mad hM, rm_trc hM, rm_mk hM, tR_s, tR_n, eI_s, eI_n, e_nm, e_mm, lN_i, l_lt, l_le, l_eq, l_z, lN_t, nI_tl, n_s1, i_sub, eLi, eL_s, eL_n, up_eq, mkz, i_l1, i_l2, i_l3, n_ti, i_tl2, e_mn, f2d_i, d2f_i, dff, rc_idbl hC, rc_iflt hC, rc_ixx hC, rc_iff hC, rc_irea hC, l2d_n, i2d_n, l2f_n, i2f_n, rm_mk0 hM, rm_mk1 hM, rm_mk2 hM, mks0, mks1, mks2, i_lk2, i_lk3, *] <;> first | assumption | omega | decide) | rfl) : p := h
theorem A51_0 {ci : Nat → Nat → Nat → Int32} {cn : Nat → Nat → Nat → Nat} {co : Nat → Option Nat} {xj : Nat → Nat → Nat → Int64} {xd : Nat → Nat → Nat → UInt64} {xf : Nat → Nat → Nat → UInt32} {xo : Nat → Nat → Nat → Option Nat} {xi : Nat → Nat → Nat → Int32} {xn : Nat → Nat → Nat → Nat} {K : Nat → Nat} {I : Nat → Nat → Int32} {J : Nat → Nat → Int64} {F : Nat → Nat → UInt32} {D : Nat → Nat → UInt64} {R : Nat → Nat → Option Nat} {nx sl : Nat} {Km : Nat → Nat} {Im : Nat → Nat → Int32} {Jm : Nat → Nat → Int64} {Fm : Nat → Nat → UInt32} {Dm : Nat → Nat → UInt64} {Rm : Nat → Nat → Option Nat} {nxm slm : Nat} (hC : RC ci cn co xj xd xf xo xi xn I J F D R nx sl) (hM : RM ci cn co xj xd xf xo xi xn Im Jm Dm) {t a c : Nat} {go : Int32} (ht : t < 3) (ha : a < 8) (hc : c < 8) (x1 : Im 6 39 = nI t) (x2 : Im 6 40 = nI a) (x3 : Im 6 41 = nI 0) (x4 : Im 6 42 = nI c) (x5 : Im 6 43 = nI 0) (x6 : Im 6 44 = go) : Ct Y_OA_perform [vr 4 13, vr 8 (32 + 7 * t), vi (nI 51), vi (nI a), vi (nI 0), vi (nI c)] (K, I, J, F, D, R, nx, sl) (fun r μ1 => Ct Y_MM_meets [vr 11 6, vi (nI 51)] (Km, Im, Jm, Fm, Dm, Rm, nxm, slm) (fun r2 μ2 => r2 = none ∧ QA ci cn co go r μ1 μ2)) := by
  rcases ho : xo 0 t c with _ | q
  · skip
    refine ct_of h_OA_perform rfl rfl rfl ?_
    refine ev_gW [false] [] rfl ?_
    refine ev_inV 1 k_OA_15 h_SD_t rfl rfl rfl rfl rfl ⟨by decide, by decide⟩ rfl ?_
    refine ev_gW [] [none] rfl ?_
    refine ev_retn rfl ?_
    refine ev_g0 rfl ?_
    refine ev_inS 4 k_OA_21 h_OA_getField rfl rfl rfl rfl ⟨by decide, by decide⟩ rfl ?_
    refine ev_g0 rfl ?_
    refine ev_reti rfl ?_
    refine ev_g0 rfl ?_
    refine ev_reti rfl ?_
    refine ct_of h_MM_meets rfl rfl rfl ?_
    refine ev_gW [false] [] rfl ?_
    refine ev_inV 0 k_MM_396 h_MM_reads rfl rfl rfl rfl rfl ⟨by decide, by decide⟩ rfl ?_
    refine ev_g0 rfl ?_
    refine ev_inV 1 k_MM_344 h_MM_hold rfl rfl rfl rfl rfl ⟨by decide, by decide⟩ rfl ?_
    refine ev_gW [] [] rfl ?_
    refine ev_reti rfl ?_
    refine ev_g0 rfl ?_
    refine ev_inS 1 k_MM_386 h_MM_kindOfField rfl rfl rfl rfl ⟨by decide, by decide⟩ rfl ?_
    refine ev_gW [true, true] [] rfl ?_
    refine ev_reti rfl ?_
    refine ev_g0 rfl ?_
    refine ev_inV 2 k_MM_354 h_MM_takes rfl rfl rfl rfl rfl ⟨by decide, by decide⟩ rfl ?_
    refine ev_gW [true] [] rfl ?_
    refine ev_retz rfl (by first | decide | exact zb_01 _) ?_
    refine ev_gW [false] [] rfl ?_
    refine ev_inV 1 k_MM_357 h_MM_is rfl rfl rfl rfl rfl ⟨by decide, by decide⟩ rfl ?_
    refine ev_gW [false, true] [] rfl ?_
    refine ev_retz rfl (by first | decide | exact zb_01 _) ?_
    refine ev_gW [false] [] rfl ?_
    refine ev_ret rfl ?_
    refine ev_g0 rfl ?_
    refine ev_ret rfl ?_
    exact ⟨rfl, xj, xd, xf, xo, xi, xn, nI 1, rfl, bdd, lf_W, lf_W, hC, hM⟩
  · skip
    have hq := rc_ihol hC ht hc _ ho
    have zq := rc_isor hC hq
    have yq := rc_imad hC
    refine ct_of h_OA_perform rfl rfl rfl ?_
    refine ev_gW [false] [] rfl ?_
    refine ev_inV 1 k_OA_15 h_SD_t rfl rfl rfl rfl rfl ⟨by decide, by decide⟩ rfl ?_
    refine ev_gW [] [some (94 + 4 * q)] rfl ?_
    refine ev_reta rfl ?_
    refine ev_g0 rfl ?_
    refine ev_inS 4 k_OA_21 h_OA_getField rfl rfl rfl rfl ⟨by decide, by decide⟩ rfl ?_
    refine ev_g0 rfl ?_
    refine ev_inS 1 k_OA_65 h_OA_ownerOf rfl rfl rfl rfl ⟨by decide, by decide⟩ rfl ?_
    refine ev_gW [true, true] [] rfl ?_
    refine ev_reti rfl ?_
    refine ev_g0 rfl ?_
    refine ev_inV 1 k_OA_28 h_TH_isA rfl rfl rfl rfl rfl ⟨by decide, by decide⟩ rfl ?_
    refine ev_gW [false, true, false, false] [none] rfl ?_
    refine ev_inV 0 k_TH_73 h_TH_isRow rfl rfl rfl rfl rfl ⟨by decide, by decide⟩ rfl ?_
    refine ev_g0 rfl ?_
    refine ev_bW rfl rfl (fun h_1 => ?_) (fun h_1 => ?_)
    · skip
      refine ev_g0 rfl ?_
      refine ev_retz rfl (by first | decide | exact zb_01 _) ?_
      refine ev_gW [false] [] rfl ?_
      refine ev_inS 2 k_TH_77 h_TH_isUnder rfl rfl rfl rfl ⟨by decide, by decide⟩ rfl ?_
      refine ev_gW [true] [] rfl ?_
      refine ev_retz rfl (by first | decide | exact zb_01 _) ?_
      refine ev_gW [false] [] rfl ?_
      refine ev_retz rfl (by first | decide | exact zb_01 _) ?_
      refine ev_gW [true] [some 0] rfl ?_
      refine ev_inV 2 k_OA_42 h_SD_setN rfl rfl rfl rfl rfl ⟨by decide, by decide⟩ rfl ?_
      refine ev_gW [] [] rfl ?_
      refine ev_ret rfl ?_
      refine ev_g0 rfl ?_
      refine ev_reti rfl ?_
      refine ev_g0 rfl ?_
      refine ev_reti rfl ?_
      refine ct_of h_MM_meets rfl rfl rfl ?_
      refine ev_gW [false] [] rfl ?_
      refine ev_inV 0 k_MM_396 h_MM_reads rfl rfl rfl rfl rfl ⟨by decide, by decide⟩ rfl ?_
      refine ev_g0 rfl ?_
      refine ev_inV 1 k_MM_344 h_MM_hold rfl rfl rfl rfl rfl ⟨by decide, by decide⟩ rfl ?_
      refine ev_gW [] [] rfl ?_
      refine ev_reti rfl ?_
      refine ev_g0 rfl ?_
      refine ev_inS 1 k_MM_386 h_MM_kindOfField rfl rfl rfl rfl ⟨by decide, by decide⟩ rfl ?_
      refine ev_gW [true, true] [] rfl ?_
      refine ev_reti rfl ?_
      refine ev_g0 rfl ?_
      refine ev_inV 2 k_MM_354 h_MM_takes rfl rfl rfl rfl rfl ⟨by decide, by decide⟩ rfl ?_
      refine ev_gW [false] [] rfl ?_
      refine ev_inV 2 k_MM_202 h_MM_isKind rfl rfl rfl rfl rfl ⟨by decide, by decide⟩ rfl ?_
      refine ev_gW [false, false, true, true, false, false] [] rfl ?_
      refine ev_inS 2 k_MM_192 h_MM_isOf rfl rfl rfl rfl ⟨by decide, by decide⟩ rfl ?_
      refine ev_gW [true] [] rfl ?_
      refine ev_retz rfl (by first | decide | exact zb_01 _) ?_
      refine ev_gW [false] [] rfl ?_
      refine ev_retz rfl (by first | decide | exact zb_01 _) ?_
      refine ev_gW [true] [] rfl ?_
      refine ev_retz rfl (by first | decide | exact zb_01 _) ?_
      refine ev_gW [false] [] rfl ?_
      refine ev_inV 1 k_MM_357 h_MM_is rfl rfl rfl rfl rfl ⟨by decide, by decide⟩ rfl ?_
      refine ev_gW [true, false] [] rfl ?_
      refine ev_retz rfl (by first | decide | exact zb_01 _) ?_
      refine ev_gW [true] [some 0] rfl ?_
      refine ev_inV 2 k_MM_288 h_MM_lay rfl rfl rfl rfl rfl ⟨by decide, by decide⟩ rfl ?_
      refine ev_gW [] [] rfl ?_
      refine ev_ret rfl ?_
      refine ev_g0 rfl ?_
      refine ev_ret rfl ?_
      refine ev_g0 rfl ?_
      refine ev_ret rfl ?_
      exact ⟨rfl, (u3 xj 0 t a (xj 2 q 0)), xd, xf, xo, xi, xn, nI 0, rfl, bdd, lf_W, lf_W, (CU_num hC ht ha lf_W lf_W), (MU_num hM ht ha lf_W lf_W (fun i hi => (rc_isor hC hi).2.2.1))⟩
    · skip
      refine ev_g0 rfl ?_
      refine ev_retz rfl (by first | decide | exact zb_01 _) ?_
      refine ev_gW [true] [] rfl ?_
      refine ev_retz rfl (by first | decide | exact zb_01 _) ?_
      refine ev_gW [false] [] rfl ?_
      refine ev_reti rfl ?_
      refine ev_g0 rfl ?_
      refine ev_reti rfl ?_
      refine ct_of h_MM_meets rfl rfl rfl ?_
      refine ev_gW [false] [] rfl ?_
      refine ev_inV 0 k_MM_396 h_MM_reads rfl rfl rfl rfl rfl ⟨by decide, by decide⟩ rfl ?_
      refine ev_g0 rfl ?_
      refine ev_inV 1 k_MM_344 h_MM_hold rfl rfl rfl rfl rfl ⟨by decide, by decide⟩ rfl ?_
      refine ev_gW [] [] rfl ?_
      refine ev_reti rfl ?_
      refine ev_g0 rfl ?_
      refine ev_inS 1 k_MM_386 h_MM_kindOfField rfl rfl rfl rfl ⟨by decide, by decide⟩ rfl ?_
      refine ev_gW [true, true] [] rfl ?_
      refine ev_reti rfl ?_
      refine ev_g0 rfl ?_
      refine ev_inV 2 k_MM_354 h_MM_takes rfl rfl rfl rfl rfl ⟨by decide, by decide⟩ rfl ?_
      refine ev_gW [false] [] rfl ?_
      refine ev_inV 2 k_MM_202 h_MM_isKind rfl rfl rfl rfl rfl ⟨by decide, by decide⟩ rfl ?_
      refine ev_gW [false, false, true, true, false, true] [] rfl ?_
      refine ev_retz rfl (by first | decide | exact zb_01 _) ?_
      refine ev_gW [false] [] rfl ?_
      refine ev_retz rfl (by first | decide | exact zb_01 _) ?_
      refine ev_gW [true] [] rfl ?_
      refine ev_ret rfl ?_
      refine ev_g0 rfl ?_
      refine ev_ret rfl ?_
      exact ⟨rfl, xj, xd, xf, xo, xi, xn, nI 3, rfl, bdd, lf_W, lf_W, hC, hM⟩
theorem A51_1 {ci : Nat → Nat → Nat → Int32} {cn : Nat → Nat → Nat → Nat} {co : Nat → Option Nat} {xj : Nat → Nat → Nat → Int64} {xd : Nat → Nat → Nat → UInt64} {xf : Nat → Nat → Nat → UInt32} {xo : Nat → Nat → Nat → Option Nat} {xi : Nat → Nat → Nat → Int32} {xn : Nat → Nat → Nat → Nat} {K : Nat → Nat} {I : Nat → Nat → Int32} {J : Nat → Nat → Int64} {F : Nat → Nat → UInt32} {D : Nat → Nat → UInt64} {R : Nat → Nat → Option Nat} {nx sl : Nat} {Km : Nat → Nat} {Im : Nat → Nat → Int32} {Jm : Nat → Nat → Int64} {Fm : Nat → Nat → UInt32} {Dm : Nat → Nat → UInt64} {Rm : Nat → Nat → Option Nat} {nxm slm : Nat} (hC : RC ci cn co xj xd xf xo xi xn I J F D R nx sl) (hM : RM ci cn co xj xd xf xo xi xn Im Jm Dm) {t a c : Nat} {go : Int32} (ht : t < 3) (ha : a < 4) (hc : c < 8) (x1 : Im 6 39 = nI t) (x2 : Im 6 40 = nI a) (x3 : Im 6 41 = nI 1) (x4 : Im 6 42 = nI c) (x5 : Im 6 43 = nI 0) (x6 : Im 6 44 = go) : Ct Y_OA_perform [vr 4 13, vr 8 (32 + 7 * t), vi (nI 51), vi (nI a), vi (nI 1), vi (nI c)] (K, I, J, F, D, R, nx, sl) (fun r μ1 => Ct Y_MM_meets [vr 11 6, vi (nI 51)] (Km, Im, Jm, Fm, Dm, Rm, nxm, slm) (fun r2 μ2 => r2 = none ∧ QA ci cn co go r μ1 μ2)) := by
  rcases ho : xo 0 t c with _ | q
  · skip
    refine ct_of h_OA_perform rfl rfl rfl ?_
    refine ev_gW [false] [] rfl ?_
    refine ev_inV 1 k_OA_15 h_SD_t rfl rfl rfl rfl rfl ⟨by decide, by decide⟩ rfl ?_
    refine ev_gW [] [none] rfl ?_
    refine ev_retn rfl ?_
    refine ev_g0 rfl ?_
    refine ev_inS 4 k_OA_21 h_OA_getField rfl rfl rfl rfl ⟨by decide, by decide⟩ rfl ?_
    refine ev_g0 rfl ?_
    refine ev_reti rfl ?_
    refine ev_g0 rfl ?_
    refine ev_reti rfl ?_
    refine ct_of h_MM_meets rfl rfl rfl ?_
    refine ev_gW [false] [] rfl ?_
    refine ev_inV 0 k_MM_396 h_MM_reads rfl rfl rfl rfl rfl ⟨by decide, by decide⟩ rfl ?_
    refine ev_g0 rfl ?_
    refine ev_inV 1 k_MM_344 h_MM_hold rfl rfl rfl rfl rfl ⟨by decide, by decide⟩ rfl ?_
    refine ev_gW [] [] rfl ?_
    refine ev_reti rfl ?_
    refine ev_g0 rfl ?_
    refine ev_inS 1 k_MM_386 h_MM_kindOfField rfl rfl rfl rfl ⟨by decide, by decide⟩ rfl ?_
    refine ev_gW [true, true] [] rfl ?_
    refine ev_reti rfl ?_
    refine ev_g0 rfl ?_
    refine ev_inV 2 k_MM_354 h_MM_takes rfl rfl rfl rfl rfl ⟨by decide, by decide⟩ rfl ?_
    refine ev_gW [true] [] rfl ?_
    refine ev_retz rfl (by first | decide | exact zb_01 _) ?_
    refine ev_gW [false] [] rfl ?_
    refine ev_inV 1 k_MM_357 h_MM_is rfl rfl rfl rfl rfl ⟨by decide, by decide⟩ rfl ?_
    refine ev_gW [false, true] [] rfl ?_
    refine ev_retz rfl (by first | decide | exact zb_01 _) ?_
    refine ev_gW [false] [] rfl ?_
    refine ev_ret rfl ?_
    refine ev_g0 rfl ?_
    refine ev_ret rfl ?_
    exact ⟨rfl, xj, xd, xf, xo, xi, xn, nI 1, rfl, bdd, lf_W, lf_W, hC, hM⟩
  · skip
    have hq := rc_ihol hC ht hc _ ho
    have zq := rc_isor hC hq
    have yq := rc_imad hC
    refine ct_of h_OA_perform rfl rfl rfl ?_
    refine ev_gW [false] [] rfl ?_
    refine ev_inV 1 k_OA_15 h_SD_t rfl rfl rfl rfl rfl ⟨by decide, by decide⟩ rfl ?_
    refine ev_gW [] [some (94 + 4 * q)] rfl ?_
    refine ev_reta rfl ?_
    refine ev_g0 rfl ?_
    refine ev_inS 4 k_OA_21 h_OA_getField rfl rfl rfl rfl ⟨by decide, by decide⟩ rfl ?_
    refine ev_g0 rfl ?_
    refine ev_inS 1 k_OA_65 h_OA_ownerOf rfl rfl rfl rfl ⟨by decide, by decide⟩ rfl ?_
    refine ev_gW [true, true] [] rfl ?_
    refine ev_reti rfl ?_
    refine ev_g0 rfl ?_
    refine ev_inV 1 k_OA_28 h_TH_isA rfl rfl rfl rfl rfl ⟨by decide, by decide⟩ rfl ?_
    refine ev_gW [false, true, false, false] [none] rfl ?_
    refine ev_inV 0 k_TH_73 h_TH_isRow rfl rfl rfl rfl rfl ⟨by decide, by decide⟩ rfl ?_
    refine ev_g0 rfl ?_
    refine ev_bW rfl rfl (fun h_1 => ?_) (fun h_1 => ?_)
    · skip
      refine ev_g0 rfl ?_
      refine ev_retz rfl (by first | decide | exact zb_01 _) ?_
      refine ev_gW [false] [] rfl ?_
      refine ev_inS 2 k_TH_77 h_TH_isUnder rfl rfl rfl rfl ⟨by decide, by decide⟩ rfl ?_
      refine ev_gW [true] [] rfl ?_
      refine ev_retz rfl (by first | decide | exact zb_01 _) ?_
      refine ev_gW [false] [] rfl ?_
      refine ev_retz rfl (by first | decide | exact zb_01 _) ?_
      refine ev_gW [true] [some 1] rfl ?_
      refine ev_inV 2 k_OA_61 h_SD_setX rfl rfl rfl rfl rfl ⟨by decide, by decide⟩ rfl ?_
      refine ev_gW [] [] rfl ?_
      refine ev_ret rfl ?_
      refine ev_g0 rfl ?_
      refine ev_reti rfl ?_
      refine ev_g0 rfl ?_
      refine ev_reti rfl ?_
      refine ct_of h_MM_meets rfl rfl rfl ?_
      refine ev_gW [false] [] rfl ?_
      refine ev_inV 0 k_MM_396 h_MM_reads rfl rfl rfl rfl rfl ⟨by decide, by decide⟩ rfl ?_
      refine ev_g0 rfl ?_
      refine ev_inV 1 k_MM_344 h_MM_hold rfl rfl rfl rfl rfl ⟨by decide, by decide⟩ rfl ?_
      refine ev_gW [] [] rfl ?_
      refine ev_reti rfl ?_
      refine ev_g0 rfl ?_
      refine ev_inS 1 k_MM_386 h_MM_kindOfField rfl rfl rfl rfl ⟨by decide, by decide⟩ rfl ?_
      refine ev_gW [true, true] [] rfl ?_
      refine ev_reti rfl ?_
      refine ev_g0 rfl ?_
      refine ev_inV 2 k_MM_354 h_MM_takes rfl rfl rfl rfl rfl ⟨by decide, by decide⟩ rfl ?_
      refine ev_gW [false] [] rfl ?_
      refine ev_inV 2 k_MM_202 h_MM_isKind rfl rfl rfl rfl rfl ⟨by decide, by decide⟩ rfl ?_
      refine ev_gW [false, false, true, true, false, false] [] rfl ?_
      refine ev_inS 2 k_MM_192 h_MM_isOf rfl rfl rfl rfl ⟨by decide, by decide⟩ rfl ?_
      refine ev_gW [true] [] rfl ?_
      refine ev_retz rfl (by first | decide | exact zb_01 _) ?_
      refine ev_gW [false] [] rfl ?_
      refine ev_retz rfl (by first | decide | exact zb_01 _) ?_
      refine ev_gW [true] [] rfl ?_
      refine ev_retz rfl (by first | decide | exact zb_01 _) ?_
      refine ev_gW [false] [] rfl ?_
      refine ev_inV 1 k_MM_357 h_MM_is rfl rfl rfl rfl rfl ⟨by decide, by decide⟩ rfl ?_
      refine ev_gW [true, false] [] rfl ?_
      refine ev_retz rfl (by first | decide | exact zb_01 _) ?_
      refine ev_gW [true] [some 1] rfl ?_
      refine ev_inV 2 k_MM_281 h_MM_twin2 rfl rfl rfl rfl rfl ⟨by decide, by decide⟩ rfl ?_
      refine ev_gW [] [] rfl ?_
      refine ev_ret rfl ?_
      refine ev_g0 rfl ?_
      refine ev_ret rfl ?_
      refine ev_g0 rfl ?_
      refine ev_ret rfl ?_
      exact ⟨rfl, xj, (u3 xd 0 t a (xd 2 q 0)), xf, xo, xi, xn, nI 0, rfl, bdd, lf_W, lf_W, (CU_dbl hC ht ha (rc_ixx hC hq) lf_W lf_W), (MU_dbl hM ht ha lf_W lf_W (fun i hi => (rc_isor hC hi).2.2.1))⟩
    · skip
      refine ev_g0 rfl ?_
      refine ev_retz rfl (by first | decide | exact zb_01 _) ?_
      refine ev_gW [true] [] rfl ?_
      refine ev_retz rfl (by first | decide | exact zb_01 _) ?_
      refine ev_gW [false] [] rfl ?_
      refine ev_reti rfl ?_
      refine ev_g0 rfl ?_
      refine ev_reti rfl ?_
      refine ct_of h_MM_meets rfl rfl rfl ?_
      refine ev_gW [false] [] rfl ?_
      refine ev_inV 0 k_MM_396 h_MM_reads rfl rfl rfl rfl rfl ⟨by decide, by decide⟩ rfl ?_
      refine ev_g0 rfl ?_
      refine ev_inV 1 k_MM_344 h_MM_hold rfl rfl rfl rfl rfl ⟨by decide, by decide⟩ rfl ?_
      refine ev_gW [] [] rfl ?_
      refine ev_reti rfl ?_
      refine ev_g0 rfl ?_
      refine ev_inS 1 k_MM_386 h_MM_kindOfField rfl rfl rfl rfl ⟨by decide, by decide⟩ rfl ?_
      refine ev_gW [true, true] [] rfl ?_
      refine ev_reti rfl ?_
      refine ev_g0 rfl ?_
      refine ev_inV 2 k_MM_354 h_MM_takes rfl rfl rfl rfl rfl ⟨by decide, by decide⟩ rfl ?_
      refine ev_gW [false] [] rfl ?_
      refine ev_inV 2 k_MM_202 h_MM_isKind rfl rfl rfl rfl rfl ⟨by decide, by decide⟩ rfl ?_
      refine ev_gW [false, false, true, true, false, true] [] rfl ?_
      refine ev_retz rfl (by first | decide | exact zb_01 _) ?_
      refine ev_gW [false] [] rfl ?_
      refine ev_retz rfl (by first | decide | exact zb_01 _) ?_
      refine ev_gW [true] [] rfl ?_
      refine ev_ret rfl ?_
      refine ev_g0 rfl ?_
      refine ev_ret rfl ?_
      exact ⟨rfl, xj, xd, xf, xo, xi, xn, nI 3, rfl, bdd, lf_W, lf_W, hC, hM⟩
theorem A51_2 {ci : Nat → Nat → Nat → Int32} {cn : Nat → Nat → Nat → Nat} {co : Nat → Option Nat} {xj : Nat → Nat → Nat → Int64} {xd : Nat → Nat → Nat → UInt64} {xf : Nat → Nat → Nat → UInt32} {xo : Nat → Nat → Nat → Option Nat} {xi : Nat → Nat → Nat → Int32} {xn : Nat → Nat → Nat → Nat} {K : Nat → Nat} {I : Nat → Nat → Int32} {J : Nat → Nat → Int64} {F : Nat → Nat → UInt32} {D : Nat → Nat → UInt64} {R : Nat → Nat → Option Nat} {nx sl : Nat} {Km : Nat → Nat} {Im : Nat → Nat → Int32} {Jm : Nat → Nat → Int64} {Fm : Nat → Nat → UInt32} {Dm : Nat → Nat → UInt64} {Rm : Nat → Nat → Option Nat} {nxm slm : Nat} (hC : RC ci cn co xj xd xf xo xi xn I J F D R nx sl) (hM : RM ci cn co xj xd xf xo xi xn Im Jm Dm) {t a c : Nat} {go : Int32} (ht : t < 3) (ha : a < 4) (hc : c < 8) (x1 : Im 6 39 = nI t) (x2 : Im 6 40 = nI a) (x3 : Im 6 41 = nI 2) (x4 : Im 6 42 = nI c) (x5 : Im 6 43 = nI 0) (x6 : Im 6 44 = go) : Ct Y_OA_perform [vr 4 13, vr 8 (32 + 7 * t), vi (nI 51), vi (nI a), vi (nI 2), vi (nI c)] (K, I, J, F, D, R, nx, sl) (fun r μ1 => Ct Y_MM_meets [vr 11 6, vi (nI 51)] (Km, Im, Jm, Fm, Dm, Rm, nxm, slm) (fun r2 μ2 => r2 = none ∧ QA ci cn co go r μ1 μ2)) := by
  rcases ho : xo 0 t c with _ | q
  · skip
    refine ct_of h_OA_perform rfl rfl rfl ?_
    refine ev_gW [false] [] rfl ?_
    refine ev_inV 1 k_OA_15 h_SD_t rfl rfl rfl rfl rfl ⟨by decide, by decide⟩ rfl ?_
    refine ev_gW [] [none] rfl ?_
    refine ev_retn rfl ?_
    refine ev_g0 rfl ?_
    refine ev_inS 4 k_OA_21 h_OA_getField rfl rfl rfl rfl ⟨by decide, by decide⟩ rfl ?_
    refine ev_g0 rfl ?_
    refine ev_reti rfl ?_
    refine ev_g0 rfl ?_
    refine ev_reti rfl ?_
    refine ct_of h_MM_meets rfl rfl rfl ?_
    refine ev_gW [false] [] rfl ?_
    refine ev_inV 0 k_MM_396 h_MM_reads rfl rfl rfl rfl rfl ⟨by decide, by decide⟩ rfl ?_
    refine ev_g0 rfl ?_
    refine ev_inV 1 k_MM_344 h_MM_hold rfl rfl rfl rfl rfl ⟨by decide, by decide⟩ rfl ?_
    refine ev_gW [] [] rfl ?_
    refine ev_reti rfl ?_
    refine ev_g0 rfl ?_
    refine ev_inS 1 k_MM_386 h_MM_kindOfField rfl rfl rfl rfl ⟨by decide, by decide⟩ rfl ?_
    refine ev_gW [true, true] [] rfl ?_
    refine ev_reti rfl ?_
    refine ev_g0 rfl ?_
    refine ev_inV 2 k_MM_354 h_MM_takes rfl rfl rfl rfl rfl ⟨by decide, by decide⟩ rfl ?_
    refine ev_gW [true] [] rfl ?_
    refine ev_retz rfl (by first | decide | exact zb_01 _) ?_
    refine ev_gW [false] [] rfl ?_
    refine ev_inV 1 k_MM_357 h_MM_is rfl rfl rfl rfl rfl ⟨by decide, by decide⟩ rfl ?_
    refine ev_gW [false, true] [] rfl ?_
    refine ev_retz rfl (by first | decide | exact zb_01 _) ?_
    refine ev_gW [false] [] rfl ?_
    refine ev_ret rfl ?_
    refine ev_g0 rfl ?_
    refine ev_ret rfl ?_
    exact ⟨rfl, xj, xd, xf, xo, xi, xn, nI 1, rfl, bdd, lf_W, lf_W, hC, hM⟩
  · skip
    have hq := rc_ihol hC ht hc _ ho
    have zq := rc_isor hC hq
    have yq := rc_imad hC
    refine ct_of h_OA_perform rfl rfl rfl ?_
    refine ev_gW [false] [] rfl ?_
    refine ev_inV 1 k_OA_15 h_SD_t rfl rfl rfl rfl rfl ⟨by decide, by decide⟩ rfl ?_
    refine ev_gW [] [some (94 + 4 * q)] rfl ?_
    refine ev_reta rfl ?_
    refine ev_g0 rfl ?_
    refine ev_inS 4 k_OA_21 h_OA_getField rfl rfl rfl rfl ⟨by decide, by decide⟩ rfl ?_
    refine ev_g0 rfl ?_
    refine ev_inS 1 k_OA_65 h_OA_ownerOf rfl rfl rfl rfl ⟨by decide, by decide⟩ rfl ?_
    refine ev_gW [true, true] [] rfl ?_
    refine ev_reti rfl ?_
    refine ev_g0 rfl ?_
    refine ev_inV 1 k_OA_28 h_TH_isA rfl rfl rfl rfl rfl ⟨by decide, by decide⟩ rfl ?_
    refine ev_gW [false, true, false, false] [none] rfl ?_
    refine ev_inV 0 k_TH_73 h_TH_isRow rfl rfl rfl rfl rfl ⟨by decide, by decide⟩ rfl ?_
    refine ev_g0 rfl ?_
    refine ev_bW rfl rfl (fun h_1 => ?_) (fun h_1 => ?_)
    · skip
      refine ev_g0 rfl ?_
      refine ev_retz rfl (by first | decide | exact zb_01 _) ?_
      refine ev_gW [false] [] rfl ?_
      refine ev_inS 2 k_TH_77 h_TH_isUnder rfl rfl rfl rfl ⟨by decide, by decide⟩ rfl ?_
      refine ev_gW [true] [] rfl ?_
      refine ev_retz rfl (by first | decide | exact zb_01 _) ?_
      refine ev_gW [false] [] rfl ?_
      refine ev_retz rfl (by first | decide | exact zb_01 _) ?_
      refine ev_gW [true] [some 2] rfl ?_
      refine ev_inV 2 k_OA_80 h_SD_setF rfl rfl rfl rfl rfl ⟨by decide, by decide⟩ rfl ?_
      refine ev_gW [] [] rfl ?_
      refine ev_ret rfl ?_
      refine ev_g0 rfl ?_
      refine ev_reti rfl ?_
      refine ev_g0 rfl ?_
      refine ev_reti rfl ?_
      refine ct_of h_MM_meets rfl rfl rfl ?_
      refine ev_gW [false] [] rfl ?_
      refine ev_inV 0 k_MM_396 h_MM_reads rfl rfl rfl rfl rfl ⟨by decide, by decide⟩ rfl ?_
      refine ev_g0 rfl ?_
      refine ev_inV 1 k_MM_344 h_MM_hold rfl rfl rfl rfl rfl ⟨by decide, by decide⟩ rfl ?_
      refine ev_gW [] [] rfl ?_
      refine ev_reti rfl ?_
      refine ev_g0 rfl ?_
      refine ev_inS 1 k_MM_386 h_MM_kindOfField rfl rfl rfl rfl ⟨by decide, by decide⟩ rfl ?_
      refine ev_gW [true, true] [] rfl ?_
      refine ev_reti rfl ?_
      refine ev_g0 rfl ?_
      refine ev_inV 2 k_MM_354 h_MM_takes rfl rfl rfl rfl rfl ⟨by decide, by decide⟩ rfl ?_
      refine ev_gW [false] [] rfl ?_
      refine ev_inV 2 k_MM_202 h_MM_isKind rfl rfl rfl rfl rfl ⟨by decide, by decide⟩ rfl ?_
      refine ev_gW [false, false, true, true, false, false] [] rfl ?_
      refine ev_inS 2 k_MM_192 h_MM_isOf rfl rfl rfl rfl ⟨by decide, by decide⟩ rfl ?_
      refine ev_gW [true] [] rfl ?_
      refine ev_retz rfl (by first | decide | exact zb_01 _) ?_
      refine ev_gW [false] [] rfl ?_
      refine ev_retz rfl (by first | decide | exact zb_01 _) ?_
      refine ev_gW [true] [] rfl ?_
      refine ev_retz rfl (by first | decide | exact zb_01 _) ?_
      refine ev_gW [false] [] rfl ?_
      refine ev_inV 1 k_MM_357 h_MM_is rfl rfl rfl rfl rfl ⟨by decide, by decide⟩ rfl ?_
      refine ev_gW [true, false] [] rfl ?_
      refine ev_retz rfl (by first | decide | exact zb_01 _) ?_
      refine ev_gW [true] [some 2] rfl ?_
      refine ev_inV 2 k_MM_292 h_MM_small2 rfl rfl rfl rfl rfl ⟨by decide, by decide⟩ rfl ?_
      refine ev_gW [] [] rfl ?_
      refine ev_ret rfl ?_
      refine ev_g0 rfl ?_
      refine ev_ret rfl ?_
      refine ev_g0 rfl ?_
      refine ev_ret rfl ?_
      exact ⟨rfl, xj, xd, (u3 xf 0 t a (xf 1 q 0)), xo, xi, xn, nI 0, rfl, bdd, lf_W, lf_W, (CU_flt hC ht ha (rc_iff hC hq) lf_W lf_W), (MU_flt hM ht ha lf_W lf_W (fun i hi => (rc_isor hC hi).2.2.1))⟩
    · skip
      refine ev_g0 rfl ?_
      refine ev_retz rfl (by first | decide | exact zb_01 _) ?_
      refine ev_gW [true] [] rfl ?_
      refine ev_retz rfl (by first | decide | exact zb_01 _) ?_
      refine ev_gW [false] [] rfl ?_
      refine ev_reti rfl ?_
      refine ev_g0 rfl ?_
      refine ev_reti rfl ?_
      refine ct_of h_MM_meets rfl rfl rfl ?_
      refine ev_gW [false] [] rfl ?_
      refine ev_inV 0 k_MM_396 h_MM_reads rfl rfl rfl rfl rfl ⟨by decide, by decide⟩ rfl ?_
      refine ev_g0 rfl ?_
      refine ev_inV 1 k_MM_344 h_MM_hold rfl rfl rfl rfl rfl ⟨by decide, by decide⟩ rfl ?_
      refine ev_gW [] [] rfl ?_
      refine ev_reti rfl ?_
      refine ev_g0 rfl ?_
      refine ev_inS 1 k_MM_386 h_MM_kindOfField rfl rfl rfl rfl ⟨by decide, by decide⟩ rfl ?_
      refine ev_gW [true, true] [] rfl ?_
      refine ev_reti rfl ?_
      refine ev_g0 rfl ?_
      refine ev_inV 2 k_MM_354 h_MM_takes rfl rfl rfl rfl rfl ⟨by decide, by decide⟩ rfl ?_
      refine ev_gW [false] [] rfl ?_
      refine ev_inV 2 k_MM_202 h_MM_isKind rfl rfl rfl rfl rfl ⟨by decide, by decide⟩ rfl ?_
      refine ev_gW [false, false, true, true, false, true] [] rfl ?_
      refine ev_retz rfl (by first | decide | exact zb_01 _) ?_
      refine ev_gW [false] [] rfl ?_
      refine ev_retz rfl (by first | decide | exact zb_01 _) ?_
      refine ev_gW [true] [] rfl ?_
      refine ev_ret rfl ?_
      refine ev_g0 rfl ?_
      refine ev_ret rfl ?_
      exact ⟨rfl, xj, xd, xf, xo, xi, xn, nI 3, rfl, bdd, lf_W, lf_W, hC, hM⟩
theorem A51_3 {ci : Nat → Nat → Nat → Int32} {cn : Nat → Nat → Nat → Nat} {co : Nat → Option Nat} {xj : Nat → Nat → Nat → Int64} {xd : Nat → Nat → Nat → UInt64} {xf : Nat → Nat → Nat → UInt32} {xo : Nat → Nat → Nat → Option Nat} {xi : Nat → Nat → Nat → Int32} {xn : Nat → Nat → Nat → Nat} {K : Nat → Nat} {I : Nat → Nat → Int32} {J : Nat → Nat → Int64} {F : Nat → Nat → UInt32} {D : Nat → Nat → UInt64} {R : Nat → Nat → Option Nat} {nx sl : Nat} {Km : Nat → Nat} {Im : Nat → Nat → Int32} {Jm : Nat → Nat → Int64} {Fm : Nat → Nat → UInt32} {Dm : Nat → Nat → UInt64} {Rm : Nat → Nat → Option Nat} {nxm slm : Nat} (hC : RC ci cn co xj xd xf xo xi xn I J F D R nx sl) (hM : RM ci cn co xj xd xf xo xi xn Im Jm Dm) {t a c : Nat} {go : Int32} (ht : t < 3) (ha : a < 8) (hc : c < 8) (x1 : Im 6 39 = nI t) (x2 : Im 6 40 = nI a) (x3 : Im 6 41 = nI 3) (x4 : Im 6 42 = nI c) (x5 : Im 6 43 = nI 0) (x6 : Im 6 44 = go) : Ct Y_OA_perform [vr 4 13, vr 8 (32 + 7 * t), vi (nI 51), vi (nI a), vi (nI 3), vi (nI c)] (K, I, J, F, D, R, nx, sl) (fun r μ1 => Ct Y_MM_meets [vr 11 6, vi (nI 51)] (Km, Im, Jm, Fm, Dm, Rm, nxm, slm) (fun r2 μ2 => r2 = none ∧ QA ci cn co go r μ1 μ2)) := by
  rcases ho : xo 0 t c with _ | q
  · skip
    refine ct_of h_OA_perform rfl rfl rfl ?_
    refine ev_gW [false] [] rfl ?_
    refine ev_inV 1 k_OA_15 h_SD_t rfl rfl rfl rfl rfl ⟨by decide, by decide⟩ rfl ?_
    refine ev_gW [] [none] rfl ?_
    refine ev_retn rfl ?_
    refine ev_g0 rfl ?_
    refine ev_inS 4 k_OA_21 h_OA_getField rfl rfl rfl rfl ⟨by decide, by decide⟩ rfl ?_
    refine ev_g0 rfl ?_
    refine ev_reti rfl ?_
    refine ev_g0 rfl ?_
    refine ev_reti rfl ?_
    refine ct_of h_MM_meets rfl rfl rfl ?_
    refine ev_gW [false] [] rfl ?_
    refine ev_inV 0 k_MM_396 h_MM_reads rfl rfl rfl rfl rfl ⟨by decide, by decide⟩ rfl ?_
    refine ev_g0 rfl ?_
    refine ev_inV 1 k_MM_344 h_MM_hold rfl rfl rfl rfl rfl ⟨by decide, by decide⟩ rfl ?_
    refine ev_gW [] [] rfl ?_
    refine ev_reti rfl ?_
    refine ev_g0 rfl ?_
    refine ev_inS 1 k_MM_386 h_MM_kindOfField rfl rfl rfl rfl ⟨by decide, by decide⟩ rfl ?_
    refine ev_gW [true, true] [] rfl ?_
    refine ev_reti rfl ?_
    refine ev_g0 rfl ?_
    refine ev_inV 2 k_MM_354 h_MM_takes rfl rfl rfl rfl rfl ⟨by decide, by decide⟩ rfl ?_
    refine ev_gW [true] [] rfl ?_
    refine ev_retz rfl (by first | decide | exact zb_01 _) ?_
    refine ev_gW [false] [] rfl ?_
    refine ev_inV 1 k_MM_357 h_MM_is rfl rfl rfl rfl rfl ⟨by decide, by decide⟩ rfl ?_
    refine ev_gW [false, true] [] rfl ?_
    refine ev_retz rfl (by first | decide | exact zb_01 _) ?_
    refine ev_gW [false] [] rfl ?_
    refine ev_ret rfl ?_
    refine ev_g0 rfl ?_
    refine ev_ret rfl ?_
    exact ⟨rfl, xj, xd, xf, xo, xi, xn, nI 1, rfl, bdd, lf_W, lf_W, hC, hM⟩
  · skip
    have hq := rc_ihol hC ht hc _ ho
    have zq := rc_isor hC hq
    have yq := rc_imad hC
    rcases hp : xo 2 q 0 with _ | u
    · skip
      refine ct_of h_OA_perform rfl rfl rfl ?_
      refine ev_gW [false] [] rfl ?_
      refine ev_inV 1 k_OA_15 h_SD_t rfl rfl rfl rfl rfl ⟨by decide, by decide⟩ rfl ?_
      refine ev_gW [] [some (94 + 4 * q)] rfl ?_
      refine ev_reta rfl ?_
      refine ev_g0 rfl ?_
      refine ev_inS 4 k_OA_21 h_OA_getField rfl rfl rfl rfl ⟨by decide, by decide⟩ rfl ?_
      refine ev_g0 rfl ?_
      refine ev_inS 1 k_OA_65 h_OA_ownerOf rfl rfl rfl rfl ⟨by decide, by decide⟩ rfl ?_
      refine ev_gW [true, true] [] rfl ?_
      refine ev_reti rfl ?_
      refine ev_g0 rfl ?_
      refine ev_inV 1 k_OA_28 h_TH_isA rfl rfl rfl rfl rfl ⟨by decide, by decide⟩ rfl ?_
      refine ev_gW [false, true, false, false] [none] rfl ?_
      refine ev_inV 0 k_TH_73 h_TH_isRow rfl rfl rfl rfl rfl ⟨by decide, by decide⟩ rfl ?_
      refine ev_g0 rfl ?_
      refine ev_bW rfl rfl (fun h_1 => ?_) (fun h_1 => ?_)
      · skip
        refine ev_g0 rfl ?_
        refine ev_retz rfl (by first | decide | exact zb_01 _) ?_
        refine ev_gW [false] [] rfl ?_
        refine ev_inS 2 k_TH_77 h_TH_isUnder rfl rfl rfl rfl ⟨by decide, by decide⟩ rfl ?_
        refine ev_gW [true] [] rfl ?_
        refine ev_retz rfl (by first | decide | exact zb_01 _) ?_
        refine ev_gW [false] [] rfl ?_
        refine ev_retz rfl (by first | decide | exact zb_01 _) ?_
        refine ev_gW [true] [some 3, none] rfl ?_
        refine ev_inV 2 k_OA_88 h_SD_setT rfl rfl rfl rfl rfl ⟨by decide, by decide⟩ rfl ?_
        refine ev_gW [] [] rfl ?_
        refine ev_ret rfl ?_
        refine ev_g0 rfl ?_
        refine ev_reti rfl ?_
        refine ev_g0 rfl ?_
        refine ev_reti rfl ?_
        refine ct_of h_MM_meets rfl rfl rfl ?_
        refine ev_gW [false] [] rfl ?_
        refine ev_inV 0 k_MM_396 h_MM_reads rfl rfl rfl rfl rfl ⟨by decide, by decide⟩ rfl ?_
        refine ev_g0 rfl ?_
        refine ev_inV 1 k_MM_344 h_MM_hold rfl rfl rfl rfl rfl ⟨by decide, by decide⟩ rfl ?_
        refine ev_gW [] [] rfl ?_
        refine ev_reti rfl ?_
        refine ev_g0 rfl ?_
        refine ev_inS 1 k_MM_386 h_MM_kindOfField rfl rfl rfl rfl ⟨by decide, by decide⟩ rfl ?_
        refine ev_gW [true, true] [] rfl ?_
        refine ev_reti rfl ?_
        refine ev_g0 rfl ?_
        refine ev_inV 2 k_MM_354 h_MM_takes rfl rfl rfl rfl rfl ⟨by decide, by decide⟩ rfl ?_
        refine ev_gW [false] [] rfl ?_
        refine ev_inV 2 k_MM_202 h_MM_isKind rfl rfl rfl rfl rfl ⟨by decide, by decide⟩ rfl ?_
        refine ev_gW [false, false, true, true, false, false] [] rfl ?_
        refine ev_inS 2 k_MM_192 h_MM_isOf rfl rfl rfl rfl ⟨by decide, by decide⟩ rfl ?_
        refine ev_gW [true] [] rfl ?_
        refine ev_retz rfl (by first | decide | exact zb_01 _) ?_
        refine ev_gW [false] [] rfl ?_
        refine ev_retz rfl (by first | decide | exact zb_01 _) ?_
        refine ev_gW [true] [] rfl ?_
        refine ev_retz rfl (by first | decide | exact zb_01 _) ?_
        refine ev_gW [false] [] rfl ?_
        refine ev_inV 1 k_MM_357 h_MM_is rfl rfl rfl rfl rfl ⟨by decide, by decide⟩ rfl ?_
        refine ev_gW [true, false] [] rfl ?_
        refine ev_retz rfl (by first | decide | exact zb_01 _) ?_
        refine ev_gW [true] [some 3] rfl ?_
        refine ev_inV 2 k_MM_336 h_MM_keep rfl rfl rfl rfl rfl ⟨by decide, by decide⟩ rfl ?_
        refine ev_gW [] [] rfl ?_
        refine ev_ret rfl ?_
        refine ev_g0 rfl ?_
        refine ev_ret rfl ?_
        refine ev_g0 rfl ?_
        refine ev_ret rfl ?_
        exact ⟨rfl, xj, xd, xf, (u3 xo 0 t a (none)), xi, xn, nI 0, rfl, bdd, lf_W, lf_W, (CU_hol hC ht ha (fun _ h => by cases h) lf_W lf_W), (MU_hol hM ht ha lf_W lf_W (fun i hi => (rc_isor hC hi).2.2.1))⟩
      · skip
        refine ev_g0 rfl ?_
        refine ev_retz rfl (by first | decide | exact zb_01 _) ?_
        refine ev_gW [true] [] rfl ?_
        refine ev_retz rfl (by first | decide | exact zb_01 _) ?_
        refine ev_gW [false] [] rfl ?_
        refine ev_reti rfl ?_
        refine ev_g0 rfl ?_
        refine ev_reti rfl ?_
        refine ct_of h_MM_meets rfl rfl rfl ?_
        refine ev_gW [false] [] rfl ?_
        refine ev_inV 0 k_MM_396 h_MM_reads rfl rfl rfl rfl rfl ⟨by decide, by decide⟩ rfl ?_
        refine ev_g0 rfl ?_
        refine ev_inV 1 k_MM_344 h_MM_hold rfl rfl rfl rfl rfl ⟨by decide, by decide⟩ rfl ?_
        refine ev_gW [] [] rfl ?_
        refine ev_reti rfl ?_
        refine ev_g0 rfl ?_
        refine ev_inS 1 k_MM_386 h_MM_kindOfField rfl rfl rfl rfl ⟨by decide, by decide⟩ rfl ?_
        refine ev_gW [true, true] [] rfl ?_
        refine ev_reti rfl ?_
        refine ev_g0 rfl ?_
        refine ev_inV 2 k_MM_354 h_MM_takes rfl rfl rfl rfl rfl ⟨by decide, by decide⟩ rfl ?_
        refine ev_gW [false] [] rfl ?_
        refine ev_inV 2 k_MM_202 h_MM_isKind rfl rfl rfl rfl rfl ⟨by decide, by decide⟩ rfl ?_
        refine ev_gW [false, false, true, true, false, true] [] rfl ?_
        refine ev_retz rfl (by first | decide | exact zb_01 _) ?_
        refine ev_gW [false] [] rfl ?_
        refine ev_retz rfl (by first | decide | exact zb_01 _) ?_
        refine ev_gW [true] [] rfl ?_
        refine ev_ret rfl ?_
        refine ev_g0 rfl ?_
        refine ev_ret rfl ?_
        exact ⟨rfl, xj, xd, xf, xo, xi, xn, nI 3, rfl, bdd, lf_W, lf_W, hC, hM⟩
    · skip
      refine ct_of h_OA_perform rfl rfl rfl ?_
      refine ev_gW [false] [] rfl ?_
      refine ev_inV 1 k_OA_15 h_SD_t rfl rfl rfl rfl rfl ⟨by decide, by decide⟩ rfl ?_
      refine ev_gW [] [some (94 + 4 * q)] rfl ?_
      refine ev_reta rfl ?_
      refine ev_g0 rfl ?_
      refine ev_inS 4 k_OA_21 h_OA_getField rfl rfl rfl rfl ⟨by decide, by decide⟩ rfl ?_
      refine ev_g0 rfl ?_
      refine ev_inS 1 k_OA_65 h_OA_ownerOf rfl rfl rfl rfl ⟨by decide, by decide⟩ rfl ?_
      refine ev_gW [true, true] [] rfl ?_
      refine ev_reti rfl ?_
      refine ev_g0 rfl ?_
      refine ev_inV 1 k_OA_28 h_TH_isA rfl rfl rfl rfl rfl ⟨by decide, by decide⟩ rfl ?_
      refine ev_gW [false, true, false, false] [none] rfl ?_
      refine ev_inV 0 k_TH_73 h_TH_isRow rfl rfl rfl rfl rfl ⟨by decide, by decide⟩ rfl ?_
      refine ev_g0 rfl ?_
      refine ev_bW rfl rfl (fun h_2 => ?_) (fun h_2 => ?_)
      · skip
        refine ev_g0 rfl ?_
        refine ev_retz rfl (by first | decide | exact zb_01 _) ?_
        refine ev_gW [false] [] rfl ?_
        refine ev_inS 2 k_TH_77 h_TH_isUnder rfl rfl rfl rfl ⟨by decide, by decide⟩ rfl ?_
        refine ev_gW [true] [] rfl ?_
        refine ev_retz rfl (by first | decide | exact zb_01 _) ?_
        refine ev_gW [false] [] rfl ?_
        refine ev_retz rfl (by first | decide | exact zb_01 _) ?_
        refine ev_gW [true] [some 3, some (94 + 4 * u)] rfl ?_
        refine ev_inV 2 k_OA_88 h_SD_setT rfl rfl rfl rfl rfl ⟨by decide, by decide⟩ rfl ?_
        refine ev_gW [] [] rfl ?_
        refine ev_ret rfl ?_
        refine ev_g0 rfl ?_
        refine ev_reti rfl ?_
        refine ev_g0 rfl ?_
        refine ev_reti rfl ?_
        refine ct_of h_MM_meets rfl rfl rfl ?_
        refine ev_gW [false] [] rfl ?_
        refine ev_inV 0 k_MM_396 h_MM_reads rfl rfl rfl rfl rfl ⟨by decide, by decide⟩ rfl ?_
        refine ev_g0 rfl ?_
        refine ev_inV 1 k_MM_344 h_MM_hold rfl rfl rfl rfl rfl ⟨by decide, by decide⟩ rfl ?_
        refine ev_gW [] [] rfl ?_
        refine ev_reti rfl ?_
        refine ev_g0 rfl ?_
        refine ev_inS 1 k_MM_386 h_MM_kindOfField rfl rfl rfl rfl ⟨by decide, by decide⟩ rfl ?_
        refine ev_gW [true, true] [] rfl ?_
        refine ev_reti rfl ?_
        refine ev_g0 rfl ?_
        refine ev_inV 2 k_MM_354 h_MM_takes rfl rfl rfl rfl rfl ⟨by decide, by decide⟩ rfl ?_
        refine ev_gW [false] [] rfl ?_
        refine ev_inV 2 k_MM_202 h_MM_isKind rfl rfl rfl rfl rfl ⟨by decide, by decide⟩ rfl ?_
        refine ev_gW [false, false, true, true, false, false] [] rfl ?_
        refine ev_inS 2 k_MM_192 h_MM_isOf rfl rfl rfl rfl ⟨by decide, by decide⟩ rfl ?_
        refine ev_gW [true] [] rfl ?_
        refine ev_retz rfl (by first | decide | exact zb_01 _) ?_
        refine ev_gW [false] [] rfl ?_
        refine ev_retz rfl (by first | decide | exact zb_01 _) ?_
        refine ev_gW [true] [] rfl ?_
        refine ev_retz rfl (by first | decide | exact zb_01 _) ?_
        refine ev_gW [false] [] rfl ?_
        refine ev_inV 1 k_MM_357 h_MM_is rfl rfl rfl rfl rfl ⟨by decide, by decide⟩ rfl ?_
        refine ev_gW [true, false] [] rfl ?_
        refine ev_retz rfl (by first | decide | exact zb_01 _) ?_
        refine ev_gW [true] [some 3] rfl ?_
        refine ev_inV 2 k_MM_336 h_MM_keep rfl rfl rfl rfl rfl ⟨by decide, by decide⟩ rfl ?_
        refine ev_gW [] [] rfl ?_
        refine ev_ret rfl ?_
        refine ev_g0 rfl ?_
        refine ev_ret rfl ?_
        refine ev_g0 rfl ?_
        refine ev_ret rfl ?_
        exact ⟨rfl, xj, xd, xf, (u3 xo 0 t a (some u)), xi, xn, nI 0, rfl, bdd, lf_W, lf_W, (CU_hol hC ht ha (fun _ h => by cases h; exact rc_inxt hC hq _ hp) lf_W lf_W), (MU_hol hM ht ha lf_W lf_W (fun i hi => (rc_isor hC hi).2.2.1))⟩
      · skip
        refine ev_g0 rfl ?_
        refine ev_retz rfl (by first | decide | exact zb_01 _) ?_
        refine ev_gW [true] [] rfl ?_
        refine ev_retz rfl (by first | decide | exact zb_01 _) ?_
        refine ev_gW [false] [] rfl ?_
        refine ev_reti rfl ?_
        refine ev_g0 rfl ?_
        refine ev_reti rfl ?_
        refine ct_of h_MM_meets rfl rfl rfl ?_
        refine ev_gW [false] [] rfl ?_
        refine ev_inV 0 k_MM_396 h_MM_reads rfl rfl rfl rfl rfl ⟨by decide, by decide⟩ rfl ?_
        refine ev_g0 rfl ?_
        refine ev_inV 1 k_MM_344 h_MM_hold rfl rfl rfl rfl rfl ⟨by decide, by decide⟩ rfl ?_
        refine ev_gW [] [] rfl ?_
        refine ev_reti rfl ?_
        refine ev_g0 rfl ?_
        refine ev_inS 1 k_MM_386 h_MM_kindOfField rfl rfl rfl rfl ⟨by decide, by decide⟩ rfl ?_
        refine ev_gW [true, true] [] rfl ?_
        refine ev_reti rfl ?_
        refine ev_g0 rfl ?_
        refine ev_inV 2 k_MM_354 h_MM_takes rfl rfl rfl rfl rfl ⟨by decide, by decide⟩ rfl ?_
        refine ev_gW [false] [] rfl ?_
        refine ev_inV 2 k_MM_202 h_MM_isKind rfl rfl rfl rfl rfl ⟨by decide, by decide⟩ rfl ?_
        refine ev_gW [false, false, true, true, false, true] [] rfl ?_
        refine ev_retz rfl (by first | decide | exact zb_01 _) ?_
        refine ev_gW [false] [] rfl ?_
        refine ev_retz rfl (by first | decide | exact zb_01 _) ?_
        refine ev_gW [true] [] rfl ?_
        refine ev_ret rfl ?_
        refine ev_g0 rfl ?_
        refine ev_ret rfl ?_
        exact ⟨rfl, xj, xd, xf, xo, xi, xn, nI 3, rfl, bdd, lf_W, lf_W, hC, hM⟩
theorem A51_4 {ci : Nat → Nat → Nat → Int32} {cn : Nat → Nat → Nat → Nat} {co : Nat → Option Nat} {xj : Nat → Nat → Nat → Int64} {xd : Nat → Nat → Nat → UInt64} {xf : Nat → Nat → Nat → UInt32} {xo : Nat → Nat → Nat → Option Nat} {xi : Nat → Nat → Nat → Int32} {xn : Nat → Nat → Nat → Nat} {K : Nat → Nat} {I : Nat → Nat → Int32} {J : Nat → Nat → Int64} {F : Nat → Nat → UInt32} {D : Nat → Nat → UInt64} {R : Nat → Nat → Option Nat} {nx sl : Nat} {Km : Nat → Nat} {Im : Nat → Nat → Int32} {Jm : Nat → Nat → Int64} {Fm : Nat → Nat → UInt32} {Dm : Nat → Nat → UInt64} {Rm : Nat → Nat → Option Nat} {nxm slm : Nat} (hC : RC ci cn co xj xd xf xo xi xn I J F D R nx sl) (hM : RM ci cn co xj xd xf xo xi xn Im Jm Dm) {t a c : Nat} {go : Int32} (ht : t < 3) (ha : a < 8) (hc : c < 8) (x1 : Im 6 39 = nI t) (x2 : Im 6 40 = nI a) (x3 : Im 6 41 = nI 4) (x4 : Im 6 42 = nI c) (x5 : Im 6 43 = nI 0) (x6 : Im 6 44 = go) : Ct Y_OA_perform [vr 4 13, vr 8 (32 + 7 * t), vi (nI 51), vi (nI a), vi (nI 4), vi (nI c)] (K, I, J, F, D, R, nx, sl) (fun r μ1 => Ct Y_MM_meets [vr 11 6, vi (nI 51)] (Km, Im, Jm, Fm, Dm, Rm, nxm, slm) (fun r2 μ2 => r2 = none ∧ QA ci cn co go r μ1 μ2)) := by
  rcases ho : xo 0 t c with _ | q
  · skip
    refine ct_of h_OA_perform rfl rfl rfl ?_
    refine ev_gW [false] [] rfl ?_
    refine ev_inV 1 k_OA_15 h_SD_t rfl rfl rfl rfl rfl ⟨by decide, by decide⟩ rfl ?_
    refine ev_gW [] [none] rfl ?_
    refine ev_retn rfl ?_
    refine ev_g0 rfl ?_
    refine ev_inS 4 k_OA_21 h_OA_getField rfl rfl rfl rfl ⟨by decide, by decide⟩ rfl ?_
    refine ev_g0 rfl ?_
    refine ev_reti rfl ?_
    refine ev_g0 rfl ?_
    refine ev_reti rfl ?_
    refine ct_of h_MM_meets rfl rfl rfl ?_
    refine ev_gW [false] [] rfl ?_
    refine ev_inV 0 k_MM_396 h_MM_reads rfl rfl rfl rfl rfl ⟨by decide, by decide⟩ rfl ?_
    refine ev_g0 rfl ?_
    refine ev_inV 1 k_MM_344 h_MM_hold rfl rfl rfl rfl rfl ⟨by decide, by decide⟩ rfl ?_
    refine ev_gW [] [] rfl ?_
    refine ev_reti rfl ?_
    refine ev_g0 rfl ?_
    refine ev_inS 1 k_MM_386 h_MM_kindOfField rfl rfl rfl rfl ⟨by decide, by decide⟩ rfl ?_
    refine ev_gW [true, true] [] rfl ?_
    refine ev_reti rfl ?_
    refine ev_g0 rfl ?_
    refine ev_inV 2 k_MM_354 h_MM_takes rfl rfl rfl rfl rfl ⟨by decide, by decide⟩ rfl ?_
    refine ev_gW [true] [] rfl ?_
    refine ev_retz rfl (by first | decide | exact zb_01 _) ?_
    refine ev_gW [false] [] rfl ?_
    refine ev_inV 1 k_MM_357 h_MM_is rfl rfl rfl rfl rfl ⟨by decide, by decide⟩ rfl ?_
    refine ev_gW [false, true] [] rfl ?_
    refine ev_retz rfl (by first | decide | exact zb_01 _) ?_
    refine ev_gW [false] [] rfl ?_
    refine ev_ret rfl ?_
    refine ev_g0 rfl ?_
    refine ev_ret rfl ?_
    exact ⟨rfl, xj, xd, xf, xo, xi, xn, nI 1, rfl, bdd, lf_W, lf_W, hC, hM⟩
  · skip
    have hq := rc_ihol hC ht hc _ ho
    have zq := rc_isor hC hq
    have yq := rc_imad hC
    rcases hp : xo 3 q 0 with _ | u
    · skip
      refine ct_of h_OA_perform rfl rfl rfl ?_
      refine ev_gW [false] [] rfl ?_
      refine ev_inV 1 k_OA_15 h_SD_t rfl rfl rfl rfl rfl ⟨by decide, by decide⟩ rfl ?_
      refine ev_gW [] [some (94 + 4 * q)] rfl ?_
      refine ev_reta rfl ?_
      refine ev_g0 rfl ?_
      refine ev_inS 4 k_OA_21 h_OA_getField rfl rfl rfl rfl ⟨by decide, by decide⟩ rfl ?_
      refine ev_g0 rfl ?_
      refine ev_inS 1 k_OA_65 h_OA_ownerOf rfl rfl rfl rfl ⟨by decide, by decide⟩ rfl ?_
      refine ev_gW [true, true] [] rfl ?_
      refine ev_reti rfl ?_
      refine ev_g0 rfl ?_
      refine ev_inV 1 k_OA_28 h_TH_isA rfl rfl rfl rfl rfl ⟨by decide, by decide⟩ rfl ?_
      refine ev_gW [false, true, false, false] [none] rfl ?_
      refine ev_inV 0 k_TH_73 h_TH_isRow rfl rfl rfl rfl rfl ⟨by decide, by decide⟩ rfl ?_
      refine ev_g0 rfl ?_
      refine ev_bW rfl rfl (fun h_1 => ?_) (fun h_1 => ?_)
      · skip
        refine ev_g0 rfl ?_
        refine ev_retz rfl (by first | decide | exact zb_01 _) ?_
        refine ev_gW [false] [] rfl ?_
        refine ev_inS 2 k_TH_77 h_TH_isUnder rfl rfl rfl rfl ⟨by decide, by decide⟩ rfl ?_
        refine ev_gW [true] [] rfl ?_
        refine ev_retz rfl (by first | decide | exact zb_01 _) ?_
        refine ev_gW [false] [] rfl ?_
        refine ev_retz rfl (by first | decide | exact zb_01 _) ?_
        refine ev_gW [true] [some 4, none] rfl ?_
        refine ev_inV 2 k_OA_88 h_SD_setT rfl rfl rfl rfl rfl ⟨by decide, by decide⟩ rfl ?_
        refine ev_gW [] [] rfl ?_
        refine ev_ret rfl ?_
        refine ev_g0 rfl ?_
        refine ev_reti rfl ?_
        refine ev_g0 rfl ?_
        refine ev_reti rfl ?_
        refine ct_of h_MM_meets rfl rfl rfl ?_
        refine ev_gW [false] [] rfl ?_
        refine ev_inV 0 k_MM_396 h_MM_reads rfl rfl rfl rfl rfl ⟨by decide, by decide⟩ rfl ?_
        refine ev_g0 rfl ?_
        refine ev_inV 1 k_MM_344 h_MM_hold rfl rfl rfl rfl rfl ⟨by decide, by decide⟩ rfl ?_
        refine ev_gW [] [] rfl ?_
        refine ev_reti rfl ?_
        refine ev_g0 rfl ?_
        refine ev_inS 1 k_MM_386 h_MM_kindOfField rfl rfl rfl rfl ⟨by decide, by decide⟩ rfl ?_
        refine ev_gW [true, true] [] rfl ?_
        refine ev_reti rfl ?_
        refine ev_g0 rfl ?_
        refine ev_inV 2 k_MM_354 h_MM_takes rfl rfl rfl rfl rfl ⟨by decide, by decide⟩ rfl ?_
        refine ev_gW [false] [] rfl ?_
        refine ev_inV 2 k_MM_202 h_MM_isKind rfl rfl rfl rfl rfl ⟨by decide, by decide⟩ rfl ?_
        refine ev_gW [false, false, true, true, false, false] [] rfl ?_
        refine ev_inS 2 k_MM_192 h_MM_isOf rfl rfl rfl rfl ⟨by decide, by decide⟩ rfl ?_
        refine ev_gW [true] [] rfl ?_
        refine ev_retz rfl (by first | decide | exact zb_01 _) ?_
        refine ev_gW [false] [] rfl ?_
        refine ev_retz rfl (by first | decide | exact zb_01 _) ?_
        refine ev_gW [true] [] rfl ?_
        refine ev_retz rfl (by first | decide | exact zb_01 _) ?_
        refine ev_gW [false] [] rfl ?_
        refine ev_inV 1 k_MM_357 h_MM_is rfl rfl rfl rfl rfl ⟨by decide, by decide⟩ rfl ?_
        refine ev_gW [true, false] [] rfl ?_
        refine ev_retz rfl (by first | decide | exact zb_01 _) ?_
        refine ev_gW [true] [some 4] rfl ?_
        refine ev_inV 2 k_MM_336 h_MM_keep rfl rfl rfl rfl rfl ⟨by decide, by decide⟩ rfl ?_
        refine ev_gW [] [] rfl ?_
        refine ev_ret rfl ?_
        refine ev_g0 rfl ?_
        refine ev_ret rfl ?_
        refine ev_g0 rfl ?_
        refine ev_ret rfl ?_
        exact ⟨rfl, xj, xd, xf, (u3 xo 0 t a (none)), xi, xn, nI 0, rfl, bdd, lf_W, lf_W, (CU_hol hC ht ha (fun _ h => by cases h) lf_W lf_W), (MU_hol hM ht ha lf_W lf_W (fun i hi => (rc_isor hC hi).2.2.1))⟩
      · skip
        refine ev_g0 rfl ?_
        refine ev_retz rfl (by first | decide | exact zb_01 _) ?_
        refine ev_gW [true] [] rfl ?_
        refine ev_retz rfl (by first | decide | exact zb_01 _) ?_
        refine ev_gW [false] [] rfl ?_
        refine ev_reti rfl ?_
        refine ev_g0 rfl ?_
        refine ev_reti rfl ?_
        refine ct_of h_MM_meets rfl rfl rfl ?_
        refine ev_gW [false] [] rfl ?_
        refine ev_inV 0 k_MM_396 h_MM_reads rfl rfl rfl rfl rfl ⟨by decide, by decide⟩ rfl ?_
        refine ev_g0 rfl ?_
        refine ev_inV 1 k_MM_344 h_MM_hold rfl rfl rfl rfl rfl ⟨by decide, by decide⟩ rfl ?_
        refine ev_gW [] [] rfl ?_
        refine ev_reti rfl ?_
        refine ev_g0 rfl ?_
        refine ev_inS 1 k_MM_386 h_MM_kindOfField rfl rfl rfl rfl ⟨by decide, by decide⟩ rfl ?_
        refine ev_gW [true, true] [] rfl ?_
        refine ev_reti rfl ?_
        refine ev_g0 rfl ?_
        refine ev_inV 2 k_MM_354 h_MM_takes rfl rfl rfl rfl rfl ⟨by decide, by decide⟩ rfl ?_
        refine ev_gW [false] [] rfl ?_
        refine ev_inV 2 k_MM_202 h_MM_isKind rfl rfl rfl rfl rfl ⟨by decide, by decide⟩ rfl ?_
        refine ev_gW [false, false, true, true, false, true] [] rfl ?_
        refine ev_retz rfl (by first | decide | exact zb_01 _) ?_
        refine ev_gW [false] [] rfl ?_
        refine ev_retz rfl (by first | decide | exact zb_01 _) ?_
        refine ev_gW [true] [] rfl ?_
        refine ev_ret rfl ?_
        refine ev_g0 rfl ?_
        refine ev_ret rfl ?_
        exact ⟨rfl, xj, xd, xf, xo, xi, xn, nI 3, rfl, bdd, lf_W, lf_W, hC, hM⟩
    · skip
      refine ct_of h_OA_perform rfl rfl rfl ?_
      refine ev_gW [false] [] rfl ?_
      refine ev_inV 1 k_OA_15 h_SD_t rfl rfl rfl rfl rfl ⟨by decide, by decide⟩ rfl ?_
      refine ev_gW [] [some (94 + 4 * q)] rfl ?_
      refine ev_reta rfl ?_
      refine ev_g0 rfl ?_
      refine ev_inS 4 k_OA_21 h_OA_getField rfl rfl rfl rfl ⟨by decide, by decide⟩ rfl ?_
      refine ev_g0 rfl ?_
      refine ev_inS 1 k_OA_65 h_OA_ownerOf rfl rfl rfl rfl ⟨by decide, by decide⟩ rfl ?_
      refine ev_gW [true, true] [] rfl ?_
      refine ev_reti rfl ?_
      refine ev_g0 rfl ?_
      refine ev_inV 1 k_OA_28 h_TH_isA rfl rfl rfl rfl rfl ⟨by decide, by decide⟩ rfl ?_
      refine ev_gW [false, true, false, false] [none] rfl ?_
      refine ev_inV 0 k_TH_73 h_TH_isRow rfl rfl rfl rfl rfl ⟨by decide, by decide⟩ rfl ?_
      refine ev_g0 rfl ?_
      refine ev_bW rfl rfl (fun h_2 => ?_) (fun h_2 => ?_)
      · skip
        refine ev_g0 rfl ?_
        refine ev_retz rfl (by first | decide | exact zb_01 _) ?_
        refine ev_gW [false] [] rfl ?_
        refine ev_inS 2 k_TH_77 h_TH_isUnder rfl rfl rfl rfl ⟨by decide, by decide⟩ rfl ?_
        refine ev_gW [true] [] rfl ?_
        refine ev_retz rfl (by first | decide | exact zb_01 _) ?_
        refine ev_gW [false] [] rfl ?_
        refine ev_retz rfl (by first | decide | exact zb_01 _) ?_
        refine ev_gW [true] [some 4, some (94 + 4 * u)] rfl ?_
        refine ev_inV 2 k_OA_88 h_SD_setT rfl rfl rfl rfl rfl ⟨by decide, by decide⟩ rfl ?_
        refine ev_gW [] [] rfl ?_
        refine ev_ret rfl ?_
        refine ev_g0 rfl ?_
        refine ev_reti rfl ?_
        refine ev_g0 rfl ?_
        refine ev_reti rfl ?_
        refine ct_of h_MM_meets rfl rfl rfl ?_
        refine ev_gW [false] [] rfl ?_
        refine ev_inV 0 k_MM_396 h_MM_reads rfl rfl rfl rfl rfl ⟨by decide, by decide⟩ rfl ?_
        refine ev_g0 rfl ?_
        refine ev_inV 1 k_MM_344 h_MM_hold rfl rfl rfl rfl rfl ⟨by decide, by decide⟩ rfl ?_
        refine ev_gW [] [] rfl ?_
        refine ev_reti rfl ?_
        refine ev_g0 rfl ?_
        refine ev_inS 1 k_MM_386 h_MM_kindOfField rfl rfl rfl rfl ⟨by decide, by decide⟩ rfl ?_
        refine ev_gW [true, true] [] rfl ?_
        refine ev_reti rfl ?_
        refine ev_g0 rfl ?_
        refine ev_inV 2 k_MM_354 h_MM_takes rfl rfl rfl rfl rfl ⟨by decide, by decide⟩ rfl ?_
        refine ev_gW [false] [] rfl ?_
        refine ev_inV 2 k_MM_202 h_MM_isKind rfl rfl rfl rfl rfl ⟨by decide, by decide⟩ rfl ?_
        refine ev_gW [false, false, true, true, false, false] [] rfl ?_
        refine ev_inS 2 k_MM_192 h_MM_isOf rfl rfl rfl rfl ⟨by decide, by decide⟩ rfl ?_
        refine ev_gW [true] [] rfl ?_
        refine ev_retz rfl (by first | decide | exact zb_01 _) ?_
        refine ev_gW [false] [] rfl ?_
        refine ev_retz rfl (by first | decide | exact zb_01 _) ?_
        refine ev_gW [true] [] rfl ?_
        refine ev_retz rfl (by first | decide | exact zb_01 _) ?_
        refine ev_gW [false] [] rfl ?_
        refine ev_inV 1 k_MM_357 h_MM_is rfl rfl rfl rfl rfl ⟨by decide, by decide⟩ rfl ?_
        refine ev_gW [true, false] [] rfl ?_
        refine ev_retz rfl (by first | decide | exact zb_01 _) ?_
        refine ev_gW [true] [some 4] rfl ?_
        refine ev_inV 2 k_MM_336 h_MM_keep rfl rfl rfl rfl rfl ⟨by decide, by decide⟩ rfl ?_
        refine ev_gW [] [] rfl ?_
        refine ev_ret rfl ?_
        refine ev_g0 rfl ?_
        refine ev_ret rfl ?_
        refine ev_g0 rfl ?_
        refine ev_ret rfl ?_
        exact ⟨rfl, xj, xd, xf, (u3 xo 0 t a (some u)), xi, xn, nI 0, rfl, bdd, lf_W, lf_W, (CU_hol hC ht ha (fun _ h => by cases h; exact rc_ilin hC hq _ hp) lf_W lf_W), (MU_hol hM ht ha lf_W lf_W (fun i hi => (rc_isor hC hi).2.2.1))⟩
      · skip
        refine ev_g0 rfl ?_
        refine ev_retz rfl (by first | decide | exact zb_01 _) ?_
        refine ev_gW [true] [] rfl ?_
        refine ev_retz rfl (by first | decide | exact zb_01 _) ?_
        refine ev_gW [false] [] rfl ?_
        refine ev_reti rfl ?_
        refine ev_g0 rfl ?_
        refine ev_reti rfl ?_
        refine ct_of h_MM_meets rfl rfl rfl ?_
        refine ev_gW [false] [] rfl ?_
        refine ev_inV 0 k_MM_396 h_MM_reads rfl rfl rfl rfl rfl ⟨by decide, by decide⟩ rfl ?_
        refine ev_g0 rfl ?_
        refine ev_inV 1 k_MM_344 h_MM_hold rfl rfl rfl rfl rfl ⟨by decide, by decide⟩ rfl ?_
        refine ev_gW [] [] rfl ?_
        refine ev_reti rfl ?_
        refine ev_g0 rfl ?_
        refine ev_inS 1 k_MM_386 h_MM_kindOfField rfl rfl rfl rfl ⟨by decide, by decide⟩ rfl ?_
        refine ev_gW [true, true] [] rfl ?_
        refine ev_reti rfl ?_
        refine ev_g0 rfl ?_
        refine ev_inV 2 k_MM_354 h_MM_takes rfl rfl rfl rfl rfl ⟨by decide, by decide⟩ rfl ?_
        refine ev_gW [false] [] rfl ?_
        refine ev_inV 2 k_MM_202 h_MM_isKind rfl rfl rfl rfl rfl ⟨by decide, by decide⟩ rfl ?_
        refine ev_gW [false, false, true, true, false, true] [] rfl ?_
        refine ev_retz rfl (by first | decide | exact zb_01 _) ?_
        refine ev_gW [false] [] rfl ?_
        refine ev_retz rfl (by first | decide | exact zb_01 _) ?_
        refine ev_gW [true] [] rfl ?_
        refine ev_ret rfl ?_
        refine ev_g0 rfl ?_
        refine ev_ret rfl ?_
        exact ⟨rfl, xj, xd, xf, xo, xi, xn, nI 3, rfl, bdd, lf_W, lf_W, hC, hM⟩
theorem A51_5 {ci : Nat → Nat → Nat → Int32} {cn : Nat → Nat → Nat → Nat} {co : Nat → Option Nat} {xj : Nat → Nat → Nat → Int64} {xd : Nat → Nat → Nat → UInt64} {xf : Nat → Nat → Nat → UInt32} {xo : Nat → Nat → Nat → Option Nat} {xi : Nat → Nat → Nat → Int32} {xn : Nat → Nat → Nat → Nat} {K : Nat → Nat} {I : Nat → Nat → Int32} {J : Nat → Nat → Int64} {F : Nat → Nat → UInt32} {D : Nat → Nat → UInt64} {R : Nat → Nat → Option Nat} {nx sl : Nat} {Km : Nat → Nat} {Im : Nat → Nat → Int32} {Jm : Nat → Nat → Int64} {Fm : Nat → Nat → UInt32} {Dm : Nat → Nat → UInt64} {Rm : Nat → Nat → Option Nat} {nxm slm : Nat} (hC : RC ci cn co xj xd xf xo xi xn I J F D R nx sl) (hM : RM ci cn co xj xd xf xo xi xn Im Jm Dm) {t a c : Nat} {go : Int32} (ht : t < 3) (ha : a < 8) (hc : c < 8) (x1 : Im 6 39 = nI t) (x2 : Im 6 40 = nI a) (x3 : Im 6 41 = nI 5) (x4 : Im 6 42 = nI c) (x5 : Im 6 43 = nI 0) (x6 : Im 6 44 = go) : Ct Y_OA_perform [vr 4 13, vr 8 (32 + 7 * t), vi (nI 51), vi (nI a), vi (nI 5), vi (nI c)] (K, I, J, F, D, R, nx, sl) (fun r μ1 => Ct Y_MM_meets [vr 11 6, vi (nI 51)] (Km, Im, Jm, Fm, Dm, Rm, nxm, slm) (fun r2 μ2 => r2 = none ∧ QA ci cn co go r μ1 μ2)) := by
  rcases ho : xo 0 t c with _ | q
  · skip
    refine ct_of h_OA_perform rfl rfl rfl ?_
    refine ev_gW [false] [] rfl ?_
    refine ev_inV 1 k_OA_15 h_SD_t rfl rfl rfl rfl rfl ⟨by decide, by decide⟩ rfl ?_
    refine ev_gW [] [none] rfl ?_
    refine ev_retn rfl ?_
    refine ev_g0 rfl ?_
    refine ev_inS 4 k_OA_21 h_OA_getField rfl rfl rfl rfl ⟨by decide, by decide⟩ rfl ?_
    refine ev_g0 rfl ?_
    refine ev_reti rfl ?_
    refine ev_g0 rfl ?_
    refine ev_reti rfl ?_
    refine ct_of h_MM_meets rfl rfl rfl ?_
    refine ev_gW [false] [] rfl ?_
    refine ev_inV 0 k_MM_396 h_MM_reads rfl rfl rfl rfl rfl ⟨by decide, by decide⟩ rfl ?_
    refine ev_g0 rfl ?_
    refine ev_inV 1 k_MM_344 h_MM_hold rfl rfl rfl rfl rfl ⟨by decide, by decide⟩ rfl ?_
    refine ev_gW [] [] rfl ?_
    refine ev_reti rfl ?_
    refine ev_g0 rfl ?_
    refine ev_inS 1 k_MM_386 h_MM_kindOfField rfl rfl rfl rfl ⟨by decide, by decide⟩ rfl ?_
    refine ev_gW [true, true] [] rfl ?_
    refine ev_reti rfl ?_
    refine ev_g0 rfl ?_
    refine ev_inV 2 k_MM_354 h_MM_takes rfl rfl rfl rfl rfl ⟨by decide, by decide⟩ rfl ?_
    refine ev_gW [true] [] rfl ?_
    refine ev_retz rfl (by first | decide | exact zb_01 _) ?_
    refine ev_gW [false] [] rfl ?_
    refine ev_inV 1 k_MM_357 h_MM_is rfl rfl rfl rfl rfl ⟨by decide, by decide⟩ rfl ?_
    refine ev_gW [false, true] [] rfl ?_
    refine ev_retz rfl (by first | decide | exact zb_01 _) ?_
    refine ev_gW [false] [] rfl ?_
    refine ev_ret rfl ?_
    refine ev_g0 rfl ?_
    refine ev_ret rfl ?_
    exact ⟨rfl, xj, xd, xf, xo, xi, xn, nI 1, rfl, bdd, lf_W, lf_W, hC, hM⟩
  · skip
    have hq := rc_ihol hC ht hc _ ho
    have zq := rc_isor hC hq
    have yq := rc_imad hC
    refine ct_of h_OA_perform rfl rfl rfl ?_
    refine ev_gW [false] [] rfl ?_
    refine ev_inV 1 k_OA_15 h_SD_t rfl rfl rfl rfl rfl ⟨by decide, by decide⟩ rfl ?_
    refine ev_gW [] [some (94 + 4 * q)] rfl ?_
    refine ev_reta rfl ?_
    refine ev_g0 rfl ?_
    refine ev_inS 4 k_OA_21 h_OA_getField rfl rfl rfl rfl ⟨by decide, by decide⟩ rfl ?_
    refine ev_g0 rfl ?_
    refine ev_inS 1 k_OA_65 h_OA_ownerOf rfl rfl rfl rfl ⟨by decide, by decide⟩ rfl ?_
    refine ev_gW [true, true] [] rfl ?_
    refine ev_reti rfl ?_
    refine ev_g0 rfl ?_
    refine ev_inV 1 k_OA_28 h_TH_isA rfl rfl rfl rfl rfl ⟨by decide, by decide⟩ rfl ?_
    refine ev_gW [false, true, false, false] [none] rfl ?_
    refine ev_inV 0 k_TH_73 h_TH_isRow rfl rfl rfl rfl rfl ⟨by decide, by decide⟩ rfl ?_
    refine ev_g0 rfl ?_
    refine ev_bW rfl rfl (fun h_1 => ?_) (fun h_1 => ?_)
    · skip
      refine ev_g0 rfl ?_
      refine ev_retz rfl (by first | decide | exact zb_01 _) ?_
      refine ev_gW [false] [] rfl ?_
      refine ev_inS 2 k_TH_77 h_TH_isUnder rfl rfl rfl rfl ⟨by decide, by decide⟩ rfl ?_
      refine ev_gW [true] [] rfl ?_
      refine ev_retz rfl (by first | decide | exact zb_01 _) ?_
      refine ev_gW [false] [] rfl ?_
      refine ev_retz rfl (by first | decide | exact zb_01 _) ?_
      refine ev_gW [true] [some 5] rfl ?_
      refine ev_inV 2 k_OA_42 h_SD_setN rfl rfl rfl rfl rfl ⟨by decide, by decide⟩ rfl ?_
      refine ev_gW [] [] rfl ?_
      refine ev_ret rfl ?_
      refine ev_g0 rfl ?_
      refine ev_reti rfl ?_
      refine ev_g0 rfl ?_
      refine ev_reti rfl ?_
      refine ct_of h_MM_meets rfl rfl rfl ?_
      refine ev_gW [false] [] rfl ?_
      refine ev_inV 0 k_MM_396 h_MM_reads rfl rfl rfl rfl rfl ⟨by decide, by decide⟩ rfl ?_
      refine ev_g0 rfl ?_
      refine ev_inV 1 k_MM_344 h_MM_hold rfl rfl rfl rfl rfl ⟨by decide, by decide⟩ rfl ?_
      refine ev_gW [] [] rfl ?_
      refine ev_reti rfl ?_
      refine ev_g0 rfl ?_
      refine ev_inS 1 k_MM_386 h_MM_kindOfField rfl rfl rfl rfl ⟨by decide, by decide⟩ rfl ?_
      refine ev_gW [true, true] [] rfl ?_
      refine ev_reti rfl ?_
      refine ev_g0 rfl ?_
      refine ev_inV 2 k_MM_354 h_MM_takes rfl rfl rfl rfl rfl ⟨by decide, by decide⟩ rfl ?_
      refine ev_gW [false] [] rfl ?_
      refine ev_inV 2 k_MM_202 h_MM_isKind rfl rfl rfl rfl rfl ⟨by decide, by decide⟩ rfl ?_
      refine ev_gW [false, false, true, true, false, false] [] rfl ?_
      refine ev_inS 2 k_MM_192 h_MM_isOf rfl rfl rfl rfl ⟨by decide, by decide⟩ rfl ?_
      refine ev_gW [true] [] rfl ?_
      refine ev_retz rfl (by first | decide | exact zb_01 _) ?_
      refine ev_gW [false] [] rfl ?_
      refine ev_retz rfl (by first | decide | exact zb_01 _) ?_
      refine ev_gW [true] [] rfl ?_
      refine ev_retz rfl (by first | decide | exact zb_01 _) ?_
      refine ev_gW [false] [] rfl ?_
      refine ev_inV 1 k_MM_357 h_MM_is rfl rfl rfl rfl rfl ⟨by decide, by decide⟩ rfl ?_
      refine ev_gW [true, false] [] rfl ?_
      refine ev_retz rfl (by first | decide | exact zb_01 _) ?_
      refine ev_gW [true] [some 5] rfl ?_
      refine ev_inV 2 k_MM_288 h_MM_lay rfl rfl rfl rfl rfl ⟨by decide, by decide⟩ rfl ?_
      refine ev_gW [] [] rfl ?_
      refine ev_ret rfl ?_
      refine ev_g0 rfl ?_
      refine ev_ret rfl ?_
      refine ev_g0 rfl ?_
      refine ev_ret rfl ?_
      exact ⟨rfl, (u3 xj 0 t a ((xi 1 q 0).toInt64)), xd, xf, xo, xi, xn, nI 0, rfl, bdd, lf_W, lf_W, (CU_num hC ht ha lf_W lf_W), (MU_num hM ht ha lf_W lf_W (fun i hi => (rc_isor hC hi).2.2.1))⟩
    · skip
      refine ev_g0 rfl ?_
      refine ev_retz rfl (by first | decide | exact zb_01 _) ?_
      refine ev_gW [true] [] rfl ?_
      refine ev_retz rfl (by first | decide | exact zb_01 _) ?_
      refine ev_gW [false] [] rfl ?_
      refine ev_reti rfl ?_
      refine ev_g0 rfl ?_
      refine ev_reti rfl ?_
      refine ct_of h_MM_meets rfl rfl rfl ?_
      refine ev_gW [false] [] rfl ?_
      refine ev_inV 0 k_MM_396 h_MM_reads rfl rfl rfl rfl rfl ⟨by decide, by decide⟩ rfl ?_
      refine ev_g0 rfl ?_
      refine ev_inV 1 k_MM_344 h_MM_hold rfl rfl rfl rfl rfl ⟨by decide, by decide⟩ rfl ?_
      refine ev_gW [] [] rfl ?_
      refine ev_reti rfl ?_
      refine ev_g0 rfl ?_
      refine ev_inS 1 k_MM_386 h_MM_kindOfField rfl rfl rfl rfl ⟨by decide, by decide⟩ rfl ?_
      refine ev_gW [true, true] [] rfl ?_
      refine ev_reti rfl ?_
      refine ev_g0 rfl ?_
      refine ev_inV 2 k_MM_354 h_MM_takes rfl rfl rfl rfl rfl ⟨by decide, by decide⟩ rfl ?_
      refine ev_gW [false] [] rfl ?_
      refine ev_inV 2 k_MM_202 h_MM_isKind rfl rfl rfl rfl rfl ⟨by decide, by decide⟩ rfl ?_
      refine ev_gW [false, false, true, true, false, true] [] rfl ?_
      refine ev_retz rfl (by first | decide | exact zb_01 _) ?_
      refine ev_gW [false] [] rfl ?_
      refine ev_retz rfl (by first | decide | exact zb_01 _) ?_
      refine ev_gW [true] [] rfl ?_
      refine ev_ret rfl ?_
      refine ev_g0 rfl ?_
      refine ev_ret rfl ?_
      exact ⟨rfl, xj, xd, xf, xo, xi, xn, nI 3, rfl, bdd, lf_W, lf_W, hC, hM⟩
theorem A51_6 {ci : Nat → Nat → Nat → Int32} {cn : Nat → Nat → Nat → Nat} {co : Nat → Option Nat} {xj : Nat → Nat → Nat → Int64} {xd : Nat → Nat → Nat → UInt64} {xf : Nat → Nat → Nat → UInt32} {xo : Nat → Nat → Nat → Option Nat} {xi : Nat → Nat → Nat → Int32} {xn : Nat → Nat → Nat → Nat} {K : Nat → Nat} {I : Nat → Nat → Int32} {J : Nat → Nat → Int64} {F : Nat → Nat → UInt32} {D : Nat → Nat → UInt64} {R : Nat → Nat → Option Nat} {nx sl : Nat} {Km : Nat → Nat} {Im : Nat → Nat → Int32} {Jm : Nat → Nat → Int64} {Fm : Nat → Nat → UInt32} {Dm : Nat → Nat → UInt64} {Rm : Nat → Nat → Option Nat} {nxm slm : Nat} (hC : RC ci cn co xj xd xf xo xi xn I J F D R nx sl) (hM : RM ci cn co xj xd xf xo xi xn Im Jm Dm) {t a c : Nat} {go : Int32} (ht : t < 3) (ha : a < 8) (hc : c < 8) (x1 : Im 6 39 = nI t) (x2 : Im 6 40 = nI a) (x3 : Im 6 41 = nI 6) (x4 : Im 6 42 = nI c) (x5 : Im 6 43 = nI 0) (x6 : Im 6 44 = go) : Ct Y_OA_perform [vr 4 13, vr 8 (32 + 7 * t), vi (nI 51), vi (nI a), vi (nI 6), vi (nI c)] (K, I, J, F, D, R, nx, sl) (fun r μ1 => Ct Y_MM_meets [vr 11 6, vi (nI 51)] (Km, Im, Jm, Fm, Dm, Rm, nxm, slm) (fun r2 μ2 => r2 = none ∧ QA ci cn co go r μ1 μ2)) := by
  rcases ho : xo 0 t c with _ | q
  · skip
    refine ct_of h_OA_perform rfl rfl rfl ?_
    refine ev_gW [false] [] rfl ?_
    refine ev_inV 1 k_OA_15 h_SD_t rfl rfl rfl rfl rfl ⟨by decide, by decide⟩ rfl ?_
    refine ev_gW [] [none] rfl ?_
    refine ev_retn rfl ?_
    refine ev_g0 rfl ?_
    refine ev_inS 4 k_OA_21 h_OA_getField rfl rfl rfl rfl ⟨by decide, by decide⟩ rfl ?_
    refine ev_g0 rfl ?_
    refine ev_reti rfl ?_
    refine ev_g0 rfl ?_
    refine ev_reti rfl ?_
    refine ct_of h_MM_meets rfl rfl rfl ?_
    refine ev_gW [false] [] rfl ?_
    refine ev_inV 0 k_MM_396 h_MM_reads rfl rfl rfl rfl rfl ⟨by decide, by decide⟩ rfl ?_
    refine ev_g0 rfl ?_
    refine ev_inV 1 k_MM_344 h_MM_hold rfl rfl rfl rfl rfl ⟨by decide, by decide⟩ rfl ?_
    refine ev_gW [] [] rfl ?_
    refine ev_reti rfl ?_
    refine ev_g0 rfl ?_
    refine ev_inS 1 k_MM_386 h_MM_kindOfField rfl rfl rfl rfl ⟨by decide, by decide⟩ rfl ?_
    refine ev_gW [true, true] [] rfl ?_
    refine ev_reti rfl ?_
    refine ev_g0 rfl ?_
    refine ev_inV 2 k_MM_354 h_MM_takes rfl rfl rfl rfl rfl ⟨by decide, by decide⟩ rfl ?_
    refine ev_gW [true] [] rfl ?_
    refine ev_retz rfl (by first | decide | exact zb_01 _) ?_
    refine ev_gW [false] [] rfl ?_
    refine ev_inV 1 k_MM_357 h_MM_is rfl rfl rfl rfl rfl ⟨by decide, by decide⟩ rfl ?_
    refine ev_gW [false, true] [] rfl ?_
    refine ev_retz rfl (by first | decide | exact zb_01 _) ?_
    refine ev_gW [false] [] rfl ?_
    refine ev_ret rfl ?_
    refine ev_g0 rfl ?_
    refine ev_ret rfl ?_
    exact ⟨rfl, xj, xd, xf, xo, xi, xn, nI 1, rfl, bdd, lf_W, lf_W, hC, hM⟩
  · skip
    have hq := rc_ihol hC ht hc _ ho
    have zq := rc_isor hC hq
    have yq := rc_imad hC
    refine ct_of h_OA_perform rfl rfl rfl ?_
    refine ev_gW [false] [] rfl ?_
    refine ev_inV 1 k_OA_15 h_SD_t rfl rfl rfl rfl rfl ⟨by decide, by decide⟩ rfl ?_
    refine ev_gW [] [some (94 + 4 * q)] rfl ?_
    refine ev_reta rfl ?_
    refine ev_g0 rfl ?_
    refine ev_inS 4 k_OA_21 h_OA_getField rfl rfl rfl rfl ⟨by decide, by decide⟩ rfl ?_
    refine ev_g0 rfl ?_
    refine ev_inS 1 k_OA_65 h_OA_ownerOf rfl rfl rfl rfl ⟨by decide, by decide⟩ rfl ?_
    refine ev_gW [true, true] [] rfl ?_
    refine ev_reti rfl ?_
    refine ev_g0 rfl ?_
    refine ev_inV 1 k_OA_28 h_TH_isA rfl rfl rfl rfl rfl ⟨by decide, by decide⟩ rfl ?_
    refine ev_gW [false, true, false, false] [none] rfl ?_
    refine ev_inV 0 k_TH_73 h_TH_isRow rfl rfl rfl rfl rfl ⟨by decide, by decide⟩ rfl ?_
    refine ev_g0 rfl ?_
    refine ev_bW rfl rfl (fun h_1 => ?_) (fun h_1 => ?_)
    · skip
      refine ev_g0 rfl ?_
      refine ev_retz rfl (by first | decide | exact zb_01 _) ?_
      refine ev_gW [false] [] rfl ?_
      refine ev_inS 2 k_TH_77 h_TH_isUnder rfl rfl rfl rfl ⟨by decide, by decide⟩ rfl ?_
      refine ev_gW [true] [] rfl ?_
      refine ev_retz rfl (by first | decide | exact zb_01 _) ?_
      refine ev_gW [false] [] rfl ?_
      refine ev_retz rfl (by first | decide | exact zb_01 _) ?_
      refine ev_gW [true] [some 6] rfl ?_
      refine ev_inV 2 k_OA_42 h_SD_setN rfl rfl rfl rfl rfl ⟨by decide, by decide⟩ rfl ?_
      refine ev_gW [] [] rfl ?_
      refine ev_ret rfl ?_
      refine ev_g0 rfl ?_
      refine ev_reti rfl ?_
      refine ev_g0 rfl ?_
      refine ev_reti rfl ?_
      refine ct_of h_MM_meets rfl rfl rfl ?_
      refine ev_gW [false] [] rfl ?_
      refine ev_inV 0 k_MM_396 h_MM_reads rfl rfl rfl rfl rfl ⟨by decide, by decide⟩ rfl ?_
      refine ev_g0 rfl ?_
      refine ev_inV 1 k_MM_344 h_MM_hold rfl rfl rfl rfl rfl ⟨by decide, by decide⟩ rfl ?_
      refine ev_gW [] [] rfl ?_
      refine ev_reti rfl ?_
      refine ev_g0 rfl ?_
      refine ev_inS 1 k_MM_386 h_MM_kindOfField rfl rfl rfl rfl ⟨by decide, by decide⟩ rfl ?_
      refine ev_gW [true, true] [] rfl ?_
      refine ev_reti rfl ?_
      refine ev_g0 rfl ?_
      refine ev_inV 2 k_MM_354 h_MM_takes rfl rfl rfl rfl rfl ⟨by decide, by decide⟩ rfl ?_
      refine ev_gW [false] [] rfl ?_
      refine ev_inV 2 k_MM_202 h_MM_isKind rfl rfl rfl rfl rfl ⟨by decide, by decide⟩ rfl ?_
      refine ev_gW [false, false, true, true, false, false] [] rfl ?_
      refine ev_inS 2 k_MM_192 h_MM_isOf rfl rfl rfl rfl ⟨by decide, by decide⟩ rfl ?_
      refine ev_gW [true] [] rfl ?_
      refine ev_retz rfl (by first | decide | exact zb_01 _) ?_
      refine ev_gW [false] [] rfl ?_
      refine ev_retz rfl (by first | decide | exact zb_01 _) ?_
      refine ev_gW [true] [] rfl ?_
      refine ev_retz rfl (by first | decide | exact zb_01 _) ?_
      refine ev_gW [false] [] rfl ?_
      refine ev_inV 1 k_MM_357 h_MM_is rfl rfl rfl rfl rfl ⟨by decide, by decide⟩ rfl ?_
      refine ev_gW [true, false] [] rfl ?_
      refine ev_retz rfl (by first | decide | exact zb_01 _) ?_
      refine ev_gW [true] [none] rfl ?_
      refine ev_inV 2 k_MM_288 h_MM_lay rfl rfl rfl rfl rfl ⟨by decide, by decide⟩ rfl ?_
      refine ev_gW [] [] rfl ?_
      refine ev_ret rfl ?_
      refine ev_g0 rfl ?_
      refine ev_ret rfl ?_
      refine ev_g0 rfl ?_
      refine ev_ret rfl ?_
      exact ⟨rfl, (u3 xj 0 t a ((xi 2 q 0).toInt64)), xd, xf, xo, xi, xn, nI 0, rfl, bdd, lf_W, lf_W, (CU_num hC ht ha lf_W lf_W), (MU_num hM ht ha lf_W lf_W (fun i hi => (rc_isor hC hi).2.2.1))⟩
    · skip
      refine ev_g0 rfl ?_
      refine ev_retz rfl (by first | decide | exact zb_01 _) ?_
      refine ev_gW [true] [] rfl ?_
      refine ev_retz rfl (by first | decide | exact zb_01 _) ?_
      refine ev_gW [false] [] rfl ?_
      refine ev_reti rfl ?_
      refine ev_g0 rfl ?_
      refine ev_reti rfl ?_
      refine ct_of h_MM_meets rfl rfl rfl ?_
      refine ev_gW [false] [] rfl ?_
      refine ev_inV 0 k_MM_396 h_MM_reads rfl rfl rfl rfl rfl ⟨by decide, by decide⟩ rfl ?_
      refine ev_g0 rfl ?_
      refine ev_inV 1 k_MM_344 h_MM_hold rfl rfl rfl rfl rfl ⟨by decide, by decide⟩ rfl ?_
      refine ev_gW [] [] rfl ?_
      refine ev_reti rfl ?_
      refine ev_g0 rfl ?_
      refine ev_inS 1 k_MM_386 h_MM_kindOfField rfl rfl rfl rfl ⟨by decide, by decide⟩ rfl ?_
      refine ev_gW [true, true] [] rfl ?_
      refine ev_reti rfl ?_
      refine ev_g0 rfl ?_
      refine ev_inV 2 k_MM_354 h_MM_takes rfl rfl rfl rfl rfl ⟨by decide, by decide⟩ rfl ?_
      refine ev_gW [false] [] rfl ?_
      refine ev_inV 2 k_MM_202 h_MM_isKind rfl rfl rfl rfl rfl ⟨by decide, by decide⟩ rfl ?_
      refine ev_gW [false, false, true, true, false, true] [] rfl ?_
      refine ev_retz rfl (by first | decide | exact zb_01 _) ?_
      refine ev_gW [false] [] rfl ?_
      refine ev_retz rfl (by first | decide | exact zb_01 _) ?_
      refine ev_gW [true] [] rfl ?_
      refine ev_ret rfl ?_
      refine ev_g0 rfl ?_
      refine ev_ret rfl ?_
      exact ⟨rfl, xj, xd, xf, xo, xi, xn, nI 3, rfl, bdd, lf_W, lf_W, hC, hM⟩
theorem A51_7 {ci : Nat → Nat → Nat → Int32} {cn : Nat → Nat → Nat → Nat} {co : Nat → Option Nat} {xj : Nat → Nat → Nat → Int64} {xd : Nat → Nat → Nat → UInt64} {xf : Nat → Nat → Nat → UInt32} {xo : Nat → Nat → Nat → Option Nat} {xi : Nat → Nat → Nat → Int32} {xn : Nat → Nat → Nat → Nat} {K : Nat → Nat} {I : Nat → Nat → Int32} {J : Nat → Nat → Int64} {F : Nat → Nat → UInt32} {D : Nat → Nat → UInt64} {R : Nat → Nat → Option Nat} {nx sl : Nat} {Km : Nat → Nat} {Im : Nat → Nat → Int32} {Jm : Nat → Nat → Int64} {Fm : Nat → Nat → UInt32} {Dm : Nat → Nat → UInt64} {Rm : Nat → Nat → Option Nat} {nxm slm : Nat} (hC : RC ci cn co xj xd xf xo xi xn I J F D R nx sl) (hM : RM ci cn co xj xd xf xo xi xn Im Jm Dm) {t a c : Nat} {go : Int32} (ht : t < 3) (ha : a < 8) (hc : c < 8) (x1 : Im 6 39 = nI t) (x2 : Im 6 40 = nI a) (x3 : Im 6 41 = nI 7) (x4 : Im 6 42 = nI c) (x5 : Im 6 43 = nI 0) (x6 : Im 6 44 = go) : Ct Y_OA_perform [vr 4 13, vr 8 (32 + 7 * t), vi (nI 51), vi (nI a), vi (nI 7), vi (nI c)] (K, I, J, F, D, R, nx, sl) (fun r μ1 => Ct Y_MM_meets [vr 11 6, vi (nI 51)] (Km, Im, Jm, Fm, Dm, Rm, nxm, slm) (fun r2 μ2 => r2 = none ∧ QA ci cn co go r μ1 μ2)) := by
  rcases ho : xo 0 t c with _ | q
  · skip
    refine ct_of h_OA_perform rfl rfl rfl ?_
    refine ev_gW [false] [] rfl ?_
    refine ev_inV 1 k_OA_15 h_SD_t rfl rfl rfl rfl rfl ⟨by decide, by decide⟩ rfl ?_
    refine ev_gW [] [none] rfl ?_
    refine ev_retn rfl ?_
    refine ev_g0 rfl ?_
    refine ev_inS 4 k_OA_21 h_OA_getField rfl rfl rfl rfl ⟨by decide, by decide⟩ rfl ?_
    refine ev_g0 rfl ?_
    refine ev_reti rfl ?_
    refine ev_g0 rfl ?_
    refine ev_reti rfl ?_
    refine ct_of h_MM_meets rfl rfl rfl ?_
    refine ev_gW [false] [] rfl ?_
    refine ev_inV 0 k_MM_396 h_MM_reads rfl rfl rfl rfl rfl ⟨by decide, by decide⟩ rfl ?_
    refine ev_g0 rfl ?_
    refine ev_inV 1 k_MM_344 h_MM_hold rfl rfl rfl rfl rfl ⟨by decide, by decide⟩ rfl ?_
    refine ev_gW [] [] rfl ?_
    refine ev_reti rfl ?_
    refine ev_g0 rfl ?_
    refine ev_inS 1 k_MM_386 h_MM_kindOfField rfl rfl rfl rfl ⟨by decide, by decide⟩ rfl ?_
    refine ev_gW [false] [] rfl ?_
    refine ev_reti rfl ?_
    refine ev_g0 rfl ?_
    refine ev_inV 2 k_MM_354 h_MM_takes rfl rfl rfl rfl rfl ⟨by decide, by decide⟩ rfl ?_
    refine ev_gW [true] [] rfl ?_
    refine ev_retz rfl (by first | decide | exact zb_01 _) ?_
    refine ev_gW [false] [] rfl ?_
    refine ev_inV 1 k_MM_357 h_MM_is rfl rfl rfl rfl rfl ⟨by decide, by decide⟩ rfl ?_
    refine ev_gW [false, true] [] rfl ?_
    refine ev_retz rfl (by first | decide | exact zb_01 _) ?_
    refine ev_gW [false] [] rfl ?_
    refine ev_ret rfl ?_
    refine ev_g0 rfl ?_
    refine ev_ret rfl ?_
    exact ⟨rfl, xj, xd, xf, xo, xi, xn, nI 1, rfl, bdd, lf_W, lf_W, hC, hM⟩
  · skip
    have hq := rc_ihol hC ht hc _ ho
    have zq := rc_isor hC hq
    have yq := rc_imad hC
    refine ct_of h_OA_perform rfl rfl rfl ?_
    refine ev_gW [false] [] rfl ?_
    refine ev_inV 1 k_OA_15 h_SD_t rfl rfl rfl rfl rfl ⟨by decide, by decide⟩ rfl ?_
    refine ev_gW [] [some (94 + 4 * q)] rfl ?_
    refine ev_reta rfl ?_
    refine ev_g0 rfl ?_
    refine ev_inS 4 k_OA_21 h_OA_getField rfl rfl rfl rfl ⟨by decide, by decide⟩ rfl ?_
    refine ev_g0 rfl ?_
    refine ev_inS 1 k_OA_65 h_OA_ownerOf rfl rfl rfl rfl ⟨by decide, by decide⟩ rfl ?_
    refine ev_gW [false] [] rfl ?_
    refine ev_reti rfl ?_
    refine ev_g0 rfl ?_
    refine ev_inV 1 k_OA_28 h_TH_isA rfl rfl rfl rfl rfl ⟨by decide, by decide⟩ rfl ?_
    refine ev_gW [false, true, false, false] [none] rfl ?_
    refine ev_inV 0 k_TH_73 h_TH_isRow rfl rfl rfl rfl rfl ⟨by decide, by decide⟩ rfl ?_
    refine ev_g0 rfl ?_
    refine ev_bW rfl rfl (fun h_1 => ?_) (fun h_1 => ?_)
    · skip
      refine ev_g0 rfl ?_
      refine ev_retz rfl (by first | decide | exact zb_01 _) ?_
      refine ev_gW [false] [] rfl ?_
      refine ev_inS 2 k_TH_77 h_TH_isUnder rfl rfl rfl rfl ⟨by decide, by decide⟩ rfl ?_
      refine ev_gW [false] [] rfl ?_
      refine ev_bW rfl rfl (fun h_2 => ?_) (fun h_2 => ?_)
      · skip
        refine ev_g0 rfl ?_
        refine ev_retz rfl (by first | decide | exact zb_01 _) ?_
        refine ev_gW [false] [] rfl ?_
        refine ev_retz rfl (by first | decide | exact zb_01 _) ?_
        refine ev_gW [true] [some 7] rfl ?_
        refine ev_inV 2 k_OA_42 h_SD_setN rfl rfl rfl rfl rfl ⟨by decide, by decide⟩ rfl ?_
        refine ev_gW [] [] rfl ?_
        refine ev_ret rfl ?_
        refine ev_g0 rfl ?_
        refine ev_reti rfl ?_
        refine ev_g0 rfl ?_
        refine ev_reti rfl ?_
        refine ct_of h_MM_meets rfl rfl rfl ?_
        refine ev_gW [false] [] rfl ?_
        refine ev_inV 0 k_MM_396 h_MM_reads rfl rfl rfl rfl rfl ⟨by decide, by decide⟩ rfl ?_
        refine ev_g0 rfl ?_
        refine ev_inV 1 k_MM_344 h_MM_hold rfl rfl rfl rfl rfl ⟨by decide, by decide⟩ rfl ?_
        refine ev_gW [] [] rfl ?_
        refine ev_reti rfl ?_
        refine ev_g0 rfl ?_
        refine ev_inS 1 k_MM_386 h_MM_kindOfField rfl rfl rfl rfl ⟨by decide, by decide⟩ rfl ?_
        refine ev_gW [false] [] rfl ?_
        refine ev_reti rfl ?_
        refine ev_g0 rfl ?_
        refine ev_inV 2 k_MM_354 h_MM_takes rfl rfl rfl rfl rfl ⟨by decide, by decide⟩ rfl ?_
        refine ev_gW [false] [] rfl ?_
        refine ev_inV 2 k_MM_202 h_MM_isKind rfl rfl rfl rfl rfl ⟨by decide, by decide⟩ rfl ?_
        refine ev_gW [false, false, true, true, false, false] [] rfl ?_
        refine ev_inS 2 k_MM_192 h_MM_isOf rfl rfl rfl rfl ⟨by decide, by decide⟩ rfl ?_
        refine ev_gW [false, true] [] rfl ?_
        refine ev_retz rfl (by first | decide | exact zb_01 _) ?_
        refine ev_gW [false] [] rfl ?_
        refine ev_retz rfl (by first | decide | exact zb_01 _) ?_
        refine ev_gW [true] [] rfl ?_
        refine ev_retz rfl (by first | decide | exact zb_01 _) ?_
        refine ev_gW [false] [] rfl ?_
        refine ev_inV 1 k_MM_357 h_MM_is rfl rfl rfl rfl rfl ⟨by decide, by decide⟩ rfl ?_
        refine ev_gW [true, false] [] rfl ?_
        refine ev_retz rfl (by first | decide | exact zb_01 _) ?_
        refine ev_gW [true] [none] rfl ?_
        refine ev_inV 2 k_MM_288 h_MM_lay rfl rfl rfl rfl rfl ⟨by decide, by decide⟩ rfl ?_
        refine ev_gW [] [] rfl ?_
        refine ev_ret rfl ?_
        refine ev_g0 rfl ?_
        refine ev_ret rfl ?_
        refine ev_g0 rfl ?_
        refine ev_ret rfl ?_
        exact ⟨rfl, (u3 xj 0 t a ((xi 2 q 1).toInt64)), xd, xf, xo, xi, xn, nI 0, rfl, bdd, lf_W, lf_W, (CU_num hC ht ha lf_W lf_W), (MU_num hM ht ha lf_W lf_W (fun i hi => (rc_isor hC hi).2.2.1))⟩
      · skip
        refine ev_g0 rfl ?_
        refine ev_bW rfl rfl (fun h_3 => ?_) (fun h_3 => ?_)
        · skip
          refine ev_g0 rfl ?_
          refine ev_retz rfl (by first | decide | exact zb_01 _) ?_
          refine ev_gW [true] [] rfl ?_
          refine ev_retz rfl (by first | decide | exact zb_01 _) ?_
          refine ev_gW [false] [] rfl ?_
          refine ev_reti rfl ?_
          refine ev_g0 rfl ?_
          refine ev_reti rfl ?_
          refine ct_of h_MM_meets rfl rfl rfl ?_
          refine ev_gW [false] [] rfl ?_
          refine ev_inV 0 k_MM_396 h_MM_reads rfl rfl rfl rfl rfl ⟨by decide, by decide⟩ rfl ?_
          refine ev_g0 rfl ?_
          refine ev_inV 1 k_MM_344 h_MM_hold rfl rfl rfl rfl rfl ⟨by decide, by decide⟩ rfl ?_
          refine ev_gW [] [] rfl ?_
          refine ev_reti rfl ?_
          refine ev_g0 rfl ?_
          refine ev_inS 1 k_MM_386 h_MM_kindOfField rfl rfl rfl rfl ⟨by decide, by decide⟩ rfl ?_
          refine ev_gW [false] [] rfl ?_
          refine ev_reti rfl ?_
          refine ev_g0 rfl ?_
          refine ev_inV 2 k_MM_354 h_MM_takes rfl rfl rfl rfl rfl ⟨by decide, by decide⟩ rfl ?_
          refine ev_gW [false] [] rfl ?_
          refine ev_inV 2 k_MM_202 h_MM_isKind rfl rfl rfl rfl rfl ⟨by decide, by decide⟩ rfl ?_
          refine ev_gW [false, false, true, true, false, false] [] rfl ?_
          refine ev_inS 2 k_MM_192 h_MM_isOf rfl rfl rfl rfl ⟨by decide, by decide⟩ rfl ?_
          refine ev_gW [false, false, false, false, false, true] [] rfl ?_
          refine ev_retz rfl (by first | decide | exact zb_01 _) ?_
          refine ev_gW [true] [] rfl ?_
          refine ev_retz rfl (by first | decide | exact zb_01 _) ?_
          refine ev_gW [false] [] rfl ?_
          refine ev_retz rfl (by first | decide | exact zb_01 _) ?_
          refine ev_gW [true] [] rfl ?_
          refine ev_ret rfl ?_
          refine ev_g0 rfl ?_
          refine ev_ret rfl ?_
          exact ⟨rfl, xj, xd, xf, xo, xi, xn, nI 3, rfl, bdd, lf_W, lf_W, hC, hM⟩
        · skip
          refine ev_g0 rfl ?_
          refine ev_bW rfl rfl (fun h_4 => ?_) (fun h_4 => ?_)
          · skip
            refine ev_g0 rfl ?_
            refine ev_retz rfl (by first | decide | exact zb_01 _) ?_
            refine ev_gW [true] [] rfl ?_
            refine ev_retz rfl (by first | decide | exact zb_01 _) ?_
            refine ev_gW [false] [] rfl ?_
            refine ev_reti rfl ?_
            refine ev_g0 rfl ?_
            refine ev_reti rfl ?_
            refine ct_of h_MM_meets rfl rfl rfl ?_
            refine ev_gW [false] [] rfl ?_
            refine ev_inV 0 k_MM_396 h_MM_reads rfl rfl rfl rfl rfl ⟨by decide, by decide⟩ rfl ?_
            refine ev_g0 rfl ?_
            refine ev_inV 1 k_MM_344 h_MM_hold rfl rfl rfl rfl rfl ⟨by decide, by decide⟩ rfl ?_
            refine ev_gW [] [] rfl ?_
            refine ev_reti rfl ?_
            refine ev_g0 rfl ?_
            refine ev_inS 1 k_MM_386 h_MM_kindOfField rfl rfl rfl rfl ⟨by decide, by decide⟩ rfl ?_
            refine ev_gW [false] [] rfl ?_
            refine ev_reti rfl ?_
            refine ev_g0 rfl ?_
            refine ev_inV 2 k_MM_354 h_MM_takes rfl rfl rfl rfl rfl ⟨by decide, by decide⟩ rfl ?_
            refine ev_gW [false] [] rfl ?_
            refine ev_inV 2 k_MM_202 h_MM_isKind rfl rfl rfl rfl rfl ⟨by decide, by decide⟩ rfl ?_
            refine ev_gW [false, false, true, true, false, false] [] rfl ?_
            refine ev_inS 2 k_MM_192 h_MM_isOf rfl rfl rfl rfl ⟨by decide, by decide⟩ rfl ?_
            refine ev_gW [false, false, false, false, false, true] [] rfl ?_
            refine ev_retz rfl (by first | decide | exact zb_01 _) ?_
            refine ev_gW [true] [] rfl ?_
            refine ev_retz rfl (by first | decide | exact zb_01 _) ?_
            refine ev_gW [false] [] rfl ?_
            refine ev_retz rfl (by first | decide | exact zb_01 _) ?_
            refine ev_gW [true] [] rfl ?_
            refine ev_ret rfl ?_
            refine ev_g0 rfl ?_
            refine ev_ret rfl ?_
            exact ⟨rfl, xj, xd, xf, xo, xi, xn, nI 3, rfl, bdd, lf_W, lf_W, hC, hM⟩
          · skip
            refine ev_g0 rfl ?_
            refine ev_retz rfl (by first | decide | exact zb_01 _) ?_
            refine ev_gW [false] [] rfl ?_
            refine ev_retz rfl (by first | decide | exact zb_01 _) ?_
            refine ev_gW [true] [some 7] rfl ?_
            refine ev_inV 2 k_OA_42 h_SD_setN rfl rfl rfl rfl rfl ⟨by decide, by decide⟩ rfl ?_
            refine ev_gW [] [] rfl ?_
            refine ev_ret rfl ?_
            refine ev_g0 rfl ?_
            refine ev_reti rfl ?_
            refine ev_g0 rfl ?_
            refine ev_reti rfl ?_
            refine ct_of h_MM_meets rfl rfl rfl ?_
            refine ev_gW [false] [] rfl ?_
            refine ev_inV 0 k_MM_396 h_MM_reads rfl rfl rfl rfl rfl ⟨by decide, by decide⟩ rfl ?_
            refine ev_g0 rfl ?_
            refine ev_inV 1 k_MM_344 h_MM_hold rfl rfl rfl rfl rfl ⟨by decide, by decide⟩ rfl ?_
            refine ev_gW [] [] rfl ?_
            refine ev_reti rfl ?_
            refine ev_g0 rfl ?_
            refine ev_inS 1 k_MM_386 h_MM_kindOfField rfl rfl rfl rfl ⟨by decide, by decide⟩ rfl ?_
            refine ev_gW [false] [] rfl ?_
            refine ev_reti rfl ?_
            refine ev_g0 rfl ?_
            refine ev_inV 2 k_MM_354 h_MM_takes rfl rfl rfl rfl rfl ⟨by decide, by decide⟩ rfl ?_
            refine ev_gW [false] [] rfl ?_
            refine ev_inV 2 k_MM_202 h_MM_isKind rfl rfl rfl rfl rfl ⟨by decide, by decide⟩ rfl ?_
            refine ev_gW [false, false, true, true, false, false] [] rfl ?_
            refine ev_inS 2 k_MM_192 h_MM_isOf rfl rfl rfl rfl ⟨by decide, by decide⟩ rfl ?_
            refine ev_gW [false, false, false] [] rfl ?_
            refine ev_bW rfl rfl (fun h_5 => ?_) (fun h_5 => ?_)
            · skip
              refine ev_g0 rfl ?_
              refine ev_retz rfl (by first | decide | exact zb_01 _) ?_
              refine ev_gW [false] [] rfl ?_
              refine ev_retz rfl (by first | decide | exact zb_01 _) ?_
              refine ev_gW [true] [] rfl ?_
              refine ev_retz rfl (by first | decide | exact zb_01 _) ?_
              refine ev_gW [false] [] rfl ?_
              refine ev_inV 1 k_MM_357 h_MM_is rfl rfl rfl rfl rfl ⟨by decide, by decide⟩ rfl ?_
              refine ev_gW [true, false] [] rfl ?_
              refine ev_retz rfl (by first | decide | exact zb_01 _) ?_
              refine ev_gW [true] [none] rfl ?_
              refine ev_inV 2 k_MM_288 h_MM_lay rfl rfl rfl rfl rfl ⟨by decide, by decide⟩ rfl ?_
              refine ev_gW [] [] rfl ?_
              refine ev_ret rfl ?_
              refine ev_g0 rfl ?_
              refine ev_ret rfl ?_
              refine ev_g0 rfl ?_
              refine ev_ret rfl ?_
              exact ⟨rfl, (u3 xj 0 t a ((xi 2 q 1).toInt64)), xd, xf, xo, xi, xn, nI 0, rfl, bdd, lf_W, lf_W, (CU_num hC ht ha lf_W lf_W), (MU_num hM ht ha lf_W lf_W (fun i hi => (rc_isor hC hi).2.2.1))⟩
            · skip
              refine ev_gW [true] [] rfl ?_
              refine ev_retz rfl (by first | decide | exact zb_01 _) ?_
              refine ev_gW [false] [] rfl ?_
              refine ev_retz rfl (by first | decide | exact zb_01 _) ?_
              refine ev_gW [true] [] rfl ?_
              refine ev_retz rfl (by first | decide | exact zb_01 _) ?_
              refine ev_gW [false] [] rfl ?_
              refine ev_inV 1 k_MM_357 h_MM_is rfl rfl rfl rfl rfl ⟨by decide, by decide⟩ rfl ?_
              refine ev_gW [true, false] [] rfl ?_
              refine ev_retz rfl (by first | decide | exact zb_01 _) ?_
              refine ev_gW [true] [none] rfl ?_
              refine ev_inV 2 k_MM_288 h_MM_lay rfl rfl rfl rfl rfl ⟨by decide, by decide⟩ rfl ?_
              refine ev_gW [] [] rfl ?_
              refine ev_ret rfl ?_
              refine ev_g0 rfl ?_
              refine ev_ret rfl ?_
              refine ev_g0 rfl ?_
              refine ev_ret rfl ?_
              exact ⟨rfl, (u3 xj 0 t a ((xi 2 q 1).toInt64)), xd, xf, xo, xi, xn, nI 0, rfl, bdd, lf_W, lf_W, (CU_num hC ht ha lf_W lf_W), (MU_num hM ht ha lf_W lf_W (fun i hi => (rc_isor hC hi).2.2.1))⟩
    · skip
      refine ev_g0 rfl ?_
      refine ev_retz rfl (by first | decide | exact zb_01 _) ?_
      refine ev_gW [true] [] rfl ?_
      refine ev_retz rfl (by first | decide | exact zb_01 _) ?_
      refine ev_gW [false] [] rfl ?_
      refine ev_reti rfl ?_
      refine ev_g0 rfl ?_
      refine ev_reti rfl ?_
      refine ct_of h_MM_meets rfl rfl rfl ?_
      refine ev_gW [false] [] rfl ?_
      refine ev_inV 0 k_MM_396 h_MM_reads rfl rfl rfl rfl rfl ⟨by decide, by decide⟩ rfl ?_
      refine ev_g0 rfl ?_
      refine ev_inV 1 k_MM_344 h_MM_hold rfl rfl rfl rfl rfl ⟨by decide, by decide⟩ rfl ?_
      refine ev_gW [] [] rfl ?_
      refine ev_reti rfl ?_
      refine ev_g0 rfl ?_
      refine ev_inS 1 k_MM_386 h_MM_kindOfField rfl rfl rfl rfl ⟨by decide, by decide⟩ rfl ?_
      refine ev_gW [false] [] rfl ?_
      refine ev_reti rfl ?_
      refine ev_g0 rfl ?_
      refine ev_inV 2 k_MM_354 h_MM_takes rfl rfl rfl rfl rfl ⟨by decide, by decide⟩ rfl ?_
      refine ev_gW [false] [] rfl ?_
      refine ev_inV 2 k_MM_202 h_MM_isKind rfl rfl rfl rfl rfl ⟨by decide, by decide⟩ rfl ?_
      refine ev_gW [false, false, true, true, false, true] [] rfl ?_
      refine ev_retz rfl (by first | decide | exact zb_01 _) ?_
      refine ev_gW [false] [] rfl ?_
      refine ev_retz rfl (by first | decide | exact zb_01 _) ?_
      refine ev_gW [true] [] rfl ?_
      refine ev_ret rfl ?_
      refine ev_g0 rfl ?_
      refine ev_ret rfl ?_
      exact ⟨rfl, xj, xd, xf, xo, xi, xn, nI 3, rfl, bdd, lf_W, lf_W, hC, hM⟩
theorem A51_8 {ci : Nat → Nat → Nat → Int32} {cn : Nat → Nat → Nat → Nat} {co : Nat → Option Nat} {xj : Nat → Nat → Nat → Int64} {xd : Nat → Nat → Nat → UInt64} {xf : Nat → Nat → Nat → UInt32} {xo : Nat → Nat → Nat → Option Nat} {xi : Nat → Nat → Nat → Int32} {xn : Nat → Nat → Nat → Nat} {K : Nat → Nat} {I : Nat → Nat → Int32} {J : Nat → Nat → Int64} {F : Nat → Nat → UInt32} {D : Nat → Nat → UInt64} {R : Nat → Nat → Option Nat} {nx sl : Nat} {Km : Nat → Nat} {Im : Nat → Nat → Int32} {Jm : Nat → Nat → Int64} {Fm : Nat → Nat → UInt32} {Dm : Nat → Nat → UInt64} {Rm : Nat → Nat → Option Nat} {nxm slm : Nat} (hC : RC ci cn co xj xd xf xo xi xn I J F D R nx sl) (hM : RM ci cn co xj xd xf xo xi xn Im Jm Dm) {t a c : Nat} {go : Int32} (ht : t < 3) (ha : a < 8) (hc : c < 8) (x1 : Im 6 39 = nI t) (x2 : Im 6 40 = nI a) (x3 : Im 6 41 = nI 8) (x4 : Im 6 42 = nI c) (x5 : Im 6 43 = nI 0) (x6 : Im 6 44 = go) : Ct Y_OA_perform [vr 4 13, vr 8 (32 + 7 * t), vi (nI 51), vi (nI a), vi (nI 8), vi (nI c)] (K, I, J, F, D, R, nx, sl) (fun r μ1 => Ct Y_MM_meets [vr 11 6, vi (nI 51)] (Km, Im, Jm, Fm, Dm, Rm, nxm, slm) (fun r2 μ2 => r2 = none ∧ QA ci cn co go r μ1 μ2)) := by
  rcases ho : xo 0 t c with _ | q
  · skip
    refine ct_of h_OA_perform rfl rfl rfl ?_
    refine ev_gW [false] [] rfl ?_
    refine ev_inV 1 k_OA_15 h_SD_t rfl rfl rfl rfl rfl ⟨by decide, by decide⟩ rfl ?_
    refine ev_gW [] [none] rfl ?_
    refine ev_retn rfl ?_
    refine ev_g0 rfl ?_
    refine ev_inS 4 k_OA_21 h_OA_getField rfl rfl rfl rfl ⟨by decide, by decide⟩ rfl ?_
    refine ev_g0 rfl ?_
    refine ev_reti rfl ?_
    refine ev_g0 rfl ?_
    refine ev_reti rfl ?_
    refine ct_of h_MM_meets rfl rfl rfl ?_
    refine ev_gW [false] [] rfl ?_
    refine ev_inV 0 k_MM_396 h_MM_reads rfl rfl rfl rfl rfl ⟨by decide, by decide⟩ rfl ?_
    refine ev_g0 rfl ?_
    refine ev_inV 1 k_MM_344 h_MM_hold rfl rfl rfl rfl rfl ⟨by decide, by decide⟩ rfl ?_
    refine ev_gW [] [] rfl ?_
    refine ev_reti rfl ?_
    refine ev_g0 rfl ?_
    refine ev_inS 1 k_MM_386 h_MM_kindOfField rfl rfl rfl rfl ⟨by decide, by decide⟩ rfl ?_
    refine ev_gW [true, false] [] rfl ?_
    refine ev_reti rfl ?_
    refine ev_g0 rfl ?_
    refine ev_inV 2 k_MM_354 h_MM_takes rfl rfl rfl rfl rfl ⟨by decide, by decide⟩ rfl ?_
    refine ev_gW [true] [] rfl ?_
    refine ev_retz rfl (by first | decide | exact zb_01 _) ?_
    refine ev_gW [false] [] rfl ?_
    refine ev_inV 1 k_MM_357 h_MM_is rfl rfl rfl rfl rfl ⟨by decide, by decide⟩ rfl ?_
    refine ev_gW [false, true] [] rfl ?_
    refine ev_retz rfl (by first | decide | exact zb_01 _) ?_
    refine ev_gW [false] [] rfl ?_
    refine ev_ret rfl ?_
    refine ev_g0 rfl ?_
    refine ev_ret rfl ?_
    exact ⟨rfl, xj, xd, xf, xo, xi, xn, nI 1, rfl, bdd, lf_W, lf_W, hC, hM⟩
  · skip
    have hq := rc_ihol hC ht hc _ ho
    have zq := rc_isor hC hq
    have yq := rc_imad hC
    refine ct_of h_OA_perform rfl rfl rfl ?_
    refine ev_gW [false] [] rfl ?_
    refine ev_inV 1 k_OA_15 h_SD_t rfl rfl rfl rfl rfl ⟨by decide, by decide⟩ rfl ?_
    refine ev_gW [] [some (94 + 4 * q)] rfl ?_
    refine ev_reta rfl ?_
    refine ev_g0 rfl ?_
    refine ev_inS 4 k_OA_21 h_OA_getField rfl rfl rfl rfl ⟨by decide, by decide⟩ rfl ?_
    refine ev_g0 rfl ?_
    refine ev_inS 1 k_OA_65 h_OA_ownerOf rfl rfl rfl rfl ⟨by decide, by decide⟩ rfl ?_
    refine ev_gW [true, false] [] rfl ?_
    refine ev_reti rfl ?_
    refine ev_g0 rfl ?_
    refine ev_inV 1 k_OA_28 h_TH_isA rfl rfl rfl rfl rfl ⟨by decide, by decide⟩ rfl ?_
    refine ev_gW [false, true, false, false] [none] rfl ?_
    refine ev_inV 0 k_TH_73 h_TH_isRow rfl rfl rfl rfl rfl ⟨by decide, by decide⟩ rfl ?_
    refine ev_g0 rfl ?_
    refine ev_bW rfl rfl (fun h_1 => ?_) (fun h_1 => ?_)
    · skip
      refine ev_g0 rfl ?_
      refine ev_retz rfl (by first | decide | exact zb_01 _) ?_
      refine ev_gW [false] [] rfl ?_
      refine ev_inS 2 k_TH_77 h_TH_isUnder rfl rfl rfl rfl ⟨by decide, by decide⟩ rfl ?_
      refine ev_gW [false] [] rfl ?_
      refine ev_bW rfl rfl (fun h_2 => ?_) (fun h_2 => ?_)
      · skip
        refine ev_g0 rfl ?_
        refine ev_retz rfl (by first | decide | exact zb_01 _) ?_
        refine ev_gW [false] [] rfl ?_
        refine ev_retz rfl (by first | decide | exact zb_01 _) ?_
        refine ev_gW [true] [none] rfl ?_
        refine ev_inV 2 k_OA_42 h_SD_setN rfl rfl rfl rfl rfl ⟨by decide, by decide⟩ rfl ?_
        refine ev_gW [] [] rfl ?_
        refine ev_ret rfl ?_
        refine ev_g0 rfl ?_
        refine ev_reti rfl ?_
        refine ev_g0 rfl ?_
        refine ev_reti rfl ?_
        refine ct_of h_MM_meets rfl rfl rfl ?_
        refine ev_gW [false] [] rfl ?_
        refine ev_inV 0 k_MM_396 h_MM_reads rfl rfl rfl rfl rfl ⟨by decide, by decide⟩ rfl ?_
        refine ev_g0 rfl ?_
        refine ev_inV 1 k_MM_344 h_MM_hold rfl rfl rfl rfl rfl ⟨by decide, by decide⟩ rfl ?_
        refine ev_gW [] [] rfl ?_
        refine ev_reti rfl ?_
        refine ev_g0 rfl ?_
        refine ev_inS 1 k_MM_386 h_MM_kindOfField rfl rfl rfl rfl ⟨by decide, by decide⟩ rfl ?_
        refine ev_gW [true, false] [] rfl ?_
        refine ev_reti rfl ?_
        refine ev_g0 rfl ?_
        refine ev_inV 2 k_MM_354 h_MM_takes rfl rfl rfl rfl rfl ⟨by decide, by decide⟩ rfl ?_
        refine ev_gW [false] [] rfl ?_
        refine ev_inV 2 k_MM_202 h_MM_isKind rfl rfl rfl rfl rfl ⟨by decide, by decide⟩ rfl ?_
        refine ev_gW [false, false, true, true, false, false] [] rfl ?_
        refine ev_inS 2 k_MM_192 h_MM_isOf rfl rfl rfl rfl ⟨by decide, by decide⟩ rfl ?_
        refine ev_gW [false, true] [] rfl ?_
        refine ev_retz rfl (by first | decide | exact zb_01 _) ?_
        refine ev_gW [false] [] rfl ?_
        refine ev_retz rfl (by first | decide | exact zb_01 _) ?_
        refine ev_gW [true] [] rfl ?_
        refine ev_retz rfl (by first | decide | exact zb_01 _) ?_
        refine ev_gW [false] [] rfl ?_
        refine ev_inV 1 k_MM_357 h_MM_is rfl rfl rfl rfl rfl ⟨by decide, by decide⟩ rfl ?_
        refine ev_gW [true, false] [] rfl ?_
        refine ev_retz rfl (by first | decide | exact zb_01 _) ?_
        refine ev_gW [true] [none] rfl ?_
        refine ev_inV 2 k_MM_288 h_MM_lay rfl rfl rfl rfl rfl ⟨by decide, by decide⟩ rfl ?_
        refine ev_gW [] [] rfl ?_
        refine ev_ret rfl ?_
        refine ev_g0 rfl ?_
        refine ev_ret rfl ?_
        refine ev_g0 rfl ?_
        refine ev_ret rfl ?_
        exact ⟨rfl, (u3 xj 0 t a ((xi 2 q 2).toInt64)), xd, xf, xo, xi, xn, nI 0, rfl, bdd, lf_W, lf_W, (CU_num hC ht ha lf_W lf_W), (MU_num hM ht ha lf_W lf_W (fun i hi => (rc_isor hC hi).2.2.1))⟩
      · skip
        refine ev_g0 rfl ?_
        refine ev_bW rfl rfl (fun h_3 => ?_) (fun h_3 => ?_)
        · skip
          refine ev_g0 rfl ?_
          refine ev_retz rfl (by first | decide | exact zb_01 _) ?_
          refine ev_gW [true] [] rfl ?_
          refine ev_retz rfl (by first | decide | exact zb_01 _) ?_
          refine ev_gW [false] [] rfl ?_
          refine ev_reti rfl ?_
          refine ev_g0 rfl ?_
          refine ev_reti rfl ?_
          refine ct_of h_MM_meets rfl rfl rfl ?_
          refine ev_gW [false] [] rfl ?_
          refine ev_inV 0 k_MM_396 h_MM_reads rfl rfl rfl rfl rfl ⟨by decide, by decide⟩ rfl ?_
          refine ev_g0 rfl ?_
          refine ev_inV 1 k_MM_344 h_MM_hold rfl rfl rfl rfl rfl ⟨by decide, by decide⟩ rfl ?_
          refine ev_gW [] [] rfl ?_
          refine ev_reti rfl ?_
          refine ev_g0 rfl ?_
          refine ev_inS 1 k_MM_386 h_MM_kindOfField rfl rfl rfl rfl ⟨by decide, by decide⟩ rfl ?_
          refine ev_gW [true, false] [] rfl ?_
          refine ev_reti rfl ?_
          refine ev_g0 rfl ?_
          refine ev_inV 2 k_MM_354 h_MM_takes rfl rfl rfl rfl rfl ⟨by decide, by decide⟩ rfl ?_
          refine ev_gW [false] [] rfl ?_
          refine ev_inV 2 k_MM_202 h_MM_isKind rfl rfl rfl rfl rfl ⟨by decide, by decide⟩ rfl ?_
          refine ev_gW [false, false, true, true, false, false] [] rfl ?_
          refine ev_inS 2 k_MM_192 h_MM_isOf rfl rfl rfl rfl ⟨by decide, by decide⟩ rfl ?_
          refine ev_gW [false, false, true, true] [] rfl ?_
          refine ev_retz rfl (by first | decide | exact zb_01 _) ?_
          refine ev_gW [true] [] rfl ?_
          refine ev_retz rfl (by first | decide | exact zb_01 _) ?_
          refine ev_gW [false] [] rfl ?_
          refine ev_retz rfl (by first | decide | exact zb_01 _) ?_
          refine ev_gW [true] [] rfl ?_
          refine ev_ret rfl ?_
          refine ev_g0 rfl ?_
          refine ev_ret rfl ?_
          exact ⟨rfl, xj, xd, xf, xo, xi, xn, nI 3, rfl, bdd, lf_W, lf_W, hC, hM⟩
        · skip
          refine ev_gW [true] [] rfl ?_
          refine ev_retz rfl (by first | decide | exact zb_01 _) ?_
          refine ev_gW [true] [] rfl ?_
          refine ev_retz rfl (by first | decide | exact zb_01 _) ?_
          refine ev_gW [false] [] rfl ?_
          refine ev_reti rfl ?_
          refine ev_g0 rfl ?_
          refine ev_reti rfl ?_
          refine ct_of h_MM_meets rfl rfl rfl ?_
          refine ev_gW [false] [] rfl ?_
          refine ev_inV 0 k_MM_396 h_MM_reads rfl rfl rfl rfl rfl ⟨by decide, by decide⟩ rfl ?_
          refine ev_g0 rfl ?_
          refine ev_inV 1 k_MM_344 h_MM_hold rfl rfl rfl rfl rfl ⟨by decide, by decide⟩ rfl ?_
          refine ev_gW [] [] rfl ?_
          refine ev_reti rfl ?_
          refine ev_g0 rfl ?_
          refine ev_inS 1 k_MM_386 h_MM_kindOfField rfl rfl rfl rfl ⟨by decide, by decide⟩ rfl ?_
          refine ev_gW [true, false] [] rfl ?_
          refine ev_reti rfl ?_
          refine ev_g0 rfl ?_
          refine ev_inV 2 k_MM_354 h_MM_takes rfl rfl rfl rfl rfl ⟨by decide, by decide⟩ rfl ?_
          refine ev_gW [false] [] rfl ?_
          refine ev_inV 2 k_MM_202 h_MM_isKind rfl rfl rfl rfl rfl ⟨by decide, by decide⟩ rfl ?_
          refine ev_gW [false, false, true, true, false, false] [] rfl ?_
          refine ev_inS 2 k_MM_192 h_MM_isOf rfl rfl rfl rfl ⟨by decide, by decide⟩ rfl ?_
          refine ev_gW [false, false, true, true] [] rfl ?_
          refine ev_retz rfl (by first | decide | exact zb_01 _) ?_
          refine ev_gW [true] [] rfl ?_
          refine ev_retz rfl (by first | decide | exact zb_01 _) ?_
          refine ev_gW [false] [] rfl ?_
          refine ev_retz rfl (by first | decide | exact zb_01 _) ?_
          refine ev_gW [true] [] rfl ?_
          refine ev_ret rfl ?_
          refine ev_g0 rfl ?_
          refine ev_ret rfl ?_
          exact ⟨rfl, xj, xd, xf, xo, xi, xn, nI 3, rfl, bdd, lf_W, lf_W, hC, hM⟩
    · skip
      refine ev_g0 rfl ?_
      refine ev_retz rfl (by first | decide | exact zb_01 _) ?_
      refine ev_gW [true] [] rfl ?_
      refine ev_retz rfl (by first | decide | exact zb_01 _) ?_
      refine ev_gW [false] [] rfl ?_
      refine ev_reti rfl ?_
      refine ev_g0 rfl ?_
      refine ev_reti rfl ?_
      refine ct_of h_MM_meets rfl rfl rfl ?_
      refine ev_gW [false] [] rfl ?_
      refine ev_inV 0 k_MM_396 h_MM_reads rfl rfl rfl rfl rfl ⟨by decide, by decide⟩ rfl ?_
      refine ev_g0 rfl ?_
      refine ev_inV 1 k_MM_344 h_MM_hold rfl rfl rfl rfl rfl ⟨by decide, by decide⟩ rfl ?_
      refine ev_gW [] [] rfl ?_
      refine ev_reti rfl ?_
      refine ev_g0 rfl ?_
      refine ev_inS 1 k_MM_386 h_MM_kindOfField rfl rfl rfl rfl ⟨by decide, by decide⟩ rfl ?_
      refine ev_gW [true, false] [] rfl ?_
      refine ev_reti rfl ?_
      refine ev_g0 rfl ?_
      refine ev_inV 2 k_MM_354 h_MM_takes rfl rfl rfl rfl rfl ⟨by decide, by decide⟩ rfl ?_
      refine ev_gW [false] [] rfl ?_
      refine ev_inV 2 k_MM_202 h_MM_isKind rfl rfl rfl rfl rfl ⟨by decide, by decide⟩ rfl ?_
      refine ev_gW [false, false, true, true, false, true] [] rfl ?_
      refine ev_retz rfl (by first | decide | exact zb_01 _) ?_
      refine ev_gW [false] [] rfl ?_
      refine ev_retz rfl (by first | decide | exact zb_01 _) ?_
      refine ev_gW [true] [] rfl ?_
      refine ev_ret rfl ?_
      refine ev_g0 rfl ?_
      refine ev_ret rfl ?_
      exact ⟨rfl, xj, xd, xf, xo, xi, xn, nI 3, rfl, bdd, lf_W, lf_W, hC, hM⟩
theorem A52_0 {ci : Nat → Nat → Nat → Int32} {cn : Nat → Nat → Nat → Nat} {co : Nat → Option Nat} {xj : Nat → Nat → Nat → Int64} {xd : Nat → Nat → Nat → UInt64} {xf : Nat → Nat → Nat → UInt32} {xo : Nat → Nat → Nat → Option Nat} {xi : Nat → Nat → Nat → Int32} {xn : Nat → Nat → Nat → Nat} {K : Nat → Nat} {I : Nat → Nat → Int32} {J : Nat → Nat → Int64} {F : Nat → Nat → UInt32} {D : Nat → Nat → UInt64} {R : Nat → Nat → Option Nat} {nx sl : Nat} {Km : Nat → Nat} {Im : Nat → Nat → Int32} {Jm : Nat → Nat → Int64} {Fm : Nat → Nat → UInt32} {Dm : Nat → Nat → UInt64} {Rm : Nat → Nat → Option Nat} {nxm slm : Nat} (hC : RC ci cn co xj xd xf xo xi xn I J F D R nx sl) (hM : RM ci cn co xj xd xf xo xi xn Im Jm Dm) {t a c : Nat} {go : Int32} (ht : t < 3) (ha : a < 8) (hc : c < 8) (x1 : Im 6 39 = nI t) (x2 : Im 6 40 = nI a) (x3 : Im 6 41 = nI 0) (x4 : Im 6 42 = nI c) (x5 : Im 6 43 = nI 0) (x6 : Im 6 44 = go) : Ct Y_OA_perform [vr 4 13, vr 8 (32 + 7 * t), vi (nI 52), vi (nI a), vi (nI 0), vi (nI c)] (K, I, J, F, D, R, nx, sl) (fun r μ1 => Ct Y_MM_meets [vr 11 6, vi (nI 52)] (Km, Im, Jm, Fm, Dm, Rm, nxm, slm) (fun r2 μ2 => r2 = none ∧ QA ci cn co go r μ1 μ2)) := by
  rcases ho : xo 0 t c with _ | q
  · skip
    refine ct_of h_OA_perform rfl rfl rfl ?_
    refine ev_gW [true, false] [] rfl ?_
    refine ev_inV 1 k_OA_15 h_SD_t rfl rfl rfl rfl rfl ⟨by decide, by decide⟩ rfl ?_
    refine ev_gW [] [none] rfl ?_
    refine ev_retn rfl ?_
    refine ev_g0 rfl ?_
    refine ev_inS 4 k_OA_25 h_OA_setField rfl rfl rfl rfl ⟨by decide, by decide⟩ rfl ?_
    refine ev_gW [false, true] [] rfl ?_
    refine ev_reti rfl ?_
    refine ev_g0 rfl ?_
    refine ev_reti rfl ?_
    refine ct_of h_MM_meets rfl rfl rfl ?_
    refine ev_gW [true, false] [] rfl ?_
    refine ev_inV 0 k_MM_399 h_MM_writes rfl rfl rfl rfl rfl ⟨by decide, by decide⟩ rfl ?_
    refine ev_g0 rfl ?_
    refine ev_inV 1 k_MM_344 h_MM_hold rfl rfl rfl rfl rfl ⟨by decide, by decide⟩ rfl ?_
    refine ev_gW [] [] rfl ?_
    refine ev_reti rfl ?_
    refine ev_g0 rfl ?_
    refine ev_inS 1 k_MM_386 h_MM_kindOfField rfl rfl rfl rfl ⟨by decide, by decide⟩ rfl ?_
    refine ev_gW [true, true] [] rfl ?_
    refine ev_reti rfl ?_
    refine ev_g0 rfl ?_
    refine ev_inV 2 k_MM_354 h_MM_takes rfl rfl rfl rfl rfl ⟨by decide, by decide⟩ rfl ?_
    refine ev_gW [true] [] rfl ?_
    refine ev_retz rfl (by first | decide | exact zb_01 _) ?_
    refine ev_gW [false, true, true] [] rfl ?_
    refine ev_inV 1 k_MM_357 h_MM_is rfl rfl rfl rfl rfl ⟨by decide, by decide⟩ rfl ?_
    refine ev_gW [false, true] [] rfl ?_
    refine ev_retz rfl (by first | decide | exact zb_01 _) ?_
    refine ev_gW [false] [] rfl ?_
    refine ev_ret rfl ?_
    refine ev_g0 rfl ?_
    refine ev_ret rfl ?_
    exact ⟨rfl, xj, xd, xf, xo, xi, xn, nI 1, rfl, bdd, lf_W, lf_W, hC, hM⟩
  · skip
    have hq := rc_ihol hC ht hc _ ho
    have zq := rc_isor hC hq
    have yq := rc_imad hC
    refine ct_of h_OA_perform rfl rfl rfl ?_
    refine ev_gW [true, false] [] rfl ?_
    refine ev_inV 1 k_OA_15 h_SD_t rfl rfl rfl rfl rfl ⟨by decide, by decide⟩ rfl ?_
    refine ev_gW [] [some (94 + 4 * q)] rfl ?_
    refine ev_reta rfl ?_
    refine ev_g0 rfl ?_
    refine ev_inS 4 k_OA_25 h_OA_setField rfl rfl rfl rfl ⟨by decide, by decide⟩ rfl ?_
    refine ev_g0 rfl ?_
    refine ev_inS 1 k_OA_65 h_OA_ownerOf rfl rfl rfl rfl ⟨by decide, by decide⟩ rfl ?_
    refine ev_gW [true, true] [] rfl ?_
    refine ev_reti rfl ?_
    refine ev_g0 rfl ?_
    refine ev_inV 1 k_OA_28 h_TH_isA rfl rfl rfl rfl rfl ⟨by decide, by decide⟩ rfl ?_
    refine ev_gW [false, true, false, false] [none] rfl ?_
    refine ev_inV 0 k_TH_73 h_TH_isRow rfl rfl rfl rfl rfl ⟨by decide, by decide⟩ rfl ?_
    refine ev_g0 rfl ?_
    refine ev_bW rfl rfl (fun h_1 => ?_) (fun h_1 => ?_)
    · skip
      refine ev_g0 rfl ?_
      refine ev_retz rfl (by first | decide | exact zb_01 _) ?_
      refine ev_gW [false] [] rfl ?_
      refine ev_inS 2 k_TH_77 h_TH_isUnder rfl rfl rfl rfl ⟨by decide, by decide⟩ rfl ?_
      refine ev_gW [true] [] rfl ?_
      refine ev_retz rfl (by first | decide | exact zb_01 _) ?_
      refine ev_gW [false] [] rfl ?_
      refine ev_retz rfl (by first | decide | exact zb_01 _) ?_
      refine ev_gW [true, false, true] [some 0] rfl ?_
      refine ev_inV 1 k_OA_34 h_SD_n rfl rfl rfl rfl rfl ⟨by decide, by decide⟩ rfl ?_
      refine ev_gW [] [] rfl ?_
      refine ev_retl rfl ?_
      refine ev_g0 rfl ?_
      refine ev_reti rfl ?_
      refine ev_g0 rfl ?_
      refine ev_reti rfl ?_
      refine ct_of h_MM_meets rfl rfl rfl ?_
      refine ev_gW [true, false] [] rfl ?_
      refine ev_inV 0 k_MM_399 h_MM_writes rfl rfl rfl rfl rfl ⟨by decide, by decide⟩ rfl ?_
      refine ev_g0 rfl ?_
      refine ev_inV 1 k_MM_344 h_MM_hold rfl rfl rfl rfl rfl ⟨by decide, by decide⟩ rfl ?_
      refine ev_gW [] [] rfl ?_
      refine ev_reti rfl ?_
      refine ev_g0 rfl ?_
      refine ev_inS 1 k_MM_386 h_MM_kindOfField rfl rfl rfl rfl ⟨by decide, by decide⟩ rfl ?_
      refine ev_gW [true, true] [] rfl ?_
      refine ev_reti rfl ?_
      refine ev_g0 rfl ?_
      refine ev_inV 2 k_MM_354 h_MM_takes rfl rfl rfl rfl rfl ⟨by decide, by decide⟩ rfl ?_
      refine ev_gW [false] [] rfl ?_
      refine ev_inV 2 k_MM_202 h_MM_isKind rfl rfl rfl rfl rfl ⟨by decide, by decide⟩ rfl ?_
      refine ev_gW [false, false, true, true, false, false] [] rfl ?_
      refine ev_inS 2 k_MM_192 h_MM_isOf rfl rfl rfl rfl ⟨by decide, by decide⟩ rfl ?_
      refine ev_gW [true] [] rfl ?_
      refine ev_retz rfl (by first | decide | exact zb_01 _) ?_
      refine ev_gW [false] [] rfl ?_
      refine ev_retz rfl (by first | decide | exact zb_01 _) ?_
      refine ev_gW [true] [] rfl ?_
      refine ev_retz rfl (by first | decide | exact zb_01 _) ?_
      refine ev_gW [false, true, true] [] rfl ?_
      refine ev_inV 1 k_MM_357 h_MM_is rfl rfl rfl rfl rfl ⟨by decide, by decide⟩ rfl ?_
      refine ev_gW [true, false] [] rfl ?_
      refine ev_retz rfl (by first | decide | exact zb_01 _) ?_
      refine ev_gW [true] [some 0] rfl ?_
      refine ev_inV 1 k_MM_277 h_MM_number rfl rfl rfl rfl rfl ⟨by decide, by decide⟩ rfl ?_
      refine ev_gW [] [] rfl ?_
      refine ev_retl rfl ?_
      refine ev_gW [] [] rfl ?_
      refine ev_ret rfl ?_
      refine ev_g0 rfl ?_
      refine ev_ret rfl ?_
      exact ⟨rfl, (u3 xj 2 q 0 (xj 0 t a)), xd, xf, xo, xi, xn, nI 0, rfl, bdd, lf_W, lf_W, (CU_nn hC hq lf_W lf_W), (MU_nn hM hq lf_W lf_W (fun i hi => (rc_isor hC hi).2.2.1))⟩
    · skip
      refine ev_g0 rfl ?_
      refine ev_retz rfl (by first | decide | exact zb_01 _) ?_
      refine ev_gW [true] [] rfl ?_
      refine ev_retz rfl (by first | decide | exact zb_01 _) ?_
      refine ev_gW [false] [] rfl ?_
      refine ev_reti rfl ?_
      refine ev_g0 rfl ?_
      refine ev_reti rfl ?_
      refine ct_of h_MM_meets rfl rfl rfl ?_
      refine ev_gW [true, false] [] rfl ?_
      refine ev_inV 0 k_MM_399 h_MM_writes rfl rfl rfl rfl rfl ⟨by decide, by decide⟩ rfl ?_
      refine ev_g0 rfl ?_
      refine ev_inV 1 k_MM_344 h_MM_hold rfl rfl rfl rfl rfl ⟨by decide, by decide⟩ rfl ?_
      refine ev_gW [] [] rfl ?_
      refine ev_reti rfl ?_
      refine ev_g0 rfl ?_
      refine ev_inS 1 k_MM_386 h_MM_kindOfField rfl rfl rfl rfl ⟨by decide, by decide⟩ rfl ?_
      refine ev_gW [true, true] [] rfl ?_
      refine ev_reti rfl ?_
      refine ev_g0 rfl ?_
      refine ev_inV 2 k_MM_354 h_MM_takes rfl rfl rfl rfl rfl ⟨by decide, by decide⟩ rfl ?_
      refine ev_gW [false] [] rfl ?_
      refine ev_inV 2 k_MM_202 h_MM_isKind rfl rfl rfl rfl rfl ⟨by decide, by decide⟩ rfl ?_
      refine ev_gW [false, false, true, true, false, true] [] rfl ?_
      refine ev_retz rfl (by first | decide | exact zb_01 _) ?_
      refine ev_gW [false] [] rfl ?_
      refine ev_retz rfl (by first | decide | exact zb_01 _) ?_
      refine ev_gW [true] [] rfl ?_
      refine ev_ret rfl ?_
      refine ev_g0 rfl ?_
      refine ev_ret rfl ?_
      exact ⟨rfl, xj, xd, xf, xo, xi, xn, nI 3, rfl, bdd, lf_W, lf_W, hC, hM⟩
theorem A52_1 {ci : Nat → Nat → Nat → Int32} {cn : Nat → Nat → Nat → Nat} {co : Nat → Option Nat} {xj : Nat → Nat → Nat → Int64} {xd : Nat → Nat → Nat → UInt64} {xf : Nat → Nat → Nat → UInt32} {xo : Nat → Nat → Nat → Option Nat} {xi : Nat → Nat → Nat → Int32} {xn : Nat → Nat → Nat → Nat} {K : Nat → Nat} {I : Nat → Nat → Int32} {J : Nat → Nat → Int64} {F : Nat → Nat → UInt32} {D : Nat → Nat → UInt64} {R : Nat → Nat → Option Nat} {nx sl : Nat} {Km : Nat → Nat} {Im : Nat → Nat → Int32} {Jm : Nat → Nat → Int64} {Fm : Nat → Nat → UInt32} {Dm : Nat → Nat → UInt64} {Rm : Nat → Nat → Option Nat} {nxm slm : Nat} (hC : RC ci cn co xj xd xf xo xi xn I J F D R nx sl) (hM : RM ci cn co xj xd xf xo xi xn Im Jm Dm) {t a c : Nat} {go : Int32} (ht : t < 3) (ha : a < 4) (hc : c < 8) (x1 : Im 6 39 = nI t) (x2 : Im 6 40 = nI a) (x3 : Im 6 41 = nI 1) (x4 : Im 6 42 = nI c) (x5 : Im 6 43 = nI 0) (x6 : Im 6 44 = go) : Ct Y_OA_perform [vr 4 13, vr 8 (32 + 7 * t), vi (nI 52), vi (nI a), vi (nI 1), vi (nI c)] (K, I, J, F, D, R, nx, sl) (fun r μ1 => Ct Y_MM_meets [vr 11 6, vi (nI 52)] (Km, Im, Jm, Fm, Dm, Rm, nxm, slm) (fun r2 μ2 => r2 = none ∧ QA ci cn co go r μ1 μ2)) := by
  rcases ho : xo 0 t c with _ | q
  · skip
    refine ct_of h_OA_perform rfl rfl rfl ?_
    refine ev_gW [true, false] [] rfl ?_
    refine ev_inV 1 k_OA_15 h_SD_t rfl rfl rfl rfl rfl ⟨by decide, by decide⟩ rfl ?_
    refine ev_gW [] [none] rfl ?_
    refine ev_retn rfl ?_
    refine ev_g0 rfl ?_
    refine ev_inS 4 k_OA_25 h_OA_setField rfl rfl rfl rfl ⟨by decide, by decide⟩ rfl ?_
    refine ev_gW [false, true] [] rfl ?_
    refine ev_reti rfl ?_
    refine ev_g0 rfl ?_
    refine ev_reti rfl ?_
    refine ct_of h_MM_meets rfl rfl rfl ?_
    refine ev_gW [true, false] [] rfl ?_
    refine ev_inV 0 k_MM_399 h_MM_writes rfl rfl rfl rfl rfl ⟨by decide, by decide⟩ rfl ?_
    refine ev_g0 rfl ?_
    refine ev_inV 1 k_MM_344 h_MM_hold rfl rfl rfl rfl rfl ⟨by decide, by decide⟩ rfl ?_
    refine ev_gW [] [] rfl ?_
    refine ev_reti rfl ?_
    refine ev_g0 rfl ?_
    refine ev_inS 1 k_MM_386 h_MM_kindOfField rfl rfl rfl rfl ⟨by decide, by decide⟩ rfl ?_
    refine ev_gW [true, true] [] rfl ?_
    refine ev_reti rfl ?_
    refine ev_g0 rfl ?_
    refine ev_inV 2 k_MM_354 h_MM_takes rfl rfl rfl rfl rfl ⟨by decide, by decide⟩ rfl ?_
    refine ev_gW [true] [] rfl ?_
    refine ev_retz rfl (by first | decide | exact zb_01 _) ?_
    refine ev_gW [false, true, true] [] rfl ?_
    refine ev_inV 1 k_MM_357 h_MM_is rfl rfl rfl rfl rfl ⟨by decide, by decide⟩ rfl ?_
    refine ev_gW [false, true] [] rfl ?_
    refine ev_retz rfl (by first | decide | exact zb_01 _) ?_
    refine ev_gW [false] [] rfl ?_
    refine ev_ret rfl ?_
    refine ev_g0 rfl ?_
    refine ev_ret rfl ?_
    exact ⟨rfl, xj, xd, xf, xo, xi, xn, nI 1, rfl, bdd, lf_W, lf_W, hC, hM⟩
  · skip
    have hq := rc_ihol hC ht hc _ ho
    have zq := rc_isor hC hq
    have yq := rc_imad hC
    refine ct_of h_OA_perform rfl rfl rfl ?_
    refine ev_gW [true, false] [] rfl ?_
    refine ev_inV 1 k_OA_15 h_SD_t rfl rfl rfl rfl rfl ⟨by decide, by decide⟩ rfl ?_
    refine ev_gW [] [some (94 + 4 * q)] rfl ?_
    refine ev_reta rfl ?_
    refine ev_g0 rfl ?_
    refine ev_inS 4 k_OA_25 h_OA_setField rfl rfl rfl rfl ⟨by decide, by decide⟩ rfl ?_
    refine ev_g0 rfl ?_
    refine ev_inS 1 k_OA_65 h_OA_ownerOf rfl rfl rfl rfl ⟨by decide, by decide⟩ rfl ?_
    refine ev_gW [true, true] [] rfl ?_
    refine ev_reti rfl ?_
    refine ev_g0 rfl ?_
    refine ev_inV 1 k_OA_28 h_TH_isA rfl rfl rfl rfl rfl ⟨by decide, by decide⟩ rfl ?_
    refine ev_gW [false, true, false, false] [none] rfl ?_
    refine ev_inV 0 k_TH_73 h_TH_isRow rfl rfl rfl rfl rfl ⟨by decide, by decide⟩ rfl ?_
    refine ev_g0 rfl ?_
    refine ev_bW rfl rfl (fun h_1 => ?_) (fun h_1 => ?_)
    · skip
      refine ev_g0 rfl ?_
      refine ev_retz rfl (by first | decide | exact zb_01 _) ?_
      refine ev_gW [false] [] rfl ?_
      refine ev_inS 2 k_TH_77 h_TH_isUnder rfl rfl rfl rfl ⟨by decide, by decide⟩ rfl ?_
      refine ev_gW [true] [] rfl ?_
      refine ev_retz rfl (by first | decide | exact zb_01 _) ?_
      refine ev_gW [false] [] rfl ?_
      refine ev_retz rfl (by first | decide | exact zb_01 _) ?_
      refine ev_gW [true, false, true] [some 1] rfl ?_
      refine ev_inV 1 k_OA_107 h_SD_x rfl rfl rfl rfl rfl ⟨by decide, by decide⟩ rfl ?_
      refine ev_gW [] [] rfl ?_
      refine ev_retd rfl ?_
      refine ev_g0 rfl ?_
      refine ev_reti rfl ?_
      refine ev_g0 rfl ?_
      refine ev_reti rfl ?_
      refine ct_of h_MM_meets rfl rfl rfl ?_
      refine ev_gW [true, false] [] rfl ?_
      refine ev_inV 0 k_MM_399 h_MM_writes rfl rfl rfl rfl rfl ⟨by decide, by decide⟩ rfl ?_
      refine ev_g0 rfl ?_
      refine ev_inV 1 k_MM_344 h_MM_hold rfl rfl rfl rfl rfl ⟨by decide, by decide⟩ rfl ?_
      refine ev_gW [] [] rfl ?_
      refine ev_reti rfl ?_
      refine ev_g0 rfl ?_
      refine ev_inS 1 k_MM_386 h_MM_kindOfField rfl rfl rfl rfl ⟨by decide, by decide⟩ rfl ?_
      refine ev_gW [true, true] [] rfl ?_
      refine ev_reti rfl ?_
      refine ev_g0 rfl ?_
      refine ev_inV 2 k_MM_354 h_MM_takes rfl rfl rfl rfl rfl ⟨by decide, by decide⟩ rfl ?_
      refine ev_gW [false] [] rfl ?_
      refine ev_inV 2 k_MM_202 h_MM_isKind rfl rfl rfl rfl rfl ⟨by decide, by decide⟩ rfl ?_
      refine ev_gW [false, false, true, true, false, false] [] rfl ?_
      refine ev_inS 2 k_MM_192 h_MM_isOf rfl rfl rfl rfl ⟨by decide, by decide⟩ rfl ?_
      refine ev_gW [true] [] rfl ?_
      refine ev_retz rfl (by first | decide | exact zb_01 _) ?_
      refine ev_gW [false] [] rfl ?_
      refine ev_retz rfl (by first | decide | exact zb_01 _) ?_
      refine ev_gW [true] [] rfl ?_
      refine ev_retz rfl (by first | decide | exact zb_01 _) ?_
      refine ev_gW [false, true, true] [] rfl ?_
      refine ev_inV 1 k_MM_357 h_MM_is rfl rfl rfl rfl rfl ⟨by decide, by decide⟩ rfl ?_
      refine ev_gW [true, false] [] rfl ?_
      refine ev_retz rfl (by first | decide | exact zb_01 _) ?_
      refine ev_gW [true] [some 1] rfl ?_
      refine ev_inV 1 k_MM_285 h_MM_twin rfl rfl rfl rfl rfl ⟨by decide, by decide⟩ rfl ?_
      refine ev_gW [] [] rfl ?_
      refine ev_retd rfl ?_
      refine ev_gW [] [] rfl ?_
      refine ev_ret rfl ?_
      refine ev_g0 rfl ?_
      refine ev_ret rfl ?_
      exact ⟨rfl, xj, (u3 xd 2 q 0 (xd 0 t a)), xf, xo, xi, xn, nI 0, rfl, bdd, lf_W, lf_W, (CU_xx hC hq (rc_idbl hC ht ha) lf_W lf_W), (MU_xx hM hq lf_W lf_W (fun i hi => (rc_isor hC hi).2.2.1))⟩
    · skip
      refine ev_g0 rfl ?_
      refine ev_retz rfl (by first | decide | exact zb_01 _) ?_
      refine ev_gW [true] [] rfl ?_
      refine ev_retz rfl (by first | decide | exact zb_01 _) ?_
      refine ev_gW [false] [] rfl ?_
      refine ev_reti rfl ?_
      refine ev_g0 rfl ?_
      refine ev_reti rfl ?_
      refine ct_of h_MM_meets rfl rfl rfl ?_
      refine ev_gW [true, false] [] rfl ?_
      refine ev_inV 0 k_MM_399 h_MM_writes rfl rfl rfl rfl rfl ⟨by decide, by decide⟩ rfl ?_
      refine ev_g0 rfl ?_
      refine ev_inV 1 k_MM_344 h_MM_hold rfl rfl rfl rfl rfl ⟨by decide, by decide⟩ rfl ?_
      refine ev_gW [] [] rfl ?_
      refine ev_reti rfl ?_
      refine ev_g0 rfl ?_
      refine ev_inS 1 k_MM_386 h_MM_kindOfField rfl rfl rfl rfl ⟨by decide, by decide⟩ rfl ?_
      refine ev_gW [true, true] [] rfl ?_
      refine ev_reti rfl ?_
      refine ev_g0 rfl ?_
      refine ev_inV 2 k_MM_354 h_MM_takes rfl rfl rfl rfl rfl ⟨by decide, by decide⟩ rfl ?_
      refine ev_gW [false] [] rfl ?_
      refine ev_inV 2 k_MM_202 h_MM_isKind rfl rfl rfl rfl rfl ⟨by decide, by decide⟩ rfl ?_
      refine ev_gW [false, false, true, true, false, true] [] rfl ?_
      refine ev_retz rfl (by first | decide | exact zb_01 _) ?_
      refine ev_gW [false] [] rfl ?_
      refine ev_retz rfl (by first | decide | exact zb_01 _) ?_
      refine ev_gW [true] [] rfl ?_
      refine ev_ret rfl ?_
      refine ev_g0 rfl ?_
      refine ev_ret rfl ?_
      exact ⟨rfl, xj, xd, xf, xo, xi, xn, nI 3, rfl, bdd, lf_W, lf_W, hC, hM⟩
theorem A52_2 {ci : Nat → Nat → Nat → Int32} {cn : Nat → Nat → Nat → Nat} {co : Nat → Option Nat} {xj : Nat → Nat → Nat → Int64} {xd : Nat → Nat → Nat → UInt64} {xf : Nat → Nat → Nat → UInt32} {xo : Nat → Nat → Nat → Option Nat} {xi : Nat → Nat → Nat → Int32} {xn : Nat → Nat → Nat → Nat} {K : Nat → Nat} {I : Nat → Nat → Int32} {J : Nat → Nat → Int64} {F : Nat → Nat → UInt32} {D : Nat → Nat → UInt64} {R : Nat → Nat → Option Nat} {nx sl : Nat} {Km : Nat → Nat} {Im : Nat → Nat → Int32} {Jm : Nat → Nat → Int64} {Fm : Nat → Nat → UInt32} {Dm : Nat → Nat → UInt64} {Rm : Nat → Nat → Option Nat} {nxm slm : Nat} (hC : RC ci cn co xj xd xf xo xi xn I J F D R nx sl) (hM : RM ci cn co xj xd xf xo xi xn Im Jm Dm) {t a c : Nat} {go : Int32} (ht : t < 3) (ha : a < 4) (hc : c < 8) (x1 : Im 6 39 = nI t) (x2 : Im 6 40 = nI a) (x3 : Im 6 41 = nI 2) (x4 : Im 6 42 = nI c) (x5 : Im 6 43 = nI 0) (x6 : Im 6 44 = go) : Ct Y_OA_perform [vr 4 13, vr 8 (32 + 7 * t), vi (nI 52), vi (nI a), vi (nI 2), vi (nI c)] (K, I, J, F, D, R, nx, sl) (fun r μ1 => Ct Y_MM_meets [vr 11 6, vi (nI 52)] (Km, Im, Jm, Fm, Dm, Rm, nxm, slm) (fun r2 μ2 => r2 = none ∧ QA ci cn co go r μ1 μ2)) := by
  rcases ho : xo 0 t c with _ | q
  · skip
    refine ct_of h_OA_perform rfl rfl rfl ?_
    refine ev_gW [true, false] [] rfl ?_
    refine ev_inV 1 k_OA_15 h_SD_t rfl rfl rfl rfl rfl ⟨by decide, by decide⟩ rfl ?_
    refine ev_gW [] [none] rfl ?_
    refine ev_retn rfl ?_
    refine ev_g0 rfl ?_
    refine ev_inS 4 k_OA_25 h_OA_setField rfl rfl rfl rfl ⟨by decide, by decide⟩ rfl ?_
    refine ev_gW [false, true] [] rfl ?_
    refine ev_reti rfl ?_
    refine ev_g0 rfl ?_
    refine ev_reti rfl ?_
    refine ct_of h_MM_meets rfl rfl rfl ?_
    refine ev_gW [true, false] [] rfl ?_
    refine ev_inV 0 k_MM_399 h_MM_writes rfl rfl rfl rfl rfl ⟨by decide, by decide⟩ rfl ?_
    refine ev_g0 rfl ?_
    refine ev_inV 1 k_MM_344 h_MM_hold rfl rfl rfl rfl rfl ⟨by decide, by decide⟩ rfl ?_
    refine ev_gW [] [] rfl ?_
    refine ev_reti rfl ?_
    refine ev_g0 rfl ?_
    refine ev_inS 1 k_MM_386 h_MM_kindOfField rfl rfl rfl rfl ⟨by decide, by decide⟩ rfl ?_
    refine ev_gW [true, true] [] rfl ?_
    refine ev_reti rfl ?_
    refine ev_g0 rfl ?_
    refine ev_inV 2 k_MM_354 h_MM_takes rfl rfl rfl rfl rfl ⟨by decide, by decide⟩ rfl ?_
    refine ev_gW [true] [] rfl ?_
    refine ev_retz rfl (by first | decide | exact zb_01 _) ?_
    refine ev_gW [false, true, true] [] rfl ?_
    refine ev_inV 1 k_MM_357 h_MM_is rfl rfl rfl rfl rfl ⟨by decide, by decide⟩ rfl ?_
    refine ev_gW [false, true] [] rfl ?_
    refine ev_retz rfl (by first | decide | exact zb_01 _) ?_
    refine ev_gW [false] [] rfl ?_
    refine ev_ret rfl ?_
    refine ev_g0 rfl ?_
    refine ev_ret rfl ?_
    exact ⟨rfl, xj, xd, xf, xo, xi, xn, nI 1, rfl, bdd, lf_W, lf_W, hC, hM⟩
  · skip
    have hq := rc_ihol hC ht hc _ ho
    have zq := rc_isor hC hq
    have yq := rc_imad hC
    refine ct_of h_OA_perform rfl rfl rfl ?_
    refine ev_gW [true, false] [] rfl ?_
    refine ev_inV 1 k_OA_15 h_SD_t rfl rfl rfl rfl rfl ⟨by decide, by decide⟩ rfl ?_
    refine ev_gW [] [some (94 + 4 * q)] rfl ?_
    refine ev_reta rfl ?_
    refine ev_g0 rfl ?_
    refine ev_inS 4 k_OA_25 h_OA_setField rfl rfl rfl rfl ⟨by decide, by decide⟩ rfl ?_
    refine ev_g0 rfl ?_
    refine ev_inS 1 k_OA_65 h_OA_ownerOf rfl rfl rfl rfl ⟨by decide, by decide⟩ rfl ?_
    refine ev_gW [true, true] [] rfl ?_
    refine ev_reti rfl ?_
    refine ev_g0 rfl ?_
    refine ev_inV 1 k_OA_28 h_TH_isA rfl rfl rfl rfl rfl ⟨by decide, by decide⟩ rfl ?_
    refine ev_gW [false, true, false, false] [none] rfl ?_
    refine ev_inV 0 k_TH_73 h_TH_isRow rfl rfl rfl rfl rfl ⟨by decide, by decide⟩ rfl ?_
    refine ev_g0 rfl ?_
    refine ev_bW rfl rfl (fun h_1 => ?_) (fun h_1 => ?_)
    · skip
      refine ev_g0 rfl ?_
      refine ev_retz rfl (by first | decide | exact zb_01 _) ?_
      refine ev_gW [false] [] rfl ?_
      refine ev_inS 2 k_TH_77 h_TH_isUnder rfl rfl rfl rfl ⟨by decide, by decide⟩ rfl ?_
      refine ev_gW [true] [] rfl ?_
      refine ev_retz rfl (by first | decide | exact zb_01 _) ?_
      refine ev_gW [false] [] rfl ?_
      refine ev_retz rfl (by first | decide | exact zb_01 _) ?_
      refine ev_gW [true, false, true] [some 2] rfl ?_
      refine ev_inV 1 k_OA_110 h_SD_f rfl rfl rfl rfl rfl ⟨by decide, by decide⟩ rfl ?_
      refine ev_gW [] [] rfl ?_
      refine ev_retf rfl ?_
      refine ev_g0 rfl ?_
      refine ev_reti rfl ?_
      refine ev_g0 rfl ?_
      refine ev_reti rfl ?_
      refine ct_of h_MM_meets rfl rfl rfl ?_
      refine ev_gW [true, false] [] rfl ?_
      refine ev_inV 0 k_MM_399 h_MM_writes rfl rfl rfl rfl rfl ⟨by decide, by decide⟩ rfl ?_
      refine ev_g0 rfl ?_
      refine ev_inV 1 k_MM_344 h_MM_hold rfl rfl rfl rfl rfl ⟨by decide, by decide⟩ rfl ?_
      refine ev_gW [] [] rfl ?_
      refine ev_reti rfl ?_
      refine ev_g0 rfl ?_
      refine ev_inS 1 k_MM_386 h_MM_kindOfField rfl rfl rfl rfl ⟨by decide, by decide⟩ rfl ?_
      refine ev_gW [true, true] [] rfl ?_
      refine ev_reti rfl ?_
      refine ev_g0 rfl ?_
      refine ev_inV 2 k_MM_354 h_MM_takes rfl rfl rfl rfl rfl ⟨by decide, by decide⟩ rfl ?_
      refine ev_gW [false] [] rfl ?_
      refine ev_inV 2 k_MM_202 h_MM_isKind rfl rfl rfl rfl rfl ⟨by decide, by decide⟩ rfl ?_
      refine ev_gW [false, false, true, true, false, false] [] rfl ?_
      refine ev_inS 2 k_MM_192 h_MM_isOf rfl rfl rfl rfl ⟨by decide, by decide⟩ rfl ?_
      refine ev_gW [true] [] rfl ?_
      refine ev_retz rfl (by first | decide | exact zb_01 _) ?_
      refine ev_gW [false] [] rfl ?_
      refine ev_retz rfl (by first | decide | exact zb_01 _) ?_
      refine ev_gW [true] [] rfl ?_
      refine ev_retz rfl (by first | decide | exact zb_01 _) ?_
      refine ev_gW [false, true, true] [] rfl ?_
      refine ev_inV 1 k_MM_357 h_MM_is rfl rfl rfl rfl rfl ⟨by decide, by decide⟩ rfl ?_
      refine ev_gW [true, false] [] rfl ?_
      refine ev_retz rfl (by first | decide | exact zb_01 _) ?_
      refine ev_gW [true] [some 2] rfl ?_
      refine ev_inV 1 k_MM_295 h_MM_small rfl rfl rfl rfl rfl ⟨by decide, by decide⟩ rfl ?_
      refine ev_gW [] [] rfl ?_
      refine ev_retd rfl ?_
      refine ev_gW [] [] rfl ?_
      refine ev_ret rfl ?_
      refine ev_g0 rfl ?_
      refine ev_ret rfl ?_
      exact ⟨rfl, xj, xd, (u3 xf 1 q 0 (xf 0 t a)), xo, xi, xn, nI 0, rfl, bdd, lf_W, lf_W, (CU_ff hC hq (rc_iflt hC ht ha) lf_W lf_W), (MU_ff hM hq lf_W lf_W (fun i hi => (rc_isor hC hi).2.2.1))⟩
    · skip
      refine ev_g0 rfl ?_
      refine ev_retz rfl (by first | decide | exact zb_01 _) ?_
      refine ev_gW [true] [] rfl ?_
      refine ev_retz rfl (by first | decide | exact zb_01 _) ?_
      refine ev_gW [false] [] rfl ?_
      refine ev_reti rfl ?_
      refine ev_g0 rfl ?_
      refine ev_reti rfl ?_
      refine ct_of h_MM_meets rfl rfl rfl ?_
      refine ev_gW [true, false] [] rfl ?_
      refine ev_inV 0 k_MM_399 h_MM_writes rfl rfl rfl rfl rfl ⟨by decide, by decide⟩ rfl ?_
      refine ev_g0 rfl ?_
      refine ev_inV 1 k_MM_344 h_MM_hold rfl rfl rfl rfl rfl ⟨by decide, by decide⟩ rfl ?_
      refine ev_gW [] [] rfl ?_
      refine ev_reti rfl ?_
      refine ev_g0 rfl ?_
      refine ev_inS 1 k_MM_386 h_MM_kindOfField rfl rfl rfl rfl ⟨by decide, by decide⟩ rfl ?_
      refine ev_gW [true, true] [] rfl ?_
      refine ev_reti rfl ?_
      refine ev_g0 rfl ?_
      refine ev_inV 2 k_MM_354 h_MM_takes rfl rfl rfl rfl rfl ⟨by decide, by decide⟩ rfl ?_
      refine ev_gW [false] [] rfl ?_
      refine ev_inV 2 k_MM_202 h_MM_isKind rfl rfl rfl rfl rfl ⟨by decide, by decide⟩ rfl ?_
      refine ev_gW [false, false, true, true, false, true] [] rfl ?_
      refine ev_retz rfl (by first | decide | exact zb_01 _) ?_
      refine ev_gW [false] [] rfl ?_
      refine ev_retz rfl (by first | decide | exact zb_01 _) ?_
      refine ev_gW [true] [] rfl ?_
      refine ev_ret rfl ?_
      refine ev_g0 rfl ?_
      refine ev_ret rfl ?_
      exact ⟨rfl, xj, xd, xf, xo, xi, xn, nI 3, rfl, bdd, lf_W, lf_W, hC, hM⟩
theorem A52_3 {ci : Nat → Nat → Nat → Int32} {cn : Nat → Nat → Nat → Nat} {co : Nat → Option Nat} {xj : Nat → Nat → Nat → Int64} {xd : Nat → Nat → Nat → UInt64} {xf : Nat → Nat → Nat → UInt32} {xo : Nat → Nat → Nat → Option Nat} {xi : Nat → Nat → Nat → Int32} {xn : Nat → Nat → Nat → Nat} {K : Nat → Nat} {I : Nat → Nat → Int32} {J : Nat → Nat → Int64} {F : Nat → Nat → UInt32} {D : Nat → Nat → UInt64} {R : Nat → Nat → Option Nat} {nx sl : Nat} {Km : Nat → Nat} {Im : Nat → Nat → Int32} {Jm : Nat → Nat → Int64} {Fm : Nat → Nat → UInt32} {Dm : Nat → Nat → UInt64} {Rm : Nat → Nat → Option Nat} {nxm slm : Nat} (hC : RC ci cn co xj xd xf xo xi xn I J F D R nx sl) (hM : RM ci cn co xj xd xf xo xi xn Im Jm Dm) {t a c : Nat} {go : Int32} (ht : t < 3) (ha : a < 8) (hc : c < 8) (x1 : Im 6 39 = nI t) (x2 : Im 6 40 = nI a) (x3 : Im 6 41 = nI 3) (x4 : Im 6 42 = nI c) (x5 : Im 6 43 = nI 0) (x6 : Im 6 44 = go) : Ct Y_OA_perform [vr 4 13, vr 8 (32 + 7 * t), vi (nI 52), vi (nI a), vi (nI 3), vi (nI c)] (K, I, J, F, D, R, nx, sl) (fun r μ1 => Ct Y_MM_meets [vr 11 6, vi (nI 52)] (Km, Im, Jm, Fm, Dm, Rm, nxm, slm) (fun r2 μ2 => r2 = none ∧ QA ci cn co go r μ1 μ2)) := by
  rcases ho : xo 0 t c with _ | q
  · skip
    rcases hou : xo 0 t a with _ | u
    · skip
      refine ct_of h_OA_perform rfl rfl rfl ?_
      refine ev_gW [true, false] [] rfl ?_
      refine ev_inV 1 k_OA_15 h_SD_t rfl rfl rfl rfl rfl ⟨by decide, by decide⟩ rfl ?_
      refine ev_gW [] [none] rfl ?_
      refine ev_retn rfl ?_
      refine ev_g0 rfl ?_
      refine ev_inS 4 k_OA_25 h_OA_setField rfl rfl rfl rfl ⟨by decide, by decide⟩ rfl ?_
      refine ev_gW [true] [] rfl ?_
      refine ev_inV 1 k_OA_15 h_SD_t rfl rfl rfl rfl rfl ⟨by decide, by decide⟩ rfl ?_
      refine ev_gW [] [none] rfl ?_
      refine ev_retn rfl ?_
      refine ev_g0 rfl ?_
      refine ev_reti rfl ?_
      refine ev_g0 rfl ?_
      refine ev_reti rfl ?_
      refine ct_of h_MM_meets rfl rfl rfl ?_
      refine ev_gW [true, false] [] rfl ?_
      refine ev_inV 0 k_MM_399 h_MM_writes rfl rfl rfl rfl rfl ⟨by decide, by decide⟩ rfl ?_
      refine ev_g0 rfl ?_
      refine ev_inV 1 k_MM_344 h_MM_hold rfl rfl rfl rfl rfl ⟨by decide, by decide⟩ rfl ?_
      refine ev_gW [] [] rfl ?_
      refine ev_reti rfl ?_
      refine ev_g0 rfl ?_
      refine ev_inS 1 k_MM_386 h_MM_kindOfField rfl rfl rfl rfl ⟨by decide, by decide⟩ rfl ?_
      refine ev_gW [true, true] [] rfl ?_
      refine ev_reti rfl ?_
      refine ev_g0 rfl ?_
      refine ev_inV 2 k_MM_354 h_MM_takes rfl rfl rfl rfl rfl ⟨by decide, by decide⟩ rfl ?_
      refine ev_gW [true] [] rfl ?_
      refine ev_retz rfl (by first | decide | exact zb_01 _) ?_
      refine ev_gW [false, false] [] rfl ?_
      refine ev_inV 1 k_MM_344 h_MM_hold rfl rfl rfl rfl rfl ⟨by decide, by decide⟩ rfl ?_
      refine ev_gW [] [] rfl ?_
      refine ev_reti rfl ?_
      refine ev_g0 rfl ?_
      refine ev_inV 2 k_MM_354 h_MM_takes rfl rfl rfl rfl rfl ⟨by decide, by decide⟩ rfl ?_
      refine ev_gW [true] [] rfl ?_
      refine ev_retz rfl (by first | decide | exact zb_01 _) ?_
      refine ev_gW [false, true] [] rfl ?_
      refine ev_inV 1 k_MM_357 h_MM_is rfl rfl rfl rfl rfl ⟨by decide, by decide⟩ rfl ?_
      refine ev_gW [false, true] [] rfl ?_
      refine ev_retz rfl (by first | decide | exact zb_01 _) ?_
      refine ev_gW [false] [] rfl ?_
      refine ev_ret rfl ?_
      refine ev_g0 rfl ?_
      refine ev_ret rfl ?_
      exact ⟨rfl, xj, xd, xf, xo, xi, xn, nI 1, rfl, bdd, lf_W, lf_W, hC, hM⟩
    · skip
      have hu := rc_ihol hC ht ha _ hou
      have zu := rc_isor hC hu
      have yu := rc_imad hC
      refine ct_of h_OA_perform rfl rfl rfl ?_
      refine ev_gW [true, false] [] rfl ?_
      refine ev_inV 1 k_OA_15 h_SD_t rfl rfl rfl rfl rfl ⟨by decide, by decide⟩ rfl ?_
      refine ev_gW [] [none] rfl ?_
      refine ev_retn rfl ?_
      refine ev_g0 rfl ?_
      refine ev_inS 4 k_OA_25 h_OA_setField rfl rfl rfl rfl ⟨by decide, by decide⟩ rfl ?_
      refine ev_gW [true] [] rfl ?_
      refine ev_inV 1 k_OA_15 h_SD_t rfl rfl rfl rfl rfl ⟨by decide, by decide⟩ rfl ?_
      refine ev_gW [] [some (94 + 4 * u)] rfl ?_
      refine ev_reta rfl ?_
      refine ev_gW [false] [] rfl ?_
      refine ev_inV 1 k_OA_28 h_TH_isA rfl rfl rfl rfl rfl ⟨by decide, by decide⟩ rfl ?_
      refine ev_gW [false, true, false, false] [none] rfl ?_
      refine ev_inV 0 k_TH_73 h_TH_isRow rfl rfl rfl rfl rfl ⟨by decide, by decide⟩ rfl ?_
      refine ev_g0 rfl ?_
      refine ev_bW rfl rfl (fun h_1 => ?_) (fun h_1 => ?_)
      · skip
        refine ev_g0 rfl ?_
        refine ev_retz rfl (by first | decide | exact zb_01 _) ?_
        refine ev_gW [false] [] rfl ?_
        refine ev_inS 2 k_TH_77 h_TH_isUnder rfl rfl rfl rfl ⟨by decide, by decide⟩ rfl ?_
        refine ev_gW [true] [] rfl ?_
        refine ev_retz rfl (by first | decide | exact zb_01 _) ?_
        refine ev_gW [false] [] rfl ?_
        refine ev_retz rfl (by first | decide | exact zb_01 _) ?_
        refine ev_gW [true] [] rfl ?_
        refine ev_reti rfl ?_
        refine ev_g0 rfl ?_
        refine ev_reti rfl ?_
        refine ct_of h_MM_meets rfl rfl rfl ?_
        refine ev_gW [true, false] [] rfl ?_
        refine ev_inV 0 k_MM_399 h_MM_writes rfl rfl rfl rfl rfl ⟨by decide, by decide⟩ rfl ?_
        refine ev_g0 rfl ?_
        refine ev_inV 1 k_MM_344 h_MM_hold rfl rfl rfl rfl rfl ⟨by decide, by decide⟩ rfl ?_
        refine ev_gW [] [] rfl ?_
        refine ev_reti rfl ?_
        refine ev_g0 rfl ?_
        refine ev_inS 1 k_MM_386 h_MM_kindOfField rfl rfl rfl rfl ⟨by decide, by decide⟩ rfl ?_
        refine ev_gW [true, true] [] rfl ?_
        refine ev_reti rfl ?_
        refine ev_g0 rfl ?_
        refine ev_inV 2 k_MM_354 h_MM_takes rfl rfl rfl rfl rfl ⟨by decide, by decide⟩ rfl ?_
        refine ev_gW [true] [] rfl ?_
        refine ev_retz rfl (by first | decide | exact zb_01 _) ?_
        refine ev_gW [false, false] [] rfl ?_
        refine ev_inV 1 k_MM_344 h_MM_hold rfl rfl rfl rfl rfl ⟨by decide, by decide⟩ rfl ?_
        refine ev_gW [] [] rfl ?_
        refine ev_reti rfl ?_
        refine ev_g0 rfl ?_
        refine ev_inV 2 k_MM_354 h_MM_takes rfl rfl rfl rfl rfl ⟨by decide, by decide⟩ rfl ?_
        refine ev_gW [false] [] rfl ?_
        refine ev_inV 2 k_MM_202 h_MM_isKind rfl rfl rfl rfl rfl ⟨by decide, by decide⟩ rfl ?_
        refine ev_gW [false, false, true, true, false, false] [] rfl ?_
        refine ev_inS 2 k_MM_192 h_MM_isOf rfl rfl rfl rfl ⟨by decide, by decide⟩ rfl ?_
        refine ev_gW [true] [] rfl ?_
        refine ev_retz rfl (by first | decide | exact zb_01 _) ?_
        refine ev_gW [false] [] rfl ?_
        refine ev_retz rfl (by first | decide | exact zb_01 _) ?_
        refine ev_gW [true] [] rfl ?_
        refine ev_retz rfl (by first | decide | exact zb_01 _) ?_
        refine ev_gW [false, true] [] rfl ?_
        refine ev_inV 1 k_MM_357 h_MM_is rfl rfl rfl rfl rfl ⟨by decide, by decide⟩ rfl ?_
        refine ev_gW [false, true] [] rfl ?_
        refine ev_retz rfl (by first | decide | exact zb_01 _) ?_
        refine ev_gW [false] [] rfl ?_
        refine ev_ret rfl ?_
        refine ev_g0 rfl ?_
        refine ev_ret rfl ?_
        exact ⟨rfl, xj, xd, xf, xo, xi, xn, nI 1, rfl, bdd, lf_W, lf_W, hC, hM⟩
      · skip
        refine ev_g0 rfl ?_
        refine ev_retz rfl (by first | decide | exact zb_01 _) ?_
        refine ev_gW [true] [] rfl ?_
        refine ev_retz rfl (by first | decide | exact zb_01 _) ?_
        refine ev_gW [false] [] rfl ?_
        refine ev_reti rfl ?_
        refine ev_g0 rfl ?_
        refine ev_reti rfl ?_
        refine ct_of h_MM_meets rfl rfl rfl ?_
        refine ev_gW [true, false] [] rfl ?_
        refine ev_inV 0 k_MM_399 h_MM_writes rfl rfl rfl rfl rfl ⟨by decide, by decide⟩ rfl ?_
        refine ev_g0 rfl ?_
        refine ev_inV 1 k_MM_344 h_MM_hold rfl rfl rfl rfl rfl ⟨by decide, by decide⟩ rfl ?_
        refine ev_gW [] [] rfl ?_
        refine ev_reti rfl ?_
        refine ev_g0 rfl ?_
        refine ev_inS 1 k_MM_386 h_MM_kindOfField rfl rfl rfl rfl ⟨by decide, by decide⟩ rfl ?_
        refine ev_gW [true, true] [] rfl ?_
        refine ev_reti rfl ?_
        refine ev_g0 rfl ?_
        refine ev_inV 2 k_MM_354 h_MM_takes rfl rfl rfl rfl rfl ⟨by decide, by decide⟩ rfl ?_
        refine ev_gW [true] [] rfl ?_
        refine ev_retz rfl (by first | decide | exact zb_01 _) ?_
        refine ev_gW [false, false] [] rfl ?_
        refine ev_inV 1 k_MM_344 h_MM_hold rfl rfl rfl rfl rfl ⟨by decide, by decide⟩ rfl ?_
        refine ev_gW [] [] rfl ?_
        refine ev_reti rfl ?_
        refine ev_g0 rfl ?_
        refine ev_inV 2 k_MM_354 h_MM_takes rfl rfl rfl rfl rfl ⟨by decide, by decide⟩ rfl ?_
        refine ev_gW [false] [] rfl ?_
        refine ev_inV 2 k_MM_202 h_MM_isKind rfl rfl rfl rfl rfl ⟨by decide, by decide⟩ rfl ?_
        refine ev_gW [false, false, true, true, false, true] [] rfl ?_
        refine ev_retz rfl (by first | decide | exact zb_01 _) ?_
        refine ev_gW [false] [] rfl ?_
        refine ev_retz rfl (by first | decide | exact zb_01 _) ?_
        refine ev_gW [true] [] rfl ?_
        refine ev_ret rfl ?_
        refine ev_g0 rfl ?_
        refine ev_ret rfl ?_
        exact ⟨rfl, xj, xd, xf, xo, xi, xn, nI 3, rfl, bdd, lf_W, lf_W, hC, hM⟩
  · skip
    have hq := rc_ihol hC ht hc _ ho
    have zq := rc_isor hC hq
    have yq := rc_imad hC
    rcases hou : xo 0 t a with _ | u
    · skip
      refine ct_of h_OA_perform rfl rfl rfl ?_
      refine ev_gW [true, false] [] rfl ?_
      refine ev_inV 1 k_OA_15 h_SD_t rfl rfl rfl rfl rfl ⟨by decide, by decide⟩ rfl ?_
      refine ev_gW [] [some (94 + 4 * q)] rfl ?_
      refine ev_reta rfl ?_
      refine ev_g0 rfl ?_
      refine ev_inS 4 k_OA_25 h_OA_setField rfl rfl rfl rfl ⟨by decide, by decide⟩ rfl ?_
      refine ev_g0 rfl ?_
      refine ev_inS 1 k_OA_65 h_OA_ownerOf rfl rfl rfl rfl ⟨by decide, by decide⟩ rfl ?_
      refine ev_gW [true, true] [] rfl ?_
      refine ev_reti rfl ?_
      refine ev_g0 rfl ?_
      refine ev_inV 1 k_OA_28 h_TH_isA rfl rfl rfl rfl rfl ⟨by decide, by decide⟩ rfl ?_
      refine ev_gW [false, true, false, false] [none] rfl ?_
      refine ev_inV 0 k_TH_73 h_TH_isRow rfl rfl rfl rfl rfl ⟨by decide, by decide⟩ rfl ?_
      refine ev_g0 rfl ?_
      refine ev_bW rfl rfl (fun h_2 => ?_) (fun h_2 => ?_)
      · skip
        refine ev_g0 rfl ?_
        refine ev_retz rfl (by first | decide | exact zb_01 _) ?_
        refine ev_gW [false] [] rfl ?_
        refine ev_inS 2 k_TH_77 h_TH_isUnder rfl rfl rfl rfl ⟨by decide, by decide⟩ rfl ?_
        refine ev_gW [true] [] rfl ?_
        refine ev_retz rfl (by first | decide | exact zb_01 _) ?_
        refine ev_gW [false] [] rfl ?_
        refine ev_retz rfl (by first | decide | exact zb_01 _) ?_
        refine ev_gW [true, true] [] rfl ?_
        refine ev_inV 1 k_OA_15 h_SD_t rfl rfl rfl rfl rfl ⟨by decide, by decide⟩ rfl ?_
        refine ev_gW [] [none] rfl ?_
        refine ev_retn rfl ?_
        refine ev_gW [] [some 3] rfl ?_
        refine ev_reti rfl ?_
        refine ev_g0 rfl ?_
        refine ev_reti rfl ?_
        refine ct_of h_MM_meets rfl rfl rfl ?_
        refine ev_gW [true, false] [] rfl ?_
        refine ev_inV 0 k_MM_399 h_MM_writes rfl rfl rfl rfl rfl ⟨by decide, by decide⟩ rfl ?_
        refine ev_g0 rfl ?_
        refine ev_inV 1 k_MM_344 h_MM_hold rfl rfl rfl rfl rfl ⟨by decide, by decide⟩ rfl ?_
        refine ev_gW [] [] rfl ?_
        refine ev_reti rfl ?_
        refine ev_g0 rfl ?_
        refine ev_inS 1 k_MM_386 h_MM_kindOfField rfl rfl rfl rfl ⟨by decide, by decide⟩ rfl ?_
        refine ev_gW [true, true] [] rfl ?_
        refine ev_reti rfl ?_
        refine ev_g0 rfl ?_
        refine ev_inV 2 k_MM_354 h_MM_takes rfl rfl rfl rfl rfl ⟨by decide, by decide⟩ rfl ?_
        refine ev_gW [false] [] rfl ?_
        refine ev_inV 2 k_MM_202 h_MM_isKind rfl rfl rfl rfl rfl ⟨by decide, by decide⟩ rfl ?_
        refine ev_gW [false, false, true, true, false, false] [] rfl ?_
        refine ev_inS 2 k_MM_192 h_MM_isOf rfl rfl rfl rfl ⟨by decide, by decide⟩ rfl ?_
        refine ev_gW [true] [] rfl ?_
        refine ev_retz rfl (by first | decide | exact zb_01 _) ?_
        refine ev_gW [false] [] rfl ?_
        refine ev_retz rfl (by first | decide | exact zb_01 _) ?_
        refine ev_gW [true] [] rfl ?_
        refine ev_retz rfl (by first | decide | exact zb_01 _) ?_
        refine ev_gW [false, false] [] rfl ?_
        refine ev_inV 1 k_MM_344 h_MM_hold rfl rfl rfl rfl rfl ⟨by decide, by decide⟩ rfl ?_
        refine ev_gW [] [] rfl ?_
        refine ev_reti rfl ?_
        refine ev_g0 rfl ?_
        refine ev_inV 2 k_MM_354 h_MM_takes rfl rfl rfl rfl rfl ⟨by decide, by decide⟩ rfl ?_
        refine ev_gW [true] [] rfl ?_
        refine ev_retz rfl (by first | decide | exact zb_01 _) ?_
        refine ev_gW [false, true] [] rfl ?_
        refine ev_inV 1 k_MM_357 h_MM_is rfl rfl rfl rfl rfl ⟨by decide, by decide⟩ rfl ?_
        refine ev_gW [true, false] [] rfl ?_
        refine ev_retz rfl (by first | decide | exact zb_01 _) ?_
        refine ev_gW [true] [some 3] rfl ?_
        refine ev_inV 1 k_MM_344 h_MM_hold rfl rfl rfl rfl rfl ⟨by decide, by decide⟩ rfl ?_
        refine ev_gW [] [] rfl ?_
        refine ev_reti rfl ?_
        refine ev_gW [] [] rfl ?_
        refine ev_ret rfl ?_
        refine ev_g0 rfl ?_
        refine ev_ret rfl ?_
        exact ⟨rfl, xj, xd, xf, (u3 xo 2 q 0 (none)), xi, xn, nI 0, rfl, bdd, lf_W, lf_W, (CU_nxt hC hq (fun _ h => by cases h) lf_W lf_W), (MU_nxt hM hq lf_W lf_W (fun i hi => (rc_isor hC hi).2.2.1))⟩
      · skip
        refine ev_g0 rfl ?_
        refine ev_retz rfl (by first | decide | exact zb_01 _) ?_
        refine ev_gW [true] [] rfl ?_
        refine ev_retz rfl (by first | decide | exact zb_01 _) ?_
        refine ev_gW [false] [] rfl ?_
        refine ev_reti rfl ?_
        refine ev_g0 rfl ?_
        refine ev_reti rfl ?_
        refine ct_of h_MM_meets rfl rfl rfl ?_
        refine ev_gW [true, false] [] rfl ?_
        refine ev_inV 0 k_MM_399 h_MM_writes rfl rfl rfl rfl rfl ⟨by decide, by decide⟩ rfl ?_
        refine ev_g0 rfl ?_
        refine ev_inV 1 k_MM_344 h_MM_hold rfl rfl rfl rfl rfl ⟨by decide, by decide⟩ rfl ?_
        refine ev_gW [] [] rfl ?_
        refine ev_reti rfl ?_
        refine ev_g0 rfl ?_
        refine ev_inS 1 k_MM_386 h_MM_kindOfField rfl rfl rfl rfl ⟨by decide, by decide⟩ rfl ?_
        refine ev_gW [true, true] [] rfl ?_
        refine ev_reti rfl ?_
        refine ev_g0 rfl ?_
        refine ev_inV 2 k_MM_354 h_MM_takes rfl rfl rfl rfl rfl ⟨by decide, by decide⟩ rfl ?_
        refine ev_gW [false] [] rfl ?_
        refine ev_inV 2 k_MM_202 h_MM_isKind rfl rfl rfl rfl rfl ⟨by decide, by decide⟩ rfl ?_
        refine ev_gW [false, false, true, true, false, true] [] rfl ?_
        refine ev_retz rfl (by first | decide | exact zb_01 _) ?_
        refine ev_gW [false] [] rfl ?_
        refine ev_retz rfl (by first | decide | exact zb_01 _) ?_
        refine ev_gW [true] [] rfl ?_
        refine ev_ret rfl ?_
        refine ev_g0 rfl ?_
        refine ev_ret rfl ?_
        exact ⟨rfl, xj, xd, xf, xo, xi, xn, nI 3, rfl, bdd, lf_W, lf_W, hC, hM⟩
    · skip
      have hu := rc_ihol hC ht ha _ hou
      have zu := rc_isor hC hu
      have yu := rc_imad hC
      refine ct_of h_OA_perform rfl rfl rfl ?_
      refine ev_gW [true, false] [] rfl ?_
      refine ev_inV 1 k_OA_15 h_SD_t rfl rfl rfl rfl rfl ⟨by decide, by decide⟩ rfl ?_
      refine ev_gW [] [some (94 + 4 * q)] rfl ?_
      refine ev_reta rfl ?_
      refine ev_g0 rfl ?_
      refine ev_inS 4 k_OA_25 h_OA_setField rfl rfl rfl rfl ⟨by decide, by decide⟩ rfl ?_
      refine ev_g0 rfl ?_
      refine ev_inS 1 k_OA_65 h_OA_ownerOf rfl rfl rfl rfl ⟨by decide, by decide⟩ rfl ?_
      refine ev_gW [true, true] [] rfl ?_
      refine ev_reti rfl ?_
      refine ev_g0 rfl ?_
      refine ev_inV 1 k_OA_28 h_TH_isA rfl rfl rfl rfl rfl ⟨by decide, by decide⟩ rfl ?_
      refine ev_gW [false, true, false, false] [none] rfl ?_
      refine ev_inV 0 k_TH_73 h_TH_isRow rfl rfl rfl rfl rfl ⟨by decide, by decide⟩ rfl ?_
      refine ev_g0 rfl ?_
      refine ev_bW rfl rfl (fun h_3 => ?_) (fun h_3 => ?_)
      · skip
        refine ev_g0 rfl ?_
        refine ev_retz rfl (by first | decide | exact zb_01 _) ?_
        refine ev_gW [false] [] rfl ?_
        refine ev_inS 2 k_TH_77 h_TH_isUnder rfl rfl rfl rfl ⟨by decide, by decide⟩ rfl ?_
        refine ev_gW [true] [] rfl ?_
        refine ev_retz rfl (by first | decide | exact zb_01 _) ?_
        refine ev_gW [false] [] rfl ?_
        refine ev_retz rfl (by first | decide | exact zb_01 _) ?_
        refine ev_gW [true, true] [] rfl ?_
        refine ev_inV 1 k_OA_15 h_SD_t rfl rfl rfl rfl rfl ⟨by decide, by decide⟩ rfl ?_
        refine ev_gW [] [some (94 + 4 * u)] rfl ?_
        refine ev_reta rfl ?_
        refine ev_gW [false] [] rfl ?_
        refine ev_inV 1 k_OA_28 h_TH_isA rfl rfl rfl rfl rfl ⟨by decide, by decide⟩ rfl ?_
        refine ev_gW [false, true, false, false] [none] rfl ?_
        refine ev_inV 0 k_TH_73 h_TH_isRow rfl rfl rfl rfl rfl ⟨by decide, by decide⟩ rfl ?_
        refine ev_g0 rfl ?_
        refine ev_bW rfl rfl (fun h_4 => ?_) (fun h_4 => ?_)
        · skip
          refine ev_g0 rfl ?_
          refine ev_retz rfl (by first | decide | exact zb_01 _) ?_
          refine ev_gW [false] [] rfl ?_
          refine ev_inS 2 k_TH_77 h_TH_isUnder rfl rfl rfl rfl ⟨by decide, by decide⟩ rfl ?_
          refine ev_gW [true] [] rfl ?_
          refine ev_retz rfl (by first | decide | exact zb_01 _) ?_
          refine ev_gW [false] [] rfl ?_
          refine ev_retz rfl (by first | decide | exact zb_01 _) ?_
          refine ev_gW [true] [some 3] rfl ?_
          refine ev_reti rfl ?_
          refine ev_g0 rfl ?_
          refine ev_reti rfl ?_
          refine ct_of h_MM_meets rfl rfl rfl ?_
          refine ev_gW [true, false] [] rfl ?_
          refine ev_inV 0 k_MM_399 h_MM_writes rfl rfl rfl rfl rfl ⟨by decide, by decide⟩ rfl ?_
          refine ev_g0 rfl ?_
          refine ev_inV 1 k_MM_344 h_MM_hold rfl rfl rfl rfl rfl ⟨by decide, by decide⟩ rfl ?_
          refine ev_gW [] [] rfl ?_
          refine ev_reti rfl ?_
          refine ev_g0 rfl ?_
          refine ev_inS 1 k_MM_386 h_MM_kindOfField rfl rfl rfl rfl ⟨by decide, by decide⟩ rfl ?_
          refine ev_gW [true, true] [] rfl ?_
          refine ev_reti rfl ?_
          refine ev_g0 rfl ?_
          refine ev_inV 2 k_MM_354 h_MM_takes rfl rfl rfl rfl rfl ⟨by decide, by decide⟩ rfl ?_
          refine ev_gW [false] [] rfl ?_
          refine ev_inV 2 k_MM_202 h_MM_isKind rfl rfl rfl rfl rfl ⟨by decide, by decide⟩ rfl ?_
          refine ev_gW [false, false, true, true, false, false] [] rfl ?_
          refine ev_inS 2 k_MM_192 h_MM_isOf rfl rfl rfl rfl ⟨by decide, by decide⟩ rfl ?_
          refine ev_gW [true] [] rfl ?_
          refine ev_retz rfl (by first | decide | exact zb_01 _) ?_
          refine ev_gW [false] [] rfl ?_
          refine ev_retz rfl (by first | decide | exact zb_01 _) ?_
          refine ev_gW [true] [] rfl ?_
          refine ev_retz rfl (by first | decide | exact zb_01 _) ?_
          refine ev_gW [false, false] [] rfl ?_
          refine ev_inV 1 k_MM_344 h_MM_hold rfl rfl rfl rfl rfl ⟨by decide, by decide⟩ rfl ?_
          refine ev_gW [] [] rfl ?_
          refine ev_reti rfl ?_
          refine ev_g0 rfl ?_
          refine ev_inV 2 k_MM_354 h_MM_takes rfl rfl rfl rfl rfl ⟨by decide, by decide⟩ rfl ?_
          refine ev_gW [false] [] rfl ?_
          refine ev_inV 2 k_MM_202 h_MM_isKind rfl rfl rfl rfl rfl ⟨by decide, by decide⟩ rfl ?_
          refine ev_gW [false, false, true, true, false, false] [] rfl ?_
          refine ev_inS 2 k_MM_192 h_MM_isOf rfl rfl rfl rfl ⟨by decide, by decide⟩ rfl ?_
          refine ev_gW [true] [] rfl ?_
          refine ev_retz rfl (by first | decide | exact zb_01 _) ?_
          refine ev_gW [false] [] rfl ?_
          refine ev_retz rfl (by first | decide | exact zb_01 _) ?_
          refine ev_gW [true] [] rfl ?_
          refine ev_retz rfl (by first | decide | exact zb_01 _) ?_
          refine ev_gW [false, true] [] rfl ?_
          refine ev_inV 1 k_MM_357 h_MM_is rfl rfl rfl rfl rfl ⟨by decide, by decide⟩ rfl ?_
          refine ev_gW [true, false] [] rfl ?_
          refine ev_retz rfl (by first | decide | exact zb_01 _) ?_
          refine ev_gW [true] [some 3] rfl ?_
          refine ev_inV 1 k_MM_344 h_MM_hold rfl rfl rfl rfl rfl ⟨by decide, by decide⟩ rfl ?_
          refine ev_gW [] [] rfl ?_
          refine ev_reti rfl ?_
          refine ev_gW [] [] rfl ?_
          refine ev_ret rfl ?_
          refine ev_g0 rfl ?_
          refine ev_ret rfl ?_
          exact ⟨rfl, xj, xd, xf, (u3 xo 2 q 0 (some u)), xi, xn, nI 0, rfl, bdd, lf_W, lf_W, (CU_nxt hC hq (fun _ h => by cases h; exact hu) lf_W lf_W), (MU_nxt hM hq lf_W lf_W (fun i hi => (rc_isor hC hi).2.2.1))⟩
        · skip
          refine ev_g0 rfl ?_
          refine ev_retz rfl (by first | decide | exact zb_01 _) ?_
          refine ev_gW [true] [] rfl ?_
          refine ev_retz rfl (by first | decide | exact zb_01 _) ?_
          refine ev_gW [false] [] rfl ?_
          refine ev_reti rfl ?_
          refine ev_g0 rfl ?_
          refine ev_reti rfl ?_
          refine ct_of h_MM_meets rfl rfl rfl ?_
          refine ev_gW [true, false] [] rfl ?_
          refine ev_inV 0 k_MM_399 h_MM_writes rfl rfl rfl rfl rfl ⟨by decide, by decide⟩ rfl ?_
          refine ev_g0 rfl ?_
          refine ev_inV 1 k_MM_344 h_MM_hold rfl rfl rfl rfl rfl ⟨by decide, by decide⟩ rfl ?_
          refine ev_gW [] [] rfl ?_
          refine ev_reti rfl ?_
          refine ev_g0 rfl ?_
          refine ev_inS 1 k_MM_386 h_MM_kindOfField rfl rfl rfl rfl ⟨by decide, by decide⟩ rfl ?_
          refine ev_gW [true, true] [] rfl ?_
          refine ev_reti rfl ?_
          refine ev_g0 rfl ?_
          refine ev_inV 2 k_MM_354 h_MM_takes rfl rfl rfl rfl rfl ⟨by decide, by decide⟩ rfl ?_
          refine ev_gW [false] [] rfl ?_
          refine ev_inV 2 k_MM_202 h_MM_isKind rfl rfl rfl rfl rfl ⟨by decide, by decide⟩ rfl ?_
          refine ev_gW [false, false, true, true, false, false] [] rfl ?_
          refine ev_inS 2 k_MM_192 h_MM_isOf rfl rfl rfl rfl ⟨by decide, by decide⟩ rfl ?_
          refine ev_gW [true] [] rfl ?_
          refine ev_retz rfl (by first | decide | exact zb_01 _) ?_
          refine ev_gW [false] [] rfl ?_
          refine ev_retz rfl (by first | decide | exact zb_01 _) ?_
          refine ev_gW [true] [] rfl ?_
          refine ev_retz rfl (by first | decide | exact zb_01 _) ?_
          refine ev_gW [false, false] [] rfl ?_
          refine ev_inV 1 k_MM_344 h_MM_hold rfl rfl rfl rfl rfl ⟨by decide, by decide⟩ rfl ?_
          refine ev_gW [] [] rfl ?_
          refine ev_reti rfl ?_
          refine ev_g0 rfl ?_
          refine ev_inV 2 k_MM_354 h_MM_takes rfl rfl rfl rfl rfl ⟨by decide, by decide⟩ rfl ?_
          refine ev_gW [false] [] rfl ?_
          refine ev_inV 2 k_MM_202 h_MM_isKind rfl rfl rfl rfl rfl ⟨by decide, by decide⟩ rfl ?_
          refine ev_gW [false, false, true, true, false, true] [] rfl ?_
          refine ev_retz rfl (by first | decide | exact zb_01 _) ?_
          refine ev_gW [false] [] rfl ?_
          refine ev_retz rfl (by first | decide | exact zb_01 _) ?_
          refine ev_gW [true] [] rfl ?_
          refine ev_ret rfl ?_
          refine ev_g0 rfl ?_
          refine ev_ret rfl ?_
          exact ⟨rfl, xj, xd, xf, xo, xi, xn, nI 3, rfl, bdd, lf_W, lf_W, hC, hM⟩
      · skip
        refine ev_g0 rfl ?_
        refine ev_retz rfl (by first | decide | exact zb_01 _) ?_
        refine ev_gW [true] [] rfl ?_
        refine ev_retz rfl (by first | decide | exact zb_01 _) ?_
        refine ev_gW [false] [] rfl ?_
        refine ev_reti rfl ?_
        refine ev_g0 rfl ?_
        refine ev_reti rfl ?_
        refine ct_of h_MM_meets rfl rfl rfl ?_
        refine ev_gW [true, false] [] rfl ?_
        refine ev_inV 0 k_MM_399 h_MM_writes rfl rfl rfl rfl rfl ⟨by decide, by decide⟩ rfl ?_
        refine ev_g0 rfl ?_
        refine ev_inV 1 k_MM_344 h_MM_hold rfl rfl rfl rfl rfl ⟨by decide, by decide⟩ rfl ?_
        refine ev_gW [] [] rfl ?_
        refine ev_reti rfl ?_
        refine ev_g0 rfl ?_
        refine ev_inS 1 k_MM_386 h_MM_kindOfField rfl rfl rfl rfl ⟨by decide, by decide⟩ rfl ?_
        refine ev_gW [true, true] [] rfl ?_
        refine ev_reti rfl ?_
        refine ev_g0 rfl ?_
        refine ev_inV 2 k_MM_354 h_MM_takes rfl rfl rfl rfl rfl ⟨by decide, by decide⟩ rfl ?_
        refine ev_gW [false] [] rfl ?_
        refine ev_inV 2 k_MM_202 h_MM_isKind rfl rfl rfl rfl rfl ⟨by decide, by decide⟩ rfl ?_
        refine ev_gW [false, false, true, true, false, true] [] rfl ?_
        refine ev_retz rfl (by first | decide | exact zb_01 _) ?_
        refine ev_gW [false] [] rfl ?_
        refine ev_retz rfl (by first | decide | exact zb_01 _) ?_
        refine ev_gW [true] [] rfl ?_
        refine ev_ret rfl ?_
        refine ev_g0 rfl ?_
        refine ev_ret rfl ?_
        exact ⟨rfl, xj, xd, xf, xo, xi, xn, nI 3, rfl, bdd, lf_W, lf_W, hC, hM⟩
theorem A52_4 {ci : Nat → Nat → Nat → Int32} {cn : Nat → Nat → Nat → Nat} {co : Nat → Option Nat} {xj : Nat → Nat → Nat → Int64} {xd : Nat → Nat → Nat → UInt64} {xf : Nat → Nat → Nat → UInt32} {xo : Nat → Nat → Nat → Option Nat} {xi : Nat → Nat → Nat → Int32} {xn : Nat → Nat → Nat → Nat} {K : Nat → Nat} {I : Nat → Nat → Int32} {J : Nat → Nat → Int64} {F : Nat → Nat → UInt32} {D : Nat → Nat → UInt64} {R : Nat → Nat → Option Nat} {nx sl : Nat} {Km : Nat → Nat} {Im : Nat → Nat → Int32} {Jm : Nat → Nat → Int64} {Fm : Nat → Nat → UInt32} {Dm : Nat → Nat → UInt64} {Rm : Nat → Nat → Option Nat} {nxm slm : Nat} (hC : RC ci cn co xj xd xf xo xi xn I J F D R nx sl) (hM : RM ci cn co xj xd xf xo xi xn Im Jm Dm) {t a c : Nat} {go : Int32} (ht : t < 3) (ha : a < 8) (hc : c < 8) (x1 : Im 6 39 = nI t) (x2 : Im 6 40 = nI a) (x3 : Im 6 41 = nI 4) (x4 : Im 6 42 = nI c) (x5 : Im 6 43 = nI 0) (x6 : Im 6 44 = go) : Ct Y_OA_perform [vr 4 13, vr 8 (32 + 7 * t), vi (nI 52), vi (nI a), vi (nI 4), vi (nI c)] (K, I, J, F, D, R, nx, sl) (fun r μ1 => Ct Y_MM_meets [vr 11 6, vi (nI 52)] (Km, Im, Jm, Fm, Dm, Rm, nxm, slm) (fun r2 μ2 => r2 = none ∧ QA ci cn co go r μ1 μ2)) := by
  rcases ho : xo 0 t c with _ | q
  · skip
    rcases hou : xo 0 t a with _ | u
    · skip
      refine ct_of h_OA_perform rfl rfl rfl ?_
      refine ev_gW [true, false] [] rfl ?_
      refine ev_inV 1 k_OA_15 h_SD_t rfl rfl rfl rfl rfl ⟨by decide, by decide⟩ rfl ?_
      refine ev_gW [] [none] rfl ?_
      refine ev_retn rfl ?_
      refine ev_g0 rfl ?_
      refine ev_inS 4 k_OA_25 h_OA_setField rfl rfl rfl rfl ⟨by decide, by decide⟩ rfl ?_
      refine ev_gW [false, false] [] rfl ?_
      refine ev_inV 1 k_OA_15 h_SD_t rfl rfl rfl rfl rfl ⟨by decide, by decide⟩ rfl ?_
      refine ev_gW [] [none] rfl ?_
      refine ev_retn rfl ?_
      refine ev_g0 rfl ?_
      refine ev_reti rfl ?_
      refine ev_g0 rfl ?_
      refine ev_reti rfl ?_
      refine ct_of h_MM_meets rfl rfl rfl ?_
      refine ev_gW [true, false] [] rfl ?_
      refine ev_inV 0 k_MM_399 h_MM_writes rfl rfl rfl rfl rfl ⟨by decide, by decide⟩ rfl ?_
      refine ev_g0 rfl ?_
      refine ev_inV 1 k_MM_344 h_MM_hold rfl rfl rfl rfl rfl ⟨by decide, by decide⟩ rfl ?_
      refine ev_gW [] [] rfl ?_
      refine ev_reti rfl ?_
      refine ev_g0 rfl ?_
      refine ev_inS 1 k_MM_386 h_MM_kindOfField rfl rfl rfl rfl ⟨by decide, by decide⟩ rfl ?_
      refine ev_gW [true, true] [] rfl ?_
      refine ev_reti rfl ?_
      refine ev_g0 rfl ?_
      refine ev_inV 2 k_MM_354 h_MM_takes rfl rfl rfl rfl rfl ⟨by decide, by decide⟩ rfl ?_
      refine ev_gW [true] [] rfl ?_
      refine ev_retz rfl (by first | decide | exact zb_01 _) ?_
      refine ev_gW [false, true, false] [] rfl ?_
      refine ev_inV 1 k_MM_344 h_MM_hold rfl rfl rfl rfl rfl ⟨by decide, by decide⟩ rfl ?_
      refine ev_gW [] [] rfl ?_
      refine ev_reti rfl ?_
      refine ev_g0 rfl ?_
      refine ev_inV 2 k_MM_354 h_MM_takes rfl rfl rfl rfl rfl ⟨by decide, by decide⟩ rfl ?_
      refine ev_gW [true] [] rfl ?_
      refine ev_retz rfl (by first | decide | exact zb_01 _) ?_
      refine ev_gW [false] [] rfl ?_
      refine ev_inV 1 k_MM_357 h_MM_is rfl rfl rfl rfl rfl ⟨by decide, by decide⟩ rfl ?_
      refine ev_gW [false, true] [] rfl ?_
      refine ev_retz rfl (by first | decide | exact zb_01 _) ?_
      refine ev_gW [false] [] rfl ?_
      refine ev_ret rfl ?_
      refine ev_g0 rfl ?_
      refine ev_ret rfl ?_
      exact ⟨rfl, xj, xd, xf, xo, xi, xn, nI 1, rfl, bdd, lf_W, lf_W, hC, hM⟩
    · skip
      have hu := rc_ihol hC ht ha _ hou
      have zu := rc_isor hC hu
      have yu := rc_imad hC
      refine ct_of h_OA_perform rfl rfl rfl ?_
      refine ev_gW [true, false] [] rfl ?_
      refine ev_inV 1 k_OA_15 h_SD_t rfl rfl rfl rfl rfl ⟨by decide, by decide⟩ rfl ?_
      refine ev_gW [] [none] rfl ?_
      refine ev_retn rfl ?_
      refine ev_g0 rfl ?_
      refine ev_inS 4 k_OA_25 h_OA_setField rfl rfl rfl rfl ⟨by decide, by decide⟩ rfl ?_
      refine ev_gW [false, false] [] rfl ?_
      refine ev_inV 1 k_OA_15 h_SD_t rfl rfl rfl rfl rfl ⟨by decide, by decide⟩ rfl ?_
      refine ev_gW [] [some (94 + 4 * u)] rfl ?_
      refine ev_reta rfl ?_
      refine ev_gW [true] [] rfl ?_
      refine ev_inV 1 k_OA_28 h_TH_isA rfl rfl rfl rfl rfl ⟨by decide, by decide⟩ rfl ?_
      refine ev_gW [true, true] [none] rfl ?_
      refine ev_bW rfl rfl (fun h_1 => ?_) (fun h_1 => ?_)
      · skip
        refine ev_g0 rfl ?_
        refine ev_retz rfl (by first | decide | exact zb_01 _) ?_
        refine ev_gW [false] [] rfl ?_
        refine ev_reti rfl ?_
        refine ev_g0 rfl ?_
        refine ev_reti rfl ?_
        refine ct_of h_MM_meets rfl rfl rfl ?_
        refine ev_gW [true, false] [] rfl ?_
        refine ev_inV 0 k_MM_399 h_MM_writes rfl rfl rfl rfl rfl ⟨by decide, by decide⟩ rfl ?_
        refine ev_g0 rfl ?_
        refine ev_inV 1 k_MM_344 h_MM_hold rfl rfl rfl rfl rfl ⟨by decide, by decide⟩ rfl ?_
        refine ev_gW [] [] rfl ?_
        refine ev_reti rfl ?_
        refine ev_g0 rfl ?_
        refine ev_inS 1 k_MM_386 h_MM_kindOfField rfl rfl rfl rfl ⟨by decide, by decide⟩ rfl ?_
        refine ev_gW [true, true] [] rfl ?_
        refine ev_reti rfl ?_
        refine ev_g0 rfl ?_
        refine ev_inV 2 k_MM_354 h_MM_takes rfl rfl rfl rfl rfl ⟨by decide, by decide⟩ rfl ?_
        refine ev_gW [true] [] rfl ?_
        refine ev_retz rfl (by first | decide | exact zb_01 _) ?_
        refine ev_gW [false, true, false] [] rfl ?_
        refine ev_inV 1 k_MM_344 h_MM_hold rfl rfl rfl rfl rfl ⟨by decide, by decide⟩ rfl ?_
        refine ev_gW [] [] rfl ?_
        refine ev_reti rfl ?_
        refine ev_g0 rfl ?_
        refine ev_inV 2 k_MM_354 h_MM_takes rfl rfl rfl rfl rfl ⟨by decide, by decide⟩ rfl ?_
        refine ev_gW [false] [] rfl ?_
        refine ev_inV 2 k_MM_202 h_MM_isKind rfl rfl rfl rfl rfl ⟨by decide, by decide⟩ rfl ?_
        refine ev_gW [true, true] [] rfl ?_
        refine ev_retz rfl (by first | decide | exact zb_01 _) ?_
        refine ev_gW [false] [] rfl ?_
        refine ev_retz rfl (by first | decide | exact zb_01 _) ?_
        refine ev_gW [true] [] rfl ?_
        refine ev_ret rfl ?_
        refine ev_g0 rfl ?_
        refine ev_ret rfl ?_
        exact ⟨rfl, xj, xd, xf, xo, xi, xn, nI 3, rfl, bdd, lf_W, lf_W, hC, hM⟩
      · skip
        refine ev_g0 rfl ?_
        refine ev_retz rfl (by first | decide | exact zb_01 _) ?_
        refine ev_gW [true] [] rfl ?_
        refine ev_reti rfl ?_
        refine ev_g0 rfl ?_
        refine ev_reti rfl ?_
        refine ct_of h_MM_meets rfl rfl rfl ?_
        refine ev_gW [true, false] [] rfl ?_
        refine ev_inV 0 k_MM_399 h_MM_writes rfl rfl rfl rfl rfl ⟨by decide, by decide⟩ rfl ?_
        refine ev_g0 rfl ?_
        refine ev_inV 1 k_MM_344 h_MM_hold rfl rfl rfl rfl rfl ⟨by decide, by decide⟩ rfl ?_
        refine ev_gW [] [] rfl ?_
        refine ev_reti rfl ?_
        refine ev_g0 rfl ?_
        refine ev_inS 1 k_MM_386 h_MM_kindOfField rfl rfl rfl rfl ⟨by decide, by decide⟩ rfl ?_
        refine ev_gW [true, true] [] rfl ?_
        refine ev_reti rfl ?_
        refine ev_g0 rfl ?_
        refine ev_inV 2 k_MM_354 h_MM_takes rfl rfl rfl rfl rfl ⟨by decide, by decide⟩ rfl ?_
        refine ev_gW [true] [] rfl ?_
        refine ev_retz rfl (by first | decide | exact zb_01 _) ?_
        refine ev_gW [false, true, false] [] rfl ?_
        refine ev_inV 1 k_MM_344 h_MM_hold rfl rfl rfl rfl rfl ⟨by decide, by decide⟩ rfl ?_
        refine ev_gW [] [] rfl ?_
        refine ev_reti rfl ?_
        refine ev_g0 rfl ?_
        refine ev_inV 2 k_MM_354 h_MM_takes rfl rfl rfl rfl rfl ⟨by decide, by decide⟩ rfl ?_
        refine ev_gW [false] [] rfl ?_
        refine ev_inV 2 k_MM_202 h_MM_isKind rfl rfl rfl rfl rfl ⟨by decide, by decide⟩ rfl ?_
        refine ev_gW [true, false] [] rfl ?_
        refine ev_retz rfl (by first | decide | exact zb_01 _) ?_
        refine ev_gW [true] [] rfl ?_
        refine ev_retz rfl (by first | decide | exact zb_01 _) ?_
        refine ev_gW [false] [] rfl ?_
        refine ev_inV 1 k_MM_357 h_MM_is rfl rfl rfl rfl rfl ⟨by decide, by decide⟩ rfl ?_
        refine ev_gW [false, true] [] rfl ?_
        refine ev_retz rfl (by first | decide | exact zb_01 _) ?_
        refine ev_gW [false] [] rfl ?_
        refine ev_ret rfl ?_
        refine ev_g0 rfl ?_
        refine ev_ret rfl ?_
        exact ⟨rfl, xj, xd, xf, xo, xi, xn, nI 1, rfl, bdd, lf_W, lf_W, hC, hM⟩
  · skip
    have hq := rc_ihol hC ht hc _ ho
    have zq := rc_isor hC hq
    have yq := rc_imad hC
    rcases hou : xo 0 t a with _ | u
    · skip
      refine ct_of h_OA_perform rfl rfl rfl ?_
      refine ev_gW [true, false] [] rfl ?_
      refine ev_inV 1 k_OA_15 h_SD_t rfl rfl rfl rfl rfl ⟨by decide, by decide⟩ rfl ?_
      refine ev_gW [] [some (94 + 4 * q)] rfl ?_
      refine ev_reta rfl ?_
      refine ev_g0 rfl ?_
      refine ev_inS 4 k_OA_25 h_OA_setField rfl rfl rfl rfl ⟨by decide, by decide⟩ rfl ?_
      refine ev_g0 rfl ?_
      refine ev_inS 1 k_OA_65 h_OA_ownerOf rfl rfl rfl rfl ⟨by decide, by decide⟩ rfl ?_
      refine ev_gW [true, true] [] rfl ?_
      refine ev_reti rfl ?_
      refine ev_g0 rfl ?_
      refine ev_inV 1 k_OA_28 h_TH_isA rfl rfl rfl rfl rfl ⟨by decide, by decide⟩ rfl ?_
      refine ev_gW [false, true, false, false] [none] rfl ?_
      refine ev_inV 0 k_TH_73 h_TH_isRow rfl rfl rfl rfl rfl ⟨by decide, by decide⟩ rfl ?_
      refine ev_g0 rfl ?_
      refine ev_bW rfl rfl (fun h_2 => ?_) (fun h_2 => ?_)
      · skip
        refine ev_g0 rfl ?_
        refine ev_retz rfl (by first | decide | exact zb_01 _) ?_
        refine ev_gW [false] [] rfl ?_
        refine ev_inS 2 k_TH_77 h_TH_isUnder rfl rfl rfl rfl ⟨by decide, by decide⟩ rfl ?_
        refine ev_gW [true] [] rfl ?_
        refine ev_retz rfl (by first | decide | exact zb_01 _) ?_
        refine ev_gW [false] [] rfl ?_
        refine ev_retz rfl (by first | decide | exact zb_01 _) ?_
        refine ev_gW [true, false, false] [] rfl ?_
        refine ev_inV 1 k_OA_15 h_SD_t rfl rfl rfl rfl rfl ⟨by decide, by decide⟩ rfl ?_
        refine ev_gW [] [none] rfl ?_
        refine ev_retn rfl ?_
        refine ev_gW [] [some 4] rfl ?_
        refine ev_reti rfl ?_
        refine ev_g0 rfl ?_
        refine ev_reti rfl ?_
        refine ct_of h_MM_meets rfl rfl rfl ?_
        refine ev_gW [true, false] [] rfl ?_
        refine ev_inV 0 k_MM_399 h_MM_writes rfl rfl rfl rfl rfl ⟨by decide, by decide⟩ rfl ?_
        refine ev_g0 rfl ?_
        refine ev_inV 1 k_MM_344 h_MM_hold rfl rfl rfl rfl rfl ⟨by decide, by decide⟩ rfl ?_
        refine ev_gW [] [] rfl ?_
        refine ev_reti rfl ?_
        refine ev_g0 rfl ?_
        refine ev_inS 1 k_MM_386 h_MM_kindOfField rfl rfl rfl rfl ⟨by decide, by decide⟩ rfl ?_
        refine ev_gW [true, true] [] rfl ?_
        refine ev_reti rfl ?_
        refine ev_g0 rfl ?_
        refine ev_inV 2 k_MM_354 h_MM_takes rfl rfl rfl rfl rfl ⟨by decide, by decide⟩ rfl ?_
        refine ev_gW [false] [] rfl ?_
        refine ev_inV 2 k_MM_202 h_MM_isKind rfl rfl rfl rfl rfl ⟨by decide, by decide⟩ rfl ?_
        refine ev_gW [false, false, true, true, false, false] [] rfl ?_
        refine ev_inS 2 k_MM_192 h_MM_isOf rfl rfl rfl rfl ⟨by decide, by decide⟩ rfl ?_
        refine ev_gW [true] [] rfl ?_
        refine ev_retz rfl (by first | decide | exact zb_01 _) ?_
        refine ev_gW [false] [] rfl ?_
        refine ev_retz rfl (by first | decide | exact zb_01 _) ?_
        refine ev_gW [true] [] rfl ?_
        refine ev_retz rfl (by first | decide | exact zb_01 _) ?_
        refine ev_gW [false, true, false] [] rfl ?_
        refine ev_inV 1 k_MM_344 h_MM_hold rfl rfl rfl rfl rfl ⟨by decide, by decide⟩ rfl ?_
        refine ev_gW [] [] rfl ?_
        refine ev_reti rfl ?_
        refine ev_g0 rfl ?_
        refine ev_inV 2 k_MM_354 h_MM_takes rfl rfl rfl rfl rfl ⟨by decide, by decide⟩ rfl ?_
        refine ev_gW [true] [] rfl ?_
        refine ev_retz rfl (by first | decide | exact zb_01 _) ?_
        refine ev_gW [false] [] rfl ?_
        refine ev_inV 1 k_MM_357 h_MM_is rfl rfl rfl rfl rfl ⟨by decide, by decide⟩ rfl ?_
        refine ev_gW [true, false] [] rfl ?_
        refine ev_retz rfl (by first | decide | exact zb_01 _) ?_
        refine ev_gW [true] [some 4] rfl ?_
        refine ev_inV 1 k_MM_344 h_MM_hold rfl rfl rfl rfl rfl ⟨by decide, by decide⟩ rfl ?_
        refine ev_gW [] [] rfl ?_
        refine ev_reti rfl ?_
        refine ev_gW [] [] rfl ?_
        refine ev_ret rfl ?_
        refine ev_g0 rfl ?_
        refine ev_ret rfl ?_
        exact ⟨rfl, xj, xd, xf, (u3 xo 3 q 0 (none)), xi, xn, nI 0, rfl, bdd, lf_W, lf_W, (CU_lin hC hq (fun _ h => by cases h) lf_W lf_W), (MU_lin hM hq lf_W lf_W (fun i hi => (rc_isor hC hi).2.2.1))⟩
      · skip
        refine ev_g0 rfl ?_
        refine ev_retz rfl (by first | decide | exact zb_01 _) ?_
        refine ev_gW [true] [] rfl ?_
        refine ev_retz rfl (by first | decide | exact zb_01 _) ?_
        refine ev_gW [false] [] rfl ?_
        refine ev_reti rfl ?_
        refine ev_g0 rfl ?_
        refine ev_reti rfl ?_
        refine ct_of h_MM_meets rfl rfl rfl ?_
        refine ev_gW [true, false] [] rfl ?_
        refine ev_inV 0 k_MM_399 h_MM_writes rfl rfl rfl rfl rfl ⟨by decide, by decide⟩ rfl ?_
        refine ev_g0 rfl ?_
        refine ev_inV 1 k_MM_344 h_MM_hold rfl rfl rfl rfl rfl ⟨by decide, by decide⟩ rfl ?_
        refine ev_gW [] [] rfl ?_
        refine ev_reti rfl ?_
        refine ev_g0 rfl ?_
        refine ev_inS 1 k_MM_386 h_MM_kindOfField rfl rfl rfl rfl ⟨by decide, by decide⟩ rfl ?_
        refine ev_gW [true, true] [] rfl ?_
        refine ev_reti rfl ?_
        refine ev_g0 rfl ?_
        refine ev_inV 2 k_MM_354 h_MM_takes rfl rfl rfl rfl rfl ⟨by decide, by decide⟩ rfl ?_
        refine ev_gW [false] [] rfl ?_
        refine ev_inV 2 k_MM_202 h_MM_isKind rfl rfl rfl rfl rfl ⟨by decide, by decide⟩ rfl ?_
        refine ev_gW [false, false, true, true, false, true] [] rfl ?_
        refine ev_retz rfl (by first | decide | exact zb_01 _) ?_
        refine ev_gW [false] [] rfl ?_
        refine ev_retz rfl (by first | decide | exact zb_01 _) ?_
        refine ev_gW [true] [] rfl ?_
        refine ev_ret rfl ?_
        refine ev_g0 rfl ?_
        refine ev_ret rfl ?_
        exact ⟨rfl, xj, xd, xf, xo, xi, xn, nI 3, rfl, bdd, lf_W, lf_W, hC, hM⟩
    · skip
      have hu := rc_ihol hC ht ha _ hou
      have zu := rc_isor hC hu
      have yu := rc_imad hC
      refine ct_of h_OA_perform rfl rfl rfl ?_
      refine ev_gW [true, false] [] rfl ?_
      refine ev_inV 1 k_OA_15 h_SD_t rfl rfl rfl rfl rfl ⟨by decide, by decide⟩ rfl ?_
      refine ev_gW [] [some (94 + 4 * q)] rfl ?_
      refine ev_reta rfl ?_
      refine ev_g0 rfl ?_
      refine ev_inS 4 k_OA_25 h_OA_setField rfl rfl rfl rfl ⟨by decide, by decide⟩ rfl ?_
      refine ev_g0 rfl ?_
      refine ev_inS 1 k_OA_65 h_OA_ownerOf rfl rfl rfl rfl ⟨by decide, by decide⟩ rfl ?_
      refine ev_gW [true, true] [] rfl ?_
      refine ev_reti rfl ?_
      refine ev_g0 rfl ?_
      refine ev_inV 1 k_OA_28 h_TH_isA rfl rfl rfl rfl rfl ⟨by decide, by decide⟩ rfl ?_
      refine ev_gW [false, true, false, false] [none] rfl ?_
      refine ev_inV 0 k_TH_73 h_TH_isRow rfl rfl rfl rfl rfl ⟨by decide, by decide⟩ rfl ?_
      refine ev_g0 rfl ?_
      refine ev_bW rfl rfl (fun h_3 => ?_) (fun h_3 => ?_)
      · skip
        refine ev_g0 rfl ?_
        refine ev_retz rfl (by first | decide | exact zb_01 _) ?_
        refine ev_gW [false] [] rfl ?_
        refine ev_inS 2 k_TH_77 h_TH_isUnder rfl rfl rfl rfl ⟨by decide, by decide⟩ rfl ?_
        refine ev_gW [true] [] rfl ?_
        refine ev_retz rfl (by first | decide | exact zb_01 _) ?_
        refine ev_gW [false] [] rfl ?_
        refine ev_retz rfl (by first | decide | exact zb_01 _) ?_
        refine ev_gW [true, false, false] [] rfl ?_
        refine ev_inV 1 k_OA_15 h_SD_t rfl rfl rfl rfl rfl ⟨by decide, by decide⟩ rfl ?_
        refine ev_gW [] [some (94 + 4 * u)] rfl ?_
        refine ev_reta rfl ?_
        refine ev_gW [true] [] rfl ?_
        refine ev_inV 1 k_OA_28 h_TH_isA rfl rfl rfl rfl rfl ⟨by decide, by decide⟩ rfl ?_
        refine ev_gW [true, true] [none] rfl ?_
        refine ev_bW rfl rfl (fun h_4 => ?_) (fun h_4 => ?_)
        · skip
          refine ev_g0 rfl ?_
          refine ev_retz rfl (by first | decide | exact zb_01 _) ?_
          refine ev_gW [false] [] rfl ?_
          refine ev_reti rfl ?_
          refine ev_g0 rfl ?_
          refine ev_reti rfl ?_
          refine ct_of h_MM_meets rfl rfl rfl ?_
          refine ev_gW [true, false] [] rfl ?_
          refine ev_inV 0 k_MM_399 h_MM_writes rfl rfl rfl rfl rfl ⟨by decide, by decide⟩ rfl ?_
          refine ev_g0 rfl ?_
          refine ev_inV 1 k_MM_344 h_MM_hold rfl rfl rfl rfl rfl ⟨by decide, by decide⟩ rfl ?_
          refine ev_gW [] [] rfl ?_
          refine ev_reti rfl ?_
          refine ev_g0 rfl ?_
          refine ev_inS 1 k_MM_386 h_MM_kindOfField rfl rfl rfl rfl ⟨by decide, by decide⟩ rfl ?_
          refine ev_gW [true, true] [] rfl ?_
          refine ev_reti rfl ?_
          refine ev_g0 rfl ?_
          refine ev_inV 2 k_MM_354 h_MM_takes rfl rfl rfl rfl rfl ⟨by decide, by decide⟩ rfl ?_
          refine ev_gW [false] [] rfl ?_
          refine ev_inV 2 k_MM_202 h_MM_isKind rfl rfl rfl rfl rfl ⟨by decide, by decide⟩ rfl ?_
          refine ev_gW [false, false, true, true, false, false] [] rfl ?_
          refine ev_inS 2 k_MM_192 h_MM_isOf rfl rfl rfl rfl ⟨by decide, by decide⟩ rfl ?_
          refine ev_gW [true] [] rfl ?_
          refine ev_retz rfl (by first | decide | exact zb_01 _) ?_
          refine ev_gW [false] [] rfl ?_
          refine ev_retz rfl (by first | decide | exact zb_01 _) ?_
          refine ev_gW [true] [] rfl ?_
          refine ev_retz rfl (by first | decide | exact zb_01 _) ?_
          refine ev_gW [false, true, false] [] rfl ?_
          refine ev_inV 1 k_MM_344 h_MM_hold rfl rfl rfl rfl rfl ⟨by decide, by decide⟩ rfl ?_
          refine ev_gW [] [] rfl ?_
          refine ev_reti rfl ?_
          refine ev_g0 rfl ?_
          refine ev_inV 2 k_MM_354 h_MM_takes rfl rfl rfl rfl rfl ⟨by decide, by decide⟩ rfl ?_
          refine ev_gW [false] [] rfl ?_
          refine ev_inV 2 k_MM_202 h_MM_isKind rfl rfl rfl rfl rfl ⟨by decide, by decide⟩ rfl ?_
          refine ev_gW [true, true] [] rfl ?_
          refine ev_retz rfl (by first | decide | exact zb_01 _) ?_
          refine ev_gW [false] [] rfl ?_
          refine ev_retz rfl (by first | decide | exact zb_01 _) ?_
          refine ev_gW [true] [] rfl ?_
          refine ev_ret rfl ?_
          refine ev_g0 rfl ?_
          refine ev_ret rfl ?_
          exact ⟨rfl, xj, xd, xf, xo, xi, xn, nI 3, rfl, bdd, lf_W, lf_W, hC, hM⟩
        · skip
          refine ev_g0 rfl ?_
          refine ev_retz rfl (by first | decide | exact zb_01 _) ?_
          refine ev_gW [true] [some 4] rfl ?_
          refine ev_reti rfl ?_
          refine ev_g0 rfl ?_
          refine ev_reti rfl ?_
          refine ct_of h_MM_meets rfl rfl rfl ?_
          refine ev_gW [true, false] [] rfl ?_
          refine ev_inV 0 k_MM_399 h_MM_writes rfl rfl rfl rfl rfl ⟨by decide, by decide⟩ rfl ?_
          refine ev_g0 rfl ?_
          refine ev_inV 1 k_MM_344 h_MM_hold rfl rfl rfl rfl rfl ⟨by decide, by decide⟩ rfl ?_
          refine ev_gW [] [] rfl ?_
          refine ev_reti rfl ?_
          refine ev_g0 rfl ?_
          refine ev_inS 1 k_MM_386 h_MM_kindOfField rfl rfl rfl rfl ⟨by decide, by decide⟩ rfl ?_
          refine ev_gW [true, true] [] rfl ?_
          refine ev_reti rfl ?_
          refine ev_g0 rfl ?_
          refine ev_inV 2 k_MM_354 h_MM_takes rfl rfl rfl rfl rfl ⟨by decide, by decide⟩ rfl ?_
          refine ev_gW [false] [] rfl ?_
          refine ev_inV 2 k_MM_202 h_MM_isKind rfl rfl rfl rfl rfl ⟨by decide, by decide⟩ rfl ?_
          refine ev_gW [false, false, true, true, false, false] [] rfl ?_
          refine ev_inS 2 k_MM_192 h_MM_isOf rfl rfl rfl rfl ⟨by decide, by decide⟩ rfl ?_
          refine ev_gW [true] [] rfl ?_
          refine ev_retz rfl (by first | decide | exact zb_01 _) ?_
          refine ev_gW [false] [] rfl ?_
          refine ev_retz rfl (by first | decide | exact zb_01 _) ?_
          refine ev_gW [true] [] rfl ?_
          refine ev_retz rfl (by first | decide | exact zb_01 _) ?_
          refine ev_gW [false, true, false] [] rfl ?_
          refine ev_inV 1 k_MM_344 h_MM_hold rfl rfl rfl rfl rfl ⟨by decide, by decide⟩ rfl ?_
          refine ev_gW [] [] rfl ?_
          refine ev_reti rfl ?_
          refine ev_g0 rfl ?_
          refine ev_inV 2 k_MM_354 h_MM_takes rfl rfl rfl rfl rfl ⟨by decide, by decide⟩ rfl ?_
          refine ev_gW [false] [] rfl ?_
          refine ev_inV 2 k_MM_202 h_MM_isKind rfl rfl rfl rfl rfl ⟨by decide, by decide⟩ rfl ?_
          refine ev_gW [true, false] [] rfl ?_
          refine ev_retz rfl (by first | decide | exact zb_01 _) ?_
          refine ev_gW [true] [] rfl ?_
          refine ev_retz rfl (by first | decide | exact zb_01 _) ?_
          refine ev_gW [false] [] rfl ?_
          refine ev_inV 1 k_MM_357 h_MM_is rfl rfl rfl rfl rfl ⟨by decide, by decide⟩ rfl ?_
          refine ev_gW [true, false] [] rfl ?_
          refine ev_retz rfl (by first | decide | exact zb_01 _) ?_
          refine ev_gW [true] [some 4] rfl ?_
          refine ev_inV 1 k_MM_344 h_MM_hold rfl rfl rfl rfl rfl ⟨by decide, by decide⟩ rfl ?_
          refine ev_gW [] [] rfl ?_
          refine ev_reti rfl ?_
          refine ev_gW [] [] rfl ?_
          refine ev_ret rfl ?_
          refine ev_g0 rfl ?_
          refine ev_ret rfl ?_
          exact ⟨rfl, xj, xd, xf, (u3 xo 3 q 0 (some u)), xi, xn, nI 0, rfl, bdd, lf_W, lf_W, (CU_lin hC hq (fun _ h => by cases h; exact hu) lf_W lf_W), (MU_lin hM hq lf_W lf_W (fun i hi => (rc_isor hC hi).2.2.1))⟩
      · skip
        refine ev_g0 rfl ?_
        refine ev_retz rfl (by first | decide | exact zb_01 _) ?_
        refine ev_gW [true] [] rfl ?_
        refine ev_retz rfl (by first | decide | exact zb_01 _) ?_
        refine ev_gW [false] [] rfl ?_
        refine ev_reti rfl ?_
        refine ev_g0 rfl ?_
        refine ev_reti rfl ?_
        refine ct_of h_MM_meets rfl rfl rfl ?_
        refine ev_gW [true, false] [] rfl ?_
        refine ev_inV 0 k_MM_399 h_MM_writes rfl rfl rfl rfl rfl ⟨by decide, by decide⟩ rfl ?_
        refine ev_g0 rfl ?_
        refine ev_inV 1 k_MM_344 h_MM_hold rfl rfl rfl rfl rfl ⟨by decide, by decide⟩ rfl ?_
        refine ev_gW [] [] rfl ?_
        refine ev_reti rfl ?_
        refine ev_g0 rfl ?_
        refine ev_inS 1 k_MM_386 h_MM_kindOfField rfl rfl rfl rfl ⟨by decide, by decide⟩ rfl ?_
        refine ev_gW [true, true] [] rfl ?_
        refine ev_reti rfl ?_
        refine ev_g0 rfl ?_
        refine ev_inV 2 k_MM_354 h_MM_takes rfl rfl rfl rfl rfl ⟨by decide, by decide⟩ rfl ?_
        refine ev_gW [false] [] rfl ?_
        refine ev_inV 2 k_MM_202 h_MM_isKind rfl rfl rfl rfl rfl ⟨by decide, by decide⟩ rfl ?_
        refine ev_gW [false, false, true, true, false, true] [] rfl ?_
        refine ev_retz rfl (by first | decide | exact zb_01 _) ?_
        refine ev_gW [false] [] rfl ?_
        refine ev_retz rfl (by first | decide | exact zb_01 _) ?_
        refine ev_gW [true] [] rfl ?_
        refine ev_ret rfl ?_
        refine ev_g0 rfl ?_
        refine ev_ret rfl ?_
        exact ⟨rfl, xj, xd, xf, xo, xi, xn, nI 3, rfl, bdd, lf_W, lf_W, hC, hM⟩
theorem A52_6 {ci : Nat → Nat → Nat → Int32} {cn : Nat → Nat → Nat → Nat} {co : Nat → Option Nat} {xj : Nat → Nat → Nat → Int64} {xd : Nat → Nat → Nat → UInt64} {xf : Nat → Nat → Nat → UInt32} {xo : Nat → Nat → Nat → Option Nat} {xi : Nat → Nat → Nat → Int32} {xn : Nat → Nat → Nat → Nat} {K : Nat → Nat} {I : Nat → Nat → Int32} {J : Nat → Nat → Int64} {F : Nat → Nat → UInt32} {D : Nat → Nat → UInt64} {R : Nat → Nat → Option Nat} {nx sl : Nat} {Km : Nat → Nat} {Im : Nat → Nat → Int32} {Jm : Nat → Nat → Int64} {Fm : Nat → Nat → UInt32} {Dm : Nat → Nat → UInt64} {Rm : Nat → Nat → Option Nat} {nxm slm : Nat} (hC : RC ci cn co xj xd xf xo xi xn I J F D R nx sl) (hM : RM ci cn co xj xd xf xo xi xn Im Jm Dm) {t a c : Nat} {go : Int32} (ht : t < 3) (ha : a < 8) (hc : c < 8) (x1 : Im 6 39 = nI t) (x2 : Im 6 40 = nI a) (x3 : Im 6 41 = nI 6) (x4 : Im 6 42 = nI c) (x5 : Im 6 43 = nI 0) (x6 : Im 6 44 = go) : Ct Y_OA_perform [vr 4 13, vr 8 (32 + 7 * t), vi (nI 52), vi (nI a), vi (nI 6), vi (nI c)] (K, I, J, F, D, R, nx, sl) (fun r μ1 => Ct Y_MM_meets [vr 11 6, vi (nI 52)] (Km, Im, Jm, Fm, Dm, Rm, nxm, slm) (fun r2 μ2 => r2 = none ∧ QA ci cn co go r μ1 μ2)) := by
  rcases ho : xo 0 t c with _ | q
  · skip
    refine ct_of h_OA_perform rfl rfl rfl ?_
    refine ev_gW [true, false] [] rfl ?_
    refine ev_inV 1 k_OA_15 h_SD_t rfl rfl rfl rfl rfl ⟨by decide, by decide⟩ rfl ?_
    refine ev_gW [] [none] rfl ?_
    refine ev_retn rfl ?_
    refine ev_g0 rfl ?_
    refine ev_inS 4 k_OA_25 h_OA_setField rfl rfl rfl rfl ⟨by decide, by decide⟩ rfl ?_
    refine ev_gW [false, true] [] rfl ?_
    refine ev_reti rfl ?_
    refine ev_g0 rfl ?_
    refine ev_reti rfl ?_
    refine ct_of h_MM_meets rfl rfl rfl ?_
    refine ev_gW [true, false] [] rfl ?_
    refine ev_inV 0 k_MM_399 h_MM_writes rfl rfl rfl rfl rfl ⟨by decide, by decide⟩ rfl ?_
    refine ev_g0 rfl ?_
    refine ev_inV 1 k_MM_344 h_MM_hold rfl rfl rfl rfl rfl ⟨by decide, by decide⟩ rfl ?_
    refine ev_gW [] [] rfl ?_
    refine ev_reti rfl ?_
    refine ev_g0 rfl ?_
    refine ev_inS 1 k_MM_386 h_MM_kindOfField rfl rfl rfl rfl ⟨by decide, by decide⟩ rfl ?_
    refine ev_gW [true, true] [] rfl ?_
    refine ev_reti rfl ?_
    refine ev_g0 rfl ?_
    refine ev_inV 2 k_MM_354 h_MM_takes rfl rfl rfl rfl rfl ⟨by decide, by decide⟩ rfl ?_
    refine ev_gW [true] [] rfl ?_
    refine ev_retz rfl (by first | decide | exact zb_01 _) ?_
    refine ev_gW [false, true, true] [] rfl ?_
    refine ev_inV 1 k_MM_357 h_MM_is rfl rfl rfl rfl rfl ⟨by decide, by decide⟩ rfl ?_
    refine ev_gW [false, true] [] rfl ?_
    refine ev_retz rfl (by first | decide | exact zb_01 _) ?_
    refine ev_gW [false] [] rfl ?_
    refine ev_ret rfl ?_
    refine ev_g0 rfl ?_
    refine ev_ret rfl ?_
    exact ⟨rfl, xj, xd, xf, xo, xi, xn, nI 1, rfl, bdd, lf_W, lf_W, hC, hM⟩
  · skip
    have hq := rc_ihol hC ht hc _ ho
    have zq := rc_isor hC hq
    have yq := rc_imad hC
    refine ct_of h_OA_perform rfl rfl rfl ?_
    refine ev_gW [true, false] [] rfl ?_
    refine ev_inV 1 k_OA_15 h_SD_t rfl rfl rfl rfl rfl ⟨by decide, by decide⟩ rfl ?_
    refine ev_gW [] [some (94 + 4 * q)] rfl ?_
    refine ev_reta rfl ?_
    refine ev_g0 rfl ?_
    refine ev_inS 4 k_OA_25 h_OA_setField rfl rfl rfl rfl ⟨by decide, by decide⟩ rfl ?_
    refine ev_g0 rfl ?_
    refine ev_inS 1 k_OA_65 h_OA_ownerOf rfl rfl rfl rfl ⟨by decide, by decide⟩ rfl ?_
    refine ev_gW [true, true] [] rfl ?_
    refine ev_reti rfl ?_
    refine ev_g0 rfl ?_
    refine ev_inV 1 k_OA_28 h_TH_isA rfl rfl rfl rfl rfl ⟨by decide, by decide⟩ rfl ?_
    refine ev_gW [false, true, false, false] [none] rfl ?_
    refine ev_inV 0 k_TH_73 h_TH_isRow rfl rfl rfl rfl rfl ⟨by decide, by decide⟩ rfl ?_
    refine ev_g0 rfl ?_
    refine ev_bW rfl rfl (fun h_1 => ?_) (fun h_1 => ?_)
    · skip
      refine ev_g0 rfl ?_
      refine ev_retz rfl (by first | decide | exact zb_01 _) ?_
      refine ev_gW [false] [] rfl ?_
      refine ev_inS 2 k_TH_77 h_TH_isUnder rfl rfl rfl rfl ⟨by decide, by decide⟩ rfl ?_
      refine ev_gW [true] [] rfl ?_
      refine ev_retz rfl (by first | decide | exact zb_01 _) ?_
      refine ev_gW [false] [] rfl ?_
      refine ev_retz rfl (by first | decide | exact zb_01 _) ?_
      refine ev_gW [true, false, true] [some 6] rfl ?_
      refine ev_inV 1 k_OA_34 h_SD_n rfl rfl rfl rfl rfl ⟨by decide, by decide⟩ rfl ?_
      refine ev_gW [] [] rfl ?_
      refine ev_retl rfl ?_
      refine ev_g0 rfl ?_
      refine ev_reti rfl ?_
      refine ev_g0 rfl ?_
      refine ev_reti rfl ?_
      refine ct_of h_MM_meets rfl rfl rfl ?_
      refine ev_gW [true, false] [] rfl ?_
      refine ev_inV 0 k_MM_399 h_MM_writes rfl rfl rfl rfl rfl ⟨by decide, by decide⟩ rfl ?_
      refine ev_g0 rfl ?_
      refine ev_inV 1 k_MM_344 h_MM_hold rfl rfl rfl rfl rfl ⟨by decide, by decide⟩ rfl ?_
      refine ev_gW [] [] rfl ?_
      refine ev_reti rfl ?_
      refine ev_g0 rfl ?_
      refine ev_inS 1 k_MM_386 h_MM_kindOfField rfl rfl rfl rfl ⟨by decide, by decide⟩ rfl ?_
      refine ev_gW [true, true] [] rfl ?_
      refine ev_reti rfl ?_
      refine ev_g0 rfl ?_
      refine ev_inV 2 k_MM_354 h_MM_takes rfl rfl rfl rfl rfl ⟨by decide, by decide⟩ rfl ?_
      refine ev_gW [false] [] rfl ?_
      refine ev_inV 2 k_MM_202 h_MM_isKind rfl rfl rfl rfl rfl ⟨by decide, by decide⟩ rfl ?_
      refine ev_gW [false, false, true, true, false, false] [] rfl ?_
      refine ev_inS 2 k_MM_192 h_MM_isOf rfl rfl rfl rfl ⟨by decide, by decide⟩ rfl ?_
      refine ev_gW [true] [] rfl ?_
      refine ev_retz rfl (by first | decide | exact zb_01 _) ?_
      refine ev_gW [false] [] rfl ?_
      refine ev_retz rfl (by first | decide | exact zb_01 _) ?_
      refine ev_gW [true] [] rfl ?_
      refine ev_retz rfl (by first | decide | exact zb_01 _) ?_
      refine ev_gW [false, true, true] [] rfl ?_
      refine ev_inV 1 k_MM_357 h_MM_is rfl rfl rfl rfl rfl ⟨by decide, by decide⟩ rfl ?_
      refine ev_gW [true, false] [] rfl ?_
      refine ev_retz rfl (by first | decide | exact zb_01 _) ?_
      refine ev_gW [true] [none] rfl ?_
      refine ev_inV 1 k_MM_277 h_MM_number rfl rfl rfl rfl rfl ⟨by decide, by decide⟩ rfl ?_
      refine ev_gW [] [] rfl ?_
      refine ev_retl rfl ?_
      refine ev_gW [] [] rfl ?_
      refine ev_ret rfl ?_
      refine ev_g0 rfl ?_
      refine ev_ret rfl ?_
      exact ⟨rfl, xj, xd, xf, xo, (u3 xi 2 q 0 ((xj 0 t a).toInt32)), xn, nI 0, rfl, bdd, lf_W, lf_W, (CU_mk0 hC hq lf_W lf_W), (MU_mk0 hM hq lf_W lf_W (fun i hi => (rc_isor hC hi).2.2.1))⟩
    · skip
      refine ev_g0 rfl ?_
      refine ev_retz rfl (by first | decide | exact zb_01 _) ?_
      refine ev_gW [true] [] rfl ?_
      refine ev_retz rfl (by first | decide | exact zb_01 _) ?_
      refine ev_gW [false] [] rfl ?_
      refine ev_reti rfl ?_
      refine ev_g0 rfl ?_
      refine ev_reti rfl ?_
      refine ct_of h_MM_meets rfl rfl rfl ?_
      refine ev_gW [true, false] [] rfl ?_
      refine ev_inV 0 k_MM_399 h_MM_writes rfl rfl rfl rfl rfl ⟨by decide, by decide⟩ rfl ?_
      refine ev_g0 rfl ?_
      refine ev_inV 1 k_MM_344 h_MM_hold rfl rfl rfl rfl rfl ⟨by decide, by decide⟩ rfl ?_
      refine ev_gW [] [] rfl ?_
      refine ev_reti rfl ?_
      refine ev_g0 rfl ?_
      refine ev_inS 1 k_MM_386 h_MM_kindOfField rfl rfl rfl rfl ⟨by decide, by decide⟩ rfl ?_
      refine ev_gW [true, true] [] rfl ?_
      refine ev_reti rfl ?_
      refine ev_g0 rfl ?_
      refine ev_inV 2 k_MM_354 h_MM_takes rfl rfl rfl rfl rfl ⟨by decide, by decide⟩ rfl ?_
      refine ev_gW [false] [] rfl ?_
      refine ev_inV 2 k_MM_202 h_MM_isKind rfl rfl rfl rfl rfl ⟨by decide, by decide⟩ rfl ?_
      refine ev_gW [false, false, true, true, false, true] [] rfl ?_
      refine ev_retz rfl (by first | decide | exact zb_01 _) ?_
      refine ev_gW [false] [] rfl ?_
      refine ev_retz rfl (by first | decide | exact zb_01 _) ?_
      refine ev_gW [true] [] rfl ?_
      refine ev_ret rfl ?_
      refine ev_g0 rfl ?_
      refine ev_ret rfl ?_
      exact ⟨rfl, xj, xd, xf, xo, xi, xn, nI 3, rfl, bdd, lf_W, lf_W, hC, hM⟩
theorem A52_7 {ci : Nat → Nat → Nat → Int32} {cn : Nat → Nat → Nat → Nat} {co : Nat → Option Nat} {xj : Nat → Nat → Nat → Int64} {xd : Nat → Nat → Nat → UInt64} {xf : Nat → Nat → Nat → UInt32} {xo : Nat → Nat → Nat → Option Nat} {xi : Nat → Nat → Nat → Int32} {xn : Nat → Nat → Nat → Nat} {K : Nat → Nat} {I : Nat → Nat → Int32} {J : Nat → Nat → Int64} {F : Nat → Nat → UInt32} {D : Nat → Nat → UInt64} {R : Nat → Nat → Option Nat} {nx sl : Nat} {Km : Nat → Nat} {Im : Nat → Nat → Int32} {Jm : Nat → Nat → Int64} {Fm : Nat → Nat → UInt32} {Dm : Nat → Nat → UInt64} {Rm : Nat → Nat → Option Nat} {nxm slm : Nat} (hC : RC ci cn co xj xd xf xo xi xn I J F D R nx sl) (hM : RM ci cn co xj xd xf xo xi xn Im Jm Dm) {t a c : Nat} {go : Int32} (ht : t < 3) (ha : a < 8) (hc : c < 8) (x1 : Im 6 39 = nI t) (x2 : Im 6 40 = nI a) (x3 : Im 6 41 = nI 7) (x4 : Im 6 42 = nI c) (x5 : Im 6 43 = nI 0) (x6 : Im 6 44 = go) : Ct Y_OA_perform [vr 4 13, vr 8 (32 + 7 * t), vi (nI 52), vi (nI a), vi (nI 7), vi (nI c)] (K, I, J, F, D, R, nx, sl) (fun r μ1 => Ct Y_MM_meets [vr 11 6, vi (nI 52)] (Km, Im, Jm, Fm, Dm, Rm, nxm, slm) (fun r2 μ2 => r2 = none ∧ QA ci cn co go r μ1 μ2)) := by
  rcases ho : xo 0 t c with _ | q
  · skip
    refine ct_of h_OA_perform rfl rfl rfl ?_
    refine ev_gW [true, false] [] rfl ?_
    refine ev_inV 1 k_OA_15 h_SD_t rfl rfl rfl rfl rfl ⟨by decide, by decide⟩ rfl ?_
    refine ev_gW [] [none] rfl ?_
    refine ev_retn rfl ?_
    refine ev_g0 rfl ?_
    refine ev_inS 4 k_OA_25 h_OA_setField rfl rfl rfl rfl ⟨by decide, by decide⟩ rfl ?_
    refine ev_gW [false, true] [] rfl ?_
    refine ev_reti rfl ?_
    refine ev_g0 rfl ?_
    refine ev_reti rfl ?_
    refine ct_of h_MM_meets rfl rfl rfl ?_
    refine ev_gW [true, false] [] rfl ?_
    refine ev_inV 0 k_MM_399 h_MM_writes rfl rfl rfl rfl rfl ⟨by decide, by decide⟩ rfl ?_
    refine ev_g0 rfl ?_
    refine ev_inV 1 k_MM_344 h_MM_hold rfl rfl rfl rfl rfl ⟨by decide, by decide⟩ rfl ?_
    refine ev_gW [] [] rfl ?_
    refine ev_reti rfl ?_
    refine ev_g0 rfl ?_
    refine ev_inS 1 k_MM_386 h_MM_kindOfField rfl rfl rfl rfl ⟨by decide, by decide⟩ rfl ?_
    refine ev_gW [false] [] rfl ?_
    refine ev_reti rfl ?_
    refine ev_g0 rfl ?_
    refine ev_inV 2 k_MM_354 h_MM_takes rfl rfl rfl rfl rfl ⟨by decide, by decide⟩ rfl ?_
    refine ev_gW [true] [] rfl ?_
    refine ev_retz rfl (by first | decide | exact zb_01 _) ?_
    refine ev_gW [false, true, true] [] rfl ?_
    refine ev_inV 1 k_MM_357 h_MM_is rfl rfl rfl rfl rfl ⟨by decide, by decide⟩ rfl ?_
    refine ev_gW [false, true] [] rfl ?_
    refine ev_retz rfl (by first | decide | exact zb_01 _) ?_
    refine ev_gW [false] [] rfl ?_
    refine ev_ret rfl ?_
    refine ev_g0 rfl ?_
    refine ev_ret rfl ?_
    exact ⟨rfl, xj, xd, xf, xo, xi, xn, nI 1, rfl, bdd, lf_W, lf_W, hC, hM⟩
  · skip
    have hq := rc_ihol hC ht hc _ ho
    have zq := rc_isor hC hq
    have yq := rc_imad hC
    refine ct_of h_OA_perform rfl rfl rfl ?_
    refine ev_gW [true, false] [] rfl ?_
    refine ev_inV 1 k_OA_15 h_SD_t rfl rfl rfl rfl rfl ⟨by decide, by decide⟩ rfl ?_
    refine ev_gW [] [some (94 + 4 * q)] rfl ?_
    refine ev_reta rfl ?_
    refine ev_g0 rfl ?_
    refine ev_inS 4 k_OA_25 h_OA_setField rfl rfl rfl rfl ⟨by decide, by decide⟩ rfl ?_
    refine ev_g0 rfl ?_
    refine ev_inS 1 k_OA_65 h_OA_ownerOf rfl rfl rfl rfl ⟨by decide, by decide⟩ rfl ?_
    refine ev_gW [false] [] rfl ?_
    refine ev_reti rfl ?_
    refine ev_g0 rfl ?_
    refine ev_inV 1 k_OA_28 h_TH_isA rfl rfl rfl rfl rfl ⟨by decide, by decide⟩ rfl ?_
    refine ev_gW [false, true, false, false] [none] rfl ?_
    refine ev_inV 0 k_TH_73 h_TH_isRow rfl rfl rfl rfl rfl ⟨by decide, by decide⟩ rfl ?_
    refine ev_g0 rfl ?_
    refine ev_bW rfl rfl (fun h_1 => ?_) (fun h_1 => ?_)
    · skip
      refine ev_g0 rfl ?_
      refine ev_retz rfl (by first | decide | exact zb_01 _) ?_
      refine ev_gW [false] [] rfl ?_
      refine ev_inS 2 k_TH_77 h_TH_isUnder rfl rfl rfl rfl ⟨by decide, by decide⟩ rfl ?_
      refine ev_gW [false] [] rfl ?_
      refine ev_bW rfl rfl (fun h_2 => ?_) (fun h_2 => ?_)
      · skip
        refine ev_g0 rfl ?_
        refine ev_retz rfl (by first | decide | exact zb_01 _) ?_
        refine ev_gW [false] [] rfl ?_
        refine ev_retz rfl (by first | decide | exact zb_01 _) ?_
        refine ev_gW [true, false, true] [some 7] rfl ?_
        refine ev_inV 1 k_OA_34 h_SD_n rfl rfl rfl rfl rfl ⟨by decide, by decide⟩ rfl ?_
        refine ev_gW [] [] rfl ?_
        refine ev_retl rfl ?_
        refine ev_g0 rfl ?_
        refine ev_reti rfl ?_
        refine ev_g0 rfl ?_
        refine ev_reti rfl ?_
        refine ct_of h_MM_meets rfl rfl rfl ?_
        refine ev_gW [true, false] [] rfl ?_
        refine ev_inV 0 k_MM_399 h_MM_writes rfl rfl rfl rfl rfl ⟨by decide, by decide⟩ rfl ?_
        refine ev_g0 rfl ?_
        refine ev_inV 1 k_MM_344 h_MM_hold rfl rfl rfl rfl rfl ⟨by decide, by decide⟩ rfl ?_
        refine ev_gW [] [] rfl ?_
        refine ev_reti rfl ?_
        refine ev_g0 rfl ?_
        refine ev_inS 1 k_MM_386 h_MM_kindOfField rfl rfl rfl rfl ⟨by decide, by decide⟩ rfl ?_
        refine ev_gW [false] [] rfl ?_
        refine ev_reti rfl ?_
        refine ev_g0 rfl ?_
        refine ev_inV 2 k_MM_354 h_MM_takes rfl rfl rfl rfl rfl ⟨by decide, by decide⟩ rfl ?_
        refine ev_gW [false] [] rfl ?_
        refine ev_inV 2 k_MM_202 h_MM_isKind rfl rfl rfl rfl rfl ⟨by decide, by decide⟩ rfl ?_
        refine ev_gW [false, false, true, true, false, false] [] rfl ?_
        refine ev_inS 2 k_MM_192 h_MM_isOf rfl rfl rfl rfl ⟨by decide, by decide⟩ rfl ?_
        refine ev_gW [false, true] [] rfl ?_
        refine ev_retz rfl (by first | decide | exact zb_01 _) ?_
        refine ev_gW [false] [] rfl ?_
        refine ev_retz rfl (by first | decide | exact zb_01 _) ?_
        refine ev_gW [true] [] rfl ?_
        refine ev_retz rfl (by first | decide | exact zb_01 _) ?_
        refine ev_gW [false, true, true] [] rfl ?_
        refine ev_inV 1 k_MM_357 h_MM_is rfl rfl rfl rfl rfl ⟨by decide, by decide⟩ rfl ?_
        refine ev_gW [true, false] [] rfl ?_
        refine ev_retz rfl (by first | decide | exact zb_01 _) ?_
        refine ev_gW [true] [none] rfl ?_
        refine ev_inV 1 k_MM_277 h_MM_number rfl rfl rfl rfl rfl ⟨by decide, by decide⟩ rfl ?_
        refine ev_gW [] [] rfl ?_
        refine ev_retl rfl ?_
        refine ev_gW [] [] rfl ?_
        refine ev_ret rfl ?_
        refine ev_g0 rfl ?_
        refine ev_ret rfl ?_
        exact ⟨rfl, xj, xd, xf, xo, (u3 xi 2 q 1 ((xj 0 t a).toInt32)), xn, nI 0, rfl, bdd, lf_W, lf_W, (CU_mk1 hC hq lf_W lf_W), (MU_mk1 hM hq lf_W lf_W (fun i hi => (rc_isor hC hi).2.2.1))⟩
      · skip
        refine ev_g0 rfl ?_
        refine ev_bW rfl rfl (fun h_3 => ?_) (fun h_3 => ?_)
        · skip
          refine ev_g0 rfl ?_
          refine ev_retz rfl (by first | decide | exact zb_01 _) ?_
          refine ev_gW [true] [] rfl ?_
          refine ev_retz rfl (by first | decide | exact zb_01 _) ?_
          refine ev_gW [false] [] rfl ?_
          refine ev_reti rfl ?_
          refine ev_g0 rfl ?_
          refine ev_reti rfl ?_
          refine ct_of h_MM_meets rfl rfl rfl ?_
          refine ev_gW [true, false] [] rfl ?_
          refine ev_inV 0 k_MM_399 h_MM_writes rfl rfl rfl rfl rfl ⟨by decide, by decide⟩ rfl ?_
          refine ev_g0 rfl ?_
          refine ev_inV 1 k_MM_344 h_MM_hold rfl rfl rfl rfl rfl ⟨by decide, by decide⟩ rfl ?_
          refine ev_gW [] [] rfl ?_
          refine ev_reti rfl ?_
          refine ev_g0 rfl ?_
          refine ev_inS 1 k_MM_386 h_MM_kindOfField rfl rfl rfl rfl ⟨by decide, by decide⟩ rfl ?_
          refine ev_gW [false] [] rfl ?_
          refine ev_reti rfl ?_
          refine ev_g0 rfl ?_
          refine ev_inV 2 k_MM_354 h_MM_takes rfl rfl rfl rfl rfl ⟨by decide, by decide⟩ rfl ?_
          refine ev_gW [false] [] rfl ?_
          refine ev_inV 2 k_MM_202 h_MM_isKind rfl rfl rfl rfl rfl ⟨by decide, by decide⟩ rfl ?_
          refine ev_gW [false, false, true, true, false, false] [] rfl ?_
          refine ev_inS 2 k_MM_192 h_MM_isOf rfl rfl rfl rfl ⟨by decide, by decide⟩ rfl ?_
          refine ev_gW [false, false, false, false, false, true] [] rfl ?_
          refine ev_retz rfl (by first | decide | exact zb_01 _) ?_
          refine ev_gW [true] [] rfl ?_
          refine ev_retz rfl (by first | decide | exact zb_01 _) ?_
          refine ev_gW [false] [] rfl ?_
          refine ev_retz rfl (by first | decide | exact zb_01 _) ?_
          refine ev_gW [true] [] rfl ?_
          refine ev_ret rfl ?_
          refine ev_g0 rfl ?_
          refine ev_ret rfl ?_
          exact ⟨rfl, xj, xd, xf, xo, xi, xn, nI 3, rfl, bdd, lf_W, lf_W, hC, hM⟩
        · skip
          refine ev_g0 rfl ?_
          refine ev_bW rfl rfl (fun h_4 => ?_) (fun h_4 => ?_)
          · skip
            refine ev_g0 rfl ?_
            refine ev_retz rfl (by first | decide | exact zb_01 _) ?_
            refine ev_gW [true] [] rfl ?_
            refine ev_retz rfl (by first | decide | exact zb_01 _) ?_
            refine ev_gW [false] [] rfl ?_
            refine ev_reti rfl ?_
            refine ev_g0 rfl ?_
            refine ev_reti rfl ?_
            refine ct_of h_MM_meets rfl rfl rfl ?_
            refine ev_gW [true, false] [] rfl ?_
            refine ev_inV 0 k_MM_399 h_MM_writes rfl rfl rfl rfl rfl ⟨by decide, by decide⟩ rfl ?_
            refine ev_g0 rfl ?_
            refine ev_inV 1 k_MM_344 h_MM_hold rfl rfl rfl rfl rfl ⟨by decide, by decide⟩ rfl ?_
            refine ev_gW [] [] rfl ?_
            refine ev_reti rfl ?_
            refine ev_g0 rfl ?_
            refine ev_inS 1 k_MM_386 h_MM_kindOfField rfl rfl rfl rfl ⟨by decide, by decide⟩ rfl ?_
            refine ev_gW [false] [] rfl ?_
            refine ev_reti rfl ?_
            refine ev_g0 rfl ?_
            refine ev_inV 2 k_MM_354 h_MM_takes rfl rfl rfl rfl rfl ⟨by decide, by decide⟩ rfl ?_
            refine ev_gW [false] [] rfl ?_
            refine ev_inV 2 k_MM_202 h_MM_isKind rfl rfl rfl rfl rfl ⟨by decide, by decide⟩ rfl ?_
            refine ev_gW [false, false, true, true, false, false] [] rfl ?_
            refine ev_inS 2 k_MM_192 h_MM_isOf rfl rfl rfl rfl ⟨by decide, by decide⟩ rfl ?_
            refine ev_gW [false, false, false, false, false, true] [] rfl ?_
            refine ev_retz rfl (by first | decide | exact zb_01 _) ?_
            refine ev_gW [true] [] rfl ?_
            refine ev_retz rfl (by first | decide | exact zb_01 _) ?_
            refine ev_gW [false] [] rfl ?_
            refine ev_retz rfl (by first | decide | exact zb_01 _) ?_
            refine ev_gW [true] [] rfl ?_
            refine ev_ret rfl ?_
            refine ev_g0 rfl ?_
            refine ev_ret rfl ?_
            exact ⟨rfl, xj, xd, xf, xo, xi, xn, nI 3, rfl, bdd, lf_W, lf_W, hC, hM⟩
          · skip
            refine ev_g0 rfl ?_
            refine ev_retz rfl (by first | decide | exact zb_01 _) ?_
            refine ev_gW [false] [] rfl ?_
            refine ev_retz rfl (by first | decide | exact zb_01 _) ?_
            refine ev_gW [true, false, true] [some 7] rfl ?_
            refine ev_inV 1 k_OA_34 h_SD_n rfl rfl rfl rfl rfl ⟨by decide, by decide⟩ rfl ?_
            refine ev_gW [] [] rfl ?_
            refine ev_retl rfl ?_
            refine ev_g0 rfl ?_
            refine ev_reti rfl ?_
            refine ev_g0 rfl ?_
            refine ev_reti rfl ?_
            refine ct_of h_MM_meets rfl rfl rfl ?_
            refine ev_gW [true, false] [] rfl ?_
            refine ev_inV 0 k_MM_399 h_MM_writes rfl rfl rfl rfl rfl ⟨by decide, by decide⟩ rfl ?_
            refine ev_g0 rfl ?_
            refine ev_inV 1 k_MM_344 h_MM_hold rfl rfl rfl rfl rfl ⟨by decide, by decide⟩ rfl ?_
            refine ev_gW [] [] rfl ?_
            refine ev_reti rfl ?_
            refine ev_g0 rfl ?_
            refine ev_inS 1 k_MM_386 h_MM_kindOfField rfl rfl rfl rfl ⟨by decide, by decide⟩ rfl ?_
            refine ev_gW [false] [] rfl ?_
            refine ev_reti rfl ?_
            refine ev_g0 rfl ?_
            refine ev_inV 2 k_MM_354 h_MM_takes rfl rfl rfl rfl rfl ⟨by decide, by decide⟩ rfl ?_
            refine ev_gW [false] [] rfl ?_
            refine ev_inV 2 k_MM_202 h_MM_isKind rfl rfl rfl rfl rfl ⟨by decide, by decide⟩ rfl ?_
            refine ev_gW [false, false, true, true, false, false] [] rfl ?_
            refine ev_inS 2 k_MM_192 h_MM_isOf rfl rfl rfl rfl ⟨by decide, by decide⟩ rfl ?_
            refine ev_gW [false, false, false] [] rfl ?_
            refine ev_bW rfl rfl (fun h_5 => ?_) (fun h_5 => ?_)
            · skip
              refine ev_g0 rfl ?_
              refine ev_retz rfl (by first | decide | exact zb_01 _) ?_
              refine ev_gW [false] [] rfl ?_
              refine ev_retz rfl (by first | decide | exact zb_01 _) ?_
              refine ev_gW [true] [] rfl ?_
              refine ev_retz rfl (by first | decide | exact zb_01 _) ?_
              refine ev_gW [false, true, true] [] rfl ?_
              refine ev_inV 1 k_MM_357 h_MM_is rfl rfl rfl rfl rfl ⟨by decide, by decide⟩ rfl ?_
              refine ev_gW [true, false] [] rfl ?_
              refine ev_retz rfl (by first | decide | exact zb_01 _) ?_
              refine ev_gW [true] [none] rfl ?_
              refine ev_inV 1 k_MM_277 h_MM_number rfl rfl rfl rfl rfl ⟨by decide, by decide⟩ rfl ?_
              refine ev_gW [] [] rfl ?_
              refine ev_retl rfl ?_
              refine ev_gW [] [] rfl ?_
              refine ev_ret rfl ?_
              refine ev_g0 rfl ?_
              refine ev_ret rfl ?_
              exact ⟨rfl, xj, xd, xf, xo, (u3 xi 2 q 1 ((xj 0 t a).toInt32)), xn, nI 0, rfl, bdd, lf_W, lf_W, (CU_mk1 hC hq lf_W lf_W), (MU_mk1 hM hq lf_W lf_W (fun i hi => (rc_isor hC hi).2.2.1))⟩
            · skip
              refine ev_gW [true] [] rfl ?_
              refine ev_retz rfl (by first | decide | exact zb_01 _) ?_
              refine ev_gW [false] [] rfl ?_
              refine ev_retz rfl (by first | decide | exact zb_01 _) ?_
              refine ev_gW [true] [] rfl ?_
              refine ev_retz rfl (by first | decide | exact zb_01 _) ?_
              refine ev_gW [false, true, true] [] rfl ?_
              refine ev_inV 1 k_MM_357 h_MM_is rfl rfl rfl rfl rfl ⟨by decide, by decide⟩ rfl ?_
              refine ev_gW [true, false] [] rfl ?_
              refine ev_retz rfl (by first | decide | exact zb_01 _) ?_
              refine ev_gW [true] [none] rfl ?_
              refine ev_inV 1 k_MM_277 h_MM_number rfl rfl rfl rfl rfl ⟨by decide, by decide⟩ rfl ?_
              refine ev_gW [] [] rfl ?_
              refine ev_retl rfl ?_
              refine ev_gW [] [] rfl ?_
              refine ev_ret rfl ?_
              refine ev_g0 rfl ?_
              refine ev_ret rfl ?_
              exact ⟨rfl, xj, xd, xf, xo, (u3 xi 2 q 1 ((xj 0 t a).toInt32)), xn, nI 0, rfl, bdd, lf_W, lf_W, (CU_mk1 hC hq lf_W lf_W), (MU_mk1 hM hq lf_W lf_W (fun i hi => (rc_isor hC hi).2.2.1))⟩
    · skip
      refine ev_g0 rfl ?_
      refine ev_retz rfl (by first | decide | exact zb_01 _) ?_
      refine ev_gW [true] [] rfl ?_
      refine ev_retz rfl (by first | decide | exact zb_01 _) ?_
      refine ev_gW [false] [] rfl ?_
      refine ev_reti rfl ?_
      refine ev_g0 rfl ?_
      refine ev_reti rfl ?_
      refine ct_of h_MM_meets rfl rfl rfl ?_
      refine ev_gW [true, false] [] rfl ?_
      refine ev_inV 0 k_MM_399 h_MM_writes rfl rfl rfl rfl rfl ⟨by decide, by decide⟩ rfl ?_
      refine ev_g0 rfl ?_
      refine ev_inV 1 k_MM_344 h_MM_hold rfl rfl rfl rfl rfl ⟨by decide, by decide⟩ rfl ?_
      refine ev_gW [] [] rfl ?_
      refine ev_reti rfl ?_
      refine ev_g0 rfl ?_
      refine ev_inS 1 k_MM_386 h_MM_kindOfField rfl rfl rfl rfl ⟨by decide, by decide⟩ rfl ?_
      refine ev_gW [false] [] rfl ?_
      refine ev_reti rfl ?_
      refine ev_g0 rfl ?_
      refine ev_inV 2 k_MM_354 h_MM_takes rfl rfl rfl rfl rfl ⟨by decide, by decide⟩ rfl ?_
      refine ev_gW [false] [] rfl ?_
      refine ev_inV 2 k_MM_202 h_MM_isKind rfl rfl rfl rfl rfl ⟨by decide, by decide⟩ rfl ?_
      refine ev_gW [false, false, true, true, false, true] [] rfl ?_
      refine ev_retz rfl (by first | decide | exact zb_01 _) ?_
      refine ev_gW [false] [] rfl ?_
      refine ev_retz rfl (by first | decide | exact zb_01 _) ?_
      refine ev_gW [true] [] rfl ?_
      refine ev_ret rfl ?_
      refine ev_g0 rfl ?_
      refine ev_ret rfl ?_
      exact ⟨rfl, xj, xd, xf, xo, xi, xn, nI 3, rfl, bdd, lf_W, lf_W, hC, hM⟩
theorem A52_8 {ci : Nat → Nat → Nat → Int32} {cn : Nat → Nat → Nat → Nat} {co : Nat → Option Nat} {xj : Nat → Nat → Nat → Int64} {xd : Nat → Nat → Nat → UInt64} {xf : Nat → Nat → Nat → UInt32} {xo : Nat → Nat → Nat → Option Nat} {xi : Nat → Nat → Nat → Int32} {xn : Nat → Nat → Nat → Nat} {K : Nat → Nat} {I : Nat → Nat → Int32} {J : Nat → Nat → Int64} {F : Nat → Nat → UInt32} {D : Nat → Nat → UInt64} {R : Nat → Nat → Option Nat} {nx sl : Nat} {Km : Nat → Nat} {Im : Nat → Nat → Int32} {Jm : Nat → Nat → Int64} {Fm : Nat → Nat → UInt32} {Dm : Nat → Nat → UInt64} {Rm : Nat → Nat → Option Nat} {nxm slm : Nat} (hC : RC ci cn co xj xd xf xo xi xn I J F D R nx sl) (hM : RM ci cn co xj xd xf xo xi xn Im Jm Dm) {t a c : Nat} {go : Int32} (ht : t < 3) (ha : a < 8) (hc : c < 8) (x1 : Im 6 39 = nI t) (x2 : Im 6 40 = nI a) (x3 : Im 6 41 = nI 8) (x4 : Im 6 42 = nI c) (x5 : Im 6 43 = nI 0) (x6 : Im 6 44 = go) : Ct Y_OA_perform [vr 4 13, vr 8 (32 + 7 * t), vi (nI 52), vi (nI a), vi (nI 8), vi (nI c)] (K, I, J, F, D, R, nx, sl) (fun r μ1 => Ct Y_MM_meets [vr 11 6, vi (nI 52)] (Km, Im, Jm, Fm, Dm, Rm, nxm, slm) (fun r2 μ2 => r2 = none ∧ QA ci cn co go r μ1 μ2)) := by
  rcases ho : xo 0 t c with _ | q
  · skip
    refine ct_of h_OA_perform rfl rfl rfl ?_
    refine ev_gW [true, false] [] rfl ?_
    refine ev_inV 1 k_OA_15 h_SD_t rfl rfl rfl rfl rfl ⟨by decide, by decide⟩ rfl ?_
    refine ev_gW [] [none] rfl ?_
    refine ev_retn rfl ?_
    refine ev_g0 rfl ?_
    refine ev_inS 4 k_OA_25 h_OA_setField rfl rfl rfl rfl ⟨by decide, by decide⟩ rfl ?_
    refine ev_gW [false, true] [] rfl ?_
    refine ev_reti rfl ?_
    refine ev_g0 rfl ?_
    refine ev_reti rfl ?_
    refine ct_of h_MM_meets rfl rfl rfl ?_
    refine ev_gW [true, false] [] rfl ?_
    refine ev_inV 0 k_MM_399 h_MM_writes rfl rfl rfl rfl rfl ⟨by decide, by decide⟩ rfl ?_
    refine ev_g0 rfl ?_
    refine ev_inV 1 k_MM_344 h_MM_hold rfl rfl rfl rfl rfl ⟨by decide, by decide⟩ rfl ?_
    refine ev_gW [] [] rfl ?_
    refine ev_reti rfl ?_
    refine ev_g0 rfl ?_
    refine ev_inS 1 k_MM_386 h_MM_kindOfField rfl rfl rfl rfl ⟨by decide, by decide⟩ rfl ?_
    refine ev_gW [true, false] [] rfl ?_
    refine ev_reti rfl ?_
    refine ev_g0 rfl ?_
    refine ev_inV 2 k_MM_354 h_MM_takes rfl rfl rfl rfl rfl ⟨by decide, by decide⟩ rfl ?_
    refine ev_gW [true] [] rfl ?_
    refine ev_retz rfl (by first | decide | exact zb_01 _) ?_
    refine ev_gW [false, true, true] [] rfl ?_
    refine ev_inV 1 k_MM_357 h_MM_is rfl rfl rfl rfl rfl ⟨by decide, by decide⟩ rfl ?_
    refine ev_gW [false, true] [] rfl ?_
    refine ev_retz rfl (by first | decide | exact zb_01 _) ?_
    refine ev_gW [false] [] rfl ?_
    refine ev_ret rfl ?_
    refine ev_g0 rfl ?_
    refine ev_ret rfl ?_
    exact ⟨rfl, xj, xd, xf, xo, xi, xn, nI 1, rfl, bdd, lf_W, lf_W, hC, hM⟩
  · skip
    have hq := rc_ihol hC ht hc _ ho
    have zq := rc_isor hC hq
    have yq := rc_imad hC
    refine ct_of h_OA_perform rfl rfl rfl ?_
    refine ev_gW [true, false] [] rfl ?_
    refine ev_inV 1 k_OA_15 h_SD_t rfl rfl rfl rfl rfl ⟨by decide, by decide⟩ rfl ?_
    refine ev_gW [] [some (94 + 4 * q)] rfl ?_
    refine ev_reta rfl ?_
    refine ev_g0 rfl ?_
    refine ev_inS 4 k_OA_25 h_OA_setField rfl rfl rfl rfl ⟨by decide, by decide⟩ rfl ?_
    refine ev_g0 rfl ?_
    refine ev_inS 1 k_OA_65 h_OA_ownerOf rfl rfl rfl rfl ⟨by decide, by decide⟩ rfl ?_
    refine ev_gW [true, false] [] rfl ?_
    refine ev_reti rfl ?_
    refine ev_g0 rfl ?_
    refine ev_inV 1 k_OA_28 h_TH_isA rfl rfl rfl rfl rfl ⟨by decide, by decide⟩ rfl ?_
    refine ev_gW [false, true, false, false] [none] rfl ?_
    refine ev_inV 0 k_TH_73 h_TH_isRow rfl rfl rfl rfl rfl ⟨by decide, by decide⟩ rfl ?_
    refine ev_g0 rfl ?_
    refine ev_bW rfl rfl (fun h_1 => ?_) (fun h_1 => ?_)
    · skip
      refine ev_g0 rfl ?_
      refine ev_retz rfl (by first | decide | exact zb_01 _) ?_
      refine ev_gW [false] [] rfl ?_
      refine ev_inS 2 k_TH_77 h_TH_isUnder rfl rfl rfl rfl ⟨by decide, by decide⟩ rfl ?_
      refine ev_gW [false] [] rfl ?_
      refine ev_bW rfl rfl (fun h_2 => ?_) (fun h_2 => ?_)
      · skip
        refine ev_g0 rfl ?_
        refine ev_retz rfl (by first | decide | exact zb_01 _) ?_
        refine ev_gW [false] [] rfl ?_
        refine ev_retz rfl (by first | decide | exact zb_01 _) ?_
        refine ev_gW [true, false, true] [none] rfl ?_
        refine ev_inV 1 k_OA_34 h_SD_n rfl rfl rfl rfl rfl ⟨by decide, by decide⟩ rfl ?_
        refine ev_gW [] [] rfl ?_
        refine ev_retl rfl ?_
        refine ev_g0 rfl ?_
        refine ev_reti rfl ?_
        refine ev_g0 rfl ?_
        refine ev_reti rfl ?_
        refine ct_of h_MM_meets rfl rfl rfl ?_
        refine ev_gW [true, false] [] rfl ?_
        refine ev_inV 0 k_MM_399 h_MM_writes rfl rfl rfl rfl rfl ⟨by decide, by decide⟩ rfl ?_
        refine ev_g0 rfl ?_
        refine ev_inV 1 k_MM_344 h_MM_hold rfl rfl rfl rfl rfl ⟨by decide, by decide⟩ rfl ?_
        refine ev_gW [] [] rfl ?_
        refine ev_reti rfl ?_
        refine ev_g0 rfl ?_
        refine ev_inS 1 k_MM_386 h_MM_kindOfField rfl rfl rfl rfl ⟨by decide, by decide⟩ rfl ?_
        refine ev_gW [true, false] [] rfl ?_
        refine ev_reti rfl ?_
        refine ev_g0 rfl ?_
        refine ev_inV 2 k_MM_354 h_MM_takes rfl rfl rfl rfl rfl ⟨by decide, by decide⟩ rfl ?_
        refine ev_gW [false] [] rfl ?_
        refine ev_inV 2 k_MM_202 h_MM_isKind rfl rfl rfl rfl rfl ⟨by decide, by decide⟩ rfl ?_
        refine ev_gW [false, false, true, true, false, false] [] rfl ?_
        refine ev_inS 2 k_MM_192 h_MM_isOf rfl rfl rfl rfl ⟨by decide, by decide⟩ rfl ?_
        refine ev_gW [false, true] [] rfl ?_
        refine ev_retz rfl (by first | decide | exact zb_01 _) ?_
        refine ev_gW [false] [] rfl ?_
        refine ev_retz rfl (by first | decide | exact zb_01 _) ?_
        refine ev_gW [true] [] rfl ?_
        refine ev_retz rfl (by first | decide | exact zb_01 _) ?_
        refine ev_gW [false, true, true] [] rfl ?_
        refine ev_inV 1 k_MM_357 h_MM_is rfl rfl rfl rfl rfl ⟨by decide, by decide⟩ rfl ?_
        refine ev_gW [true, false] [] rfl ?_
        refine ev_retz rfl (by first | decide | exact zb_01 _) ?_
        refine ev_gW [true] [none] rfl ?_
        refine ev_inV 1 k_MM_277 h_MM_number rfl rfl rfl rfl rfl ⟨by decide, by decide⟩ rfl ?_
        refine ev_gW [] [] rfl ?_
        refine ev_retl rfl ?_
        refine ev_gW [] [] rfl ?_
        refine ev_ret rfl ?_
        refine ev_g0 rfl ?_
        refine ev_ret rfl ?_
        exact ⟨rfl, xj, xd, xf, xo, (u3 xi 2 q 2 ((xj 0 t a).toInt32)), xn, nI 0, rfl, bdd, lf_W, lf_W, (CU_mk2 hC hq lf_W lf_W), (MU_mk2 hM hq lf_W lf_W (fun i hi => (rc_isor hC hi).2.2.1))⟩
      · skip
        refine ev_g0 rfl ?_
        refine ev_bW rfl rfl (fun h_3 => ?_) (fun h_3 => ?_)
        · skip
          refine ev_g0 rfl ?_
          refine ev_retz rfl (by first | decide | exact zb_01 _) ?_
          refine ev_gW [true] [] rfl ?_
          refine ev_retz rfl (by first | decide | exact zb_01 _) ?_
          refine ev_gW [false] [] rfl ?_
          refine ev_reti rfl ?_
          refine ev_g0 rfl ?_
          refine ev_reti rfl ?_
          refine ct_of h_MM_meets rfl rfl rfl ?_
          refine ev_gW [true, false] [] rfl ?_
          refine ev_inV 0 k_MM_399 h_MM_writes rfl rfl rfl rfl rfl ⟨by decide, by decide⟩ rfl ?_
          refine ev_g0 rfl ?_
          refine ev_inV 1 k_MM_344 h_MM_hold rfl rfl rfl rfl rfl ⟨by decide, by decide⟩ rfl ?_
          refine ev_gW [] [] rfl ?_
          refine ev_reti rfl ?_
          refine ev_g0 rfl ?_
          refine ev_inS 1 k_MM_386 h_MM_kindOfField rfl rfl rfl rfl ⟨by decide, by decide⟩ rfl ?_
          refine ev_gW [true, false] [] rfl ?_
          refine ev_reti rfl ?_
          refine ev_g0 rfl ?_
          refine ev_inV 2 k_MM_354 h_MM_takes rfl rfl rfl rfl rfl ⟨by decide, by decide⟩ rfl ?_
          refine ev_gW [false] [] rfl ?_
          refine ev_inV 2 k_MM_202 h_MM_isKind rfl rfl rfl rfl rfl ⟨by decide, by decide⟩ rfl ?_
          refine ev_gW [false, false, true, true, false, false] [] rfl ?_
          refine ev_inS 2 k_MM_192 h_MM_isOf rfl rfl rfl rfl ⟨by decide, by decide⟩ rfl ?_
          refine ev_gW [false, false, true, true] [] rfl ?_
          refine ev_retz rfl (by first | decide | exact zb_01 _) ?_
          refine ev_gW [true] [] rfl ?_
          refine ev_retz rfl (by first | decide | exact zb_01 _) ?_
          refine ev_gW [false] [] rfl ?_
          refine ev_retz rfl (by first | decide | exact zb_01 _) ?_
          refine ev_gW [true] [] rfl ?_
          refine ev_ret rfl ?_
          refine ev_g0 rfl ?_
          refine ev_ret rfl ?_
          exact ⟨rfl, xj, xd, xf, xo, xi, xn, nI 3, rfl, bdd, lf_W, lf_W, hC, hM⟩
        · skip
          refine ev_gW [true] [] rfl ?_
          refine ev_retz rfl (by first | decide | exact zb_01 _) ?_
          refine ev_gW [true] [] rfl ?_
          refine ev_retz rfl (by first | decide | exact zb_01 _) ?_
          refine ev_gW [false] [] rfl ?_
          refine ev_reti rfl ?_
          refine ev_g0 rfl ?_
          refine ev_reti rfl ?_
          refine ct_of h_MM_meets rfl rfl rfl ?_
          refine ev_gW [true, false] [] rfl ?_
          refine ev_inV 0 k_MM_399 h_MM_writes rfl rfl rfl rfl rfl ⟨by decide, by decide⟩ rfl ?_
          refine ev_g0 rfl ?_
          refine ev_inV 1 k_MM_344 h_MM_hold rfl rfl rfl rfl rfl ⟨by decide, by decide⟩ rfl ?_
          refine ev_gW [] [] rfl ?_
          refine ev_reti rfl ?_
          refine ev_g0 rfl ?_
          refine ev_inS 1 k_MM_386 h_MM_kindOfField rfl rfl rfl rfl ⟨by decide, by decide⟩ rfl ?_
          refine ev_gW [true, false] [] rfl ?_
          refine ev_reti rfl ?_
          refine ev_g0 rfl ?_
          refine ev_inV 2 k_MM_354 h_MM_takes rfl rfl rfl rfl rfl ⟨by decide, by decide⟩ rfl ?_
          refine ev_gW [false] [] rfl ?_
          refine ev_inV 2 k_MM_202 h_MM_isKind rfl rfl rfl rfl rfl ⟨by decide, by decide⟩ rfl ?_
          refine ev_gW [false, false, true, true, false, false] [] rfl ?_
          refine ev_inS 2 k_MM_192 h_MM_isOf rfl rfl rfl rfl ⟨by decide, by decide⟩ rfl ?_
          refine ev_gW [false, false, true, true] [] rfl ?_
          refine ev_retz rfl (by first | decide | exact zb_01 _) ?_
          refine ev_gW [true] [] rfl ?_
          refine ev_retz rfl (by first | decide | exact zb_01 _) ?_
          refine ev_gW [false] [] rfl ?_
          refine ev_retz rfl (by first | decide | exact zb_01 _) ?_
          refine ev_gW [true] [] rfl ?_
          refine ev_ret rfl ?_
          refine ev_g0 rfl ?_
          refine ev_ret rfl ?_
          exact ⟨rfl, xj, xd, xf, xo, xi, xn, nI 3, rfl, bdd, lf_W, lf_W, hC, hM⟩
    · skip
      refine ev_g0 rfl ?_
      refine ev_retz rfl (by first | decide | exact zb_01 _) ?_
      refine ev_gW [true] [] rfl ?_
      refine ev_retz rfl (by first | decide | exact zb_01 _) ?_
      refine ev_gW [false] [] rfl ?_
      refine ev_reti rfl ?_
      refine ev_g0 rfl ?_
      refine ev_reti rfl ?_
      refine ct_of h_MM_meets rfl rfl rfl ?_
      refine ev_gW [true, false] [] rfl ?_
      refine ev_inV 0 k_MM_399 h_MM_writes rfl rfl rfl rfl rfl ⟨by decide, by decide⟩ rfl ?_
      refine ev_g0 rfl ?_
      refine ev_inV 1 k_MM_344 h_MM_hold rfl rfl rfl rfl rfl ⟨by decide, by decide⟩ rfl ?_
      refine ev_gW [] [] rfl ?_
      refine ev_reti rfl ?_
      refine ev_g0 rfl ?_
      refine ev_inS 1 k_MM_386 h_MM_kindOfField rfl rfl rfl rfl ⟨by decide, by decide⟩ rfl ?_
      refine ev_gW [true, false] [] rfl ?_
      refine ev_reti rfl ?_
      refine ev_g0 rfl ?_
      refine ev_inV 2 k_MM_354 h_MM_takes rfl rfl rfl rfl rfl ⟨by decide, by decide⟩ rfl ?_
      refine ev_gW [false] [] rfl ?_
      refine ev_inV 2 k_MM_202 h_MM_isKind rfl rfl rfl rfl rfl ⟨by decide, by decide⟩ rfl ?_
      refine ev_gW [false, false, true, true, false, true] [] rfl ?_
      refine ev_retz rfl (by first | decide | exact zb_01 _) ?_
      refine ev_gW [false] [] rfl ?_
      refine ev_retz rfl (by first | decide | exact zb_01 _) ?_
      refine ev_gW [true] [] rfl ?_
      refine ev_ret rfl ?_
      refine ev_g0 rfl ?_
      refine ev_ret rfl ?_
      exact ⟨rfl, xj, xd, xf, xo, xi, xn, nI 3, rfl, bdd, lf_W, lf_W, hC, hM⟩
theorem A53 {ci : Nat → Nat → Nat → Int32} {cn : Nat → Nat → Nat → Nat} {co : Nat → Option Nat} {xj : Nat → Nat → Nat → Int64} {xd : Nat → Nat → Nat → UInt64} {xf : Nat → Nat → Nat → UInt32} {xo : Nat → Nat → Nat → Option Nat} {xi : Nat → Nat → Nat → Int32} {xn : Nat → Nat → Nat → Nat} {K : Nat → Nat} {I : Nat → Nat → Int32} {J : Nat → Nat → Int64} {F : Nat → Nat → UInt32} {D : Nat → Nat → UInt64} {R : Nat → Nat → Option Nat} {nx sl : Nat} {Km : Nat → Nat} {Im : Nat → Nat → Int32} {Jm : Nat → Nat → Int64} {Fm : Nat → Nat → UInt32} {Dm : Nat → Nat → UInt64} {Rm : Nat → Nat → Option Nat} {nxm slm : Nat} (hC : RC ci cn co xj xd xf xo xi xn I J F D R nx sl) (hM : RM ci cn co xj xd xf xo xi xn Im Jm Dm) {t a b c : Nat} {go : Int32} (ht : t < 3) (ha : a < 8) (hb : b < 8) (hc : c < 8) (x1 : Im 6 39 = nI t) (x2 : Im 6 40 = nI a) (x3 : Im 6 41 = nI b) (x4 : Im 6 42 = nI c) (x5 : Im 6 43 = nI 0) (x6 : Im 6 44 = go) : Ct Y_OA_perform [vr 4 13, vr 8 (32 + 7 * t), vi (nI 53), vi (nI a), vi (nI b), vi (nI c)] (K, I, J, F, D, R, nx, sl) (fun r μ1 => Ct Y_MM_meets [vr 11 6, vi (nI 53)] (Km, Im, Jm, Fm, Dm, Rm, nxm, slm) (fun r2 μ2 => r2 = none ∧ QA ci cn co go r μ1 μ2)) := by
  rcases ho : xo 0 t b with _ | q
  · skip
    refine ct_of h_OA_perform rfl rfl rfl ?_
    refine ev_gW [true, true] [] rfl ?_
    refine ev_inV 1 k_OA_15 h_SD_t rfl rfl rfl rfl rfl ⟨by decide, by decide⟩ rfl ?_
    refine ev_gW [] [none] rfl ?_
    refine ev_retn rfl ?_
    refine ev_g0 rfl ?_
    refine ev_reti rfl ?_
    refine ct_of h_MM_meets rfl rfl rfl ?_
    refine ev_gW [true, true] [] rfl ?_
    refine ev_inV 1 k_MM_344 h_MM_hold rfl rfl rfl rfl rfl ⟨by decide, by decide⟩ rfl ?_
    refine ev_gW [] [] rfl ?_
    refine ev_reti rfl ?_
    refine ev_gW [false] [] rfl ?_
    refine ev_inV 2 k_MM_354 h_MM_takes rfl rfl rfl rfl rfl ⟨by decide, by decide⟩ rfl ?_
    refine ev_gW [true] [] rfl ?_
    refine ev_retz rfl (by first | decide | exact zb_01 _) ?_
    refine ev_gW [false] [] rfl ?_
    refine ev_inV 1 k_MM_357 h_MM_is rfl rfl rfl rfl rfl ⟨by decide, by decide⟩ rfl ?_
    refine ev_gW [false, true] [] rfl ?_
    refine ev_retz rfl (by first | decide | exact zb_01 _) ?_
    refine ev_gW [false] [] rfl ?_
    refine ev_ret rfl ?_
    exact ⟨rfl, xj, xd, xf, xo, xi, xn, nI 1, rfl, bdd, lf_W, lf_W, hC, hM⟩
  · skip
    have hq := rc_ihol hC ht hb _ ho
    have zq := rc_isor hC hq
    have yq := rc_imad hC
    rcases (show xn 0 q 0 < 16 ∨ xn 0 q 0 = 16 ∨ xn 0 q 0 = 17 ∨ xn 0 q 0 = 18 ∨ xn 0 q 0 = 19 ∨ xn 0 q 0 = 20 by omega) with hk | hk | hk | hk | hk | hk
    · skip
      refine ct_of h_OA_perform rfl rfl rfl ?_
      refine ev_gW [true, true] [] rfl ?_
      refine ev_inV 1 k_OA_15 h_SD_t rfl rfl rfl rfl rfl ⟨by decide, by decide⟩ rfl ?_
      refine ev_gW [] [some (94 + 4 * q)] rfl ?_
      refine ev_reta rfl ?_
      refine ev_gW [true, true] [] rfl ?_
      refine ev_inV 1 k_OA_28 h_TH_isA rfl rfl rfl rfl rfl ⟨by decide, by decide⟩ rfl ?_
      refine ev_gW [] [some 0] rfl ?_
      refine ev_inV 0 k_TH_73 h_TH_isRow rfl rfl rfl rfl rfl ⟨by decide, by decide⟩ rfl ?_
      refine ev_gW [false] [] rfl ?_
      refine ev_retz rfl (by first | decide | exact zb_01 _) ?_
      refine ev_gW [true] [] rfl ?_
      refine ev_retz rfl (by first | decide | exact zb_01 _) ?_
      refine ev_gW [false] [] rfl ?_
      refine ev_reti rfl ?_
      refine ct_of h_MM_meets rfl rfl rfl ?_
      refine ev_gW [true, true] [] rfl ?_
      refine ev_inV 1 k_MM_344 h_MM_hold rfl rfl rfl rfl rfl ⟨by decide, by decide⟩ rfl ?_
      refine ev_gW [] [] rfl ?_
      refine ev_reti rfl ?_
      refine ev_gW [false] [] rfl ?_
      refine ev_inV 2 k_MM_354 h_MM_takes rfl rfl rfl rfl rfl ⟨by decide, by decide⟩ rfl ?_
      refine ev_gW [false] [] rfl ?_
      refine ev_inV 2 k_MM_202 h_MM_isKind rfl rfl rfl rfl rfl ⟨by decide, by decide⟩ rfl ?_
      refine ev_gW [false, false, true, true, true, true] [some 0] rfl ?_
      refine ev_retz rfl (by first | decide | exact zb_01 _) ?_
      refine ev_gW [false] [] rfl ?_
      refine ev_retz rfl (by first | decide | exact zb_01 _) ?_
      refine ev_gW [true] [] rfl ?_
      refine ev_ret rfl ?_
      exact ⟨rfl, xj, xd, xf, xo, xi, xn, nI 3, rfl, bdd, lf_W, lf_W, hC, hM⟩
    · skip
      refine ct_of h_OA_perform rfl rfl rfl ?_
      refine ev_gW [true, true] [] rfl ?_
      refine ev_inV 1 k_OA_15 h_SD_t rfl rfl rfl rfl rfl ⟨by decide, by decide⟩ rfl ?_
      refine ev_gW [] [some (94 + 4 * q)] rfl ?_
      refine ev_reta rfl ?_
      refine ev_gW [true, true] [] rfl ?_
      refine ev_inV 1 k_OA_28 h_TH_isA rfl rfl rfl rfl rfl ⟨by decide, by decide⟩ rfl ?_
      refine ev_gW [] [some 0] rfl ?_
      refine ev_inV 0 k_TH_73 h_TH_isRow rfl rfl rfl rfl rfl ⟨by decide, by decide⟩ rfl ?_
      refine ev_gW [true] [] rfl ?_
      refine ev_retz rfl (by first | decide | exact zb_01 _) ?_
      refine ev_gW [false] [] rfl ?_
      refine ev_retz rfl (by first | decide | exact zb_01 _) ?_
      refine ev_gW [true] [some 0] rfl ?_
      refine ev_inV 1 k_OA_34 h_SD_n rfl rfl rfl rfl rfl ⟨by decide, by decide⟩ rfl ?_
      refine ev_gW [] [] rfl ?_
      refine ev_retl rfl ?_
      refine ev_g0 rfl ?_
      refine ev_inV 2 k_OA_38 h_OA_weigh rfl rfl rfl rfl rfl ⟨by decide, by decide⟩ rfl ?_
      refine ev_gW [] [some 0] rfl ?_
      refine ev_inV 2 k_OA_119 h_OA_nodeWeigh rfl rfl rfl rfl rfl ⟨by decide, by decide⟩ rfl ?_
      refine ev_g0 rfl ?_
      refine ev_inV 1 k_OA_122 h_OA_begin rfl rfl rfl rfl rfl ⟨by decide, by decide⟩ rfl ?_
      refine ev_g0 rfl ?_
      refine ev_ret rfl ?_
      refine ev_g0 rfl ?_
      refine ev_retl rfl ?_
      refine ev_g0 rfl ?_
      refine ev_retl rfl ?_
      refine ev_g0 rfl ?_
      refine ev_inV 2 k_OA_42 h_SD_setN rfl rfl rfl rfl rfl ⟨by decide, by decide⟩ rfl ?_
      refine ev_gW [] [] rfl ?_
      refine ev_ret rfl ?_
      refine ev_g0 rfl ?_
      refine ev_reti rfl ?_
      refine ct_of h_MM_meets rfl rfl rfl ?_
      refine ev_gW [true, true] [] rfl ?_
      refine ev_inV 1 k_MM_344 h_MM_hold rfl rfl rfl rfl rfl ⟨by decide, by decide⟩ rfl ?_
      refine ev_gW [] [] rfl ?_
      refine ev_reti rfl ?_
      refine ev_gW [false] [] rfl ?_
      refine ev_inV 2 k_MM_354 h_MM_takes rfl rfl rfl rfl rfl ⟨by decide, by decide⟩ rfl ?_
      refine ev_gW [false] [] rfl ?_
      refine ev_inV 2 k_MM_202 h_MM_isKind rfl rfl rfl rfl rfl ⟨by decide, by decide⟩ rfl ?_
      refine ev_gW [false, false, true, true, true, false] [some 0] rfl ?_
      refine ev_retz rfl (by first | decide | exact zb_01 _) ?_
      refine ev_gW [true] [] rfl ?_
      refine ev_retz rfl (by first | decide | exact zb_01 _) ?_
      refine ev_gW [false] [] rfl ?_
      refine ev_inV 1 k_MM_357 h_MM_is rfl rfl rfl rfl rfl ⟨by decide, by decide⟩ rfl ?_
      refine ev_gW [true, false] [] rfl ?_
      refine ev_retz rfl (by first | decide | exact zb_01 _) ?_
      refine ev_gW [true] [some 0] rfl ?_
      refine ev_inV 1 k_MM_277 h_MM_number rfl rfl rfl rfl rfl ⟨by decide, by decide⟩ rfl ?_
      refine ev_gW [] [] rfl ?_
      refine ev_retl rfl ?_
      refine ev_g0 rfl ?_
      refine ev_inV 2 k_MM_402 h_MM_weigh rfl rfl rfl rfl rfl ⟨by decide, by decide⟩ rfl ?_
      refine ev_gW [true, true, true] [] rfl ?_
      refine ev_inV 1 k_MM_389 h_MM_traced rfl rfl rfl rfl rfl ⟨by decide, by decide⟩ rfl ?_
      refine ev_g0 rfl ?_
      refine ev_ret rfl ?_
      refine ev_gW [true, true] [] rfl ?_
      refine ev_retl rfl ?_
      refine ev_g0 rfl ?_
      refine ev_inV 2 k_MM_288 h_MM_lay rfl rfl rfl rfl rfl ⟨by decide, by decide⟩ rfl ?_
      refine ev_gW [] [] rfl ?_
      refine ev_ret rfl ?_
      refine ev_g0 rfl ?_
      refine ev_ret rfl ?_
      exact ⟨rfl, (u3 xj 0 t a (xj 2 q 0 + xj 0 t c)), xd, xf, xo, (u3 xi 3 0 0 (nI 31 * (xi 3 0 0) + nI 1)), xn, nI 0, rfl, bdd, lf_W, lf_W, (CU_num (CU_trc hC  lf_W lf_W) ht ha lf_W lf_W), (MU_num (MU_trc hM  lf_W lf_W (fun i hi => (rc_isor hC hi).2.2.1)) ht ha lf_W lf_W (fun i hi => (rc_isor hC hi).2.2.1))⟩
    · skip
      refine ct_of h_OA_perform rfl rfl rfl ?_
      refine ev_gW [true, true] [] rfl ?_
      refine ev_inV 1 k_OA_15 h_SD_t rfl rfl rfl rfl rfl ⟨by decide, by decide⟩ rfl ?_
      refine ev_gW [] [some (94 + 4 * q)] rfl ?_
      refine ev_reta rfl ?_
      refine ev_gW [true, true] [] rfl ?_
      refine ev_inV 1 k_OA_28 h_TH_isA rfl rfl rfl rfl rfl ⟨by decide, by decide⟩ rfl ?_
      refine ev_gW [] [some 0] rfl ?_
      refine ev_inV 0 k_TH_73 h_TH_isRow rfl rfl rfl rfl rfl ⟨by decide, by decide⟩ rfl ?_
      refine ev_gW [true] [] rfl ?_
      refine ev_retz rfl (by first | decide | exact zb_01 _) ?_
      refine ev_gW [false] [] rfl ?_
      refine ev_retz rfl (by first | decide | exact zb_01 _) ?_
      refine ev_gW [true] [some 0] rfl ?_
      refine ev_inV 1 k_OA_34 h_SD_n rfl rfl rfl rfl rfl ⟨by decide, by decide⟩ rfl ?_
      refine ev_gW [] [] rfl ?_
      refine ev_retl rfl ?_
      refine ev_g0 rfl ?_
      refine ev_inV 2 k_OA_38 h_OA_weigh rfl rfl rfl rfl rfl ⟨by decide, by decide⟩ rfl ?_
      refine ev_gW [] [some 1] rfl ?_
      refine ev_inV 2 k_OA_126 h_OA_leafWeigh rfl rfl rfl rfl rfl ⟨by decide, by decide⟩ rfl ?_
      refine ev_g0 rfl ?_
      refine ev_inV 1 k_OA_122 h_OA_begin rfl rfl rfl rfl rfl ⟨by decide, by decide⟩ rfl ?_
      refine ev_g0 rfl ?_
      refine ev_ret rfl ?_
      refine ev_g0 rfl ?_
      refine ev_inV 2 k_OA_119 h_OA_nodeWeigh rfl rfl rfl rfl rfl ⟨by decide, by decide⟩ rfl ?_
      refine ev_g0 rfl ?_
      refine ev_inV 1 k_OA_122 h_OA_begin rfl rfl rfl rfl rfl ⟨by decide, by decide⟩ rfl ?_
      refine ev_g0 rfl ?_
      refine ev_ret rfl ?_
      refine ev_g0 rfl ?_
      refine ev_retl rfl ?_
      refine ev_g0 rfl ?_
      refine ev_retl rfl ?_
      refine ev_g0 rfl ?_
      refine ev_retl rfl ?_
      refine ev_g0 rfl ?_
      refine ev_inV 2 k_OA_42 h_SD_setN rfl rfl rfl rfl rfl ⟨by decide, by decide⟩ rfl ?_
      refine ev_gW [] [] rfl ?_
      refine ev_ret rfl ?_
      refine ev_g0 rfl ?_
      refine ev_reti rfl ?_
      refine ct_of h_MM_meets rfl rfl rfl ?_
      refine ev_gW [true, true] [] rfl ?_
      refine ev_inV 1 k_MM_344 h_MM_hold rfl rfl rfl rfl rfl ⟨by decide, by decide⟩ rfl ?_
      refine ev_gW [] [] rfl ?_
      refine ev_reti rfl ?_
      refine ev_gW [false] [] rfl ?_
      refine ev_inV 2 k_MM_354 h_MM_takes rfl rfl rfl rfl rfl ⟨by decide, by decide⟩ rfl ?_
      refine ev_gW [false] [] rfl ?_
      refine ev_inV 2 k_MM_202 h_MM_isKind rfl rfl rfl rfl rfl ⟨by decide, by decide⟩ rfl ?_
      refine ev_gW [false, false, true, true, true, false] [some 0] rfl ?_
      refine ev_retz rfl (by first | decide | exact zb_01 _) ?_
      refine ev_gW [true] [] rfl ?_
      refine ev_retz rfl (by first | decide | exact zb_01 _) ?_
      refine ev_gW [false] [] rfl ?_
      refine ev_inV 1 k_MM_357 h_MM_is rfl rfl rfl rfl rfl ⟨by decide, by decide⟩ rfl ?_
      refine ev_gW [true, false] [] rfl ?_
      refine ev_retz rfl (by first | decide | exact zb_01 _) ?_
      refine ev_gW [true] [some 0] rfl ?_
      refine ev_inV 1 k_MM_277 h_MM_number rfl rfl rfl rfl rfl ⟨by decide, by decide⟩ rfl ?_
      refine ev_gW [] [] rfl ?_
      refine ev_retl rfl ?_
      refine ev_g0 rfl ?_
      refine ev_inV 2 k_MM_402 h_MM_weigh rfl rfl rfl rfl rfl ⟨by decide, by decide⟩ rfl ?_
      refine ev_gW [true, true, false] [] rfl ?_
      refine ev_inV 1 k_MM_389 h_MM_traced rfl rfl rfl rfl rfl ⟨by decide, by decide⟩ rfl ?_
      refine ev_g0 rfl ?_
      refine ev_ret rfl ?_
      refine ev_g0 rfl ?_
      refine ev_inV 1 k_MM_389 h_MM_traced rfl rfl rfl rfl rfl ⟨by decide, by decide⟩ rfl ?_
      refine ev_g0 rfl ?_
      refine ev_ret rfl ?_
      refine ev_gW [false, true] [] rfl ?_
      refine ev_retl rfl ?_
      refine ev_g0 rfl ?_
      refine ev_inV 2 k_MM_288 h_MM_lay rfl rfl rfl rfl rfl ⟨by decide, by decide⟩ rfl ?_
      refine ev_gW [] [] rfl ?_
      refine ev_ret rfl ?_
      refine ev_g0 rfl ?_
      refine ev_ret rfl ?_
      exact ⟨rfl, (u3 xj 0 t a ((nI 2).toInt64 * (xj 2 q 0 + xj 0 t c) + (xi 2 q 1).toInt64)), xd, xf, xo, (u3 (u3 xi 3 0 0 (nI 31 * (xi 3 0 0) + nI 2)) 3 0 0 (nI 31 * (nI 31 * (xi 3 0 0) + nI 2) + nI 1)), xn, nI 0, rfl, bdd, lf_W, lf_W, (CU_num (CU_trc (CU_trc hC  lf_W lf_W)  lf_W lf_W) ht ha lf_W lf_W), (MU_num (MU_trc (MU_trc hM  lf_W lf_W (fun i hi => (rc_isor hC hi).2.2.1))  lf_W lf_W (fun i hi => (rc_isor hC hi).2.2.1)) ht ha lf_W lf_W (fun i hi => (rc_isor hC hi).2.2.1))⟩
    · skip
      refine ct_of h_OA_perform rfl rfl rfl ?_
      refine ev_gW [true, true] [] rfl ?_
      refine ev_inV 1 k_OA_15 h_SD_t rfl rfl rfl rfl rfl ⟨by decide, by decide⟩ rfl ?_
      refine ev_gW [] [some (94 + 4 * q)] rfl ?_
      refine ev_reta rfl ?_
      refine ev_gW [true, true] [] rfl ?_
      refine ev_inV 1 k_OA_28 h_TH_isA rfl rfl rfl rfl rfl ⟨by decide, by decide⟩ rfl ?_
      refine ev_gW [] [some 0] rfl ?_
      refine ev_inV 0 k_TH_73 h_TH_isRow rfl rfl rfl rfl rfl ⟨by decide, by decide⟩ rfl ?_
      refine ev_gW [true] [] rfl ?_
      refine ev_retz rfl (by first | decide | exact zb_01 _) ?_
      refine ev_gW [false] [] rfl ?_
      refine ev_retz rfl (by first | decide | exact zb_01 _) ?_
      refine ev_gW [true] [some 0] rfl ?_
      refine ev_inV 1 k_OA_34 h_SD_n rfl rfl rfl rfl rfl ⟨by decide, by decide⟩ rfl ?_
      refine ev_gW [] [] rfl ?_
      refine ev_retl rfl ?_
      refine ev_g0 rfl ?_
      refine ev_inV 2 k_OA_38 h_OA_weigh rfl rfl rfl rfl rfl ⟨by decide, by decide⟩ rfl ?_
      refine ev_gW [] [some 2] rfl ?_
      refine ev_inV 2 k_OA_126 h_OA_leafWeigh rfl rfl rfl rfl rfl ⟨by decide, by decide⟩ rfl ?_
      refine ev_g0 rfl ?_
      refine ev_inV 1 k_OA_122 h_OA_begin rfl rfl rfl rfl rfl ⟨by decide, by decide⟩ rfl ?_
      refine ev_g0 rfl ?_
      refine ev_ret rfl ?_
      refine ev_g0 rfl ?_
      refine ev_inV 2 k_OA_119 h_OA_nodeWeigh rfl rfl rfl rfl rfl ⟨by decide, by decide⟩ rfl ?_
      refine ev_g0 rfl ?_
      refine ev_inV 1 k_OA_122 h_OA_begin rfl rfl rfl rfl rfl ⟨by decide, by decide⟩ rfl ?_
      refine ev_g0 rfl ?_
      refine ev_ret rfl ?_
      refine ev_g0 rfl ?_
      refine ev_retl rfl ?_
      refine ev_g0 rfl ?_
      refine ev_retl rfl ?_
      refine ev_g0 rfl ?_
      refine ev_retl rfl ?_
      refine ev_g0 rfl ?_
      refine ev_inV 2 k_OA_42 h_SD_setN rfl rfl rfl rfl rfl ⟨by decide, by decide⟩ rfl ?_
      refine ev_gW [] [] rfl ?_
      refine ev_ret rfl ?_
      refine ev_g0 rfl ?_
      refine ev_reti rfl ?_
      refine ct_of h_MM_meets rfl rfl rfl ?_
      refine ev_gW [true, true] [] rfl ?_
      refine ev_inV 1 k_MM_344 h_MM_hold rfl rfl rfl rfl rfl ⟨by decide, by decide⟩ rfl ?_
      refine ev_gW [] [] rfl ?_
      refine ev_reti rfl ?_
      refine ev_gW [false] [] rfl ?_
      refine ev_inV 2 k_MM_354 h_MM_takes rfl rfl rfl rfl rfl ⟨by decide, by decide⟩ rfl ?_
      refine ev_gW [false] [] rfl ?_
      refine ev_inV 2 k_MM_202 h_MM_isKind rfl rfl rfl rfl rfl ⟨by decide, by decide⟩ rfl ?_
      refine ev_gW [false, false, true, true, true, false] [some 0] rfl ?_
      refine ev_retz rfl (by first | decide | exact zb_01 _) ?_
      refine ev_gW [true] [] rfl ?_
      refine ev_retz rfl (by first | decide | exact zb_01 _) ?_
      refine ev_gW [false] [] rfl ?_
      refine ev_inV 1 k_MM_357 h_MM_is rfl rfl rfl rfl rfl ⟨by decide, by decide⟩ rfl ?_
      refine ev_gW [true, false] [] rfl ?_
      refine ev_retz rfl (by first | decide | exact zb_01 _) ?_
      refine ev_gW [true] [some 0] rfl ?_
      refine ev_inV 1 k_MM_277 h_MM_number rfl rfl rfl rfl rfl ⟨by decide, by decide⟩ rfl ?_
      refine ev_gW [] [] rfl ?_
      refine ev_retl rfl ?_
      refine ev_g0 rfl ?_
      refine ev_inV 2 k_MM_402 h_MM_weigh rfl rfl rfl rfl rfl ⟨by decide, by decide⟩ rfl ?_
      refine ev_gW [true, true, false] [] rfl ?_
      refine ev_inV 1 k_MM_389 h_MM_traced rfl rfl rfl rfl rfl ⟨by decide, by decide⟩ rfl ?_
      refine ev_g0 rfl ?_
      refine ev_ret rfl ?_
      refine ev_g0 rfl ?_
      refine ev_inV 1 k_MM_389 h_MM_traced rfl rfl rfl rfl rfl ⟨by decide, by decide⟩ rfl ?_
      refine ev_g0 rfl ?_
      refine ev_ret rfl ?_
      refine ev_gW [false, true] [] rfl ?_
      refine ev_retl rfl ?_
      refine ev_g0 rfl ?_
      refine ev_inV 2 k_MM_288 h_MM_lay rfl rfl rfl rfl rfl ⟨by decide, by decide⟩ rfl ?_
      refine ev_gW [] [] rfl ?_
      refine ev_ret rfl ?_
      refine ev_g0 rfl ?_
      refine ev_ret rfl ?_
      exact ⟨rfl, (u3 xj 0 t a ((nI 2).toInt64 * (xj 2 q 0 + xj 0 t c) + (xi 2 q 1).toInt64)), xd, xf, xo, (u3 (u3 xi 3 0 0 (nI 31 * (xi 3 0 0) + nI 2)) 3 0 0 (nI 31 * (nI 31 * (xi 3 0 0) + nI 2) + nI 1)), xn, nI 0, rfl, bdd, lf_W, lf_W, (CU_num (CU_trc (CU_trc hC  lf_W lf_W)  lf_W lf_W) ht ha lf_W lf_W), (MU_num (MU_trc (MU_trc hM  lf_W lf_W (fun i hi => (rc_isor hC hi).2.2.1))  lf_W lf_W (fun i hi => (rc_isor hC hi).2.2.1)) ht ha lf_W lf_W (fun i hi => (rc_isor hC hi).2.2.1))⟩
    · skip
      refine ct_of h_OA_perform rfl rfl rfl ?_
      refine ev_gW [true, true] [] rfl ?_
      refine ev_inV 1 k_OA_15 h_SD_t rfl rfl rfl rfl rfl ⟨by decide, by decide⟩ rfl ?_
      refine ev_gW [] [some (94 + 4 * q)] rfl ?_
      refine ev_reta rfl ?_
      refine ev_gW [true, true] [] rfl ?_
      refine ev_inV 1 k_OA_28 h_TH_isA rfl rfl rfl rfl rfl ⟨by decide, by decide⟩ rfl ?_
      refine ev_gW [] [some 0] rfl ?_
      refine ev_inV 0 k_TH_73 h_TH_isRow rfl rfl rfl rfl rfl ⟨by decide, by decide⟩ rfl ?_
      refine ev_gW [true] [] rfl ?_
      refine ev_retz rfl (by first | decide | exact zb_01 _) ?_
      refine ev_gW [false] [] rfl ?_
      refine ev_retz rfl (by first | decide | exact zb_01 _) ?_
      refine ev_gW [true] [some 0] rfl ?_
      refine ev_inV 1 k_OA_34 h_SD_n rfl rfl rfl rfl rfl ⟨by decide, by decide⟩ rfl ?_
      refine ev_gW [] [] rfl ?_
      refine ev_retl rfl ?_
      refine ev_g0 rfl ?_
      refine ev_inV 2 k_OA_38 h_OA_weigh rfl rfl rfl rfl rfl ⟨by decide, by decide⟩ rfl ?_
      refine ev_gW [] [some 3] rfl ?_
      refine ev_inV 1 k_OA_122 h_OA_begin rfl rfl rfl rfl rfl ⟨by decide, by decide⟩ rfl ?_
      refine ev_g0 rfl ?_
      refine ev_ret rfl ?_
      refine ev_g0 rfl ?_
      refine ev_inV 2 k_OA_126 h_OA_leafWeigh rfl rfl rfl rfl rfl ⟨by decide, by decide⟩ rfl ?_
      refine ev_g0 rfl ?_
      refine ev_inV 1 k_OA_122 h_OA_begin rfl rfl rfl rfl rfl ⟨by decide, by decide⟩ rfl ?_
      refine ev_g0 rfl ?_
      refine ev_ret rfl ?_
      refine ev_g0 rfl ?_
      refine ev_inV 2 k_OA_119 h_OA_nodeWeigh rfl rfl rfl rfl rfl ⟨by decide, by decide⟩ rfl ?_
      refine ev_g0 rfl ?_
      refine ev_inV 1 k_OA_122 h_OA_begin rfl rfl rfl rfl rfl ⟨by decide, by decide⟩ rfl ?_
      refine ev_g0 rfl ?_
      refine ev_ret rfl ?_
      refine ev_g0 rfl ?_
      refine ev_retl rfl ?_
      refine ev_g0 rfl ?_
      refine ev_retl rfl ?_
      refine ev_g0 rfl ?_
      refine ev_retl rfl ?_
      refine ev_g0 rfl ?_
      refine ev_inV 2 k_OA_42 h_SD_setN rfl rfl rfl rfl rfl ⟨by decide, by decide⟩ rfl ?_
      refine ev_gW [] [] rfl ?_
      refine ev_ret rfl ?_
      refine ev_g0 rfl ?_
      refine ev_reti rfl ?_
      refine ct_of h_MM_meets rfl rfl rfl ?_
      refine ev_gW [true, true] [] rfl ?_
      refine ev_inV 1 k_MM_344 h_MM_hold rfl rfl rfl rfl rfl ⟨by decide, by decide⟩ rfl ?_
      refine ev_gW [] [] rfl ?_
      refine ev_reti rfl ?_
      refine ev_gW [false] [] rfl ?_
      refine ev_inV 2 k_MM_354 h_MM_takes rfl rfl rfl rfl rfl ⟨by decide, by decide⟩ rfl ?_
      refine ev_gW [false] [] rfl ?_
      refine ev_inV 2 k_MM_202 h_MM_isKind rfl rfl rfl rfl rfl ⟨by decide, by decide⟩ rfl ?_
      refine ev_gW [false, false, true, true, true, false] [some 0] rfl ?_
      refine ev_retz rfl (by first | decide | exact zb_01 _) ?_
      refine ev_gW [true] [] rfl ?_
      refine ev_retz rfl (by first | decide | exact zb_01 _) ?_
      refine ev_gW [false] [] rfl ?_
      refine ev_inV 1 k_MM_357 h_MM_is rfl rfl rfl rfl rfl ⟨by decide, by decide⟩ rfl ?_
      refine ev_gW [true, false] [] rfl ?_
      refine ev_retz rfl (by first | decide | exact zb_01 _) ?_
      refine ev_gW [true] [some 0] rfl ?_
      refine ev_inV 1 k_MM_277 h_MM_number rfl rfl rfl rfl rfl ⟨by decide, by decide⟩ rfl ?_
      refine ev_gW [] [] rfl ?_
      refine ev_retl rfl ?_
      refine ev_g0 rfl ?_
      refine ev_inV 2 k_MM_402 h_MM_weigh rfl rfl rfl rfl rfl ⟨by decide, by decide⟩ rfl ?_
      refine ev_gW [true, false] [] rfl ?_
      refine ev_inV 1 k_MM_389 h_MM_traced rfl rfl rfl rfl rfl ⟨by decide, by decide⟩ rfl ?_
      refine ev_g0 rfl ?_
      refine ev_ret rfl ?_
      refine ev_gW [false] [] rfl ?_
      refine ev_inV 1 k_MM_389 h_MM_traced rfl rfl rfl rfl rfl ⟨by decide, by decide⟩ rfl ?_
      refine ev_g0 rfl ?_
      refine ev_ret rfl ?_
      refine ev_g0 rfl ?_
      refine ev_inV 1 k_MM_389 h_MM_traced rfl rfl rfl rfl rfl ⟨by decide, by decide⟩ rfl ?_
      refine ev_g0 rfl ?_
      refine ev_ret rfl ?_
      refine ev_gW [false, false] [] rfl ?_
      refine ev_retl rfl ?_
      refine ev_g0 rfl ?_
      refine ev_inV 2 k_MM_288 h_MM_lay rfl rfl rfl rfl rfl ⟨by decide, by decide⟩ rfl ?_
      refine ev_gW [] [] rfl ?_
      refine ev_ret rfl ?_
      refine ev_g0 rfl ?_
      refine ev_ret rfl ?_
      exact ⟨rfl, (u3 xj 0 t a (((nI 2).toInt64 * (xj 2 q 0 + xj 0 t c) + (xi 2 q 1).toInt64) - (xi 2 q 2).toInt64)), xd, xf, xo, (u3 (u3 (u3 xi 3 0 0 (nI 31 * (xi 3 0 0) + nI 3)) 3 0 0 (nI 31 * (nI 31 * (xi 3 0 0) + nI 3) + nI 2)) 3 0 0 (nI 31 * (nI 31 * (nI 31 * (xi 3 0 0) + nI 3) + nI 2) + nI 1)), xn, nI 0, rfl, bdd, lf_W, lf_W, (CU_num (CU_trc (CU_trc (CU_trc hC  lf_W lf_W)  lf_W lf_W)  lf_W lf_W) ht ha lf_W lf_W), (MU_num (MU_trc (MU_trc (MU_trc hM  lf_W lf_W (fun i hi => (rc_isor hC hi).2.2.1))  lf_W lf_W (fun i hi => (rc_isor hC hi).2.2.1))  lf_W lf_W (fun i hi => (rc_isor hC hi).2.2.1)) ht ha lf_W lf_W (fun i hi => (rc_isor hC hi).2.2.1))⟩
    · skip
      refine ct_of h_OA_perform rfl rfl rfl ?_
      refine ev_gW [true, true] [] rfl ?_
      refine ev_inV 1 k_OA_15 h_SD_t rfl rfl rfl rfl rfl ⟨by decide, by decide⟩ rfl ?_
      refine ev_gW [] [some (94 + 4 * q)] rfl ?_
      refine ev_reta rfl ?_
      refine ev_gW [true, true] [] rfl ?_
      refine ev_inV 1 k_OA_28 h_TH_isA rfl rfl rfl rfl rfl ⟨by decide, by decide⟩ rfl ?_
      refine ev_gW [] [some 0] rfl ?_
      refine ev_inV 0 k_TH_73 h_TH_isRow rfl rfl rfl rfl rfl ⟨by decide, by decide⟩ rfl ?_
      refine ev_gW [true] [] rfl ?_
      refine ev_retz rfl (by first | decide | exact zb_01 _) ?_
      refine ev_gW [false] [] rfl ?_
      refine ev_retz rfl (by first | decide | exact zb_01 _) ?_
      refine ev_gW [true] [some 0] rfl ?_
      refine ev_inV 1 k_OA_34 h_SD_n rfl rfl rfl rfl rfl ⟨by decide, by decide⟩ rfl ?_
      refine ev_gW [] [] rfl ?_
      refine ev_retl rfl ?_
      refine ev_g0 rfl ?_
      refine ev_inV 2 k_OA_38 h_OA_weigh rfl rfl rfl rfl rfl ⟨by decide, by decide⟩ rfl ?_
      refine ev_gW [] [some 4] rfl ?_
      refine ev_inV 1 k_OA_122 h_OA_begin rfl rfl rfl rfl rfl ⟨by decide, by decide⟩ rfl ?_
      refine ev_g0 rfl ?_
      refine ev_ret rfl ?_
      refine ev_g0 rfl ?_
      refine ev_inV 2 k_OA_119 h_OA_nodeWeigh rfl rfl rfl rfl rfl ⟨by decide, by decide⟩ rfl ?_
      refine ev_g0 rfl ?_
      refine ev_inV 1 k_OA_122 h_OA_begin rfl rfl rfl rfl rfl ⟨by decide, by decide⟩ rfl ?_
      refine ev_g0 rfl ?_
      refine ev_ret rfl ?_
      refine ev_g0 rfl ?_
      refine ev_retl rfl ?_
      refine ev_g0 rfl ?_
      refine ev_retl rfl ?_
      refine ev_g0 rfl ?_
      refine ev_inV 2 k_OA_42 h_SD_setN rfl rfl rfl rfl rfl ⟨by decide, by decide⟩ rfl ?_
      refine ev_gW [] [] rfl ?_
      refine ev_ret rfl ?_
      refine ev_g0 rfl ?_
      refine ev_reti rfl ?_
      refine ct_of h_MM_meets rfl rfl rfl ?_
      refine ev_gW [true, true] [] rfl ?_
      refine ev_inV 1 k_MM_344 h_MM_hold rfl rfl rfl rfl rfl ⟨by decide, by decide⟩ rfl ?_
      refine ev_gW [] [] rfl ?_
      refine ev_reti rfl ?_
      refine ev_gW [false] [] rfl ?_
      refine ev_inV 2 k_MM_354 h_MM_takes rfl rfl rfl rfl rfl ⟨by decide, by decide⟩ rfl ?_
      refine ev_gW [false] [] rfl ?_
      refine ev_inV 2 k_MM_202 h_MM_isKind rfl rfl rfl rfl rfl ⟨by decide, by decide⟩ rfl ?_
      refine ev_gW [false, false, true, true, true, false] [some 0] rfl ?_
      refine ev_retz rfl (by first | decide | exact zb_01 _) ?_
      refine ev_gW [true] [] rfl ?_
      refine ev_retz rfl (by first | decide | exact zb_01 _) ?_
      refine ev_gW [false] [] rfl ?_
      refine ev_inV 1 k_MM_357 h_MM_is rfl rfl rfl rfl rfl ⟨by decide, by decide⟩ rfl ?_
      refine ev_gW [true, false] [] rfl ?_
      refine ev_retz rfl (by first | decide | exact zb_01 _) ?_
      refine ev_gW [true] [some 0] rfl ?_
      refine ev_inV 1 k_MM_277 h_MM_number rfl rfl rfl rfl rfl ⟨by decide, by decide⟩ rfl ?_
      refine ev_gW [] [] rfl ?_
      refine ev_retl rfl ?_
      refine ev_g0 rfl ?_
      refine ev_inV 2 k_MM_402 h_MM_weigh rfl rfl rfl rfl rfl ⟨by decide, by decide⟩ rfl ?_
      refine ev_gW [false] [] rfl ?_
      refine ev_inV 1 k_MM_389 h_MM_traced rfl rfl rfl rfl rfl ⟨by decide, by decide⟩ rfl ?_
      refine ev_g0 rfl ?_
      refine ev_ret rfl ?_
      refine ev_g0 rfl ?_
      refine ev_inV 1 k_MM_389 h_MM_traced rfl rfl rfl rfl rfl ⟨by decide, by decide⟩ rfl ?_
      refine ev_g0 rfl ?_
      refine ev_ret rfl ?_
      refine ev_gW [] [] rfl ?_
      refine ev_retl rfl ?_
      refine ev_g0 rfl ?_
      refine ev_inV 2 k_MM_288 h_MM_lay rfl rfl rfl rfl rfl ⟨by decide, by decide⟩ rfl ?_
      refine ev_gW [] [] rfl ?_
      refine ev_ret rfl ?_
      refine ev_g0 rfl ?_
      refine ev_ret rfl ?_
      exact ⟨rfl, (u3 xj 0 t a ((nI 0).toInt64 - (xj 2 q 0 + xj 0 t c))), xd, xf, xo, (u3 (u3 xi 3 0 0 (nI 31 * (xi 3 0 0) + nI 4)) 3 0 0 (nI 31 * (nI 31 * (xi 3 0 0) + nI 4) + nI 1)), xn, nI 0, rfl, bdd, lf_W, lf_W, (CU_num (CU_trc (CU_trc hC  lf_W lf_W)  lf_W lf_W) ht ha lf_W lf_W), (MU_num (MU_trc (MU_trc hM  lf_W lf_W (fun i hi => (rc_isor hC hi).2.2.1))  lf_W lf_W (fun i hi => (rc_isor hC hi).2.2.1)) ht ha lf_W lf_W (fun i hi => (rc_isor hC hi).2.2.1))⟩
theorem A55 {ci : Nat → Nat → Nat → Int32} {cn : Nat → Nat → Nat → Nat} {co : Nat → Option Nat} {xj : Nat → Nat → Nat → Int64} {xd : Nat → Nat → Nat → UInt64} {xf : Nat → Nat → Nat → UInt32} {xo : Nat → Nat → Nat → Option Nat} {xi : Nat → Nat → Nat → Int32} {xn : Nat → Nat → Nat → Nat} {K : Nat → Nat} {I : Nat → Nat → Int32} {J : Nat → Nat → Int64} {F : Nat → Nat → UInt32} {D : Nat → Nat → UInt64} {R : Nat → Nat → Option Nat} {nx sl : Nat} {Km : Nat → Nat} {Im : Nat → Nat → Int32} {Jm : Nat → Nat → Int64} {Fm : Nat → Nat → UInt32} {Dm : Nat → Nat → UInt64} {Rm : Nat → Nat → Option Nat} {nxm slm : Nat} (hC : RC ci cn co xj xd xf xo xi xn I J F D R nx sl) (hM : RM ci cn co xj xd xf xo xi xn Im Jm Dm) {t a b : Nat} {c go : Int32} (ht : t < 3) (ha : a < 8) (hb : b < 8) (x1 : Im 6 39 = nI t) (x2 : Im 6 40 = nI a) (x3 : Im 6 41 = nI b) (x4 : Im 6 42 = c) (x5 : Im 6 43 = nI 0) (x6 : Im 6 44 = go) : Ct Y_OA_perform [vr 4 13, vr 8 (32 + 7 * t), vi (nI 55), vi (nI a), vi (nI b), vi (c)] (K, I, J, F, D, R, nx, sl) (fun r μ1 => Ct Y_MM_meets [vr 11 6, vi (nI 55)] (Km, Im, Jm, Fm, Dm, Rm, nxm, slm) (fun r2 μ2 => r2 = none ∧ QA ci cn co go r μ1 μ2)) := by
  rcases ho : xo 0 t b with _ | q
  · skip
    refine ct_of h_OA_perform rfl rfl rfl ?_
    refine ev_gW [true, true] [] rfl ?_
    refine ev_inV 1 k_OA_15 h_SD_t rfl rfl rfl rfl rfl ⟨by decide, by decide⟩ rfl ?_
    refine ev_gW [] [none] rfl ?_
    refine ev_retn rfl ?_
    refine ev_g0 rfl ?_
    refine ev_reti rfl ?_
    refine ct_of h_MM_meets rfl rfl rfl ?_
    refine ev_gW [true, true] [] rfl ?_
    refine ev_inV 1 k_MM_344 h_MM_hold rfl rfl rfl rfl rfl ⟨by decide, by decide⟩ rfl ?_
    refine ev_gW [] [] rfl ?_
    refine ev_reti rfl ?_
    refine ev_gW [false] [] rfl ?_
    refine ev_inV 2 k_MM_354 h_MM_takes rfl rfl rfl rfl rfl ⟨by decide, by decide⟩ rfl ?_
    refine ev_gW [true] [] rfl ?_
    refine ev_retz rfl (by first | decide | exact zb_01 _) ?_
    refine ev_gW [false] [] rfl ?_
    refine ev_inV 1 k_MM_357 h_MM_is rfl rfl rfl rfl rfl ⟨by decide, by decide⟩ rfl ?_
    refine ev_gW [false, true] [] rfl ?_
    refine ev_retz rfl (by first | decide | exact zb_01 _) ?_
    refine ev_gW [false] [] rfl ?_
    refine ev_ret rfl ?_
    exact ⟨rfl, xj, xd, xf, xo, xi, xn, nI 1, rfl, bdd, lf_W, lf_W, hC, hM⟩
  · skip
    have hq := rc_ihol hC ht hb _ ho
    have zq := rc_isor hC hq
    have yq := rc_imad hC
    rcases (show xn 0 q 0 < 16 ∨ xn 0 q 0 = 16 ∨ xn 0 q 0 = 17 ∨ xn 0 q 0 = 18 ∨ xn 0 q 0 = 19 ∨ xn 0 q 0 = 20 by omega) with hk | hk | hk | hk | hk | hk
    · skip
      refine ct_of h_OA_perform rfl rfl rfl ?_
      refine ev_gW [true, true] [] rfl ?_
      refine ev_inV 1 k_OA_15 h_SD_t rfl rfl rfl rfl rfl ⟨by decide, by decide⟩ rfl ?_
      refine ev_gW [] [some (94 + 4 * q)] rfl ?_
      refine ev_reta rfl ?_
      refine ev_gW [true, true] [] rfl ?_
      refine ev_inV 1 k_OA_28 h_TH_isA rfl rfl rfl rfl rfl ⟨by decide, by decide⟩ rfl ?_
      refine ev_gW [] [some 0] rfl ?_
      refine ev_inV 0 k_TH_73 h_TH_isRow rfl rfl rfl rfl rfl ⟨by decide, by decide⟩ rfl ?_
      refine ev_gW [false] [] rfl ?_
      refine ev_retz rfl (by first | decide | exact zb_01 _) ?_
      refine ev_gW [true] [] rfl ?_
      refine ev_retz rfl (by first | decide | exact zb_01 _) ?_
      refine ev_gW [false] [] rfl ?_
      refine ev_reti rfl ?_
      refine ct_of h_MM_meets rfl rfl rfl ?_
      refine ev_gW [true, true] [] rfl ?_
      refine ev_inV 1 k_MM_344 h_MM_hold rfl rfl rfl rfl rfl ⟨by decide, by decide⟩ rfl ?_
      refine ev_gW [] [] rfl ?_
      refine ev_reti rfl ?_
      refine ev_gW [false] [] rfl ?_
      refine ev_inV 2 k_MM_354 h_MM_takes rfl rfl rfl rfl rfl ⟨by decide, by decide⟩ rfl ?_
      refine ev_gW [false] [] rfl ?_
      refine ev_inV 2 k_MM_202 h_MM_isKind rfl rfl rfl rfl rfl ⟨by decide, by decide⟩ rfl ?_
      refine ev_gW [false, false, true, true, true, true] [some 0] rfl ?_
      refine ev_retz rfl (by first | decide | exact zb_01 _) ?_
      refine ev_gW [false] [] rfl ?_
      refine ev_retz rfl (by first | decide | exact zb_01 _) ?_
      refine ev_gW [true] [] rfl ?_
      refine ev_ret rfl ?_
      exact ⟨rfl, xj, xd, xf, xo, xi, xn, nI 3, rfl, bdd, lf_W, lf_W, hC, hM⟩
    · skip
      refine ct_of h_OA_perform rfl rfl rfl ?_
      refine ev_gW [true, true] [] rfl ?_
      refine ev_inV 1 k_OA_15 h_SD_t rfl rfl rfl rfl rfl ⟨by decide, by decide⟩ rfl ?_
      refine ev_gW [] [some (94 + 4 * q)] rfl ?_
      refine ev_reta rfl ?_
      refine ev_gW [true, true] [] rfl ?_
      refine ev_inV 1 k_OA_28 h_TH_isA rfl rfl rfl rfl rfl ⟨by decide, by decide⟩ rfl ?_
      refine ev_gW [] [some 0] rfl ?_
      refine ev_inV 0 k_TH_73 h_TH_isRow rfl rfl rfl rfl rfl ⟨by decide, by decide⟩ rfl ?_
      refine ev_gW [true] [] rfl ?_
      refine ev_retz rfl (by first | decide | exact zb_01 _) ?_
      refine ev_gW [false] [] rfl ?_
      refine ev_retz rfl (by first | decide | exact zb_01 _) ?_
      refine ev_gW [true] [some 2] rfl ?_
      refine ev_inV 1 k_OA_50 h_OA_tally rfl rfl rfl rfl rfl ⟨by decide, by decide⟩ rfl ?_
      refine ev_gW [] [some 0] rfl ?_
      refine ev_inV 1 k_OA_155 h_OA_nodeTally rfl rfl rfl rfl rfl ⟨by decide, by decide⟩ rfl ?_
      refine ev_g0 rfl ?_
      refine ev_inV 1 k_OA_122 h_OA_begin rfl rfl rfl rfl rfl ⟨by decide, by decide⟩ rfl ?_
      refine ev_g0 rfl ?_
      refine ev_ret rfl ?_
      refine ev_g0 rfl ?_
      refine ev_reti rfl ?_
      refine ev_g0 rfl ?_
      refine ev_reti rfl ?_
      refine ev_g0 rfl ?_
      refine ev_inV 2 k_OA_42 h_SD_setN rfl rfl rfl rfl rfl ⟨by decide, by decide⟩ rfl ?_
      refine ev_gW [] [] rfl ?_
      refine ev_ret rfl ?_
      refine ev_g0 rfl ?_
      refine ev_reti rfl ?_
      refine ct_of h_MM_meets rfl rfl rfl ?_
      refine ev_gW [true, true] [] rfl ?_
      refine ev_inV 1 k_MM_344 h_MM_hold rfl rfl rfl rfl rfl ⟨by decide, by decide⟩ rfl ?_
      refine ev_gW [] [] rfl ?_
      refine ev_reti rfl ?_
      refine ev_gW [false] [] rfl ?_
      refine ev_inV 2 k_MM_354 h_MM_takes rfl rfl rfl rfl rfl ⟨by decide, by decide⟩ rfl ?_
      refine ev_gW [false] [] rfl ?_
      refine ev_inV 2 k_MM_202 h_MM_isKind rfl rfl rfl rfl rfl ⟨by decide, by decide⟩ rfl ?_
      refine ev_gW [false, false, true, true, true, false] [some 0] rfl ?_
      refine ev_retz rfl (by first | decide | exact zb_01 _) ?_
      refine ev_gW [true] [] rfl ?_
      refine ev_retz rfl (by first | decide | exact zb_01 _) ?_
      refine ev_gW [false] [] rfl ?_
      refine ev_inV 1 k_MM_357 h_MM_is rfl rfl rfl rfl rfl ⟨by decide, by decide⟩ rfl ?_
      refine ev_gW [true, false] [] rfl ?_
      refine ev_retz rfl (by first | decide | exact zb_01 _) ?_
      refine ev_gW [true] [some 2] rfl ?_
      refine ev_inV 1 k_MM_408 h_MM_counts rfl rfl rfl rfl rfl ⟨by decide, by decide⟩ rfl ?_
      refine ev_gW [] [] rfl ?_
      refine ev_inS 3 k_MM_188 h_MM_in rfl rfl rfl rfl ⟨by decide, by decide⟩ rfl ?_
      refine ev_gW [true] [] rfl ?_
      refine ev_retz rfl (by first | decide | exact zb_01 _) ?_
      refine ev_gW [true, true] [] rfl ?_
      refine ev_inV 1 k_MM_389 h_MM_traced rfl rfl rfl rfl rfl ⟨by decide, by decide⟩ rfl ?_
      refine ev_g0 rfl ?_
      refine ev_ret rfl ?_
      refine ev_gW [true] [] rfl ?_
      refine ev_reti rfl ?_
      refine ev_g0 rfl ?_
      refine ev_inV 2 k_MM_288 h_MM_lay rfl rfl rfl rfl rfl ⟨by decide, by decide⟩ rfl ?_
      refine ev_gW [] [] rfl ?_
      refine ev_ret rfl ?_
      refine ev_g0 rfl ?_
      refine ev_ret rfl ?_
      exact ⟨rfl, (u3 xj 0 t a ((xi 1 q 0 + nI 1).toInt64)), xd, xf, xo, (u3 (u3 xi 3 0 0 (nI 31 * (xi 3 0 0) + nI 9)) 1 q 0 (xi 1 q 0 + nI 1)), xn, nI 0, rfl, bdd, lf_W, lf_W, (CU_num (CU_tal (CU_trc hC  lf_W lf_W) hq lf_W lf_W) ht ha lf_W lf_W), (MU_num (MU_tal (MU_trc hM  lf_W lf_W (fun i hi => (rc_isor hC hi).2.2.1)) hq lf_W lf_W (fun i hi => (rc_isor hC hi).2.2.1)) ht ha lf_W lf_W (fun i hi => (rc_isor hC hi).2.2.1))⟩
    · skip
      refine ct_of h_OA_perform rfl rfl rfl ?_
      refine ev_gW [true, true] [] rfl ?_
      refine ev_inV 1 k_OA_15 h_SD_t rfl rfl rfl rfl rfl ⟨by decide, by decide⟩ rfl ?_
      refine ev_gW [] [some (94 + 4 * q)] rfl ?_
      refine ev_reta rfl ?_
      refine ev_gW [true, true] [] rfl ?_
      refine ev_inV 1 k_OA_28 h_TH_isA rfl rfl rfl rfl rfl ⟨by decide, by decide⟩ rfl ?_
      refine ev_gW [] [some 0] rfl ?_
      refine ev_inV 0 k_TH_73 h_TH_isRow rfl rfl rfl rfl rfl ⟨by decide, by decide⟩ rfl ?_
      refine ev_gW [true] [] rfl ?_
      refine ev_retz rfl (by first | decide | exact zb_01 _) ?_
      refine ev_gW [false] [] rfl ?_
      refine ev_retz rfl (by first | decide | exact zb_01 _) ?_
      refine ev_gW [true] [some 2] rfl ?_
      refine ev_inV 1 k_OA_50 h_OA_tally rfl rfl rfl rfl rfl ⟨by decide, by decide⟩ rfl ?_
      refine ev_gW [] [some 1] rfl ?_
      refine ev_inV 1 k_OA_158 h_OA_leafTally rfl rfl rfl rfl rfl ⟨by decide, by decide⟩ rfl ?_
      refine ev_g0 rfl ?_
      refine ev_inV 1 k_OA_122 h_OA_begin rfl rfl rfl rfl rfl ⟨by decide, by decide⟩ rfl ?_
      refine ev_g0 rfl ?_
      refine ev_ret rfl ?_
      refine ev_g0 rfl ?_
      refine ev_inV 1 k_OA_155 h_OA_nodeTally rfl rfl rfl rfl rfl ⟨by decide, by decide⟩ rfl ?_
      refine ev_g0 rfl ?_
      refine ev_inV 1 k_OA_122 h_OA_begin rfl rfl rfl rfl rfl ⟨by decide, by decide⟩ rfl ?_
      refine ev_g0 rfl ?_
      refine ev_ret rfl ?_
      refine ev_g0 rfl ?_
      refine ev_reti rfl ?_
      refine ev_g0 rfl ?_
      refine ev_inV 1 k_OA_155 h_OA_nodeTally rfl rfl rfl rfl rfl ⟨by decide, by decide⟩ rfl ?_
      refine ev_g0 rfl ?_
      refine ev_inV 1 k_OA_122 h_OA_begin rfl rfl rfl rfl rfl ⟨by decide, by decide⟩ rfl ?_
      refine ev_g0 rfl ?_
      refine ev_ret rfl ?_
      refine ev_g0 rfl ?_
      refine ev_reti rfl ?_
      refine ev_g0 rfl ?_
      refine ev_reti rfl ?_
      refine ev_g0 rfl ?_
      refine ev_reti rfl ?_
      refine ev_g0 rfl ?_
      refine ev_inV 2 k_OA_42 h_SD_setN rfl rfl rfl rfl rfl ⟨by decide, by decide⟩ rfl ?_
      refine ev_gW [] [] rfl ?_
      refine ev_ret rfl ?_
      refine ev_g0 rfl ?_
      refine ev_reti rfl ?_
      refine ct_of h_MM_meets rfl rfl rfl ?_
      refine ev_gW [true, true] [] rfl ?_
      refine ev_inV 1 k_MM_344 h_MM_hold rfl rfl rfl rfl rfl ⟨by decide, by decide⟩ rfl ?_
      refine ev_gW [] [] rfl ?_
      refine ev_reti rfl ?_
      refine ev_gW [false] [] rfl ?_
      refine ev_inV 2 k_MM_354 h_MM_takes rfl rfl rfl rfl rfl ⟨by decide, by decide⟩ rfl ?_
      refine ev_gW [false] [] rfl ?_
      refine ev_inV 2 k_MM_202 h_MM_isKind rfl rfl rfl rfl rfl ⟨by decide, by decide⟩ rfl ?_
      refine ev_gW [false, false, true, true, true, false] [some 0] rfl ?_
      refine ev_retz rfl (by first | decide | exact zb_01 _) ?_
      refine ev_gW [true] [] rfl ?_
      refine ev_retz rfl (by first | decide | exact zb_01 _) ?_
      refine ev_gW [false] [] rfl ?_
      refine ev_inV 1 k_MM_357 h_MM_is rfl rfl rfl rfl rfl ⟨by decide, by decide⟩ rfl ?_
      refine ev_gW [true, false] [] rfl ?_
      refine ev_retz rfl (by first | decide | exact zb_01 _) ?_
      refine ev_gW [true] [some 2] rfl ?_
      refine ev_inV 1 k_MM_408 h_MM_counts rfl rfl rfl rfl rfl ⟨by decide, by decide⟩ rfl ?_
      refine ev_gW [] [] rfl ?_
      refine ev_inS 3 k_MM_188 h_MM_in rfl rfl rfl rfl ⟨by decide, by decide⟩ rfl ?_
      refine ev_gW [false, false] [] rfl ?_
      refine ev_retz rfl (by first | decide | exact zb_01 _) ?_
      refine ev_gW [true, false] [] rfl ?_
      refine ev_inV 1 k_MM_389 h_MM_traced rfl rfl rfl rfl rfl ⟨by decide, by decide⟩ rfl ?_
      refine ev_g0 rfl ?_
      refine ev_ret rfl ?_
      refine ev_g0 rfl ?_
      refine ev_inV 1 k_MM_389 h_MM_traced rfl rfl rfl rfl rfl ⟨by decide, by decide⟩ rfl ?_
      refine ev_g0 rfl ?_
      refine ev_ret rfl ?_
      refine ev_gW [] [] rfl ?_
      refine ev_inV 1 k_MM_389 h_MM_traced rfl rfl rfl rfl rfl ⟨by decide, by decide⟩ rfl ?_
      refine ev_g0 rfl ?_
      refine ev_ret rfl ?_
      refine ev_gW [true] [] rfl ?_
      refine ev_reti rfl ?_
      refine ev_g0 rfl ?_
      refine ev_inV 2 k_MM_288 h_MM_lay rfl rfl rfl rfl rfl ⟨by decide, by decide⟩ rfl ?_
      refine ev_gW [] [] rfl ?_
      refine ev_ret rfl ?_
      refine ev_g0 rfl ?_
      refine ev_ret rfl ?_
      exact ⟨rfl, (u3 xj 0 t a ((xi 1 q 0 + nI 1 + nI 1).toInt64)), xd, xf, xo, (u3 (u3 (u3 (u3 (u3 xi 3 0 0 (nI 31 * (xi 3 0 0) + nI 10)) 3 0 0 (nI 31 * (nI 31 * (xi 3 0 0) + nI 10) + nI 9)) 1 q 0 (xi 1 q 0 + nI 1)) 3 0 0 (nI 31 * (nI 31 * (nI 31 * (xi 3 0 0) + nI 10) + nI 9) + nI 9)) 1 q 0 (xi 1 q 0 + nI 1 + nI 1)), xn, nI 0, rfl, bdd, lf_W, lf_W, (CU_num (CU_tal (CU_trc (CU_tal (CU_trc (CU_trc hC  lf_W lf_W)  lf_W lf_W) hq lf_W lf_W)  lf_W lf_W) hq lf_W lf_W) ht ha lf_W lf_W), (MU_num (MU_tal (MU_trc (MU_tal (MU_trc (MU_trc hM  lf_W lf_W (fun i hi => (rc_isor hC hi).2.2.1))  lf_W lf_W (fun i hi => (rc_isor hC hi).2.2.1)) hq lf_W lf_W (fun i hi => (rc_isor hC hi).2.2.1))  lf_W lf_W (fun i hi => (rc_isor hC hi).2.2.1)) hq lf_W lf_W (fun i hi => (rc_isor hC hi).2.2.1)) ht ha lf_W lf_W (fun i hi => (rc_isor hC hi).2.2.1))⟩
    · skip
      refine ct_of h_OA_perform rfl rfl rfl ?_
      refine ev_gW [true, true] [] rfl ?_
      refine ev_inV 1 k_OA_15 h_SD_t rfl rfl rfl rfl rfl ⟨by decide, by decide⟩ rfl ?_
      refine ev_gW [] [some (94 + 4 * q)] rfl ?_
      refine ev_reta rfl ?_
      refine ev_gW [true, true] [] rfl ?_
      refine ev_inV 1 k_OA_28 h_TH_isA rfl rfl rfl rfl rfl ⟨by decide, by decide⟩ rfl ?_
      refine ev_gW [] [some 0] rfl ?_
      refine ev_inV 0 k_TH_73 h_TH_isRow rfl rfl rfl rfl rfl ⟨by decide, by decide⟩ rfl ?_
      refine ev_gW [true] [] rfl ?_
      refine ev_retz rfl (by first | decide | exact zb_01 _) ?_
      refine ev_gW [false] [] rfl ?_
      refine ev_retz rfl (by first | decide | exact zb_01 _) ?_
      refine ev_gW [true] [some 2] rfl ?_
      refine ev_inV 1 k_OA_50 h_OA_tally rfl rfl rfl rfl rfl ⟨by decide, by decide⟩ rfl ?_
      refine ev_gW [] [some 2] rfl ?_
      refine ev_inV 1 k_OA_158 h_OA_leafTally rfl rfl rfl rfl rfl ⟨by decide, by decide⟩ rfl ?_
      refine ev_g0 rfl ?_
      refine ev_inV 1 k_OA_122 h_OA_begin rfl rfl rfl rfl rfl ⟨by decide, by decide⟩ rfl ?_
      refine ev_g0 rfl ?_
      refine ev_ret rfl ?_
      refine ev_g0 rfl ?_
      refine ev_inV 1 k_OA_155 h_OA_nodeTally rfl rfl rfl rfl rfl ⟨by decide, by decide⟩ rfl ?_
      refine ev_g0 rfl ?_
      refine ev_inV 1 k_OA_122 h_OA_begin rfl rfl rfl rfl rfl ⟨by decide, by decide⟩ rfl ?_
      refine ev_g0 rfl ?_
      refine ev_ret rfl ?_
      refine ev_g0 rfl ?_
      refine ev_reti rfl ?_
      refine ev_g0 rfl ?_
      refine ev_inV 1 k_OA_155 h_OA_nodeTally rfl rfl rfl rfl rfl ⟨by decide, by decide⟩ rfl ?_
      refine ev_g0 rfl ?_
      refine ev_inV 1 k_OA_122 h_OA_begin rfl rfl rfl rfl rfl ⟨by decide, by decide⟩ rfl ?_
      refine ev_g0 rfl ?_
      refine ev_ret rfl ?_
      refine ev_g0 rfl ?_
      refine ev_reti rfl ?_
      refine ev_g0 rfl ?_
      refine ev_reti rfl ?_
      refine ev_g0 rfl ?_
      refine ev_reti rfl ?_
      refine ev_g0 rfl ?_
      refine ev_inV 2 k_OA_42 h_SD_setN rfl rfl rfl rfl rfl ⟨by decide, by decide⟩ rfl ?_
      refine ev_gW [] [] rfl ?_
      refine ev_ret rfl ?_
      refine ev_g0 rfl ?_
      refine ev_reti rfl ?_
      refine ct_of h_MM_meets rfl rfl rfl ?_
      refine ev_gW [true, true] [] rfl ?_
      refine ev_inV 1 k_MM_344 h_MM_hold rfl rfl rfl rfl rfl ⟨by decide, by decide⟩ rfl ?_
      refine ev_gW [] [] rfl ?_
      refine ev_reti rfl ?_
      refine ev_gW [false] [] rfl ?_
      refine ev_inV 2 k_MM_354 h_MM_takes rfl rfl rfl rfl rfl ⟨by decide, by decide⟩ rfl ?_
      refine ev_gW [false] [] rfl ?_
      refine ev_inV 2 k_MM_202 h_MM_isKind rfl rfl rfl rfl rfl ⟨by decide, by decide⟩ rfl ?_
      refine ev_gW [false, false, true, true, true, false] [some 0] rfl ?_
      refine ev_retz rfl (by first | decide | exact zb_01 _) ?_
      refine ev_gW [true] [] rfl ?_
      refine ev_retz rfl (by first | decide | exact zb_01 _) ?_
      refine ev_gW [false] [] rfl ?_
      refine ev_inV 1 k_MM_357 h_MM_is rfl rfl rfl rfl rfl ⟨by decide, by decide⟩ rfl ?_
      refine ev_gW [true, false] [] rfl ?_
      refine ev_retz rfl (by first | decide | exact zb_01 _) ?_
      refine ev_gW [true] [some 2] rfl ?_
      refine ev_inV 1 k_MM_408 h_MM_counts rfl rfl rfl rfl rfl ⟨by decide, by decide⟩ rfl ?_
      refine ev_gW [] [] rfl ?_
      refine ev_inS 3 k_MM_188 h_MM_in rfl rfl rfl rfl ⟨by decide, by decide⟩ rfl ?_
      refine ev_gW [false, false] [] rfl ?_
      refine ev_retz rfl (by first | decide | exact zb_01 _) ?_
      refine ev_gW [true, false] [] rfl ?_
      refine ev_inV 1 k_MM_389 h_MM_traced rfl rfl rfl rfl rfl ⟨by decide, by decide⟩ rfl ?_
      refine ev_g0 rfl ?_
      refine ev_ret rfl ?_
      refine ev_g0 rfl ?_
      refine ev_inV 1 k_MM_389 h_MM_traced rfl rfl rfl rfl rfl ⟨by decide, by decide⟩ rfl ?_
      refine ev_g0 rfl ?_
      refine ev_ret rfl ?_
      refine ev_gW [] [] rfl ?_
      refine ev_inV 1 k_MM_389 h_MM_traced rfl rfl rfl rfl rfl ⟨by decide, by decide⟩ rfl ?_
      refine ev_g0 rfl ?_
      refine ev_ret rfl ?_
      refine ev_gW [true] [] rfl ?_
      refine ev_reti rfl ?_
      refine ev_g0 rfl ?_
      refine ev_inV 2 k_MM_288 h_MM_lay rfl rfl rfl rfl rfl ⟨by decide, by decide⟩ rfl ?_
      refine ev_gW [] [] rfl ?_
      refine ev_ret rfl ?_
      refine ev_g0 rfl ?_
      refine ev_ret rfl ?_
      exact ⟨rfl, (u3 xj 0 t a ((xi 1 q 0 + nI 1 + nI 1).toInt64)), xd, xf, xo, (u3 (u3 (u3 (u3 (u3 xi 3 0 0 (nI 31 * (xi 3 0 0) + nI 10)) 3 0 0 (nI 31 * (nI 31 * (xi 3 0 0) + nI 10) + nI 9)) 1 q 0 (xi 1 q 0 + nI 1)) 3 0 0 (nI 31 * (nI 31 * (nI 31 * (xi 3 0 0) + nI 10) + nI 9) + nI 9)) 1 q 0 (xi 1 q 0 + nI 1 + nI 1)), xn, nI 0, rfl, bdd, lf_W, lf_W, (CU_num (CU_tal (CU_trc (CU_tal (CU_trc (CU_trc hC  lf_W lf_W)  lf_W lf_W) hq lf_W lf_W)  lf_W lf_W) hq lf_W lf_W) ht ha lf_W lf_W), (MU_num (MU_tal (MU_trc (MU_tal (MU_trc (MU_trc hM  lf_W lf_W (fun i hi => (rc_isor hC hi).2.2.1))  lf_W lf_W (fun i hi => (rc_isor hC hi).2.2.1)) hq lf_W lf_W (fun i hi => (rc_isor hC hi).2.2.1))  lf_W lf_W (fun i hi => (rc_isor hC hi).2.2.1)) hq lf_W lf_W (fun i hi => (rc_isor hC hi).2.2.1)) ht ha lf_W lf_W (fun i hi => (rc_isor hC hi).2.2.1))⟩
    · skip
      refine ct_of h_OA_perform rfl rfl rfl ?_
      refine ev_gW [true, true] [] rfl ?_
      refine ev_inV 1 k_OA_15 h_SD_t rfl rfl rfl rfl rfl ⟨by decide, by decide⟩ rfl ?_
      refine ev_gW [] [some (94 + 4 * q)] rfl ?_
      refine ev_reta rfl ?_
      refine ev_gW [true, true] [] rfl ?_
      refine ev_inV 1 k_OA_28 h_TH_isA rfl rfl rfl rfl rfl ⟨by decide, by decide⟩ rfl ?_
      refine ev_gW [] [some 0] rfl ?_
      refine ev_inV 0 k_TH_73 h_TH_isRow rfl rfl rfl rfl rfl ⟨by decide, by decide⟩ rfl ?_
      refine ev_gW [true] [] rfl ?_
      refine ev_retz rfl (by first | decide | exact zb_01 _) ?_
      refine ev_gW [false] [] rfl ?_
      refine ev_retz rfl (by first | decide | exact zb_01 _) ?_
      refine ev_gW [true] [some 2] rfl ?_
      refine ev_inV 1 k_OA_50 h_OA_tally rfl rfl rfl rfl rfl ⟨by decide, by decide⟩ rfl ?_
      refine ev_gW [] [some 3] rfl ?_
      refine ev_inV 1 k_OA_122 h_OA_begin rfl rfl rfl rfl rfl ⟨by decide, by decide⟩ rfl ?_
      refine ev_g0 rfl ?_
      refine ev_ret rfl ?_
      refine ev_g0 rfl ?_
      refine ev_inV 1 k_OA_158 h_OA_leafTally rfl rfl rfl rfl rfl ⟨by decide, by decide⟩ rfl ?_
      refine ev_g0 rfl ?_
      refine ev_inV 1 k_OA_122 h_OA_begin rfl rfl rfl rfl rfl ⟨by decide, by decide⟩ rfl ?_
      refine ev_g0 rfl ?_
      refine ev_ret rfl ?_
      refine ev_g0 rfl ?_
      refine ev_inV 1 k_OA_155 h_OA_nodeTally rfl rfl rfl rfl rfl ⟨by decide, by decide⟩ rfl ?_
      refine ev_g0 rfl ?_
      refine ev_inV 1 k_OA_122 h_OA_begin rfl rfl rfl rfl rfl ⟨by decide, by decide⟩ rfl ?_
      refine ev_g0 rfl ?_
      refine ev_ret rfl ?_
      refine ev_g0 rfl ?_
      refine ev_reti rfl ?_
      refine ev_g0 rfl ?_
      refine ev_inV 1 k_OA_155 h_OA_nodeTally rfl rfl rfl rfl rfl ⟨by decide, by decide⟩ rfl ?_
      refine ev_g0 rfl ?_
      refine ev_inV 1 k_OA_122 h_OA_begin rfl rfl rfl rfl rfl ⟨by decide, by decide⟩ rfl ?_
      refine ev_g0 rfl ?_
      refine ev_ret rfl ?_
      refine ev_g0 rfl ?_
      refine ev_reti rfl ?_
      refine ev_g0 rfl ?_
      refine ev_reti rfl ?_
      refine ev_g0 rfl ?_
      refine ev_reti rfl ?_
      refine ev_g0 rfl ?_
      refine ev_inV 2 k_OA_42 h_SD_setN rfl rfl rfl rfl rfl ⟨by decide, by decide⟩ rfl ?_
      refine ev_gW [] [] rfl ?_
      refine ev_ret rfl ?_
      refine ev_g0 rfl ?_
      refine ev_reti rfl ?_
      refine ct_of h_MM_meets rfl rfl rfl ?_
      refine ev_gW [true, true] [] rfl ?_
      refine ev_inV 1 k_MM_344 h_MM_hold rfl rfl rfl rfl rfl ⟨by decide, by decide⟩ rfl ?_
      refine ev_gW [] [] rfl ?_
      refine ev_reti rfl ?_
      refine ev_gW [false] [] rfl ?_
      refine ev_inV 2 k_MM_354 h_MM_takes rfl rfl rfl rfl rfl ⟨by decide, by decide⟩ rfl ?_
      refine ev_gW [false] [] rfl ?_
      refine ev_inV 2 k_MM_202 h_MM_isKind rfl rfl rfl rfl rfl ⟨by decide, by decide⟩ rfl ?_
      refine ev_gW [false, false, true, true, true, false] [some 0] rfl ?_
      refine ev_retz rfl (by first | decide | exact zb_01 _) ?_
      refine ev_gW [true] [] rfl ?_
      refine ev_retz rfl (by first | decide | exact zb_01 _) ?_
      refine ev_gW [false] [] rfl ?_
      refine ev_inV 1 k_MM_357 h_MM_is rfl rfl rfl rfl rfl ⟨by decide, by decide⟩ rfl ?_
      refine ev_gW [true, false] [] rfl ?_
      refine ev_retz rfl (by first | decide | exact zb_01 _) ?_
      refine ev_gW [true] [some 2] rfl ?_
      refine ev_inV 1 k_MM_408 h_MM_counts rfl rfl rfl rfl rfl ⟨by decide, by decide⟩ rfl ?_
      refine ev_gW [] [] rfl ?_
      refine ev_inS 3 k_MM_188 h_MM_in rfl rfl rfl rfl ⟨by decide, by decide⟩ rfl ?_
      refine ev_gW [false, false] [] rfl ?_
      refine ev_retz rfl (by first | decide | exact zb_01 _) ?_
      refine ev_gW [false] [] rfl ?_
      refine ev_inV 1 k_MM_389 h_MM_traced rfl rfl rfl rfl rfl ⟨by decide, by decide⟩ rfl ?_
      refine ev_g0 rfl ?_
      refine ev_ret rfl ?_
      refine ev_gW [false] [] rfl ?_
      refine ev_inV 1 k_MM_389 h_MM_traced rfl rfl rfl rfl rfl ⟨by decide, by decide⟩ rfl ?_
      refine ev_g0 rfl ?_
      refine ev_ret rfl ?_
      refine ev_g0 rfl ?_
      refine ev_inV 1 k_MM_389 h_MM_traced rfl rfl rfl rfl rfl ⟨by decide, by decide⟩ rfl ?_
      refine ev_g0 rfl ?_
      refine ev_ret rfl ?_
      refine ev_gW [] [] rfl ?_
      refine ev_inV 1 k_MM_389 h_MM_traced rfl rfl rfl rfl rfl ⟨by decide, by decide⟩ rfl ?_
      refine ev_g0 rfl ?_
      refine ev_ret rfl ?_
      refine ev_gW [false] [] rfl ?_
      refine ev_reti rfl ?_
      refine ev_g0 rfl ?_
      refine ev_inV 2 k_MM_288 h_MM_lay rfl rfl rfl rfl rfl ⟨by decide, by decide⟩ rfl ?_
      refine ev_gW [] [] rfl ?_
      refine ev_ret rfl ?_
      refine ev_g0 rfl ?_
      refine ev_ret rfl ?_
      exact ⟨rfl, (u3 xj 0 t a ((xi 1 q 0 + nI 1 + nI 1 + xi 2 q 0).toInt64)), xd, xf, xo, (u3 (u3 (u3 (u3 (u3 (u3 xi 3 0 0 (nI 31 * (xi 3 0 0) + nI 11)) 3 0 0 (nI 31 * (nI 31 * (xi 3 0 0) + nI 11) + nI 10)) 3 0 0 (nI 31 * (nI 31 * (nI 31 * (xi 3 0 0) + nI 11) + nI 10) + nI 9)) 1 q 0 (xi 1 q 0 + nI 1)) 3 0 0 (nI 31 * (nI 31 * (nI 31 * (nI 31 * (xi 3 0 0) + nI 11) + nI 10) + nI 9) + nI 9)) 1 q 0 (xi 1 q 0 + nI 1 + nI 1)), xn, nI 0, rfl, bdd, lf_W, lf_W, (CU_num (CU_tal (CU_trc (CU_tal (CU_trc (CU_trc (CU_trc hC  lf_W lf_W)  lf_W lf_W)  lf_W lf_W) hq lf_W lf_W)  lf_W lf_W) hq lf_W lf_W) ht ha lf_W lf_W), (MU_num (MU_tal (MU_trc (MU_tal (MU_trc (MU_trc (MU_trc hM  lf_W lf_W (fun i hi => (rc_isor hC hi).2.2.1))  lf_W lf_W (fun i hi => (rc_isor hC hi).2.2.1))  lf_W lf_W (fun i hi => (rc_isor hC hi).2.2.1)) hq lf_W lf_W (fun i hi => (rc_isor hC hi).2.2.1))  lf_W lf_W (fun i hi => (rc_isor hC hi).2.2.1)) hq lf_W lf_W (fun i hi => (rc_isor hC hi).2.2.1)) ht ha lf_W lf_W (fun i hi => (rc_isor hC hi).2.2.1))⟩
    · skip
      refine ct_of h_OA_perform rfl rfl rfl ?_
      refine ev_gW [true, true] [] rfl ?_
      refine ev_inV 1 k_OA_15 h_SD_t rfl rfl rfl rfl rfl ⟨by decide, by decide⟩ rfl ?_
      refine ev_gW [] [some (94 + 4 * q)] rfl ?_
      refine ev_reta rfl ?_
      refine ev_gW [true, true] [] rfl ?_
      refine ev_inV 1 k_OA_28 h_TH_isA rfl rfl rfl rfl rfl ⟨by decide, by decide⟩ rfl ?_
      refine ev_gW [] [some 0] rfl ?_
      refine ev_inV 0 k_TH_73 h_TH_isRow rfl rfl rfl rfl rfl ⟨by decide, by decide⟩ rfl ?_
      refine ev_gW [true] [] rfl ?_
      refine ev_retz rfl (by first | decide | exact zb_01 _) ?_
      refine ev_gW [false] [] rfl ?_
      refine ev_retz rfl (by first | decide | exact zb_01 _) ?_
      refine ev_gW [true] [some 2] rfl ?_
      refine ev_inV 1 k_OA_50 h_OA_tally rfl rfl rfl rfl rfl ⟨by decide, by decide⟩ rfl ?_
      refine ev_gW [] [some 4] rfl ?_
      refine ev_inV 1 k_OA_155 h_OA_nodeTally rfl rfl rfl rfl rfl ⟨by decide, by decide⟩ rfl ?_
      refine ev_g0 rfl ?_
      refine ev_inV 1 k_OA_122 h_OA_begin rfl rfl rfl rfl rfl ⟨by decide, by decide⟩ rfl ?_
      refine ev_g0 rfl ?_
      refine ev_ret rfl ?_
      refine ev_g0 rfl ?_
      refine ev_reti rfl ?_
      refine ev_g0 rfl ?_
      refine ev_reti rfl ?_
      refine ev_g0 rfl ?_
      refine ev_inV 2 k_OA_42 h_SD_setN rfl rfl rfl rfl rfl ⟨by decide, by decide⟩ rfl ?_
      refine ev_gW [] [] rfl ?_
      refine ev_ret rfl ?_
      refine ev_g0 rfl ?_
      refine ev_reti rfl ?_
      refine ct_of h_MM_meets rfl rfl rfl ?_
      refine ev_gW [true, true] [] rfl ?_
      refine ev_inV 1 k_MM_344 h_MM_hold rfl rfl rfl rfl rfl ⟨by decide, by decide⟩ rfl ?_
      refine ev_gW [] [] rfl ?_
      refine ev_reti rfl ?_
      refine ev_gW [false] [] rfl ?_
      refine ev_inV 2 k_MM_354 h_MM_takes rfl rfl rfl rfl rfl ⟨by decide, by decide⟩ rfl ?_
      refine ev_gW [false] [] rfl ?_
      refine ev_inV 2 k_MM_202 h_MM_isKind rfl rfl rfl rfl rfl ⟨by decide, by decide⟩ rfl ?_
      refine ev_gW [false, false, true, true, true, false] [some 0] rfl ?_
      refine ev_retz rfl (by first | decide | exact zb_01 _) ?_
      refine ev_gW [true] [] rfl ?_
      refine ev_retz rfl (by first | decide | exact zb_01 _) ?_
      refine ev_gW [false] [] rfl ?_
      refine ev_inV 1 k_MM_357 h_MM_is rfl rfl rfl rfl rfl ⟨by decide, by decide⟩ rfl ?_
      refine ev_gW [true, false] [] rfl ?_
      refine ev_retz rfl (by first | decide | exact zb_01 _) ?_
      refine ev_gW [true] [some 2] rfl ?_
      refine ev_inV 1 k_MM_408 h_MM_counts rfl rfl rfl rfl rfl ⟨by decide, by decide⟩ rfl ?_
      refine ev_gW [] [] rfl ?_
      refine ev_inS 3 k_MM_188 h_MM_in rfl rfl rfl rfl ⟨by decide, by decide⟩ rfl ?_
      refine ev_gW [false, true] [] rfl ?_
      refine ev_retz rfl (by first | decide | exact zb_01 _) ?_
      refine ev_gW [true, true] [] rfl ?_
      refine ev_inV 1 k_MM_389 h_MM_traced rfl rfl rfl rfl rfl ⟨by decide, by decide⟩ rfl ?_
      refine ev_g0 rfl ?_
      refine ev_ret rfl ?_
      refine ev_gW [true] [] rfl ?_
      refine ev_reti rfl ?_
      refine ev_g0 rfl ?_
      refine ev_inV 2 k_MM_288 h_MM_lay rfl rfl rfl rfl rfl ⟨by decide, by decide⟩ rfl ?_
      refine ev_gW [] [] rfl ?_
      refine ev_ret rfl ?_
      refine ev_g0 rfl ?_
      refine ev_ret rfl ?_
      exact ⟨rfl, (u3 xj 0 t a ((xi 1 q 0 + nI 1).toInt64)), xd, xf, xo, (u3 (u3 xi 3 0 0 (nI 31 * (xi 3 0 0) + nI 9)) 1 q 0 (xi 1 q 0 + nI 1)), xn, nI 0, rfl, bdd, lf_W, lf_W, (CU_num (CU_tal (CU_trc hC  lf_W lf_W) hq lf_W lf_W) ht ha lf_W lf_W), (MU_num (MU_tal (MU_trc hM  lf_W lf_W (fun i hi => (rc_isor hC hi).2.2.1)) hq lf_W lf_W (fun i hi => (rc_isor hC hi).2.2.1)) ht ha lf_W lf_W (fun i hi => (rc_isor hC hi).2.2.1))⟩
theorem A56 {ci : Nat → Nat → Nat → Int32} {cn : Nat → Nat → Nat → Nat} {co : Nat → Option Nat} {xj : Nat → Nat → Nat → Int64} {xd : Nat → Nat → Nat → UInt64} {xf : Nat → Nat → Nat → UInt32} {xo : Nat → Nat → Nat → Option Nat} {xi : Nat → Nat → Nat → Int32} {xn : Nat → Nat → Nat → Nat} {K : Nat → Nat} {I : Nat → Nat → Int32} {J : Nat → Nat → Int64} {F : Nat → Nat → UInt32} {D : Nat → Nat → UInt64} {R : Nat → Nat → Option Nat} {nx sl : Nat} {Km : Nat → Nat} {Im : Nat → Nat → Int32} {Jm : Nat → Nat → Int64} {Fm : Nat → Nat → UInt32} {Dm : Nat → Nat → UInt64} {Rm : Nat → Nat → Option Nat} {nxm slm : Nat} (hC : RC ci cn co xj xd xf xo xi xn I J F D R nx sl) (hM : RM ci cn co xj xd xf xo xi xn Im Jm Dm) {t a b c : Nat} {go : Int32} (ht : t < 3) (ha : a < 8) (hb : b < 8) (hc : c < 8) (x1 : Im 6 39 = nI t) (x2 : Im 6 40 = nI a) (x3 : Im 6 41 = nI b) (x4 : Im 6 42 = nI c) (x5 : Im 6 43 = nI 0) (x6 : Im 6 44 = go) : Ct Y_OA_perform [vr 4 13, vr 8 (32 + 7 * t), vi (nI 56), vi (nI a), vi (nI b), vi (nI c)] (K, I, J, F, D, R, nx, sl) (fun r μ1 => Ct Y_MM_meets [vr 11 6, vi (nI 56)] (Km, Im, Jm, Fm, Dm, Rm, nxm, slm) (fun r2 μ2 => r2 = none ∧ QA ci cn co go r μ1 μ2)) := by
  rcases ho : xo 0 t b with _ | q
  · skip
    refine ct_of h_OA_perform rfl rfl rfl ?_
    refine ev_gW [true, true] [] rfl ?_
    refine ev_inV 1 k_OA_15 h_SD_t rfl rfl rfl rfl rfl ⟨by decide, by decide⟩ rfl ?_
    refine ev_gW [] [none] rfl ?_
    refine ev_retn rfl ?_
    refine ev_g0 rfl ?_
    refine ev_reti rfl ?_
    refine ct_of h_MM_meets rfl rfl rfl ?_
    refine ev_gW [true, true] [] rfl ?_
    refine ev_inV 1 k_MM_344 h_MM_hold rfl rfl rfl rfl rfl ⟨by decide, by decide⟩ rfl ?_
    refine ev_gW [] [] rfl ?_
    refine ev_reti rfl ?_
    refine ev_gW [true, false] [] rfl ?_
    refine ev_inV 2 k_MM_354 h_MM_takes rfl rfl rfl rfl rfl ⟨by decide, by decide⟩ rfl ?_
    refine ev_gW [true] [] rfl ?_
    refine ev_retz rfl (by first | decide | exact zb_01 _) ?_
    refine ev_gW [false] [] rfl ?_
    refine ev_inV 1 k_MM_357 h_MM_is rfl rfl rfl rfl rfl ⟨by decide, by decide⟩ rfl ?_
    refine ev_gW [false, true] [] rfl ?_
    refine ev_retz rfl (by first | decide | exact zb_01 _) ?_
    refine ev_gW [false] [] rfl ?_
    refine ev_ret rfl ?_
    exact ⟨rfl, xj, xd, xf, xo, xi, xn, nI 1, rfl, bdd, lf_W, lf_W, hC, hM⟩
  · skip
    have hq := rc_ihol hC ht hb _ ho
    have zq := rc_isor hC hq
    have yq := rc_imad hC
    rcases (show xn 0 q 0 < 16 ∨ xn 0 q 0 = 16 ∨ xn 0 q 0 = 17 ∨ xn 0 q 0 = 18 ∨ xn 0 q 0 = 19 ∨ xn 0 q 0 = 20 by omega) with hk | hk | hk | hk | hk | hk
    · skip
      refine ct_of h_OA_perform rfl rfl rfl ?_
      refine ev_gW [true, true] [] rfl ?_
      refine ev_inV 1 k_OA_15 h_SD_t rfl rfl rfl rfl rfl ⟨by decide, by decide⟩ rfl ?_
      refine ev_gW [] [some (94 + 4 * q)] rfl ?_
      refine ev_reta rfl ?_
      refine ev_gW [false] [] rfl ?_
      refine ev_inV 1 k_OA_28 h_TH_isA rfl rfl rfl rfl rfl ⟨by decide, by decide⟩ rfl ?_
      refine ev_gW [false, true] [some 1] rfl ?_
      refine ev_retz rfl (by first | decide | exact zb_01 _) ?_
      refine ev_gW [false] [] rfl ?_
      refine ev_reti rfl ?_
      refine ct_of h_MM_meets rfl rfl rfl ?_
      refine ev_gW [true, true] [] rfl ?_
      refine ev_inV 1 k_MM_344 h_MM_hold rfl rfl rfl rfl rfl ⟨by decide, by decide⟩ rfl ?_
      refine ev_gW [] [] rfl ?_
      refine ev_reti rfl ?_
      refine ev_gW [true, false] [] rfl ?_
      refine ev_inV 2 k_MM_354 h_MM_takes rfl rfl rfl rfl rfl ⟨by decide, by decide⟩ rfl ?_
      refine ev_gW [false] [] rfl ?_
      refine ev_inV 2 k_MM_202 h_MM_isKind rfl rfl rfl rfl rfl ⟨by decide, by decide⟩ rfl ?_
      refine ev_gW [false, false, true, true, true, false, true] [some 1] rfl ?_
      refine ev_retz rfl (by first | decide | exact zb_01 _) ?_
      refine ev_gW [false] [] rfl ?_
      refine ev_retz rfl (by first | decide | exact zb_01 _) ?_
      refine ev_gW [true] [] rfl ?_
      refine ev_ret rfl ?_
      exact ⟨rfl, xj, xd, xf, xo, xi, xn, nI 3, rfl, bdd, lf_W, lf_W, hC, hM⟩
    · skip
      refine ct_of h_OA_perform rfl rfl rfl ?_
      refine ev_gW [true, true] [] rfl ?_
      refine ev_inV 1 k_OA_15 h_SD_t rfl rfl rfl rfl rfl ⟨by decide, by decide⟩ rfl ?_
      refine ev_gW [] [some (94 + 4 * q)] rfl ?_
      refine ev_reta rfl ?_
      refine ev_gW [false] [] rfl ?_
      refine ev_inV 1 k_OA_28 h_TH_isA rfl rfl rfl rfl rfl ⟨by decide, by decide⟩ rfl ?_
      refine ev_gW [false, true] [some 1] rfl ?_
      refine ev_retz rfl (by first | decide | exact zb_01 _) ?_
      refine ev_gW [false] [] rfl ?_
      refine ev_reti rfl ?_
      refine ct_of h_MM_meets rfl rfl rfl ?_
      refine ev_gW [true, true] [] rfl ?_
      refine ev_inV 1 k_MM_344 h_MM_hold rfl rfl rfl rfl rfl ⟨by decide, by decide⟩ rfl ?_
      refine ev_gW [] [] rfl ?_
      refine ev_reti rfl ?_
      refine ev_gW [true, false] [] rfl ?_
      refine ev_inV 2 k_MM_354 h_MM_takes rfl rfl rfl rfl rfl ⟨by decide, by decide⟩ rfl ?_
      refine ev_gW [false] [] rfl ?_
      refine ev_inV 2 k_MM_202 h_MM_isKind rfl rfl rfl rfl rfl ⟨by decide, by decide⟩ rfl ?_
      refine ev_gW [false, false, true, true, true, false, true] [some 1] rfl ?_
      refine ev_retz rfl (by first | decide | exact zb_01 _) ?_
      refine ev_gW [false] [] rfl ?_
      refine ev_retz rfl (by first | decide | exact zb_01 _) ?_
      refine ev_gW [true] [] rfl ?_
      refine ev_ret rfl ?_
      exact ⟨rfl, xj, xd, xf, xo, xi, xn, nI 3, rfl, bdd, lf_W, lf_W, hC, hM⟩
    · skip
      refine ct_of h_OA_perform rfl rfl rfl ?_
      refine ev_gW [true, true] [] rfl ?_
      refine ev_inV 1 k_OA_15 h_SD_t rfl rfl rfl rfl rfl ⟨by decide, by decide⟩ rfl ?_
      refine ev_gW [] [some (94 + 4 * q)] rfl ?_
      refine ev_reta rfl ?_
      refine ev_gW [false] [] rfl ?_
      refine ev_inV 1 k_OA_28 h_TH_isA rfl rfl rfl rfl rfl ⟨by decide, by decide⟩ rfl ?_
      refine ev_gW [false, true] [some 1] rfl ?_
      refine ev_retz rfl (by first | decide | exact zb_01 _) ?_
      refine ev_gW [false] [] rfl ?_
      refine ev_reti rfl ?_
      refine ct_of h_MM_meets rfl rfl rfl ?_
      refine ev_gW [true, true] [] rfl ?_
      refine ev_inV 1 k_MM_344 h_MM_hold rfl rfl rfl rfl rfl ⟨by decide, by decide⟩ rfl ?_
      refine ev_gW [] [] rfl ?_
      refine ev_reti rfl ?_
      refine ev_gW [true, false] [] rfl ?_
      refine ev_inV 2 k_MM_354 h_MM_takes rfl rfl rfl rfl rfl ⟨by decide, by decide⟩ rfl ?_
      refine ev_gW [false] [] rfl ?_
      refine ev_inV 2 k_MM_202 h_MM_isKind rfl rfl rfl rfl rfl ⟨by decide, by decide⟩ rfl ?_
      refine ev_gW [false, false, true, true, true, false, true] [some 1] rfl ?_
      refine ev_retz rfl (by first | decide | exact zb_01 _) ?_
      refine ev_gW [false] [] rfl ?_
      refine ev_retz rfl (by first | decide | exact zb_01 _) ?_
      refine ev_gW [true] [] rfl ?_
      refine ev_ret rfl ?_
      exact ⟨rfl, xj, xd, xf, xo, xi, xn, nI 3, rfl, bdd, lf_W, lf_W, hC, hM⟩
    · skip
      refine ct_of h_OA_perform rfl rfl rfl ?_
      refine ev_gW [true, true] [] rfl ?_
      refine ev_inV 1 k_OA_15 h_SD_t rfl rfl rfl rfl rfl ⟨by decide, by decide⟩ rfl ?_
      refine ev_gW [] [some (94 + 4 * q)] rfl ?_
      refine ev_reta rfl ?_
      refine ev_gW [false] [] rfl ?_
      refine ev_inV 1 k_OA_28 h_TH_isA rfl rfl rfl rfl rfl ⟨by decide, by decide⟩ rfl ?_
      refine ev_gW [true] [some 1] rfl ?_
      refine ev_retz rfl (by first | decide | exact zb_01 _) ?_
      refine ev_gW [true] [some 3] rfl ?_
      refine ev_inV 1 k_OA_34 h_SD_n rfl rfl rfl rfl rfl ⟨by decide, by decide⟩ rfl ?_
      refine ev_gW [] [] rfl ?_
      refine ev_retl rfl ?_
      refine ev_g0 rfl ?_
      refine ev_inV 2 k_OA_54 h_OA_bloom rfl rfl rfl rfl rfl ⟨by decide, by decide⟩ rfl ?_
      refine ev_g0 rfl ?_
      refine ev_inV 1 k_OA_122 h_OA_begin rfl rfl rfl rfl rfl ⟨by decide, by decide⟩ rfl ?_
      refine ev_g0 rfl ?_
      refine ev_ret rfl ?_
      refine ev_g0 rfl ?_
      refine ev_inV 1 k_OA_163 h_OA_petals rfl rfl rfl rfl rfl ⟨by decide, by decide⟩ rfl ?_
      refine ev_gW [true] [] rfl ?_
      refine ev_inV 1 k_OA_122 h_OA_begin rfl rfl rfl rfl rfl ⟨by decide, by decide⟩ rfl ?_
      refine ev_g0 rfl ?_
      refine ev_ret rfl ?_
      refine ev_g0 rfl ?_
      refine ev_reti rfl ?_
      refine ev_g0 rfl ?_
      refine ev_retl rfl ?_
      refine ev_g0 rfl ?_
      refine ev_inV 2 k_OA_42 h_SD_setN rfl rfl rfl rfl rfl ⟨by decide, by decide⟩ rfl ?_
      refine ev_gW [] [] rfl ?_
      refine ev_ret rfl ?_
      refine ev_g0 rfl ?_
      refine ev_reti rfl ?_
      refine ct_of h_MM_meets rfl rfl rfl ?_
      refine ev_gW [true, true] [] rfl ?_
      refine ev_inV 1 k_MM_344 h_MM_hold rfl rfl rfl rfl rfl ⟨by decide, by decide⟩ rfl ?_
      refine ev_gW [] [] rfl ?_
      refine ev_reti rfl ?_
      refine ev_gW [true, false] [] rfl ?_
      refine ev_inV 2 k_MM_354 h_MM_takes rfl rfl rfl rfl rfl ⟨by decide, by decide⟩ rfl ?_
      refine ev_gW [false] [] rfl ?_
      refine ev_inV 2 k_MM_202 h_MM_isKind rfl rfl rfl rfl rfl ⟨by decide, by decide⟩ rfl ?_
      refine ev_gW [false, false, true, true, true, true] [some 1] rfl ?_
      refine ev_retz rfl (by first | decide | exact zb_01 _) ?_
      refine ev_gW [true] [] rfl ?_
      refine ev_retz rfl (by first | decide | exact zb_01 _) ?_
      refine ev_gW [false] [] rfl ?_
      refine ev_inV 1 k_MM_357 h_MM_is rfl rfl rfl rfl rfl ⟨by decide, by decide⟩ rfl ?_
      refine ev_gW [true, false] [] rfl ?_
      refine ev_retz rfl (by first | decide | exact zb_01 _) ?_
      refine ev_gW [true] [some 3] rfl ?_
      refine ev_inV 1 k_MM_277 h_MM_number rfl rfl rfl rfl rfl ⟨by decide, by decide⟩ rfl ?_
      refine ev_gW [] [] rfl ?_
      refine ev_retl rfl ?_
      refine ev_g0 rfl ?_
      refine ev_inV 2 k_MM_411 h_MM_blooms rfl rfl rfl rfl rfl ⟨by decide, by decide⟩ rfl ?_
      refine ev_g0 rfl ?_
      refine ev_inV 1 k_MM_389 h_MM_traced rfl rfl rfl rfl rfl ⟨by decide, by decide⟩ rfl ?_
      refine ev_g0 rfl ?_
      refine ev_ret rfl ?_
      refine ev_gW [true, true] [] rfl ?_
      refine ev_inV 1 k_MM_389 h_MM_traced rfl rfl rfl rfl rfl ⟨by decide, by decide⟩ rfl ?_
      refine ev_g0 rfl ?_
      refine ev_ret rfl ?_
      refine ev_gW [true] [] rfl ?_
      refine ev_retl rfl ?_
      refine ev_g0 rfl ?_
      refine ev_inV 2 k_MM_288 h_MM_lay rfl rfl rfl rfl rfl ⟨by decide, by decide⟩ rfl ?_
      refine ev_gW [] [] rfl ?_
      refine ev_ret rfl ?_
      refine ev_g0 rfl ?_
      refine ev_ret rfl ?_
      exact ⟨rfl, (u3 xj 0 t a ((nI 3).toInt64 * xj 0 t c + (nI 5).toInt64)), xd, xf, xo, (u3 (u3 xi 3 0 0 (nI 31 * (xi 3 0 0) + nI 12)) 3 0 0 (nI 31 * (nI 31 * (xi 3 0 0) + nI 12) + nI 13)), xn, nI 0, rfl, bdd, lf_W, lf_W, (CU_num (CU_trc (CU_trc hC  lf_W lf_W)  lf_W lf_W) ht ha lf_W lf_W), (MU_num (MU_trc (MU_trc hM  lf_W lf_W (fun i hi => (rc_isor hC hi).2.2.1))  lf_W lf_W (fun i hi => (rc_isor hC hi).2.2.1)) ht ha lf_W lf_W (fun i hi => (rc_isor hC hi).2.2.1))⟩
    · skip
      refine ct_of h_OA_perform rfl rfl rfl ?_
      refine ev_gW [true, true] [] rfl ?_
      refine ev_inV 1 k_OA_15 h_SD_t rfl rfl rfl rfl rfl ⟨by decide, by decide⟩ rfl ?_
      refine ev_gW [] [some (94 + 4 * q)] rfl ?_
      refine ev_reta rfl ?_
      refine ev_gW [false] [] rfl ?_
      refine ev_inV 1 k_OA_28 h_TH_isA rfl rfl rfl rfl rfl ⟨by decide, by decide⟩ rfl ?_
      refine ev_gW [false, false] [some 1] rfl ?_
      refine ev_retz rfl (by first | decide | exact zb_01 _) ?_
      refine ev_gW [true] [some 3] rfl ?_
      refine ev_inV 1 k_OA_34 h_SD_n rfl rfl rfl rfl rfl ⟨by decide, by decide⟩ rfl ?_
      refine ev_gW [] [] rfl ?_
      refine ev_retl rfl ?_
      refine ev_g0 rfl ?_
      refine ev_inV 2 k_OA_54 h_OA_bloom rfl rfl rfl rfl rfl ⟨by decide, by decide⟩ rfl ?_
      refine ev_g0 rfl ?_
      refine ev_inV 1 k_OA_122 h_OA_begin rfl rfl rfl rfl rfl ⟨by decide, by decide⟩ rfl ?_
      refine ev_g0 rfl ?_
      refine ev_ret rfl ?_
      refine ev_g0 rfl ?_
      refine ev_inV 1 k_OA_163 h_OA_petals rfl rfl rfl rfl rfl ⟨by decide, by decide⟩ rfl ?_
      refine ev_gW [false] [] rfl ?_
      refine ev_inV 1 k_OA_122 h_OA_begin rfl rfl rfl rfl rfl ⟨by decide, by decide⟩ rfl ?_
      refine ev_g0 rfl ?_
      refine ev_ret rfl ?_
      refine ev_g0 rfl ?_
      refine ev_reti rfl ?_
      refine ev_g0 rfl ?_
      refine ev_retl rfl ?_
      refine ev_g0 rfl ?_
      refine ev_inV 2 k_OA_42 h_SD_setN rfl rfl rfl rfl rfl ⟨by decide, by decide⟩ rfl ?_
      refine ev_gW [] [] rfl ?_
      refine ev_ret rfl ?_
      refine ev_g0 rfl ?_
      refine ev_reti rfl ?_
      refine ct_of h_MM_meets rfl rfl rfl ?_
      refine ev_gW [true, true] [] rfl ?_
      refine ev_inV 1 k_MM_344 h_MM_hold rfl rfl rfl rfl rfl ⟨by decide, by decide⟩ rfl ?_
      refine ev_gW [] [] rfl ?_
      refine ev_reti rfl ?_
      refine ev_gW [true, false] [] rfl ?_
      refine ev_inV 2 k_MM_354 h_MM_takes rfl rfl rfl rfl rfl ⟨by decide, by decide⟩ rfl ?_
      refine ev_gW [false] [] rfl ?_
      refine ev_inV 2 k_MM_202 h_MM_isKind rfl rfl rfl rfl rfl ⟨by decide, by decide⟩ rfl ?_
      refine ev_gW [false, false, true, true, true, false, false] [some 1] rfl ?_
      refine ev_retz rfl (by first | decide | exact zb_01 _) ?_
      refine ev_gW [true] [] rfl ?_
      refine ev_retz rfl (by first | decide | exact zb_01 _) ?_
      refine ev_gW [false] [] rfl ?_
      refine ev_inV 1 k_MM_357 h_MM_is rfl rfl rfl rfl rfl ⟨by decide, by decide⟩ rfl ?_
      refine ev_gW [true, false] [] rfl ?_
      refine ev_retz rfl (by first | decide | exact zb_01 _) ?_
      refine ev_gW [true] [some 3] rfl ?_
      refine ev_inV 1 k_MM_277 h_MM_number rfl rfl rfl rfl rfl ⟨by decide, by decide⟩ rfl ?_
      refine ev_gW [] [] rfl ?_
      refine ev_retl rfl ?_
      refine ev_g0 rfl ?_
      refine ev_inV 2 k_MM_411 h_MM_blooms rfl rfl rfl rfl rfl ⟨by decide, by decide⟩ rfl ?_
      refine ev_g0 rfl ?_
      refine ev_inV 1 k_MM_389 h_MM_traced rfl rfl rfl rfl rfl ⟨by decide, by decide⟩ rfl ?_
      refine ev_g0 rfl ?_
      refine ev_ret rfl ?_
      refine ev_gW [false, false] [] rfl ?_
      refine ev_inV 1 k_MM_389 h_MM_traced rfl rfl rfl rfl rfl ⟨by decide, by decide⟩ rfl ?_
      refine ev_g0 rfl ?_
      refine ev_ret rfl ?_
      refine ev_gW [false] [] rfl ?_
      refine ev_retl rfl ?_
      refine ev_g0 rfl ?_
      refine ev_inV 2 k_MM_288 h_MM_lay rfl rfl rfl rfl rfl ⟨by decide, by decide⟩ rfl ?_
      refine ev_gW [] [] rfl ?_
      refine ev_ret rfl ?_
      refine ev_g0 rfl ?_
      refine ev_ret rfl ?_
      exact ⟨rfl, (u3 xj 0 t a ((nI 3).toInt64 * xj 0 t c + (nI 7 + xi 2 q 1).toInt64)), xd, xf, xo, (u3 (u3 xi 3 0 0 (nI 31 * (xi 3 0 0) + nI 12)) 3 0 0 (nI 31 * (nI 31 * (xi 3 0 0) + nI 12) + nI 14)), xn, nI 0, rfl, bdd, lf_W, lf_W, (CU_num (CU_trc (CU_trc hC  lf_W lf_W)  lf_W lf_W) ht ha lf_W lf_W), (MU_num (MU_trc (MU_trc hM  lf_W lf_W (fun i hi => (rc_isor hC hi).2.2.1))  lf_W lf_W (fun i hi => (rc_isor hC hi).2.2.1)) ht ha lf_W lf_W (fun i hi => (rc_isor hC hi).2.2.1))⟩
    · skip
      refine ct_of h_OA_perform rfl rfl rfl ?_
      refine ev_gW [true, true] [] rfl ?_
      refine ev_inV 1 k_OA_15 h_SD_t rfl rfl rfl rfl rfl ⟨by decide, by decide⟩ rfl ?_
      refine ev_gW [] [some (94 + 4 * q)] rfl ?_
      refine ev_reta rfl ?_
      refine ev_gW [false] [] rfl ?_
      refine ev_inV 1 k_OA_28 h_TH_isA rfl rfl rfl rfl rfl ⟨by decide, by decide⟩ rfl ?_
      refine ev_gW [false, true] [some 1] rfl ?_
      refine ev_retz rfl (by first | decide | exact zb_01 _) ?_
      refine ev_gW [false] [] rfl ?_
      refine ev_reti rfl ?_
      refine ct_of h_MM_meets rfl rfl rfl ?_
      refine ev_gW [true, true] [] rfl ?_
      refine ev_inV 1 k_MM_344 h_MM_hold rfl rfl rfl rfl rfl ⟨by decide, by decide⟩ rfl ?_
      refine ev_gW [] [] rfl ?_
      refine ev_reti rfl ?_
      refine ev_gW [true, false] [] rfl ?_
      refine ev_inV 2 k_MM_354 h_MM_takes rfl rfl rfl rfl rfl ⟨by decide, by decide⟩ rfl ?_
      refine ev_gW [false] [] rfl ?_
      refine ev_inV 2 k_MM_202 h_MM_isKind rfl rfl rfl rfl rfl ⟨by decide, by decide⟩ rfl ?_
      refine ev_gW [false, false, true, true, true, false, true] [some 1] rfl ?_
      refine ev_retz rfl (by first | decide | exact zb_01 _) ?_
      refine ev_gW [false] [] rfl ?_
      refine ev_retz rfl (by first | decide | exact zb_01 _) ?_
      refine ev_gW [true] [] rfl ?_
      refine ev_ret rfl ?_
      exact ⟨rfl, xj, xd, xf, xo, xi, xn, nI 3, rfl, bdd, lf_W, lf_W, hC, hM⟩
