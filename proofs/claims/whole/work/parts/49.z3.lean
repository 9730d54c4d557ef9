theorem ev_gX54 {Y : mm_Y} {μ0 : mm_M} {rem : List mm_E} {L : mm_L} {st : List mm_V} {μ : mm_M} {Post : Option mm_V → mm_M → Prop} (bs : List Bool) (os : List (Option Nat)) {e2 : mm_E} {rem2 : List mm_E} {L2 : mm_L} {st2 : List mm_V} {μ2 : mm_M} {P2 : Prop} (h : mm_go 5000 (mm_co Y) rem L st μ bs os True = some (e2 :: rem2, L2, st2, μ2, P2)) (k : Ev Y μ0 (e2 :: rem2) L2 st2 μ2 Post) (hp : P2 := by (repeat' apply And.intro) <;> first | exact trivial | decide | (simp (disch := first | with_reducible assumption | with_reducible exact rem_n (by assumption) (by assumption) (by omega) | with_reducible exact two_n (dbl_n (by assumption)) | with_reducible exact two_n (by assumption) | with_reducible exact dbl_n (by assumption) | with_reducible exact two_n (fA_n (f2d_n (by assumption))) | with_reducible exact rc_iflt hC (by assumption) (by assumption) | with_reducible exact rc_iff hC (by assumption) | with_reducible exact l2f_n _ | with_reducible exact i2f_n _ | with_reducible exact d2f_n (rc_idbl hC (by assumption) (by assumption)) | with_reducible exact d2f_n (rc_irea hC (by assumption) (by assumption) (by omega) (by omega)) | with_reducible exact nc_4616189618054758400 | with_reducible exact nc_4611686018427387904 | assumption | omega | decide | exact rc_iflt hC (by assumption) (by assumption) | exact rc_iff hC (by assumption) | exact l2f_n _ | exact i2f_n _ | exact d2f_n (rc_idbl hC (by assumption) (by assumption)) | exact d2f_n (rc_irea hC (by assumption) (by assumption) (by omega) (by omega)) | exact nc_4616189618054758400 | exact nc_4611686018427387904) only [i_add, i_mul, n_cl, nI_and7, nI_and3, v_in, i_eq, i_lt, i_le, i_eq0, i_lt0, i_ge0, i_gt0, i_le0, lg_cmp_eq, lg_cmp_ge, lg_cmp_gt, lg_cmp_le, lg_cmp_lt, zb_e0, zb_n0, Classical.not_not, up_ne, Nat.zero_add, Nat.add_zero, rc_num hC, rc_hol hC, rc_who hC, rc_rea hC, rc_par hC, rc_nn hC, rc_xx hC, rc_ff hC, rc_nxt hC, rc_lin hC, rc_sor hC, rc_len hC, rc_own hC, rc_tim hC, rc_tal hC, rc_dbl hC, rc_flt hC, rc_mad hC, rc_trc hC, rc_mk0 hC, rc_mk1 hC, rc_mk2 hC, rc_tix hC, rc_thg hC, rm_num hM, rm_hol hM, rm_who hM, rm_rea hM, rm_par hM, rm_nn hM, rm_xx hM, rm_ff hM, rm_nxt hM, rm_lin hM, rm_sor hM, rm_len hM, rm_own hM, rm_tim hM, rm_tal hM, rm_dbl hM, rm_flt hM, rm_mad hM, rm_trc hM, rm_mk hM, tR_s, tR_n, eI_s, eI_n, e_nm, e_mm, lN_i, l_lt, l_le, l_eq, l_z, lN_t, nI_tl, n_s1, i_sub, eLi, eL_s, eL_n, up_eq, mkz, i_l1, i_l2, i_l3, n_ti, i_tl2, e_mn, f2d_i, d2f_i, dff, rc_idbl hC, rc_iflt hC, rc_ixx hC, rc_iff hC, rc_irea hC, l2d_n, i2d_n, l2f_n, i2f_n, rm_mk0 hM, rm_mk1 hM, rm_mk2 hM, mks0, mks1, mks2, i_lk2, i_lk3, fE_t, fE_f, *] <;> first | exact trivial | with_reducible assumption | with_reducible exact rem_n (by assumption) (by assumption) (by omega) | with_reducible exact two_n (dbl_n (by assumption)) | with_reducible exact two_n (by assumption) | with_reducible exact dbl_n (by assumption) | with_reducible exact two_n (fA_n (f2d_n (by assumption))) | with_reducible exact rc_iflt hC (by assumption) (by assumption) | with_reducible exact rc_iff hC (by assumption) | with_reducible exact l2f_n _ | with_reducible exact i2f_n _ | with_reducible exact d2f_n (rc_idbl hC (by assumption) (by assumption)) | with_reducible exact d2f_n (rc_irea hC (by assumption) (by assumption) (by omega) (by omega)) | with_reducible exact nc_4616189618054758400 | with_reducible exact nc_4611686018427387904 | assumption | exact rem_n (by assumption) (by assumption) (by omega) | exact two_n (dbl_n (by assumption)) | exact two_n (by assumption) | exact dbl_n (by assumption) | exact two_n (fA_n (f2d_n (by assumption))) | omega | decide) | with_reducible assumption | with_reducible exact rem_n (by assumption) (by assumption) (by omega) | with_reducible exact two_n (dbl_n (by assumption)) | with_reducible exact two_n (by assumption) | with_reducible exact dbl_n (by assumption) | with_reducible exact two_n (fA_n (f2d_n (by assumption))) | with_reducible exact rc_iflt hC (by assumption) (by assumption) | with_reducible exact rc_iff hC (by assumption) | with_reducible exact l2f_n _ | with_reducible exact i2f_n _ | with_reducible exact d2f_n (rc_idbl hC (by assumption) (by assumption)) | with_reducible exact d2f_n (rc_irea hC (by assumption) (by assumption) (by omega) (by omega)) | with_reducible exact nc_4616189618054758400 | with_reducible exact nc_4611686018427387904 | assumption | exact rem_n (by assumption) (by assumption) (by omega) | exact two_n (dbl_n (by assumption)) | exact two_n (by assumption) | exact dbl_n (by assumption) | exact two_n (fA_n (f2d_n (by assumption)))) : Ev Y μ0 rem L st μ Post := ev_go bs os h hp k
theorem ev_bX54 {Y : mm_Y} {μ0 : mm_M} {rem : List mm_E} {L : mm_L} {st : List mm_V} {μ : mm_M} {Post : Option mm_V → mm_M → Prop} {e2 e3 : mm_E} {rem2 rem3 : List mm_E} {L2 L3 : mm_L} {st2 st3 : List mm_V} {μ2 μ3 : mm_M} {c c2 d d2 : Prop} (hT : mm_go 1 (mm_co Y) rem L st μ [true] [] True = some (e2 :: rem2, L2, st2, μ2, True ∧ c)) (hF : mm_go 1 (mm_co Y) rem L st μ [false] [] True = some (e3 :: rem3, L3, st3, μ3, True ∧ c2)) (kt : d → Ev Y μ0 (e2 :: rem2) L2 st2 μ2 Post) (kf : d2 → Ev Y μ0 (e3 :: rem3) L3 st3 μ3 Post) (hc : ¬ c → c2 := by first | exact id | exact Classical.not_not.mp) (g1 : c → d := by intro hh; (try simp (disch := first | with_reducible assumption | with_reducible exact rem_n (by assumption) (by assumption) (by omega) | with_reducible exact two_n (dbl_n (by assumption)) | with_reducible exact two_n (by assumption) | with_reducible exact dbl_n (by assumption) | with_reducible exact two_n (fA_n (f2d_n (by assumption))) | with_reducible exact rc_iflt hC (by assumption) (by assumption) | with_reducible exact rc_iff hC (by assumption) | with_reducible exact l2f_n _ | with_reducible exact i2f_n _ | with_reducible exact d2f_n (rc_idbl hC (by assumption) (by assumption)) | with_reducible exact d2f_n (rc_irea hC (by assumption) (by assumption) (by omega) (by omega)) | with_reducible exact nc_4616189618054758400 | with_reducible exact nc_4611686018427387904 | assumption | omega | decide | exact rc_iflt hC (by assumption) (by assumption) | exact rc_iff hC (by assumption) | exact l2f_n _ | exact i2f_n _ | exact d2f_n (rc_idbl hC (by assumption) (by assumption)) | exact d2f_n (rc_irea hC (by assumption) (by assumption) (by omega) (by omega)) | exact nc_4616189618054758400 | exact nc_4611686018427387904) only [i_add, i_mul, n_cl, nI_and7, nI_and3, v_in, i_eq, i_lt, i_le, i_eq0, i_lt0, i_ge0, i_gt0, i_le0, lg_cmp_eq, lg_cmp_ge, lg_cmp_gt, lg_cmp_le, lg_cmp_lt, zb_e0, zb_n0, Classical.not_not, up_ne, Nat.zero_add, Nat.add_zero, rc_num hC, rc_hol hC, rc_who hC, rc_rea hC, rc_par hC, rc_nn hC, rc_xx hC, rc_ff hC, rc_nxt hC, rc_lin hC, rc_sor hC, rc_len hC, rc_own hC, rc_tim hC, rc_tal hC, rc_dbl hC, rc_flt hC, rc_mad hC, rc_trc hC, rc_mk0 hC, rc_mk1 hC, rc_mk2 hC, rc_tix hC, rc_thg hC, rm_num hM, rm_hol hM, rm_who hM, rm_rea hM, rm_par hM, rm_nn hM, rm_xx hM, rm_ff hM, rm_nxt hM, rm_lin hM, rm_sor hM, rm_len hM, rm_own hM, rm_tim hM, rm_tal hM, rm_dbl hM, rm_flt hM, rm_mad hM, rm_trc hM, rm_mk hM, tR_s, tR_n, eI_s, eI_n, e_nm, e_mm, lN_i, l_lt, l_le, l_eq, l_z, lN_t, nI_tl, n_s1, i_sub, eLi, eL_s, eL_n, up_eq, mkz, i_l1, i_l2, i_l3, n_ti, i_tl2, e_mn, f2d_i, d2f_i, dff, rc_idbl hC, rc_iflt hC, rc_ixx hC, rc_iff hC, rc_irea hC, l2d_n, i2d_n, l2f_n, i2f_n, rm_mk0 hM, rm_mk1 hM, rm_mk2 hM, mks0, mks1, mks2, i_lk2, i_lk3, fE_t, fE_f, *] at hh); exact hh) (g2 : c2 → d2 := by intro hh; (try simp (disch := first | with_reducible assumption | with_reducible exact rem_n (by assumption) (by assumption) (by omega) | with_reducible exact two_n (dbl_n (by assumption)) | with_reducible exact two_n (by assumption) | with_reducible exact dbl_n (by assumption) | with_reducible exact two_n (fA_n (f2d_n (by assumption))) | with_reducible exact rc_iflt hC (by assumption) (by assumption) | with_reducible exact rc_iff hC (by assumption) | with_reducible exact l2f_n _ | with_reducible exact i2f_n _ | with_reducible exact d2f_n (rc_idbl hC (by assumption) (by assumption)) | with_reducible exact d2f_n (rc_irea hC (by assumption) (by assumption) (by omega) (by omega)) | with_reducible exact nc_4616189618054758400 | with_reducible exact nc_4611686018427387904 | assumption | omega | decide | exact rc_iflt hC (by assumption) (by assumption) | exact rc_iff hC (by assumption) | exact l2f_n _ | exact i2f_n _ | exact d2f_n (rc_idbl hC (by assumption) (by assumption)) | exact d2f_n (rc_irea hC (by assumption) (by assumption) (by omega) (by omega)) | exact nc_4616189618054758400 | exact nc_4611686018427387904) only [i_add, i_mul, n_cl, nI_and7, nI_and3, v_in, i_eq, i_lt, i_le, i_eq0, i_lt0, i_ge0, i_gt0, i_le0, lg_cmp_eq, lg_cmp_ge, lg_cmp_gt, lg_cmp_le, lg_cmp_lt, zb_e0, zb_n0, Classical.not_not, up_ne, Nat.zero_add, Nat.add_zero, rc_num hC, rc_hol hC, rc_who hC, rc_rea hC, rc_par hC, rc_nn hC, rc_xx hC, rc_ff hC, rc_nxt hC, rc_lin hC, rc_sor hC, rc_len hC, rc_own hC, rc_tim hC, rc_tal hC, rc_dbl hC, rc_flt hC, rc_mad hC, rc_trc hC, rc_mk0 hC, rc_mk1 hC, rc_mk2 hC, rc_tix hC, rc_thg hC, rm_num hM, rm_hol hM, rm_who hM, rm_rea hM, rm_par hM, rm_nn hM, rm_xx hM, rm_ff hM, rm_nxt hM, rm_lin hM, rm_sor hM, rm_len hM, rm_own hM, rm_tim hM, rm_tal hM, rm_dbl hM, rm_flt hM, rm_mad hM, rm_trc hM, rm_mk hM, tR_s, tR_n, eI_s, eI_n, e_nm, e_mm, lN_i, l_lt, l_le, l_eq, l_z, lN_t, nI_tl, n_s1, i_sub, eLi, eL_s, eL_n, up_eq, mkz, i_l1, i_l2, i_l3, n_ti, i_tl2, e_mn, f2d_i, d2f_i, dff, rc_idbl hC, rc_iflt hC, rc_ixx hC, rc_iff hC, rc_irea hC, l2d_n, i2d_n, l2f_n, i2f_n, rm_mk0 hM, rm_mk1 hM, rm_mk2 hM, mks0, mks1, mks2, i_lk2, i_lk3, fE_t, fE_f, *] at hh); exact hh) : Ev Y μ0 rem L st μ Post := ev_br hT hF hc (fun h => kt (g1 h)) (fun h => kf (g2 h))
theorem lf_X54 {p : Prop} (h : p := by first | (simp (disch := first | with_reducible assumption | with_reducible exact rem_n (by assumption) (by assumption) (by omega) | with_reducible exact two_n (dbl_n (by assumption)) | with_reducible exact two_n (by assumption) | with_reducible exact dbl_n (by assumption) | with_reducible exact two_n (fA_n (f2d_n (by assumption))) | with_reducible exact rc_iflt hC (by assumption) (by assumption) | with_reducible exact rc_iff hC (by assumption) | with_reducible exact l2f_n _ | with_reducible exact i2f_n _ | with_reducible exact d2f_n (rc_idbl hC (by assumption) (by assumption)) | with_reducible exact d2f_n (rc_irea hC (by assumption) (by assumption) (by omega) (by omega)) | with_reducible exact nc_4616189618054758400 | with_reducible exact nc_4611686018427387904 | assumption | omega | decide | exact rc_iflt hC (by assumption) (by assumption) | exact rc_iff hC (by assumption) | exact l2f_n _ | exact i2f_n _ | exact d2f_n (rc_idbl hC (by assumption) (by assumption)) | exact d2f_n (rc_irea hC (by assumption) (by assumption) (by omega) (by omega)) | exact nc_4616189618054758400 | exact nc_4611686018427387904) only [i_add, i_mul, n_cl, nI_and7, nI_and3, v_in, i_eq, i_lt, i_le, i_eq0, i_lt0, i_ge0, i_gt0, i_le0, lg_cmp_eq, lg_cmp_ge, lg_cmp_gt, lg_cmp_le, lg_cmp_lt, zb_e0, zb_n0, Classical.not_not, up_ne, Nat.zero_add, Nat.add_zero, rc_num hC, rc_hol hC, rc_who hC, rc_rea hC, rc_par hC, rc_nn hC, rc_xx hC, rc_ff hC, rc_nxt hC, rc_lin hC, rc_sor hC, rc_len hC, rc_own hC, rc_tim hC, rc_tal hC, rc_dbl hC, rc_flt hC, rc_mad hC, rc_trc hC, rc_mk0 hC, rc_mk1 hC, rc_mk2 hC, rc_tix hC, rc_thg hC, rm_num hM, rm_hol hM, rm_who hM, rm_rea hM, rm_par hM, rm_nn hM, rm_xx hM, rm_ff hM, rm_nxt hM, rm_lin hM, rm_sor hM, rm_len hM, rm_own hM, rm_tim hM, rm_tal hM, rm_dbl hM, rm_flt hM, rm_mad hM, rm_trc hM, rm_mk hM, tR_s, tR_n, eI_s, eI_n, e_nm, e_mm, lN_i, l_lt, l_le, l_eq, l_z, lN_t, nI_tl, n_s1, i_sub, eLi, eL_s, eL_n, up_eq, mkz, i_l1, i_l2, i_l3, n_ti, i_tl2, e_mn, f2d_i, d2f_i, dff, rc_idbl hC, rc_iflt hC, rc_ixx hC, rc_iff hC, rc_irea hC, l2d_n, i2d_n, l2f_n, i2f_n, rm_mk0 hM, rm_mk1 hM, rm_mk2 hM, mks0, mks1, mks2, i_lk2, i_lk3, fE_t, fE_f, *] <;> first | exact trivial | with_reducible assumption | with_reducible exact rem_n (by assumption) (by assumption) (by omega) | with_reducible exact two_n (dbl_n (by assumption)) | with_reducible exact two_n (by assumption) | with_reducible exact dbl_n (by assumption) | with_reducible exact two_n (fA_n (f2d_n (by assumption))) | with_reducible exact rc_iflt hC (by assumption) (by assumption) | with_reducible exact rc_iff hC (by assumption) | with_reducible exact l2f_n _ | with_reducible exact i2f_n _ | with_reducible exact d2f_n (rc_idbl hC (by assumption) (by assumption)) | with_reducible exact d2f_n (rc_irea hC (by assumption) (by assumption) (by omega) (by omega)) | with_reducible exact nc_4616189618054758400 | with_reducible exact nc_4611686018427387904 | assumption | exact rem_n (by assumption) (by assumption) (by omega) | exact two_n (dbl_n (by assumption)) | exact two_n (by assumption) | exact dbl_n (by assumption) | exact two_n (fA_n (f2d_n (by assumption))) | omega | decide) | with_reducible assumption | with_reducible exact rem_n (by assumption) (by assumption) (by omega) | with_reducible exact two_n (dbl_n (by assumption)) | with_reducible exact two_n (by assumption) | with_reducible exact dbl_n (by assumption) | with_reducible exact two_n (fA_n (f2d_n (by assumption))) | with_reducible exact rc_iflt hC (by assumption) (by assumption) | with_reducible exact rc_iff hC (by assumption) | with_reducible exact l2f_n _ | with_reducible exact i2f_n _ | with_reducible exact d2f_n (rc_idbl hC (by assumption) (by assumption)) | with_reducible exact d2f_n (rc_irea hC (by assumption) (by assumption) (by omega) (by omega)) | with_reducible exact nc_4616189618054758400 | with_reducible exact nc_4611686018427387904 | assumption | exact rem_n (by assumption) (by assumption) (by omega) | exact two_n (dbl_n (by assumption)) | exact two_n (by assumption) | exact dbl_n (by assumption) | exact two_n (fA_n (f2d_n (by assumption))) | rfl) : p := h
set_option maxHeartbeats 8000000 in
theorem A54 {ci : Nat → Nat → Nat → Int32} {cn : Nat → Nat → Nat → Nat} {co : Nat → Option Nat} {xj : Nat → Nat → Nat → Int64} {xd : Nat → Nat → Nat → UInt64} {xf : Nat → Nat → Nat → UInt32} {xo : Nat → Nat → Nat → Option Nat} {xi : Nat → Nat → Nat → Int32} {xn : Nat → Nat → Nat → Nat} {K : Nat → Nat} {I : Nat → Nat → Int32} {J : Nat → Nat → Int64} {F : Nat → Nat → UInt32} {D : Nat → Nat → UInt64} {R : Nat → Nat → Option Nat} {nx sl : Nat} {Km : Nat → Nat} {Im : Nat → Nat → Int32} {Jm : Nat → Nat → Int64} {Fm : Nat → Nat → UInt32} {Dm : Nat → Nat → UInt64} {Rm : Nat → Nat → Option Nat} {nxm slm : Nat} (hC : RC ci cn co xj xd xf xo xi xn I J F D R nx sl) (hM : RM ci cn co xj xd xf xo xi xn Im Jm Dm) {t a b : Nat} {c go : Int32} (ht : t < 3) (ha : a < 4) (hb : b < 8) (x1 : Im 6 39 = nI t) (x2 : Im 6 40 = nI a) (x3 : Im 6 41 = nI b) (x4 : Im 6 42 = c) (x5 : Im 6 43 = nI 0) (x6 : Im 6 44 = go) : Ct Y_OA_perform [vr 4 13, vr 8 (32 + 7 * t), vi (nI 54), vi (nI a), vi (nI b), vi (c)] (K, I, J, F, D, R, nx, sl) (fun r μ1 => Ct Y_MM_meets [vr 11 6, vi (nI 54)] (Km, Im, Jm, Fm, Dm, Rm, nxm, slm) (fun r2 μ2 => r2 = none ∧ QA ci cn co go r μ1 μ2)) := by
  rcases ho : xo 0 t b with _ | q
  · skip
    refine ct_of h_OA_perform rfl rfl rfl ?_
    refine ev_gX54 [true, true] [] rfl ?_
    refine ev_inV 1 k_OA_15 h_SD_t rfl rfl rfl rfl rfl ⟨by decide, by decide⟩ rfl ?_
    refine ev_gX54 [] [none] rfl ?_
    refine ev_retn rfl ?_
    refine ev_g0 rfl ?_
    refine ev_reti rfl ?_
    refine ct_of h_MM_meets rfl rfl rfl ?_
    refine ev_gX54 [true, true] [] rfl ?_
    refine ev_inV 1 k_MM_344 h_MM_hold rfl rfl rfl rfl rfl ⟨by decide, by decide⟩ rfl ?_
    refine ev_gX54 [] [] rfl ?_
    refine ev_reti rfl ?_
    refine ev_gX54 [false] [] rfl ?_
    refine ev_inV 2 k_MM_354 h_MM_takes rfl rfl rfl rfl rfl ⟨by decide, by decide⟩ rfl ?_
    refine ev_gX54 [true] [] rfl ?_
    refine ev_retz rfl (by first | decide | exact zb_01 _) ?_
    refine ev_gX54 [false] [] rfl ?_
    refine ev_inV 1 k_MM_357 h_MM_is rfl rfl rfl rfl rfl ⟨by decide, by decide⟩ rfl ?_
    refine ev_gX54 [false, true] [] rfl ?_
    refine ev_retz rfl (by first | decide | exact zb_01 _) ?_
    refine ev_gX54 [false] [] rfl ?_
    refine ev_ret rfl ?_
    exact ⟨rfl, xj, xd, xf, xo, xi, xn, nI 1, rfl, bdd, lf_X54, lf_X54, hC, hM⟩
  · skip
    have hq := rc_ihol hC ht hb _ ho
    have zq := rc_isor hC hq
    have yq := rc_imad hC
    have hx := rc_ixx hC hq
    have k1 := fkd (xd 2 q 0)
    have k2 := (n64i (xd 2 q 0)).mp hx
    have k3 : (UInt64.ofNat 4616189618054758400).toNat % 2 ^ 63 = 4616189618054758400 := by decide
    have h4 := nc_4616189618054758400
    rcases (show xn 0 q 0 < 16 ∨ xn 0 q 0 = 16 ∨ xn 0 q 0 = 17 ∨ xn 0 q 0 = 18 ∨ xn 0 q 0 = 19 ∨ xn 0 q 0 = 20 by omega) with hk | hk | hk | hk | hk | hk
    · skip
      refine ct_of h_OA_perform rfl rfl rfl ?_
      refine ev_gX54 [true, true] [] rfl ?_
      refine ev_inV 1 k_OA_15 h_SD_t rfl rfl rfl rfl rfl ⟨by decide, by decide⟩ rfl ?_
      refine ev_gX54 [] [some (94 + 4 * q)] rfl ?_
      refine ev_reta rfl ?_
      refine ev_gX54 [true, true] [] rfl ?_
      refine ev_inV 1 k_OA_28 h_TH_isA rfl rfl rfl rfl rfl ⟨by decide, by decide⟩ rfl ?_
      refine ev_gX54 [] [some 0] rfl ?_
      refine ev_inV 0 k_TH_73 h_TH_isRow rfl rfl rfl rfl rfl ⟨by decide, by decide⟩ rfl ?_
      refine ev_gX54 [false] [] rfl ?_
      refine ev_retz rfl (by first | decide | exact zb_01 _) ?_
      refine ev_gX54 [true] [] rfl ?_
      refine ev_retz rfl (by first | decide | exact zb_01 _) ?_
      refine ev_gX54 [false] [] rfl ?_
      refine ev_reti rfl ?_
      refine ct_of h_MM_meets rfl rfl rfl ?_
      refine ev_gX54 [true, true] [] rfl ?_
      refine ev_inV 1 k_MM_344 h_MM_hold rfl rfl rfl rfl rfl ⟨by decide, by decide⟩ rfl ?_
      refine ev_gX54 [] [] rfl ?_
      refine ev_reti rfl ?_
      refine ev_gX54 [false] [] rfl ?_
      refine ev_inV 2 k_MM_354 h_MM_takes rfl rfl rfl rfl rfl ⟨by decide, by decide⟩ rfl ?_
      refine ev_gX54 [false] [] rfl ?_
      refine ev_inV 2 k_MM_202 h_MM_isKind rfl rfl rfl rfl rfl ⟨by decide, by decide⟩ rfl ?_
      refine ev_gX54 [false, false, true, true, true, true] [some 0] rfl ?_
      refine ev_retz rfl (by first | decide | exact zb_01 _) ?_
      refine ev_gX54 [false] [] rfl ?_
      refine ev_retz rfl (by first | decide | exact zb_01 _) ?_
      refine ev_gX54 [true] [] rfl ?_
      refine ev_ret rfl ?_
      exact ⟨rfl, xj, xd, xf, xo, xi, xn, nI 3, rfl, bdd, lf_X54, lf_X54, hC, hM⟩
    · skip
      refine ct_of h_OA_perform rfl rfl rfl ?_
      refine ev_gX54 [true, true] [] rfl ?_
      refine ev_inV 1 k_OA_15 h_SD_t rfl rfl rfl rfl rfl ⟨by decide, by decide⟩ rfl ?_
      refine ev_gX54 [] [some (94 + 4 * q)] rfl ?_
      refine ev_reta rfl ?_
      refine ev_gX54 [true, true] [] rfl ?_
      refine ev_inV 1 k_OA_28 h_TH_isA rfl rfl rfl rfl rfl ⟨by decide, by decide⟩ rfl ?_
      refine ev_gX54 [] [some 0] rfl ?_
      refine ev_inV 0 k_TH_73 h_TH_isRow rfl rfl rfl rfl rfl ⟨by decide, by decide⟩ rfl ?_
      refine ev_gX54 [true] [] rfl ?_
      refine ev_retz rfl (by first | decide | exact zb_01 _) ?_
      refine ev_gX54 [false] [] rfl ?_
      refine ev_retz rfl (by first | decide | exact zb_01 _) ?_
      refine ev_gX54 [true] [some 1] rfl ?_
      refine ev_inV 3 k_OA_46 h_OA_askMeasure rfl rfl rfl rfl rfl ⟨by decide, by decide⟩ rfl ?_
      refine ev_gX54 [] [some 0] rfl ?_
      refine ev_inV 1 k_OA_131 h_OA_nodeMeasure rfl rfl rfl rfl rfl ⟨by decide, by decide⟩ rfl ?_
      refine ev_g0 rfl ?_
      refine ev_inV 1 k_OA_122 h_OA_begin rfl rfl rfl rfl rfl ⟨by decide, by decide⟩ rfl ?_
      refine ev_g0 rfl ?_
      refine ev_ret rfl ?_
      refine ev_g0 rfl ?_
      refine ev_retd rfl ?_
      refine ev_g0 rfl ?_
      refine ev_inV 2 k_OA_61 h_SD_setX rfl rfl rfl rfl rfl ⟨by decide, by decide⟩ rfl ?_
      refine ev_gX54 [] [] rfl ?_
      refine ev_ret rfl ?_
      refine ev_g0 rfl ?_
      refine ev_reti rfl ?_
      refine ev_g0 rfl ?_
      refine ev_reti rfl ?_
      refine ct_of h_MM_meets rfl rfl rfl ?_
      refine ev_gX54 [true, true] [] rfl ?_
      refine ev_inV 1 k_MM_344 h_MM_hold rfl rfl rfl rfl rfl ⟨by decide, by decide⟩ rfl ?_
      refine ev_gX54 [] [] rfl ?_
      refine ev_reti rfl ?_
      refine ev_gX54 [false] [] rfl ?_
      refine ev_inV 2 k_MM_354 h_MM_takes rfl rfl rfl rfl rfl ⟨by decide, by decide⟩ rfl ?_
      refine ev_gX54 [false] [] rfl ?_
      refine ev_inV 2 k_MM_202 h_MM_isKind rfl rfl rfl rfl rfl ⟨by decide, by decide⟩ rfl ?_
      refine ev_gX54 [false, false, true, true, true, false] [some 0] rfl ?_
      refine ev_retz rfl (by first | decide | exact zb_01 _) ?_
      refine ev_gX54 [true] [] rfl ?_
      refine ev_retz rfl (by first | decide | exact zb_01 _) ?_
      refine ev_gX54 [false] [] rfl ?_
      refine ev_inV 1 k_MM_357 h_MM_is rfl rfl rfl rfl rfl ⟨by decide, by decide⟩ rfl ?_
      refine ev_gX54 [true, false] [] rfl ?_
      refine ev_retz rfl (by first | decide | exact zb_01 _) ?_
      refine ev_gX54 [true] [some 1] rfl ?_
      refine ev_inV 1 k_MM_405 h_MM_measures rfl rfl rfl rfl rfl ⟨by decide, by decide⟩ rfl ?_
      refine ev_gX54 [true, true, true] [] rfl ?_
      refine ev_inV 1 k_MM_389 h_MM_traced rfl rfl rfl rfl rfl ⟨by decide, by decide⟩ rfl ?_
      refine ev_g0 rfl ?_
      refine ev_ret rfl ?_
      refine ev_gX54 [true, true] [] rfl ?_
      refine ev_inV 2 k_MM_281 h_MM_twin2 rfl rfl rfl rfl rfl ⟨by decide, by decide⟩ rfl ?_
      refine ev_gX54 [] [] rfl ?_
      refine ev_ret rfl ?_
      refine ev_g0 rfl ?_
      refine ev_ret rfl ?_
      refine ev_g0 rfl ?_
      refine ev_ret rfl ?_
      exact ⟨rfl, xj, (u3 xd 0 t a (xd 2 q 0)), xf, xo, (u3 xi 3 0 0 (nI 31 * (xi 3 0 0) + nI 5)), xn, nI 0, rfl, bdd, lf_X54, lf_X54, (CU_dbl (CU_trc hC  lf_X54 lf_X54) ht ha (lf_X54) lf_X54 lf_X54), (MU_dbl (MU_trc hM  lf_X54 lf_X54 (fun i hi => (rc_isor hC hi).2.2.1)) ht ha lf_X54 lf_X54 (fun i hi => (rc_isor hC hi).2.2.1))⟩
    · skip
      refine ct_of h_OA_perform rfl rfl rfl ?_
      refine ev_gX54 [true, true] [] rfl ?_
      refine ev_inV 1 k_OA_15 h_SD_t rfl rfl rfl rfl rfl ⟨by decide, by decide⟩ rfl ?_
      refine ev_gX54 [] [some (94 + 4 * q)] rfl ?_
      refine ev_reta rfl ?_
      refine ev_gX54 [true, true] [] rfl ?_
      refine ev_inV 1 k_OA_28 h_TH_isA rfl rfl rfl rfl rfl ⟨by decide, by decide⟩ rfl ?_
      refine ev_gX54 [] [some 0] rfl ?_
      refine ev_inV 0 k_TH_73 h_TH_isRow rfl rfl rfl rfl rfl ⟨by decide, by decide⟩ rfl ?_
      refine ev_gX54 [true] [] rfl ?_
      refine ev_retz rfl (by first | decide | exact zb_01 _) ?_
      refine ev_gX54 [false] [] rfl ?_
      refine ev_retz rfl (by first | decide | exact zb_01 _) ?_
      refine ev_gX54 [true] [some 1] rfl ?_
      refine ev_inV 3 k_OA_46 h_OA_askMeasure rfl rfl rfl rfl rfl ⟨by decide, by decide⟩ rfl ?_
      refine ev_gX54 [] [some 1] rfl ?_
      refine ev_inV 1 k_OA_134 h_OA_leafMeasure rfl rfl rfl rfl rfl ⟨by decide, by decide⟩ rfl ?_
      refine ev_g0 rfl ?_
      refine ev_inV 1 k_OA_122 h_OA_begin rfl rfl rfl rfl rfl ⟨by decide, by decide⟩ rfl ?_
      refine ev_g0 rfl ?_
      refine ev_ret rfl ?_
      refine ev_g0 rfl ?_
      refine ev_inV 1 k_OA_131 h_OA_nodeMeasure rfl rfl rfl rfl rfl ⟨by decide, by decide⟩ rfl ?_
      refine ev_g0 rfl ?_
      refine ev_inV 1 k_OA_122 h_OA_begin rfl rfl rfl rfl rfl ⟨by decide, by decide⟩ rfl ?_
      refine ev_g0 rfl ?_
      refine ev_ret rfl ?_
      refine ev_g0 rfl ?_
      refine ev_retd rfl ?_
      refine ev_gX54 [] [] rfl ?_
      refine ev_retd rfl ?_
      refine ev_g0 rfl ?_
      refine ev_inV 2 k_OA_61 h_SD_setX rfl rfl rfl rfl rfl ⟨by decide, by decide⟩ rfl ?_
      refine ev_gX54 [] [] rfl ?_
      refine ev_ret rfl ?_
      refine ev_g0 rfl ?_
      refine ev_reti rfl ?_
      refine ev_g0 rfl ?_
      refine ev_reti rfl ?_
      refine ct_of h_MM_meets rfl rfl rfl ?_
      refine ev_gX54 [true, true] [] rfl ?_
      refine ev_inV 1 k_MM_344 h_MM_hold rfl rfl rfl rfl rfl ⟨by decide, by decide⟩ rfl ?_
      refine ev_gX54 [] [] rfl ?_
      refine ev_reti rfl ?_
      refine ev_gX54 [false] [] rfl ?_
      refine ev_inV 2 k_MM_354 h_MM_takes rfl rfl rfl rfl rfl ⟨by decide, by decide⟩ rfl ?_
      refine ev_gX54 [false] [] rfl ?_
      refine ev_inV 2 k_MM_202 h_MM_isKind rfl rfl rfl rfl rfl ⟨by decide, by decide⟩ rfl ?_
      refine ev_gX54 [false, false, true, true, true, false] [some 0] rfl ?_
      refine ev_retz rfl (by first | decide | exact zb_01 _) ?_
      refine ev_gX54 [true] [] rfl ?_
      refine ev_retz rfl (by first | decide | exact zb_01 _) ?_
      refine ev_gX54 [false] [] rfl ?_
      refine ev_inV 1 k_MM_357 h_MM_is rfl rfl rfl rfl rfl ⟨by decide, by decide⟩ rfl ?_
      refine ev_gX54 [true, false] [] rfl ?_
      refine ev_retz rfl (by first | decide | exact zb_01 _) ?_
      refine ev_gX54 [true] [some 1] rfl ?_
      refine ev_inV 1 k_MM_405 h_MM_measures rfl rfl rfl rfl rfl ⟨by decide, by decide⟩ rfl ?_
      refine ev_gX54 [true, true, false] [] rfl ?_
      refine ev_inV 1 k_MM_389 h_MM_traced rfl rfl rfl rfl rfl ⟨by decide, by decide⟩ rfl ?_
      refine ev_g0 rfl ?_
      refine ev_ret rfl ?_
      refine ev_g0 rfl ?_
      refine ev_inV 1 k_MM_389 h_MM_traced rfl rfl rfl rfl rfl ⟨by decide, by decide⟩ rfl ?_
      refine ev_g0 rfl ?_
      refine ev_ret rfl ?_
      refine ev_gX54 [false, true] [] rfl ?_
      refine ev_inV 2 k_MM_281 h_MM_twin2 rfl rfl rfl rfl rfl ⟨by decide, by decide⟩ rfl ?_
      refine ev_gX54 [] [] rfl ?_
      refine ev_ret rfl ?_
      refine ev_g0 rfl ?_
      refine ev_ret rfl ?_
      refine ev_g0 rfl ?_
      refine ev_ret rfl ?_
      exact ⟨rfl, xj, (u3 xd 0 t a (FP.dadd (xd 2 q 0) (xd 2 q 0))), xf, xo, (u3 (u3 xi 3 0 0 (nI 31 * (xi 3 0 0) + nI 6)) 3 0 0 (nI 31 * (nI 31 * (xi 3 0 0) + nI 6) + nI 5)), xn, nI 0, rfl, bdd, lf_X54, lf_X54, (CU_dbl (CU_trc (CU_trc hC  lf_X54 lf_X54)  lf_X54 lf_X54) ht ha (lf_X54) lf_X54 lf_X54), (MU_dbl (MU_trc (MU_trc hM  lf_X54 lf_X54 (fun i hi => (rc_isor hC hi).2.2.1))  lf_X54 lf_X54 (fun i hi => (rc_isor hC hi).2.2.1)) ht ha lf_X54 lf_X54 (fun i hi => (rc_isor hC hi).2.2.1))⟩
    · skip
      refine ct_of h_OA_perform rfl rfl rfl ?_
      refine ev_gX54 [true, true] [] rfl ?_
      refine ev_inV 1 k_OA_15 h_SD_t rfl rfl rfl rfl rfl ⟨by decide, by decide⟩ rfl ?_
      refine ev_gX54 [] [some (94 + 4 * q)] rfl ?_
      refine ev_reta rfl ?_
      refine ev_gX54 [true, true] [] rfl ?_
      refine ev_inV 1 k_OA_28 h_TH_isA rfl rfl rfl rfl rfl ⟨by decide, by decide⟩ rfl ?_
      refine ev_gX54 [] [some 0] rfl ?_
      refine ev_inV 0 k_TH_73 h_TH_isRow rfl rfl rfl rfl rfl ⟨by decide, by decide⟩ rfl ?_
      refine ev_gX54 [true] [] rfl ?_
      refine ev_retz rfl (by first | decide | exact zb_01 _) ?_
      refine ev_gX54 [false] [] rfl ?_
      refine ev_retz rfl (by first | decide | exact zb_01 _) ?_
      refine ev_gX54 [true] [some 1] rfl ?_
      refine ev_inV 3 k_OA_46 h_OA_askMeasure rfl rfl rfl rfl rfl ⟨by decide, by decide⟩ rfl ?_
      refine ev_gX54 [] [some 2] rfl ?_
      refine ev_inV 1 k_OA_122 h_OA_begin rfl rfl rfl rfl rfl ⟨by decide, by decide⟩ rfl ?_
      refine ev_g0 rfl ?_
      refine ev_ret rfl ?_
      refine ev_g0 rfl ?_
      refine ev_inV 1 k_OA_134 h_OA_leafMeasure rfl rfl rfl rfl rfl ⟨by decide, by decide⟩ rfl ?_
      refine ev_g0 rfl ?_
      refine ev_inV 1 k_OA_122 h_OA_begin rfl rfl rfl rfl rfl ⟨by decide, by decide⟩ rfl ?_
      refine ev_g0 rfl ?_
      refine ev_ret rfl ?_
      refine ev_g0 rfl ?_
      refine ev_inV 1 k_OA_131 h_OA_nodeMeasure rfl rfl rfl rfl rfl ⟨by decide, by decide⟩ rfl ?_
      refine ev_g0 rfl ?_
      refine ev_inV 1 k_OA_122 h_OA_begin rfl rfl rfl rfl rfl ⟨by decide, by decide⟩ rfl ?_
      refine ev_g0 rfl ?_
      refine ev_ret rfl ?_
      refine ev_g0 rfl ?_
      refine ev_retd rfl ?_
      refine ev_gX54 [] [] rfl ?_
      refine ev_retd rfl ?_
      refine ev_gX54 [] [] rfl ?_
      refine ev_inV 2 k_OA_61 h_SD_setX rfl rfl rfl rfl rfl ⟨by decide, by decide⟩ rfl ?_
      refine ev_gX54 [] [] rfl ?_
      refine ev_ret rfl ?_
      refine ev_g0 rfl ?_
      refine ev_reti rfl ?_
      refine ev_g0 rfl ?_
      refine ev_reti rfl ?_
      refine ct_of h_MM_meets rfl rfl rfl ?_
      refine ev_gX54 [true, true] [] rfl ?_
      refine ev_inV 1 k_MM_344 h_MM_hold rfl rfl rfl rfl rfl ⟨by decide, by decide⟩ rfl ?_
      refine ev_gX54 [] [] rfl ?_
      refine ev_reti rfl ?_
      refine ev_gX54 [false] [] rfl ?_
      refine ev_inV 2 k_MM_354 h_MM_takes rfl rfl rfl rfl rfl ⟨by decide, by decide⟩ rfl ?_
      refine ev_gX54 [false] [] rfl ?_
      refine ev_inV 2 k_MM_202 h_MM_isKind rfl rfl rfl rfl rfl ⟨by decide, by decide⟩ rfl ?_
      refine ev_gX54 [false, false, true, true, true, false] [some 0] rfl ?_
      refine ev_retz rfl (by first | decide | exact zb_01 _) ?_
      refine ev_gX54 [true] [] rfl ?_
      refine ev_retz rfl (by first | decide | exact zb_01 _) ?_
      refine ev_gX54 [false] [] rfl ?_
      refine ev_inV 1 k_MM_357 h_MM_is rfl rfl rfl rfl rfl ⟨by decide, by decide⟩ rfl ?_
      refine ev_gX54 [true, false] [] rfl ?_
      refine ev_retz rfl (by first | decide | exact zb_01 _) ?_
      refine ev_gX54 [true] [some 1] rfl ?_
      refine ev_inV 1 k_MM_405 h_MM_measures rfl rfl rfl rfl rfl ⟨by decide, by decide⟩ rfl ?_
      refine ev_gX54 [true, false] [] rfl ?_
      refine ev_inV 1 k_MM_389 h_MM_traced rfl rfl rfl rfl rfl ⟨by decide, by decide⟩ rfl ?_
      refine ev_g0 rfl ?_
      refine ev_ret rfl ?_
      refine ev_gX54 [false] [] rfl ?_
      refine ev_inV 1 k_MM_389 h_MM_traced rfl rfl rfl rfl rfl ⟨by decide, by decide⟩ rfl ?_
      refine ev_g0 rfl ?_
      refine ev_ret rfl ?_
      refine ev_g0 rfl ?_
      refine ev_inV 1 k_MM_389 h_MM_traced rfl rfl rfl rfl rfl ⟨by decide, by decide⟩ rfl ?_
      refine ev_g0 rfl ?_
      refine ev_ret rfl ?_
      refine ev_gX54 [false, false] [] rfl ?_
      refine ev_inV 2 k_MM_281 h_MM_twin2 rfl rfl rfl rfl rfl ⟨by decide, by decide⟩ rfl ?_
      refine ev_gX54 [] [] rfl ?_
      refine ev_ret rfl ?_
      refine ev_g0 rfl ?_
      refine ev_ret rfl ?_
      refine ev_g0 rfl ?_
      refine ev_ret rfl ?_
      exact ⟨rfl, xj, (u3 xd 0 t a (FP.dmul (UInt64.ofNat 4611686018427387904) (FP.dadd (xd 2 q 0) (xd 2 q 0)))), xf, xo, (u3 (u3 (u3 xi 3 0 0 (nI 31 * (xi 3 0 0) + nI 7)) 3 0 0 (nI 31 * (nI 31 * (xi 3 0 0) + nI 7) + nI 6)) 3 0 0 (nI 31 * (nI 31 * (nI 31 * (xi 3 0 0) + nI 7) + nI 6) + nI 5)), xn, nI 0, rfl, bdd, lf_X54, lf_X54, (CU_dbl (CU_trc (CU_trc (CU_trc hC  lf_X54 lf_X54)  lf_X54 lf_X54)  lf_X54 lf_X54) ht ha (lf_X54) lf_X54 lf_X54), (MU_dbl (MU_trc (MU_trc (MU_trc hM  lf_X54 lf_X54 (fun i hi => (rc_isor hC hi).2.2.1))  lf_X54 lf_X54 (fun i hi => (rc_isor hC hi).2.2.1))  lf_X54 lf_X54 (fun i hi => (rc_isor hC hi).2.2.1)) ht ha lf_X54 lf_X54 (fun i hi => (rc_isor hC hi).2.2.1))⟩
    · skip
      refine ct_of h_OA_perform rfl rfl rfl ?_
      refine ev_gX54 [true, true] [] rfl ?_
      refine ev_inV 1 k_OA_15 h_SD_t rfl rfl rfl rfl rfl ⟨by decide, by decide⟩ rfl ?_
      refine ev_gX54 [] [some (94 + 4 * q)] rfl ?_
      refine ev_reta rfl ?_
      refine ev_gX54 [true, true] [] rfl ?_
      refine ev_inV 1 k_OA_28 h_TH_isA rfl rfl rfl rfl rfl ⟨by decide, by decide⟩ rfl ?_
      refine ev_gX54 [] [some 0] rfl ?_
      refine ev_inV 0 k_TH_73 h_TH_isRow rfl rfl rfl rfl rfl ⟨by decide, by decide⟩ rfl ?_
      refine ev_gX54 [true] [] rfl ?_
      refine ev_retz rfl (by first | decide | exact zb_01 _) ?_
      refine ev_gX54 [false] [] rfl ?_
      refine ev_retz rfl (by first | decide | exact zb_01 _) ?_
      refine ev_gX54 [true] [some 1] rfl ?_
      refine ev_inV 3 k_OA_46 h_OA_askMeasure rfl rfl rfl rfl rfl ⟨by decide, by decide⟩ rfl ?_
      refine ev_gX54 [] [some 3] rfl ?_
      refine ev_inV 1 k_OA_122 h_OA_begin rfl rfl rfl rfl rfl ⟨by decide, by decide⟩ rfl ?_
      refine ev_g0 rfl ?_
      refine ev_ret rfl ?_
      refine ev_g0 rfl ?_
      refine ev_inV 1 k_OA_134 h_OA_leafMeasure rfl rfl rfl rfl rfl ⟨by decide, by decide⟩ rfl ?_
      refine ev_g0 rfl ?_
      refine ev_inV 1 k_OA_122 h_OA_begin rfl rfl rfl rfl rfl ⟨by decide, by decide⟩ rfl ?_
      refine ev_g0 rfl ?_
      refine ev_ret rfl ?_
      refine ev_g0 rfl ?_
      refine ev_inV 1 k_OA_131 h_OA_nodeMeasure rfl rfl rfl rfl rfl ⟨by decide, by decide⟩ rfl ?_
      refine ev_g0 rfl ?_
      refine ev_inV 1 k_OA_122 h_OA_begin rfl rfl rfl rfl rfl ⟨by decide, by decide⟩ rfl ?_
      refine ev_g0 rfl ?_
      refine ev_ret rfl ?_
      refine ev_g0 rfl ?_
      refine ev_retd rfl ?_
      refine ev_gX54 [] [] rfl ?_
      refine ev_retd rfl ?_
      refine ev_gX54 [] [] rfl ?_
      refine ev_inV 2 k_OA_61 h_SD_setX rfl rfl rfl rfl rfl ⟨by decide, by decide⟩ rfl ?_
      refine ev_gX54 [] [] rfl ?_
      refine ev_ret rfl ?_
      refine ev_g0 rfl ?_
      refine ev_reti rfl ?_
      refine ev_g0 rfl ?_
      refine ev_reti rfl ?_
      refine ct_of h_MM_meets rfl rfl rfl ?_
      refine ev_gX54 [true, true] [] rfl ?_
      refine ev_inV 1 k_MM_344 h_MM_hold rfl rfl rfl rfl rfl ⟨by decide, by decide⟩ rfl ?_
      refine ev_gX54 [] [] rfl ?_
      refine ev_reti rfl ?_
      refine ev_gX54 [false] [] rfl ?_
      refine ev_inV 2 k_MM_354 h_MM_takes rfl rfl rfl rfl rfl ⟨by decide, by decide⟩ rfl ?_
      refine ev_gX54 [false] [] rfl ?_
      refine ev_inV 2 k_MM_202 h_MM_isKind rfl rfl rfl rfl rfl ⟨by decide, by decide⟩ rfl ?_
      refine ev_gX54 [false, false, true, true, true, false] [some 0] rfl ?_
      refine ev_retz rfl (by first | decide | exact zb_01 _) ?_
      refine ev_gX54 [true] [] rfl ?_
      refine ev_retz rfl (by first | decide | exact zb_01 _) ?_
      refine ev_gX54 [false] [] rfl ?_
      refine ev_inV 1 k_MM_357 h_MM_is rfl rfl rfl rfl rfl ⟨by decide, by decide⟩ rfl ?_
      refine ev_gX54 [true, false] [] rfl ?_
      refine ev_retz rfl (by first | decide | exact zb_01 _) ?_
      refine ev_gX54 [true] [some 1] rfl ?_
      refine ev_inV 1 k_MM_405 h_MM_measures rfl rfl rfl rfl rfl ⟨by decide, by decide⟩ rfl ?_
      refine ev_gX54 [true, false] [] rfl ?_
      refine ev_inV 1 k_MM_389 h_MM_traced rfl rfl rfl rfl rfl ⟨by decide, by decide⟩ rfl ?_
      refine ev_g0 rfl ?_
      refine ev_ret rfl ?_
      refine ev_gX54 [false] [] rfl ?_
      refine ev_inV 1 k_MM_389 h_MM_traced rfl rfl rfl rfl rfl ⟨by decide, by decide⟩ rfl ?_
      refine ev_g0 rfl ?_
      refine ev_ret rfl ?_
      refine ev_g0 rfl ?_
      refine ev_inV 1 k_MM_389 h_MM_traced rfl rfl rfl rfl rfl ⟨by decide, by decide⟩ rfl ?_
      refine ev_g0 rfl ?_
      refine ev_ret rfl ?_
      refine ev_gX54 [false, false] [] rfl ?_
      refine ev_inV 2 k_MM_281 h_MM_twin2 rfl rfl rfl rfl rfl ⟨by decide, by decide⟩ rfl ?_
      refine ev_gX54 [] [] rfl ?_
      refine ev_ret rfl ?_
      refine ev_g0 rfl ?_
      refine ev_ret rfl ?_
      refine ev_g0 rfl ?_
      refine ev_ret rfl ?_
      exact ⟨rfl, xj, (u3 xd 0 t a (FP.dmul (UInt64.ofNat 4611686018427387904) (FP.dadd (xd 2 q 0) (xd 2 q 0)))), xf, xo, (u3 (u3 (u3 xi 3 0 0 (nI 31 * (xi 3 0 0) + nI 7)) 3 0 0 (nI 31 * (nI 31 * (xi 3 0 0) + nI 7) + nI 6)) 3 0 0 (nI 31 * (nI 31 * (nI 31 * (xi 3 0 0) + nI 7) + nI 6) + nI 5)), xn, nI 0, rfl, bdd, lf_X54, lf_X54, (CU_dbl (CU_trc (CU_trc (CU_trc hC  lf_X54 lf_X54)  lf_X54 lf_X54)  lf_X54 lf_X54) ht ha (lf_X54) lf_X54 lf_X54), (MU_dbl (MU_trc (MU_trc (MU_trc hM  lf_X54 lf_X54 (fun i hi => (rc_isor hC hi).2.2.1))  lf_X54 lf_X54 (fun i hi => (rc_isor hC hi).2.2.1))  lf_X54 lf_X54 (fun i hi => (rc_isor hC hi).2.2.1)) ht ha lf_X54 lf_X54 (fun i hi => (rc_isor hC hi).2.2.1))⟩
    · skip
      refine ct_of h_OA_perform rfl rfl rfl ?_
      refine ev_gX54 [true, true] [] rfl ?_
      refine ev_inV 1 k_OA_15 h_SD_t rfl rfl rfl rfl rfl ⟨by decide, by decide⟩ rfl ?_
      refine ev_gX54 [] [some (94 + 4 * q)] rfl ?_
      refine ev_reta rfl ?_
      refine ev_gX54 [true, true] [] rfl ?_
      refine ev_inV 1 k_OA_28 h_TH_isA rfl rfl rfl rfl rfl ⟨by decide, by decide⟩ rfl ?_
      refine ev_gX54 [] [some 0] rfl ?_
      refine ev_inV 0 k_TH_73 h_TH_isRow rfl rfl rfl rfl rfl ⟨by decide, by decide⟩ rfl ?_
      refine ev_gX54 [true] [] rfl ?_
      refine ev_retz rfl (by first | decide | exact zb_01 _) ?_
      refine ev_gX54 [false] [] rfl ?_
      refine ev_retz rfl (by first | decide | exact zb_01 _) ?_
      refine ev_gX54 [true] [some 1] rfl ?_
      refine ev_inV 3 k_OA_46 h_OA_askMeasure rfl rfl rfl rfl rfl ⟨by decide, by decide⟩ rfl ?_
      refine ev_gX54 [] [some 4] rfl ?_
      refine ev_inV 3 k_OA_137 h_OA_askStoneMeasure rfl rfl rfl rfl rfl ⟨by decide, by decide⟩ rfl ?_
      refine ev_g0 rfl ?_
      refine ev_inV 1 k_OA_122 h_OA_begin rfl rfl rfl rfl rfl ⟨by decide, by decide⟩ rfl ?_
      refine ev_g0 rfl ?_
      refine ev_ret rfl ?_
      refine ev_g0 rfl ?_
      refine ev_kS 1 k_OA_143 rfl (C_RE_isEndless lf_X54) ⟨by decide, by decide⟩ rfl ?_
      refine ev_g0 rfl ?_
      refine ev_bX54 rfl rfl (fun h_1 => ?_) (fun h_1 => ?_)
      · skip
        refine ev_g0 rfl ?_
        refine ev_kV 2 k_OA_151 rfl (C_RE_remainder (pow_c hC) (by simp (disch := first | assumption | omega | decide | exact rc_iflt hC (by assumption) (by assumption) | exact rc_iff hC (by assumption) | exact l2f_n _ | exact i2f_n _ | exact d2f_n (rc_idbl hC (by assumption) (by assumption)) | exact d2f_n (rc_irea hC (by assumption) (by assumption) (by omega) (by omega)) | exact rc_idbl hC (by assumption) (by assumption) | exact f2d_n (rc_iflt hC (by assumption) (by assumption)) | exact nc_0 | exact nc_1 | exact l2d_n _ | exact nc_4503599627370496 | exact nc_4039728865751334912 | exact nc_4602678819172646912 | exact nc_4611686018427387904 | exact nc_4616189618054758400 | exact nc_4832362400168542208 | exact nc_4841369599423283200 | exact nc_9218868437227405311 | exact nc_13830554455654793216 | exact nc_14064741636278059008 | exact nc_18442240474082181119) only [rc_xx hC, n_cl] <;> omega) nc_4616189618054758400 (by decide)) rfl ⟨by decide, by decide⟩ rfl ?_
        refine ev_g0 rfl ?_
        refine ev_inV 2 k_OA_61 h_SD_setX rfl rfl rfl rfl rfl ⟨by decide, by decide⟩ rfl ?_
        refine ev_gX54 [] [] rfl ?_
        refine ev_ret rfl ?_
        refine ev_g0 rfl ?_
        refine ev_reti rfl ?_
        refine ev_g0 rfl ?_
        refine ev_reti rfl ?_
        refine ev_g0 rfl ?_
        refine ev_reti rfl ?_
        refine ct_of h_MM_meets rfl rfl rfl ?_
        refine ev_gX54 [true, true] [] rfl ?_
        refine ev_inV 1 k_MM_344 h_MM_hold rfl rfl rfl rfl rfl ⟨by decide, by decide⟩ rfl ?_
        refine ev_gX54 [] [] rfl ?_
        refine ev_reti rfl ?_
        refine ev_gX54 [false] [] rfl ?_
        refine ev_inV 2 k_MM_354 h_MM_takes rfl rfl rfl rfl rfl ⟨by decide, by decide⟩ rfl ?_
        refine ev_gX54 [false] [] rfl ?_
        refine ev_inV 2 k_MM_202 h_MM_isKind rfl rfl rfl rfl rfl ⟨by decide, by decide⟩ rfl ?_
        refine ev_gX54 [false, false, true, true, true, false] [some 0] rfl ?_
        refine ev_retz rfl (by first | decide | exact zb_01 _) ?_
        refine ev_gX54 [true] [] rfl ?_
        refine ev_retz rfl (by first | decide | exact zb_01 _) ?_
        refine ev_gX54 [false] [] rfl ?_
        refine ev_inV 1 k_MM_357 h_MM_is rfl rfl rfl rfl rfl ⟨by decide, by decide⟩ rfl ?_
        refine ev_gX54 [true, false] [] rfl ?_
        refine ev_retz rfl (by first | decide | exact zb_01 _) ?_
        refine ev_gX54 [true] [some 1] rfl ?_
        refine ev_inV 1 k_MM_405 h_MM_measures rfl rfl rfl rfl rfl ⟨by decide, by decide⟩ rfl ?_
        refine ev_gX54 [false] [] rfl ?_
        refine ev_inV 1 k_MM_389 h_MM_traced rfl rfl rfl rfl rfl ⟨by decide, by decide⟩ rfl ?_
        refine ev_g0 rfl ?_
        refine ev_ret rfl ?_
        refine ev_gX54 [] [] rfl ?_
        refine ev_kS 1 k_MM_166 rfl (C_MM_isEndless lf_X54) ⟨by decide, by decide⟩ rfl ?_
        refine ev_gX54 [true] [] rfl ?_
        refine ev_inV 2 k_MM_281 h_MM_twin2 rfl rfl rfl rfl rfl ⟨by decide, by decide⟩ rfl ?_
        refine ev_gX54 [] [] rfl ?_
        refine ev_ret rfl ?_
        refine ev_g0 rfl ?_
        refine ev_ret rfl ?_
        refine ev_g0 rfl ?_
        refine ev_ret rfl ?_
        exact ⟨rfl, xj, (u3 xd 0 t a (FP.drem (xd 2 q 0) (UInt64.ofNat 4616189618054758400))), xf, xo, (u3 xi 3 0 0 (nI 31 * (xi 3 0 0) + nI 8)), xn, nI 0, rfl, bdd, lf_X54, lf_X54, (CU_dbl (CU_trc hC  lf_X54 lf_X54) ht ha (lf_X54) lf_X54 lf_X54), (MU_dbl (MU_trc hM  lf_X54 lf_X54 (fun i hi => (rc_isor hC hi).2.2.1)) ht ha lf_X54 lf_X54 (fun i hi => (rc_isor hC hi).2.2.1))⟩
      · skip
        refine ev_g0 rfl ?_
        refine ev_reti rfl ?_
        refine ev_g0 rfl ?_
        refine ev_reti rfl ?_
        refine ev_g0 rfl ?_
        refine ev_reti rfl ?_
        refine ct_of h_MM_meets rfl rfl rfl ?_
        refine ev_gX54 [true, true] [] rfl ?_
        refine ev_inV 1 k_MM_344 h_MM_hold rfl rfl rfl rfl rfl ⟨by decide, by decide⟩ rfl ?_
        refine ev_gX54 [] [] rfl ?_
        refine ev_reti rfl ?_
        refine ev_gX54 [false] [] rfl ?_
        refine ev_inV 2 k_MM_354 h_MM_takes rfl rfl rfl rfl rfl ⟨by decide, by decide⟩ rfl ?_
        refine ev_gX54 [false] [] rfl ?_
        refine ev_inV 2 k_MM_202 h_MM_isKind rfl rfl rfl rfl rfl ⟨by decide, by decide⟩ rfl ?_
        refine ev_gX54 [false, false, true, true, true, false] [some 0] rfl ?_
        refine ev_retz rfl (by first | decide | exact zb_01 _) ?_
        refine ev_gX54 [true] [] rfl ?_
        refine ev_retz rfl (by first | decide | exact zb_01 _) ?_
        refine ev_gX54 [false] [] rfl ?_
        refine ev_inV 1 k_MM_357 h_MM_is rfl rfl rfl rfl rfl ⟨by decide, by decide⟩ rfl ?_
        refine ev_gX54 [true, false] [] rfl ?_
        refine ev_retz rfl (by first | decide | exact zb_01 _) ?_
        refine ev_gX54 [true] [some 1] rfl ?_
        refine ev_inV 1 k_MM_405 h_MM_measures rfl rfl rfl rfl rfl ⟨by decide, by decide⟩ rfl ?_
        refine ev_gX54 [false] [] rfl ?_
        refine ev_inV 1 k_MM_389 h_MM_traced rfl rfl rfl rfl rfl ⟨by decide, by decide⟩ rfl ?_
        refine ev_g0 rfl ?_
        refine ev_ret rfl ?_
        refine ev_gX54 [] [] rfl ?_
        refine ev_kS 1 k_MM_166 rfl (C_MM_isEndless lf_X54) ⟨by decide, by decide⟩ rfl ?_
        refine ev_gX54 [false] [] rfl ?_
        refine ev_inV 1 k_MM_301 h_MM_fails rfl rfl rfl rfl rfl ⟨by decide, by decide⟩ rfl ?_
        refine ev_g0 rfl ?_
        refine ev_ret rfl ?_
        refine ev_g0 rfl ?_
        refine ev_ret rfl ?_
        refine ev_g0 rfl ?_
        refine ev_ret rfl ?_
        exact ⟨rfl, xj, xd, xf, xo, (u3 xi 3 0 0 (nI 31 * (xi 3 0 0) + nI 8)), xn, nI 8, rfl, bdd, lf_X54, lf_X54, (CU_trc hC  lf_X54 lf_X54), (show RM ci cn co xj xd xf xo (u3 xi 3 0 0 (nI 31 * (xi 3 0 0) + nI 8)) xn (mm_up Im 6 14 (nI 31 * Im 6 14 + nI 8)) Jm Dm from MU_trc hM  lf_X54 lf_X54 (fun i hi => (rc_isor hC hi).2.2.1))⟩
set_option maxHeartbeats 8000000 in
theorem A57 {ci : Nat → Nat → Nat → Int32} {cn : Nat → Nat → Nat → Nat} {co : Nat → Option Nat} {xj : Nat → Nat → Nat → Int64} {xd : Nat → Nat → Nat → UInt64} {xf : Nat → Nat → Nat → UInt32} {xo : Nat → Nat → Nat → Option Nat} {xi : Nat → Nat → Nat → Int32} {xn : Nat → Nat → Nat → Nat} {K : Nat → Nat} {I : Nat → Nat → Int32} {J : Nat → Nat → Int64} {F : Nat → Nat → UInt32} {D : Nat → Nat → UInt64} {R : Nat → Nat → Option Nat} {nx sl : Nat} {Km : Nat → Nat} {Im : Nat → Nat → Int32} {Jm : Nat → Nat → Int64} {Fm : Nat → Nat → UInt32} {Dm : Nat → Nat → UInt64} {Rm : Nat → Nat → Option Nat} {nxm slm : Nat} (hC : RC ci cn co xj xd xf xo xi xn I J F D R nx sl) (hM : RM ci cn co xj xd xf xo xi xn Im Jm Dm) {t a b : Nat} {c go : Int32} (ht : t < 3) (ha : a < 4) (hb : b < 8) (x1 : Im 6 39 = nI t) (x2 : Im 6 40 = nI a) (x3 : Im 6 41 = nI b) (x4 : Im 6 42 = c) (x5 : Im 6 43 = nI 0) (x6 : Im 6 44 = go) : Ct Y_OA_perform [vr 4 13, vr 8 (32 + 7 * t), vi (nI 57), vi (nI a), vi (nI b), vi (c)] (K, I, J, F, D, R, nx, sl) (fun r μ1 => Ct Y_MM_meets [vr 11 6, vi (nI 57)] (Km, Im, Jm, Fm, Dm, Rm, nxm, slm) (fun r2 μ2 => r2 = none ∧ QA ci cn co go r μ1 μ2)) := by
  rcases ho : xo 0 t b with _ | q
  · skip
    refine ct_of h_OA_perform rfl rfl rfl ?_
    refine ev_gX54 [true, true] [] rfl ?_
    refine ev_inV 1 k_OA_15 h_SD_t rfl rfl rfl rfl rfl ⟨by decide, by decide⟩ rfl ?_
    refine ev_gX54 [] [none] rfl ?_
    refine ev_retn rfl ?_
    refine ev_g0 rfl ?_
    refine ev_reti rfl ?_
    refine ct_of h_MM_meets rfl rfl rfl ?_
    refine ev_gX54 [true, true] [] rfl ?_
    refine ev_inV 1 k_MM_344 h_MM_hold rfl rfl rfl rfl rfl ⟨by decide, by decide⟩ rfl ?_
    refine ev_gX54 [] [] rfl ?_
    refine ev_reti rfl ?_
    refine ev_gX54 [true, true] [] rfl ?_
    refine ev_inV 2 k_MM_354 h_MM_takes rfl rfl rfl rfl rfl ⟨by decide, by decide⟩ rfl ?_
    refine ev_gX54 [true] [] rfl ?_
    refine ev_retz rfl (by first | decide | exact zb_01 _) ?_
    refine ev_gX54 [false] [] rfl ?_
    refine ev_inV 1 k_MM_357 h_MM_is rfl rfl rfl rfl rfl ⟨by decide, by decide⟩ rfl ?_
    refine ev_gX54 [false, true] [] rfl ?_
    refine ev_retz rfl (by first | decide | exact zb_01 _) ?_
    refine ev_gX54 [false] [] rfl ?_
    refine ev_ret rfl ?_
    exact ⟨rfl, xj, xd, xf, xo, xi, xn, nI 1, rfl, bdd, lf_X54, lf_X54, hC, hM⟩
  · skip
    have hq := rc_ihol hC ht hb _ ho
    have zq := rc_isor hC hq
    have yq := rc_imad hC
    have hf := rc_iff hC hq
    have hx := f2d_n hf
    rcases (show xn 0 q 0 < 16 ∨ xn 0 q 0 = 16 ∨ xn 0 q 0 = 17 ∨ xn 0 q 0 = 18 ∨ xn 0 q 0 = 19 ∨ xn 0 q 0 = 20 by omega) with hk | hk | hk | hk | hk | hk
    · skip
      refine ct_of h_OA_perform rfl rfl rfl ?_
      refine ev_gX54 [true, true] [] rfl ?_
      refine ev_inV 1 k_OA_15 h_SD_t rfl rfl rfl rfl rfl ⟨by decide, by decide⟩ rfl ?_
      refine ev_gX54 [] [some (94 + 4 * q)] rfl ?_
      refine ev_reta rfl ?_
      refine ev_gX54 [true, false] [] rfl ?_
      refine ev_inV 1 k_OA_28 h_TH_isA rfl rfl rfl rfl rfl ⟨by decide, by decide⟩ rfl ?_
      refine ev_gX54 [true] [some 2] rfl ?_
      refine ev_retz rfl (by first | decide | exact zb_01 _) ?_
      refine ev_gX54 [false] [] rfl ?_
      refine ev_reti rfl ?_
      refine ct_of h_MM_meets rfl rfl rfl ?_
      refine ev_gX54 [true, true] [] rfl ?_
      refine ev_inV 1 k_MM_344 h_MM_hold rfl rfl rfl rfl rfl ⟨by decide, by decide⟩ rfl ?_
      refine ev_gX54 [] [] rfl ?_
      refine ev_reti rfl ?_
      refine ev_gX54 [true, true] [] rfl ?_
      refine ev_inV 2 k_MM_354 h_MM_takes rfl rfl rfl rfl rfl ⟨by decide, by decide⟩ rfl ?_
      refine ev_gX54 [false] [] rfl ?_
      refine ev_inV 2 k_MM_202 h_MM_isKind rfl rfl rfl rfl rfl ⟨by decide, by decide⟩ rfl ?_
      refine ev_gX54 [false, false, true, true, true, true] [some 2] rfl ?_
      refine ev_retz rfl (by first | decide | exact zb_01 _) ?_
      refine ev_gX54 [false] [] rfl ?_
      refine ev_retz rfl (by first | decide | exact zb_01 _) ?_
      refine ev_gX54 [true] [] rfl ?_
      refine ev_ret rfl ?_
      exact ⟨rfl, xj, xd, xf, xo, xi, xn, nI 3, rfl, bdd, lf_X54, lf_X54, hC, hM⟩
    · skip
      refine ct_of h_OA_perform rfl rfl rfl ?_
      refine ev_gX54 [true, true] [] rfl ?_
      refine ev_inV 1 k_OA_15 h_SD_t rfl rfl rfl rfl rfl ⟨by decide, by decide⟩ rfl ?_
      refine ev_gX54 [] [some (94 + 4 * q)] rfl ?_
      refine ev_reta rfl ?_
      refine ev_gX54 [true, false] [] rfl ?_
      refine ev_inV 1 k_OA_28 h_TH_isA rfl rfl rfl rfl rfl ⟨by decide, by decide⟩ rfl ?_
      refine ev_gX54 [true] [some 2] rfl ?_
      refine ev_retz rfl (by first | decide | exact zb_01 _) ?_
      refine ev_gX54 [false] [] rfl ?_
      refine ev_reti rfl ?_
      refine ct_of h_MM_meets rfl rfl rfl ?_
      refine ev_gX54 [true, true] [] rfl ?_
      refine ev_inV 1 k_MM_344 h_MM_hold rfl rfl rfl rfl rfl ⟨by decide, by decide⟩ rfl ?_
      refine ev_gX54 [] [] rfl ?_
      refine ev_reti rfl ?_
      refine ev_gX54 [true, true] [] rfl ?_
      refine ev_inV 2 k_MM_354 h_MM_takes rfl rfl rfl rfl rfl ⟨by decide, by decide⟩ rfl ?_
      refine ev_gX54 [false] [] rfl ?_
      refine ev_inV 2 k_MM_202 h_MM_isKind rfl rfl rfl rfl rfl ⟨by decide, by decide⟩ rfl ?_
      refine ev_gX54 [false, false, true, true, true, true] [some 2] rfl ?_
      refine ev_retz rfl (by first | decide | exact zb_01 _) ?_
      refine ev_gX54 [false] [] rfl ?_
      refine ev_retz rfl (by first | decide | exact zb_01 _) ?_
      refine ev_gX54 [true] [] rfl ?_
      refine ev_ret rfl ?_
      exact ⟨rfl, xj, xd, xf, xo, xi, xn, nI 3, rfl, bdd, lf_X54, lf_X54, hC, hM⟩
    · skip
      refine ct_of h_OA_perform rfl rfl rfl ?_
      refine ev_gX54 [true, true] [] rfl ?_
      refine ev_inV 1 k_OA_15 h_SD_t rfl rfl rfl rfl rfl ⟨by decide, by decide⟩ rfl ?_
      refine ev_gX54 [] [some (94 + 4 * q)] rfl ?_
      refine ev_reta rfl ?_
      refine ev_gX54 [true, false] [] rfl ?_
      refine ev_inV 1 k_OA_28 h_TH_isA rfl rfl rfl rfl rfl ⟨by decide, by decide⟩ rfl ?_
      refine ev_gX54 [true] [some 2] rfl ?_
      refine ev_retz rfl (by first | decide | exact zb_01 _) ?_
      refine ev_gX54 [false] [] rfl ?_
      refine ev_reti rfl ?_
      refine ct_of h_MM_meets rfl rfl rfl ?_
      refine ev_gX54 [true, true] [] rfl ?_
      refine ev_inV 1 k_MM_344 h_MM_hold rfl rfl rfl rfl rfl ⟨by decide, by decide⟩ rfl ?_
      refine ev_gX54 [] [] rfl ?_
      refine ev_reti rfl ?_
      refine ev_gX54 [true, true] [] rfl ?_
      refine ev_inV 2 k_MM_354 h_MM_takes rfl rfl rfl rfl rfl ⟨by decide, by decide⟩ rfl ?_
      refine ev_gX54 [false] [] rfl ?_
      refine ev_inV 2 k_MM_202 h_MM_isKind rfl rfl rfl rfl rfl ⟨by decide, by decide⟩ rfl ?_
      refine ev_gX54 [false, false, true, true, true, true] [some 2] rfl ?_
      refine ev_retz rfl (by first | decide | exact zb_01 _) ?_
      refine ev_gX54 [false] [] rfl ?_
      refine ev_retz rfl (by first | decide | exact zb_01 _) ?_
      refine ev_gX54 [true] [] rfl ?_
      refine ev_ret rfl ?_
      exact ⟨rfl, xj, xd, xf, xo, xi, xn, nI 3, rfl, bdd, lf_X54, lf_X54, hC, hM⟩
    · skip
      refine ct_of h_OA_perform rfl rfl rfl ?_
      refine ev_gX54 [true, true] [] rfl ?_
      refine ev_inV 1 k_OA_15 h_SD_t rfl rfl rfl rfl rfl ⟨by decide, by decide⟩ rfl ?_
      refine ev_gX54 [] [some (94 + 4 * q)] rfl ?_
      refine ev_reta rfl ?_
      refine ev_gX54 [true, false] [] rfl ?_
      refine ev_inV 1 k_OA_28 h_TH_isA rfl rfl rfl rfl rfl ⟨by decide, by decide⟩ rfl ?_
      refine ev_gX54 [true] [some 2] rfl ?_
      refine ev_retz rfl (by first | decide | exact zb_01 _) ?_
      refine ev_gX54 [false] [] rfl ?_
      refine ev_reti rfl ?_
      refine ct_of h_MM_meets rfl rfl rfl ?_
      refine ev_gX54 [true, true] [] rfl ?_
      refine ev_inV 1 k_MM_344 h_MM_hold rfl rfl rfl rfl rfl ⟨by decide, by decide⟩ rfl ?_
      refine ev_gX54 [] [] rfl ?_
      refine ev_reti rfl ?_
      refine ev_gX54 [true, true] [] rfl ?_
      refine ev_inV 2 k_MM_354 h_MM_takes rfl rfl rfl rfl rfl ⟨by decide, by decide⟩ rfl ?_
      refine ev_gX54 [false] [] rfl ?_
      refine ev_inV 2 k_MM_202 h_MM_isKind rfl rfl rfl rfl rfl ⟨by decide, by decide⟩ rfl ?_
      refine ev_gX54 [false, false, true, true, true, true] [some 2] rfl ?_
      refine ev_retz rfl (by first | decide | exact zb_01 _) ?_
      refine ev_gX54 [false] [] rfl ?_
      refine ev_retz rfl (by first | decide | exact zb_01 _) ?_
      refine ev_gX54 [true] [] rfl ?_
      refine ev_ret rfl ?_
      exact ⟨rfl, xj, xd, xf, xo, xi, xn, nI 3, rfl, bdd, lf_X54, lf_X54, hC, hM⟩
    · skip
      refine ct_of h_OA_perform rfl rfl rfl ?_
      refine ev_gX54 [true, true] [] rfl ?_
      refine ev_inV 1 k_OA_15 h_SD_t rfl rfl rfl rfl rfl ⟨by decide, by decide⟩ rfl ?_
      refine ev_gX54 [] [some (94 + 4 * q)] rfl ?_
      refine ev_reta rfl ?_
      refine ev_gX54 [true, false] [] rfl ?_
      refine ev_inV 1 k_OA_28 h_TH_isA rfl rfl rfl rfl rfl ⟨by decide, by decide⟩ rfl ?_
      refine ev_gX54 [true] [some 2] rfl ?_
      refine ev_retz rfl (by first | decide | exact zb_01 _) ?_
      refine ev_gX54 [false] [] rfl ?_
      refine ev_reti rfl ?_
      refine ct_of h_MM_meets rfl rfl rfl ?_
      refine ev_gX54 [true, true] [] rfl ?_
      refine ev_inV 1 k_MM_344 h_MM_hold rfl rfl rfl rfl rfl ⟨by decide, by decide⟩ rfl ?_
      refine ev_gX54 [] [] rfl ?_
      refine ev_reti rfl ?_
      refine ev_gX54 [true, true] [] rfl ?_
      refine ev_inV 2 k_MM_354 h_MM_takes rfl rfl rfl rfl rfl ⟨by decide, by decide⟩ rfl ?_
      refine ev_gX54 [false] [] rfl ?_
      refine ev_inV 2 k_MM_202 h_MM_isKind rfl rfl rfl rfl rfl ⟨by decide, by decide⟩ rfl ?_
      refine ev_gX54 [false, false, true, true, true, true] [some 2] rfl ?_
      refine ev_retz rfl (by first | decide | exact zb_01 _) ?_
      refine ev_gX54 [false] [] rfl ?_
      refine ev_retz rfl (by first | decide | exact zb_01 _) ?_
      refine ev_gX54 [true] [] rfl ?_
      refine ev_ret rfl ?_
      exact ⟨rfl, xj, xd, xf, xo, xi, xn, nI 3, rfl, bdd, lf_X54, lf_X54, hC, hM⟩
    · skip
      refine ct_of h_OA_perform rfl rfl rfl ?_
      refine ev_gX54 [true, true] [] rfl ?_
      refine ev_inV 1 k_OA_15 h_SD_t rfl rfl rfl rfl rfl ⟨by decide, by decide⟩ rfl ?_
      refine ev_gX54 [] [some (94 + 4 * q)] rfl ?_
      refine ev_reta rfl ?_
      refine ev_gX54 [true, false] [] rfl ?_
      refine ev_inV 1 k_OA_28 h_TH_isA rfl rfl rfl rfl rfl ⟨by decide, by decide⟩ rfl ?_
      refine ev_gX54 [false] [some 2] rfl ?_
      refine ev_retz rfl (by first | decide | exact zb_01 _) ?_
      refine ev_gX54 [true] [none] rfl ?_
      refine ev_inV 1 k_OA_57 h_OA_hardness rfl rfl rfl rfl rfl ⟨by decide, by decide⟩ rfl ?_
      refine ev_g0 rfl ?_
      refine ev_inV 1 k_OA_122 h_OA_begin rfl rfl rfl rfl rfl ⟨by decide, by decide⟩ rfl ?_
      refine ev_g0 rfl ?_
      refine ev_ret rfl ?_
      refine ev_gX54 [] [] rfl ?_
      refine ev_kS 1 k_OA_166 rfl (C_RE_withoutSign lf_X54) ⟨by decide, by decide⟩ rfl ?_
      refine ev_gX54 [] [] rfl ?_
      refine ev_retd rfl ?_
      refine ev_g0 rfl ?_
      refine ev_inV 2 k_OA_61 h_SD_setX rfl rfl rfl rfl rfl ⟨by decide, by decide⟩ rfl ?_
      refine ev_gX54 [] [] rfl ?_
      refine ev_ret rfl ?_
      refine ev_g0 rfl ?_
      refine ev_reti rfl ?_
      refine ct_of h_MM_meets rfl rfl rfl ?_
      refine ev_gX54 [true, true] [] rfl ?_
      refine ev_inV 1 k_MM_344 h_MM_hold rfl rfl rfl rfl rfl ⟨by decide, by decide⟩ rfl ?_
      refine ev_gX54 [] [] rfl ?_
      refine ev_reti rfl ?_
      refine ev_gX54 [true, true] [] rfl ?_
      refine ev_inV 2 k_MM_354 h_MM_takes rfl rfl rfl rfl rfl ⟨by decide, by decide⟩ rfl ?_
      refine ev_gX54 [false] [] rfl ?_
      refine ev_inV 2 k_MM_202 h_MM_isKind rfl rfl rfl rfl rfl ⟨by decide, by decide⟩ rfl ?_
      refine ev_gX54 [false, false, true, true, true, false] [some 2] rfl ?_
      refine ev_retz rfl (by first | decide | exact zb_01 _) ?_
      refine ev_gX54 [true] [] rfl ?_
      refine ev_retz rfl (by first | decide | exact zb_01 _) ?_
      refine ev_gX54 [false] [] rfl ?_
      refine ev_inV 1 k_MM_357 h_MM_is rfl rfl rfl rfl rfl ⟨by decide, by decide⟩ rfl ?_
      refine ev_gX54 [true, false] [] rfl ?_
      refine ev_retz rfl (by first | decide | exact zb_01 _) ?_
      refine ev_gX54 [true] [none] rfl ?_
      refine ev_inV 1 k_MM_389 h_MM_traced rfl rfl rfl rfl rfl ⟨by decide, by decide⟩ rfl ?_
      refine ev_g0 rfl ?_
      refine ev_ret rfl ?_
      refine ev_gX54 [] [] rfl ?_
      refine ev_kS 1 k_MM_142 rfl (C_MM_without lf_X54) ⟨by decide, by decide⟩ rfl ?_
      refine ev_gX54 [] [] rfl ?_
      refine ev_inV 2 k_MM_281 h_MM_twin2 rfl rfl rfl rfl rfl ⟨by decide, by decide⟩ rfl ?_
      refine ev_gX54 [] [] rfl ?_
      refine ev_ret rfl ?_
      refine ev_g0 rfl ?_
      refine ev_ret rfl ?_
      exact ⟨rfl, xj, (u3 xd 0 t a (FP.dmul (UInt64.ofNat 4611686018427387904) (fA (FP.f2d (xf 1 q 0))))), xf, xo, (u3 xi 3 0 0 (nI 31 * (xi 3 0 0) + nI 15)), xn, nI 0, rfl, bdd, lf_X54, lf_X54, (CU_dbl (CU_trc hC  lf_X54 lf_X54) ht ha (lf_X54) lf_X54 lf_X54), (MU_dbl (MU_trc hM  lf_X54 lf_X54 (fun i hi => (rc_isor hC hi).2.2.1)) ht ha lf_X54 lf_X54 (fun i hi => (rc_isor hC hi).2.2.1))⟩

