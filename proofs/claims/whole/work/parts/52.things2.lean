theorem ev_gU {Y : mm_Y} {μ0 : mm_M} {rem : List mm_E} {L : mm_L} {st : List mm_V} {μ : mm_M} {Post : Option mm_V → mm_M → Prop} (bs : List Bool) (os : List (Option Nat)) {e2 : mm_E} {rem2 : List mm_E} {L2 : mm_L} {st2 : List mm_V} {μ2 : mm_M} {P2 : Prop} (h : mm_go 5000 (mm_co Y) rem L st μ bs os True = some (e2 :: rem2, L2, st2, μ2, P2)) (k : Ev Y μ0 (e2 :: rem2) L2 st2 μ2 Post) (hp : P2 := by (repeat' apply And.intro) <;> first | exact trivial | assumption | rfl | decide | omega | (simp (disch := first | assumption | omega | decide) only [i_add, i_mul, n_cl, nI_and7, nI_and3, v_in, i_eq, i_lt, i_le, i_eq0, i_lt0, i_ge0, i_gt0, i_le0, lg_cmp_eq, lg_cmp_ge, lg_cmp_gt, lg_cmp_le, lg_cmp_lt, zb_e0, zb_n0, Classical.not_not, up_ne, Nat.zero_add, Nat.add_zero, rc_num hC, rc_hol hC, rc_who hC, rc_rea hC, rc_par hC, rc_nn hC, rc_xx hC, rc_ff hC, rc_nxt hC, rc_lin hC, rc_sor hC, rc_len hC, rc_own hC, rc_tim hC, rc_tal hC, rc_dbl hC, rc_flt hC, rc_mad hC, rc_trc hC, rc_mk0 hC, rc_mk1 hC, rc_mk2 hC, rc_tix hC, rc_thg hC, rm_num hM, rm_hol hM, rm_who hM, rm_rea hM, rm_par hM, rm_nn hM, rm_xx hM, rm_ff hM, rm_nxt hM, rm_lin hM, rm_sor hM, rm_len hM, rm_own hM, rm_tim hM, rm_tal hM, rm_dbl hM, rm_flt hM, rm_mad hM, rm_trc hM, rm_mk hM, tR_s, tR_n, eI_s, eI_n, e_nm, e_mm, lN_i, l_lt, l_le, l_eq, l_z, lN_t, nI_tl, n_s1, i_sub, eLi, eL_s, eL_n, up_eq, mkz, i_l1, i_l2, i_l3, n_ti, i_tl2, e_mn, *] <;> first | assumption | omega | decide)) : Ev Y μ0 rem L st μ Post := ev_go bs os h hp k
theorem ev_bU {Y : mm_Y} {μ0 : mm_M} {rem : List mm_E} {L : mm_L} {st : List mm_V} {μ : mm_M} {Post : Option mm_V → mm_M → Prop} {e2 e3 : mm_E} {rem2 rem3 : List mm_E} {L2 L3 : mm_L} {st2 st3 : List mm_V} {μ2 μ3 : mm_M} {c c2 d d2 : Prop} (hT : mm_go 1 (mm_co Y) rem L st μ [true] [] True = some (e2 :: rem2, L2, st2, μ2, True ∧ c)) (hF : mm_go 1 (mm_co Y) rem L st μ [false] [] True = some (e3 :: rem3, L3, st3, μ3, True ∧ c2)) (kt : d → Ev Y μ0 (e2 :: rem2) L2 st2 μ2 Post) (kf : d2 → Ev Y μ0 (e3 :: rem3) L3 st3 μ3 Post) (hc : ¬ c → c2 := by first | exact id | exact Classical.not_not.mp) (g1 : c → d := by intro hh; (try simp (disch := first | assumption | omega | decide) only [i_add, i_mul, n_cl, nI_and7, nI_and3, v_in, i_eq, i_lt, i_le, i_eq0, i_lt0, i_ge0, i_gt0, i_le0, lg_cmp_eq, lg_cmp_ge, lg_cmp_gt, lg_cmp_le, lg_cmp_lt, zb_e0, zb_n0, Classical.not_not, up_ne, Nat.zero_add, Nat.add_zero, rc_num hC, rc_hol hC, rc_who hC, rc_rea hC, rc_par hC, rc_nn hC, rc_xx hC, rc_ff hC, rc_nxt hC, rc_lin hC, rc_sor hC, rc_len hC, rc_own hC, rc_tim hC, rc_tal hC, rc_dbl hC, rc_flt hC, rc_mad hC, rc_trc hC, rc_mk0 hC, rc_mk1 hC, rc_mk2 hC, rc_tix hC, rc_thg hC, rm_num hM, rm_hol hM, rm_who hM, rm_rea hM, rm_par hM, rm_nn hM, rm_xx hM, rm_ff hM, rm_nxt hM, rm_lin hM, rm_sor hM, rm_len hM, rm_own hM, rm_tim hM, rm_tal hM, rm_dbl hM, rm_flt hM, rm_mad hM, rm_trc hM, rm_mk hM, tR_s, tR_n, eI_s, eI_n, e_nm, e_mm, lN_i, l_lt, l_le, l_eq, l_z, lN_t, nI_tl, n_s1, i_sub, eLi, eL_s, eL_n, up_eq, mkz, i_l1, i_l2, i_l3, n_ti, i_tl2, e_mn, *] at hh); exact hh) (g2 : c2 → d2 := by intro hh; (try simp (disch := first | assumption | omega | decide) only [i_add, i_mul, n_cl, nI_and7, nI_and3, v_in, i_eq, i_lt, i_le, i_eq0, i_lt0, i_ge0, i_gt0, i_le0, lg_cmp_eq, lg_cmp_ge, lg_cmp_gt, lg_cmp_le, lg_cmp_lt, zb_e0, zb_n0, Classical.not_not, up_ne, Nat.zero_add, Nat.add_zero, rc_num hC, rc_hol hC, rc_who hC, rc_rea hC, rc_par hC, rc_nn hC, rc_xx hC, rc_ff hC, rc_nxt hC, rc_lin hC, rc_sor hC, rc_len hC, rc_own hC, rc_tim hC, rc_tal hC, rc_dbl hC, rc_flt hC, rc_mad hC, rc_trc hC, rc_mk0 hC, rc_mk1 hC, rc_mk2 hC, rc_tix hC, rc_thg hC, rm_num hM, rm_hol hM, rm_who hM, rm_rea hM, rm_par hM, rm_nn hM, rm_xx hM, rm_ff hM, rm_nxt hM, rm_lin hM, rm_sor hM, rm_len hM, rm_own hM, rm_tim hM, rm_tal hM, rm_dbl hM, rm_flt hM, rm_mad hM, rm_trc hM, rm_mk hM, tR_s, tR_n, eI_s, eI_n, e_nm, e_mm, lN_i, l_lt, l_le, l_eq, l_z, lN_t, nI_tl, n_s1, i_sub, eLi, eL_s, eL_n, up_eq, mkz, i_l1, i_l2, i_l3, n_ti, i_tl2, e_mn, *] at hh); exact hh) : Ev Y μ0 rem L st μ Post := ev_br hT hF hc (fun h => kt (g1 h)) (fun h => kf (g2 h))
theorem lf_U {p : Prop} (h : p := by first | rfl | assumption | (simp (disch := first | assumption | omega | decide) only [i_add, i_mul, n_cl, nI_and7, nI_and3, v_in, i_eq, i_lt, i_le, i_eq0, i_lt0, i_ge0, i_gt0, i_le0, lg_cmp_eq, lg_cmp_ge, lg_cmp_gt, lg_cmp_le, lg_cmp_lt, zb_e0, zb_n0, Classical.not_not, up_ne, Nat.zero_add, Nat.add_zero, rc_num hC, rc_hol hC, rc_who hC, rc_rea hC, rc_par hC, rc_nn hC, rc_xx hC, rc_ff hC, rc_nxt hC, rc_lin hC, rc_sor hC, rc_len hC, rc_own hC, rc_tim hC, rc_tal hC, rc_dbl hC, rc_flt hC, rc_mad hC, rc_trc hC, rc_mk0 hC, rc_mk1 hC, rc_mk2 hC, rc_tix hC, rc_thg hC, rm_num hM, rm_hol hM, rm_who hM, rm_rea hM, rm_par hM, rm_nn hM, rm_xx hM, rm_ff hM, rm_nxt hM, rm_lin hM, rm_sor hM, rm_len hM, rm_own hM, rm_tim hM, rm_tal hM, rm_dbl hM, rm_flt hM, rm_mad hM, rm_trc hM, rm_mk hM, tR_s, tR_n, eI_s, eI_n, e_nm, e_mm, lN_i, l_lt, l_le, l_eq, l_z, lN_t, nI_tl, n_s1, i_sub, eLi, eL_s, eL_n, up_eq, mkz, i_l1, i_l2, i_l3, n_ti, i_tl2, e_mn, *] <;> first | rfl | assumption | omega | decide)) : p := h
theorem A36 {ci : Nat → Nat → Nat → Int32} {cn : Nat → Nat → Nat → Nat} {co : Nat → Option Nat} {xj : Nat → Nat → Nat → Int64} {xd : Nat → Nat → Nat → UInt64} {xf : Nat → Nat → Nat → UInt32} {xo : Nat → Nat → Nat → Option Nat} {xi : Nat → Nat → Nat → Int32} {xn : Nat → Nat → Nat → Nat} {K : Nat → Nat} {I : Nat → Nat → Int32} {J : Nat → Nat → Int64} {F : Nat → Nat → UInt32} {D : Nat → Nat → UInt64} {R : Nat → Nat → Option Nat} {nx sl : Nat} {Km : Nat → Nat} {Im : Nat → Nat → Int32} {Jm : Nat → Nat → Int64} {Fm : Nat → Nat → UInt32} {Dm : Nat → Nat → UInt64} {Rm : Nat → Nat → Option Nat} {nxm slm : Nat} (hC : RC ci cn co xj xd xf xo xi xn I J F D R nx sl) (hM : RM ci cn co xj xd xf xo xi xn Im Jm Dm) {t a b c : Nat} {go : Int32} (ht : t < 3) (ha : a < 8) (hb : b < 8) (hc : c < 8) (x1 : Im 6 39 = nI t) (x2 : Im 6 40 = nI a) (x3 : Im 6 41 = nI b) (x4 : Im 6 42 = nI c) (x5 : Im 6 43 = nI 0) (x6 : Im 6 44 = go) : Ct Y_IA_perform [vr 8 (32 + 7 * t), vi (nI 36), vi (nI a), vi (nI b), vi (nI c)] (K, I, J, F, D, R, nx, sl) (fun r μ1 => Ct Y_MM_handles [vr 11 6, vi (nI 36)] (Km, Im, Jm, Fm, Dm, Rm, nxm, slm) (fun r2 μ2 => r2 = none ∧ QA ci cn co go r μ1 μ2)) := by
  rcases ho : xo 0 t b with _ | q
  · skip
    refine ct_of h_IA_perform rfl rfl rfl ?_
    refine ev_g0 rfl ?_
    refine ev_inV 1 k_IA_9 h_SD_t rfl rfl rfl rfl rfl ⟨by decide, by decide⟩ rfl ?_
    refine ev_gU [] [none] rfl ?_
    refine ev_retn rfl ?_
    refine ev_gU [true, true, false] [] rfl ?_
    refine ev_inS 1 k_IA_28 h_IA_rowKind rfl rfl rfl rfl ⟨by decide, by decide⟩ rfl ?_
    refine ev_gU [false] [] rfl ?_
    refine ev_reti rfl ?_
    refine ev_g0 rfl ?_
    refine ev_inV 1 k_IA_17 h_SD_n rfl rfl rfl rfl rfl ⟨by decide, by decide⟩ rfl ?_
    refine ev_gU [] [] rfl ?_
    refine ev_retl rfl ?_
    refine ev_g0 rfl ?_
    refine ev_inS 5 k_IA_32 h_IA_getPart rfl rfl rfl rfl ⟨by decide, by decide⟩ rfl ?_
    refine ev_g0 rfl ?_
    refine ev_reti rfl ?_
    refine ev_g0 rfl ?_
    refine ev_reti rfl ?_
    refine ct_of h_MM_handles rfl rfl rfl ?_
    refine ev_g0 rfl ?_
    refine ev_inV 1 k_MM_344 h_MM_hold rfl rfl rfl rfl rfl ⟨by decide, by decide⟩ rfl ?_
    refine ev_gU [] [] rfl ?_
    refine ev_reti rfl ?_
    refine ev_gU [] [some 0] rfl ?_
    refine ev_inV 1 k_MM_371 h_MM_loadsThing rfl rfl rfl rfl rfl ⟨by decide, by decide⟩ rfl ?_
    refine ev_g0 rfl ?_
    refine ev_inV 1 k_MM_344 h_MM_hold rfl rfl rfl rfl rfl ⟨by decide, by decide⟩ rfl ?_
    refine ev_gU [] [] rfl ?_
    refine ev_reti rfl ?_
    refine ev_g0 rfl ?_
    refine ev_inV 2 k_MM_354 h_MM_takes rfl rfl rfl rfl rfl ⟨by decide, by decide⟩ rfl ?_
    refine ev_gU [true] [] rfl ?_
    refine ev_retz rfl (by first | decide | exact zb_01 _) ?_
    refine ev_gU [false] [] rfl ?_
    refine ev_inV 1 k_MM_357 h_MM_is rfl rfl rfl rfl rfl ⟨by decide, by decide⟩ rfl ?_
    refine ev_gU [false, true] [] rfl ?_
    refine ev_retz rfl (by first | decide | exact zb_01 _) ?_
    refine ev_gU [true] [] rfl ?_
    refine ev_ret rfl ?_
    refine ev_g0 rfl ?_
    refine ev_ret rfl ?_
    exact ⟨rfl, xj, xd, xf, xo, xi, xn, nI 1, rfl, bdd, lf_U, lf_U, hC, hM⟩
  · skip
    have hq := rc_ihol hC ht hb _ ho
    have zq := rc_isor hC hq
    have yq := rc_imad hC
    rcases ixc (xj 0 t c) (xn 1 q 0) with ⟨j, hj, hi⟩ | hi
    · skip
      by_cases hk8 : 8 ≤ xn 0 q 0
      · skip
        rcases hp : xo 1 q j with _ | u
        · skip
          refine ct_of h_IA_perform rfl rfl rfl ?_
          refine ev_g0 rfl ?_
          refine ev_inV 1 k_IA_9 h_SD_t rfl rfl rfl rfl rfl ⟨by decide, by decide⟩ rfl ?_
          refine ev_gU [] [some (94 + 4 * q)] rfl ?_
          refine ev_reta rfl ?_
          refine ev_gU [true, true, false] [] rfl ?_
          refine ev_inS 1 k_IA_28 h_IA_rowKind rfl rfl rfl rfl ⟨by decide, by decide⟩ rfl ?_
          refine ev_gU [false] [] rfl ?_
          refine ev_reti rfl ?_
          refine ev_g0 rfl ?_
          refine ev_inV 1 k_IA_17 h_SD_n rfl rfl rfl rfl rfl ⟨by decide, by decide⟩ rfl ?_
          refine ev_gU [] [] rfl ?_
          refine ev_retl rfl ?_
          refine ev_g0 rfl ?_
          refine ev_inS 5 k_IA_32 h_IA_getPart rfl rfl rfl rfl ⟨by decide, by decide⟩ rfl ?_
          refine ev_g0 rfl ?_
          refine ev_inV 1 k_IA_96 h_TH_isA rfl rfl rfl rfl rfl ⟨by decide, by decide⟩ rfl ?_
          refine ev_gU [false, false, false] [none] rfl ?_
          refine ev_bU rfl rfl (fun h_1 => ?_) (fun h_1 => ?_)
          · skip
            refine ev_g0 rfl ?_
            refine ev_retz rfl (by first | decide | exact zb_01 _) ?_
            refine ev_gU [false] [] rfl ?_
            refine ev_reti rfl ?_
            refine ev_g0 rfl ?_
            refine ev_reti rfl ?_
            refine ct_of h_MM_handles rfl rfl rfl ?_
            refine ev_g0 rfl ?_
            refine ev_inV 1 k_MM_344 h_MM_hold rfl rfl rfl rfl rfl ⟨by decide, by decide⟩ rfl ?_
            refine ev_gU [] [] rfl ?_
            refine ev_reti rfl ?_
            refine ev_gU [] [some 0] rfl ?_
            refine ev_inV 1 k_MM_371 h_MM_loadsThing rfl rfl rfl rfl rfl ⟨by decide, by decide⟩ rfl ?_
            refine ev_g0 rfl ?_
            refine ev_inV 1 k_MM_344 h_MM_hold rfl rfl rfl rfl rfl ⟨by decide, by decide⟩ rfl ?_
            refine ev_gU [] [] rfl ?_
            refine ev_reti rfl ?_
            refine ev_g0 rfl ?_
            refine ev_inV 2 k_MM_354 h_MM_takes rfl rfl rfl rfl rfl ⟨by decide, by decide⟩ rfl ?_
            refine ev_gU [false] [] rfl ?_
            refine ev_inV 2 k_MM_202 h_MM_isKind rfl rfl rfl rfl rfl ⟨by decide, by decide⟩ rfl ?_
            refine ev_gU [false, false, true, false] [] rfl ?_
            refine ev_inS 3 k_MM_188 h_MM_in rfl rfl rfl rfl ⟨by decide, by decide⟩ rfl ?_
            refine ev_gU [false, true] [] rfl ?_
            refine ev_retz rfl (by first | decide | exact zb_01 _) ?_
            refine ev_gU [true] [] rfl ?_
            refine ev_retz rfl (by first | decide | exact zb_01 _) ?_
            refine ev_gU [false] [] rfl ?_
            refine ev_retz rfl (by first | decide | exact zb_01 _) ?_
            refine ev_gU [true] [] rfl ?_
            refine ev_ret rfl ?_
            refine ev_g0 rfl ?_
            refine ev_ret rfl ?_
            exact ⟨rfl, xj, xd, xf, xo, xi, xn, nI 3, rfl, bdd, lf_U, lf_U, hC, hM⟩
          · skip
            refine ev_g0 rfl ?_
            refine ev_inS 2 k_TH_77 h_TH_isUnder rfl rfl rfl rfl ⟨by decide, by decide⟩ rfl ?_
            refine ev_gU [true] [] rfl ?_
            refine ev_retz rfl (by first | decide | exact zb_01 _) ?_
            refine ev_gU [false] [] rfl ?_
            refine ev_retz rfl (by first | decide | exact zb_01 _) ?_
            refine ev_gU [true] [] rfl ?_
            refine ev_inV 1 k_IA_60 h_TH_hasItem rfl rfl rfl rfl rfl ⟨by decide, by decide⟩ rfl ?_
            refine ev_gU [false, false] [] rfl ?_
            refine ev_retz rfl (by first | decide | exact zb_01 _) ?_
            refine ev_gU [true] [none] rfl ?_
            refine ev_inV 2 k_IA_104 h_SD_setT rfl rfl rfl rfl rfl ⟨by decide, by decide⟩ rfl ?_
            refine ev_gU [] [] rfl ?_
            refine ev_ret rfl ?_
            refine ev_g0 rfl ?_
            refine ev_reti rfl ?_
            refine ev_g0 rfl ?_
            refine ev_reti rfl ?_
            refine ct_of h_MM_handles rfl rfl rfl ?_
            refine ev_g0 rfl ?_
            refine ev_inV 1 k_MM_344 h_MM_hold rfl rfl rfl rfl rfl ⟨by decide, by decide⟩ rfl ?_
            refine ev_gU [] [] rfl ?_
            refine ev_reti rfl ?_
            refine ev_gU [] [some 0] rfl ?_
            refine ev_inV 1 k_MM_371 h_MM_loadsThing rfl rfl rfl rfl rfl ⟨by decide, by decide⟩ rfl ?_
            refine ev_g0 rfl ?_
            refine ev_inV 1 k_MM_344 h_MM_hold rfl rfl rfl rfl rfl ⟨by decide, by decide⟩ rfl ?_
            refine ev_gU [] [] rfl ?_
            refine ev_reti rfl ?_
            refine ev_g0 rfl ?_
            refine ev_inV 2 k_MM_354 h_MM_takes rfl rfl rfl rfl rfl ⟨by decide, by decide⟩ rfl ?_
            refine ev_gU [false] [] rfl ?_
            refine ev_inV 2 k_MM_202 h_MM_isKind rfl rfl rfl rfl rfl ⟨by decide, by decide⟩ rfl ?_
            refine ev_gU [false, false, true, false] [] rfl ?_
            refine ev_inS 3 k_MM_188 h_MM_in rfl rfl rfl rfl ⟨by decide, by decide⟩ rfl ?_
            refine ev_gU [false, false] [] rfl ?_
            refine ev_retz rfl (by first | decide | exact zb_01 _) ?_
            refine ev_gU [false] [] rfl ?_
            refine ev_inS 2 k_MM_192 h_MM_isOf rfl rfl rfl rfl ⟨by decide, by decide⟩ rfl ?_
            refine ev_gU [true] [] rfl ?_
            refine ev_retz rfl (by first | decide | exact zb_01 _) ?_
            refine ev_gU [false] [] rfl ?_
            refine ev_retz rfl (by first | decide | exact zb_01 _) ?_
            refine ev_gU [true] [] rfl ?_
            refine ev_retz rfl (by first | decide | exact zb_01 _) ?_
            refine ev_gU [false] [] rfl ?_
            refine ev_inV 1 k_MM_357 h_MM_is rfl rfl rfl rfl rfl ⟨by decide, by decide⟩ rfl ?_
            refine ev_gU [true, false] [] rfl ?_
            refine ev_retz rfl (by first | decide | exact zb_01 _) ?_
            refine ev_gU [false] [] rfl ?_
            refine ev_inV 1 k_MM_277 h_MM_number rfl rfl rfl rfl rfl ⟨by decide, by decide⟩ rfl ?_
            refine ev_gU [] [] rfl ?_
            refine ev_retl rfl ?_
            refine ev_g0 rfl ?_
            refine ev_inV 2 k_MM_360 h_MM_holdsIndex rfl rfl rfl rfl rfl ⟨by decide, by decide⟩ rfl ?_
            refine ev_gU [] [] rfl ?_
            refine ev_inS 3 k_MM_188 h_MM_in rfl rfl rfl rfl ⟨by decide, by decide⟩ rfl ?_
            refine ev_gU [false, false] [] rfl ?_
            refine ev_retz rfl (by first | decide | exact zb_01 _) ?_
            refine ev_gU [true] [] rfl ?_
            refine ev_retz rfl (by first | decide | exact zb_01 _) ?_
            refine ev_gU [false] [] rfl ?_
            refine ev_inV 1 k_MM_277 h_MM_number rfl rfl rfl rfl rfl ⟨by decide, by decide⟩ rfl ?_
            refine ev_gU [] [] rfl ?_
            refine ev_retl rfl ?_
            refine ev_gU [] [] rfl ?_
            refine ev_inV 2 k_MM_336 h_MM_keep rfl rfl rfl rfl rfl ⟨by decide, by decide⟩ rfl ?_
            refine ev_gU [] [] rfl ?_
            refine ev_ret rfl ?_
            refine ev_g0 rfl ?_
            refine ev_ret rfl ?_
            refine ev_g0 rfl ?_
            refine ev_ret rfl ?_
            exact ⟨rfl, xj, xd, xf, (u3 xo 0 t a (none)), xi, xn, nI 0, rfl, bdd, lf_U, lf_U, (CU_hol hC ht ha (fun _ h => by cases h) lf_U lf_U), (MU_hol hM ht ha lf_U lf_U (fun i hi => (rc_isor hC hi).2.2.1))⟩
        · skip
          refine ct_of h_IA_perform rfl rfl rfl ?_
          refine ev_g0 rfl ?_
          refine ev_inV 1 k_IA_9 h_SD_t rfl rfl rfl rfl rfl ⟨by decide, by decide⟩ rfl ?_
          refine ev_gU [] [some (94 + 4 * q)] rfl ?_
          refine ev_reta rfl ?_
          refine ev_gU [true, true, false] [] rfl ?_
          refine ev_inS 1 k_IA_28 h_IA_rowKind rfl rfl rfl rfl ⟨by decide, by decide⟩ rfl ?_
          refine ev_gU [false] [] rfl ?_
          refine ev_reti rfl ?_
          refine ev_g0 rfl ?_
          refine ev_inV 1 k_IA_17 h_SD_n rfl rfl rfl rfl rfl ⟨by decide, by decide⟩ rfl ?_
          refine ev_gU [] [] rfl ?_
          refine ev_retl rfl ?_
          refine ev_g0 rfl ?_
          refine ev_inS 5 k_IA_32 h_IA_getPart rfl rfl rfl rfl ⟨by decide, by decide⟩ rfl ?_
          refine ev_g0 rfl ?_
          refine ev_inV 1 k_IA_96 h_TH_isA rfl rfl rfl rfl rfl ⟨by decide, by decide⟩ rfl ?_
          refine ev_gU [false, false, false] [none] rfl ?_
          refine ev_bU rfl rfl (fun h_2 => ?_) (fun h_2 => ?_)
          · skip
            refine ev_g0 rfl ?_
            refine ev_retz rfl (by first | decide | exact zb_01 _) ?_
            refine ev_gU [false] [] rfl ?_
            refine ev_reti rfl ?_
            refine ev_g0 rfl ?_
            refine ev_reti rfl ?_
            refine ct_of h_MM_handles rfl rfl rfl ?_
            refine ev_g0 rfl ?_
            refine ev_inV 1 k_MM_344 h_MM_hold rfl rfl rfl rfl rfl ⟨by decide, by decide⟩ rfl ?_
            refine ev_gU [] [] rfl ?_
            refine ev_reti rfl ?_
            refine ev_gU [] [some 0] rfl ?_
            refine ev_inV 1 k_MM_371 h_MM_loadsThing rfl rfl rfl rfl rfl ⟨by decide, by decide⟩ rfl ?_
            refine ev_g0 rfl ?_
            refine ev_inV 1 k_MM_344 h_MM_hold rfl rfl rfl rfl rfl ⟨by decide, by decide⟩ rfl ?_
            refine ev_gU [] [] rfl ?_
            refine ev_reti rfl ?_
            refine ev_g0 rfl ?_
            refine ev_inV 2 k_MM_354 h_MM_takes rfl rfl rfl rfl rfl ⟨by decide, by decide⟩ rfl ?_
            refine ev_gU [false] [] rfl ?_
            refine ev_inV 2 k_MM_202 h_MM_isKind rfl rfl rfl rfl rfl ⟨by decide, by decide⟩ rfl ?_
            refine ev_gU [false, false, true, false] [] rfl ?_
            refine ev_inS 3 k_MM_188 h_MM_in rfl rfl rfl rfl ⟨by decide, by decide⟩ rfl ?_
            refine ev_gU [false, true] [] rfl ?_
            refine ev_retz rfl (by first | decide | exact zb_01 _) ?_
            refine ev_gU [true] [] rfl ?_
            refine ev_retz rfl (by first | decide | exact zb_01 _) ?_
            refine ev_gU [false] [] rfl ?_
            refine ev_retz rfl (by first | decide | exact zb_01 _) ?_
            refine ev_gU [true] [] rfl ?_
            refine ev_ret rfl ?_
            refine ev_g0 rfl ?_
            refine ev_ret rfl ?_
            exact ⟨rfl, xj, xd, xf, xo, xi, xn, nI 3, rfl, bdd, lf_U, lf_U, hC, hM⟩
          · skip
            refine ev_g0 rfl ?_
            refine ev_inS 2 k_TH_77 h_TH_isUnder rfl rfl rfl rfl ⟨by decide, by decide⟩ rfl ?_
            refine ev_gU [true] [] rfl ?_
            refine ev_retz rfl (by first | decide | exact zb_01 _) ?_
            refine ev_gU [false] [] rfl ?_
            refine ev_retz rfl (by first | decide | exact zb_01 _) ?_
            refine ev_gU [true] [] rfl ?_
            refine ev_inV 1 k_IA_60 h_TH_hasItem rfl rfl rfl rfl rfl ⟨by decide, by decide⟩ rfl ?_
            refine ev_gU [false, false] [] rfl ?_
            refine ev_retz rfl (by first | decide | exact zb_01 _) ?_
            refine ev_gU [true] [some (94 + 4 * u)] rfl ?_
            refine ev_inV 2 k_IA_104 h_SD_setT rfl rfl rfl rfl rfl ⟨by decide, by decide⟩ rfl ?_
            refine ev_gU [] [] rfl ?_
            refine ev_ret rfl ?_
            refine ev_g0 rfl ?_
            refine ev_reti rfl ?_
            refine ev_g0 rfl ?_
            refine ev_reti rfl ?_
            refine ct_of h_MM_handles rfl rfl rfl ?_
            refine ev_g0 rfl ?_
            refine ev_inV 1 k_MM_344 h_MM_hold rfl rfl rfl rfl rfl ⟨by decide, by decide⟩ rfl ?_
            refine ev_gU [] [] rfl ?_
            refine ev_reti rfl ?_
            refine ev_gU [] [some 0] rfl ?_
            refine ev_inV 1 k_MM_371 h_MM_loadsThing rfl rfl rfl rfl rfl ⟨by decide, by decide⟩ rfl ?_
            refine ev_g0 rfl ?_
            refine ev_inV 1 k_MM_344 h_MM_hold rfl rfl rfl rfl rfl ⟨by decide, by decide⟩ rfl ?_
            refine ev_gU [] [] rfl ?_
            refine ev_reti rfl ?_
            refine ev_g0 rfl ?_
            refine ev_inV 2 k_MM_354 h_MM_takes rfl rfl rfl rfl rfl ⟨by decide, by decide⟩ rfl ?_
            refine ev_gU [false] [] rfl ?_
            refine ev_inV 2 k_MM_202 h_MM_isKind rfl rfl rfl rfl rfl ⟨by decide, by decide⟩ rfl ?_
            refine ev_gU [false, false, true, false] [] rfl ?_
            refine ev_inS 3 k_MM_188 h_MM_in rfl rfl rfl rfl ⟨by decide, by decide⟩ rfl ?_
            refine ev_gU [false, false] [] rfl ?_
            refine ev_retz rfl (by first | decide | exact zb_01 _) ?_
            refine ev_gU [false] [] rfl ?_
            refine ev_inS 2 k_MM_192 h_MM_isOf rfl rfl rfl rfl ⟨by decide, by decide⟩ rfl ?_
            refine ev_gU [true] [] rfl ?_
            refine ev_retz rfl (by first | decide | exact zb_01 _) ?_
            refine ev_gU [false] [] rfl ?_
            refine ev_retz rfl (by first | decide | exact zb_01 _) ?_
            refine ev_gU [true] [] rfl ?_
            refine ev_retz rfl (by first | decide | exact zb_01 _) ?_
            refine ev_gU [false] [] rfl ?_
            refine ev_inV 1 k_MM_357 h_MM_is rfl rfl rfl rfl rfl ⟨by decide, by decide⟩ rfl ?_
            refine ev_gU [true, false] [] rfl ?_
            refine ev_retz rfl (by first | decide | exact zb_01 _) ?_
            refine ev_gU [false] [] rfl ?_
            refine ev_inV 1 k_MM_277 h_MM_number rfl rfl rfl rfl rfl ⟨by decide, by decide⟩ rfl ?_
            refine ev_gU [] [] rfl ?_
            refine ev_retl rfl ?_
            refine ev_g0 rfl ?_
            refine ev_inV 2 k_MM_360 h_MM_holdsIndex rfl rfl rfl rfl rfl ⟨by decide, by decide⟩ rfl ?_
            refine ev_gU [] [] rfl ?_
            refine ev_inS 3 k_MM_188 h_MM_in rfl rfl rfl rfl ⟨by decide, by decide⟩ rfl ?_
            refine ev_gU [false, false] [] rfl ?_
            refine ev_retz rfl (by first | decide | exact zb_01 _) ?_
            refine ev_gU [true] [] rfl ?_
            refine ev_retz rfl (by first | decide | exact zb_01 _) ?_
            refine ev_gU [false] [] rfl ?_
            refine ev_inV 1 k_MM_277 h_MM_number rfl rfl rfl rfl rfl ⟨by decide, by decide⟩ rfl ?_
            refine ev_gU [] [] rfl ?_
            refine ev_retl rfl ?_
            refine ev_gU [] [] rfl ?_
            refine ev_inV 2 k_MM_336 h_MM_keep rfl rfl rfl rfl rfl ⟨by decide, by decide⟩ rfl ?_
            refine ev_gU [] [] rfl ?_
            refine ev_ret rfl ?_
            refine ev_g0 rfl ?_
            refine ev_ret rfl ?_
            refine ev_g0 rfl ?_
            refine ev_ret rfl ?_
            exact ⟨rfl, xj, xd, xf, (u3 xo 0 t a (some u)), xi, xn, nI 0, rfl, bdd, lf_U, lf_U, (CU_hol hC ht ha (fun _ h => by cases h; exact rc_ipar hC hq hj (by omega) _ hp) lf_U lf_U), (MU_hol hM ht ha lf_U lf_U (fun i hi => (rc_isor hC hi).2.2.1))⟩
      · skip
        refine ct_of h_IA_perform rfl rfl rfl ?_
        refine ev_g0 rfl ?_
        refine ev_inV 1 k_IA_9 h_SD_t rfl rfl rfl rfl rfl ⟨by decide, by decide⟩ rfl ?_
        refine ev_gU [] [some (94 + 4 * q)] rfl ?_
        refine ev_reta rfl ?_
        refine ev_gU [true, true, false] [] rfl ?_
        refine ev_inS 1 k_IA_28 h_IA_rowKind rfl rfl rfl rfl ⟨by decide, by decide⟩ rfl ?_
        refine ev_gU [false] [] rfl ?_
        refine ev_reti rfl ?_
        refine ev_g0 rfl ?_
        refine ev_inV 1 k_IA_17 h_SD_n rfl rfl rfl rfl rfl ⟨by decide, by decide⟩ rfl ?_
        refine ev_gU [] [] rfl ?_
        refine ev_retl rfl ?_
        refine ev_g0 rfl ?_
        refine ev_inS 5 k_IA_32 h_IA_getPart rfl rfl rfl rfl ⟨by decide, by decide⟩ rfl ?_
        refine ev_g0 rfl ?_
        refine ev_inV 1 k_IA_96 h_TH_isA rfl rfl rfl rfl rfl ⟨by decide, by decide⟩ rfl ?_
        refine ev_gU [false, false, true] [none] rfl ?_
        refine ev_retz rfl (by first | decide | exact zb_01 _) ?_
        refine ev_gU [false] [] rfl ?_
        refine ev_reti rfl ?_
        refine ev_g0 rfl ?_
        refine ev_reti rfl ?_
        refine ct_of h_MM_handles rfl rfl rfl ?_
        refine ev_g0 rfl ?_
        refine ev_inV 1 k_MM_344 h_MM_hold rfl rfl rfl rfl rfl ⟨by decide, by decide⟩ rfl ?_
        refine ev_gU [] [] rfl ?_
        refine ev_reti rfl ?_
        refine ev_gU [] [some 0] rfl ?_
        refine ev_inV 1 k_MM_371 h_MM_loadsThing rfl rfl rfl rfl rfl ⟨by decide, by decide⟩ rfl ?_
        refine ev_g0 rfl ?_
        refine ev_inV 1 k_MM_344 h_MM_hold rfl rfl rfl rfl rfl ⟨by decide, by decide⟩ rfl ?_
        refine ev_gU [] [] rfl ?_
        refine ev_reti rfl ?_
        refine ev_g0 rfl ?_
        refine ev_inV 2 k_MM_354 h_MM_takes rfl rfl rfl rfl rfl ⟨by decide, by decide⟩ rfl ?_
        refine ev_gU [false] [] rfl ?_
        refine ev_inV 2 k_MM_202 h_MM_isKind rfl rfl rfl rfl rfl ⟨by decide, by decide⟩ rfl ?_
        refine ev_gU [false, false, true, false] [] rfl ?_
        refine ev_inS 3 k_MM_188 h_MM_in rfl rfl rfl rfl ⟨by decide, by decide⟩ rfl ?_
        refine ev_gU [true] [] rfl ?_
        refine ev_retz rfl (by first | decide | exact zb_01 _) ?_
        refine ev_gU [true] [] rfl ?_
        refine ev_retz rfl (by first | decide | exact zb_01 _) ?_
        refine ev_gU [false] [] rfl ?_
        refine ev_retz rfl (by first | decide | exact zb_01 _) ?_
        refine ev_gU [true] [] rfl ?_
        refine ev_ret rfl ?_
        refine ev_g0 rfl ?_
        refine ev_ret rfl ?_
        exact ⟨rfl, xj, xd, xf, xo, xi, xn, nI 3, rfl, bdd, lf_U, lf_U, hC, hM⟩
    · skip
      refine ct_of h_IA_perform rfl rfl rfl ?_
      refine ev_g0 rfl ?_
      refine ev_inV 1 k_IA_9 h_SD_t rfl rfl rfl rfl rfl ⟨by decide, by decide⟩ rfl ?_
      refine ev_gU [] [some (94 + 4 * q)] rfl ?_
      refine ev_reta rfl ?_
      refine ev_gU [true, true, false] [] rfl ?_
      refine ev_inS 1 k_IA_28 h_IA_rowKind rfl rfl rfl rfl ⟨by decide, by decide⟩ rfl ?_
      refine ev_gU [false] [] rfl ?_
      refine ev_reti rfl ?_
      refine ev_g0 rfl ?_
      refine ev_inV 1 k_IA_17 h_SD_n rfl rfl rfl rfl rfl ⟨by decide, by decide⟩ rfl ?_
      refine ev_gU [] [] rfl ?_
      refine ev_retl rfl ?_
      refine ev_g0 rfl ?_
      refine ev_inS 5 k_IA_32 h_IA_getPart rfl rfl rfl rfl ⟨by decide, by decide⟩ rfl ?_
      refine ev_g0 rfl ?_
      refine ev_inV 1 k_IA_96 h_TH_isA rfl rfl rfl rfl rfl ⟨by decide, by decide⟩ rfl ?_
      refine ev_gU [false, false] [none] rfl ?_
      refine ev_bU rfl rfl (fun h_3 => ?_) (fun h_3 => ?_)
      · skip
        refine ev_g0 rfl ?_
        refine ev_retz rfl (by first | decide | exact zb_01 _) ?_
        refine ev_gU [false] [] rfl ?_
        refine ev_reti rfl ?_
        refine ev_g0 rfl ?_
        refine ev_reti rfl ?_
        refine ct_of h_MM_handles rfl rfl rfl ?_
        refine ev_g0 rfl ?_
        refine ev_inV 1 k_MM_344 h_MM_hold rfl rfl rfl rfl rfl ⟨by decide, by decide⟩ rfl ?_
        refine ev_gU [] [] rfl ?_
        refine ev_reti rfl ?_
        refine ev_gU [] [some 0] rfl ?_
        refine ev_inV 1 k_MM_371 h_MM_loadsThing rfl rfl rfl rfl rfl ⟨by decide, by decide⟩ rfl ?_
        refine ev_g0 rfl ?_
        refine ev_inV 1 k_MM_344 h_MM_hold rfl rfl rfl rfl rfl ⟨by decide, by decide⟩ rfl ?_
        refine ev_gU [] [] rfl ?_
        refine ev_reti rfl ?_
        refine ev_g0 rfl ?_
        refine ev_inV 2 k_MM_354 h_MM_takes rfl rfl rfl rfl rfl ⟨by decide, by decide⟩ rfl ?_
        refine ev_gU [false] [] rfl ?_
        refine ev_inV 2 k_MM_202 h_MM_isKind rfl rfl rfl rfl rfl ⟨by decide, by decide⟩ rfl ?_
        refine ev_gU [false, false, true, false] [] rfl ?_
        refine ev_inS 3 k_MM_188 h_MM_in rfl rfl rfl rfl ⟨by decide, by decide⟩ rfl ?_
        refine ev_gU [true] [] rfl ?_
        refine ev_retz rfl (by first | decide | exact zb_01 _) ?_
        refine ev_gU [true] [] rfl ?_
        refine ev_retz rfl (by first | decide | exact zb_01 _) ?_
        refine ev_gU [false] [] rfl ?_
        refine ev_retz rfl (by first | decide | exact zb_01 _) ?_
        refine ev_gU [true] [] rfl ?_
        refine ev_ret rfl ?_
        refine ev_g0 rfl ?_
        refine ev_ret rfl ?_
        exact ⟨rfl, xj, xd, xf, xo, xi, xn, nI 3, rfl, bdd, lf_U, lf_U, hC, hM⟩
      · skip
        refine ev_g0 rfl ?_
        refine ev_bU rfl rfl (fun h_4 => ?_) (fun h_4 => ?_)
        · skip
          refine ev_g0 rfl ?_
          refine ev_retz rfl (by first | decide | exact zb_01 _) ?_
          refine ev_gU [false] [] rfl ?_
          refine ev_reti rfl ?_
          refine ev_g0 rfl ?_
          refine ev_reti rfl ?_
          refine ct_of h_MM_handles rfl rfl rfl ?_
          refine ev_g0 rfl ?_
          refine ev_inV 1 k_MM_344 h_MM_hold rfl rfl rfl rfl rfl ⟨by decide, by decide⟩ rfl ?_
          refine ev_gU [] [] rfl ?_
          refine ev_reti rfl ?_
          refine ev_gU [] [some 0] rfl ?_
          refine ev_inV 1 k_MM_371 h_MM_loadsThing rfl rfl rfl rfl rfl ⟨by decide, by decide⟩ rfl ?_
          refine ev_g0 rfl ?_
          refine ev_inV 1 k_MM_344 h_MM_hold rfl rfl rfl rfl rfl ⟨by decide, by decide⟩ rfl ?_
          refine ev_gU [] [] rfl ?_
          refine ev_reti rfl ?_
          refine ev_g0 rfl ?_
          refine ev_inV 2 k_MM_354 h_MM_takes rfl rfl rfl rfl rfl ⟨by decide, by decide⟩ rfl ?_
          refine ev_gU [false] [] rfl ?_
          refine ev_inV 2 k_MM_202 h_MM_isKind rfl rfl rfl rfl rfl ⟨by decide, by decide⟩ rfl ?_
          refine ev_gU [false, false, true, false] [] rfl ?_
          refine ev_inS 3 k_MM_188 h_MM_in rfl rfl rfl rfl ⟨by decide, by decide⟩ rfl ?_
          refine ev_gU [false, true] [] rfl ?_
          refine ev_retz rfl (by first | decide | exact zb_01 _) ?_
          refine ev_gU [true] [] rfl ?_
          refine ev_retz rfl (by first | decide | exact zb_01 _) ?_
          refine ev_gU [false] [] rfl ?_
          refine ev_retz rfl (by first | decide | exact zb_01 _) ?_
          refine ev_gU [true] [] rfl ?_
          refine ev_ret rfl ?_
          refine ev_g0 rfl ?_
          refine ev_ret rfl ?_
          exact ⟨rfl, xj, xd, xf, xo, xi, xn, nI 3, rfl, bdd, lf_U, lf_U, hC, hM⟩
        · skip
          refine ev_g0 rfl ?_
          refine ev_inS 2 k_TH_77 h_TH_isUnder rfl rfl rfl rfl ⟨by decide, by decide⟩ rfl ?_
          refine ev_gU [true] [] rfl ?_
          refine ev_retz rfl (by first | decide | exact zb_01 _) ?_
          refine ev_gU [false] [] rfl ?_
          refine ev_retz rfl (by first | decide | exact zb_01 _) ?_
          refine ev_gU [true] [] rfl ?_
          refine ev_inV 1 k_IA_60 h_TH_hasItem rfl rfl rfl rfl rfl ⟨by decide, by decide⟩ rfl ?_
          refine ev_g0 rfl ?_
          refine ev_bU rfl rfl (fun h_5 => ?_) (fun h_5 => ?_)
          · skip
            refine ev_g0 rfl ?_
            refine ev_retz rfl (by first | decide | exact zb_01 _) ?_
            refine ev_gU [false] [] rfl ?_
            refine ev_reti rfl ?_
            refine ev_g0 rfl ?_
            refine ev_reti rfl ?_
            refine ct_of h_MM_handles rfl rfl rfl ?_
            refine ev_g0 rfl ?_
            refine ev_inV 1 k_MM_344 h_MM_hold rfl rfl rfl rfl rfl ⟨by decide, by decide⟩ rfl ?_
            refine ev_gU [] [] rfl ?_
            refine ev_reti rfl ?_
            refine ev_gU [] [some 0] rfl ?_
            refine ev_inV 1 k_MM_371 h_MM_loadsThing rfl rfl rfl rfl rfl ⟨by decide, by decide⟩ rfl ?_
            refine ev_g0 rfl ?_
            refine ev_inV 1 k_MM_344 h_MM_hold rfl rfl rfl rfl rfl ⟨by decide, by decide⟩ rfl ?_
            refine ev_gU [] [] rfl ?_
            refine ev_reti rfl ?_
            refine ev_g0 rfl ?_
            refine ev_inV 2 k_MM_354 h_MM_takes rfl rfl rfl rfl rfl ⟨by decide, by decide⟩ rfl ?_
            refine ev_gU [false] [] rfl ?_
            refine ev_inV 2 k_MM_202 h_MM_isKind rfl rfl rfl rfl rfl ⟨by decide, by decide⟩ rfl ?_
            refine ev_gU [false, false, true, false] [] rfl ?_
            refine ev_inS 3 k_MM_188 h_MM_in rfl rfl rfl rfl ⟨by decide, by decide⟩ rfl ?_
            refine ev_gU [false, false] [] rfl ?_
            refine ev_retz rfl (by first | decide | exact zb_01 _) ?_
            refine ev_gU [false] [] rfl ?_
            refine ev_inS 2 k_MM_192 h_MM_isOf rfl rfl rfl rfl ⟨by decide, by decide⟩ rfl ?_
            refine ev_gU [true] [] rfl ?_
            refine ev_retz rfl (by first | decide | exact zb_01 _) ?_
            refine ev_gU [false] [] rfl ?_
            refine ev_retz rfl (by first | decide | exact zb_01 _) ?_
            refine ev_gU [true] [] rfl ?_
            refine ev_retz rfl (by first | decide | exact zb_01 _) ?_
            refine ev_gU [false] [] rfl ?_
            refine ev_inV 1 k_MM_357 h_MM_is rfl rfl rfl rfl rfl ⟨by decide, by decide⟩ rfl ?_
            refine ev_gU [true, false] [] rfl ?_
            refine ev_retz rfl (by first | decide | exact zb_01 _) ?_
            refine ev_gU [false] [] rfl ?_
            refine ev_inV 1 k_MM_277 h_MM_number rfl rfl rfl rfl rfl ⟨by decide, by decide⟩ rfl ?_
            refine ev_gU [] [] rfl ?_
            refine ev_retl rfl ?_
            refine ev_g0 rfl ?_
            refine ev_inV 2 k_MM_360 h_MM_holdsIndex rfl rfl rfl rfl rfl ⟨by decide, by decide⟩ rfl ?_
            refine ev_gU [] [] rfl ?_
            refine ev_inS 3 k_MM_188 h_MM_in rfl rfl rfl rfl ⟨by decide, by decide⟩ rfl ?_
            refine ev_gU [true] [] rfl ?_
            refine ev_retz rfl (by first | decide | exact zb_01 _) ?_
            refine ev_gU [false] [] rfl ?_
            refine ev_retz rfl (by first | decide | exact zb_01 _) ?_
            refine ev_gU [true] [] rfl ?_
            refine ev_ret rfl ?_
            refine ev_g0 rfl ?_
            refine ev_ret rfl ?_
            exact ⟨rfl, xj, xd, xf, xo, xi, xn, nI 2, rfl, bdd, lf_U, lf_U, hC, hM⟩
          · skip
            refine ev_gU [true] [] rfl ?_
            refine ev_retz rfl (by first | decide | exact zb_01 _) ?_
            refine ev_gU [false] [] rfl ?_
            refine ev_reti rfl ?_
            refine ev_g0 rfl ?_
            refine ev_reti rfl ?_
            refine ct_of h_MM_handles rfl rfl rfl ?_
            refine ev_g0 rfl ?_
            refine ev_inV 1 k_MM_344 h_MM_hold rfl rfl rfl rfl rfl ⟨by decide, by decide⟩ rfl ?_
            refine ev_gU [] [] rfl ?_
            refine ev_reti rfl ?_
            refine ev_gU [] [some 0] rfl ?_
            refine ev_inV 1 k_MM_371 h_MM_loadsThing rfl rfl rfl rfl rfl ⟨by decide, by decide⟩ rfl ?_
            refine ev_g0 rfl ?_
            refine ev_inV 1 k_MM_344 h_MM_hold rfl rfl rfl rfl rfl ⟨by decide, by decide⟩ rfl ?_
            refine ev_gU [] [] rfl ?_
            refine ev_reti rfl ?_
            refine ev_g0 rfl ?_
            refine ev_inV 2 k_MM_354 h_MM_takes rfl rfl rfl rfl rfl ⟨by decide, by decide⟩ rfl ?_
            refine ev_gU [false] [] rfl ?_
            refine ev_inV 2 k_MM_202 h_MM_isKind rfl rfl rfl rfl rfl ⟨by decide, by decide⟩ rfl ?_
            refine ev_gU [false, false, true, false] [] rfl ?_
            refine ev_inS 3 k_MM_188 h_MM_in rfl rfl rfl rfl ⟨by decide, by decide⟩ rfl ?_
            refine ev_gU [false, false] [] rfl ?_
            refine ev_retz rfl (by first | decide | exact zb_01 _) ?_
            refine ev_gU [false] [] rfl ?_
            refine ev_inS 2 k_MM_192 h_MM_isOf rfl rfl rfl rfl ⟨by decide, by decide⟩ rfl ?_
            refine ev_gU [true] [] rfl ?_
            refine ev_retz rfl (by first | decide | exact zb_01 _) ?_
            refine ev_gU [false] [] rfl ?_
            refine ev_retz rfl (by first | decide | exact zb_01 _) ?_
            refine ev_gU [true] [] rfl ?_
            refine ev_retz rfl (by first | decide | exact zb_01 _) ?_
            refine ev_gU [false] [] rfl ?_
            refine ev_inV 1 k_MM_357 h_MM_is rfl rfl rfl rfl rfl ⟨by decide, by decide⟩ rfl ?_
            refine ev_gU [true, false] [] rfl ?_
            refine ev_retz rfl (by first | decide | exact zb_01 _) ?_
            refine ev_gU [false] [] rfl ?_
            refine ev_inV 1 k_MM_277 h_MM_number rfl rfl rfl rfl rfl ⟨by decide, by decide⟩ rfl ?_
            refine ev_gU [] [] rfl ?_
            refine ev_retl rfl ?_
            refine ev_g0 rfl ?_
            refine ev_inV 2 k_MM_360 h_MM_holdsIndex rfl rfl rfl rfl rfl ⟨by decide, by decide⟩ rfl ?_
            refine ev_gU [] [] rfl ?_
            refine ev_inS 3 k_MM_188 h_MM_in rfl rfl rfl rfl ⟨by decide, by decide⟩ rfl ?_
            refine ev_gU [false, true] [] rfl ?_
            refine ev_retz rfl (by first | decide | exact zb_01 _) ?_
            refine ev_gU [false] [] rfl ?_
            refine ev_retz rfl (by first | decide | exact zb_01 _) ?_
            refine ev_gU [true] [] rfl ?_
            refine ev_ret rfl ?_
            refine ev_g0 rfl ?_
            refine ev_ret rfl ?_
            exact ⟨rfl, xj, xd, xf, xo, xi, xn, nI 2, rfl, bdd, lf_U, lf_U, hC, hM⟩
theorem A37 {ci : Nat → Nat → Nat → Int32} {cn : Nat → Nat → Nat → Nat} {co : Nat → Option Nat} {xj : Nat → Nat → Nat → Int64} {xd : Nat → Nat → Nat → UInt64} {xf : Nat → Nat → Nat → UInt32} {xo : Nat → Nat → Nat → Option Nat} {xi : Nat → Nat → Nat → Int32} {xn : Nat → Nat → Nat → Nat} {K : Nat → Nat} {I : Nat → Nat → Int32} {J : Nat → Nat → Int64} {F : Nat → Nat → UInt32} {D : Nat → Nat → UInt64} {R : Nat → Nat → Option Nat} {nx sl : Nat} {Km : Nat → Nat} {Im : Nat → Nat → Int32} {Jm : Nat → Nat → Int64} {Fm : Nat → Nat → UInt32} {Dm : Nat → Nat → UInt64} {Rm : Nat → Nat → Option Nat} {nxm slm : Nat} (hC : RC ci cn co xj xd xf xo xi xn I J F D R nx sl) (hM : RM ci cn co xj xd xf xo xi xn Im Jm Dm) {t a b c : Nat} {go : Int32} (ht : t < 3) (ha : a < 8) (hb : b < 8) (hc : c < 8) (x1 : Im 6 39 = nI t) (x2 : Im 6 40 = nI a) (x3 : Im 6 41 = nI b) (x4 : Im 6 42 = nI c) (x5 : Im 6 43 = nI 0) (x6 : Im 6 44 = go) : Ct Y_IA_perform [vr 8 (32 + 7 * t), vi (nI 37), vi (nI a), vi (nI b), vi (nI c)] (K, I, J, F, D, R, nx, sl) (fun r μ1 => Ct Y_MM_handles [vr 11 6, vi (nI 37)] (Km, Im, Jm, Fm, Dm, Rm, nxm, slm) (fun r2 μ2 => r2 = none ∧ QA ci cn co go r μ1 μ2)) := by
  rcases ho : xo 0 t b with _ | q
  · skip
    refine ct_of h_IA_perform rfl rfl rfl ?_
    refine ev_g0 rfl ?_
    refine ev_inV 1 k_IA_9 h_SD_t rfl rfl rfl rfl rfl ⟨by decide, by decide⟩ rfl ?_
    refine ev_gU [] [none] rfl ?_
    refine ev_retn rfl ?_
    refine ev_gU [true, true, false] [] rfl ?_
    refine ev_inS 1 k_IA_28 h_IA_rowKind rfl rfl rfl rfl ⟨by decide, by decide⟩ rfl ?_
    refine ev_gU [true, false] [] rfl ?_
    refine ev_reti rfl ?_
    refine ev_g0 rfl ?_
    refine ev_inV 1 k_IA_17 h_SD_n rfl rfl rfl rfl rfl ⟨by decide, by decide⟩ rfl ?_
    refine ev_gU [] [] rfl ?_
    refine ev_retl rfl ?_
    refine ev_g0 rfl ?_
    refine ev_inS 5 k_IA_32 h_IA_getPart rfl rfl rfl rfl ⟨by decide, by decide⟩ rfl ?_
    refine ev_g0 rfl ?_
    refine ev_reti rfl ?_
    refine ev_g0 rfl ?_
    refine ev_reti rfl ?_
    refine ct_of h_MM_handles rfl rfl rfl ?_
    refine ev_g0 rfl ?_
    refine ev_inV 1 k_MM_344 h_MM_hold rfl rfl rfl rfl rfl ⟨by decide, by decide⟩ rfl ?_
    refine ev_gU [] [] rfl ?_
    refine ev_reti rfl ?_
    refine ev_gU [] [some 1] rfl ?_
    refine ev_inV 1 k_MM_371 h_MM_loadsThing rfl rfl rfl rfl rfl ⟨by decide, by decide⟩ rfl ?_
    refine ev_g0 rfl ?_
    refine ev_inV 1 k_MM_344 h_MM_hold rfl rfl rfl rfl rfl ⟨by decide, by decide⟩ rfl ?_
    refine ev_gU [] [] rfl ?_
    refine ev_reti rfl ?_
    refine ev_g0 rfl ?_
    refine ev_inV 2 k_MM_354 h_MM_takes rfl rfl rfl rfl rfl ⟨by decide, by decide⟩ rfl ?_
    refine ev_gU [true] [] rfl ?_
    refine ev_retz rfl (by first | decide | exact zb_01 _) ?_
    refine ev_gU [false] [] rfl ?_
    refine ev_inV 1 k_MM_357 h_MM_is rfl rfl rfl rfl rfl ⟨by decide, by decide⟩ rfl ?_
    refine ev_gU [false, true] [] rfl ?_
    refine ev_retz rfl (by first | decide | exact zb_01 _) ?_
    refine ev_gU [true] [] rfl ?_
    refine ev_ret rfl ?_
    refine ev_g0 rfl ?_
    refine ev_ret rfl ?_
    exact ⟨rfl, xj, xd, xf, xo, xi, xn, nI 1, rfl, bdd, lf_U, lf_U, hC, hM⟩
  · skip
    have hq := rc_ihol hC ht hb _ ho
    have zq := rc_isor hC hq
    have yq := rc_imad hC
    rcases ixc (xj 0 t c) (xn 1 q 0) with ⟨j, hj, hi⟩ | hi
    · skip
      by_cases hk8 : 8 ≤ xn 0 q 0
      · skip
        rcases hp : xo 1 q j with _ | u
        · skip
          refine ct_of h_IA_perform rfl rfl rfl ?_
          refine ev_g0 rfl ?_
          refine ev_inV 1 k_IA_9 h_SD_t rfl rfl rfl rfl rfl ⟨by decide, by decide⟩ rfl ?_
          refine ev_gU [] [some (94 + 4 * q)] rfl ?_
          refine ev_reta rfl ?_
          refine ev_gU [true, true, false] [] rfl ?_
          refine ev_inS 1 k_IA_28 h_IA_rowKind rfl rfl rfl rfl ⟨by decide, by decide⟩ rfl ?_
          refine ev_gU [true, false] [] rfl ?_
          refine ev_reti rfl ?_
          refine ev_g0 rfl ?_
          refine ev_inV 1 k_IA_17 h_SD_n rfl rfl rfl rfl rfl ⟨by decide, by decide⟩ rfl ?_
          refine ev_gU [] [] rfl ?_
          refine ev_retl rfl ?_
          refine ev_g0 rfl ?_
          refine ev_inS 5 k_IA_32 h_IA_getPart rfl rfl rfl rfl ⟨by decide, by decide⟩ rfl ?_
          refine ev_g0 rfl ?_
          refine ev_inV 1 k_IA_96 h_TH_isA rfl rfl rfl rfl rfl ⟨by decide, by decide⟩ rfl ?_
          refine ev_gU [false, true, true] [none] rfl ?_
          refine ev_bU rfl rfl (fun h_1 => ?_) (fun h_1 => ?_)
          · skip
            refine ev_g0 rfl ?_
            refine ev_retz rfl (by first | decide | exact zb_01 _) ?_
            refine ev_gU [false] [] rfl ?_
            refine ev_reti rfl ?_
            refine ev_g0 rfl ?_
            refine ev_reti rfl ?_
            refine ct_of h_MM_handles rfl rfl rfl ?_
            refine ev_g0 rfl ?_
            refine ev_inV 1 k_MM_344 h_MM_hold rfl rfl rfl rfl rfl ⟨by decide, by decide⟩ rfl ?_
            refine ev_gU [] [] rfl ?_
            refine ev_reti rfl ?_
            refine ev_gU [] [some 1] rfl ?_
            refine ev_inV 1 k_MM_371 h_MM_loadsThing rfl rfl rfl rfl rfl ⟨by decide, by decide⟩ rfl ?_
            refine ev_g0 rfl ?_
            refine ev_inV 1 k_MM_344 h_MM_hold rfl rfl rfl rfl rfl ⟨by decide, by decide⟩ rfl ?_
            refine ev_gU [] [] rfl ?_
            refine ev_reti rfl ?_
            refine ev_g0 rfl ?_
            refine ev_inV 2 k_MM_354 h_MM_takes rfl rfl rfl rfl rfl ⟨by decide, by decide⟩ rfl ?_
            refine ev_gU [false] [] rfl ?_
            refine ev_inV 2 k_MM_202 h_MM_isKind rfl rfl rfl rfl rfl ⟨by decide, by decide⟩ rfl ?_
            refine ev_gU [false, true, true] [] rfl ?_
            refine ev_retz rfl (by first | decide | exact zb_01 _) ?_
            refine ev_gU [false] [] rfl ?_
            refine ev_retz rfl (by first | decide | exact zb_01 _) ?_
            refine ev_gU [true] [] rfl ?_
            refine ev_ret rfl ?_
            refine ev_g0 rfl ?_
            refine ev_ret rfl ?_
            exact ⟨rfl, xj, xd, xf, xo, xi, xn, nI 3, rfl, bdd, lf_U, lf_U, hC, hM⟩
          · skip
            refine ev_g0 rfl ?_
            refine ev_retz rfl (by first | decide | exact zb_01 _) ?_
            refine ev_gU [true] [] rfl ?_
            refine ev_inV 1 k_IA_60 h_TH_hasItem rfl rfl rfl rfl rfl ⟨by decide, by decide⟩ rfl ?_
            refine ev_gU [false, false] [] rfl ?_
            refine ev_retz rfl (by first | decide | exact zb_01 _) ?_
            refine ev_gU [true] [none] rfl ?_
            refine ev_inV 2 k_IA_104 h_SD_setT rfl rfl rfl rfl rfl ⟨by decide, by decide⟩ rfl ?_
            refine ev_gU [] [] rfl ?_
            refine ev_ret rfl ?_
            refine ev_g0 rfl ?_
            refine ev_reti rfl ?_
            refine ev_g0 rfl ?_
            refine ev_reti rfl ?_
            refine ct_of h_MM_handles rfl rfl rfl ?_
            refine ev_g0 rfl ?_
            refine ev_inV 1 k_MM_344 h_MM_hold rfl rfl rfl rfl rfl ⟨by decide, by decide⟩ rfl ?_
            refine ev_gU [] [] rfl ?_
            refine ev_reti rfl ?_
            refine ev_gU [] [some 1] rfl ?_
            refine ev_inV 1 k_MM_371 h_MM_loadsThing rfl rfl rfl rfl rfl ⟨by decide, by decide⟩ rfl ?_
            refine ev_g0 rfl ?_
            refine ev_inV 1 k_MM_344 h_MM_hold rfl rfl rfl rfl rfl ⟨by decide, by decide⟩ rfl ?_
            refine ev_gU [] [] rfl ?_
            refine ev_reti rfl ?_
            refine ev_g0 rfl ?_
            refine ev_inV 2 k_MM_354 h_MM_takes rfl rfl rfl rfl rfl ⟨by decide, by decide⟩ rfl ?_
            refine ev_gU [false] [] rfl ?_
            refine ev_inV 2 k_MM_202 h_MM_isKind rfl rfl rfl rfl rfl ⟨by decide, by decide⟩ rfl ?_
            refine ev_gU [false, true, false] [] rfl ?_
            refine ev_retz rfl (by first | decide | exact zb_01 _) ?_
            refine ev_gU [true] [] rfl ?_
            refine ev_retz rfl (by first | decide | exact zb_01 _) ?_
            refine ev_gU [false] [] rfl ?_
            refine ev_inV 1 k_MM_357 h_MM_is rfl rfl rfl rfl rfl ⟨by decide, by decide⟩ rfl ?_
            refine ev_gU [true, false] [] rfl ?_
            refine ev_retz rfl (by first | decide | exact zb_01 _) ?_
            refine ev_gU [false] [] rfl ?_
            refine ev_inV 1 k_MM_277 h_MM_number rfl rfl rfl rfl rfl ⟨by decide, by decide⟩ rfl ?_
            refine ev_gU [] [] rfl ?_
            refine ev_retl rfl ?_
            refine ev_g0 rfl ?_
            refine ev_inV 2 k_MM_360 h_MM_holdsIndex rfl rfl rfl rfl rfl ⟨by decide, by decide⟩ rfl ?_
            refine ev_gU [] [] rfl ?_
            refine ev_inS 3 k_MM_188 h_MM_in rfl rfl rfl rfl ⟨by decide, by decide⟩ rfl ?_
            refine ev_gU [false, false] [] rfl ?_
            refine ev_retz rfl (by first | decide | exact zb_01 _) ?_
            refine ev_gU [true] [] rfl ?_
            refine ev_retz rfl (by first | decide | exact zb_01 _) ?_
            refine ev_gU [false] [] rfl ?_
            refine ev_inV 1 k_MM_277 h_MM_number rfl rfl rfl rfl rfl ⟨by decide, by decide⟩ rfl ?_
            refine ev_gU [] [] rfl ?_
            refine ev_retl rfl ?_
            refine ev_gU [] [] rfl ?_
            refine ev_inV 2 k_MM_336 h_MM_keep rfl rfl rfl rfl rfl ⟨by decide, by decide⟩ rfl ?_
            refine ev_gU [] [] rfl ?_
            refine ev_ret rfl ?_
            refine ev_g0 rfl ?_
            refine ev_ret rfl ?_
            refine ev_g0 rfl ?_
            refine ev_ret rfl ?_
            exact ⟨rfl, xj, xd, xf, (u3 xo 0 t a (none)), xi, xn, nI 0, rfl, bdd, lf_U, lf_U, (CU_hol hC ht ha (fun _ h => by cases h) lf_U lf_U), (MU_hol hM ht ha lf_U lf_U (fun i hi => (rc_isor hC hi).2.2.1))⟩
        · skip
          refine ct_of h_IA_perform rfl rfl rfl ?_
          refine ev_g0 rfl ?_
          refine ev_inV 1 k_IA_9 h_SD_t rfl rfl rfl rfl rfl ⟨by decide, by decide⟩ rfl ?_
          refine ev_gU [] [some (94 + 4 * q)] rfl ?_
          refine ev_reta rfl ?_
          refine ev_gU [true, true, false] [] rfl ?_
          refine ev_inS 1 k_IA_28 h_IA_rowKind rfl rfl rfl rfl ⟨by decide, by decide⟩ rfl ?_
          refine ev_gU [true, false] [] rfl ?_
          refine ev_reti rfl ?_
          refine ev_g0 rfl ?_
          refine ev_inV 1 k_IA_17 h_SD_n rfl rfl rfl rfl rfl ⟨by decide, by decide⟩ rfl ?_
          refine ev_gU [] [] rfl ?_
          refine ev_retl rfl ?_
          refine ev_g0 rfl ?_
          refine ev_inS 5 k_IA_32 h_IA_getPart rfl rfl rfl rfl ⟨by decide, by decide⟩ rfl ?_
          refine ev_g0 rfl ?_
          refine ev_inV 1 k_IA_96 h_TH_isA rfl rfl rfl rfl rfl ⟨by decide, by decide⟩ rfl ?_
          refine ev_gU [false, true, true] [none] rfl ?_
          refine ev_bU rfl rfl (fun h_2 => ?_) (fun h_2 => ?_)
          · skip
            refine ev_g0 rfl ?_
            refine ev_retz rfl (by first | decide | exact zb_01 _) ?_
            refine ev_gU [false] [] rfl ?_
            refine ev_reti rfl ?_
            refine ev_g0 rfl ?_
            refine ev_reti rfl ?_
            refine ct_of h_MM_handles rfl rfl rfl ?_
            refine ev_g0 rfl ?_
            refine ev_inV 1 k_MM_344 h_MM_hold rfl rfl rfl rfl rfl ⟨by decide, by decide⟩ rfl ?_
            refine ev_gU [] [] rfl ?_
            refine ev_reti rfl ?_
            refine ev_gU [] [some 1] rfl ?_
            refine ev_inV 1 k_MM_371 h_MM_loadsThing rfl rfl rfl rfl rfl ⟨by decide, by decide⟩ rfl ?_
            refine ev_g0 rfl ?_
            refine ev_inV 1 k_MM_344 h_MM_hold rfl rfl rfl rfl rfl ⟨by decide, by decide⟩ rfl ?_
            refine ev_gU [] [] rfl ?_
            refine ev_reti rfl ?_
            refine ev_g0 rfl ?_
            refine ev_inV 2 k_MM_354 h_MM_takes rfl rfl rfl rfl rfl ⟨by decide, by decide⟩ rfl ?_
            refine ev_gU [false] [] rfl ?_
            refine ev_inV 2 k_MM_202 h_MM_isKind rfl rfl rfl rfl rfl ⟨by decide, by decide⟩ rfl ?_
            refine ev_gU [false, true, true] [] rfl ?_
            refine ev_retz rfl (by first | decide | exact zb_01 _) ?_
            refine ev_gU [false] [] rfl ?_
            refine ev_retz rfl (by first | decide | exact zb_01 _) ?_
            refine ev_gU [true] [] rfl ?_
            refine ev_ret rfl ?_
            refine ev_g0 rfl ?_
            refine ev_ret rfl ?_
            exact ⟨rfl, xj, xd, xf, xo, xi, xn, nI 3, rfl, bdd, lf_U, lf_U, hC, hM⟩
          · skip
            refine ev_g0 rfl ?_
            refine ev_retz rfl (by first | decide | exact zb_01 _) ?_
            refine ev_gU [true] [] rfl ?_
            refine ev_inV 1 k_IA_60 h_TH_hasItem rfl rfl rfl rfl rfl ⟨by decide, by decide⟩ rfl ?_
            refine ev_gU [false, false] [] rfl ?_
            refine ev_retz rfl (by first | decide | exact zb_01 _) ?_
            refine ev_gU [true] [some (94 + 4 * u)] rfl ?_
            refine ev_inV 2 k_IA_104 h_SD_setT rfl rfl rfl rfl rfl ⟨by decide, by decide⟩ rfl ?_
            refine ev_gU [] [] rfl ?_
            refine ev_ret rfl ?_
            refine ev_g0 rfl ?_
            refine ev_reti rfl ?_
            refine ev_g0 rfl ?_
            refine ev_reti rfl ?_
            refine ct_of h_MM_handles rfl rfl rfl ?_
            refine ev_g0 rfl ?_
            refine ev_inV 1 k_MM_344 h_MM_hold rfl rfl rfl rfl rfl ⟨by decide, by decide⟩ rfl ?_
            refine ev_gU [] [] rfl ?_
            refine ev_reti rfl ?_
            refine ev_gU [] [some 1] rfl ?_
            refine ev_inV 1 k_MM_371 h_MM_loadsThing rfl rfl rfl rfl rfl ⟨by decide, by decide⟩ rfl ?_
            refine ev_g0 rfl ?_
            refine ev_inV 1 k_MM_344 h_MM_hold rfl rfl rfl rfl rfl ⟨by decide, by decide⟩ rfl ?_
            refine ev_gU [] [] rfl ?_
            refine ev_reti rfl ?_
            refine ev_g0 rfl ?_
            refine ev_inV 2 k_MM_354 h_MM_takes rfl rfl rfl rfl rfl ⟨by decide, by decide⟩ rfl ?_
            refine ev_gU [false] [] rfl ?_
            refine ev_inV 2 k_MM_202 h_MM_isKind rfl rfl rfl rfl rfl ⟨by decide, by decide⟩ rfl ?_
            refine ev_gU [false, true, false] [] rfl ?_
            refine ev_retz rfl (by first | decide | exact zb_01 _) ?_
            refine ev_gU [true] [] rfl ?_
            refine ev_retz rfl (by first | decide | exact zb_01 _) ?_
            refine ev_gU [false] [] rfl ?_
            refine ev_inV 1 k_MM_357 h_MM_is rfl rfl rfl rfl rfl ⟨by decide, by decide⟩ rfl ?_
            refine ev_gU [true, false] [] rfl ?_
            refine ev_retz rfl (by first | decide | exact zb_01 _) ?_
            refine ev_gU [false] [] rfl ?_
            refine ev_inV 1 k_MM_277 h_MM_number rfl rfl rfl rfl rfl ⟨by decide, by decide⟩ rfl ?_
            refine ev_gU [] [] rfl ?_
            refine ev_retl rfl ?_
            refine ev_g0 rfl ?_
            refine ev_inV 2 k_MM_360 h_MM_holdsIndex rfl rfl rfl rfl rfl ⟨by decide, by decide⟩ rfl ?_
            refine ev_gU [] [] rfl ?_
            refine ev_inS 3 k_MM_188 h_MM_in rfl rfl rfl rfl ⟨by decide, by decide⟩ rfl ?_
            refine ev_gU [false, false] [] rfl ?_
            refine ev_retz rfl (by first | decide | exact zb_01 _) ?_
            refine ev_gU [true] [] rfl ?_
            refine ev_retz rfl (by first | decide | exact zb_01 _) ?_
            refine ev_gU [false] [] rfl ?_
            refine ev_inV 1 k_MM_277 h_MM_number rfl rfl rfl rfl rfl ⟨by decide, by decide⟩ rfl ?_
            refine ev_gU [] [] rfl ?_
            refine ev_retl rfl ?_
            refine ev_gU [] [] rfl ?_
            refine ev_inV 2 k_MM_336 h_MM_keep rfl rfl rfl rfl rfl ⟨by decide, by decide⟩ rfl ?_
            refine ev_gU [] [] rfl ?_
            refine ev_ret rfl ?_
            refine ev_g0 rfl ?_
            refine ev_ret rfl ?_
            refine ev_g0 rfl ?_
            refine ev_ret rfl ?_
            exact ⟨rfl, xj, xd, xf, (u3 xo 0 t a (some u)), xi, xn, nI 0, rfl, bdd, lf_U, lf_U, (CU_hol hC ht ha (fun _ h => by cases h; exact rc_ipar hC hq hj (by omega) _ hp) lf_U lf_U), (MU_hol hM ht ha lf_U lf_U (fun i hi => (rc_isor hC hi).2.2.1))⟩
      · skip
        refine ct_of h_IA_perform rfl rfl rfl ?_
        refine ev_g0 rfl ?_
        refine ev_inV 1 k_IA_9 h_SD_t rfl rfl rfl rfl rfl ⟨by decide, by decide⟩ rfl ?_
        refine ev_gU [] [some (94 + 4 * q)] rfl ?_
        refine ev_reta rfl ?_
        refine ev_gU [true, true, false] [] rfl ?_
        refine ev_inS 1 k_IA_28 h_IA_rowKind rfl rfl rfl rfl ⟨by decide, by decide⟩ rfl ?_
        refine ev_gU [true, false] [] rfl ?_
        refine ev_reti rfl ?_
        refine ev_g0 rfl ?_
        refine ev_inV 1 k_IA_17 h_SD_n rfl rfl rfl rfl rfl ⟨by decide, by decide⟩ rfl ?_
        refine ev_gU [] [] rfl ?_
        refine ev_retl rfl ?_
        refine ev_g0 rfl ?_
        refine ev_inS 5 k_IA_32 h_IA_getPart rfl rfl rfl rfl ⟨by decide, by decide⟩ rfl ?_
        refine ev_g0 rfl ?_
        refine ev_inV 1 k_IA_96 h_TH_isA rfl rfl rfl rfl rfl ⟨by decide, by decide⟩ rfl ?_
        refine ev_gU [false, true, true, true] [none] rfl ?_
        refine ev_retz rfl (by first | decide | exact zb_01 _) ?_
        refine ev_gU [false] [] rfl ?_
        refine ev_reti rfl ?_
        refine ev_g0 rfl ?_
        refine ev_reti rfl ?_
        refine ct_of h_MM_handles rfl rfl rfl ?_
        refine ev_g0 rfl ?_
        refine ev_inV 1 k_MM_344 h_MM_hold rfl rfl rfl rfl rfl ⟨by decide, by decide⟩ rfl ?_
        refine ev_gU [] [] rfl ?_
        refine ev_reti rfl ?_
        refine ev_gU [] [some 1] rfl ?_
        refine ev_inV 1 k_MM_371 h_MM_loadsThing rfl rfl rfl rfl rfl ⟨by decide, by decide⟩ rfl ?_
        refine ev_g0 rfl ?_
        refine ev_inV 1 k_MM_344 h_MM_hold rfl rfl rfl rfl rfl ⟨by decide, by decide⟩ rfl ?_
        refine ev_gU [] [] rfl ?_
        refine ev_reti rfl ?_
        refine ev_g0 rfl ?_
        refine ev_inV 2 k_MM_354 h_MM_takes rfl rfl rfl rfl rfl ⟨by decide, by decide⟩ rfl ?_
        refine ev_gU [false] [] rfl ?_
        refine ev_inV 2 k_MM_202 h_MM_isKind rfl rfl rfl rfl rfl ⟨by decide, by decide⟩ rfl ?_
        refine ev_gU [false, true, true] [] rfl ?_
        refine ev_retz rfl (by first | decide | exact zb_01 _) ?_
        refine ev_gU [false] [] rfl ?_
        refine ev_retz rfl (by first | decide | exact zb_01 _) ?_
        refine ev_gU [true] [] rfl ?_
        refine ev_ret rfl ?_
        refine ev_g0 rfl ?_
        refine ev_ret rfl ?_
        exact ⟨rfl, xj, xd, xf, xo, xi, xn, nI 3, rfl, bdd, lf_U, lf_U, hC, hM⟩
    · skip
      refine ct_of h_IA_perform rfl rfl rfl ?_
      refine ev_g0 rfl ?_
      refine ev_inV 1 k_IA_9 h_SD_t rfl rfl rfl rfl rfl ⟨by decide, by decide⟩ rfl ?_
      refine ev_gU [] [some (94 + 4 * q)] rfl ?_
      refine ev_reta rfl ?_
      refine ev_gU [true, true, false] [] rfl ?_
      refine ev_inS 1 k_IA_28 h_IA_rowKind rfl rfl rfl rfl ⟨by decide, by decide⟩ rfl ?_
      refine ev_gU [true, false] [] rfl ?_
      refine ev_reti rfl ?_
      refine ev_g0 rfl ?_
      refine ev_inV 1 k_IA_17 h_SD_n rfl rfl rfl rfl rfl ⟨by decide, by decide⟩ rfl ?_
      refine ev_gU [] [] rfl ?_
      refine ev_retl rfl ?_
      refine ev_g0 rfl ?_
      refine ev_inS 5 k_IA_32 h_IA_getPart rfl rfl rfl rfl ⟨by decide, by decide⟩ rfl ?_
      refine ev_g0 rfl ?_
      refine ev_inV 1 k_IA_96 h_TH_isA rfl rfl rfl rfl rfl ⟨by decide, by decide⟩ rfl ?_
      refine ev_gU [false, true, true] [none] rfl ?_
      refine ev_bU rfl rfl (fun h_3 => ?_) (fun h_3 => ?_)
      · skip
        refine ev_g0 rfl ?_
        refine ev_retz rfl (by first | decide | exact zb_01 _) ?_
        refine ev_gU [false] [] rfl ?_
        refine ev_reti rfl ?_
        refine ev_g0 rfl ?_
        refine ev_reti rfl ?_
        refine ct_of h_MM_handles rfl rfl rfl ?_
        refine ev_g0 rfl ?_
        refine ev_inV 1 k_MM_344 h_MM_hold rfl rfl rfl rfl rfl ⟨by decide, by decide⟩ rfl ?_
        refine ev_gU [] [] rfl ?_
        refine ev_reti rfl ?_
        refine ev_gU [] [some 1] rfl ?_
        refine ev_inV 1 k_MM_371 h_MM_loadsThing rfl rfl rfl rfl rfl ⟨by decide, by decide⟩ rfl ?_
        refine ev_g0 rfl ?_
        refine ev_inV 1 k_MM_344 h_MM_hold rfl rfl rfl rfl rfl ⟨by decide, by decide⟩ rfl ?_
        refine ev_gU [] [] rfl ?_
        refine ev_reti rfl ?_
        refine ev_g0 rfl ?_
        refine ev_inV 2 k_MM_354 h_MM_takes rfl rfl rfl rfl rfl ⟨by decide, by decide⟩ rfl ?_
        refine ev_gU [false] [] rfl ?_
        refine ev_inV 2 k_MM_202 h_MM_isKind rfl rfl rfl rfl rfl ⟨by decide, by decide⟩ rfl ?_
        refine ev_gU [false, true, true] [] rfl ?_
        refine ev_retz rfl (by first | decide | exact zb_01 _) ?_
        refine ev_gU [false] [] rfl ?_
        refine ev_retz rfl (by first | decide | exact zb_01 _) ?_
        refine ev_gU [true] [] rfl ?_
        refine ev_ret rfl ?_
        refine ev_g0 rfl ?_
        refine ev_ret rfl ?_
        exact ⟨rfl, xj, xd, xf, xo, xi, xn, nI 3, rfl, bdd, lf_U, lf_U, hC, hM⟩
      · skip
        refine ev_g0 rfl ?_
        refine ev_retz rfl (by first | decide | exact zb_01 _) ?_
        refine ev_gU [true] [] rfl ?_
        refine ev_inV 1 k_IA_60 h_TH_hasItem rfl rfl rfl rfl rfl ⟨by decide, by decide⟩ rfl ?_
        refine ev_g0 rfl ?_
        refine ev_bU rfl rfl (fun h_4 => ?_) (fun h_4 => ?_)
        · skip
          refine ev_g0 rfl ?_
          refine ev_retz rfl (by first | decide | exact zb_01 _) ?_
          refine ev_gU [false] [] rfl ?_
          refine ev_reti rfl ?_
          refine ev_g0 rfl ?_
          refine ev_reti rfl ?_
          refine ct_of h_MM_handles rfl rfl rfl ?_
          refine ev_g0 rfl ?_
          refine ev_inV 1 k_MM_344 h_MM_hold rfl rfl rfl rfl rfl ⟨by decide, by decide⟩ rfl ?_
          refine ev_gU [] [] rfl ?_
          refine ev_reti rfl ?_
          refine ev_gU [] [some 1] rfl ?_
          refine ev_inV 1 k_MM_371 h_MM_loadsThing rfl rfl rfl rfl rfl ⟨by decide, by decide⟩ rfl ?_
          refine ev_g0 rfl ?_
          refine ev_inV 1 k_MM_344 h_MM_hold rfl rfl rfl rfl rfl ⟨by decide, by decide⟩ rfl ?_
          refine ev_gU [] [] rfl ?_
          refine ev_reti rfl ?_
          refine ev_g0 rfl ?_
          refine ev_inV 2 k_MM_354 h_MM_takes rfl rfl rfl rfl rfl ⟨by decide, by decide⟩ rfl ?_
          refine ev_gU [false] [] rfl ?_
          refine ev_inV 2 k_MM_202 h_MM_isKind rfl rfl rfl rfl rfl ⟨by decide, by decide⟩ rfl ?_
          refine ev_gU [false, true, false] [] rfl ?_
          refine ev_retz rfl (by first | decide | exact zb_01 _) ?_
          refine ev_gU [true] [] rfl ?_
          refine ev_retz rfl (by first | decide | exact zb_01 _) ?_
          refine ev_gU [false] [] rfl ?_
          refine ev_inV 1 k_MM_357 h_MM_is rfl rfl rfl rfl rfl ⟨by decide, by decide⟩ rfl ?_
          refine ev_gU [true, false] [] rfl ?_
          refine ev_retz rfl (by first | decide | exact zb_01 _) ?_
          refine ev_gU [false] [] rfl ?_
          refine ev_inV 1 k_MM_277 h_MM_number rfl rfl rfl rfl rfl ⟨by decide, by decide⟩ rfl ?_
          refine ev_gU [] [] rfl ?_
          refine ev_retl rfl ?_
          refine ev_g0 rfl ?_
          refine ev_inV 2 k_MM_360 h_MM_holdsIndex rfl rfl rfl rfl rfl ⟨by decide, by decide⟩ rfl ?_
          refine ev_gU [] [] rfl ?_
          refine ev_inS 3 k_MM_188 h_MM_in rfl rfl rfl rfl ⟨by decide, by decide⟩ rfl ?_
          refine ev_gU [true] [] rfl ?_
          refine ev_retz rfl (by first | decide | exact zb_01 _) ?_
          refine ev_gU [false] [] rfl ?_
          refine ev_retz rfl (by first | decide | exact zb_01 _) ?_
          refine ev_gU [true] [] rfl ?_
          refine ev_ret rfl ?_
          refine ev_g0 rfl ?_
          refine ev_ret rfl ?_
          exact ⟨rfl, xj, xd, xf, xo, xi, xn, nI 2, rfl, bdd, lf_U, lf_U, hC, hM⟩
        · skip
          refine ev_gU [true] [] rfl ?_
          refine ev_retz rfl (by first | decide | exact zb_01 _) ?_
          refine ev_gU [false] [] rfl ?_
          refine ev_reti rfl ?_
          refine ev_g0 rfl ?_
          refine ev_reti rfl ?_
          refine ct_of h_MM_handles rfl rfl rfl ?_
          refine ev_g0 rfl ?_
          refine ev_inV 1 k_MM_344 h_MM_hold rfl rfl rfl rfl rfl ⟨by decide, by decide⟩ rfl ?_
          refine ev_gU [] [] rfl ?_
          refine ev_reti rfl ?_
          refine ev_gU [] [some 1] rfl ?_
          refine ev_inV 1 k_MM_371 h_MM_loadsThing rfl rfl rfl rfl rfl ⟨by decide, by decide⟩ rfl ?_
          refine ev_g0 rfl ?_
          refine ev_inV 1 k_MM_344 h_MM_hold rfl rfl rfl rfl rfl ⟨by decide, by decide⟩ rfl ?_
          refine ev_gU [] [] rfl ?_
          refine ev_reti rfl ?_
          refine ev_g0 rfl ?_
          refine ev_inV 2 k_MM_354 h_MM_takes rfl rfl rfl rfl rfl ⟨by decide, by decide⟩ rfl ?_
          refine ev_gU [false] [] rfl ?_
          refine ev_inV 2 k_MM_202 h_MM_isKind rfl rfl rfl rfl rfl ⟨by decide, by decide⟩ rfl ?_
          refine ev_gU [false, true, false] [] rfl ?_
          refine ev_retz rfl (by first | decide | exact zb_01 _) ?_
          refine ev_gU [true] [] rfl ?_
          refine ev_retz rfl (by first | decide | exact zb_01 _) ?_
          refine ev_gU [false] [] rfl ?_
          refine ev_inV 1 k_MM_357 h_MM_is rfl rfl rfl rfl rfl ⟨by decide, by decide⟩ rfl ?_
          refine ev_gU [true, false] [] rfl ?_
          refine ev_retz rfl (by first | decide | exact zb_01 _) ?_
          refine ev_gU [false] [] rfl ?_
          refine ev_inV 1 k_MM_277 h_MM_number rfl rfl rfl rfl rfl ⟨by decide, by decide⟩ rfl ?_
          refine ev_gU [] [] rfl ?_
          refine ev_retl rfl ?_
          refine ev_g0 rfl ?_
          refine ev_inV 2 k_MM_360 h_MM_holdsIndex rfl rfl rfl rfl rfl ⟨by decide, by decide⟩ rfl ?_
          refine ev_gU [] [] rfl ?_
          refine ev_inS 3 k_MM_188 h_MM_in rfl rfl rfl rfl ⟨by decide, by decide⟩ rfl ?_
          refine ev_gU [false, true] [] rfl ?_
          refine ev_retz rfl (by first | decide | exact zb_01 _) ?_
          refine ev_gU [false] [] rfl ?_
          refine ev_retz rfl (by first | decide | exact zb_01 _) ?_
          refine ev_gU [true] [] rfl ?_
          refine ev_ret rfl ?_
          refine ev_g0 rfl ?_
          refine ev_ret rfl ?_
          exact ⟨rfl, xj, xd, xf, xo, xi, xn, nI 2, rfl, bdd, lf_U, lf_U, hC, hM⟩
theorem A38 {ci : Nat → Nat → Nat → Int32} {cn : Nat → Nat → Nat → Nat} {co : Nat → Option Nat} {xj : Nat → Nat → Nat → Int64} {xd : Nat → Nat → Nat → UInt64} {xf : Nat → Nat → Nat → UInt32} {xo : Nat → Nat → Nat → Option Nat} {xi : Nat → Nat → Nat → Int32} {xn : Nat → Nat → Nat → Nat} {K : Nat → Nat} {I : Nat → Nat → Int32} {J : Nat → Nat → Int64} {F : Nat → Nat → UInt32} {D : Nat → Nat → UInt64} {R : Nat → Nat → Option Nat} {nx sl : Nat} {Km : Nat → Nat} {Im : Nat → Nat → Int32} {Jm : Nat → Nat → Int64} {Fm : Nat → Nat → UInt32} {Dm : Nat → Nat → UInt64} {Rm : Nat → Nat → Option Nat} {nxm slm : Nat} (hC : RC ci cn co xj xd xf xo xi xn I J F D R nx sl) (hM : RM ci cn co xj xd xf xo xi xn Im Jm Dm) {t a b c : Nat} {go : Int32} (ht : t < 3) (ha : a < 8) (hb : b < 8) (hc : c < 8) (x1 : Im 6 39 = nI t) (x2 : Im 6 40 = nI a) (x3 : Im 6 41 = nI b) (x4 : Im 6 42 = nI c) (x5 : Im 6 43 = nI 0) (x6 : Im 6 44 = go) : Ct Y_IA_perform [vr 8 (32 + 7 * t), vi (nI 38), vi (nI a), vi (nI b), vi (nI c)] (K, I, J, F, D, R, nx, sl) (fun r μ1 => Ct Y_MM_handles [vr 11 6, vi (nI 38)] (Km, Im, Jm, Fm, Dm, Rm, nxm, slm) (fun r2 μ2 => r2 = none ∧ QA ci cn co go r μ1 μ2)) := by
  rcases ho : xo 0 t b with _ | q
  · skip
    refine ct_of h_IA_perform rfl rfl rfl ?_
    refine ev_g0 rfl ?_
    refine ev_inV 1 k_IA_9 h_SD_t rfl rfl rfl rfl rfl ⟨by decide, by decide⟩ rfl ?_
    refine ev_gU [] [none] rfl ?_
    refine ev_retn rfl ?_
    refine ev_gU [true, true, false] [] rfl ?_
    refine ev_inS 1 k_IA_28 h_IA_rowKind rfl rfl rfl rfl ⟨by decide, by decide⟩ rfl ?_
    refine ev_gU [true, true] [] rfl ?_
    refine ev_reti rfl ?_
    refine ev_g0 rfl ?_
    refine ev_inV 1 k_IA_17 h_SD_n rfl rfl rfl rfl rfl ⟨by decide, by decide⟩ rfl ?_
    refine ev_gU [] [] rfl ?_
    refine ev_retl rfl ?_
    refine ev_g0 rfl ?_
    refine ev_inS 5 k_IA_32 h_IA_getPart rfl rfl rfl rfl ⟨by decide, by decide⟩ rfl ?_
    refine ev_g0 rfl ?_
    refine ev_reti rfl ?_
    refine ev_g0 rfl ?_
    refine ev_reti rfl ?_
    refine ct_of h_MM_handles rfl rfl rfl ?_
    refine ev_g0 rfl ?_
    refine ev_inV 1 k_MM_344 h_MM_hold rfl rfl rfl rfl rfl ⟨by decide, by decide⟩ rfl ?_
    refine ev_gU [] [] rfl ?_
    refine ev_reti rfl ?_
    refine ev_gU [] [some 2] rfl ?_
    refine ev_inV 1 k_MM_371 h_MM_loadsThing rfl rfl rfl rfl rfl ⟨by decide, by decide⟩ rfl ?_
    refine ev_g0 rfl ?_
    refine ev_inV 1 k_MM_344 h_MM_hold rfl rfl rfl rfl rfl ⟨by decide, by decide⟩ rfl ?_
    refine ev_gU [] [] rfl ?_
    refine ev_reti rfl ?_
    refine ev_g0 rfl ?_
    refine ev_inV 2 k_MM_354 h_MM_takes rfl rfl rfl rfl rfl ⟨by decide, by decide⟩ rfl ?_
    refine ev_gU [true] [] rfl ?_
    refine ev_retz rfl (by first | decide | exact zb_01 _) ?_
    refine ev_gU [false] [] rfl ?_
    refine ev_inV 1 k_MM_357 h_MM_is rfl rfl rfl rfl rfl ⟨by decide, by decide⟩ rfl ?_
    refine ev_gU [false, true] [] rfl ?_
    refine ev_retz rfl (by first | decide | exact zb_01 _) ?_
    refine ev_gU [true] [] rfl ?_
    refine ev_ret rfl ?_
    refine ev_g0 rfl ?_
    refine ev_ret rfl ?_
    exact ⟨rfl, xj, xd, xf, xo, xi, xn, nI 1, rfl, bdd, lf_U, lf_U, hC, hM⟩
  · skip
    have hq := rc_ihol hC ht hb _ ho
    have zq := rc_isor hC hq
    have yq := rc_imad hC
    rcases ixc (xj 0 t c) (xn 1 q 0) with ⟨j, hj, hi⟩ | hi
    · skip
      by_cases hk8 : 8 ≤ xn 0 q 0
      · skip
        rcases hp : xo 1 q j with _ | u
        · skip
          refine ct_of h_IA_perform rfl rfl rfl ?_
          refine ev_g0 rfl ?_
          refine ev_inV 1 k_IA_9 h_SD_t rfl rfl rfl rfl rfl ⟨by decide, by decide⟩ rfl ?_
          refine ev_gU [] [some (94 + 4 * q)] rfl ?_
          refine ev_reta rfl ?_
          refine ev_gU [true, true, false] [] rfl ?_
          refine ev_inS 1 k_IA_28 h_IA_rowKind rfl rfl rfl rfl ⟨by decide, by decide⟩ rfl ?_
          refine ev_gU [true, true] [] rfl ?_
          refine ev_reti rfl ?_
          refine ev_g0 rfl ?_
          refine ev_inV 1 k_IA_17 h_SD_n rfl rfl rfl rfl rfl ⟨by decide, by decide⟩ rfl ?_
          refine ev_gU [] [] rfl ?_
          refine ev_retl rfl ?_
          refine ev_g0 rfl ?_
          refine ev_inS 5 k_IA_32 h_IA_getPart rfl rfl rfl rfl ⟨by decide, by decide⟩ rfl ?_
          refine ev_g0 rfl ?_
          refine ev_inV 1 k_IA_96 h_TH_isA rfl rfl rfl rfl rfl ⟨by decide, by decide⟩ rfl ?_
          refine ev_gU [false, true, true] [none] rfl ?_
          refine ev_bU rfl rfl (fun h_1 => ?_) (fun h_1 => ?_)
          · skip
            refine ev_g0 rfl ?_
            refine ev_retz rfl (by first | decide | exact zb_01 _) ?_
            refine ev_gU [false] [] rfl ?_
            refine ev_reti rfl ?_
            refine ev_g0 rfl ?_
            refine ev_reti rfl ?_
            refine ct_of h_MM_handles rfl rfl rfl ?_
            refine ev_g0 rfl ?_
            refine ev_inV 1 k_MM_344 h_MM_hold rfl rfl rfl rfl rfl ⟨by decide, by decide⟩ rfl ?_
            refine ev_gU [] [] rfl ?_
            refine ev_reti rfl ?_
            refine ev_gU [] [some 2] rfl ?_
            refine ev_inV 1 k_MM_371 h_MM_loadsThing rfl rfl rfl rfl rfl ⟨by decide, by decide⟩ rfl ?_
            refine ev_g0 rfl ?_
            refine ev_inV 1 k_MM_344 h_MM_hold rfl rfl rfl rfl rfl ⟨by decide, by decide⟩ rfl ?_
            refine ev_gU [] [] rfl ?_
            refine ev_reti rfl ?_
            refine ev_g0 rfl ?_
            refine ev_inV 2 k_MM_354 h_MM_takes rfl rfl rfl rfl rfl ⟨by decide, by decide⟩ rfl ?_
            refine ev_gU [false] [] rfl ?_
            refine ev_inV 2 k_MM_202 h_MM_isKind rfl rfl rfl rfl rfl ⟨by decide, by decide⟩ rfl ?_
            refine ev_gU [false, false, false, true] [] rfl ?_
            refine ev_retz rfl (by first | decide | exact zb_01 _) ?_
            refine ev_gU [false] [] rfl ?_
            refine ev_retz rfl (by first | decide | exact zb_01 _) ?_
            refine ev_gU [true] [] rfl ?_
            refine ev_ret rfl ?_
            refine ev_g0 rfl ?_
            refine ev_ret rfl ?_
            exact ⟨rfl, xj, xd, xf, xo, xi, xn, nI 3, rfl, bdd, lf_U, lf_U, hC, hM⟩
          · skip
            refine ev_g0 rfl ?_
            refine ev_retz rfl (by first | decide | exact zb_01 _) ?_
            refine ev_gU [true] [] rfl ?_
            refine ev_inV 1 k_IA_60 h_TH_hasItem rfl rfl rfl rfl rfl ⟨by decide, by decide⟩ rfl ?_
            refine ev_gU [false, false] [] rfl ?_
            refine ev_retz rfl (by first | decide | exact zb_01 _) ?_
            refine ev_gU [true] [none] rfl ?_
            refine ev_inV 2 k_IA_104 h_SD_setT rfl rfl rfl rfl rfl ⟨by decide, by decide⟩ rfl ?_
            refine ev_gU [] [] rfl ?_
            refine ev_ret rfl ?_
            refine ev_g0 rfl ?_
            refine ev_reti rfl ?_
            refine ev_g0 rfl ?_
            refine ev_reti rfl ?_
            refine ct_of h_MM_handles rfl rfl rfl ?_
            refine ev_g0 rfl ?_
            refine ev_inV 1 k_MM_344 h_MM_hold rfl rfl rfl rfl rfl ⟨by decide, by decide⟩ rfl ?_
            refine ev_gU [] [] rfl ?_
            refine ev_reti rfl ?_
            refine ev_gU [] [some 2] rfl ?_
            refine ev_inV 1 k_MM_371 h_MM_loadsThing rfl rfl rfl rfl rfl ⟨by decide, by decide⟩ rfl ?_
            refine ev_g0 rfl ?_
            refine ev_inV 1 k_MM_344 h_MM_hold rfl rfl rfl rfl rfl ⟨by decide, by decide⟩ rfl ?_
            refine ev_gU [] [] rfl ?_
            refine ev_reti rfl ?_
            refine ev_g0 rfl ?_
            refine ev_inV 2 k_MM_354 h_MM_takes rfl rfl rfl rfl rfl ⟨by decide, by decide⟩ rfl ?_
            refine ev_gU [false] [] rfl ?_
            refine ev_inV 2 k_MM_202 h_MM_isKind rfl rfl rfl rfl rfl ⟨by decide, by decide⟩ rfl ?_
            refine ev_gU [false, false, false, false] [] rfl ?_
            refine ev_retz rfl (by first | decide | exact zb_01 _) ?_
            refine ev_gU [true] [] rfl ?_
            refine ev_retz rfl (by first | decide | exact zb_01 _) ?_
            refine ev_gU [false] [] rfl ?_
            refine ev_inV 1 k_MM_357 h_MM_is rfl rfl rfl rfl rfl ⟨by decide, by decide⟩ rfl ?_
            refine ev_gU [true, false] [] rfl ?_
            refine ev_retz rfl (by first | decide | exact zb_01 _) ?_
            refine ev_gU [false] [] rfl ?_
            refine ev_inV 1 k_MM_277 h_MM_number rfl rfl rfl rfl rfl ⟨by decide, by decide⟩ rfl ?_
            refine ev_gU [] [] rfl ?_
            refine ev_retl rfl ?_
            refine ev_g0 rfl ?_
            refine ev_inV 2 k_MM_360 h_MM_holdsIndex rfl rfl rfl rfl rfl ⟨by decide, by decide⟩ rfl ?_
            refine ev_gU [] [] rfl ?_
            refine ev_inS 3 k_MM_188 h_MM_in rfl rfl rfl rfl ⟨by decide, by decide⟩ rfl ?_
            refine ev_gU [false, false] [] rfl ?_
            refine ev_retz rfl (by first | decide | exact zb_01 _) ?_
            refine ev_gU [true] [] rfl ?_
            refine ev_retz rfl (by first | decide | exact zb_01 _) ?_
            refine ev_gU [false] [] rfl ?_
            refine ev_inV 1 k_MM_277 h_MM_number rfl rfl rfl rfl rfl ⟨by decide, by decide⟩ rfl ?_
            refine ev_gU [] [] rfl ?_
            refine ev_retl rfl ?_
            refine ev_gU [] [] rfl ?_
            refine ev_inV 2 k_MM_336 h_MM_keep rfl rfl rfl rfl rfl ⟨by decide, by decide⟩ rfl ?_
            refine ev_gU [] [] rfl ?_
            refine ev_ret rfl ?_
            refine ev_g0 rfl ?_
            refine ev_ret rfl ?_
            refine ev_g0 rfl ?_
            refine ev_ret rfl ?_
            exact ⟨rfl, xj, xd, xf, (u3 xo 0 t a (none)), xi, xn, nI 0, rfl, bdd, lf_U, lf_U, (CU_hol hC ht ha (fun _ h => by cases h) lf_U lf_U), (MU_hol hM ht ha lf_U lf_U (fun i hi => (rc_isor hC hi).2.2.1))⟩
        · skip
          refine ct_of h_IA_perform rfl rfl rfl ?_
          refine ev_g0 rfl ?_
          refine ev_inV 1 k_IA_9 h_SD_t rfl rfl rfl rfl rfl ⟨by decide, by decide⟩ rfl ?_
          refine ev_gU [] [some (94 + 4 * q)] rfl ?_
          refine ev_reta rfl ?_
          refine ev_gU [true, true, false] [] rfl ?_
          refine ev_inS 1 k_IA_28 h_IA_rowKind rfl rfl rfl rfl ⟨by decide, by decide⟩ rfl ?_
          refine ev_gU [true, true] [] rfl ?_
          refine ev_reti rfl ?_
          refine ev_g0 rfl ?_
          refine ev_inV 1 k_IA_17 h_SD_n rfl rfl rfl rfl rfl ⟨by decide, by decide⟩ rfl ?_
          refine ev_gU [] [] rfl ?_
          refine ev_retl rfl ?_
          refine ev_g0 rfl ?_
          refine ev_inS 5 k_IA_32 h_IA_getPart rfl rfl rfl rfl ⟨by decide, by decide⟩ rfl ?_
          refine ev_g0 rfl ?_
          refine ev_inV 1 k_IA_96 h_TH_isA rfl rfl rfl rfl rfl ⟨by decide, by decide⟩ rfl ?_
          refine ev_gU [false, true, true] [none] rfl ?_
          refine ev_bU rfl rfl (fun h_2 => ?_) (fun h_2 => ?_)
          · skip
            refine ev_g0 rfl ?_
            refine ev_retz rfl (by first | decide | exact zb_01 _) ?_
            refine ev_gU [false] [] rfl ?_
            refine ev_reti rfl ?_
            refine ev_g0 rfl ?_
            refine ev_reti rfl ?_
            refine ct_of h_MM_handles rfl rfl rfl ?_
            refine ev_g0 rfl ?_
            refine ev_inV 1 k_MM_344 h_MM_hold rfl rfl rfl rfl rfl ⟨by decide, by decide⟩ rfl ?_
            refine ev_gU [] [] rfl ?_
            refine ev_reti rfl ?_
            refine ev_gU [] [some 2] rfl ?_
            refine ev_inV 1 k_MM_371 h_MM_loadsThing rfl rfl rfl rfl rfl ⟨by decide, by decide⟩ rfl ?_
            refine ev_g0 rfl ?_
            refine ev_inV 1 k_MM_344 h_MM_hold rfl rfl rfl rfl rfl ⟨by decide, by decide⟩ rfl ?_
            refine ev_gU [] [] rfl ?_
            refine ev_reti rfl ?_
            refine ev_g0 rfl ?_
            refine ev_inV 2 k_MM_354 h_MM_takes rfl rfl rfl rfl rfl ⟨by decide, by decide⟩ rfl ?_
            refine ev_gU [false] [] rfl ?_
            refine ev_inV 2 k_MM_202 h_MM_isKind rfl rfl rfl rfl rfl ⟨by decide, by decide⟩ rfl ?_
            refine ev_gU [false, false, false, true] [] rfl ?_
            refine ev_retz rfl (by first | decide | exact zb_01 _) ?_
            refine ev_gU [false] [] rfl ?_
            refine ev_retz rfl (by first | decide | exact zb_01 _) ?_
            refine ev_gU [true] [] rfl ?_
            refine ev_ret rfl ?_
            refine ev_g0 rfl ?_
            refine ev_ret rfl ?_
            exact ⟨rfl, xj, xd, xf, xo, xi, xn, nI 3, rfl, bdd, lf_U, lf_U, hC, hM⟩
          · skip
            refine ev_g0 rfl ?_
            refine ev_retz rfl (by first | decide | exact zb_01 _) ?_
            refine ev_gU [true] [] rfl ?_
            refine ev_inV 1 k_IA_60 h_TH_hasItem rfl rfl rfl rfl rfl ⟨by decide, by decide⟩ rfl ?_
            refine ev_gU [false, false] [] rfl ?_
            refine ev_retz rfl (by first | decide | exact zb_01 _) ?_
            refine ev_gU [true] [some (94 + 4 * u)] rfl ?_
            refine ev_inV 2 k_IA_104 h_SD_setT rfl rfl rfl rfl rfl ⟨by decide, by decide⟩ rfl ?_
            refine ev_gU [] [] rfl ?_
            refine ev_ret rfl ?_
            refine ev_g0 rfl ?_
            refine ev_reti rfl ?_
            refine ev_g0 rfl ?_
            refine ev_reti rfl ?_
            refine ct_of h_MM_handles rfl rfl rfl ?_
            refine ev_g0 rfl ?_
            refine ev_inV 1 k_MM_344 h_MM_hold rfl rfl rfl rfl rfl ⟨by decide, by decide⟩ rfl ?_
            refine ev_gU [] [] rfl ?_
            refine ev_reti rfl ?_
            refine ev_gU [] [some 2] rfl ?_
            refine ev_inV 1 k_MM_371 h_MM_loadsThing rfl rfl rfl rfl rfl ⟨by decide, by decide⟩ rfl ?_
            refine ev_g0 rfl ?_
            refine ev_inV 1 k_MM_344 h_MM_hold rfl rfl rfl rfl rfl ⟨by decide, by decide⟩ rfl ?_
            refine ev_gU [] [] rfl ?_
            refine ev_reti rfl ?_
            refine ev_g0 rfl ?_
            refine ev_inV 2 k_MM_354 h_MM_takes rfl rfl rfl rfl rfl ⟨by decide, by decide⟩ rfl ?_
            refine ev_gU [false] [] rfl ?_
            refine ev_inV 2 k_MM_202 h_MM_isKind rfl rfl rfl rfl rfl ⟨by decide, by decide⟩ rfl ?_
            refine ev_gU [false, false, false, false] [] rfl ?_
            refine ev_retz rfl (by first | decide | exact zb_01 _) ?_
            refine ev_gU [true] [] rfl ?_
            refine ev_retz rfl (by first | decide | exact zb_01 _) ?_
            refine ev_gU [false] [] rfl ?_
            refine ev_inV 1 k_MM_357 h_MM_is rfl rfl rfl rfl rfl ⟨by decide, by decide⟩ rfl ?_
            refine ev_gU [true, false] [] rfl ?_
            refine ev_retz rfl (by first | decide | exact zb_01 _) ?_
            refine ev_gU [false] [] rfl ?_
            refine ev_inV 1 k_MM_277 h_MM_number rfl rfl rfl rfl rfl ⟨by decide, by decide⟩ rfl ?_
            refine ev_gU [] [] rfl ?_
            refine ev_retl rfl ?_
            refine ev_g0 rfl ?_
            refine ev_inV 2 k_MM_360 h_MM_holdsIndex rfl rfl rfl rfl rfl ⟨by decide, by decide⟩ rfl ?_
            refine ev_gU [] [] rfl ?_
            refine ev_inS 3 k_MM_188 h_MM_in rfl rfl rfl rfl ⟨by decide, by decide⟩ rfl ?_
            refine ev_gU [false, false] [] rfl ?_
            refine ev_retz rfl (by first | decide | exact zb_01 _) ?_
            refine ev_gU [true] [] rfl ?_
            refine ev_retz rfl (by first | decide | exact zb_01 _) ?_
            refine ev_gU [false] [] rfl ?_
            refine ev_inV 1 k_MM_277 h_MM_number rfl rfl rfl rfl rfl ⟨by decide, by decide⟩ rfl ?_
            refine ev_gU [] [] rfl ?_
            refine ev_retl rfl ?_
            refine ev_gU [] [] rfl ?_
            refine ev_inV 2 k_MM_336 h_MM_keep rfl rfl rfl rfl rfl ⟨by decide, by decide⟩ rfl ?_
            refine ev_gU [] [] rfl ?_
            refine ev_ret rfl ?_
            refine ev_g0 rfl ?_
            refine ev_ret rfl ?_
            refine ev_g0 rfl ?_
            refine ev_ret rfl ?_
            exact ⟨rfl, xj, xd, xf, (u3 xo 0 t a (some u)), xi, xn, nI 0, rfl, bdd, lf_U, lf_U, (CU_hol hC ht ha (fun _ h => by cases h; exact rc_ipar hC hq hj (by omega) _ hp) lf_U lf_U), (MU_hol hM ht ha lf_U lf_U (fun i hi => (rc_isor hC hi).2.2.1))⟩
      · skip
        refine ct_of h_IA_perform rfl rfl rfl ?_
        refine ev_g0 rfl ?_
        refine ev_inV 1 k_IA_9 h_SD_t rfl rfl rfl rfl rfl ⟨by decide, by decide⟩ rfl ?_
        refine ev_gU [] [some (94 + 4 * q)] rfl ?_
        refine ev_reta rfl ?_
        refine ev_gU [true, true, false] [] rfl ?_
        refine ev_inS 1 k_IA_28 h_IA_rowKind rfl rfl rfl rfl ⟨by decide, by decide⟩ rfl ?_
        refine ev_gU [true, true] [] rfl ?_
        refine ev_reti rfl ?_
        refine ev_g0 rfl ?_
        refine ev_inV 1 k_IA_17 h_SD_n rfl rfl rfl rfl rfl ⟨by decide, by decide⟩ rfl ?_
        refine ev_gU [] [] rfl ?_
        refine ev_retl rfl ?_
        refine ev_g0 rfl ?_
        refine ev_inS 5 k_IA_32 h_IA_getPart rfl rfl rfl rfl ⟨by decide, by decide⟩ rfl ?_
        refine ev_g0 rfl ?_
        refine ev_inV 1 k_IA_96 h_TH_isA rfl rfl rfl rfl rfl ⟨by decide, by decide⟩ rfl ?_
        refine ev_gU [false, true, true, true] [none] rfl ?_
        refine ev_retz rfl (by first | decide | exact zb_01 _) ?_
        refine ev_gU [false] [] rfl ?_
        refine ev_reti rfl ?_
        refine ev_g0 rfl ?_
        refine ev_reti rfl ?_
        refine ct_of h_MM_handles rfl rfl rfl ?_
        refine ev_g0 rfl ?_
        refine ev_inV 1 k_MM_344 h_MM_hold rfl rfl rfl rfl rfl ⟨by decide, by decide⟩ rfl ?_
        refine ev_gU [] [] rfl ?_
        refine ev_reti rfl ?_
        refine ev_gU [] [some 2] rfl ?_
        refine ev_inV 1 k_MM_371 h_MM_loadsThing rfl rfl rfl rfl rfl ⟨by decide, by decide⟩ rfl ?_
        refine ev_g0 rfl ?_
        refine ev_inV 1 k_MM_344 h_MM_hold rfl rfl rfl rfl rfl ⟨by decide, by decide⟩ rfl ?_
        refine ev_gU [] [] rfl ?_
        refine ev_reti rfl ?_
        refine ev_g0 rfl ?_
        refine ev_inV 2 k_MM_354 h_MM_takes rfl rfl rfl rfl rfl ⟨by decide, by decide⟩ rfl ?_
        refine ev_gU [false] [] rfl ?_
        refine ev_inV 2 k_MM_202 h_MM_isKind rfl rfl rfl rfl rfl ⟨by decide, by decide⟩ rfl ?_
        refine ev_gU [false, false, false, true] [] rfl ?_
        refine ev_retz rfl (by first | decide | exact zb_01 _) ?_
        refine ev_gU [false] [] rfl ?_
        refine ev_retz rfl (by first | decide | exact zb_01 _) ?_
        refine ev_gU [true] [] rfl ?_
        refine ev_ret rfl ?_
        refine ev_g0 rfl ?_
        refine ev_ret rfl ?_
        exact ⟨rfl, xj, xd, xf, xo, xi, xn, nI 3, rfl, bdd, lf_U, lf_U, hC, hM⟩
    · skip
      refine ct_of h_IA_perform rfl rfl rfl ?_
      refine ev_g0 rfl ?_
      refine ev_inV 1 k_IA_9 h_SD_t rfl rfl rfl rfl rfl ⟨by decide, by decide⟩ rfl ?_
      refine ev_gU [] [some (94 + 4 * q)] rfl ?_
      refine ev_reta rfl ?_
      refine ev_gU [true, true, false] [] rfl ?_
      refine ev_inS 1 k_IA_28 h_IA_rowKind rfl rfl rfl rfl ⟨by decide, by decide⟩ rfl ?_
      refine ev_gU [true, true] [] rfl ?_
      refine ev_reti rfl ?_
      refine ev_g0 rfl ?_
      refine ev_inV 1 k_IA_17 h_SD_n rfl rfl rfl rfl rfl ⟨by decide, by decide⟩ rfl ?_
      refine ev_gU [] [] rfl ?_
      refine ev_retl rfl ?_
      refine ev_g0 rfl ?_
      refine ev_inS 5 k_IA_32 h_IA_getPart rfl rfl rfl rfl ⟨by decide, by decide⟩ rfl ?_
      refine ev_g0 rfl ?_
      refine ev_inV 1 k_IA_96 h_TH_isA rfl rfl rfl rfl rfl ⟨by decide, by decide⟩ rfl ?_
      refine ev_gU [false, true, true] [none] rfl ?_
      refine ev_bU rfl rfl (fun h_3 => ?_) (fun h_3 => ?_)
      · skip
        refine ev_g0 rfl ?_
        refine ev_retz rfl (by first | decide | exact zb_01 _) ?_
        refine ev_gU [false] [] rfl ?_
        refine ev_reti rfl ?_
        refine ev_g0 rfl ?_
        refine ev_reti rfl ?_
        refine ct_of h_MM_handles rfl rfl rfl ?_
        refine ev_g0 rfl ?_
        refine ev_inV 1 k_MM_344 h_MM_hold rfl rfl rfl rfl rfl ⟨by decide, by decide⟩ rfl ?_
        refine ev_gU [] [] rfl ?_
        refine ev_reti rfl ?_
        refine ev_gU [] [some 2] rfl ?_
        refine ev_inV 1 k_MM_371 h_MM_loadsThing rfl rfl rfl rfl rfl ⟨by decide, by decide⟩ rfl ?_
        refine ev_g0 rfl ?_
        refine ev_inV 1 k_MM_344 h_MM_hold rfl rfl rfl rfl rfl ⟨by decide, by decide⟩ rfl ?_
        refine ev_gU [] [] rfl ?_
        refine ev_reti rfl ?_
        refine ev_g0 rfl ?_
        refine ev_inV 2 k_MM_354 h_MM_takes rfl rfl rfl rfl rfl ⟨by decide, by decide⟩ rfl ?_
        refine ev_gU [false] [] rfl ?_
        refine ev_inV 2 k_MM_202 h_MM_isKind rfl rfl rfl rfl rfl ⟨by decide, by decide⟩ rfl ?_
        refine ev_gU [false, false, false, true] [] rfl ?_
        refine ev_retz rfl (by first | decide | exact zb_01 _) ?_
        refine ev_gU [false] [] rfl ?_
        refine ev_retz rfl (by first | decide | exact zb_01 _) ?_
        refine ev_gU [true] [] rfl ?_
        refine ev_ret rfl ?_
        refine ev_g0 rfl ?_
        refine ev_ret rfl ?_
        exact ⟨rfl, xj, xd, xf, xo, xi, xn, nI 3, rfl, bdd, lf_U, lf_U, hC, hM⟩
      · skip
        refine ev_g0 rfl ?_
        refine ev_retz rfl (by first | decide | exact zb_01 _) ?_
        refine ev_gU [true] [] rfl ?_
        refine ev_inV 1 k_IA_60 h_TH_hasItem rfl rfl rfl rfl rfl ⟨by decide, by decide⟩ rfl ?_
        refine ev_g0 rfl ?_
        refine ev_bU rfl rfl (fun h_4 => ?_) (fun h_4 => ?_)
        · skip
          refine ev_g0 rfl ?_
          refine ev_retz rfl (by first | decide | exact zb_01 _) ?_
          refine ev_gU [false] [] rfl ?_
          refine ev_reti rfl ?_
          refine ev_g0 rfl ?_
          refine ev_reti rfl ?_
          refine ct_of h_MM_handles rfl rfl rfl ?_
          refine ev_g0 rfl ?_
          refine ev_inV 1 k_MM_344 h_MM_hold rfl rfl rfl rfl rfl ⟨by decide, by decide⟩ rfl ?_
          refine ev_gU [] [] rfl ?_
          refine ev_reti rfl ?_
          refine ev_gU [] [some 2] rfl ?_
          refine ev_inV 1 k_MM_371 h_MM_loadsThing rfl rfl rfl rfl rfl ⟨by decide, by decide⟩ rfl ?_
          refine ev_g0 rfl ?_
          refine ev_inV 1 k_MM_344 h_MM_hold rfl rfl rfl rfl rfl ⟨by decide, by decide⟩ rfl ?_
          refine ev_gU [] [] rfl ?_
          refine ev_reti rfl ?_
          refine ev_g0 rfl ?_
          refine ev_inV 2 k_MM_354 h_MM_takes rfl rfl rfl rfl rfl ⟨by decide, by decide⟩ rfl ?_
          refine ev_gU [false] [] rfl ?_
          refine ev_inV 2 k_MM_202 h_MM_isKind rfl rfl rfl rfl rfl ⟨by decide, by decide⟩ rfl ?_
          refine ev_gU [false, false, false, false] [] rfl ?_
          refine ev_retz rfl (by first | decide | exact zb_01 _) ?_
          refine ev_gU [true] [] rfl ?_
          refine ev_retz rfl (by first | decide | exact zb_01 _) ?_
          refine ev_gU [false] [] rfl ?_
          refine ev_inV 1 k_MM_357 h_MM_is rfl rfl rfl rfl rfl ⟨by decide, by decide⟩ rfl ?_
          refine ev_gU [true, false] [] rfl ?_
          refine ev_retz rfl (by first | decide | exact zb_01 _) ?_
          refine ev_gU [false] [] rfl ?_
          refine ev_inV 1 k_MM_277 h_MM_number rfl rfl rfl rfl rfl ⟨by decide, by decide⟩ rfl ?_
          refine ev_gU [] [] rfl ?_
          refine ev_retl rfl ?_
          refine ev_g0 rfl ?_
          refine ev_inV 2 k_MM_360 h_MM_holdsIndex rfl rfl rfl rfl rfl ⟨by decide, by decide⟩ rfl ?_
          refine ev_gU [] [] rfl ?_
          refine ev_inS 3 k_MM_188 h_MM_in rfl rfl rfl rfl ⟨by decide, by decide⟩ rfl ?_
          refine ev_gU [true] [] rfl ?_
          refine ev_retz rfl (by first | decide | exact zb_01 _) ?_
          refine ev_gU [false] [] rfl ?_
          refine ev_retz rfl (by first | decide | exact zb_01 _) ?_
          refine ev_gU [true] [] rfl ?_
          refine ev_ret rfl ?_
          refine ev_g0 rfl ?_
          refine ev_ret rfl ?_
          exact ⟨rfl, xj, xd, xf, xo, xi, xn, nI 2, rfl, bdd, lf_U, lf_U, hC, hM⟩
        · skip
          refine ev_gU [true] [] rfl ?_
          refine ev_retz rfl (by first | decide | exact zb_01 _) ?_
          refine ev_gU [false] [] rfl ?_
          refine ev_reti rfl ?_
          refine ev_g0 rfl ?_
          refine ev_reti rfl ?_
          refine ct_of h_MM_handles rfl rfl rfl ?_
          refine ev_g0 rfl ?_
          refine ev_inV 1 k_MM_344 h_MM_hold rfl rfl rfl rfl rfl ⟨by decide, by decide⟩ rfl ?_
          refine ev_gU [] [] rfl ?_
          refine ev_reti rfl ?_
          refine ev_gU [] [some 2] rfl ?_
          refine ev_inV 1 k_MM_371 h_MM_loadsThing rfl rfl rfl rfl rfl ⟨by decide, by decide⟩ rfl ?_
          refine ev_g0 rfl ?_
          refine ev_inV 1 k_MM_344 h_MM_hold rfl rfl rfl rfl rfl ⟨by decide, by decide⟩ rfl ?_
          refine ev_gU [] [] rfl ?_
          refine ev_reti rfl ?_
          refine ev_g0 rfl ?_
          refine ev_inV 2 k_MM_354 h_MM_takes rfl rfl rfl rfl rfl ⟨by decide, by decide⟩ rfl ?_
          refine ev_gU [false] [] rfl ?_
          refine ev_inV 2 k_MM_202 h_MM_isKind rfl rfl rfl rfl rfl ⟨by decide, by decide⟩ rfl ?_
          refine ev_gU [false, false, false, false] [] rfl ?_
          refine ev_retz rfl (by first | decide | exact zb_01 _) ?_
          refine ev_gU [true] [] rfl ?_
          refine ev_retz rfl (by first | decide | exact zb_01 _) ?_
          refine ev_gU [false] [] rfl ?_
          refine ev_inV 1 k_MM_357 h_MM_is rfl rfl rfl rfl rfl ⟨by decide, by decide⟩ rfl ?_
          refine ev_gU [true, false] [] rfl ?_
          refine ev_retz rfl (by first | decide | exact zb_01 _) ?_
          refine ev_gU [false] [] rfl ?_
          refine ev_inV 1 k_MM_277 h_MM_number rfl rfl rfl rfl rfl ⟨by decide, by decide⟩ rfl ?_
          refine ev_gU [] [] rfl ?_
          refine ev_retl rfl ?_
          refine ev_g0 rfl ?_
          refine ev_inV 2 k_MM_360 h_MM_holdsIndex rfl rfl rfl rfl rfl ⟨by decide, by decide⟩ rfl ?_
          refine ev_gU [] [] rfl ?_
          refine ev_inS 3 k_MM_188 h_MM_in rfl rfl rfl rfl ⟨by decide, by decide⟩ rfl ?_
          refine ev_gU [false, true] [] rfl ?_
          refine ev_retz rfl (by first | decide | exact zb_01 _) ?_
          refine ev_gU [false] [] rfl ?_
          refine ev_retz rfl (by first | decide | exact zb_01 _) ?_
          refine ev_gU [true] [] rfl ?_
          refine ev_ret rfl ?_
          refine ev_g0 rfl ?_
          refine ev_ret rfl ?_
          exact ⟨rfl, xj, xd, xf, xo, xi, xn, nI 2, rfl, bdd, lf_U, lf_U, hC, hM⟩
theorem A39 {ci : Nat → Nat → Nat → Int32} {cn : Nat → Nat → Nat → Nat} {co : Nat → Option Nat} {xj : Nat → Nat → Nat → Int64} {xd : Nat → Nat → Nat → UInt64} {xf : Nat → Nat → Nat → UInt32} {xo : Nat → Nat → Nat → Option Nat} {xi : Nat → Nat → Nat → Int32} {xn : Nat → Nat → Nat → Nat} {K : Nat → Nat} {I : Nat → Nat → Int32} {J : Nat → Nat → Int64} {F : Nat → Nat → UInt32} {D : Nat → Nat → UInt64} {R : Nat → Nat → Option Nat} {nx sl : Nat} {Km : Nat → Nat} {Im : Nat → Nat → Int32} {Jm : Nat → Nat → Int64} {Fm : Nat → Nat → UInt32} {Dm : Nat → Nat → UInt64} {Rm : Nat → Nat → Option Nat} {nxm slm : Nat} (hC : RC ci cn co xj xd xf xo xi xn I J F D R nx sl) (hM : RM ci cn co xj xd xf xo xi xn Im Jm Dm) {t a b c : Nat} {go : Int32} (ht : t < 3) (ha : a < 8) (hb : b < 8) (hc : c < 8) (x1 : Im 6 39 = nI t) (x2 : Im 6 40 = nI a) (x3 : Im 6 41 = nI b) (x4 : Im 6 42 = nI c) (x5 : Im 6 43 = nI 0) (x6 : Im 6 44 = go) : Ct Y_IA_perform [vr 8 (32 + 7 * t), vi (nI 39), vi (nI a), vi (nI b), vi (nI c)] (K, I, J, F, D, R, nx, sl) (fun r μ1 => Ct Y_MM_handles [vr 11 6, vi (nI 39)] (Km, Im, Jm, Fm, Dm, Rm, nxm, slm) (fun r2 μ2 => r2 = none ∧ QA ci cn co go r μ1 μ2)) := by
  rcases ho : xo 0 t b with _ | q
  · skip
    rcases hou : xo 0 t a with _ | u
    · skip
      refine ct_of h_IA_perform rfl rfl rfl ?_
      refine ev_g0 rfl ?_
      refine ev_inV 1 k_IA_9 h_SD_t rfl rfl rfl rfl rfl ⟨by decide, by decide⟩ rfl ?_
      refine ev_gU [] [none] rfl ?_
      refine ev_retn rfl ?_
      refine ev_gU [true, true, true, false] [] rfl ?_
      refine ev_inV 1 k_IA_9 h_SD_t rfl rfl rfl rfl rfl ⟨by decide, by decide⟩ rfl ?_
      refine ev_gU [] [none] rfl ?_
      refine ev_retn rfl ?_
      refine ev_g0 rfl ?_
      refine ev_inS 1 k_IA_28 h_IA_rowKind rfl rfl rfl rfl ⟨by decide, by decide⟩ rfl ?_
      refine ev_gU [false] [] rfl ?_
      refine ev_reti rfl ?_
      refine ev_g0 rfl ?_
      refine ev_inV 1 k_IA_17 h_SD_n rfl rfl rfl rfl rfl ⟨by decide, by decide⟩ rfl ?_
      refine ev_gU [] [] rfl ?_
      refine ev_retl rfl ?_
      refine ev_g0 rfl ?_
      refine ev_inS 4 k_IA_35 h_IA_setPart rfl rfl rfl rfl ⟨by decide, by decide⟩ rfl ?_
      refine ev_g0 rfl ?_
      refine ev_reti rfl ?_
      refine ev_g0 rfl ?_
      refine ev_reti rfl ?_
      refine ct_of h_MM_handles rfl rfl rfl ?_
      refine ev_g0 rfl ?_
      refine ev_inV 1 k_MM_344 h_MM_hold rfl rfl rfl rfl rfl ⟨by decide, by decide⟩ rfl ?_
      refine ev_gU [] [] rfl ?_
      refine ev_reti rfl ?_
      refine ev_gU [] [some 3] rfl ?_
      refine ev_inV 2 k_MM_374 h_MM_storesThing rfl rfl rfl rfl rfl ⟨by decide, by decide⟩ rfl ?_
      refine ev_g0 rfl ?_
      refine ev_inV 1 k_MM_344 h_MM_hold rfl rfl rfl rfl rfl ⟨by decide, by decide⟩ rfl ?_
      refine ev_gU [] [] rfl ?_
      refine ev_reti rfl ?_
      refine ev_g0 rfl ?_
      refine ev_inV 1 k_MM_344 h_MM_hold rfl rfl rfl rfl rfl ⟨by decide, by decide⟩ rfl ?_
      refine ev_gU [] [] rfl ?_
      refine ev_reti rfl ?_
      refine ev_g0 rfl ?_
      refine ev_inV 2 k_MM_354 h_MM_takes rfl rfl rfl rfl rfl ⟨by decide, by decide⟩ rfl ?_
      refine ev_gU [true] [] rfl ?_
      refine ev_retz rfl (by first | decide | exact zb_01 _) ?_
      refine ev_gU [false] [] rfl ?_
      refine ev_inV 2 k_MM_354 h_MM_takes rfl rfl rfl rfl rfl ⟨by decide, by decide⟩ rfl ?_
      refine ev_gU [true] [] rfl ?_
      refine ev_retz rfl (by first | decide | exact zb_01 _) ?_
      refine ev_gU [false] [] rfl ?_
      refine ev_inV 1 k_MM_357 h_MM_is rfl rfl rfl rfl rfl ⟨by decide, by decide⟩ rfl ?_
      refine ev_gU [false, true] [] rfl ?_
      refine ev_retz rfl (by first | decide | exact zb_01 _) ?_
      refine ev_gU [true] [] rfl ?_
      refine ev_ret rfl ?_
      refine ev_g0 rfl ?_
      refine ev_ret rfl ?_
      exact ⟨rfl, xj, xd, xf, xo, xi, xn, nI 1, rfl, bdd, lf_U, lf_U, hC, hM⟩
    · skip
      have hu := rc_ihol hC ht ha _ hou
      have zu := rc_isor hC hu
      have yu := rc_imad hC
      refine ct_of h_IA_perform rfl rfl rfl ?_
      refine ev_g0 rfl ?_
      refine ev_inV 1 k_IA_9 h_SD_t rfl rfl rfl rfl rfl ⟨by decide, by decide⟩ rfl ?_
      refine ev_gU [] [none] rfl ?_
      refine ev_retn rfl ?_
      refine ev_gU [true, true, true, false] [] rfl ?_
      refine ev_inV 1 k_IA_9 h_SD_t rfl rfl rfl rfl rfl ⟨by decide, by decide⟩ rfl ?_
      refine ev_gU [] [some (94 + 4 * u)] rfl ?_
      refine ev_reta rfl ?_
      refine ev_g0 rfl ?_
      refine ev_inS 1 k_IA_28 h_IA_rowKind rfl rfl rfl rfl ⟨by decide, by decide⟩ rfl ?_
      refine ev_gU [false] [] rfl ?_
      refine ev_reti rfl ?_
      refine ev_g0 rfl ?_
      refine ev_inV 1 k_IA_17 h_SD_n rfl rfl rfl rfl rfl ⟨by decide, by decide⟩ rfl ?_
      refine ev_gU [] [] rfl ?_
      refine ev_retl rfl ?_
      refine ev_g0 rfl ?_
      refine ev_inS 4 k_IA_35 h_IA_setPart rfl rfl rfl rfl ⟨by decide, by decide⟩ rfl ?_
      refine ev_g0 rfl ?_
      refine ev_inS 1 k_IA_108 h_IA_partKind rfl rfl rfl rfl ⟨by decide, by decide⟩ rfl ?_
      refine ev_gU [false] [] rfl ?_
      refine ev_reti rfl ?_
      refine ev_g0 rfl ?_
      refine ev_inV 1 k_IA_96 h_TH_isA rfl rfl rfl rfl rfl ⟨by decide, by decide⟩ rfl ?_
      refine ev_gU [false, true, false, false] [none] rfl ?_
      refine ev_inV 0 k_TH_73 h_TH_isRow rfl rfl rfl rfl rfl ⟨by decide, by decide⟩ rfl ?_
      refine ev_g0 rfl ?_
      refine ev_bU rfl rfl (fun h_1 => ?_) (fun h_1 => ?_)
      · skip
        refine ev_g0 rfl ?_
        refine ev_retz rfl (by first | decide | exact zb_01 _) ?_
        refine ev_gU [false] [] rfl ?_
        refine ev_inS 2 k_TH_77 h_TH_isUnder rfl rfl rfl rfl ⟨by decide, by decide⟩ rfl ?_
        refine ev_gU [true] [] rfl ?_
        refine ev_retz rfl (by first | decide | exact zb_01 _) ?_
        refine ev_gU [false] [] rfl ?_
        refine ev_retz rfl (by first | decide | exact zb_01 _) ?_
        refine ev_gU [true] [] rfl ?_
        refine ev_reti rfl ?_
        refine ev_g0 rfl ?_
        refine ev_reti rfl ?_
        refine ct_of h_MM_handles rfl rfl rfl ?_
        refine ev_g0 rfl ?_
        refine ev_inV 1 k_MM_344 h_MM_hold rfl rfl rfl rfl rfl ⟨by decide, by decide⟩ rfl ?_
        refine ev_gU [] [] rfl ?_
        refine ev_reti rfl ?_
        refine ev_gU [] [some 3] rfl ?_
        refine ev_inV 2 k_MM_374 h_MM_storesThing rfl rfl rfl rfl rfl ⟨by decide, by decide⟩ rfl ?_
        refine ev_g0 rfl ?_
        refine ev_inV 1 k_MM_344 h_MM_hold rfl rfl rfl rfl rfl ⟨by decide, by decide⟩ rfl ?_
        refine ev_gU [] [] rfl ?_
        refine ev_reti rfl ?_
        refine ev_g0 rfl ?_
        refine ev_inV 1 k_MM_344 h_MM_hold rfl rfl rfl rfl rfl ⟨by decide, by decide⟩ rfl ?_
        refine ev_gU [] [] rfl ?_
        refine ev_reti rfl ?_
        refine ev_g0 rfl ?_
        refine ev_inV 2 k_MM_354 h_MM_takes rfl rfl rfl rfl rfl ⟨by decide, by decide⟩ rfl ?_
        refine ev_gU [true] [] rfl ?_
        refine ev_retz rfl (by first | decide | exact zb_01 _) ?_
        refine ev_gU [false] [] rfl ?_
        refine ev_inV 2 k_MM_354 h_MM_takes rfl rfl rfl rfl rfl ⟨by decide, by decide⟩ rfl ?_
        refine ev_gU [false] [] rfl ?_
        refine ev_inV 2 k_MM_202 h_MM_isKind rfl rfl rfl rfl rfl ⟨by decide, by decide⟩ rfl ?_
        refine ev_gU [false, false, true, true, false, false] [] rfl ?_
        refine ev_inS 2 k_MM_192 h_MM_isOf rfl rfl rfl rfl ⟨by decide, by decide⟩ rfl ?_
        refine ev_gU [true] [] rfl ?_
        refine ev_retz rfl (by first | decide | exact zb_01 _) ?_
        refine ev_gU [false] [] rfl ?_
        refine ev_retz rfl (by first | decide | exact zb_01 _) ?_
        refine ev_gU [true] [] rfl ?_
        refine ev_retz rfl (by first | decide | exact zb_01 _) ?_
        refine ev_gU [false] [] rfl ?_
        refine ev_inV 1 k_MM_357 h_MM_is rfl rfl rfl rfl rfl ⟨by decide, by decide⟩ rfl ?_
        refine ev_gU [false, true] [] rfl ?_
        refine ev_retz rfl (by first | decide | exact zb_01 _) ?_
        refine ev_gU [true] [] rfl ?_
        refine ev_ret rfl ?_
        refine ev_g0 rfl ?_
        refine ev_ret rfl ?_
        exact ⟨rfl, xj, xd, xf, xo, xi, xn, nI 1, rfl, bdd, lf_U, lf_U, hC, hM⟩
      · skip
        refine ev_g0 rfl ?_
        refine ev_retz rfl (by first | decide | exact zb_01 _) ?_
        refine ev_gU [true] [] rfl ?_
        refine ev_retz rfl (by first | decide | exact zb_01 _) ?_
        refine ev_gU [false] [] rfl ?_
        refine ev_reti rfl ?_
        refine ev_g0 rfl ?_
        refine ev_reti rfl ?_
        refine ct_of h_MM_handles rfl rfl rfl ?_
        refine ev_g0 rfl ?_
        refine ev_inV 1 k_MM_344 h_MM_hold rfl rfl rfl rfl rfl ⟨by decide, by decide⟩ rfl ?_
        refine ev_gU [] [] rfl ?_
        refine ev_reti rfl ?_
        refine ev_gU [] [some 3] rfl ?_
        refine ev_inV 2 k_MM_374 h_MM_storesThing rfl rfl rfl rfl rfl ⟨by decide, by decide⟩ rfl ?_
        refine ev_g0 rfl ?_
        refine ev_inV 1 k_MM_344 h_MM_hold rfl rfl rfl rfl rfl ⟨by decide, by decide⟩ rfl ?_
        refine ev_gU [] [] rfl ?_
        refine ev_reti rfl ?_
        refine ev_g0 rfl ?_
        refine ev_inV 1 k_MM_344 h_MM_hold rfl rfl rfl rfl rfl ⟨by decide, by decide⟩ rfl ?_
        refine ev_gU [] [] rfl ?_
        refine ev_reti rfl ?_
        refine ev_g0 rfl ?_
        refine ev_inV 2 k_MM_354 h_MM_takes rfl rfl rfl rfl rfl ⟨by decide, by decide⟩ rfl ?_
        refine ev_gU [true] [] rfl ?_
        refine ev_retz rfl (by first | decide | exact zb_01 _) ?_
        refine ev_gU [false] [] rfl ?_
        refine ev_inV 2 k_MM_354 h_MM_takes rfl rfl rfl rfl rfl ⟨by decide, by decide⟩ rfl ?_
        refine ev_gU [false] [] rfl ?_
        refine ev_inV 2 k_MM_202 h_MM_isKind rfl rfl rfl rfl rfl ⟨by decide, by decide⟩ rfl ?_
        refine ev_gU [false, false, true, true, false, true] [] rfl ?_
        refine ev_retz rfl (by first | decide | exact zb_01 _) ?_
        refine ev_gU [false] [] rfl ?_
        refine ev_retz rfl (by first | decide | exact zb_01 _) ?_
        refine ev_gU [true] [] rfl ?_
        refine ev_ret rfl ?_
        refine ev_g0 rfl ?_
        refine ev_ret rfl ?_
        exact ⟨rfl, xj, xd, xf, xo, xi, xn, nI 3, rfl, bdd, lf_U, lf_U, hC, hM⟩
  · skip
    have hq := rc_ihol hC ht hb _ ho
    have zq := rc_isor hC hq
    have yq := rc_imad hC
    rcases hou : xo 0 t a with _ | u
    · skip
      rcases ixc (xj 0 t c) (xn 1 q 0) with ⟨j, hj, hi⟩ | hi
      · skip
        refine ct_of h_IA_perform rfl rfl rfl ?_
        refine ev_g0 rfl ?_
        refine ev_inV 1 k_IA_9 h_SD_t rfl rfl rfl rfl rfl ⟨by decide, by decide⟩ rfl ?_
        refine ev_gU [] [some (94 + 4 * q)] rfl ?_
        refine ev_reta rfl ?_
        refine ev_gU [true, true, true, false] [] rfl ?_
        refine ev_inV 1 k_IA_9 h_SD_t rfl rfl rfl rfl rfl ⟨by decide, by decide⟩ rfl ?_
        refine ev_gU [] [none] rfl ?_
        refine ev_retn rfl ?_
        refine ev_g0 rfl ?_
        refine ev_inS 1 k_IA_28 h_IA_rowKind rfl rfl rfl rfl ⟨by decide, by decide⟩ rfl ?_
        refine ev_gU [false] [] rfl ?_
        refine ev_reti rfl ?_
        refine ev_g0 rfl ?_
        refine ev_inV 1 k_IA_17 h_SD_n rfl rfl rfl rfl rfl ⟨by decide, by decide⟩ rfl ?_
        refine ev_gU [] [] rfl ?_
        refine ev_retl rfl ?_
        refine ev_g0 rfl ?_
        refine ev_inS 4 k_IA_35 h_IA_setPart rfl rfl rfl rfl ⟨by decide, by decide⟩ rfl ?_
        refine ev_g0 rfl ?_
        refine ev_inV 1 k_IA_96 h_TH_isA rfl rfl rfl rfl rfl ⟨by decide, by decide⟩ rfl ?_
        refine ev_gU [false, false] [none] rfl ?_
        refine ev_bU rfl rfl (fun h_2 => ?_) (fun h_2 => ?_)
        · skip
          refine ev_g0 rfl ?_
          refine ev_retz rfl (by first | decide | exact zb_01 _) ?_
          refine ev_gU [false] [] rfl ?_
          refine ev_reti rfl ?_
          refine ev_g0 rfl ?_
          refine ev_reti rfl ?_
          refine ct_of h_MM_handles rfl rfl rfl ?_
          refine ev_g0 rfl ?_
          refine ev_inV 1 k_MM_344 h_MM_hold rfl rfl rfl rfl rfl ⟨by decide, by decide⟩ rfl ?_
          refine ev_gU [] [] rfl ?_
          refine ev_reti rfl ?_
          refine ev_gU [] [some 3] rfl ?_
          refine ev_inV 2 k_MM_374 h_MM_storesThing rfl rfl rfl rfl rfl ⟨by decide, by decide⟩ rfl ?_
          refine ev_g0 rfl ?_
          refine ev_inV 1 k_MM_344 h_MM_hold rfl rfl rfl rfl rfl ⟨by decide, by decide⟩ rfl ?_
          refine ev_gU [] [] rfl ?_
          refine ev_reti rfl ?_
          refine ev_g0 rfl ?_
          refine ev_inV 1 k_MM_344 h_MM_hold rfl rfl rfl rfl rfl ⟨by decide, by decide⟩ rfl ?_
          refine ev_gU [] [] rfl ?_
          refine ev_reti rfl ?_
          refine ev_g0 rfl ?_
          refine ev_inV 2 k_MM_354 h_MM_takes rfl rfl rfl rfl rfl ⟨by decide, by decide⟩ rfl ?_
          refine ev_gU [false] [] rfl ?_
          refine ev_inV 2 k_MM_202 h_MM_isKind rfl rfl rfl rfl rfl ⟨by decide, by decide⟩ rfl ?_
          refine ev_gU [false, false, true, false] [] rfl ?_
          refine ev_inS 3 k_MM_188 h_MM_in rfl rfl rfl rfl ⟨by decide, by decide⟩ rfl ?_
          refine ev_gU [true] [] rfl ?_
          refine ev_retz rfl (by first | decide | exact zb_01 _) ?_
          refine ev_gU [true] [] rfl ?_
          refine ev_retz rfl (by first | decide | exact zb_01 _) ?_
          refine ev_gU [false] [] rfl ?_
          refine ev_retz rfl (by first | decide | exact zb_01 _) ?_
          refine ev_gU [true] [] rfl ?_
          refine ev_ret rfl ?_
          refine ev_g0 rfl ?_
          refine ev_ret rfl ?_
          exact ⟨rfl, xj, xd, xf, xo, xi, xn, nI 3, rfl, bdd, lf_U, lf_U, hC, hM⟩
        · skip
          refine ev_g0 rfl ?_
          refine ev_bU rfl rfl (fun h_3 => ?_) (fun h_3 => ?_)
          · skip
            refine ev_g0 rfl ?_
            refine ev_retz rfl (by first | decide | exact zb_01 _) ?_
            refine ev_gU [false] [] rfl ?_
            refine ev_reti rfl ?_
            refine ev_g0 rfl ?_
            refine ev_reti rfl ?_
            refine ct_of h_MM_handles rfl rfl rfl ?_
            refine ev_g0 rfl ?_
            refine ev_inV 1 k_MM_344 h_MM_hold rfl rfl rfl rfl rfl ⟨by decide, by decide⟩ rfl ?_
            refine ev_gU [] [] rfl ?_
            refine ev_reti rfl ?_
            refine ev_gU [] [some 3] rfl ?_
            refine ev_inV 2 k_MM_374 h_MM_storesThing rfl rfl rfl rfl rfl ⟨by decide, by decide⟩ rfl ?_
            refine ev_g0 rfl ?_
            refine ev_inV 1 k_MM_344 h_MM_hold rfl rfl rfl rfl rfl ⟨by decide, by decide⟩ rfl ?_
            refine ev_gU [] [] rfl ?_
            refine ev_reti rfl ?_
            refine ev_g0 rfl ?_
            refine ev_inV 1 k_MM_344 h_MM_hold rfl rfl rfl rfl rfl ⟨by decide, by decide⟩ rfl ?_
            refine ev_gU [] [] rfl ?_
            refine ev_reti rfl ?_
            refine ev_g0 rfl ?_
            refine ev_inV 2 k_MM_354 h_MM_takes rfl rfl rfl rfl rfl ⟨by decide, by decide⟩ rfl ?_
            refine ev_gU [false] [] rfl ?_
            refine ev_inV 2 k_MM_202 h_MM_isKind rfl rfl rfl rfl rfl ⟨by decide, by decide⟩ rfl ?_
            refine ev_gU [false, false, true, false] [] rfl ?_
            refine ev_inS 3 k_MM_188 h_MM_in rfl rfl rfl rfl ⟨by decide, by decide⟩ rfl ?_
            refine ev_gU [false, true] [] rfl ?_
            refine ev_retz rfl (by first | decide | exact zb_01 _) ?_
            refine ev_gU [true] [] rfl ?_
            refine ev_retz rfl (by first | decide | exact zb_01 _) ?_
            refine ev_gU [false] [] rfl ?_
            refine ev_retz rfl (by first | decide | exact zb_01 _) ?_
            refine ev_gU [true] [] rfl ?_
            refine ev_ret rfl ?_
            refine ev_g0 rfl ?_
            refine ev_ret rfl ?_
            exact ⟨rfl, xj, xd, xf, xo, xi, xn, nI 3, rfl, bdd, lf_U, lf_U, hC, hM⟩
          · skip
            refine ev_g0 rfl ?_
            refine ev_inS 2 k_TH_77 h_TH_isUnder rfl rfl rfl rfl ⟨by decide, by decide⟩ rfl ?_
            refine ev_gU [true] [] rfl ?_
            refine ev_retz rfl (by first | decide | exact zb_01 _) ?_
            refine ev_gU [false] [] rfl ?_
            refine ev_retz rfl (by first | decide | exact zb_01 _) ?_
            refine ev_gU [true] [] rfl ?_
            refine ev_inV 1 k_IA_60 h_TH_hasItem rfl rfl rfl rfl rfl ⟨by decide, by decide⟩ rfl ?_
            refine ev_gU [false, false] [] rfl ?_
            refine ev_retz rfl (by first | decide | exact zb_01 _) ?_
            refine ev_gU [true, false] [] rfl ?_
            refine ev_reti rfl ?_
            refine ev_g0 rfl ?_
            refine ev_reti rfl ?_
            refine ct_of h_MM_handles rfl rfl rfl ?_
            refine ev_g0 rfl ?_
            refine ev_inV 1 k_MM_344 h_MM_hold rfl rfl rfl rfl rfl ⟨by decide, by decide⟩ rfl ?_
            refine ev_gU [] [] rfl ?_
            refine ev_reti rfl ?_
            refine ev_gU [] [some 3] rfl ?_
            refine ev_inV 2 k_MM_374 h_MM_storesThing rfl rfl rfl rfl rfl ⟨by decide, by decide⟩ rfl ?_
            refine ev_g0 rfl ?_
            refine ev_inV 1 k_MM_344 h_MM_hold rfl rfl rfl rfl rfl ⟨by decide, by decide⟩ rfl ?_
            refine ev_gU [] [] rfl ?_
            refine ev_reti rfl ?_
            refine ev_g0 rfl ?_
            refine ev_inV 1 k_MM_344 h_MM_hold rfl rfl rfl rfl rfl ⟨by decide, by decide⟩ rfl ?_
            refine ev_gU [] [] rfl ?_
            refine ev_reti rfl ?_
            refine ev_g0 rfl ?_
            refine ev_inV 2 k_MM_354 h_MM_takes rfl rfl rfl rfl rfl ⟨by decide, by decide⟩ rfl ?_
            refine ev_gU [false] [] rfl ?_
            refine ev_inV 2 k_MM_202 h_MM_isKind rfl rfl rfl rfl rfl ⟨by decide, by decide⟩ rfl ?_
            refine ev_gU [false, false, true, false] [] rfl ?_
            refine ev_inS 3 k_MM_188 h_MM_in rfl rfl rfl rfl ⟨by decide, by decide⟩ rfl ?_
            refine ev_gU [false, false] [] rfl ?_
            refine ev_retz rfl (by first | decide | exact zb_01 _) ?_
            refine ev_gU [false] [] rfl ?_
            refine ev_inS 2 k_MM_192 h_MM_isOf rfl rfl rfl rfl ⟨by decide, by decide⟩ rfl ?_
            refine ev_gU [true] [] rfl ?_
            refine ev_retz rfl (by first | decide | exact zb_01 _) ?_
            refine ev_gU [false] [] rfl ?_
            refine ev_retz rfl (by first | decide | exact zb_01 _) ?_
            refine ev_gU [true] [] rfl ?_
            refine ev_retz rfl (by first | decide | exact zb_01 _) ?_
            refine ev_gU [false] [] rfl ?_
            refine ev_inV 2 k_MM_354 h_MM_takes rfl rfl rfl rfl rfl ⟨by decide, by decide⟩ rfl ?_
            refine ev_gU [true] [] rfl ?_
            refine ev_retz rfl (by first | decide | exact zb_01 _) ?_
            refine ev_gU [false] [] rfl ?_
            refine ev_inV 1 k_MM_357 h_MM_is rfl rfl rfl rfl rfl ⟨by decide, by decide⟩ rfl ?_
            refine ev_gU [true, false] [] rfl ?_
            refine ev_retz rfl (by first | decide | exact zb_01 _) ?_
            refine ev_gU [false] [] rfl ?_
            refine ev_inV 1 k_MM_277 h_MM_number rfl rfl rfl rfl rfl ⟨by decide, by decide⟩ rfl ?_
            refine ev_gU [] [] rfl ?_
            refine ev_retl rfl ?_
            refine ev_g0 rfl ?_
            refine ev_inV 2 k_MM_360 h_MM_holdsIndex rfl rfl rfl rfl rfl ⟨by decide, by decide⟩ rfl ?_
            refine ev_gU [] [] rfl ?_
            refine ev_inS 3 k_MM_188 h_MM_in rfl rfl rfl rfl ⟨by decide, by decide⟩ rfl ?_
            refine ev_gU [false, false] [] rfl ?_
            refine ev_retz rfl (by first | decide | exact zb_01 _) ?_
            refine ev_gU [true] [] rfl ?_
            refine ev_retz rfl (by first | decide | exact zb_01 _) ?_
            refine ev_gU [true, false, true] [] rfl ?_
            refine ev_inV 1 k_MM_277 h_MM_number rfl rfl rfl rfl rfl ⟨by decide, by decide⟩ rfl ?_
            refine ev_gU [] [] rfl ?_
            refine ev_retl rfl ?_
            refine ev_gU [] [] rfl ?_
            refine ev_ret rfl ?_
            refine ev_g0 rfl ?_
            refine ev_ret rfl ?_
            exact ⟨rfl, xj, xd, xf, (u3 xo 1 q j (none)), xi, xn, nI 0, rfl, bdd, lf_U, lf_U, (CU_par hC hq hj (by omega) (fun _ h => by cases h) lf_U lf_U), (MU_par hM hq hj (by omega) lf_U lf_U (fun i hi => (rc_isor hC hi).2.2.1))⟩
      · skip
        refine ct_of h_IA_perform rfl rfl rfl ?_
        refine ev_g0 rfl ?_
        refine ev_inV 1 k_IA_9 h_SD_t rfl rfl rfl rfl rfl ⟨by decide, by decide⟩ rfl ?_
        refine ev_gU [] [some (94 + 4 * q)] rfl ?_
        refine ev_reta rfl ?_
        refine ev_gU [true, true, true, false] [] rfl ?_
        refine ev_inV 1 k_IA_9 h_SD_t rfl rfl rfl rfl rfl ⟨by decide, by decide⟩ rfl ?_
        refine ev_gU [] [none] rfl ?_
        refine ev_retn rfl ?_
        refine ev_g0 rfl ?_
        refine ev_inS 1 k_IA_28 h_IA_rowKind rfl rfl rfl rfl ⟨by decide, by decide⟩ rfl ?_
        refine ev_gU [false] [] rfl ?_
        refine ev_reti rfl ?_
        refine ev_g0 rfl ?_
        refine ev_inV 1 k_IA_17 h_SD_n rfl rfl rfl rfl rfl ⟨by decide, by decide⟩ rfl ?_
        refine ev_gU [] [] rfl ?_
        refine ev_retl rfl ?_
        refine ev_g0 rfl ?_
        refine ev_inS 4 k_IA_35 h_IA_setPart rfl rfl rfl rfl ⟨by decide, by decide⟩ rfl ?_
        refine ev_g0 rfl ?_
        refine ev_inV 1 k_IA_96 h_TH_isA rfl rfl rfl rfl rfl ⟨by decide, by decide⟩ rfl ?_
        refine ev_gU [false, false] [none] rfl ?_
        refine ev_bU rfl rfl (fun h_4 => ?_) (fun h_4 => ?_)
        · skip
          refine ev_g0 rfl ?_
          refine ev_retz rfl (by first | decide | exact zb_01 _) ?_
          refine ev_gU [false] [] rfl ?_
          refine ev_reti rfl ?_
          refine ev_g0 rfl ?_
          refine ev_reti rfl ?_
          refine ct_of h_MM_handles rfl rfl rfl ?_
          refine ev_g0 rfl ?_
          refine ev_inV 1 k_MM_344 h_MM_hold rfl rfl rfl rfl rfl ⟨by decide, by decide⟩ rfl ?_
          refine ev_gU [] [] rfl ?_
          refine ev_reti rfl ?_
          refine ev_gU [] [some 3] rfl ?_
          refine ev_inV 2 k_MM_374 h_MM_storesThing rfl rfl rfl rfl rfl ⟨by decide, by decide⟩ rfl ?_
          refine ev_g0 rfl ?_
          refine ev_inV 1 k_MM_344 h_MM_hold rfl rfl rfl rfl rfl ⟨by decide, by decide⟩ rfl ?_
          refine ev_gU [] [] rfl ?_
          refine ev_reti rfl ?_
          refine ev_g0 rfl ?_
          refine ev_inV 1 k_MM_344 h_MM_hold rfl rfl rfl rfl rfl ⟨by decide, by decide⟩ rfl ?_
          refine ev_gU [] [] rfl ?_
          refine ev_reti rfl ?_
          refine ev_g0 rfl ?_
          refine ev_inV 2 k_MM_354 h_MM_takes rfl rfl rfl rfl rfl ⟨by decide, by decide⟩ rfl ?_
          refine ev_gU [false] [] rfl ?_
          refine ev_inV 2 k_MM_202 h_MM_isKind rfl rfl rfl rfl rfl ⟨by decide, by decide⟩ rfl ?_
          refine ev_gU [false, false, true, false] [] rfl ?_
          refine ev_inS 3 k_MM_188 h_MM_in rfl rfl rfl rfl ⟨by decide, by decide⟩ rfl ?_
          refine ev_gU [true] [] rfl ?_
          refine ev_retz rfl (by first | decide | exact zb_01 _) ?_
          refine ev_gU [true] [] rfl ?_
          refine ev_retz rfl (by first | decide | exact zb_01 _) ?_
          refine ev_gU [false] [] rfl ?_
          refine ev_retz rfl (by first | decide | exact zb_01 _) ?_
          refine ev_gU [true] [] rfl ?_
          refine ev_ret rfl ?_
          refine ev_g0 rfl ?_
          refine ev_ret rfl ?_
          exact ⟨rfl, xj, xd, xf, xo, xi, xn, nI 3, rfl, bdd, lf_U, lf_U, hC, hM⟩
        · skip
          refine ev_g0 rfl ?_
          refine ev_bU rfl rfl (fun h_5 => ?_) (fun h_5 => ?_)
          · skip
            refine ev_g0 rfl ?_
            refine ev_retz rfl (by first | decide | exact zb_01 _) ?_
            refine ev_gU [false] [] rfl ?_
            refine ev_reti rfl ?_
            refine ev_g0 rfl ?_
            refine ev_reti rfl ?_
            refine ct_of h_MM_handles rfl rfl rfl ?_
            refine ev_g0 rfl ?_
            refine ev_inV 1 k_MM_344 h_MM_hold rfl rfl rfl rfl rfl ⟨by decide, by decide⟩ rfl ?_
            refine ev_gU [] [] rfl ?_
            refine ev_reti rfl ?_
            refine ev_gU [] [some 3] rfl ?_
            refine ev_inV 2 k_MM_374 h_MM_storesThing rfl rfl rfl rfl rfl ⟨by decide, by decide⟩ rfl ?_
            refine ev_g0 rfl ?_
            refine ev_inV 1 k_MM_344 h_MM_hold rfl rfl rfl rfl rfl ⟨by decide, by decide⟩ rfl ?_
            refine ev_gU [] [] rfl ?_
            refine ev_reti rfl ?_
            refine ev_g0 rfl ?_
            refine ev_inV 1 k_MM_344 h_MM_hold rfl rfl rfl rfl rfl ⟨by decide, by decide⟩ rfl ?_
            refine ev_gU [] [] rfl ?_
            refine ev_reti rfl ?_
            refine ev_g0 rfl ?_
            refine ev_inV 2 k_MM_354 h_MM_takes rfl rfl rfl rfl rfl ⟨by decide, by decide⟩ rfl ?_
            refine ev_gU [false] [] rfl ?_
            refine ev_inV 2 k_MM_202 h_MM_isKind rfl rfl rfl rfl rfl ⟨by decide, by decide⟩ rfl ?_
            refine ev_gU [false, false, true, false] [] rfl ?_
            refine ev_inS 3 k_MM_188 h_MM_in rfl rfl rfl rfl ⟨by decide, by decide⟩ rfl ?_
            refine ev_gU [false, true] [] rfl ?_
            refine ev_retz rfl (by first | decide | exact zb_01 _) ?_
            refine ev_gU [true] [] rfl ?_
            refine ev_retz rfl (by first | decide | exact zb_01 _) ?_
            refine ev_gU [false] [] rfl ?_
            refine ev_retz rfl (by first | decide | exact zb_01 _) ?_
            refine ev_gU [true] [] rfl ?_
            refine ev_ret rfl ?_
            refine ev_g0 rfl ?_
            refine ev_ret rfl ?_
            exact ⟨rfl, xj, xd, xf, xo, xi, xn, nI 3, rfl, bdd, lf_U, lf_U, hC, hM⟩
          · skip
            refine ev_g0 rfl ?_
            refine ev_inS 2 k_TH_77 h_TH_isUnder rfl rfl rfl rfl ⟨by decide, by decide⟩ rfl ?_
            refine ev_gU [true] [] rfl ?_
            refine ev_retz rfl (by first | decide | exact zb_01 _) ?_
            refine ev_gU [false] [] rfl ?_
            refine ev_retz rfl (by first | decide | exact zb_01 _) ?_
            refine ev_gU [true] [] rfl ?_
            refine ev_inV 1 k_IA_60 h_TH_hasItem rfl rfl rfl rfl rfl ⟨by decide, by decide⟩ rfl ?_
            refine ev_g0 rfl ?_
            refine ev_bU rfl rfl (fun h_6 => ?_) (fun h_6 => ?_)
            · skip
              refine ev_g0 rfl ?_
              refine ev_retz rfl (by first | decide | exact zb_01 _) ?_
              refine ev_gU [false] [] rfl ?_
              refine ev_reti rfl ?_
              refine ev_g0 rfl ?_
              refine ev_reti rfl ?_
              refine ct_of h_MM_handles rfl rfl rfl ?_
              refine ev_g0 rfl ?_
              refine ev_inV 1 k_MM_344 h_MM_hold rfl rfl rfl rfl rfl ⟨by decide, by decide⟩ rfl ?_
              refine ev_gU [] [] rfl ?_
              refine ev_reti rfl ?_
              refine ev_gU [] [some 3] rfl ?_
              refine ev_inV 2 k_MM_374 h_MM_storesThing rfl rfl rfl rfl rfl ⟨by decide, by decide⟩ rfl ?_
              refine ev_g0 rfl ?_
              refine ev_inV 1 k_MM_344 h_MM_hold rfl rfl rfl rfl rfl ⟨by decide, by decide⟩ rfl ?_
              refine ev_gU [] [] rfl ?_
              refine ev_reti rfl ?_
              refine ev_g0 rfl ?_
              refine ev_inV 1 k_MM_344 h_MM_hold rfl rfl rfl rfl rfl ⟨by decide, by decide⟩ rfl ?_
              refine ev_gU [] [] rfl ?_
              refine ev_reti rfl ?_
              refine ev_g0 rfl ?_
              refine ev_inV 2 k_MM_354 h_MM_takes rfl rfl rfl rfl rfl ⟨by decide, by decide⟩ rfl ?_
              refine ev_gU [false] [] rfl ?_
              refine ev_inV 2 k_MM_202 h_MM_isKind rfl rfl rfl rfl rfl ⟨by decide, by decide⟩ rfl ?_
              refine ev_gU [false, false, true, false] [] rfl ?_
              refine ev_inS 3 k_MM_188 h_MM_in rfl rfl rfl rfl ⟨by decide, by decide⟩ rfl ?_
              refine ev_gU [false, false] [] rfl ?_
              refine ev_retz rfl (by first | decide | exact zb_01 _) ?_
              refine ev_gU [false] [] rfl ?_
              refine ev_inS 2 k_MM_192 h_MM_isOf rfl rfl rfl rfl ⟨by decide, by decide⟩ rfl ?_
              refine ev_gU [true] [] rfl ?_
              refine ev_retz rfl (by first | decide | exact zb_01 _) ?_
              refine ev_gU [false] [] rfl ?_
              refine ev_retz rfl (by first | decide | exact zb_01 _) ?_
              refine ev_gU [true] [] rfl ?_
              refine ev_retz rfl (by first | decide | exact zb_01 _) ?_
              refine ev_gU [false] [] rfl ?_
              refine ev_inV 2 k_MM_354 h_MM_takes rfl rfl rfl rfl rfl ⟨by decide, by decide⟩ rfl ?_
              refine ev_gU [true] [] rfl ?_
              refine ev_retz rfl (by first | decide | exact zb_01 _) ?_
              refine ev_gU [false] [] rfl ?_
              refine ev_inV 1 k_MM_357 h_MM_is rfl rfl rfl rfl rfl ⟨by decide, by decide⟩ rfl ?_
              refine ev_gU [true, false] [] rfl ?_
              refine ev_retz rfl (by first | decide | exact zb_01 _) ?_
              refine ev_gU [false] [] rfl ?_
              refine ev_inV 1 k_MM_277 h_MM_number rfl rfl rfl rfl rfl ⟨by decide, by decide⟩ rfl ?_
              refine ev_gU [] [] rfl ?_
              refine ev_retl rfl ?_
              refine ev_g0 rfl ?_
              refine ev_inV 2 k_MM_360 h_MM_holdsIndex rfl rfl rfl rfl rfl ⟨by decide, by decide⟩ rfl ?_
              refine ev_gU [] [] rfl ?_
              refine ev_inS 3 k_MM_188 h_MM_in rfl rfl rfl rfl ⟨by decide, by decide⟩ rfl ?_
              refine ev_gU [true] [] rfl ?_
              refine ev_retz rfl (by first | decide | exact zb_01 _) ?_
              refine ev_gU [false] [] rfl ?_
              refine ev_retz rfl (by first | decide | exact zb_01 _) ?_
              refine ev_gU [false] [] rfl ?_
              refine ev_ret rfl ?_
              refine ev_g0 rfl ?_
              refine ev_ret rfl ?_
              exact ⟨rfl, xj, xd, xf, xo, xi, xn, nI 2, rfl, bdd, lf_U, lf_U, hC, hM⟩
            · skip
              refine ev_gU [true] [] rfl ?_
              refine ev_retz rfl (by first | decide | exact zb_01 _) ?_
              refine ev_gU [false] [] rfl ?_
              refine ev_reti rfl ?_
              refine ev_g0 rfl ?_
              refine ev_reti rfl ?_
              refine ct_of h_MM_handles rfl rfl rfl ?_
              refine ev_g0 rfl ?_
              refine ev_inV 1 k_MM_344 h_MM_hold rfl rfl rfl rfl rfl ⟨by decide, by decide⟩ rfl ?_
              refine ev_gU [] [] rfl ?_
              refine ev_reti rfl ?_
              refine ev_gU [] [some 3] rfl ?_
              refine ev_inV 2 k_MM_374 h_MM_storesThing rfl rfl rfl rfl rfl ⟨by decide, by decide⟩ rfl ?_
              refine ev_g0 rfl ?_
              refine ev_inV 1 k_MM_344 h_MM_hold rfl rfl rfl rfl rfl ⟨by decide, by decide⟩ rfl ?_
              refine ev_gU [] [] rfl ?_
              refine ev_reti rfl ?_
              refine ev_g0 rfl ?_
              refine ev_inV 1 k_MM_344 h_MM_hold rfl rfl rfl rfl rfl ⟨by decide, by decide⟩ rfl ?_
              refine ev_gU [] [] rfl ?_
              refine ev_reti rfl ?_
              refine ev_g0 rfl ?_
              refine ev_inV 2 k_MM_354 h_MM_takes rfl rfl rfl rfl rfl ⟨by decide, by decide⟩ rfl ?_
              refine ev_gU [false] [] rfl ?_
              refine ev_inV 2 k_MM_202 h_MM_isKind rfl rfl rfl rfl rfl ⟨by decide, by decide⟩ rfl ?_
              refine ev_gU [false, false, true, false] [] rfl ?_
              refine ev_inS 3 k_MM_188 h_MM_in rfl rfl rfl rfl ⟨by decide, by decide⟩ rfl ?_
              refine ev_gU [false, false] [] rfl ?_
              refine ev_retz rfl (by first | decide | exact zb_01 _) ?_
              refine ev_gU [false] [] rfl ?_
              refine ev_inS 2 k_MM_192 h_MM_isOf rfl rfl rfl rfl ⟨by decide, by decide⟩ rfl ?_
              refine ev_gU [true] [] rfl ?_
              refine ev_retz rfl (by first | decide | exact zb_01 _) ?_
              refine ev_gU [false] [] rfl ?_
              refine ev_retz rfl (by first | decide | exact zb_01 _) ?_
              refine ev_gU [true] [] rfl ?_
              refine ev_retz rfl (by first | decide | exact zb_01 _) ?_
              refine ev_gU [false] [] rfl ?_
              refine ev_inV 2 k_MM_354 h_MM_takes rfl rfl rfl rfl rfl ⟨by decide, by decide⟩ rfl ?_
              refine ev_gU [true] [] rfl ?_
              refine ev_retz rfl (by first | decide | exact zb_01 _) ?_
              refine ev_gU [false] [] rfl ?_
              refine ev_inV 1 k_MM_357 h_MM_is rfl rfl rfl rfl rfl ⟨by decide, by decide⟩ rfl ?_
              refine ev_gU [true, false] [] rfl ?_
              refine ev_retz rfl (by first | decide | exact zb_01 _) ?_
              refine ev_gU [false] [] rfl ?_
              refine ev_inV 1 k_MM_277 h_MM_number rfl rfl rfl rfl rfl ⟨by decide, by decide⟩ rfl ?_
              refine ev_gU [] [] rfl ?_
              refine ev_retl rfl ?_
              refine ev_g0 rfl ?_
              refine ev_inV 2 k_MM_360 h_MM_holdsIndex rfl rfl rfl rfl rfl ⟨by decide, by decide⟩ rfl ?_
              refine ev_gU [] [] rfl ?_
              refine ev_inS 3 k_MM_188 h_MM_in rfl rfl rfl rfl ⟨by decide, by decide⟩ rfl ?_
              refine ev_gU [false, true] [] rfl ?_
              refine ev_retz rfl (by first | decide | exact zb_01 _) ?_
              refine ev_gU [false] [] rfl ?_
              refine ev_retz rfl (by first | decide | exact zb_01 _) ?_
              refine ev_gU [false] [] rfl ?_
              refine ev_ret rfl ?_
              refine ev_g0 rfl ?_
              refine ev_ret rfl ?_
              exact ⟨rfl, xj, xd, xf, xo, xi, xn, nI 2, rfl, bdd, lf_U, lf_U, hC, hM⟩
    · skip
      have hu := rc_ihol hC ht ha _ hou
      have zu := rc_isor hC hu
      have yu := rc_imad hC
      rcases ixc (xj 0 t c) (xn 1 q 0) with ⟨j, hj, hi⟩ | hi
      · skip
        refine ct_of h_IA_perform rfl rfl rfl ?_
        refine ev_g0 rfl ?_
        refine ev_inV 1 k_IA_9 h_SD_t rfl rfl rfl rfl rfl ⟨by decide, by decide⟩ rfl ?_
        refine ev_gU [] [some (94 + 4 * q)] rfl ?_
        refine ev_reta rfl ?_
        refine ev_gU [true, true, true, false] [] rfl ?_
        refine ev_inV 1 k_IA_9 h_SD_t rfl rfl rfl rfl rfl ⟨by decide, by decide⟩ rfl ?_
        refine ev_gU [] [some (94 + 4 * u)] rfl ?_
        refine ev_reta rfl ?_
        refine ev_g0 rfl ?_
        refine ev_inS 1 k_IA_28 h_IA_rowKind rfl rfl rfl rfl ⟨by decide, by decide⟩ rfl ?_
        refine ev_gU [false] [] rfl ?_
        refine ev_reti rfl ?_
        refine ev_g0 rfl ?_
        refine ev_inV 1 k_IA_17 h_SD_n rfl rfl rfl rfl rfl ⟨by decide, by decide⟩ rfl ?_
        refine ev_gU [] [] rfl ?_
        refine ev_retl rfl ?_
        refine ev_g0 rfl ?_
        refine ev_inS 4 k_IA_35 h_IA_setPart rfl rfl rfl rfl ⟨by decide, by decide⟩ rfl ?_
        refine ev_g0 rfl ?_
        refine ev_inV 1 k_IA_96 h_TH_isA rfl rfl rfl rfl rfl ⟨by decide, by decide⟩ rfl ?_
        refine ev_gU [false, false] [none] rfl ?_
        refine ev_bU rfl rfl (fun h_7 => ?_) (fun h_7 => ?_)
        · skip
          refine ev_g0 rfl ?_
          refine ev_retz rfl (by first | decide | exact zb_01 _) ?_
          refine ev_gU [false] [] rfl ?_
          refine ev_reti rfl ?_
          refine ev_g0 rfl ?_
          refine ev_reti rfl ?_
          refine ct_of h_MM_handles rfl rfl rfl ?_
          refine ev_g0 rfl ?_
          refine ev_inV 1 k_MM_344 h_MM_hold rfl rfl rfl rfl rfl ⟨by decide, by decide⟩ rfl ?_
          refine ev_gU [] [] rfl ?_
          refine ev_reti rfl ?_
          refine ev_gU [] [some 3] rfl ?_
          refine ev_inV 2 k_MM_374 h_MM_storesThing rfl rfl rfl rfl rfl ⟨by decide, by decide⟩ rfl ?_
          refine ev_g0 rfl ?_
          refine ev_inV 1 k_MM_344 h_MM_hold rfl rfl rfl rfl rfl ⟨by decide, by decide⟩ rfl ?_
          refine ev_gU [] [] rfl ?_
          refine ev_reti rfl ?_
          refine ev_g0 rfl ?_
          refine ev_inV 1 k_MM_344 h_MM_hold rfl rfl rfl rfl rfl ⟨by decide, by decide⟩ rfl ?_
          refine ev_gU [] [] rfl ?_
          refine ev_reti rfl ?_
          refine ev_g0 rfl ?_
          refine ev_inV 2 k_MM_354 h_MM_takes rfl rfl rfl rfl rfl ⟨by decide, by decide⟩ rfl ?_
          refine ev_gU [false] [] rfl ?_
          refine ev_inV 2 k_MM_202 h_MM_isKind rfl rfl rfl rfl rfl ⟨by decide, by decide⟩ rfl ?_
          refine ev_gU [false, false, true, false] [] rfl ?_
          refine ev_inS 3 k_MM_188 h_MM_in rfl rfl rfl rfl ⟨by decide, by decide⟩ rfl ?_
          refine ev_gU [true] [] rfl ?_
          refine ev_retz rfl (by first | decide | exact zb_01 _) ?_
          refine ev_gU [true] [] rfl ?_
          refine ev_retz rfl (by first | decide | exact zb_01 _) ?_
          refine ev_gU [false] [] rfl ?_
          refine ev_retz rfl (by first | decide | exact zb_01 _) ?_
          refine ev_gU [true] [] rfl ?_
          refine ev_ret rfl ?_
          refine ev_g0 rfl ?_
          refine ev_ret rfl ?_
          exact ⟨rfl, xj, xd, xf, xo, xi, xn, nI 3, rfl, bdd, lf_U, lf_U, hC, hM⟩
        · skip
          refine ev_g0 rfl ?_
          refine ev_bU rfl rfl (fun h_8 => ?_) (fun h_8 => ?_)
          · skip
            refine ev_g0 rfl ?_
            refine ev_retz rfl (by first | decide | exact zb_01 _) ?_
            refine ev_gU [false] [] rfl ?_
            refine ev_reti rfl ?_
            refine ev_g0 rfl ?_
            refine ev_reti rfl ?_
            refine ct_of h_MM_handles rfl rfl rfl ?_
            refine ev_g0 rfl ?_
            refine ev_inV 1 k_MM_344 h_MM_hold rfl rfl rfl rfl rfl ⟨by decide, by decide⟩ rfl ?_
            refine ev_gU [] [] rfl ?_
            refine ev_reti rfl ?_
            refine ev_gU [] [some 3] rfl ?_
            refine ev_inV 2 k_MM_374 h_MM_storesThing rfl rfl rfl rfl rfl ⟨by decide, by decide⟩ rfl ?_
            refine ev_g0 rfl ?_
            refine ev_inV 1 k_MM_344 h_MM_hold rfl rfl rfl rfl rfl ⟨by decide, by decide⟩ rfl ?_
            refine ev_gU [] [] rfl ?_
            refine ev_reti rfl ?_
            refine ev_g0 rfl ?_
            refine ev_inV 1 k_MM_344 h_MM_hold rfl rfl rfl rfl rfl ⟨by decide, by decide⟩ rfl ?_
            refine ev_gU [] [] rfl ?_
            refine ev_reti rfl ?_
            refine ev_g0 rfl ?_
            refine ev_inV 2 k_MM_354 h_MM_takes rfl rfl rfl rfl rfl ⟨by decide, by decide⟩ rfl ?_
            refine ev_gU [false] [] rfl ?_
            refine ev_inV 2 k_MM_202 h_MM_isKind rfl rfl rfl rfl rfl ⟨by decide, by decide⟩ rfl ?_
            refine ev_gU [false, false, true, false] [] rfl ?_
            refine ev_inS 3 k_MM_188 h_MM_in rfl rfl rfl rfl ⟨by decide, by decide⟩ rfl ?_
            refine ev_gU [false, true] [] rfl ?_
            refine ev_retz rfl (by first | decide | exact zb_01 _) ?_
            refine ev_gU [true] [] rfl ?_
            refine ev_retz rfl (by first | decide | exact zb_01 _) ?_
            refine ev_gU [false] [] rfl ?_
            refine ev_retz rfl (by first | decide | exact zb_01 _) ?_
            refine ev_gU [true] [] rfl ?_
            refine ev_ret rfl ?_
            refine ev_g0 rfl ?_
            refine ev_ret rfl ?_
            exact ⟨rfl, xj, xd, xf, xo, xi, xn, nI 3, rfl, bdd, lf_U, lf_U, hC, hM⟩
          · skip
            refine ev_g0 rfl ?_
            refine ev_inS 2 k_TH_77 h_TH_isUnder rfl rfl rfl rfl ⟨by decide, by decide⟩ rfl ?_
            refine ev_gU [true] [] rfl ?_
            refine ev_retz rfl (by first | decide | exact zb_01 _) ?_
            refine ev_gU [false] [] rfl ?_
            refine ev_retz rfl (by first | decide | exact zb_01 _) ?_
            refine ev_gU [true] [] rfl ?_
            refine ev_inS 1 k_IA_108 h_IA_partKind rfl rfl rfl rfl ⟨by decide, by decide⟩ rfl ?_
            refine ev_gU [false] [] rfl ?_
            refine ev_reti rfl ?_
            refine ev_g0 rfl ?_
            refine ev_inV 1 k_IA_96 h_TH_isA rfl rfl rfl rfl rfl ⟨by decide, by decide⟩ rfl ?_
            refine ev_gU [false, true, false, false] [none] rfl ?_
            refine ev_inV 0 k_TH_73 h_TH_isRow rfl rfl rfl rfl rfl ⟨by decide, by decide⟩ rfl ?_
            refine ev_g0 rfl ?_
            refine ev_bU rfl rfl (fun h_9 => ?_) (fun h_9 => ?_)
            · skip
              refine ev_g0 rfl ?_
              refine ev_retz rfl (by first | decide | exact zb_01 _) ?_
              refine ev_gU [false] [] rfl ?_
              refine ev_inS 2 k_TH_77 h_TH_isUnder rfl rfl rfl rfl ⟨by decide, by decide⟩ rfl ?_
              refine ev_gU [true] [] rfl ?_
              refine ev_retz rfl (by first | decide | exact zb_01 _) ?_
              refine ev_gU [false] [] rfl ?_
              refine ev_retz rfl (by first | decide | exact zb_01 _) ?_
              refine ev_gU [true] [] rfl ?_
              refine ev_inV 1 k_IA_60 h_TH_hasItem rfl rfl rfl rfl rfl ⟨by decide, by decide⟩ rfl ?_
              refine ev_gU [false, false] [] rfl ?_
              refine ev_retz rfl (by first | decide | exact zb_01 _) ?_
              refine ev_gU [true, false] [] rfl ?_
              refine ev_inV 1 k_IA_96 h_TH_isA rfl rfl rfl rfl rfl ⟨by decide, by decide⟩ rfl ?_
              refine ev_gU [false, true, false, false] [none] rfl ?_
              refine ev_inV 0 k_TH_73 h_TH_isRow rfl rfl rfl rfl rfl ⟨by decide, by decide⟩ rfl ?_
              refine ev_gU [true] [] rfl ?_
              refine ev_retz rfl (by first | decide | exact zb_01 _) ?_
              refine ev_gU [false] [] rfl ?_
              refine ev_inS 2 k_TH_77 h_TH_isUnder rfl rfl rfl rfl ⟨by decide, by decide⟩ rfl ?_
              refine ev_g0 rfl ?_
              refine ev_bU rfl rfl (fun h_10 => ?_) (fun h_10 => ?_)
              · skip
                refine ev_g0 rfl ?_
                refine ev_retz rfl (by first | decide | exact zb_01 _) ?_
                refine ev_gU [false] [] rfl ?_
                refine ev_retz rfl (by first | decide | exact zb_01 _) ?_
                refine ev_gU [true] [] rfl ?_
                refine ev_reti rfl ?_
                refine ev_g0 rfl ?_
                refine ev_reti rfl ?_
                refine ct_of h_MM_handles rfl rfl rfl ?_
                refine ev_g0 rfl ?_
                refine ev_inV 1 k_MM_344 h_MM_hold rfl rfl rfl rfl rfl ⟨by decide, by decide⟩ rfl ?_
                refine ev_gU [] [] rfl ?_
                refine ev_reti rfl ?_
                refine ev_gU [] [some 3] rfl ?_
                refine ev_inV 2 k_MM_374 h_MM_storesThing rfl rfl rfl rfl rfl ⟨by decide, by decide⟩ rfl ?_
                refine ev_g0 rfl ?_
                refine ev_inV 1 k_MM_344 h_MM_hold rfl rfl rfl rfl rfl ⟨by decide, by decide⟩ rfl ?_
                refine ev_gU [] [] rfl ?_
                refine ev_reti rfl ?_
                refine ev_g0 rfl ?_
                refine ev_inV 1 k_MM_344 h_MM_hold rfl rfl rfl rfl rfl ⟨by decide, by decide⟩ rfl ?_
                refine ev_gU [] [] rfl ?_
                refine ev_reti rfl ?_
                refine ev_g0 rfl ?_
                refine ev_inV 2 k_MM_354 h_MM_takes rfl rfl rfl rfl rfl ⟨by decide, by decide⟩ rfl ?_
                refine ev_gU [false] [] rfl ?_
                refine ev_inV 2 k_MM_202 h_MM_isKind rfl rfl rfl rfl rfl ⟨by decide, by decide⟩ rfl ?_
                refine ev_gU [false, false, true, false] [] rfl ?_
                refine ev_inS 3 k_MM_188 h_MM_in rfl rfl rfl rfl ⟨by decide, by decide⟩ rfl ?_
                refine ev_gU [false, false] [] rfl ?_
                refine ev_retz rfl (by first | decide | exact zb_01 _) ?_
                refine ev_gU [false] [] rfl ?_
                refine ev_inS 2 k_MM_192 h_MM_isOf rfl rfl rfl rfl ⟨by decide, by decide⟩ rfl ?_
                refine ev_gU [true] [] rfl ?_
                refine ev_retz rfl (by first | decide | exact zb_01 _) ?_
                refine ev_gU [false] [] rfl ?_
                refine ev_retz rfl (by first | decide | exact zb_01 _) ?_
                refine ev_gU [true] [] rfl ?_
                refine ev_retz rfl (by first | decide | exact zb_01 _) ?_
                refine ev_gU [false] [] rfl ?_
                refine ev_inV 2 k_MM_354 h_MM_takes rfl rfl rfl rfl rfl ⟨by decide, by decide⟩ rfl ?_
                refine ev_gU [false] [] rfl ?_
                refine ev_inV 2 k_MM_202 h_MM_isKind rfl rfl rfl rfl rfl ⟨by decide, by decide⟩ rfl ?_
                refine ev_gU [false, false, true, true, false, false] [] rfl ?_
                refine ev_inS 2 k_MM_192 h_MM_isOf rfl rfl rfl rfl ⟨by decide, by decide⟩ rfl ?_
                refine ev_gU [true] [] rfl ?_
                refine ev_retz rfl (by first | decide | exact zb_01 _) ?_
                refine ev_gU [false] [] rfl ?_
                refine ev_retz rfl (by first | decide | exact zb_01 _) ?_
                refine ev_gU [true] [] rfl ?_
                refine ev_retz rfl (by first | decide | exact zb_01 _) ?_
                refine ev_gU [false] [] rfl ?_
                refine ev_inV 1 k_MM_357 h_MM_is rfl rfl rfl rfl rfl ⟨by decide, by decide⟩ rfl ?_
                refine ev_gU [true, false] [] rfl ?_
                refine ev_retz rfl (by first | decide | exact zb_01 _) ?_
                refine ev_gU [false] [] rfl ?_
                refine ev_inV 1 k_MM_277 h_MM_number rfl rfl rfl rfl rfl ⟨by decide, by decide⟩ rfl ?_
                refine ev_gU [] [] rfl ?_
                refine ev_retl rfl ?_
                refine ev_g0 rfl ?_
                refine ev_inV 2 k_MM_360 h_MM_holdsIndex rfl rfl rfl rfl rfl ⟨by decide, by decide⟩ rfl ?_
                refine ev_gU [] [] rfl ?_
                refine ev_inS 3 k_MM_188 h_MM_in rfl rfl rfl rfl ⟨by decide, by decide⟩ rfl ?_
                refine ev_gU [false, false] [] rfl ?_
                refine ev_retz rfl (by first | decide | exact zb_01 _) ?_
                refine ev_gU [true] [] rfl ?_
                refine ev_retz rfl (by first | decide | exact zb_01 _) ?_
                refine ev_gU [true, false, false] [] rfl ?_
                refine ev_inS 2 k_MM_192 h_MM_isOf rfl rfl rfl rfl ⟨by decide, by decide⟩ rfl ?_
                refine ev_gU [true] [] rfl ?_
                refine ev_retz rfl (by first | decide | exact zb_01 _) ?_
                refine ev_gU [true] [] rfl ?_
                refine ev_inV 1 k_MM_277 h_MM_number rfl rfl rfl rfl rfl ⟨by decide, by decide⟩ rfl ?_
                refine ev_gU [] [] rfl ?_
                refine ev_retl rfl ?_
                refine ev_gU [] [] rfl ?_
                refine ev_ret rfl ?_
                refine ev_g0 rfl ?_
                refine ev_ret rfl ?_
                exact ⟨rfl, xj, xd, xf, (u3 xo 1 q j (some u)), xi, xn, nI 0, rfl, bdd, lf_U, lf_U, (CU_par hC hq hj (by omega) (fun _ h => by cases h; exact hu) lf_U lf_U), (MU_par hM hq hj (by omega) lf_U lf_U (fun i hi => (rc_isor hC hi).2.2.1))⟩
              · skip
                refine ev_g0 rfl ?_
                refine ev_bU rfl rfl (fun h_11 => ?_) (fun h_11 => ?_)
                · skip
                  refine ev_g0 rfl ?_
                  refine ev_retz rfl (by first | decide | exact zb_01 _) ?_
                  refine ev_gU [false] [] rfl ?_
                  refine ev_retz rfl (by first | decide | exact zb_01 _) ?_
                  refine ev_gU [true] [] rfl ?_
                  refine ev_reti rfl ?_
                  refine ev_g0 rfl ?_
                  refine ev_reti rfl ?_
                  refine ct_of h_MM_handles rfl rfl rfl ?_
                  refine ev_g0 rfl ?_
                  refine ev_inV 1 k_MM_344 h_MM_hold rfl rfl rfl rfl rfl ⟨by decide, by decide⟩ rfl ?_
                  refine ev_gU [] [] rfl ?_
                  refine ev_reti rfl ?_
                  refine ev_gU [] [some 3] rfl ?_
                  refine ev_inV 2 k_MM_374 h_MM_storesThing rfl rfl rfl rfl rfl ⟨by decide, by decide⟩ rfl ?_
                  refine ev_g0 rfl ?_
                  refine ev_inV 1 k_MM_344 h_MM_hold rfl rfl rfl rfl rfl ⟨by decide, by decide⟩ rfl ?_
                  refine ev_gU [] [] rfl ?_
                  refine ev_reti rfl ?_
                  refine ev_g0 rfl ?_
                  refine ev_inV 1 k_MM_344 h_MM_hold rfl rfl rfl rfl rfl ⟨by decide, by decide⟩ rfl ?_
                  refine ev_gU [] [] rfl ?_
                  refine ev_reti rfl ?_
                  refine ev_g0 rfl ?_
                  refine ev_inV 2 k_MM_354 h_MM_takes rfl rfl rfl rfl rfl ⟨by decide, by decide⟩ rfl ?_
                  refine ev_gU [false] [] rfl ?_
                  refine ev_inV 2 k_MM_202 h_MM_isKind rfl rfl rfl rfl rfl ⟨by decide, by decide⟩ rfl ?_
                  refine ev_gU [false, false, true, false] [] rfl ?_
                  refine ev_inS 3 k_MM_188 h_MM_in rfl rfl rfl rfl ⟨by decide, by decide⟩ rfl ?_
                  refine ev_gU [false, false] [] rfl ?_
                  refine ev_retz rfl (by first | decide | exact zb_01 _) ?_
                  refine ev_gU [false] [] rfl ?_
                  refine ev_inS 2 k_MM_192 h_MM_isOf rfl rfl rfl rfl ⟨by decide, by decide⟩ rfl ?_
                  refine ev_gU [true] [] rfl ?_
                  refine ev_retz rfl (by first | decide | exact zb_01 _) ?_
                  refine ev_gU [false] [] rfl ?_
                  refine ev_retz rfl (by first | decide | exact zb_01 _) ?_
                  refine ev_gU [true] [] rfl ?_
                  refine ev_retz rfl (by first | decide | exact zb_01 _) ?_
                  refine ev_gU [false] [] rfl ?_
                  refine ev_inV 2 k_MM_354 h_MM_takes rfl rfl rfl rfl rfl ⟨by decide, by decide⟩ rfl ?_
                  refine ev_gU [false] [] rfl ?_
                  refine ev_inV 2 k_MM_202 h_MM_isKind rfl rfl rfl rfl rfl ⟨by decide, by decide⟩ rfl ?_
                  refine ev_gU [false, false, true, true, false, false] [] rfl ?_
                  refine ev_inS 2 k_MM_192 h_MM_isOf rfl rfl rfl rfl ⟨by decide, by decide⟩ rfl ?_
                  refine ev_gU [true] [] rfl ?_
                  refine ev_retz rfl (by first | decide | exact zb_01 _) ?_
                  refine ev_gU [false] [] rfl ?_
                  refine ev_retz rfl (by first | decide | exact zb_01 _) ?_
                  refine ev_gU [true] [] rfl ?_
                  refine ev_retz rfl (by first | decide | exact zb_01 _) ?_
                  refine ev_gU [false] [] rfl ?_
                  refine ev_inV 1 k_MM_357 h_MM_is rfl rfl rfl rfl rfl ⟨by decide, by decide⟩ rfl ?_
                  refine ev_gU [true, false] [] rfl ?_
                  refine ev_retz rfl (by first | decide | exact zb_01 _) ?_
                  refine ev_gU [false] [] rfl ?_
                  refine ev_inV 1 k_MM_277 h_MM_number rfl rfl rfl rfl rfl ⟨by decide, by decide⟩ rfl ?_
                  refine ev_gU [] [] rfl ?_
                  refine ev_retl rfl ?_
                  refine ev_g0 rfl ?_
                  refine ev_inV 2 k_MM_360 h_MM_holdsIndex rfl rfl rfl rfl rfl ⟨by decide, by decide⟩ rfl ?_
                  refine ev_gU [] [] rfl ?_
                  refine ev_inS 3 k_MM_188 h_MM_in rfl rfl rfl rfl ⟨by decide, by decide⟩ rfl ?_
                  refine ev_gU [false, false] [] rfl ?_
                  refine ev_retz rfl (by first | decide | exact zb_01 _) ?_
                  refine ev_gU [true] [] rfl ?_
                  refine ev_retz rfl (by first | decide | exact zb_01 _) ?_
                  refine ev_gU [true, false, false] [] rfl ?_
                  refine ev_inS 2 k_MM_192 h_MM_isOf rfl rfl rfl rfl ⟨by decide, by decide⟩ rfl ?_
                  refine ev_gU [false, true] [] rfl ?_
                  refine ev_retz rfl (by first | decide | exact zb_01 _) ?_
                  refine ev_gU [true] [] rfl ?_
                  refine ev_inV 1 k_MM_277 h_MM_number rfl rfl rfl rfl rfl ⟨by decide, by decide⟩ rfl ?_
                  refine ev_gU [] [] rfl ?_
                  refine ev_retl rfl ?_
                  refine ev_gU [] [] rfl ?_
                  refine ev_ret rfl ?_
                  refine ev_g0 rfl ?_
                  refine ev_ret rfl ?_
                  exact ⟨rfl, xj, xd, xf, (u3 xo 1 q j (some u)), xi, xn, nI 0, rfl, bdd, lf_U, lf_U, (CU_par hC hq hj (by omega) (fun _ h => by cases h; exact hu) lf_U lf_U), (MU_par hM hq hj (by omega) lf_U lf_U (fun i hi => (rc_isor hC hi).2.2.1))⟩
                · skip
                  refine ev_g0 rfl ?_
                  refine ev_bU rfl rfl (fun h_12 => ?_) (fun h_12 => ?_)
                  · skip
                    refine ev_g0 rfl ?_
                    refine ev_retz rfl (by first | decide | exact zb_01 _) ?_
                    refine ev_gU [true] [] rfl ?_
                    refine ev_retz rfl (by first | decide | exact zb_01 _) ?_
                    refine ev_gU [false] [] rfl ?_
                    refine ev_reti rfl ?_
                    refine ev_g0 rfl ?_
                    refine ev_reti rfl ?_
                    refine ct_of h_MM_handles rfl rfl rfl ?_
                    refine ev_g0 rfl ?_
                    refine ev_inV 1 k_MM_344 h_MM_hold rfl rfl rfl rfl rfl ⟨by decide, by decide⟩ rfl ?_
                    refine ev_gU [] [] rfl ?_
                    refine ev_reti rfl ?_
                    refine ev_gU [] [some 3] rfl ?_
                    refine ev_inV 2 k_MM_374 h_MM_storesThing rfl rfl rfl rfl rfl ⟨by decide, by decide⟩ rfl ?_
                    refine ev_g0 rfl ?_
                    refine ev_inV 1 k_MM_344 h_MM_hold rfl rfl rfl rfl rfl ⟨by decide, by decide⟩ rfl ?_
                    refine ev_gU [] [] rfl ?_
                    refine ev_reti rfl ?_
                    refine ev_g0 rfl ?_
                    refine ev_inV 1 k_MM_344 h_MM_hold rfl rfl rfl rfl rfl ⟨by decide, by decide⟩ rfl ?_
                    refine ev_gU [] [] rfl ?_
                    refine ev_reti rfl ?_
                    refine ev_g0 rfl ?_
                    refine ev_inV 2 k_MM_354 h_MM_takes rfl rfl rfl rfl rfl ⟨by decide, by decide⟩ rfl ?_
                    refine ev_gU [false] [] rfl ?_
                    refine ev_inV 2 k_MM_202 h_MM_isKind rfl rfl rfl rfl rfl ⟨by decide, by decide⟩ rfl ?_
                    refine ev_gU [false, false, true, false] [] rfl ?_
                    refine ev_inS 3 k_MM_188 h_MM_in rfl rfl rfl rfl ⟨by decide, by decide⟩ rfl ?_
                    refine ev_gU [false, false] [] rfl ?_
                    refine ev_retz rfl (by first | decide | exact zb_01 _) ?_
                    refine ev_gU [false] [] rfl ?_
                    refine ev_inS 2 k_MM_192 h_MM_isOf rfl rfl rfl rfl ⟨by decide, by decide⟩ rfl ?_
                    refine ev_gU [true] [] rfl ?_
                    refine ev_retz rfl (by first | decide | exact zb_01 _) ?_
                    refine ev_gU [false] [] rfl ?_
                    refine ev_retz rfl (by first | decide | exact zb_01 _) ?_
                    refine ev_gU [true] [] rfl ?_
                    refine ev_retz rfl (by first | decide | exact zb_01 _) ?_
                    refine ev_gU [false] [] rfl ?_
                    refine ev_inV 2 k_MM_354 h_MM_takes rfl rfl rfl rfl rfl ⟨by decide, by decide⟩ rfl ?_
                    refine ev_gU [false] [] rfl ?_
                    refine ev_inV 2 k_MM_202 h_MM_isKind rfl rfl rfl rfl rfl ⟨by decide, by decide⟩ rfl ?_
                    refine ev_gU [false, false, true, true, false, false] [] rfl ?_
                    refine ev_inS 2 k_MM_192 h_MM_isOf rfl rfl rfl rfl ⟨by decide, by decide⟩ rfl ?_
                    refine ev_gU [true] [] rfl ?_
                    refine ev_retz rfl (by first | decide | exact zb_01 _) ?_
                    refine ev_gU [false] [] rfl ?_
                    refine ev_retz rfl (by first | decide | exact zb_01 _) ?_
                    refine ev_gU [true] [] rfl ?_
                    refine ev_retz rfl (by first | decide | exact zb_01 _) ?_
                    refine ev_gU [false] [] rfl ?_
                    refine ev_inV 1 k_MM_357 h_MM_is rfl rfl rfl rfl rfl ⟨by decide, by decide⟩ rfl ?_
                    refine ev_gU [true, false] [] rfl ?_
                    refine ev_retz rfl (by first | decide | exact zb_01 _) ?_
                    refine ev_gU [false] [] rfl ?_
                    refine ev_inV 1 k_MM_277 h_MM_number rfl rfl rfl rfl rfl ⟨by decide, by decide⟩ rfl ?_
                    refine ev_gU [] [] rfl ?_
                    refine ev_retl rfl ?_
                    refine ev_g0 rfl ?_
                    refine ev_inV 2 k_MM_360 h_MM_holdsIndex rfl rfl rfl rfl rfl ⟨by decide, by decide⟩ rfl ?_
                    refine ev_gU [] [] rfl ?_
                    refine ev_inS 3 k_MM_188 h_MM_in rfl rfl rfl rfl ⟨by decide, by decide⟩ rfl ?_
                    refine ev_gU [false, false] [] rfl ?_
                    refine ev_retz rfl (by first | decide | exact zb_01 _) ?_
                    refine ev_gU [true] [] rfl ?_
                    refine ev_retz rfl (by first | decide | exact zb_01 _) ?_
                    refine ev_gU [true, false, false] [] rfl ?_
                    refine ev_inS 2 k_MM_192 h_MM_isOf rfl rfl rfl rfl ⟨by decide, by decide⟩ rfl ?_
                    refine ev_gU [false, false] [] rfl ?_
                    refine ev_bU rfl rfl (fun h_13 => ?_) (fun h_13 => ?_)
                    · skip
                      refine ev_g0 rfl ?_
                      refine ev_bU rfl rfl (fun h_14 => ?_) (fun h_14 => ?_)
                      · skip
                        refine ev_g0 rfl ?_
                        refine ev_retz rfl (by first | decide | exact zb_01 _) ?_
                        refine ev_gU [false] [] rfl ?_
                        refine ev_inV 1 k_MM_301 h_MM_fails rfl rfl rfl rfl rfl ⟨by decide, by decide⟩ rfl ?_
                        refine ev_g0 rfl ?_
                        refine ev_ret rfl ?_
                        refine ev_g0 rfl ?_
                        refine ev_ret rfl ?_
                        refine ev_g0 rfl ?_
                        refine ev_ret rfl ?_
                        exact ⟨rfl, xj, xd, xf, xo, xi, xn, nI 4, rfl, bdd, lf_U, lf_U, hC, hM⟩
                      · skip
                        refine ev_gU [true] [] rfl ?_
                        refine ev_retz rfl (by first | decide | exact zb_01 _) ?_
                        refine ev_gU [false] [] rfl ?_
                        refine ev_inV 1 k_MM_301 h_MM_fails rfl rfl rfl rfl rfl ⟨by decide, by decide⟩ rfl ?_
                        refine ev_g0 rfl ?_
                        refine ev_ret rfl ?_
                        refine ev_g0 rfl ?_
                        refine ev_ret rfl ?_
                        refine ev_g0 rfl ?_
                        refine ev_ret rfl ?_
                        exact ⟨rfl, xj, xd, xf, xo, xi, xn, nI 4, rfl, bdd, lf_U, lf_U, hC, hM⟩
                    · skip
                      refine ev_gU [false, false, true] [] rfl ?_
                      refine ev_retz rfl (by first | decide | exact zb_01 _) ?_
                      refine ev_gU [false] [] rfl ?_
                      refine ev_inV 1 k_MM_301 h_MM_fails rfl rfl rfl rfl rfl ⟨by decide, by decide⟩ rfl ?_
                      refine ev_g0 rfl ?_
                      refine ev_ret rfl ?_
                      refine ev_g0 rfl ?_
                      refine ev_ret rfl ?_
                      refine ev_g0 rfl ?_
                      refine ev_ret rfl ?_
                      exact ⟨rfl, xj, xd, xf, xo, xi, xn, nI 4, rfl, bdd, lf_U, lf_U, hC, hM⟩
                  · skip
                    refine ev_g0 rfl ?_
                    refine ev_bU rfl rfl (fun h_15 => ?_) (fun h_15 => ?_)
                    · skip
                      refine ev_g0 rfl ?_
                      refine ev_retz rfl (by first | decide | exact zb_01 _) ?_
                      refine ev_gU [true] [] rfl ?_
                      refine ev_retz rfl (by first | decide | exact zb_01 _) ?_
                      refine ev_gU [false] [] rfl ?_
                      refine ev_reti rfl ?_
                      refine ev_g0 rfl ?_
                      refine ev_reti rfl ?_
                      refine ct_of h_MM_handles rfl rfl rfl ?_
                      refine ev_g0 rfl ?_
                      refine ev_inV 1 k_MM_344 h_MM_hold rfl rfl rfl rfl rfl ⟨by decide, by decide⟩ rfl ?_
                      refine ev_gU [] [] rfl ?_
                      refine ev_reti rfl ?_
                      refine ev_gU [] [some 3] rfl ?_
                      refine ev_inV 2 k_MM_374 h_MM_storesThing rfl rfl rfl rfl rfl ⟨by decide, by decide⟩ rfl ?_
                      refine ev_g0 rfl ?_
                      refine ev_inV 1 k_MM_344 h_MM_hold rfl rfl rfl rfl rfl ⟨by decide, by decide⟩ rfl ?_
                      refine ev_gU [] [] rfl ?_
                      refine ev_reti rfl ?_
                      refine ev_g0 rfl ?_
                      refine ev_inV 1 k_MM_344 h_MM_hold rfl rfl rfl rfl rfl ⟨by decide, by decide⟩ rfl ?_
                      refine ev_gU [] [] rfl ?_
                      refine ev_reti rfl ?_
                      refine ev_g0 rfl ?_
                      refine ev_inV 2 k_MM_354 h_MM_takes rfl rfl rfl rfl rfl ⟨by decide, by decide⟩ rfl ?_
                      refine ev_gU [false] [] rfl ?_
                      refine ev_inV 2 k_MM_202 h_MM_isKind rfl rfl rfl rfl rfl ⟨by decide, by decide⟩ rfl ?_
                      refine ev_gU [false, false, true, false] [] rfl ?_
                      refine ev_inS 3 k_MM_188 h_MM_in rfl rfl rfl rfl ⟨by decide, by decide⟩ rfl ?_
                      refine ev_gU [false, false] [] rfl ?_
                      refine ev_retz rfl (by first | decide | exact zb_01 _) ?_
                      refine ev_gU [false] [] rfl ?_
                      refine ev_inS 2 k_MM_192 h_MM_isOf rfl rfl rfl rfl ⟨by decide, by decide⟩ rfl ?_
                      refine ev_gU [true] [] rfl ?_
                      refine ev_retz rfl (by first | decide | exact zb_01 _) ?_
                      refine ev_gU [false] [] rfl ?_
                      refine ev_retz rfl (by first | decide | exact zb_01 _) ?_
                      refine ev_gU [true] [] rfl ?_
                      refine ev_retz rfl (by first | decide | exact zb_01 _) ?_
                      refine ev_gU [false] [] rfl ?_
                      refine ev_inV 2 k_MM_354 h_MM_takes rfl rfl rfl rfl rfl ⟨by decide, by decide⟩ rfl ?_
                      refine ev_gU [false] [] rfl ?_
                      refine ev_inV 2 k_MM_202 h_MM_isKind rfl rfl rfl rfl rfl ⟨by decide, by decide⟩ rfl ?_
                      refine ev_gU [false, false, true, true, false, false] [] rfl ?_
                      refine ev_inS 2 k_MM_192 h_MM_isOf rfl rfl rfl rfl ⟨by decide, by decide⟩ rfl ?_
                      refine ev_gU [true] [] rfl ?_
                      refine ev_retz rfl (by first | decide | exact zb_01 _) ?_
                      refine ev_gU [false] [] rfl ?_
                      refine ev_retz rfl (by first | decide | exact zb_01 _) ?_
                      refine ev_gU [true] [] rfl ?_
                      refine ev_retz rfl (by first | decide | exact zb_01 _) ?_
                      refine ev_gU [false] [] rfl ?_
                      refine ev_inV 1 k_MM_357 h_MM_is rfl rfl rfl rfl rfl ⟨by decide, by decide⟩ rfl ?_
                      refine ev_gU [true, false] [] rfl ?_
                      refine ev_retz rfl (by first | decide | exact zb_01 _) ?_
                      refine ev_gU [false] [] rfl ?_
                      refine ev_inV 1 k_MM_277 h_MM_number rfl rfl rfl rfl rfl ⟨by decide, by decide⟩ rfl ?_
                      refine ev_gU [] [] rfl ?_
                      refine ev_retl rfl ?_
                      refine ev_g0 rfl ?_
                      refine ev_inV 2 k_MM_360 h_MM_holdsIndex rfl rfl rfl rfl rfl ⟨by decide, by decide⟩ rfl ?_
                      refine ev_gU [] [] rfl ?_
                      refine ev_inS 3 k_MM_188 h_MM_in rfl rfl rfl rfl ⟨by decide, by decide⟩ rfl ?_
                      refine ev_gU [false, false] [] rfl ?_
                      refine ev_retz rfl (by first | decide | exact zb_01 _) ?_
                      refine ev_gU [true] [] rfl ?_
                      refine ev_retz rfl (by first | decide | exact zb_01 _) ?_
                      refine ev_gU [true, false, false] [] rfl ?_
                      refine ev_inS 2 k_MM_192 h_MM_isOf rfl rfl rfl rfl ⟨by decide, by decide⟩ rfl ?_
                      refine ev_gU [false, false] [] rfl ?_
                      refine ev_bU rfl rfl (fun h_16 => ?_) (fun h_16 => ?_)
                      · skip
                        refine ev_g0 rfl ?_
                        refine ev_bU rfl rfl (fun h_17 => ?_) (fun h_17 => ?_)
                        · skip
                          refine ev_g0 rfl ?_
                          refine ev_retz rfl (by first | decide | exact zb_01 _) ?_
                          refine ev_gU [false] [] rfl ?_
                          refine ev_inV 1 k_MM_301 h_MM_fails rfl rfl rfl rfl rfl ⟨by decide, by decide⟩ rfl ?_
                          refine ev_g0 rfl ?_
                          refine ev_ret rfl ?_
                          refine ev_g0 rfl ?_
                          refine ev_ret rfl ?_
                          refine ev_g0 rfl ?_
                          refine ev_ret rfl ?_
                          exact ⟨rfl, xj, xd, xf, xo, xi, xn, nI 4, rfl, bdd, lf_U, lf_U, hC, hM⟩
                        · skip
                          refine ev_gU [true] [] rfl ?_
                          refine ev_retz rfl (by first | decide | exact zb_01 _) ?_
                          refine ev_gU [false] [] rfl ?_
                          refine ev_inV 1 k_MM_301 h_MM_fails rfl rfl rfl rfl rfl ⟨by decide, by decide⟩ rfl ?_
                          refine ev_g0 rfl ?_
                          refine ev_ret rfl ?_
                          refine ev_g0 rfl ?_
                          refine ev_ret rfl ?_
                          refine ev_g0 rfl ?_
                          refine ev_ret rfl ?_
                          exact ⟨rfl, xj, xd, xf, xo, xi, xn, nI 4, rfl, bdd, lf_U, lf_U, hC, hM⟩
                      · skip
                        refine ev_gU [false, false, true] [] rfl ?_
                        refine ev_retz rfl (by first | decide | exact zb_01 _) ?_
                        refine ev_gU [false] [] rfl ?_
                        refine ev_inV 1 k_MM_301 h_MM_fails rfl rfl rfl rfl rfl ⟨by decide, by decide⟩ rfl ?_
                        refine ev_g0 rfl ?_
                        refine ev_ret rfl ?_
                        refine ev_g0 rfl ?_
                        refine ev_ret rfl ?_
                        refine ev_g0 rfl ?_
                        refine ev_ret rfl ?_
                        exact ⟨rfl, xj, xd, xf, xo, xi, xn, nI 4, rfl, bdd, lf_U, lf_U, hC, hM⟩
                    · skip
                      refine ev_g0 rfl ?_
                      refine ev_retz rfl (by first | decide | exact zb_01 _) ?_
                      refine ev_gU [false] [] rfl ?_
                      refine ev_retz rfl (by first | decide | exact zb_01 _) ?_
                      refine ev_gU [true] [] rfl ?_
                      refine ev_reti rfl ?_
                      refine ev_g0 rfl ?_
                      refine ev_reti rfl ?_
                      refine ct_of h_MM_handles rfl rfl rfl ?_
                      refine ev_g0 rfl ?_
                      refine ev_inV 1 k_MM_344 h_MM_hold rfl rfl rfl rfl rfl ⟨by decide, by decide⟩ rfl ?_
                      refine ev_gU [] [] rfl ?_
                      refine ev_reti rfl ?_
                      refine ev_gU [] [some 3] rfl ?_
                      refine ev_inV 2 k_MM_374 h_MM_storesThing rfl rfl rfl rfl rfl ⟨by decide, by decide⟩ rfl ?_
                      refine ev_g0 rfl ?_
                      refine ev_inV 1 k_MM_344 h_MM_hold rfl rfl rfl rfl rfl ⟨by decide, by decide⟩ rfl ?_
                      refine ev_gU [] [] rfl ?_
                      refine ev_reti rfl ?_
                      refine ev_g0 rfl ?_
                      refine ev_inV 1 k_MM_344 h_MM_hold rfl rfl rfl rfl rfl ⟨by decide, by decide⟩ rfl ?_
                      refine ev_gU [] [] rfl ?_
                      refine ev_reti rfl ?_
                      refine ev_g0 rfl ?_
                      refine ev_inV 2 k_MM_354 h_MM_takes rfl rfl rfl rfl rfl ⟨by decide, by decide⟩ rfl ?_
                      refine ev_gU [false] [] rfl ?_
                      refine ev_inV 2 k_MM_202 h_MM_isKind rfl rfl rfl rfl rfl ⟨by decide, by decide⟩ rfl ?_
                      refine ev_gU [false, false, true, false] [] rfl ?_
                      refine ev_inS 3 k_MM_188 h_MM_in rfl rfl rfl rfl ⟨by decide, by decide⟩ rfl ?_
                      refine ev_gU [false, false] [] rfl ?_
                      refine ev_retz rfl (by first | decide | exact zb_01 _) ?_
                      refine ev_gU [false] [] rfl ?_
                      refine ev_inS 2 k_MM_192 h_MM_isOf rfl rfl rfl rfl ⟨by decide, by decide⟩ rfl ?_
                      refine ev_gU [true] [] rfl ?_
                      refine ev_retz rfl (by first | decide | exact zb_01 _) ?_
                      refine ev_gU [false] [] rfl ?_
                      refine ev_retz rfl (by first | decide | exact zb_01 _) ?_
                      refine ev_gU [true] [] rfl ?_
                      refine ev_retz rfl (by first | decide | exact zb_01 _) ?_
                      refine ev_gU [false] [] rfl ?_
                      refine ev_inV 2 k_MM_354 h_MM_takes rfl rfl rfl rfl rfl ⟨by decide, by decide⟩ rfl ?_
                      refine ev_gU [false] [] rfl ?_
                      refine ev_inV 2 k_MM_202 h_MM_isKind rfl rfl rfl rfl rfl ⟨by decide, by decide⟩ rfl ?_
                      refine ev_gU [false, false, true, true, false, false] [] rfl ?_
                      refine ev_inS 2 k_MM_192 h_MM_isOf rfl rfl rfl rfl ⟨by decide, by decide⟩ rfl ?_
                      refine ev_gU [true] [] rfl ?_
                      refine ev_retz rfl (by first | decide | exact zb_01 _) ?_
                      refine ev_gU [false] [] rfl ?_
                      refine ev_retz rfl (by first | decide | exact zb_01 _) ?_
                      refine ev_gU [true] [] rfl ?_
                      refine ev_retz rfl (by first | decide | exact zb_01 _) ?_
                      refine ev_gU [false] [] rfl ?_
                      refine ev_inV 1 k_MM_357 h_MM_is rfl rfl rfl rfl rfl ⟨by decide, by decide⟩ rfl ?_
                      refine ev_gU [true, false] [] rfl ?_
                      refine ev_retz rfl (by first | decide | exact zb_01 _) ?_
                      refine ev_gU [false] [] rfl ?_
                      refine ev_inV 1 k_MM_277 h_MM_number rfl rfl rfl rfl rfl ⟨by decide, by decide⟩ rfl ?_
                      refine ev_gU [] [] rfl ?_
                      refine ev_retl rfl ?_
                      refine ev_g0 rfl ?_
                      refine ev_inV 2 k_MM_360 h_MM_holdsIndex rfl rfl rfl rfl rfl ⟨by decide, by decide⟩ rfl ?_
                      refine ev_gU [] [] rfl ?_
                      refine ev_inS 3 k_MM_188 h_MM_in rfl rfl rfl rfl ⟨by decide, by decide⟩ rfl ?_
                      refine ev_gU [false, false] [] rfl ?_
                      refine ev_retz rfl (by first | decide | exact zb_01 _) ?_
                      refine ev_gU [true] [] rfl ?_
                      refine ev_retz rfl (by first | decide | exact zb_01 _) ?_
                      refine ev_gU [true, false, false] [] rfl ?_
                      refine ev_inS 2 k_MM_192 h_MM_isOf rfl rfl rfl rfl ⟨by decide, by decide⟩ rfl ?_
                      refine ev_gU [false, false] [] rfl ?_
                      refine ev_bU rfl rfl (fun h_18 => ?_) (fun h_18 => ?_)
                      · skip
                        refine ev_gU [false, false] [] rfl ?_
                        refine ev_retz rfl (by first | decide | exact zb_01 _) ?_
                        refine ev_gU [true] [] rfl ?_
                        refine ev_inV 1 k_MM_277 h_MM_number rfl rfl rfl rfl rfl ⟨by decide, by decide⟩ rfl ?_
                        refine ev_gU [] [] rfl ?_
                        refine ev_retl rfl ?_
                        refine ev_gU [] [] rfl ?_
                        refine ev_ret rfl ?_
                        refine ev_g0 rfl ?_
                        refine ev_ret rfl ?_
                        exact ⟨rfl, xj, xd, xf, (u3 xo 1 q j (some u)), xi, xn, nI 0, rfl, bdd, lf_U, lf_U, (CU_par hC hq hj (by omega) (fun _ h => by cases h; exact hu) lf_U lf_U), (MU_par hM hq hj (by omega) lf_U lf_U (fun i hi => (rc_isor hC hi).2.2.1))⟩
                      · skip
                        refine ev_g0 rfl ?_
                        refine ev_bU rfl rfl (fun h_19 => ?_) (fun h_19 => ?_)
                        · skip
                          refine ev_g0 rfl ?_
                          refine ev_retz rfl (by first | decide | exact zb_01 _) ?_
                          refine ev_gU [true] [] rfl ?_
                          refine ev_inV 1 k_MM_277 h_MM_number rfl rfl rfl rfl rfl ⟨by decide, by decide⟩ rfl ?_
                          refine ev_gU [] [] rfl ?_
                          refine ev_retl rfl ?_
                          refine ev_gU [] [] rfl ?_
                          refine ev_ret rfl ?_
                          refine ev_g0 rfl ?_
                          refine ev_ret rfl ?_
                          exact ⟨rfl, xj, xd, xf, (u3 xo 1 q j (some u)), xi, xn, nI 0, rfl, bdd, lf_U, lf_U, (CU_par hC hq hj (by omega) (fun _ h => by cases h; exact hu) lf_U lf_U), (MU_par hM hq hj (by omega) lf_U lf_U (fun i hi => (rc_isor hC hi).2.2.1))⟩
                        · skip
                          refine ev_gU [true] [] rfl ?_
                          refine ev_retz rfl (by first | decide | exact zb_01 _) ?_
                          refine ev_gU [true] [] rfl ?_
                          refine ev_inV 1 k_MM_277 h_MM_number rfl rfl rfl rfl rfl ⟨by decide, by decide⟩ rfl ?_
                          refine ev_gU [] [] rfl ?_
                          refine ev_retl rfl ?_
                          refine ev_gU [] [] rfl ?_
                          refine ev_ret rfl ?_
                          refine ev_g0 rfl ?_
                          refine ev_ret rfl ?_
                          exact ⟨rfl, xj, xd, xf, (u3 xo 1 q j (some u)), xi, xn, nI 0, rfl, bdd, lf_U, lf_U, (CU_par hC hq hj (by omega) (fun _ h => by cases h; exact hu) lf_U lf_U), (MU_par hM hq hj (by omega) lf_U lf_U (fun i hi => (rc_isor hC hi).2.2.1))⟩
            · skip
              refine ev_g0 rfl ?_
              refine ev_retz rfl (by first | decide | exact zb_01 _) ?_
              refine ev_gU [true] [] rfl ?_
              refine ev_retz rfl (by first | decide | exact zb_01 _) ?_
              refine ev_gU [false] [] rfl ?_
              refine ev_reti rfl ?_
              refine ev_g0 rfl ?_
              refine ev_reti rfl ?_
              refine ct_of h_MM_handles rfl rfl rfl ?_
              refine ev_g0 rfl ?_
              refine ev_inV 1 k_MM_344 h_MM_hold rfl rfl rfl rfl rfl ⟨by decide, by decide⟩ rfl ?_
              refine ev_gU [] [] rfl ?_
              refine ev_reti rfl ?_
              refine ev_gU [] [some 3] rfl ?_
              refine ev_inV 2 k_MM_374 h_MM_storesThing rfl rfl rfl rfl rfl ⟨by decide, by decide⟩ rfl ?_
              refine ev_g0 rfl ?_
              refine ev_inV 1 k_MM_344 h_MM_hold rfl rfl rfl rfl rfl ⟨by decide, by decide⟩ rfl ?_
              refine ev_gU [] [] rfl ?_
              refine ev_reti rfl ?_
              refine ev_g0 rfl ?_
              refine ev_inV 1 k_MM_344 h_MM_hold rfl rfl rfl rfl rfl ⟨by decide, by decide⟩ rfl ?_
              refine ev_gU [] [] rfl ?_
              refine ev_reti rfl ?_
              refine ev_g0 rfl ?_
              refine ev_inV 2 k_MM_354 h_MM_takes rfl rfl rfl rfl rfl ⟨by decide, by decide⟩ rfl ?_
              refine ev_gU [false] [] rfl ?_
              refine ev_inV 2 k_MM_202 h_MM_isKind rfl rfl rfl rfl rfl ⟨by decide, by decide⟩ rfl ?_
              refine ev_gU [false, false, true, false] [] rfl ?_
              refine ev_inS 3 k_MM_188 h_MM_in rfl rfl rfl rfl ⟨by decide, by decide⟩ rfl ?_
              refine ev_gU [false, false] [] rfl ?_
              refine ev_retz rfl (by first | decide | exact zb_01 _) ?_
              refine ev_gU [false] [] rfl ?_
              refine ev_inS 2 k_MM_192 h_MM_isOf rfl rfl rfl rfl ⟨by decide, by decide⟩ rfl ?_
              refine ev_gU [true] [] rfl ?_
              refine ev_retz rfl (by first | decide | exact zb_01 _) ?_
              refine ev_gU [false] [] rfl ?_
              refine ev_retz rfl (by first | decide | exact zb_01 _) ?_
              refine ev_gU [true] [] rfl ?_
              refine ev_retz rfl (by first | decide | exact zb_01 _) ?_
              refine ev_gU [false] [] rfl ?_
              refine ev_inV 2 k_MM_354 h_MM_takes rfl rfl rfl rfl rfl ⟨by decide, by decide⟩ rfl ?_
              refine ev_gU [false] [] rfl ?_
              refine ev_inV 2 k_MM_202 h_MM_isKind rfl rfl rfl rfl rfl ⟨by decide, by decide⟩ rfl ?_
              refine ev_gU [false, false, true, true, false, true] [] rfl ?_
              refine ev_retz rfl (by first | decide | exact zb_01 _) ?_
              refine ev_gU [false] [] rfl ?_
              refine ev_retz rfl (by first | decide | exact zb_01 _) ?_
              refine ev_gU [true] [] rfl ?_
              refine ev_ret rfl ?_
              refine ev_g0 rfl ?_
              refine ev_ret rfl ?_
              exact ⟨rfl, xj, xd, xf, xo, xi, xn, nI 3, rfl, bdd, lf_U, lf_U, hC, hM⟩
      · skip
        refine ct_of h_IA_perform rfl rfl rfl ?_
        refine ev_g0 rfl ?_
        refine ev_inV 1 k_IA_9 h_SD_t rfl rfl rfl rfl rfl ⟨by decide, by decide⟩ rfl ?_
        refine ev_gU [] [some (94 + 4 * q)] rfl ?_
        refine ev_reta rfl ?_
        refine ev_gU [true, true, true, false] [] rfl ?_
        refine ev_inV 1 k_IA_9 h_SD_t rfl rfl rfl rfl rfl ⟨by decide, by decide⟩ rfl ?_
        refine ev_gU [] [some (94 + 4 * u)] rfl ?_
        refine ev_reta rfl ?_
        refine ev_g0 rfl ?_
        refine ev_inS 1 k_IA_28 h_IA_rowKind rfl rfl rfl rfl ⟨by decide, by decide⟩ rfl ?_
        refine ev_gU [false] [] rfl ?_
        refine ev_reti rfl ?_
        refine ev_g0 rfl ?_
        refine ev_inV 1 k_IA_17 h_SD_n rfl rfl rfl rfl rfl ⟨by decide, by decide⟩ rfl ?_
        refine ev_gU [] [] rfl ?_
        refine ev_retl rfl ?_
        refine ev_g0 rfl ?_
        refine ev_inS 4 k_IA_35 h_IA_setPart rfl rfl rfl rfl ⟨by decide, by decide⟩ rfl ?_
        refine ev_g0 rfl ?_
        refine ev_inV 1 k_IA_96 h_TH_isA rfl rfl rfl rfl rfl ⟨by decide, by decide⟩ rfl ?_
        refine ev_gU [false, false] [none] rfl ?_
        refine ev_bU rfl rfl (fun h_20 => ?_) (fun h_20 => ?_)
        · skip
          refine ev_g0 rfl ?_
          refine ev_retz rfl (by first | decide | exact zb_01 _) ?_
          refine ev_gU [false] [] rfl ?_
          refine ev_reti rfl ?_
          refine ev_g0 rfl ?_
          refine ev_reti rfl ?_
          refine ct_of h_MM_handles rfl rfl rfl ?_
          refine ev_g0 rfl ?_
          refine ev_inV 1 k_MM_344 h_MM_hold rfl rfl rfl rfl rfl ⟨by decide, by decide⟩ rfl ?_
          refine ev_gU [] [] rfl ?_
          refine ev_reti rfl ?_
          refine ev_gU [] [some 3] rfl ?_
          refine ev_inV 2 k_MM_374 h_MM_storesThing rfl rfl rfl rfl rfl ⟨by decide, by decide⟩ rfl ?_
          refine ev_g0 rfl ?_
          refine ev_inV 1 k_MM_344 h_MM_hold rfl rfl rfl rfl rfl ⟨by decide, by decide⟩ rfl ?_
          refine ev_gU [] [] rfl ?_
          refine ev_reti rfl ?_
          refine ev_g0 rfl ?_
          refine ev_inV 1 k_MM_344 h_MM_hold rfl rfl rfl rfl rfl ⟨by decide, by decide⟩ rfl ?_
          refine ev_gU [] [] rfl ?_
          refine ev_reti rfl ?_
          refine ev_g0 rfl ?_
          refine ev_inV 2 k_MM_354 h_MM_takes rfl rfl rfl rfl rfl ⟨by decide, by decide⟩ rfl ?_
          refine ev_gU [false] [] rfl ?_
          refine ev_inV 2 k_MM_202 h_MM_isKind rfl rfl rfl rfl rfl ⟨by decide, by decide⟩ rfl ?_
          refine ev_gU [false, false, true, false] [] rfl ?_
          refine ev_inS 3 k_MM_188 h_MM_in rfl rfl rfl rfl ⟨by decide, by decide⟩ rfl ?_
          refine ev_gU [true] [] rfl ?_
          refine ev_retz rfl (by first | decide | exact zb_01 _) ?_
          refine ev_gU [true] [] rfl ?_
          refine ev_retz rfl (by first | decide | exact zb_01 _) ?_
          refine ev_gU [false] [] rfl ?_
          refine ev_retz rfl (by first | decide | exact zb_01 _) ?_
          refine ev_gU [true] [] rfl ?_
          refine ev_ret rfl ?_
          refine ev_g0 rfl ?_
          refine ev_ret rfl ?_
          exact ⟨rfl, xj, xd, xf, xo, xi, xn, nI 3, rfl, bdd, lf_U, lf_U, hC, hM⟩
        · skip
          refine ev_g0 rfl ?_
          refine ev_bU rfl rfl (fun h_21 => ?_) (fun h_21 => ?_)
          · skip
            refine ev_g0 rfl ?_
            refine ev_retz rfl (by first | decide | exact zb_01 _) ?_
            refine ev_gU [false] [] rfl ?_
            refine ev_reti rfl ?_
            refine ev_g0 rfl ?_
            refine ev_reti rfl ?_
            refine ct_of h_MM_handles rfl rfl rfl ?_
            refine ev_g0 rfl ?_
            refine ev_inV 1 k_MM_344 h_MM_hold rfl rfl rfl rfl rfl ⟨by decide, by decide⟩ rfl ?_
            refine ev_gU [] [] rfl ?_
            refine ev_reti rfl ?_
            refine ev_gU [] [some 3] rfl ?_
            refine ev_inV 2 k_MM_374 h_MM_storesThing rfl rfl rfl rfl rfl ⟨by decide, by decide⟩ rfl ?_
            refine ev_g0 rfl ?_
            refine ev_inV 1 k_MM_344 h_MM_hold rfl rfl rfl rfl rfl ⟨by decide, by decide⟩ rfl ?_
            refine ev_gU [] [] rfl ?_
            refine ev_reti rfl ?_
            refine ev_g0 rfl ?_
            refine ev_inV 1 k_MM_344 h_MM_hold rfl rfl rfl rfl rfl ⟨by decide, by decide⟩ rfl ?_
            refine ev_gU [] [] rfl ?_
            refine ev_reti rfl ?_
            refine ev_g0 rfl ?_
            refine ev_inV 2 k_MM_354 h_MM_takes rfl rfl rfl rfl rfl ⟨by decide, by decide⟩ rfl ?_
            refine ev_gU [false] [] rfl ?_
            refine ev_inV 2 k_MM_202 h_MM_isKind rfl rfl rfl rfl rfl ⟨by decide, by decide⟩ rfl ?_
            refine ev_gU [false, false, true, false] [] rfl ?_
            refine ev_inS 3 k_MM_188 h_MM_in rfl rfl rfl rfl ⟨by decide, by decide⟩ rfl ?_
            refine ev_gU [false, true] [] rfl ?_
            refine ev_retz rfl (by first | decide | exact zb_01 _) ?_
            refine ev_gU [true] [] rfl ?_
            refine ev_retz rfl (by first | decide | exact zb_01 _) ?_
            refine ev_gU [false] [] rfl ?_
            refine ev_retz rfl (by first | decide | exact zb_01 _) ?_
            refine ev_gU [true] [] rfl ?_
            refine ev_ret rfl ?_
            refine ev_g0 rfl ?_
            refine ev_ret rfl ?_
            exact ⟨rfl, xj, xd, xf, xo, xi, xn, nI 3, rfl, bdd, lf_U, lf_U, hC, hM⟩
          · skip
            refine ev_g0 rfl ?_
            refine ev_inS 2 k_TH_77 h_TH_isUnder rfl rfl rfl rfl ⟨by decide, by decide⟩ rfl ?_
            refine ev_gU [true] [] rfl ?_
            refine ev_retz rfl (by first | decide | exact zb_01 _) ?_
            refine ev_gU [false] [] rfl ?_
            refine ev_retz rfl (by first | decide | exact zb_01 _) ?_
            refine ev_gU [true] [] rfl ?_
            refine ev_inS 1 k_IA_108 h_IA_partKind rfl rfl rfl rfl ⟨by decide, by decide⟩ rfl ?_
            refine ev_gU [false] [] rfl ?_
            refine ev_reti rfl ?_
            refine ev_g0 rfl ?_
            refine ev_inV 1 k_IA_96 h_TH_isA rfl rfl rfl rfl rfl ⟨by decide, by decide⟩ rfl ?_
            refine ev_gU [false, true, false, false] [none] rfl ?_
            refine ev_inV 0 k_TH_73 h_TH_isRow rfl rfl rfl rfl rfl ⟨by decide, by decide⟩ rfl ?_
            refine ev_g0 rfl ?_
            refine ev_bU rfl rfl (fun h_22 => ?_) (fun h_22 => ?_)
            · skip
              refine ev_g0 rfl ?_
              refine ev_retz rfl (by first | decide | exact zb_01 _) ?_
              refine ev_gU [false] [] rfl ?_
              refine ev_inS 2 k_TH_77 h_TH_isUnder rfl rfl rfl rfl ⟨by decide, by decide⟩ rfl ?_
              refine ev_gU [true] [] rfl ?_
              refine ev_retz rfl (by first | decide | exact zb_01 _) ?_
              refine ev_gU [false] [] rfl ?_
              refine ev_retz rfl (by first | decide | exact zb_01 _) ?_
              refine ev_gU [true] [] rfl ?_
              refine ev_inV 1 k_IA_60 h_TH_hasItem rfl rfl rfl rfl rfl ⟨by decide, by decide⟩ rfl ?_
              refine ev_g0 rfl ?_
              refine ev_bU rfl rfl (fun h_23 => ?_) (fun h_23 => ?_)
              · skip
                refine ev_g0 rfl ?_
                refine ev_retz rfl (by first | decide | exact zb_01 _) ?_
                refine ev_gU [false] [] rfl ?_
                refine ev_reti rfl ?_
                refine ev_g0 rfl ?_
                refine ev_reti rfl ?_
                refine ct_of h_MM_handles rfl rfl rfl ?_
                refine ev_g0 rfl ?_
                refine ev_inV 1 k_MM_344 h_MM_hold rfl rfl rfl rfl rfl ⟨by decide, by decide⟩ rfl ?_
                refine ev_gU [] [] rfl ?_
                refine ev_reti rfl ?_
                refine ev_gU [] [some 3] rfl ?_
                refine ev_inV 2 k_MM_374 h_MM_storesThing rfl rfl rfl rfl rfl ⟨by decide, by decide⟩ rfl ?_
                refine ev_g0 rfl ?_
                refine ev_inV 1 k_MM_344 h_MM_hold rfl rfl rfl rfl rfl ⟨by decide, by decide⟩ rfl ?_
                refine ev_gU [] [] rfl ?_
                refine ev_reti rfl ?_
                refine ev_g0 rfl ?_
                refine ev_inV 1 k_MM_344 h_MM_hold rfl rfl rfl rfl rfl ⟨by decide, by decide⟩ rfl ?_
                refine ev_gU [] [] rfl ?_
                refine ev_reti rfl ?_
                refine ev_g0 rfl ?_
                refine ev_inV 2 k_MM_354 h_MM_takes rfl rfl rfl rfl rfl ⟨by decide, by decide⟩ rfl ?_
                refine ev_gU [false] [] rfl ?_
                refine ev_inV 2 k_MM_202 h_MM_isKind rfl rfl rfl rfl rfl ⟨by decide, by decide⟩ rfl ?_
                refine ev_gU [false, false, true, false] [] rfl ?_
                refine ev_inS 3 k_MM_188 h_MM_in rfl rfl rfl rfl ⟨by decide, by decide⟩ rfl ?_
                refine ev_gU [false, false] [] rfl ?_
                refine ev_retz rfl (by first | decide | exact zb_01 _) ?_
                refine ev_gU [false] [] rfl ?_
                refine ev_inS 2 k_MM_192 h_MM_isOf rfl rfl rfl rfl ⟨by decide, by decide⟩ rfl ?_
                refine ev_gU [true] [] rfl ?_
                refine ev_retz rfl (by first | decide | exact zb_01 _) ?_
                refine ev_gU [false] [] rfl ?_
                refine ev_retz rfl (by first | decide | exact zb_01 _) ?_
                refine ev_gU [true] [] rfl ?_
                refine ev_retz rfl (by first | decide | exact zb_01 _) ?_
                refine ev_gU [false] [] rfl ?_
                refine ev_inV 2 k_MM_354 h_MM_takes rfl rfl rfl rfl rfl ⟨by decide, by decide⟩ rfl ?_
                refine ev_gU [false] [] rfl ?_
                refine ev_inV 2 k_MM_202 h_MM_isKind rfl rfl rfl rfl rfl ⟨by decide, by decide⟩ rfl ?_
                refine ev_gU [false, false, true, true, false, false] [] rfl ?_
                refine ev_inS 2 k_MM_192 h_MM_isOf rfl rfl rfl rfl ⟨by decide, by decide⟩ rfl ?_
                refine ev_gU [true] [] rfl ?_
                refine ev_retz rfl (by first | decide | exact zb_01 _) ?_
                refine ev_gU [false] [] rfl ?_
                refine ev_retz rfl (by first | decide | exact zb_01 _) ?_
                refine ev_gU [true] [] rfl ?_
                refine ev_retz rfl (by first | decide | exact zb_01 _) ?_
                refine ev_gU [false] [] rfl ?_
                refine ev_inV 1 k_MM_357 h_MM_is rfl rfl rfl rfl rfl ⟨by decide, by decide⟩ rfl ?_
                refine ev_gU [true, false] [] rfl ?_
                refine ev_retz rfl (by first | decide | exact zb_01 _) ?_
                refine ev_gU [false] [] rfl ?_
                refine ev_inV 1 k_MM_277 h_MM_number rfl rfl rfl rfl rfl ⟨by decide, by decide⟩ rfl ?_
                refine ev_gU [] [] rfl ?_
                refine ev_retl rfl ?_
                refine ev_g0 rfl ?_
                refine ev_inV 2 k_MM_360 h_MM_holdsIndex rfl rfl rfl rfl rfl ⟨by decide, by decide⟩ rfl ?_
                refine ev_gU [] [] rfl ?_
                refine ev_inS 3 k_MM_188 h_MM_in rfl rfl rfl rfl ⟨by decide, by decide⟩ rfl ?_
                refine ev_gU [true] [] rfl ?_
                refine ev_retz rfl (by first | decide | exact zb_01 _) ?_
                refine ev_gU [false] [] rfl ?_
                refine ev_retz rfl (by first | decide | exact zb_01 _) ?_
                refine ev_gU [false] [] rfl ?_
                refine ev_ret rfl ?_
                refine ev_g0 rfl ?_
                refine ev_ret rfl ?_
                exact ⟨rfl, xj, xd, xf, xo, xi, xn, nI 2, rfl, bdd, lf_U, lf_U, hC, hM⟩
              · skip
                refine ev_gU [true] [] rfl ?_
                refine ev_retz rfl (by first | decide | exact zb_01 _) ?_
                refine ev_gU [false] [] rfl ?_
                refine ev_reti rfl ?_
                refine ev_g0 rfl ?_
                refine ev_reti rfl ?_
                refine ct_of h_MM_handles rfl rfl rfl ?_
                refine ev_g0 rfl ?_
                refine ev_inV 1 k_MM_344 h_MM_hold rfl rfl rfl rfl rfl ⟨by decide, by decide⟩ rfl ?_
                refine ev_gU [] [] rfl ?_
                refine ev_reti rfl ?_
                refine ev_gU [] [some 3] rfl ?_
                refine ev_inV 2 k_MM_374 h_MM_storesThing rfl rfl rfl rfl rfl ⟨by decide, by decide⟩ rfl ?_
                refine ev_g0 rfl ?_
                refine ev_inV 1 k_MM_344 h_MM_hold rfl rfl rfl rfl rfl ⟨by decide, by decide⟩ rfl ?_
                refine ev_gU [] [] rfl ?_
                refine ev_reti rfl ?_
                refine ev_g0 rfl ?_
                refine ev_inV 1 k_MM_344 h_MM_hold rfl rfl rfl rfl rfl ⟨by decide, by decide⟩ rfl ?_
                refine ev_gU [] [] rfl ?_
                refine ev_reti rfl ?_
                refine ev_g0 rfl ?_
                refine ev_inV 2 k_MM_354 h_MM_takes rfl rfl rfl rfl rfl ⟨by decide, by decide⟩ rfl ?_
                refine ev_gU [false] [] rfl ?_
                refine ev_inV 2 k_MM_202 h_MM_isKind rfl rfl rfl rfl rfl ⟨by decide, by decide⟩ rfl ?_
                refine ev_gU [false, false, true, false] [] rfl ?_
                refine ev_inS 3 k_MM_188 h_MM_in rfl rfl rfl rfl ⟨by decide, by decide⟩ rfl ?_
                refine ev_gU [false, false] [] rfl ?_
                refine ev_retz rfl (by first | decide | exact zb_01 _) ?_
                refine ev_gU [false] [] rfl ?_
                refine ev_inS 2 k_MM_192 h_MM_isOf rfl rfl rfl rfl ⟨by decide, by decide⟩ rfl ?_
                refine ev_gU [true] [] rfl ?_
                refine ev_retz rfl (by first | decide | exact zb_01 _) ?_
                refine ev_gU [false] [] rfl ?_
                refine ev_retz rfl (by first | decide | exact zb_01 _) ?_
                refine ev_gU [true] [] rfl ?_
                refine ev_retz rfl (by first | decide | exact zb_01 _) ?_
                refine ev_gU [false] [] rfl ?_
                refine ev_inV 2 k_MM_354 h_MM_takes rfl rfl rfl rfl rfl ⟨by decide, by decide⟩ rfl ?_
                refine ev_gU [false] [] rfl ?_
                refine ev_inV 2 k_MM_202 h_MM_isKind rfl rfl rfl rfl rfl ⟨by decide, by decide⟩ rfl ?_
                refine ev_gU [false, false, true, true, false, false] [] rfl ?_
                refine ev_inS 2 k_MM_192 h_MM_isOf rfl rfl rfl rfl ⟨by decide, by decide⟩ rfl ?_
                refine ev_gU [true] [] rfl ?_
                refine ev_retz rfl (by first | decide | exact zb_01 _) ?_
                refine ev_gU [false] [] rfl ?_
                refine ev_retz rfl (by first | decide | exact zb_01 _) ?_
                refine ev_gU [true] [] rfl ?_
                refine ev_retz rfl (by first | decide | exact zb_01 _) ?_
                refine ev_gU [false] [] rfl ?_
                refine ev_inV 1 k_MM_357 h_MM_is rfl rfl rfl rfl rfl ⟨by decide, by decide⟩ rfl ?_
                refine ev_gU [true, false] [] rfl ?_
                refine ev_retz rfl (by first | decide | exact zb_01 _) ?_
                refine ev_gU [false] [] rfl ?_
                refine ev_inV 1 k_MM_277 h_MM_number rfl rfl rfl rfl rfl ⟨by decide, by decide⟩ rfl ?_
                refine ev_gU [] [] rfl ?_
                refine ev_retl rfl ?_
                refine ev_g0 rfl ?_
                refine ev_inV 2 k_MM_360 h_MM_holdsIndex rfl rfl rfl rfl rfl ⟨by decide, by decide⟩ rfl ?_
                refine ev_gU [] [] rfl ?_
                refine ev_inS 3 k_MM_188 h_MM_in rfl rfl rfl rfl ⟨by decide, by decide⟩ rfl ?_
                refine ev_gU [false, true] [] rfl ?_
                refine ev_retz rfl (by first | decide | exact zb_01 _) ?_
                refine ev_gU [false] [] rfl ?_
                refine ev_retz rfl (by first | decide | exact zb_01 _) ?_
                refine ev_gU [false] [] rfl ?_
                refine ev_ret rfl ?_
                refine ev_g0 rfl ?_
                refine ev_ret rfl ?_
                exact ⟨rfl, xj, xd, xf, xo, xi, xn, nI 2, rfl, bdd, lf_U, lf_U, hC, hM⟩
            · skip
              refine ev_g0 rfl ?_
              refine ev_retz rfl (by first | decide | exact zb_01 _) ?_
              refine ev_gU [true] [] rfl ?_
              refine ev_retz rfl (by first | decide | exact zb_01 _) ?_
              refine ev_gU [false] [] rfl ?_
              refine ev_reti rfl ?_
              refine ev_g0 rfl ?_
              refine ev_reti rfl ?_
              refine ct_of h_MM_handles rfl rfl rfl ?_
              refine ev_g0 rfl ?_
              refine ev_inV 1 k_MM_344 h_MM_hold rfl rfl rfl rfl rfl ⟨by decide, by decide⟩ rfl ?_
              refine ev_gU [] [] rfl ?_
              refine ev_reti rfl ?_
              refine ev_gU [] [some 3] rfl ?_
              refine ev_inV 2 k_MM_374 h_MM_storesThing rfl rfl rfl rfl rfl ⟨by decide, by decide⟩ rfl ?_
              refine ev_g0 rfl ?_
              refine ev_inV 1 k_MM_344 h_MM_hold rfl rfl rfl rfl rfl ⟨by decide, by decide⟩ rfl ?_
              refine ev_gU [] [] rfl ?_
              refine ev_reti rfl ?_
              refine ev_g0 rfl ?_
              refine ev_inV 1 k_MM_344 h_MM_hold rfl rfl rfl rfl rfl ⟨by decide, by decide⟩ rfl ?_
              refine ev_gU [] [] rfl ?_
              refine ev_reti rfl ?_
              refine ev_g0 rfl ?_
              refine ev_inV 2 k_MM_354 h_MM_takes rfl rfl rfl rfl rfl ⟨by decide, by decide⟩ rfl ?_
              refine ev_gU [false] [] rfl ?_
              refine ev_inV 2 k_MM_202 h_MM_isKind rfl rfl rfl rfl rfl ⟨by decide, by decide⟩ rfl ?_
              refine ev_gU [false, false, true, false] [] rfl ?_
              refine ev_inS 3 k_MM_188 h_MM_in rfl rfl rfl rfl ⟨by decide, by decide⟩ rfl ?_
              refine ev_gU [false, false] [] rfl ?_
              refine ev_retz rfl (by first | decide | exact zb_01 _) ?_
              refine ev_gU [false] [] rfl ?_
              refine ev_inS 2 k_MM_192 h_MM_isOf rfl rfl rfl rfl ⟨by decide, by decide⟩ rfl ?_
              refine ev_gU [true] [] rfl ?_
              refine ev_retz rfl (by first | decide | exact zb_01 _) ?_
              refine ev_gU [false] [] rfl ?_
              refine ev_retz rfl (by first | decide | exact zb_01 _) ?_
              refine ev_gU [true] [] rfl ?_
              refine ev_retz rfl (by first | decide | exact zb_01 _) ?_
              refine ev_gU [false] [] rfl ?_
              refine ev_inV 2 k_MM_354 h_MM_takes rfl rfl rfl rfl rfl ⟨by decide, by decide⟩ rfl ?_
              refine ev_gU [false] [] rfl ?_
              refine ev_inV 2 k_MM_202 h_MM_isKind rfl rfl rfl rfl rfl ⟨by decide, by decide⟩ rfl ?_
              refine ev_gU [false, false, true, true, false, true] [] rfl ?_
              refine ev_retz rfl (by first | decide | exact zb_01 _) ?_
              refine ev_gU [false] [] rfl ?_
              refine ev_retz rfl (by first | decide | exact zb_01 _) ?_
              refine ev_gU [true] [] rfl ?_
              refine ev_ret rfl ?_
              refine ev_g0 rfl ?_
              refine ev_ret rfl ?_
              exact ⟨rfl, xj, xd, xf, xo, xi, xn, nI 3, rfl, bdd, lf_U, lf_U, hC, hM⟩
theorem A40 {ci : Nat → Nat → Nat → Int32} {cn : Nat → Nat → Nat → Nat} {co : Nat → Option Nat} {xj : Nat → Nat → Nat → Int64} {xd : Nat → Nat → Nat → UInt64} {xf : Nat → Nat → Nat → UInt32} {xo : Nat → Nat → Nat → Option Nat} {xi : Nat → Nat → Nat → Int32} {xn : Nat → Nat → Nat → Nat} {K : Nat → Nat} {I : Nat → Nat → Int32} {J : Nat → Nat → Int64} {F : Nat → Nat → UInt32} {D : Nat → Nat → UInt64} {R : Nat → Nat → Option Nat} {nx sl : Nat} {Km : Nat → Nat} {Im : Nat → Nat → Int32} {Jm : Nat → Nat → Int64} {Fm : Nat → Nat → UInt32} {Dm : Nat → Nat → UInt64} {Rm : Nat → Nat → Option Nat} {nxm slm : Nat} (hC : RC ci cn co xj xd xf xo xi xn I J F D R nx sl) (hM : RM ci cn co xj xd xf xo xi xn Im Jm Dm) {t a b c : Nat} {go : Int32} (ht : t < 3) (ha : a < 8) (hb : b < 8) (hc : c < 8) (x1 : Im 6 39 = nI t) (x2 : Im 6 40 = nI a) (x3 : Im 6 41 = nI b) (x4 : Im 6 42 = nI c) (x5 : Im 6 43 = nI 0) (x6 : Im 6 44 = go) : Ct Y_IA_perform [vr 8 (32 + 7 * t), vi (nI 40), vi (nI a), vi (nI b), vi (nI c)] (K, I, J, F, D, R, nx, sl) (fun r μ1 => Ct Y_MM_handles [vr 11 6, vi (nI 40)] (Km, Im, Jm, Fm, Dm, Rm, nxm, slm) (fun r2 μ2 => r2 = none ∧ QA ci cn co go r μ1 μ2)) := by
  rcases ho : xo 0 t b with _ | q
  · skip
    rcases hou : xo 0 t a with _ | u
    · skip
      refine ct_of h_IA_perform rfl rfl rfl ?_
      refine ev_g0 rfl ?_
      refine ev_inV 1 k_IA_9 h_SD_t rfl rfl rfl rfl rfl ⟨by decide, by decide⟩ rfl ?_
      refine ev_gU [] [none] rfl ?_
      refine ev_retn rfl ?_
      refine ev_gU [true, true, true, false] [] rfl ?_
      refine ev_inV 1 k_IA_9 h_SD_t rfl rfl rfl rfl rfl ⟨by decide, by decide⟩ rfl ?_
      refine ev_gU [] [none] rfl ?_
      refine ev_retn rfl ?_
      refine ev_g0 rfl ?_
      refine ev_inS 1 k_IA_28 h_IA_rowKind rfl rfl rfl rfl ⟨by decide, by decide⟩ rfl ?_
      refine ev_gU [true, false] [] rfl ?_
      refine ev_reti rfl ?_
      refine ev_g0 rfl ?_
      refine ev_inV 1 k_IA_17 h_SD_n rfl rfl rfl rfl rfl ⟨by decide, by decide⟩ rfl ?_
      refine ev_gU [] [] rfl ?_
      refine ev_retl rfl ?_
      refine ev_g0 rfl ?_
      refine ev_inS 4 k_IA_35 h_IA_setPart rfl rfl rfl rfl ⟨by decide, by decide⟩ rfl ?_
      refine ev_g0 rfl ?_
      refine ev_reti rfl ?_
      refine ev_g0 rfl ?_
      refine ev_reti rfl ?_
      refine ct_of h_MM_handles rfl rfl rfl ?_
      refine ev_g0 rfl ?_
      refine ev_inV 1 k_MM_344 h_MM_hold rfl rfl rfl rfl rfl ⟨by decide, by decide⟩ rfl ?_
      refine ev_gU [] [] rfl ?_
      refine ev_reti rfl ?_
      refine ev_gU [] [some 4] rfl ?_
      refine ev_inV 2 k_MM_374 h_MM_storesThing rfl rfl rfl rfl rfl ⟨by decide, by decide⟩ rfl ?_
      refine ev_g0 rfl ?_
      refine ev_inV 1 k_MM_344 h_MM_hold rfl rfl rfl rfl rfl ⟨by decide, by decide⟩ rfl ?_
      refine ev_gU [] [] rfl ?_
      refine ev_reti rfl ?_
      refine ev_g0 rfl ?_
      refine ev_inV 1 k_MM_344 h_MM_hold rfl rfl rfl rfl rfl ⟨by decide, by decide⟩ rfl ?_
      refine ev_gU [] [] rfl ?_
      refine ev_reti rfl ?_
      refine ev_g0 rfl ?_
      refine ev_inV 2 k_MM_354 h_MM_takes rfl rfl rfl rfl rfl ⟨by decide, by decide⟩ rfl ?_
      refine ev_gU [true] [] rfl ?_
      refine ev_retz rfl (by first | decide | exact zb_01 _) ?_
      refine ev_gU [false] [] rfl ?_
      refine ev_inV 2 k_MM_354 h_MM_takes rfl rfl rfl rfl rfl ⟨by decide, by decide⟩ rfl ?_
      refine ev_gU [true] [] rfl ?_
      refine ev_retz rfl (by first | decide | exact zb_01 _) ?_
      refine ev_gU [false] [] rfl ?_
      refine ev_inV 1 k_MM_357 h_MM_is rfl rfl rfl rfl rfl ⟨by decide, by decide⟩ rfl ?_
      refine ev_gU [false, true] [] rfl ?_
      refine ev_retz rfl (by first | decide | exact zb_01 _) ?_
      refine ev_gU [true] [] rfl ?_
      refine ev_ret rfl ?_
      refine ev_g0 rfl ?_
      refine ev_ret rfl ?_
      exact ⟨rfl, xj, xd, xf, xo, xi, xn, nI 1, rfl, bdd, lf_U, lf_U, hC, hM⟩
    · skip
      have hu := rc_ihol hC ht ha _ hou
      have zu := rc_isor hC hu
      have yu := rc_imad hC
      refine ct_of h_IA_perform rfl rfl rfl ?_
      refine ev_g0 rfl ?_
      refine ev_inV 1 k_IA_9 h_SD_t rfl rfl rfl rfl rfl ⟨by decide, by decide⟩ rfl ?_
      refine ev_gU [] [none] rfl ?_
      refine ev_retn rfl ?_
      refine ev_gU [true, true, true, false] [] rfl ?_
      refine ev_inV 1 k_IA_9 h_SD_t rfl rfl rfl rfl rfl ⟨by decide, by decide⟩ rfl ?_
      refine ev_gU [] [some (94 + 4 * u)] rfl ?_
      refine ev_reta rfl ?_
      refine ev_g0 rfl ?_
      refine ev_inS 1 k_IA_28 h_IA_rowKind rfl rfl rfl rfl ⟨by decide, by decide⟩ rfl ?_
      refine ev_gU [true, false] [] rfl ?_
      refine ev_reti rfl ?_
      refine ev_g0 rfl ?_
      refine ev_inV 1 k_IA_17 h_SD_n rfl rfl rfl rfl rfl ⟨by decide, by decide⟩ rfl ?_
      refine ev_gU [] [] rfl ?_
      refine ev_retl rfl ?_
      refine ev_g0 rfl ?_
      refine ev_inS 4 k_IA_35 h_IA_setPart rfl rfl rfl rfl ⟨by decide, by decide⟩ rfl ?_
      refine ev_g0 rfl ?_
      refine ev_inS 1 k_IA_108 h_IA_partKind rfl rfl rfl rfl ⟨by decide, by decide⟩ rfl ?_
      refine ev_gU [true, false] [] rfl ?_
      refine ev_reti rfl ?_
      refine ev_g0 rfl ?_
      refine ev_inV 1 k_IA_96 h_TH_isA rfl rfl rfl rfl rfl ⟨by decide, by decide⟩ rfl ?_
      refine ev_gU [true, true] [none] rfl ?_
      refine ev_bU rfl rfl (fun h_1 => ?_) (fun h_1 => ?_)
      · skip
        refine ev_g0 rfl ?_
        refine ev_retz rfl (by first | decide | exact zb_01 _) ?_
        refine ev_gU [false] [] rfl ?_
        refine ev_reti rfl ?_
        refine ev_g0 rfl ?_
        refine ev_reti rfl ?_
        refine ct_of h_MM_handles rfl rfl rfl ?_
        refine ev_g0 rfl ?_
        refine ev_inV 1 k_MM_344 h_MM_hold rfl rfl rfl rfl rfl ⟨by decide, by decide⟩ rfl ?_
        refine ev_gU [] [] rfl ?_
        refine ev_reti rfl ?_
        refine ev_gU [] [some 4] rfl ?_
        refine ev_inV 2 k_MM_374 h_MM_storesThing rfl rfl rfl rfl rfl ⟨by decide, by decide⟩ rfl ?_
        refine ev_g0 rfl ?_
        refine ev_inV 1 k_MM_344 h_MM_hold rfl rfl rfl rfl rfl ⟨by decide, by decide⟩ rfl ?_
        refine ev_gU [] [] rfl ?_
        refine ev_reti rfl ?_
        refine ev_g0 rfl ?_
        refine ev_inV 1 k_MM_344 h_MM_hold rfl rfl rfl rfl rfl ⟨by decide, by decide⟩ rfl ?_
        refine ev_gU [] [] rfl ?_
        refine ev_reti rfl ?_
        refine ev_g0 rfl ?_
        refine ev_inV 2 k_MM_354 h_MM_takes rfl rfl rfl rfl rfl ⟨by decide, by decide⟩ rfl ?_
        refine ev_gU [true] [] rfl ?_
        refine ev_retz rfl (by first | decide | exact zb_01 _) ?_
        refine ev_gU [false] [] rfl ?_
        refine ev_inV 2 k_MM_354 h_MM_takes rfl rfl rfl rfl rfl ⟨by decide, by decide⟩ rfl ?_
        refine ev_gU [false] [] rfl ?_
        refine ev_inV 2 k_MM_202 h_MM_isKind rfl rfl rfl rfl rfl ⟨by decide, by decide⟩ rfl ?_
        refine ev_gU [true, true] [] rfl ?_
        refine ev_retz rfl (by first | decide | exact zb_01 _) ?_
        refine ev_gU [false] [] rfl ?_
        refine ev_retz rfl (by first | decide | exact zb_01 _) ?_
        refine ev_gU [true] [] rfl ?_
        refine ev_ret rfl ?_
        refine ev_g0 rfl ?_
        refine ev_ret rfl ?_
        exact ⟨rfl, xj, xd, xf, xo, xi, xn, nI 3, rfl, bdd, lf_U, lf_U, hC, hM⟩
      · skip
        refine ev_g0 rfl ?_
        refine ev_retz rfl (by first | decide | exact zb_01 _) ?_
        refine ev_gU [true] [] rfl ?_
        refine ev_reti rfl ?_
        refine ev_g0 rfl ?_
        refine ev_reti rfl ?_
        refine ct_of h_MM_handles rfl rfl rfl ?_
        refine ev_g0 rfl ?_
        refine ev_inV 1 k_MM_344 h_MM_hold rfl rfl rfl rfl rfl ⟨by decide, by decide⟩ rfl ?_
        refine ev_gU [] [] rfl ?_
        refine ev_reti rfl ?_
        refine ev_gU [] [some 4] rfl ?_
        refine ev_inV 2 k_MM_374 h_MM_storesThing rfl rfl rfl rfl rfl ⟨by decide, by decide⟩ rfl ?_
        refine ev_g0 rfl ?_
        refine ev_inV 1 k_MM_344 h_MM_hold rfl rfl rfl rfl rfl ⟨by decide, by decide⟩ rfl ?_
        refine ev_gU [] [] rfl ?_
        refine ev_reti rfl ?_
        refine ev_g0 rfl ?_
        refine ev_inV 1 k_MM_344 h_MM_hold rfl rfl rfl rfl rfl ⟨by decide, by decide⟩ rfl ?_
        refine ev_gU [] [] rfl ?_
        refine ev_reti rfl ?_
        refine ev_g0 rfl ?_
        refine ev_inV 2 k_MM_354 h_MM_takes rfl rfl rfl rfl rfl ⟨by decide, by decide⟩ rfl ?_
        refine ev_gU [true] [] rfl ?_
        refine ev_retz rfl (by first | decide | exact zb_01 _) ?_
        refine ev_gU [false] [] rfl ?_
        refine ev_inV 2 k_MM_354 h_MM_takes rfl rfl rfl rfl rfl ⟨by decide, by decide⟩ rfl ?_
        refine ev_gU [false] [] rfl ?_
        refine ev_inV 2 k_MM_202 h_MM_isKind rfl rfl rfl rfl rfl ⟨by decide, by decide⟩ rfl ?_
        refine ev_gU [true, false] [] rfl ?_
        refine ev_retz rfl (by first | decide | exact zb_01 _) ?_
        refine ev_gU [true] [] rfl ?_
        refine ev_retz rfl (by first | decide | exact zb_01 _) ?_
        refine ev_gU [false] [] rfl ?_
        refine ev_inV 1 k_MM_357 h_MM_is rfl rfl rfl rfl rfl ⟨by decide, by decide⟩ rfl ?_
        refine ev_gU [false, true] [] rfl ?_
        refine ev_retz rfl (by first | decide | exact zb_01 _) ?_
        refine ev_gU [true] [] rfl ?_
        refine ev_ret rfl ?_
        refine ev_g0 rfl ?_
        refine ev_ret rfl ?_
        exact ⟨rfl, xj, xd, xf, xo, xi, xn, nI 1, rfl, bdd, lf_U, lf_U, hC, hM⟩
  · skip
    have hq := rc_ihol hC ht hb _ ho
    have zq := rc_isor hC hq
    have yq := rc_imad hC
    rcases hou : xo 0 t a with _ | u
    · skip
      rcases ixc (xj 0 t c) (xn 1 q 0) with ⟨j, hj, hi⟩ | hi
      · skip
        refine ct_of h_IA_perform rfl rfl rfl ?_
        refine ev_g0 rfl ?_
        refine ev_inV 1 k_IA_9 h_SD_t rfl rfl rfl rfl rfl ⟨by decide, by decide⟩ rfl ?_
        refine ev_gU [] [some (94 + 4 * q)] rfl ?_
        refine ev_reta rfl ?_
        refine ev_gU [true, true, true, false] [] rfl ?_
        refine ev_inV 1 k_IA_9 h_SD_t rfl rfl rfl rfl rfl ⟨by decide, by decide⟩ rfl ?_
        refine ev_gU [] [none] rfl ?_
        refine ev_retn rfl ?_
        refine ev_g0 rfl ?_
        refine ev_inS 1 k_IA_28 h_IA_rowKind rfl rfl rfl rfl ⟨by decide, by decide⟩ rfl ?_
        refine ev_gU [true, false] [] rfl ?_
        refine ev_reti rfl ?_
        refine ev_g0 rfl ?_
        refine ev_inV 1 k_IA_17 h_SD_n rfl rfl rfl rfl rfl ⟨by decide, by decide⟩ rfl ?_
        refine ev_gU [] [] rfl ?_
        refine ev_retl rfl ?_
        refine ev_g0 rfl ?_
        refine ev_inS 4 k_IA_35 h_IA_setPart rfl rfl rfl rfl ⟨by decide, by decide⟩ rfl ?_
        refine ev_g0 rfl ?_
        refine ev_inV 1 k_IA_96 h_TH_isA rfl rfl rfl rfl rfl ⟨by decide, by decide⟩ rfl ?_
        refine ev_gU [false, true, true] [none] rfl ?_
        refine ev_bU rfl rfl (fun h_2 => ?_) (fun h_2 => ?_)
        · skip
          refine ev_g0 rfl ?_
          refine ev_retz rfl (by first | decide | exact zb_01 _) ?_
          refine ev_gU [false] [] rfl ?_
          refine ev_reti rfl ?_
          refine ev_g0 rfl ?_
          refine ev_reti rfl ?_
          refine ct_of h_MM_handles rfl rfl rfl ?_
          refine ev_g0 rfl ?_
          refine ev_inV 1 k_MM_344 h_MM_hold rfl rfl rfl rfl rfl ⟨by decide, by decide⟩ rfl ?_
          refine ev_gU [] [] rfl ?_
          refine ev_reti rfl ?_
          refine ev_gU [] [some 4] rfl ?_
          refine ev_inV 2 k_MM_374 h_MM_storesThing rfl rfl rfl rfl rfl ⟨by decide, by decide⟩ rfl ?_
          refine ev_g0 rfl ?_
          refine ev_inV 1 k_MM_344 h_MM_hold rfl rfl rfl rfl rfl ⟨by decide, by decide⟩ rfl ?_
          refine ev_gU [] [] rfl ?_
          refine ev_reti rfl ?_
          refine ev_g0 rfl ?_
          refine ev_inV 1 k_MM_344 h_MM_hold rfl rfl rfl rfl rfl ⟨by decide, by decide⟩ rfl ?_
          refine ev_gU [] [] rfl ?_
          refine ev_reti rfl ?_
          refine ev_g0 rfl ?_
          refine ev_inV 2 k_MM_354 h_MM_takes rfl rfl rfl rfl rfl ⟨by decide, by decide⟩ rfl ?_
          refine ev_gU [false] [] rfl ?_
          refine ev_inV 2 k_MM_202 h_MM_isKind rfl rfl rfl rfl rfl ⟨by decide, by decide⟩ rfl ?_
          refine ev_gU [false, true, true] [] rfl ?_
          refine ev_retz rfl (by first | decide | exact zb_01 _) ?_
          refine ev_gU [false] [] rfl ?_
          refine ev_retz rfl (by first | decide | exact zb_01 _) ?_
          refine ev_gU [true] [] rfl ?_
          refine ev_ret rfl ?_
          refine ev_g0 rfl ?_
          refine ev_ret rfl ?_
          exact ⟨rfl, xj, xd, xf, xo, xi, xn, nI 3, rfl, bdd, lf_U, lf_U, hC, hM⟩
        · skip
          refine ev_g0 rfl ?_
          refine ev_retz rfl (by first | decide | exact zb_01 _) ?_
          refine ev_gU [true] [] rfl ?_
          refine ev_inV 1 k_IA_60 h_TH_hasItem rfl rfl rfl rfl rfl ⟨by decide, by decide⟩ rfl ?_
          refine ev_gU [false, false] [] rfl ?_
          refine ev_retz rfl (by first | decide | exact zb_01 _) ?_
          refine ev_gU [true, true] [] rfl ?_
          refine ev_reti rfl ?_
          refine ev_g0 rfl ?_
          refine ev_reti rfl ?_
          refine ct_of h_MM_handles rfl rfl rfl ?_
          refine ev_g0 rfl ?_
          refine ev_inV 1 k_MM_344 h_MM_hold rfl rfl rfl rfl rfl ⟨by decide, by decide⟩ rfl ?_
          refine ev_gU [] [] rfl ?_
          refine ev_reti rfl ?_
          refine ev_gU [] [some 4] rfl ?_
          refine ev_inV 2 k_MM_374 h_MM_storesThing rfl rfl rfl rfl rfl ⟨by decide, by decide⟩ rfl ?_
          refine ev_g0 rfl ?_
          refine ev_inV 1 k_MM_344 h_MM_hold rfl rfl rfl rfl rfl ⟨by decide, by decide⟩ rfl ?_
          refine ev_gU [] [] rfl ?_
          refine ev_reti rfl ?_
          refine ev_g0 rfl ?_
          refine ev_inV 1 k_MM_344 h_MM_hold rfl rfl rfl rfl rfl ⟨by decide, by decide⟩ rfl ?_
          refine ev_gU [] [] rfl ?_
          refine ev_reti rfl ?_
          refine ev_g0 rfl ?_
          refine ev_inV 2 k_MM_354 h_MM_takes rfl rfl rfl rfl rfl ⟨by decide, by decide⟩ rfl ?_
          refine ev_gU [false] [] rfl ?_
          refine ev_inV 2 k_MM_202 h_MM_isKind rfl rfl rfl rfl rfl ⟨by decide, by decide⟩ rfl ?_
          refine ev_gU [false, true, false] [] rfl ?_
          refine ev_retz rfl (by first | decide | exact zb_01 _) ?_
          refine ev_gU [true] [] rfl ?_
          refine ev_retz rfl (by first | decide | exact zb_01 _) ?_
          refine ev_gU [false] [] rfl ?_
          refine ev_inV 2 k_MM_354 h_MM_takes rfl rfl rfl rfl rfl ⟨by decide, by decide⟩ rfl ?_
          refine ev_gU [true] [] rfl ?_
          refine ev_retz rfl (by first | decide | exact zb_01 _) ?_
          refine ev_gU [false] [] rfl ?_
          refine ev_inV 1 k_MM_357 h_MM_is rfl rfl rfl rfl rfl ⟨by decide, by decide⟩ rfl ?_
          refine ev_gU [true, false] [] rfl ?_
          refine ev_retz rfl (by first | decide | exact zb_01 _) ?_
          refine ev_gU [false] [] rfl ?_
          refine ev_inV 1 k_MM_277 h_MM_number rfl rfl rfl rfl rfl ⟨by decide, by decide⟩ rfl ?_
          refine ev_gU [] [] rfl ?_
          refine ev_retl rfl ?_
          refine ev_g0 rfl ?_
          refine ev_inV 2 k_MM_360 h_MM_holdsIndex rfl rfl rfl rfl rfl ⟨by decide, by decide⟩ rfl ?_
          refine ev_gU [] [] rfl ?_
          refine ev_inS 3 k_MM_188 h_MM_in rfl rfl rfl rfl ⟨by decide, by decide⟩ rfl ?_
          refine ev_gU [false, false] [] rfl ?_
          refine ev_retz rfl (by first | decide | exact zb_01 _) ?_
          refine ev_gU [true] [] rfl ?_
          refine ev_retz rfl (by first | decide | exact zb_01 _) ?_
          refine ev_gU [true, true] [] rfl ?_
          refine ev_inV 1 k_MM_277 h_MM_number rfl rfl rfl rfl rfl ⟨by decide, by decide⟩ rfl ?_
          refine ev_gU [] [] rfl ?_
          refine ev_retl rfl ?_
          refine ev_gU [] [] rfl ?_
          refine ev_ret rfl ?_
          refine ev_g0 rfl ?_
          refine ev_ret rfl ?_
          exact ⟨rfl, xj, xd, xf, (u3 xo 1 q j (none)), xi, xn, nI 0, rfl, bdd, lf_U, lf_U, (CU_par hC hq hj (by omega) (fun _ h => by cases h) lf_U lf_U), (MU_par hM hq hj (by omega) lf_U lf_U (fun i hi => (rc_isor hC hi).2.2.1))⟩
      · skip
        refine ct_of h_IA_perform rfl rfl rfl ?_
        refine ev_g0 rfl ?_
        refine ev_inV 1 k_IA_9 h_SD_t rfl rfl rfl rfl rfl ⟨by decide, by decide⟩ rfl ?_
        refine ev_gU [] [some (94 + 4 * q)] rfl ?_
        refine ev_reta rfl ?_
        refine ev_gU [true, true, true, false] [] rfl ?_
        refine ev_inV 1 k_IA_9 h_SD_t rfl rfl rfl rfl rfl ⟨by decide, by decide⟩ rfl ?_
        refine ev_gU [] [none] rfl ?_
        refine ev_retn rfl ?_
        refine ev_g0 rfl ?_
        refine ev_inS 1 k_IA_28 h_IA_rowKind rfl rfl rfl rfl ⟨by decide, by decide⟩ rfl ?_
        refine ev_gU [true, false] [] rfl ?_
        refine ev_reti rfl ?_
        refine ev_g0 rfl ?_
        refine ev_inV 1 k_IA_17 h_SD_n rfl rfl rfl rfl rfl ⟨by decide, by decide⟩ rfl ?_
        refine ev_gU [] [] rfl ?_
        refine ev_retl rfl ?_
        refine ev_g0 rfl ?_
        refine ev_inS 4 k_IA_35 h_IA_setPart rfl rfl rfl rfl ⟨by decide, by decide⟩ rfl ?_
        refine ev_g0 rfl ?_
        refine ev_inV 1 k_IA_96 h_TH_isA rfl rfl rfl rfl rfl ⟨by decide, by decide⟩ rfl ?_
        refine ev_gU [false, true, true] [none] rfl ?_
        refine ev_bU rfl rfl (fun h_3 => ?_) (fun h_3 => ?_)
        · skip
          refine ev_g0 rfl ?_
          refine ev_retz rfl (by first | decide | exact zb_01 _) ?_
          refine ev_gU [false] [] rfl ?_
          refine ev_reti rfl ?_
          refine ev_g0 rfl ?_
          refine ev_reti rfl ?_
          refine ct_of h_MM_handles rfl rfl rfl ?_
          refine ev_g0 rfl ?_
          refine ev_inV 1 k_MM_344 h_MM_hold rfl rfl rfl rfl rfl ⟨by decide, by decide⟩ rfl ?_
          refine ev_gU [] [] rfl ?_
          refine ev_reti rfl ?_
          refine ev_gU [] [some 4] rfl ?_
          refine ev_inV 2 k_MM_374 h_MM_storesThing rfl rfl rfl rfl rfl ⟨by decide, by decide⟩ rfl ?_
          refine ev_g0 rfl ?_
          refine ev_inV 1 k_MM_344 h_MM_hold rfl rfl rfl rfl rfl ⟨by decide, by decide⟩ rfl ?_
          refine ev_gU [] [] rfl ?_
          refine ev_reti rfl ?_
          refine ev_g0 rfl ?_
          refine ev_inV 1 k_MM_344 h_MM_hold rfl rfl rfl rfl rfl ⟨by decide, by decide⟩ rfl ?_
          refine ev_gU [] [] rfl ?_
          refine ev_reti rfl ?_
          refine ev_g0 rfl ?_
          refine ev_inV 2 k_MM_354 h_MM_takes rfl rfl rfl rfl rfl ⟨by decide, by decide⟩ rfl ?_
          refine ev_gU [false] [] rfl ?_
          refine ev_inV 2 k_MM_202 h_MM_isKind rfl rfl rfl rfl rfl ⟨by decide, by decide⟩ rfl ?_
          refine ev_gU [false, true, true] [] rfl ?_
          refine ev_retz rfl (by first | decide | exact zb_01 _) ?_
          refine ev_gU [false] [] rfl ?_
          refine ev_retz rfl (by first | decide | exact zb_01 _) ?_
          refine ev_gU [true] [] rfl ?_
          refine ev_ret rfl ?_
          refine ev_g0 rfl ?_
          refine ev_ret rfl ?_
          exact ⟨rfl, xj, xd, xf, xo, xi, xn, nI 3, rfl, bdd, lf_U, lf_U, hC, hM⟩
        · skip
          refine ev_g0 rfl ?_
          refine ev_retz rfl (by first | decide | exact zb_01 _) ?_
          refine ev_gU [true] [] rfl ?_
          refine ev_inV 1 k_IA_60 h_TH_hasItem rfl rfl rfl rfl rfl ⟨by decide, by decide⟩ rfl ?_
          refine ev_g0 rfl ?_
          refine ev_bU rfl rfl (fun h_4 => ?_) (fun h_4 => ?_)
          · skip
            refine ev_g0 rfl ?_
            refine ev_retz rfl (by first | decide | exact zb_01 _) ?_
            refine ev_gU [false] [] rfl ?_
            refine ev_reti rfl ?_
            refine ev_g0 rfl ?_
            refine ev_reti rfl ?_
            refine ct_of h_MM_handles rfl rfl rfl ?_
            refine ev_g0 rfl ?_
            refine ev_inV 1 k_MM_344 h_MM_hold rfl rfl rfl rfl rfl ⟨by decide, by decide⟩ rfl ?_
            refine ev_gU [] [] rfl ?_
            refine ev_reti rfl ?_
            refine ev_gU [] [some 4] rfl ?_
            refine ev_inV 2 k_MM_374 h_MM_storesThing rfl rfl rfl rfl rfl ⟨by decide, by decide⟩ rfl ?_
            refine ev_g0 rfl ?_
            refine ev_inV 1 k_MM_344 h_MM_hold rfl rfl rfl rfl rfl ⟨by decide, by decide⟩ rfl ?_
            refine ev_gU [] [] rfl ?_
            refine ev_reti rfl ?_
            refine ev_g0 rfl ?_
            refine ev_inV 1 k_MM_344 h_MM_hold rfl rfl rfl rfl rfl ⟨by decide, by decide⟩ rfl ?_
            refine ev_gU [] [] rfl ?_
            refine ev_reti rfl ?_
            refine ev_g0 rfl ?_
            refine ev_inV 2 k_MM_354 h_MM_takes rfl rfl rfl rfl rfl ⟨by decide, by decide⟩ rfl ?_
            refine ev_gU [false] [] rfl ?_
            refine ev_inV 2 k_MM_202 h_MM_isKind rfl rfl rfl rfl rfl ⟨by decide, by decide⟩ rfl ?_
            refine ev_gU [false, true, false] [] rfl ?_
            refine ev_retz rfl (by first | decide | exact zb_01 _) ?_
            refine ev_gU [true] [] rfl ?_
            refine ev_retz rfl (by first | decide | exact zb_01 _) ?_
            refine ev_gU [false] [] rfl ?_
            refine ev_inV 2 k_MM_354 h_MM_takes rfl rfl rfl rfl rfl ⟨by decide, by decide⟩ rfl ?_
            refine ev_gU [true] [] rfl ?_
            refine ev_retz rfl (by first | decide | exact zb_01 _) ?_
            refine ev_gU [false] [] rfl ?_
            refine ev_inV 1 k_MM_357 h_MM_is rfl rfl rfl rfl rfl ⟨by decide, by decide⟩ rfl ?_
            refine ev_gU [true, false] [] rfl ?_
            refine ev_retz rfl (by first | decide | exact zb_01 _) ?_
            refine ev_gU [false] [] rfl ?_
            refine ev_inV 1 k_MM_277 h_MM_number rfl rfl rfl rfl rfl ⟨by decide, by decide⟩ rfl ?_
            refine ev_gU [] [] rfl ?_
            refine ev_retl rfl ?_
            refine ev_g0 rfl ?_
            refine ev_inV 2 k_MM_360 h_MM_holdsIndex rfl rfl rfl rfl rfl ⟨by decide, by decide⟩ rfl ?_
            refine ev_gU [] [] rfl ?_
            refine ev_inS 3 k_MM_188 h_MM_in rfl rfl rfl rfl ⟨by decide, by decide⟩ rfl ?_
            refine ev_gU [true] [] rfl ?_
            refine ev_retz rfl (by first | decide | exact zb_01 _) ?_
            refine ev_gU [false] [] rfl ?_
            refine ev_retz rfl (by first | decide | exact zb_01 _) ?_
            refine ev_gU [false] [] rfl ?_
            refine ev_ret rfl ?_
            refine ev_g0 rfl ?_
            refine ev_ret rfl ?_
            exact ⟨rfl, xj, xd, xf, xo, xi, xn, nI 2, rfl, bdd, lf_U, lf_U, hC, hM⟩
          · skip
            refine ev_gU [true] [] rfl ?_
            refine ev_retz rfl (by first | decide | exact zb_01 _) ?_
            refine ev_gU [false] [] rfl ?_
            refine ev_reti rfl ?_
            refine ev_g0 rfl ?_
            refine ev_reti rfl ?_
            refine ct_of h_MM_handles rfl rfl rfl ?_
            refine ev_g0 rfl ?_
            refine ev_inV 1 k_MM_344 h_MM_hold rfl rfl rfl rfl rfl ⟨by decide, by decide⟩ rfl ?_
            refine ev_gU [] [] rfl ?_
            refine ev_reti rfl ?_
            refine ev_gU [] [some 4] rfl ?_
            refine ev_inV 2 k_MM_374 h_MM_storesThing rfl rfl rfl rfl rfl ⟨by decide, by decide⟩ rfl ?_
            refine ev_g0 rfl ?_
            refine ev_inV 1 k_MM_344 h_MM_hold rfl rfl rfl rfl rfl ⟨by decide, by decide⟩ rfl ?_
            refine ev_gU [] [] rfl ?_
            refine ev_reti rfl ?_
            refine ev_g0 rfl ?_
            refine ev_inV 1 k_MM_344 h_MM_hold rfl rfl rfl rfl rfl ⟨by decide, by decide⟩ rfl ?_
            refine ev_gU [] [] rfl ?_
            refine ev_reti rfl ?_
            refine ev_g0 rfl ?_
            refine ev_inV 2 k_MM_354 h_MM_takes rfl rfl rfl rfl rfl ⟨by decide, by decide⟩ rfl ?_
            refine ev_gU [false] [] rfl ?_
            refine ev_inV 2 k_MM_202 h_MM_isKind rfl rfl rfl rfl rfl ⟨by decide, by decide⟩ rfl ?_
            refine ev_gU [false, true, false] [] rfl ?_
            refine ev_retz rfl (by first | decide | exact zb_01 _) ?_
            refine ev_gU [true] [] rfl ?_
            refine ev_retz rfl (by first | decide | exact zb_01 _) ?_
            refine ev_gU [false] [] rfl ?_
            refine ev_inV 2 k_MM_354 h_MM_takes rfl rfl rfl rfl rfl ⟨by decide, by decide⟩ rfl ?_
            refine ev_gU [true] [] rfl ?_
            refine ev_retz rfl (by first | decide | exact zb_01 _) ?_
            refine ev_gU [false] [] rfl ?_
            refine ev_inV 1 k_MM_357 h_MM_is rfl rfl rfl rfl rfl ⟨by decide, by decide⟩ rfl ?_
            refine ev_gU [true, false] [] rfl ?_
            refine ev_retz rfl (by first | decide | exact zb_01 _) ?_
            refine ev_gU [false] [] rfl ?_
            refine ev_inV 1 k_MM_277 h_MM_number rfl rfl rfl rfl rfl ⟨by decide, by decide⟩ rfl ?_
            refine ev_gU [] [] rfl ?_
            refine ev_retl rfl ?_
            refine ev_g0 rfl ?_
            refine ev_inV 2 k_MM_360 h_MM_holdsIndex rfl rfl rfl rfl rfl ⟨by decide, by decide⟩ rfl ?_
            refine ev_gU [] [] rfl ?_
            refine ev_inS 3 k_MM_188 h_MM_in rfl rfl rfl rfl ⟨by decide, by decide⟩ rfl ?_
            refine ev_gU [false, true] [] rfl ?_
            refine ev_retz rfl (by first | decide | exact zb_01 _) ?_
            refine ev_gU [false] [] rfl ?_
            refine ev_retz rfl (by first | decide | exact zb_01 _) ?_
            refine ev_gU [false] [] rfl ?_
            refine ev_ret rfl ?_
            refine ev_g0 rfl ?_
            refine ev_ret rfl ?_
            exact ⟨rfl, xj, xd, xf, xo, xi, xn, nI 2, rfl, bdd, lf_U, lf_U, hC, hM⟩
    · skip
      have hu := rc_ihol hC ht ha _ hou
      have zu := rc_isor hC hu
      have yu := rc_imad hC
      rcases ixc (xj 0 t c) (xn 1 q 0) with ⟨j, hj, hi⟩ | hi
      · skip
        refine ct_of h_IA_perform rfl rfl rfl ?_
        refine ev_g0 rfl ?_
        refine ev_inV 1 k_IA_9 h_SD_t rfl rfl rfl rfl rfl ⟨by decide, by decide⟩ rfl ?_
        refine ev_gU [] [some (94 + 4 * q)] rfl ?_
        refine ev_reta rfl ?_
        refine ev_gU [true, true, true, false] [] rfl ?_
        refine ev_inV 1 k_IA_9 h_SD_t rfl rfl rfl rfl rfl ⟨by decide, by decide⟩ rfl ?_
        refine ev_gU [] [some (94 + 4 * u)] rfl ?_
        refine ev_reta rfl ?_
        refine ev_g0 rfl ?_
        refine ev_inS 1 k_IA_28 h_IA_rowKind rfl rfl rfl rfl ⟨by decide, by decide⟩ rfl ?_
        refine ev_gU [true, false] [] rfl ?_
        refine ev_reti rfl ?_
        refine ev_g0 rfl ?_
        refine ev_inV 1 k_IA_17 h_SD_n rfl rfl rfl rfl rfl ⟨by decide, by decide⟩ rfl ?_
        refine ev_gU [] [] rfl ?_
        refine ev_retl rfl ?_
        refine ev_g0 rfl ?_
        refine ev_inS 4 k_IA_35 h_IA_setPart rfl rfl rfl rfl ⟨by decide, by decide⟩ rfl ?_
        refine ev_g0 rfl ?_
        refine ev_inV 1 k_IA_96 h_TH_isA rfl rfl rfl rfl rfl ⟨by decide, by decide⟩ rfl ?_
        refine ev_gU [false, true, true] [none] rfl ?_
        refine ev_bU rfl rfl (fun h_5 => ?_) (fun h_5 => ?_)
        · skip
          refine ev_g0 rfl ?_
          refine ev_retz rfl (by first | decide | exact zb_01 _) ?_
          refine ev_gU [false] [] rfl ?_
          refine ev_reti rfl ?_
          refine ev_g0 rfl ?_
          refine ev_reti rfl ?_
          refine ct_of h_MM_handles rfl rfl rfl ?_
          refine ev_g0 rfl ?_
          refine ev_inV 1 k_MM_344 h_MM_hold rfl rfl rfl rfl rfl ⟨by decide, by decide⟩ rfl ?_
          refine ev_gU [] [] rfl ?_
          refine ev_reti rfl ?_
          refine ev_gU [] [some 4] rfl ?_
          refine ev_inV 2 k_MM_374 h_MM_storesThing rfl rfl rfl rfl rfl ⟨by decide, by decide⟩ rfl ?_
          refine ev_g0 rfl ?_
          refine ev_inV 1 k_MM_344 h_MM_hold rfl rfl rfl rfl rfl ⟨by decide, by decide⟩ rfl ?_
          refine ev_gU [] [] rfl ?_
          refine ev_reti rfl ?_
          refine ev_g0 rfl ?_
          refine ev_inV 1 k_MM_344 h_MM_hold rfl rfl rfl rfl rfl ⟨by decide, by decide⟩ rfl ?_
          refine ev_gU [] [] rfl ?_
          refine ev_reti rfl ?_
          refine ev_g0 rfl ?_
          refine ev_inV 2 k_MM_354 h_MM_takes rfl rfl rfl rfl rfl ⟨by decide, by decide⟩ rfl ?_
          refine ev_gU [false] [] rfl ?_
          refine ev_inV 2 k_MM_202 h_MM_isKind rfl rfl rfl rfl rfl ⟨by decide, by decide⟩ rfl ?_
          refine ev_gU [false, true, true] [] rfl ?_
          refine ev_retz rfl (by first | decide | exact zb_01 _) ?_
          refine ev_gU [false] [] rfl ?_
          refine ev_retz rfl (by first | decide | exact zb_01 _) ?_
          refine ev_gU [true] [] rfl ?_
          refine ev_ret rfl ?_
          refine ev_g0 rfl ?_
          refine ev_ret rfl ?_
          exact ⟨rfl, xj, xd, xf, xo, xi, xn, nI 3, rfl, bdd, lf_U, lf_U, hC, hM⟩
        · skip
          refine ev_g0 rfl ?_
          refine ev_retz rfl (by first | decide | exact zb_01 _) ?_
          refine ev_gU [true] [] rfl ?_
          refine ev_inS 1 k_IA_108 h_IA_partKind rfl rfl rfl rfl ⟨by decide, by decide⟩ rfl ?_
          refine ev_gU [true, false] [] rfl ?_
          refine ev_reti rfl ?_
          refine ev_g0 rfl ?_
          refine ev_inV 1 k_IA_96 h_TH_isA rfl rfl rfl rfl rfl ⟨by decide, by decide⟩ rfl ?_
          refine ev_gU [true, true] [none] rfl ?_
          refine ev_bU rfl rfl (fun h_6 => ?_) (fun h_6 => ?_)
          · skip
            refine ev_g0 rfl ?_
            refine ev_retz rfl (by first | decide | exact zb_01 _) ?_
            refine ev_gU [false] [] rfl ?_
            refine ev_reti rfl ?_
            refine ev_g0 rfl ?_
            refine ev_reti rfl ?_
            refine ct_of h_MM_handles rfl rfl rfl ?_
            refine ev_g0 rfl ?_
            refine ev_inV 1 k_MM_344 h_MM_hold rfl rfl rfl rfl rfl ⟨by decide, by decide⟩ rfl ?_
            refine ev_gU [] [] rfl ?_
            refine ev_reti rfl ?_
            refine ev_gU [] [some 4] rfl ?_
            refine ev_inV 2 k_MM_374 h_MM_storesThing rfl rfl rfl rfl rfl ⟨by decide, by decide⟩ rfl ?_
            refine ev_g0 rfl ?_
            refine ev_inV 1 k_MM_344 h_MM_hold rfl rfl rfl rfl rfl ⟨by decide, by decide⟩ rfl ?_
            refine ev_gU [] [] rfl ?_
            refine ev_reti rfl ?_
            refine ev_g0 rfl ?_
            refine ev_inV 1 k_MM_344 h_MM_hold rfl rfl rfl rfl rfl ⟨by decide, by decide⟩ rfl ?_
            refine ev_gU [] [] rfl ?_
            refine ev_reti rfl ?_
            refine ev_g0 rfl ?_
            refine ev_inV 2 k_MM_354 h_MM_takes rfl rfl rfl rfl rfl ⟨by decide, by decide⟩ rfl ?_
            refine ev_gU [false] [] rfl ?_
            refine ev_inV 2 k_MM_202 h_MM_isKind rfl rfl rfl rfl rfl ⟨by decide, by decide⟩ rfl ?_
            refine ev_gU [false, true, false] [] rfl ?_
            refine ev_retz rfl (by first | decide | exact zb_01 _) ?_
            refine ev_gU [true] [] rfl ?_
            refine ev_retz rfl (by first | decide | exact zb_01 _) ?_
            refine ev_gU [false] [] rfl ?_
            refine ev_inV 2 k_MM_354 h_MM_takes rfl rfl rfl rfl rfl ⟨by decide, by decide⟩ rfl ?_
            refine ev_gU [false] [] rfl ?_
            refine ev_inV 2 k_MM_202 h_MM_isKind rfl rfl rfl rfl rfl ⟨by decide, by decide⟩ rfl ?_
            refine ev_gU [true, true] [] rfl ?_
            refine ev_retz rfl (by first | decide | exact zb_01 _) ?_
            refine ev_gU [false] [] rfl ?_
            refine ev_retz rfl (by first | decide | exact zb_01 _) ?_
            refine ev_gU [true] [] rfl ?_
            refine ev_ret rfl ?_
            refine ev_g0 rfl ?_
            refine ev_ret rfl ?_
            exact ⟨rfl, xj, xd, xf, xo, xi, xn, nI 3, rfl, bdd, lf_U, lf_U, hC, hM⟩
          · skip
            refine ev_g0 rfl ?_
            refine ev_retz rfl (by first | decide | exact zb_01 _) ?_
            refine ev_gU [true] [] rfl ?_
            refine ev_inV 1 k_IA_60 h_TH_hasItem rfl rfl rfl rfl rfl ⟨by decide, by decide⟩ rfl ?_
            refine ev_gU [false, false] [] rfl ?_
            refine ev_retz rfl (by first | decide | exact zb_01 _) ?_
            refine ev_gU [true, true] [] rfl ?_
            refine ev_reti rfl ?_
            refine ev_g0 rfl ?_
            refine ev_reti rfl ?_
            refine ct_of h_MM_handles rfl rfl rfl ?_
            refine ev_g0 rfl ?_
            refine ev_inV 1 k_MM_344 h_MM_hold rfl rfl rfl rfl rfl ⟨by decide, by decide⟩ rfl ?_
            refine ev_gU [] [] rfl ?_
            refine ev_reti rfl ?_
            refine ev_gU [] [some 4] rfl ?_
            refine ev_inV 2 k_MM_374 h_MM_storesThing rfl rfl rfl rfl rfl ⟨by decide, by decide⟩ rfl ?_
            refine ev_g0 rfl ?_
            refine ev_inV 1 k_MM_344 h_MM_hold rfl rfl rfl rfl rfl ⟨by decide, by decide⟩ rfl ?_
            refine ev_gU [] [] rfl ?_
            refine ev_reti rfl ?_
            refine ev_g0 rfl ?_
            refine ev_inV 1 k_MM_344 h_MM_hold rfl rfl rfl rfl rfl ⟨by decide, by decide⟩ rfl ?_
            refine ev_gU [] [] rfl ?_
            refine ev_reti rfl ?_
            refine ev_g0 rfl ?_
            refine ev_inV 2 k_MM_354 h_MM_takes rfl rfl rfl rfl rfl ⟨by decide, by decide⟩ rfl ?_
            refine ev_gU [false] [] rfl ?_
            refine ev_inV 2 k_MM_202 h_MM_isKind rfl rfl rfl rfl rfl ⟨by decide, by decide⟩ rfl ?_
            refine ev_gU [false, true, false] [] rfl ?_
            refine ev_retz rfl (by first | decide | exact zb_01 _) ?_
            refine ev_gU [true] [] rfl ?_
            refine ev_retz rfl (by first | decide | exact zb_01 _) ?_
            refine ev_gU [false] [] rfl ?_
            refine ev_inV 2 k_MM_354 h_MM_takes rfl rfl rfl rfl rfl ⟨by decide, by decide⟩ rfl ?_
            refine ev_gU [false] [] rfl ?_
            refine ev_inV 2 k_MM_202 h_MM_isKind rfl rfl rfl rfl rfl ⟨by decide, by decide⟩ rfl ?_
            refine ev_gU [true, false] [] rfl ?_
            refine ev_retz rfl (by first | decide | exact zb_01 _) ?_
            refine ev_gU [true] [] rfl ?_
            refine ev_retz rfl (by first | decide | exact zb_01 _) ?_
            refine ev_gU [false] [] rfl ?_
            refine ev_inV 1 k_MM_357 h_MM_is rfl rfl rfl rfl rfl ⟨by decide, by decide⟩ rfl ?_
            refine ev_gU [true, false] [] rfl ?_
            refine ev_retz rfl (by first | decide | exact zb_01 _) ?_
            refine ev_gU [false] [] rfl ?_
            refine ev_inV 1 k_MM_277 h_MM_number rfl rfl rfl rfl rfl ⟨by decide, by decide⟩ rfl ?_
            refine ev_gU [] [] rfl ?_
            refine ev_retl rfl ?_
            refine ev_g0 rfl ?_
            refine ev_inV 2 k_MM_360 h_MM_holdsIndex rfl rfl rfl rfl rfl ⟨by decide, by decide⟩ rfl ?_
            refine ev_gU [] [] rfl ?_
            refine ev_inS 3 k_MM_188 h_MM_in rfl rfl rfl rfl ⟨by decide, by decide⟩ rfl ?_
            refine ev_gU [false, false] [] rfl ?_
            refine ev_retz rfl (by first | decide | exact zb_01 _) ?_
            refine ev_gU [true] [] rfl ?_
            refine ev_retz rfl (by first | decide | exact zb_01 _) ?_
            refine ev_gU [true, true] [] rfl ?_
            refine ev_inV 1 k_MM_277 h_MM_number rfl rfl rfl rfl rfl ⟨by decide, by decide⟩ rfl ?_
            refine ev_gU [] [] rfl ?_
            refine ev_retl rfl ?_
            refine ev_gU [] [] rfl ?_
            refine ev_ret rfl ?_
            refine ev_g0 rfl ?_
            refine ev_ret rfl ?_
            exact ⟨rfl, xj, xd, xf, (u3 xo 1 q j (some u)), xi, xn, nI 0, rfl, bdd, lf_U, lf_U, (CU_par hC hq hj (by omega) (fun _ h => by cases h; exact hu) lf_U lf_U), (MU_par hM hq hj (by omega) lf_U lf_U (fun i hi => (rc_isor hC hi).2.2.1))⟩
      · skip
        refine ct_of h_IA_perform rfl rfl rfl ?_
        refine ev_g0 rfl ?_
        refine ev_inV 1 k_IA_9 h_SD_t rfl rfl rfl rfl rfl ⟨by decide, by decide⟩ rfl ?_
        refine ev_gU [] [some (94 + 4 * q)] rfl ?_
        refine ev_reta rfl ?_
        refine ev_gU [true, true, true, false] [] rfl ?_
        refine ev_inV 1 k_IA_9 h_SD_t rfl rfl rfl rfl rfl ⟨by decide, by decide⟩ rfl ?_
        refine ev_gU [] [some (94 + 4 * u)] rfl ?_
        refine ev_reta rfl ?_
        refine ev_g0 rfl ?_
        refine ev_inS 1 k_IA_28 h_IA_rowKind rfl rfl rfl rfl ⟨by decide, by decide⟩ rfl ?_
        refine ev_gU [true, false] [] rfl ?_
        refine ev_reti rfl ?_
        refine ev_g0 rfl ?_
        refine ev_inV 1 k_IA_17 h_SD_n rfl rfl rfl rfl rfl ⟨by decide, by decide⟩ rfl ?_
        refine ev_gU [] [] rfl ?_
        refine ev_retl rfl ?_
        refine ev_g0 rfl ?_
        refine ev_inS 4 k_IA_35 h_IA_setPart rfl rfl rfl rfl ⟨by decide, by decide⟩ rfl ?_
        refine ev_g0 rfl ?_
        refine ev_inV 1 k_IA_96 h_TH_isA rfl rfl rfl rfl rfl ⟨by decide, by decide⟩ rfl ?_
        refine ev_gU [false, true, true] [none] rfl ?_
        refine ev_bU rfl rfl (fun h_7 => ?_) (fun h_7 => ?_)
        · skip
          refine ev_g0 rfl ?_
          refine ev_retz rfl (by first | decide | exact zb_01 _) ?_
          refine ev_gU [false] [] rfl ?_
          refine ev_reti rfl ?_
          refine ev_g0 rfl ?_
          refine ev_reti rfl ?_
          refine ct_of h_MM_handles rfl rfl rfl ?_
          refine ev_g0 rfl ?_
          refine ev_inV 1 k_MM_344 h_MM_hold rfl rfl rfl rfl rfl ⟨by decide, by decide⟩ rfl ?_
          refine ev_gU [] [] rfl ?_
          refine ev_reti rfl ?_
          refine ev_gU [] [some 4] rfl ?_
          refine ev_inV 2 k_MM_374 h_MM_storesThing rfl rfl rfl rfl rfl ⟨by decide, by decide⟩ rfl ?_
          refine ev_g0 rfl ?_
          refine ev_inV 1 k_MM_344 h_MM_hold rfl rfl rfl rfl rfl ⟨by decide, by decide⟩ rfl ?_
          refine ev_gU [] [] rfl ?_
          refine ev_reti rfl ?_
          refine ev_g0 rfl ?_
          refine ev_inV 1 k_MM_344 h_MM_hold rfl rfl rfl rfl rfl ⟨by decide, by decide⟩ rfl ?_
          refine ev_gU [] [] rfl ?_
          refine ev_reti rfl ?_
          refine ev_g0 rfl ?_
          refine ev_inV 2 k_MM_354 h_MM_takes rfl rfl rfl rfl rfl ⟨by decide, by decide⟩ rfl ?_
          refine ev_gU [false] [] rfl ?_
          refine ev_inV 2 k_MM_202 h_MM_isKind rfl rfl rfl rfl rfl ⟨by decide, by decide⟩ rfl ?_
          refine ev_gU [false, true, true] [] rfl ?_
          refine ev_retz rfl (by first | decide | exact zb_01 _) ?_
          refine ev_gU [false] [] rfl ?_
          refine ev_retz rfl (by first | decide | exact zb_01 _) ?_
          refine ev_gU [true] [] rfl ?_
          refine ev_ret rfl ?_
          refine ev_g0 rfl ?_
          refine ev_ret rfl ?_
          exact ⟨rfl, xj, xd, xf, xo, xi, xn, nI 3, rfl, bdd, lf_U, lf_U, hC, hM⟩
        · skip
          refine ev_g0 rfl ?_
          refine ev_retz rfl (by first | decide | exact zb_01 _) ?_
          refine ev_gU [true] [] rfl ?_
          refine ev_inS 1 k_IA_108 h_IA_partKind rfl rfl rfl rfl ⟨by decide, by decide⟩ rfl ?_
          refine ev_gU [true, false] [] rfl ?_
          refine ev_reti rfl ?_
          refine ev_g0 rfl ?_
          refine ev_inV 1 k_IA_96 h_TH_isA rfl rfl rfl rfl rfl ⟨by decide, by decide⟩ rfl ?_
          refine ev_gU [true, true] [none] rfl ?_
          refine ev_bU rfl rfl (fun h_8 => ?_) (fun h_8 => ?_)
          · skip
            refine ev_g0 rfl ?_
            refine ev_retz rfl (by first | decide | exact zb_01 _) ?_
            refine ev_gU [false] [] rfl ?_
            refine ev_reti rfl ?_
            refine ev_g0 rfl ?_
            refine ev_reti rfl ?_
            refine ct_of h_MM_handles rfl rfl rfl ?_
            refine ev_g0 rfl ?_
            refine ev_inV 1 k_MM_344 h_MM_hold rfl rfl rfl rfl rfl ⟨by decide, by decide⟩ rfl ?_
            refine ev_gU [] [] rfl ?_
            refine ev_reti rfl ?_
            refine ev_gU [] [some 4] rfl ?_
            refine ev_inV 2 k_MM_374 h_MM_storesThing rfl rfl rfl rfl rfl ⟨by decide, by decide⟩ rfl ?_
            refine ev_g0 rfl ?_
            refine ev_inV 1 k_MM_344 h_MM_hold rfl rfl rfl rfl rfl ⟨by decide, by decide⟩ rfl ?_
            refine ev_gU [] [] rfl ?_
            refine ev_reti rfl ?_
            refine ev_g0 rfl ?_
            refine ev_inV 1 k_MM_344 h_MM_hold rfl rfl rfl rfl rfl ⟨by decide, by decide⟩ rfl ?_
            refine ev_gU [] [] rfl ?_
            refine ev_reti rfl ?_
            refine ev_g0 rfl ?_
            refine ev_inV 2 k_MM_354 h_MM_takes rfl rfl rfl rfl rfl ⟨by decide, by decide⟩ rfl ?_
            refine ev_gU [false] [] rfl ?_
            refine ev_inV 2 k_MM_202 h_MM_isKind rfl rfl rfl rfl rfl ⟨by decide, by decide⟩ rfl ?_
            refine ev_gU [false, true, false] [] rfl ?_
            refine ev_retz rfl (by first | decide | exact zb_01 _) ?_
            refine ev_gU [true] [] rfl ?_
            refine ev_retz rfl (by first | decide | exact zb_01 _) ?_
            refine ev_gU [false] [] rfl ?_
            refine ev_inV 2 k_MM_354 h_MM_takes rfl rfl rfl rfl rfl ⟨by decide, by decide⟩ rfl ?_
            refine ev_gU [false] [] rfl ?_
            refine ev_inV 2 k_MM_202 h_MM_isKind rfl rfl rfl rfl rfl ⟨by decide, by decide⟩ rfl ?_
            refine ev_gU [true, true] [] rfl ?_
            refine ev_retz rfl (by first | decide | exact zb_01 _) ?_
            refine ev_gU [false] [] rfl ?_
            refine ev_retz rfl (by first | decide | exact zb_01 _) ?_
            refine ev_gU [true] [] rfl ?_
            refine ev_ret rfl ?_
            refine ev_g0 rfl ?_
            refine ev_ret rfl ?_
            exact ⟨rfl, xj, xd, xf, xo, xi, xn, nI 3, rfl, bdd, lf_U, lf_U, hC, hM⟩
          · skip
            refine ev_g0 rfl ?_
            refine ev_retz rfl (by first | decide | exact zb_01 _) ?_
            refine ev_gU [true] [] rfl ?_
            refine ev_inV 1 k_IA_60 h_TH_hasItem rfl rfl rfl rfl rfl ⟨by decide, by decide⟩ rfl ?_
            refine ev_g0 rfl ?_
            refine ev_bU rfl rfl (fun h_9 => ?_) (fun h_9 => ?_)
            · skip
              refine ev_g0 rfl ?_
              refine ev_retz rfl (by first | decide | exact zb_01 _) ?_
              refine ev_gU [false] [] rfl ?_
              refine ev_reti rfl ?_
              refine ev_g0 rfl ?_
              refine ev_reti rfl ?_
              refine ct_of h_MM_handles rfl rfl rfl ?_
              refine ev_g0 rfl ?_
              refine ev_inV 1 k_MM_344 h_MM_hold rfl rfl rfl rfl rfl ⟨by decide, by decide⟩ rfl ?_
              refine ev_gU [] [] rfl ?_
              refine ev_reti rfl ?_
              refine ev_gU [] [some 4] rfl ?_
              refine ev_inV 2 k_MM_374 h_MM_storesThing rfl rfl rfl rfl rfl ⟨by decide, by decide⟩ rfl ?_
              refine ev_g0 rfl ?_
              refine ev_inV 1 k_MM_344 h_MM_hold rfl rfl rfl rfl rfl ⟨by decide, by decide⟩ rfl ?_
              refine ev_gU [] [] rfl ?_
              refine ev_reti rfl ?_
              refine ev_g0 rfl ?_
              refine ev_inV 1 k_MM_344 h_MM_hold rfl rfl rfl rfl rfl ⟨by decide, by decide⟩ rfl ?_
              refine ev_gU [] [] rfl ?_
              refine ev_reti rfl ?_
              refine ev_g0 rfl ?_
              refine ev_inV 2 k_MM_354 h_MM_takes rfl rfl rfl rfl rfl ⟨by decide, by decide⟩ rfl ?_
              refine ev_gU [false] [] rfl ?_
              refine ev_inV 2 k_MM_202 h_MM_isKind rfl rfl rfl rfl rfl ⟨by decide, by decide⟩ rfl ?_
              refine ev_gU [false, true, false] [] rfl ?_
              refine ev_retz rfl (by first | decide | exact zb_01 _) ?_
              refine ev_gU [true] [] rfl ?_
              refine ev_retz rfl (by first | decide | exact zb_01 _) ?_
              refine ev_gU [false] [] rfl ?_
              refine ev_inV 2 k_MM_354 h_MM_takes rfl rfl rfl rfl rfl ⟨by decide, by decide⟩ rfl ?_
              refine ev_gU [false] [] rfl ?_
              refine ev_inV 2 k_MM_202 h_MM_isKind rfl rfl rfl rfl rfl ⟨by decide, by decide⟩ rfl ?_
              refine ev_gU [true, false] [] rfl ?_
              refine ev_retz rfl (by first | decide | exact zb_01 _) ?_
              refine ev_gU [true] [] rfl ?_
              refine ev_retz rfl (by first | decide | exact zb_01 _) ?_
              refine ev_gU [false] [] rfl ?_
              refine ev_inV 1 k_MM_357 h_MM_is rfl rfl rfl rfl rfl ⟨by decide, by decide⟩ rfl ?_
              refine ev_gU [true, false] [] rfl ?_
              refine ev_retz rfl (by first | decide | exact zb_01 _) ?_
              refine ev_gU [false] [] rfl ?_
              refine ev_inV 1 k_MM_277 h_MM_number rfl rfl rfl rfl rfl ⟨by decide, by decide⟩ rfl ?_
              refine ev_gU [] [] rfl ?_
              refine ev_retl rfl ?_
              refine ev_g0 rfl ?_
              refine ev_inV 2 k_MM_360 h_MM_holdsIndex rfl rfl rfl rfl rfl ⟨by decide, by decide⟩ rfl ?_
              refine ev_gU [] [] rfl ?_
              refine ev_inS 3 k_MM_188 h_MM_in rfl rfl rfl rfl ⟨by decide, by decide⟩ rfl ?_
              refine ev_gU [true] [] rfl ?_
              refine ev_retz rfl (by first | decide | exact zb_01 _) ?_
              refine ev_gU [false] [] rfl ?_
              refine ev_retz rfl (by first | decide | exact zb_01 _) ?_
              refine ev_gU [false] [] rfl ?_
              refine ev_ret rfl ?_
              refine ev_g0 rfl ?_
              refine ev_ret rfl ?_
              exact ⟨rfl, xj, xd, xf, xo, xi, xn, nI 2, rfl, bdd, lf_U, lf_U, hC, hM⟩
            · skip
              refine ev_gU [true] [] rfl ?_
              refine ev_retz rfl (by first | decide | exact zb_01 _) ?_
              refine ev_gU [false] [] rfl ?_
              refine ev_reti rfl ?_
              refine ev_g0 rfl ?_
              refine ev_reti rfl ?_
              refine ct_of h_MM_handles rfl rfl rfl ?_
              refine ev_g0 rfl ?_
              refine ev_inV 1 k_MM_344 h_MM_hold rfl rfl rfl rfl rfl ⟨by decide, by decide⟩ rfl ?_
              refine ev_gU [] [] rfl ?_
              refine ev_reti rfl ?_
              refine ev_gU [] [some 4] rfl ?_
              refine ev_inV 2 k_MM_374 h_MM_storesThing rfl rfl rfl rfl rfl ⟨by decide, by decide⟩ rfl ?_
              refine ev_g0 rfl ?_
              refine ev_inV 1 k_MM_344 h_MM_hold rfl rfl rfl rfl rfl ⟨by decide, by decide⟩ rfl ?_
              refine ev_gU [] [] rfl ?_
              refine ev_reti rfl ?_
              refine ev_g0 rfl ?_
              refine ev_inV 1 k_MM_344 h_MM_hold rfl rfl rfl rfl rfl ⟨by decide, by decide⟩ rfl ?_
              refine ev_gU [] [] rfl ?_
              refine ev_reti rfl ?_
              refine ev_g0 rfl ?_
              refine ev_inV 2 k_MM_354 h_MM_takes rfl rfl rfl rfl rfl ⟨by decide, by decide⟩ rfl ?_
              refine ev_gU [false] [] rfl ?_
              refine ev_inV 2 k_MM_202 h_MM_isKind rfl rfl rfl rfl rfl ⟨by decide, by decide⟩ rfl ?_
              refine ev_gU [false, true, false] [] rfl ?_
              refine ev_retz rfl (by first | decide | exact zb_01 _) ?_
              refine ev_gU [true] [] rfl ?_
              refine ev_retz rfl (by first | decide | exact zb_01 _) ?_
              refine ev_gU [false] [] rfl ?_
              refine ev_inV 2 k_MM_354 h_MM_takes rfl rfl rfl rfl rfl ⟨by decide, by decide⟩ rfl ?_
              refine ev_gU [false] [] rfl ?_
              refine ev_inV 2 k_MM_202 h_MM_isKind rfl rfl rfl rfl rfl ⟨by decide, by decide⟩ rfl ?_
              refine ev_gU [true, false] [] rfl ?_
              refine ev_retz rfl (by first | decide | exact zb_01 _) ?_
              refine ev_gU [true] [] rfl ?_
              refine ev_retz rfl (by first | decide | exact zb_01 _) ?_
              refine ev_gU [false] [] rfl ?_
              refine ev_inV 1 k_MM_357 h_MM_is rfl rfl rfl rfl rfl ⟨by decide, by decide⟩ rfl ?_
              refine ev_gU [true, false] [] rfl ?_
              refine ev_retz rfl (by first | decide | exact zb_01 _) ?_
              refine ev_gU [false] [] rfl ?_
              refine ev_inV 1 k_MM_277 h_MM_number rfl rfl rfl rfl rfl ⟨by decide, by decide⟩ rfl ?_
              refine ev_gU [] [] rfl ?_
              refine ev_retl rfl ?_
              refine ev_g0 rfl ?_
              refine ev_inV 2 k_MM_360 h_MM_holdsIndex rfl rfl rfl rfl rfl ⟨by decide, by decide⟩ rfl ?_
              refine ev_gU [] [] rfl ?_
              refine ev_inS 3 k_MM_188 h_MM_in rfl rfl rfl rfl ⟨by decide, by decide⟩ rfl ?_
              refine ev_gU [false, true] [] rfl ?_
              refine ev_retz rfl (by first | decide | exact zb_01 _) ?_
              refine ev_gU [false] [] rfl ?_
              refine ev_retz rfl (by first | decide | exact zb_01 _) ?_
              refine ev_gU [false] [] rfl ?_
              refine ev_ret rfl ?_
              refine ev_g0 rfl ?_
              refine ev_ret rfl ?_
              exact ⟨rfl, xj, xd, xf, xo, xi, xn, nI 2, rfl, bdd, lf_U, lf_U, hC, hM⟩
theorem A41 {ci : Nat → Nat → Nat → Int32} {cn : Nat → Nat → Nat → Nat} {co : Nat → Option Nat} {xj : Nat → Nat → Nat → Int64} {xd : Nat → Nat → Nat → UInt64} {xf : Nat → Nat → Nat → UInt32} {xo : Nat → Nat → Nat → Option Nat} {xi : Nat → Nat → Nat → Int32} {xn : Nat → Nat → Nat → Nat} {K : Nat → Nat} {I : Nat → Nat → Int32} {J : Nat → Nat → Int64} {F : Nat → Nat → UInt32} {D : Nat → Nat → UInt64} {R : Nat → Nat → Option Nat} {nx sl : Nat} {Km : Nat → Nat} {Im : Nat → Nat → Int32} {Jm : Nat → Nat → Int64} {Fm : Nat → Nat → UInt32} {Dm : Nat → Nat → UInt64} {Rm : Nat → Nat → Option Nat} {nxm slm : Nat} (hC : RC ci cn co xj xd xf xo xi xn I J F D R nx sl) (hM : RM ci cn co xj xd xf xo xi xn Im Jm Dm) {t a b c : Nat} {go : Int32} (ht : t < 3) (ha : a < 8) (hb : b < 8) (hc : c < 8) (x1 : Im 6 39 = nI t) (x2 : Im 6 40 = nI a) (x3 : Im 6 41 = nI b) (x4 : Im 6 42 = nI c) (x5 : Im 6 43 = nI 0) (x6 : Im 6 44 = go) : Ct Y_IA_perform [vr 8 (32 + 7 * t), vi (nI 41), vi (nI a), vi (nI b), vi (nI c)] (K, I, J, F, D, R, nx, sl) (fun r μ1 => Ct Y_MM_handles [vr 11 6, vi (nI 41)] (Km, Im, Jm, Fm, Dm, Rm, nxm, slm) (fun r2 μ2 => r2 = none ∧ QA ci cn co go r μ1 μ2)) := by
  rcases ho : xo 0 t b with _ | q
  · skip
    rcases hou : xo 0 t a with _ | u
    · skip
      refine ct_of h_IA_perform rfl rfl rfl ?_
      refine ev_g0 rfl ?_
      refine ev_inV 1 k_IA_9 h_SD_t rfl rfl rfl rfl rfl ⟨by decide, by decide⟩ rfl ?_
      refine ev_gU [] [none] rfl ?_
      refine ev_retn rfl ?_
      refine ev_gU [true, true, true, false] [] rfl ?_
      refine ev_inV 1 k_IA_9 h_SD_t rfl rfl rfl rfl rfl ⟨by decide, by decide⟩ rfl ?_
      refine ev_gU [] [none] rfl ?_
      refine ev_retn rfl ?_
      refine ev_g0 rfl ?_
      refine ev_inS 1 k_IA_28 h_IA_rowKind rfl rfl rfl rfl ⟨by decide, by decide⟩ rfl ?_
      refine ev_gU [true, true] [] rfl ?_
      refine ev_reti rfl ?_
      refine ev_g0 rfl ?_
      refine ev_inV 1 k_IA_17 h_SD_n rfl rfl rfl rfl rfl ⟨by decide, by decide⟩ rfl ?_
      refine ev_gU [] [] rfl ?_
      refine ev_retl rfl ?_
      refine ev_g0 rfl ?_
      refine ev_inS 4 k_IA_35 h_IA_setPart rfl rfl rfl rfl ⟨by decide, by decide⟩ rfl ?_
      refine ev_g0 rfl ?_
      refine ev_reti rfl ?_
      refine ev_g0 rfl ?_
      refine ev_reti rfl ?_
      refine ct_of h_MM_handles rfl rfl rfl ?_
      refine ev_g0 rfl ?_
      refine ev_inV 1 k_MM_344 h_MM_hold rfl rfl rfl rfl rfl ⟨by decide, by decide⟩ rfl ?_
      refine ev_gU [] [] rfl ?_
      refine ev_reti rfl ?_
      refine ev_gU [] [some 5] rfl ?_
      refine ev_inV 2 k_MM_374 h_MM_storesThing rfl rfl rfl rfl rfl ⟨by decide, by decide⟩ rfl ?_
      refine ev_g0 rfl ?_
      refine ev_inV 1 k_MM_344 h_MM_hold rfl rfl rfl rfl rfl ⟨by decide, by decide⟩ rfl ?_
      refine ev_gU [] [] rfl ?_
      refine ev_reti rfl ?_
      refine ev_g0 rfl ?_
      refine ev_inV 1 k_MM_344 h_MM_hold rfl rfl rfl rfl rfl ⟨by decide, by decide⟩ rfl ?_
      refine ev_gU [] [] rfl ?_
      refine ev_reti rfl ?_
      refine ev_g0 rfl ?_
      refine ev_inV 2 k_MM_354 h_MM_takes rfl rfl rfl rfl rfl ⟨by decide, by decide⟩ rfl ?_
      refine ev_gU [true] [] rfl ?_
      refine ev_retz rfl (by first | decide | exact zb_01 _) ?_
      refine ev_gU [false] [] rfl ?_
      refine ev_inV 2 k_MM_354 h_MM_takes rfl rfl rfl rfl rfl ⟨by decide, by decide⟩ rfl ?_
      refine ev_gU [true] [] rfl ?_
      refine ev_retz rfl (by first | decide | exact zb_01 _) ?_
      refine ev_gU [false] [] rfl ?_
      refine ev_inV 1 k_MM_357 h_MM_is rfl rfl rfl rfl rfl ⟨by decide, by decide⟩ rfl ?_
      refine ev_gU [false, true] [] rfl ?_
      refine ev_retz rfl (by first | decide | exact zb_01 _) ?_
      refine ev_gU [true] [] rfl ?_
      refine ev_ret rfl ?_
      refine ev_g0 rfl ?_
      refine ev_ret rfl ?_
      exact ⟨rfl, xj, xd, xf, xo, xi, xn, nI 1, rfl, bdd, lf_U, lf_U, hC, hM⟩
    · skip
      have hu := rc_ihol hC ht ha _ hou
      have zu := rc_isor hC hu
      have yu := rc_imad hC
      refine ct_of h_IA_perform rfl rfl rfl ?_
      refine ev_g0 rfl ?_
      refine ev_inV 1 k_IA_9 h_SD_t rfl rfl rfl rfl rfl ⟨by decide, by decide⟩ rfl ?_
      refine ev_gU [] [none] rfl ?_
      refine ev_retn rfl ?_
      refine ev_gU [true, true, true, false] [] rfl ?_
      refine ev_inV 1 k_IA_9 h_SD_t rfl rfl rfl rfl rfl ⟨by decide, by decide⟩ rfl ?_
      refine ev_gU [] [some (94 + 4 * u)] rfl ?_
      refine ev_reta rfl ?_
      refine ev_g0 rfl ?_
      refine ev_inS 1 k_IA_28 h_IA_rowKind rfl rfl rfl rfl ⟨by decide, by decide⟩ rfl ?_
      refine ev_gU [true, true] [] rfl ?_
      refine ev_reti rfl ?_
      refine ev_g0 rfl ?_
      refine ev_inV 1 k_IA_17 h_SD_n rfl rfl rfl rfl rfl ⟨by decide, by decide⟩ rfl ?_
      refine ev_gU [] [] rfl ?_
      refine ev_retl rfl ?_
      refine ev_g0 rfl ?_
      refine ev_inS 4 k_IA_35 h_IA_setPart rfl rfl rfl rfl ⟨by decide, by decide⟩ rfl ?_
      refine ev_g0 rfl ?_
      refine ev_inS 1 k_IA_108 h_IA_partKind rfl rfl rfl rfl ⟨by decide, by decide⟩ rfl ?_
      refine ev_gU [true, true] [] rfl ?_
      refine ev_reti rfl ?_
      refine ev_g0 rfl ?_
      refine ev_inV 1 k_IA_96 h_TH_isA rfl rfl rfl rfl rfl ⟨by decide, by decide⟩ rfl ?_
      refine ev_gU [true, true] [none] rfl ?_
      refine ev_bU rfl rfl (fun h_1 => ?_) (fun h_1 => ?_)
      · skip
        refine ev_g0 rfl ?_
        refine ev_retz rfl (by first | decide | exact zb_01 _) ?_
        refine ev_gU [false] [] rfl ?_
        refine ev_reti rfl ?_
        refine ev_g0 rfl ?_
        refine ev_reti rfl ?_
        refine ct_of h_MM_handles rfl rfl rfl ?_
        refine ev_g0 rfl ?_
        refine ev_inV 1 k_MM_344 h_MM_hold rfl rfl rfl rfl rfl ⟨by decide, by decide⟩ rfl ?_
        refine ev_gU [] [] rfl ?_
        refine ev_reti rfl ?_
        refine ev_gU [] [some 5] rfl ?_
        refine ev_inV 2 k_MM_374 h_MM_storesThing rfl rfl rfl rfl rfl ⟨by decide, by decide⟩ rfl ?_
        refine ev_g0 rfl ?_
        refine ev_inV 1 k_MM_344 h_MM_hold rfl rfl rfl rfl rfl ⟨by decide, by decide⟩ rfl ?_
        refine ev_gU [] [] rfl ?_
        refine ev_reti rfl ?_
        refine ev_g0 rfl ?_
        refine ev_inV 1 k_MM_344 h_MM_hold rfl rfl rfl rfl rfl ⟨by decide, by decide⟩ rfl ?_
        refine ev_gU [] [] rfl ?_
        refine ev_reti rfl ?_
        refine ev_g0 rfl ?_
        refine ev_inV 2 k_MM_354 h_MM_takes rfl rfl rfl rfl rfl ⟨by decide, by decide⟩ rfl ?_
        refine ev_gU [true] [] rfl ?_
        refine ev_retz rfl (by first | decide | exact zb_01 _) ?_
        refine ev_gU [false] [] rfl ?_
        refine ev_inV 2 k_MM_354 h_MM_takes rfl rfl rfl rfl rfl ⟨by decide, by decide⟩ rfl ?_
        refine ev_gU [false] [] rfl ?_
        refine ev_inV 2 k_MM_202 h_MM_isKind rfl rfl rfl rfl rfl ⟨by decide, by decide⟩ rfl ?_
        refine ev_gU [true, true] [] rfl ?_
        refine ev_retz rfl (by first | decide | exact zb_01 _) ?_
        refine ev_gU [false] [] rfl ?_
        refine ev_retz rfl (by first | decide | exact zb_01 _) ?_
        refine ev_gU [true] [] rfl ?_
        refine ev_ret rfl ?_
        refine ev_g0 rfl ?_
        refine ev_ret rfl ?_
        exact ⟨rfl, xj, xd, xf, xo, xi, xn, nI 3, rfl, bdd, lf_U, lf_U, hC, hM⟩
      · skip
        refine ev_g0 rfl ?_
        refine ev_retz rfl (by first | decide | exact zb_01 _) ?_
        refine ev_gU [true] [] rfl ?_
        refine ev_reti rfl ?_
        refine ev_g0 rfl ?_
        refine ev_reti rfl ?_
        refine ct_of h_MM_handles rfl rfl rfl ?_
        refine ev_g0 rfl ?_
        refine ev_inV 1 k_MM_344 h_MM_hold rfl rfl rfl rfl rfl ⟨by decide, by decide⟩ rfl ?_
        refine ev_gU [] [] rfl ?_
        refine ev_reti rfl ?_
        refine ev_gU [] [some 5] rfl ?_
        refine ev_inV 2 k_MM_374 h_MM_storesThing rfl rfl rfl rfl rfl ⟨by decide, by decide⟩ rfl ?_
        refine ev_g0 rfl ?_
        refine ev_inV 1 k_MM_344 h_MM_hold rfl rfl rfl rfl rfl ⟨by decide, by decide⟩ rfl ?_
        refine ev_gU [] [] rfl ?_
        refine ev_reti rfl ?_
        refine ev_g0 rfl ?_
        refine ev_inV 1 k_MM_344 h_MM_hold rfl rfl rfl rfl rfl ⟨by decide, by decide⟩ rfl ?_
        refine ev_gU [] [] rfl ?_
        refine ev_reti rfl ?_
        refine ev_g0 rfl ?_
        refine ev_inV 2 k_MM_354 h_MM_takes rfl rfl rfl rfl rfl ⟨by decide, by decide⟩ rfl ?_
        refine ev_gU [true] [] rfl ?_
        refine ev_retz rfl (by first | decide | exact zb_01 _) ?_
        refine ev_gU [false] [] rfl ?_
        refine ev_inV 2 k_MM_354 h_MM_takes rfl rfl rfl rfl rfl ⟨by decide, by decide⟩ rfl ?_
        refine ev_gU [false] [] rfl ?_
        refine ev_inV 2 k_MM_202 h_MM_isKind rfl rfl rfl rfl rfl ⟨by decide, by decide⟩ rfl ?_
        refine ev_gU [true, false] [] rfl ?_
        refine ev_retz rfl (by first | decide | exact zb_01 _) ?_
        refine ev_gU [true] [] rfl ?_
        refine ev_retz rfl (by first | decide | exact zb_01 _) ?_
        refine ev_gU [false] [] rfl ?_
        refine ev_inV 1 k_MM_357 h_MM_is rfl rfl rfl rfl rfl ⟨by decide, by decide⟩ rfl ?_
        refine ev_gU [false, true] [] rfl ?_
        refine ev_retz rfl (by first | decide | exact zb_01 _) ?_
        refine ev_gU [true] [] rfl ?_
        refine ev_ret rfl ?_
        refine ev_g0 rfl ?_
        refine ev_ret rfl ?_
        exact ⟨rfl, xj, xd, xf, xo, xi, xn, nI 1, rfl, bdd, lf_U, lf_U, hC, hM⟩
  · skip
    have hq := rc_ihol hC ht hb _ ho
    have zq := rc_isor hC hq
    have yq := rc_imad hC
    rcases hou : xo 0 t a with _ | u
    · skip
      rcases ixc (xj 0 t c) (xn 1 q 0) with ⟨j, hj, hi⟩ | hi
      · skip
        refine ct_of h_IA_perform rfl rfl rfl ?_
        refine ev_g0 rfl ?_
        refine ev_inV 1 k_IA_9 h_SD_t rfl rfl rfl rfl rfl ⟨by decide, by decide⟩ rfl ?_
        refine ev_gU [] [some (94 + 4 * q)] rfl ?_
        refine ev_reta rfl ?_
        refine ev_gU [true, true, true, false] [] rfl ?_
        refine ev_inV 1 k_IA_9 h_SD_t rfl rfl rfl rfl rfl ⟨by decide, by decide⟩ rfl ?_
        refine ev_gU [] [none] rfl ?_
        refine ev_retn rfl ?_
        refine ev_g0 rfl ?_
        refine ev_inS 1 k_IA_28 h_IA_rowKind rfl rfl rfl rfl ⟨by decide, by decide⟩ rfl ?_
        refine ev_gU [true, true] [] rfl ?_
        refine ev_reti rfl ?_
        refine ev_g0 rfl ?_
        refine ev_inV 1 k_IA_17 h_SD_n rfl rfl rfl rfl rfl ⟨by decide, by decide⟩ rfl ?_
        refine ev_gU [] [] rfl ?_
        refine ev_retl rfl ?_
        refine ev_g0 rfl ?_
        refine ev_inS 4 k_IA_35 h_IA_setPart rfl rfl rfl rfl ⟨by decide, by decide⟩ rfl ?_
        refine ev_g0 rfl ?_
        refine ev_inV 1 k_IA_96 h_TH_isA rfl rfl rfl rfl rfl ⟨by decide, by decide⟩ rfl ?_
        refine ev_gU [false, true, true] [none] rfl ?_
        refine ev_bU rfl rfl (fun h_2 => ?_) (fun h_2 => ?_)
        · skip
          refine ev_g0 rfl ?_
          refine ev_retz rfl (by first | decide | exact zb_01 _) ?_
          refine ev_gU [false] [] rfl ?_
          refine ev_reti rfl ?_
          refine ev_g0 rfl ?_
          refine ev_reti rfl ?_
          refine ct_of h_MM_handles rfl rfl rfl ?_
          refine ev_g0 rfl ?_
          refine ev_inV 1 k_MM_344 h_MM_hold rfl rfl rfl rfl rfl ⟨by decide, by decide⟩ rfl ?_
          refine ev_gU [] [] rfl ?_
          refine ev_reti rfl ?_
          refine ev_gU [] [some 5] rfl ?_
          refine ev_inV 2 k_MM_374 h_MM_storesThing rfl rfl rfl rfl rfl ⟨by decide, by decide⟩ rfl ?_
          refine ev_g0 rfl ?_
          refine ev_inV 1 k_MM_344 h_MM_hold rfl rfl rfl rfl rfl ⟨by decide, by decide⟩ rfl ?_
          refine ev_gU [] [] rfl ?_
          refine ev_reti rfl ?_
          refine ev_g0 rfl ?_
          refine ev_inV 1 k_MM_344 h_MM_hold rfl rfl rfl rfl rfl ⟨by decide, by decide⟩ rfl ?_
          refine ev_gU [] [] rfl ?_
          refine ev_reti rfl ?_
          refine ev_g0 rfl ?_
          refine ev_inV 2 k_MM_354 h_MM_takes rfl rfl rfl rfl rfl ⟨by decide, by decide⟩ rfl ?_
          refine ev_gU [false] [] rfl ?_
          refine ev_inV 2 k_MM_202 h_MM_isKind rfl rfl rfl rfl rfl ⟨by decide, by decide⟩ rfl ?_
          refine ev_gU [false, false, false, true] [] rfl ?_
          refine ev_retz rfl (by first | decide | exact zb_01 _) ?_
          refine ev_gU [false] [] rfl ?_
          refine ev_retz rfl (by first | decide | exact zb_01 _) ?_
          refine ev_gU [true] [] rfl ?_
          refine ev_ret rfl ?_
          refine ev_g0 rfl ?_
          refine ev_ret rfl ?_
          exact ⟨rfl, xj, xd, xf, xo, xi, xn, nI 3, rfl, bdd, lf_U, lf_U, hC, hM⟩
        · skip
          refine ev_g0 rfl ?_
          refine ev_retz rfl (by first | decide | exact zb_01 _) ?_
          refine ev_gU [true] [] rfl ?_
          refine ev_inV 1 k_IA_60 h_TH_hasItem rfl rfl rfl rfl rfl ⟨by decide, by decide⟩ rfl ?_
          refine ev_gU [false, false] [] rfl ?_
          refine ev_retz rfl (by first | decide | exact zb_01 _) ?_
          refine ev_gU [true, true] [] rfl ?_
          refine ev_reti rfl ?_
          refine ev_g0 rfl ?_
          refine ev_reti rfl ?_
          refine ct_of h_MM_handles rfl rfl rfl ?_
          refine ev_g0 rfl ?_
          refine ev_inV 1 k_MM_344 h_MM_hold rfl rfl rfl rfl rfl ⟨by decide, by decide⟩ rfl ?_
          refine ev_gU [] [] rfl ?_
          refine ev_reti rfl ?_
          refine ev_gU [] [some 5] rfl ?_
          refine ev_inV 2 k_MM_374 h_MM_storesThing rfl rfl rfl rfl rfl ⟨by decide, by decide⟩ rfl ?_
          refine ev_g0 rfl ?_
          refine ev_inV 1 k_MM_344 h_MM_hold rfl rfl rfl rfl rfl ⟨by decide, by decide⟩ rfl ?_
          refine ev_gU [] [] rfl ?_
          refine ev_reti rfl ?_
          refine ev_g0 rfl ?_
          refine ev_inV 1 k_MM_344 h_MM_hold rfl rfl rfl rfl rfl ⟨by decide, by decide⟩ rfl ?_
          refine ev_gU [] [] rfl ?_
          refine ev_reti rfl ?_
          refine ev_g0 rfl ?_
          refine ev_inV 2 k_MM_354 h_MM_takes rfl rfl rfl rfl rfl ⟨by decide, by decide⟩ rfl ?_
          refine ev_gU [false] [] rfl ?_
          refine ev_inV 2 k_MM_202 h_MM_isKind rfl rfl rfl rfl rfl ⟨by decide, by decide⟩ rfl ?_
          refine ev_gU [false, false, false, false] [] rfl ?_
          refine ev_retz rfl (by first | decide | exact zb_01 _) ?_
          refine ev_gU [true] [] rfl ?_
          refine ev_retz rfl (by first | decide | exact zb_01 _) ?_
          refine ev_gU [false] [] rfl ?_
          refine ev_inV 2 k_MM_354 h_MM_takes rfl rfl rfl rfl rfl ⟨by decide, by decide⟩ rfl ?_
          refine ev_gU [true] [] rfl ?_
          refine ev_retz rfl (by first | decide | exact zb_01 _) ?_
          refine ev_gU [false] [] rfl ?_
          refine ev_inV 1 k_MM_357 h_MM_is rfl rfl rfl rfl rfl ⟨by decide, by decide⟩ rfl ?_
          refine ev_gU [true, false] [] rfl ?_
          refine ev_retz rfl (by first | decide | exact zb_01 _) ?_
          refine ev_gU [false] [] rfl ?_
          refine ev_inV 1 k_MM_277 h_MM_number rfl rfl rfl rfl rfl ⟨by decide, by decide⟩ rfl ?_
          refine ev_gU [] [] rfl ?_
          refine ev_retl rfl ?_
          refine ev_g0 rfl ?_
          refine ev_inV 2 k_MM_360 h_MM_holdsIndex rfl rfl rfl rfl rfl ⟨by decide, by decide⟩ rfl ?_
          refine ev_gU [] [] rfl ?_
          refine ev_inS 3 k_MM_188 h_MM_in rfl rfl rfl rfl ⟨by decide, by decide⟩ rfl ?_
          refine ev_gU [false, false] [] rfl ?_
          refine ev_retz rfl (by first | decide | exact zb_01 _) ?_
          refine ev_gU [true] [] rfl ?_
          refine ev_retz rfl (by first | decide | exact zb_01 _) ?_
          refine ev_gU [true, true] [] rfl ?_
          refine ev_inV 1 k_MM_277 h_MM_number rfl rfl rfl rfl rfl ⟨by decide, by decide⟩ rfl ?_
          refine ev_gU [] [] rfl ?_
          refine ev_retl rfl ?_
          refine ev_gU [] [] rfl ?_
          refine ev_ret rfl ?_
          refine ev_g0 rfl ?_
          refine ev_ret rfl ?_
          exact ⟨rfl, xj, xd, xf, (u3 xo 1 q j (none)), xi, xn, nI 0, rfl, bdd, lf_U, lf_U, (CU_par hC hq hj (by omega) (fun _ h => by cases h) lf_U lf_U), (MU_par hM hq hj (by omega) lf_U lf_U (fun i hi => (rc_isor hC hi).2.2.1))⟩
      · skip
        refine ct_of h_IA_perform rfl rfl rfl ?_
        refine ev_g0 rfl ?_
        refine ev_inV 1 k_IA_9 h_SD_t rfl rfl rfl rfl rfl ⟨by decide, by decide⟩ rfl ?_
        refine ev_gU [] [some (94 + 4 * q)] rfl ?_
        refine ev_reta rfl ?_
        refine ev_gU [true, true, true, false] [] rfl ?_
        refine ev_inV 1 k_IA_9 h_SD_t rfl rfl rfl rfl rfl ⟨by decide, by decide⟩ rfl ?_
        refine ev_gU [] [none] rfl ?_
        refine ev_retn rfl ?_
        refine ev_g0 rfl ?_
        refine ev_inS 1 k_IA_28 h_IA_rowKind rfl rfl rfl rfl ⟨by decide, by decide⟩ rfl ?_
        refine ev_gU [true, true] [] rfl ?_
        refine ev_reti rfl ?_
        refine ev_g0 rfl ?_
        refine ev_inV 1 k_IA_17 h_SD_n rfl rfl rfl rfl rfl ⟨by decide, by decide⟩ rfl ?_
        refine ev_gU [] [] rfl ?_
        refine ev_retl rfl ?_
        refine ev_g0 rfl ?_
        refine ev_inS 4 k_IA_35 h_IA_setPart rfl rfl rfl rfl ⟨by decide, by decide⟩ rfl ?_
        refine ev_g0 rfl ?_
        refine ev_inV 1 k_IA_96 h_TH_isA rfl rfl rfl rfl rfl ⟨by decide, by decide⟩ rfl ?_
        refine ev_gU [false, true, true] [none] rfl ?_
        refine ev_bU rfl rfl (fun h_3 => ?_) (fun h_3 => ?_)
        · skip
          refine ev_g0 rfl ?_
          refine ev_retz rfl (by first | decide | exact zb_01 _) ?_
          refine ev_gU [false] [] rfl ?_
          refine ev_reti rfl ?_
          refine ev_g0 rfl ?_
          refine ev_reti rfl ?_
          refine ct_of h_MM_handles rfl rfl rfl ?_
          refine ev_g0 rfl ?_
          refine ev_inV 1 k_MM_344 h_MM_hold rfl rfl rfl rfl rfl ⟨by decide, by decide⟩ rfl ?_
          refine ev_gU [] [] rfl ?_
          refine ev_reti rfl ?_
          refine ev_gU [] [some 5] rfl ?_
          refine ev_inV 2 k_MM_374 h_MM_storesThing rfl rfl rfl rfl rfl ⟨by decide, by decide⟩ rfl ?_
          refine ev_g0 rfl ?_
          refine ev_inV 1 k_MM_344 h_MM_hold rfl rfl rfl rfl rfl ⟨by decide, by decide⟩ rfl ?_
          refine ev_gU [] [] rfl ?_
          refine ev_reti rfl ?_
          refine ev_g0 rfl ?_
          refine ev_inV 1 k_MM_344 h_MM_hold rfl rfl rfl rfl rfl ⟨by decide, by decide⟩ rfl ?_
          refine ev_gU [] [] rfl ?_
          refine ev_reti rfl ?_
          refine ev_g0 rfl ?_
          refine ev_inV 2 k_MM_354 h_MM_takes rfl rfl rfl rfl rfl ⟨by decide, by decide⟩ rfl ?_
          refine ev_gU [false] [] rfl ?_
          refine ev_inV 2 k_MM_202 h_MM_isKind rfl rfl rfl rfl rfl ⟨by decide, by decide⟩ rfl ?_
          refine ev_gU [false, false, false, true] [] rfl ?_
          refine ev_retz rfl (by first | decide | exact zb_01 _) ?_
          refine ev_gU [false] [] rfl ?_
          refine ev_retz rfl (by first | decide | exact zb_01 _) ?_
          refine ev_gU [true] [] rfl ?_
          refine ev_ret rfl ?_
          refine ev_g0 rfl ?_
          refine ev_ret rfl ?_
          exact ⟨rfl, xj, xd, xf, xo, xi, xn, nI 3, rfl, bdd, lf_U, lf_U, hC, hM⟩
        · skip
          refine ev_g0 rfl ?_
          refine ev_retz rfl (by first | decide | exact zb_01 _) ?_
          refine ev_gU [true] [] rfl ?_
          refine ev_inV 1 k_IA_60 h_TH_hasItem rfl rfl rfl rfl rfl ⟨by decide, by decide⟩ rfl ?_
          refine ev_g0 rfl ?_
          refine ev_bU rfl rfl (fun h_4 => ?_) (fun h_4 => ?_)
          · skip
            refine ev_g0 rfl ?_
            refine ev_retz rfl (by first | decide | exact zb_01 _) ?_
            refine ev_gU [false] [] rfl ?_
            refine ev_reti rfl ?_
            refine ev_g0 rfl ?_
            refine ev_reti rfl ?_
            refine ct_of h_MM_handles rfl rfl rfl ?_
            refine ev_g0 rfl ?_
            refine ev_inV 1 k_MM_344 h_MM_hold rfl rfl rfl rfl rfl ⟨by decide, by decide⟩ rfl ?_
            refine ev_gU [] [] rfl ?_
            refine ev_reti rfl ?_
            refine ev_gU [] [some 5] rfl ?_
            refine ev_inV 2 k_MM_374 h_MM_storesThing rfl rfl rfl rfl rfl ⟨by decide, by decide⟩ rfl ?_
            refine ev_g0 rfl ?_
            refine ev_inV 1 k_MM_344 h_MM_hold rfl rfl rfl rfl rfl ⟨by decide, by decide⟩ rfl ?_
            refine ev_gU [] [] rfl ?_
            refine ev_reti rfl ?_
            refine ev_g0 rfl ?_
            refine ev_inV 1 k_MM_344 h_MM_hold rfl rfl rfl rfl rfl ⟨by decide, by decide⟩ rfl ?_
            refine ev_gU [] [] rfl ?_
            refine ev_reti rfl ?_
            refine ev_g0 rfl ?_
            refine ev_inV 2 k_MM_354 h_MM_takes rfl rfl rfl rfl rfl ⟨by decide, by decide⟩ rfl ?_
            refine ev_gU [false] [] rfl ?_
            refine ev_inV 2 k_MM_202 h_MM_isKind rfl rfl rfl rfl rfl ⟨by decide, by decide⟩ rfl ?_
            refine ev_gU [false, false, false, false] [] rfl ?_
            refine ev_retz rfl (by first | decide | exact zb_01 _) ?_
            refine ev_gU [true] [] rfl ?_
            refine ev_retz rfl (by first | decide | exact zb_01 _) ?_
            refine ev_gU [false] [] rfl ?_
            refine ev_inV 2 k_MM_354 h_MM_takes rfl rfl rfl rfl rfl ⟨by decide, by decide⟩ rfl ?_
            refine ev_gU [true] [] rfl ?_
            refine ev_retz rfl (by first | decide | exact zb_01 _) ?_
            refine ev_gU [false] [] rfl ?_
            refine ev_inV 1 k_MM_357 h_MM_is rfl rfl rfl rfl rfl ⟨by decide, by decide⟩ rfl ?_
            refine ev_gU [true, false] [] rfl ?_
            refine ev_retz rfl (by first | decide | exact zb_01 _) ?_
            refine ev_gU [false] [] rfl ?_
            refine ev_inV 1 k_MM_277 h_MM_number rfl rfl rfl rfl rfl ⟨by decide, by decide⟩ rfl ?_
            refine ev_gU [] [] rfl ?_
            refine ev_retl rfl ?_
            refine ev_g0 rfl ?_
            refine ev_inV 2 k_MM_360 h_MM_holdsIndex rfl rfl rfl rfl rfl ⟨by decide, by decide⟩ rfl ?_
            refine ev_gU [] [] rfl ?_
            refine ev_inS 3 k_MM_188 h_MM_in rfl rfl rfl rfl ⟨by decide, by decide⟩ rfl ?_
            refine ev_gU [true] [] rfl ?_
            refine ev_retz rfl (by first | decide | exact zb_01 _) ?_
            refine ev_gU [false] [] rfl ?_
            refine ev_retz rfl (by first | decide | exact zb_01 _) ?_
            refine ev_gU [false] [] rfl ?_
            refine ev_ret rfl ?_
            refine ev_g0 rfl ?_
            refine ev_ret rfl ?_
            exact ⟨rfl, xj, xd, xf, xo, xi, xn, nI 2, rfl, bdd, lf_U, lf_U, hC, hM⟩
          · skip
            refine ev_gU [true] [] rfl ?_
            refine ev_retz rfl (by first | decide | exact zb_01 _) ?_
            refine ev_gU [false] [] rfl ?_
            refine ev_reti rfl ?_
            refine ev_g0 rfl ?_
            refine ev_reti rfl ?_
            refine ct_of h_MM_handles rfl rfl rfl ?_
            refine ev_g0 rfl ?_
            refine ev_inV 1 k_MM_344 h_MM_hold rfl rfl rfl rfl rfl ⟨by decide, by decide⟩ rfl ?_
            refine ev_gU [] [] rfl ?_
            refine ev_reti rfl ?_
            refine ev_gU [] [some 5] rfl ?_
            refine ev_inV 2 k_MM_374 h_MM_storesThing rfl rfl rfl rfl rfl ⟨by decide, by decide⟩ rfl ?_
            refine ev_g0 rfl ?_
            refine ev_inV 1 k_MM_344 h_MM_hold rfl rfl rfl rfl rfl ⟨by decide, by decide⟩ rfl ?_
            refine ev_gU [] [] rfl ?_
            refine ev_reti rfl ?_
            refine ev_g0 rfl ?_
            refine ev_inV 1 k_MM_344 h_MM_hold rfl rfl rfl rfl rfl ⟨by decide, by decide⟩ rfl ?_
            refine ev_gU [] [] rfl ?_
            refine ev_reti rfl ?_
            refine ev_g0 rfl ?_
            refine ev_inV 2 k_MM_354 h_MM_takes rfl rfl rfl rfl rfl ⟨by decide, by decide⟩ rfl ?_
            refine ev_gU [false] [] rfl ?_
            refine ev_inV 2 k_MM_202 h_MM_isKind rfl rfl rfl rfl rfl ⟨by decide, by decide⟩ rfl ?_
            refine ev_gU [false, false, false, false] [] rfl ?_
            refine ev_retz rfl (by first | decide | exact zb_01 _) ?_
            refine ev_gU [true] [] rfl ?_
            refine ev_retz rfl (by first | decide | exact zb_01 _) ?_
            refine ev_gU [false] [] rfl ?_
            refine ev_inV 2 k_MM_354 h_MM_takes rfl rfl rfl rfl rfl ⟨by decide, by decide⟩ rfl ?_
            refine ev_gU [true] [] rfl ?_
            refine ev_retz rfl (by first | decide | exact zb_01 _) ?_
            refine ev_gU [false] [] rfl ?_
            refine ev_inV 1 k_MM_357 h_MM_is rfl rfl rfl rfl rfl ⟨by decide, by decide⟩ rfl ?_
            refine ev_gU [true, false] [] rfl ?_
            refine ev_retz rfl (by first | decide | exact zb_01 _) ?_
            refine ev_gU [false] [] rfl ?_
            refine ev_inV 1 k_MM_277 h_MM_number rfl rfl rfl rfl rfl ⟨by decide, by decide⟩ rfl ?_
            refine ev_gU [] [] rfl ?_
            refine ev_retl rfl ?_
            refine ev_g0 rfl ?_
            refine ev_inV 2 k_MM_360 h_MM_holdsIndex rfl rfl rfl rfl rfl ⟨by decide, by decide⟩ rfl ?_
            refine ev_gU [] [] rfl ?_
            refine ev_inS 3 k_MM_188 h_MM_in rfl rfl rfl rfl ⟨by decide, by decide⟩ rfl ?_
            refine ev_gU [false, true] [] rfl ?_
            refine ev_retz rfl (by first | decide | exact zb_01 _) ?_
            refine ev_gU [false] [] rfl ?_
            refine ev_retz rfl (by first | decide | exact zb_01 _) ?_
            refine ev_gU [false] [] rfl ?_
            refine ev_ret rfl ?_
            refine ev_g0 rfl ?_
            refine ev_ret rfl ?_
            exact ⟨rfl, xj, xd, xf, xo, xi, xn, nI 2, rfl, bdd, lf_U, lf_U, hC, hM⟩
    · skip
      have hu := rc_ihol hC ht ha _ hou
      have zu := rc_isor hC hu
      have yu := rc_imad hC
      rcases ixc (xj 0 t c) (xn 1 q 0) with ⟨j, hj, hi⟩ | hi
      · skip
        refine ct_of h_IA_perform rfl rfl rfl ?_
        refine ev_g0 rfl ?_
        refine ev_inV 1 k_IA_9 h_SD_t rfl rfl rfl rfl rfl ⟨by decide, by decide⟩ rfl ?_
        refine ev_gU [] [some (94 + 4 * q)] rfl ?_
        refine ev_reta rfl ?_
        refine ev_gU [true, true, true, false] [] rfl ?_
        refine ev_inV 1 k_IA_9 h_SD_t rfl rfl rfl rfl rfl ⟨by decide, by decide⟩ rfl ?_
        refine ev_gU [] [some (94 + 4 * u)] rfl ?_
        refine ev_reta rfl ?_
        refine ev_g0 rfl ?_
        refine ev_inS 1 k_IA_28 h_IA_rowKind rfl rfl rfl rfl ⟨by decide, by decide⟩ rfl ?_
        refine ev_gU [true, true] [] rfl ?_
        refine ev_reti rfl ?_
        refine ev_g0 rfl ?_
        refine ev_inV 1 k_IA_17 h_SD_n rfl rfl rfl rfl rfl ⟨by decide, by decide⟩ rfl ?_
        refine ev_gU [] [] rfl ?_
        refine ev_retl rfl ?_
        refine ev_g0 rfl ?_
        refine ev_inS 4 k_IA_35 h_IA_setPart rfl rfl rfl rfl ⟨by decide, by decide⟩ rfl ?_
        refine ev_g0 rfl ?_
        refine ev_inV 1 k_IA_96 h_TH_isA rfl rfl rfl rfl rfl ⟨by decide, by decide⟩ rfl ?_
        refine ev_gU [false, true, true] [none] rfl ?_
        refine ev_bU rfl rfl (fun h_5 => ?_) (fun h_5 => ?_)
        · skip
          refine ev_g0 rfl ?_
          refine ev_retz rfl (by first | decide | exact zb_01 _) ?_
          refine ev_gU [false] [] rfl ?_
          refine ev_reti rfl ?_
          refine ev_g0 rfl ?_
          refine ev_reti rfl ?_
          refine ct_of h_MM_handles rfl rfl rfl ?_
          refine ev_g0 rfl ?_
          refine ev_inV 1 k_MM_344 h_MM_hold rfl rfl rfl rfl rfl ⟨by decide, by decide⟩ rfl ?_
          refine ev_gU [] [] rfl ?_
          refine ev_reti rfl ?_
          refine ev_gU [] [some 5] rfl ?_
          refine ev_inV 2 k_MM_374 h_MM_storesThing rfl rfl rfl rfl rfl ⟨by decide, by decide⟩ rfl ?_
          refine ev_g0 rfl ?_
          refine ev_inV 1 k_MM_344 h_MM_hold rfl rfl rfl rfl rfl ⟨by decide, by decide⟩ rfl ?_
          refine ev_gU [] [] rfl ?_
          refine ev_reti rfl ?_
          refine ev_g0 rfl ?_
          refine ev_inV 1 k_MM_344 h_MM_hold rfl rfl rfl rfl rfl ⟨by decide, by decide⟩ rfl ?_
          refine ev_gU [] [] rfl ?_
          refine ev_reti rfl ?_
          refine ev_g0 rfl ?_
          refine ev_inV 2 k_MM_354 h_MM_takes rfl rfl rfl rfl rfl ⟨by decide, by decide⟩ rfl ?_
          refine ev_gU [false] [] rfl ?_
          refine ev_inV 2 k_MM_202 h_MM_isKind rfl rfl rfl rfl rfl ⟨by decide, by decide⟩ rfl ?_
          refine ev_gU [false, false, false, true] [] rfl ?_
          refine ev_retz rfl (by first | decide | exact zb_01 _) ?_
          refine ev_gU [false] [] rfl ?_
          refine ev_retz rfl (by first | decide | exact zb_01 _) ?_
          refine ev_gU [true] [] rfl ?_
          refine ev_ret rfl ?_
          refine ev_g0 rfl ?_
          refine ev_ret rfl ?_
          exact ⟨rfl, xj, xd, xf, xo, xi, xn, nI 3, rfl, bdd, lf_U, lf_U, hC, hM⟩
        · skip
          refine ev_g0 rfl ?_
          refine ev_retz rfl (by first | decide | exact zb_01 _) ?_
          refine ev_gU [true] [] rfl ?_
          refine ev_inS 1 k_IA_108 h_IA_partKind rfl rfl rfl rfl ⟨by decide, by decide⟩ rfl ?_
          refine ev_gU [true, true] [] rfl ?_
          refine ev_reti rfl ?_
          refine ev_g0 rfl ?_
          refine ev_inV 1 k_IA_96 h_TH_isA rfl rfl rfl rfl rfl ⟨by decide, by decide⟩ rfl ?_
          refine ev_gU [true, true] [none] rfl ?_
          refine ev_bU rfl rfl (fun h_6 => ?_) (fun h_6 => ?_)
          · skip
            refine ev_g0 rfl ?_
            refine ev_retz rfl (by first | decide | exact zb_01 _) ?_
            refine ev_gU [false] [] rfl ?_
            refine ev_reti rfl ?_
            refine ev_g0 rfl ?_
            refine ev_reti rfl ?_
            refine ct_of h_MM_handles rfl rfl rfl ?_
            refine ev_g0 rfl ?_
            refine ev_inV 1 k_MM_344 h_MM_hold rfl rfl rfl rfl rfl ⟨by decide, by decide⟩ rfl ?_
            refine ev_gU [] [] rfl ?_
            refine ev_reti rfl ?_
            refine ev_gU [] [some 5] rfl ?_
            refine ev_inV 2 k_MM_374 h_MM_storesThing rfl rfl rfl rfl rfl ⟨by decide, by decide⟩ rfl ?_
            refine ev_g0 rfl ?_
            refine ev_inV 1 k_MM_344 h_MM_hold rfl rfl rfl rfl rfl ⟨by decide, by decide⟩ rfl ?_
            refine ev_gU [] [] rfl ?_
            refine ev_reti rfl ?_
            refine ev_g0 rfl ?_
            refine ev_inV 1 k_MM_344 h_MM_hold rfl rfl rfl rfl rfl ⟨by decide, by decide⟩ rfl ?_
            refine ev_gU [] [] rfl ?_
            refine ev_reti rfl ?_
            refine ev_g0 rfl ?_
            refine ev_inV 2 k_MM_354 h_MM_takes rfl rfl rfl rfl rfl ⟨by decide, by decide⟩ rfl ?_
            refine ev_gU [false] [] rfl ?_
            refine ev_inV 2 k_MM_202 h_MM_isKind rfl rfl rfl rfl rfl ⟨by decide, by decide⟩ rfl ?_
            refine ev_gU [false, false, false, false] [] rfl ?_
            refine ev_retz rfl (by first | decide | exact zb_01 _) ?_
            refine ev_gU [true] [] rfl ?_
            refine ev_retz rfl (by first | decide | exact zb_01 _) ?_
            refine ev_gU [false] [] rfl ?_
            refine ev_inV 2 k_MM_354 h_MM_takes rfl rfl rfl rfl rfl ⟨by decide, by decide⟩ rfl ?_
            refine ev_gU [false] [] rfl ?_
            refine ev_inV 2 k_MM_202 h_MM_isKind rfl rfl rfl rfl rfl ⟨by decide, by decide⟩ rfl ?_
            refine ev_gU [true, true] [] rfl ?_
            refine ev_retz rfl (by first | decide | exact zb_01 _) ?_
            refine ev_gU [false] [] rfl ?_
            refine ev_retz rfl (by first | decide | exact zb_01 _) ?_
            refine ev_gU [true] [] rfl ?_
            refine ev_ret rfl ?_
            refine ev_g0 rfl ?_
            refine ev_ret rfl ?_
            exact ⟨rfl, xj, xd, xf, xo, xi, xn, nI 3, rfl, bdd, lf_U, lf_U, hC, hM⟩
          · skip
            refine ev_g0 rfl ?_
            refine ev_retz rfl (by first | decide | exact zb_01 _) ?_
            refine ev_gU [true] [] rfl ?_
            refine ev_inV 1 k_IA_60 h_TH_hasItem rfl rfl rfl rfl rfl ⟨by decide, by decide⟩ rfl ?_
            refine ev_gU [false, false] [] rfl ?_
            refine ev_retz rfl (by first | decide | exact zb_01 _) ?_
            refine ev_gU [true, true] [] rfl ?_
            refine ev_reti rfl ?_
            refine ev_g0 rfl ?_
            refine ev_reti rfl ?_
            refine ct_of h_MM_handles rfl rfl rfl ?_
            refine ev_g0 rfl ?_
            refine ev_inV 1 k_MM_344 h_MM_hold rfl rfl rfl rfl rfl ⟨by decide, by decide⟩ rfl ?_
            refine ev_gU [] [] rfl ?_
            refine ev_reti rfl ?_
            refine ev_gU [] [some 5] rfl ?_
            refine ev_inV 2 k_MM_374 h_MM_storesThing rfl rfl rfl rfl rfl ⟨by decide, by decide⟩ rfl ?_
            refine ev_g0 rfl ?_
            refine ev_inV 1 k_MM_344 h_MM_hold rfl rfl rfl rfl rfl ⟨by decide, by decide⟩ rfl ?_
            refine ev_gU [] [] rfl ?_
            refine ev_reti rfl ?_
            refine ev_g0 rfl ?_
            refine ev_inV 1 k_MM_344 h_MM_hold rfl rfl rfl rfl rfl ⟨by decide, by decide⟩ rfl ?_
            refine ev_gU [] [] rfl ?_
            refine ev_reti rfl ?_
            refine ev_g0 rfl ?_
            refine ev_inV 2 k_MM_354 h_MM_takes rfl rfl rfl rfl rfl ⟨by decide, by decide⟩ rfl ?_
            refine ev_gU [false] [] rfl ?_
            refine ev_inV 2 k_MM_202 h_MM_isKind rfl rfl rfl rfl rfl ⟨by decide, by decide⟩ rfl ?_
            refine ev_gU [false, false, false, false] [] rfl ?_
            refine ev_retz rfl (by first | decide | exact zb_01 _) ?_
            refine ev_gU [true] [] rfl ?_
            refine ev_retz rfl (by first | decide | exact zb_01 _) ?_
            refine ev_gU [false] [] rfl ?_
            refine ev_inV 2 k_MM_354 h_MM_takes rfl rfl rfl rfl rfl ⟨by decide, by decide⟩ rfl ?_
            refine ev_gU [false] [] rfl ?_
            refine ev_inV 2 k_MM_202 h_MM_isKind rfl rfl rfl rfl rfl ⟨by decide, by decide⟩ rfl ?_
            refine ev_gU [true, false] [] rfl ?_
            refine ev_retz rfl (by first | decide | exact zb_01 _) ?_
            refine ev_gU [true] [] rfl ?_
            refine ev_retz rfl (by first | decide | exact zb_01 _) ?_
            refine ev_gU [false] [] rfl ?_
            refine ev_inV 1 k_MM_357 h_MM_is rfl rfl rfl rfl rfl ⟨by decide, by decide⟩ rfl ?_
            refine ev_gU [true, false] [] rfl ?_
            refine ev_retz rfl (by first | decide | exact zb_01 _) ?_
            refine ev_gU [false] [] rfl ?_
            refine ev_inV 1 k_MM_277 h_MM_number rfl rfl rfl rfl rfl ⟨by decide, by decide⟩ rfl ?_
            refine ev_gU [] [] rfl ?_
            refine ev_retl rfl ?_
            refine ev_g0 rfl ?_
            refine ev_inV 2 k_MM_360 h_MM_holdsIndex rfl rfl rfl rfl rfl ⟨by decide, by decide⟩ rfl ?_
            refine ev_gU [] [] rfl ?_
            refine ev_inS 3 k_MM_188 h_MM_in rfl rfl rfl rfl ⟨by decide, by decide⟩ rfl ?_
            refine ev_gU [false, false] [] rfl ?_
            refine ev_retz rfl (by first | decide | exact zb_01 _) ?_
            refine ev_gU [true] [] rfl ?_
            refine ev_retz rfl (by first | decide | exact zb_01 _) ?_
            refine ev_gU [true, true] [] rfl ?_
            refine ev_inV 1 k_MM_277 h_MM_number rfl rfl rfl rfl rfl ⟨by decide, by decide⟩ rfl ?_
            refine ev_gU [] [] rfl ?_
            refine ev_retl rfl ?_
            refine ev_gU [] [] rfl ?_
            refine ev_ret rfl ?_
            refine ev_g0 rfl ?_
            refine ev_ret rfl ?_
            exact ⟨rfl, xj, xd, xf, (u3 xo 1 q j (some u)), xi, xn, nI 0, rfl, bdd, lf_U, lf_U, (CU_par hC hq hj (by omega) (fun _ h => by cases h; exact hu) lf_U lf_U), (MU_par hM hq hj (by omega) lf_U lf_U (fun i hi => (rc_isor hC hi).2.2.1))⟩
      · skip
        refine ct_of h_IA_perform rfl rfl rfl ?_
        refine ev_g0 rfl ?_
        refine ev_inV 1 k_IA_9 h_SD_t rfl rfl rfl rfl rfl ⟨by decide, by decide⟩ rfl ?_
        refine ev_gU [] [some (94 + 4 * q)] rfl ?_
        refine ev_reta rfl ?_
        refine ev_gU [true, true, true, false] [] rfl ?_
        refine ev_inV 1 k_IA_9 h_SD_t rfl rfl rfl rfl rfl ⟨by decide, by decide⟩ rfl ?_
        refine ev_gU [] [some (94 + 4 * u)] rfl ?_
        refine ev_reta rfl ?_
        refine ev_g0 rfl ?_
        refine ev_inS 1 k_IA_28 h_IA_rowKind rfl rfl rfl rfl ⟨by decide, by decide⟩ rfl ?_
        refine ev_gU [true, true] [] rfl ?_
        refine ev_reti rfl ?_
        refine ev_g0 rfl ?_
        refine ev_inV 1 k_IA_17 h_SD_n rfl rfl rfl rfl rfl ⟨by decide, by decide⟩ rfl ?_
        refine ev_gU [] [] rfl ?_
        refine ev_retl rfl ?_
        refine ev_g0 rfl ?_
        refine ev_inS 4 k_IA_35 h_IA_setPart rfl rfl rfl rfl ⟨by decide, by decide⟩ rfl ?_
        refine ev_g0 rfl ?_
        refine ev_inV 1 k_IA_96 h_TH_isA rfl rfl rfl rfl rfl ⟨by decide, by decide⟩ rfl ?_
        refine ev_gU [false, true, true] [none] rfl ?_
        refine ev_bU rfl rfl (fun h_7 => ?_) (fun h_7 => ?_)
        · skip
          refine ev_g0 rfl ?_
          refine ev_retz rfl (by first | decide | exact zb_01 _) ?_
          refine ev_gU [false] [] rfl ?_
          refine ev_reti rfl ?_
          refine ev_g0 rfl ?_
          refine ev_reti rfl ?_
          refine ct_of h_MM_handles rfl rfl rfl ?_
          refine ev_g0 rfl ?_
          refine ev_inV 1 k_MM_344 h_MM_hold rfl rfl rfl rfl rfl ⟨by decide, by decide⟩ rfl ?_
          refine ev_gU [] [] rfl ?_
          refine ev_reti rfl ?_
          refine ev_gU [] [some 5] rfl ?_
          refine ev_inV 2 k_MM_374 h_MM_storesThing rfl rfl rfl rfl rfl ⟨by decide, by decide⟩ rfl ?_
          refine ev_g0 rfl ?_
          refine ev_inV 1 k_MM_344 h_MM_hold rfl rfl rfl rfl rfl ⟨by decide, by decide⟩ rfl ?_
          refine ev_gU [] [] rfl ?_
          refine ev_reti rfl ?_
          refine ev_g0 rfl ?_
          refine ev_inV 1 k_MM_344 h_MM_hold rfl rfl rfl rfl rfl ⟨by decide, by decide⟩ rfl ?_
          refine ev_gU [] [] rfl ?_
          refine ev_reti rfl ?_
          refine ev_g0 rfl ?_
          refine ev_inV 2 k_MM_354 h_MM_takes rfl rfl rfl rfl rfl ⟨by decide, by decide⟩ rfl ?_
          refine ev_gU [false] [] rfl ?_
          refine ev_inV 2 k_MM_202 h_MM_isKind rfl rfl rfl rfl rfl ⟨by decide, by decide⟩ rfl ?_
          refine ev_gU [false, false, false, true] [] rfl ?_
          refine ev_retz rfl (by first | decide | exact zb_01 _) ?_
          refine ev_gU [false] [] rfl ?_
          refine ev_retz rfl (by first | decide | exact zb_01 _) ?_
          refine ev_gU [true] [] rfl ?_
          refine ev_ret rfl ?_
          refine ev_g0 rfl ?_
          refine ev_ret rfl ?_
          exact ⟨rfl, xj, xd, xf, xo, xi, xn, nI 3, rfl, bdd, lf_U, lf_U, hC, hM⟩
        · skip
          refine ev_g0 rfl ?_
          refine ev_retz rfl (by first | decide | exact zb_01 _) ?_
          refine ev_gU [true] [] rfl ?_
          refine ev_inS 1 k_IA_108 h_IA_partKind rfl rfl rfl rfl ⟨by decide, by decide⟩ rfl ?_
          refine ev_gU [true, true] [] rfl ?_
          refine ev_reti rfl ?_
          refine ev_g0 rfl ?_
          refine ev_inV 1 k_IA_96 h_TH_isA rfl rfl rfl rfl rfl ⟨by decide, by decide⟩ rfl ?_
          refine ev_gU [true, true] [none] rfl ?_
          refine ev_bU rfl rfl (fun h_8 => ?_) (fun h_8 => ?_)
          · skip
            refine ev_g0 rfl ?_
            refine ev_retz rfl (by first | decide | exact zb_01 _) ?_
            refine ev_gU [false] [] rfl ?_
            refine ev_reti rfl ?_
            refine ev_g0 rfl ?_
            refine ev_reti rfl ?_
            refine ct_of h_MM_handles rfl rfl rfl ?_
            refine ev_g0 rfl ?_
            refine ev_inV 1 k_MM_344 h_MM_hold rfl rfl rfl rfl rfl ⟨by decide, by decide⟩ rfl ?_
            refine ev_gU [] [] rfl ?_
            refine ev_reti rfl ?_
            refine ev_gU [] [some 5] rfl ?_
            refine ev_inV 2 k_MM_374 h_MM_storesThing rfl rfl rfl rfl rfl ⟨by decide, by decide⟩ rfl ?_
            refine ev_g0 rfl ?_
            refine ev_inV 1 k_MM_344 h_MM_hold rfl rfl rfl rfl rfl ⟨by decide, by decide⟩ rfl ?_
            refine ev_gU [] [] rfl ?_
            refine ev_reti rfl ?_
            refine ev_g0 rfl ?_
            refine ev_inV 1 k_MM_344 h_MM_hold rfl rfl rfl rfl rfl ⟨by decide, by decide⟩ rfl ?_
            refine ev_gU [] [] rfl ?_
            refine ev_reti rfl ?_
            refine ev_g0 rfl ?_
            refine ev_inV 2 k_MM_354 h_MM_takes rfl rfl rfl rfl rfl ⟨by decide, by decide⟩ rfl ?_
            refine ev_gU [false] [] rfl ?_
            refine ev_inV 2 k_MM_202 h_MM_isKind rfl rfl rfl rfl rfl ⟨by decide, by decide⟩ rfl ?_
            refine ev_gU [false, false, false, false] [] rfl ?_
            refine ev_retz rfl (by first | decide | exact zb_01 _) ?_
            refine ev_gU [true] [] rfl ?_
            refine ev_retz rfl (by first | decide | exact zb_01 _) ?_
            refine ev_gU [false] [] rfl ?_
            refine ev_inV 2 k_MM_354 h_MM_takes rfl rfl rfl rfl rfl ⟨by decide, by decide⟩ rfl ?_
            refine ev_gU [false] [] rfl ?_
            refine ev_inV 2 k_MM_202 h_MM_isKind rfl rfl rfl rfl rfl ⟨by decide, by decide⟩ rfl ?_
            refine ev_gU [true, true] [] rfl ?_
            refine ev_retz rfl (by first | decide | exact zb_01 _) ?_
            refine ev_gU [false] [] rfl ?_
            refine ev_retz rfl (by first | decide | exact zb_01 _) ?_
            refine ev_gU [true] [] rfl ?_
            refine ev_ret rfl ?_
            refine ev_g0 rfl ?_
            refine ev_ret rfl ?_
            exact ⟨rfl, xj, xd, xf, xo, xi, xn, nI 3, rfl, bdd, lf_U, lf_U, hC, hM⟩
          · skip
            refine ev_g0 rfl ?_
            refine ev_retz rfl (by first | decide | exact zb_01 _) ?_
            refine ev_gU [true] [] rfl ?_
            refine ev_inV 1 k_IA_60 h_TH_hasItem rfl rfl rfl rfl rfl ⟨by decide, by decide⟩ rfl ?_
            refine ev_g0 rfl ?_
            refine ev_bU rfl rfl (fun h_9 => ?_) (fun h_9 => ?_)
            · skip
              refine ev_g0 rfl ?_
              refine ev_retz rfl (by first | decide | exact zb_01 _) ?_
              refine ev_gU [false] [] rfl ?_
              refine ev_reti rfl ?_
              refine ev_g0 rfl ?_
              refine ev_reti rfl ?_
              refine ct_of h_MM_handles rfl rfl rfl ?_
              refine ev_g0 rfl ?_
              refine ev_inV 1 k_MM_344 h_MM_hold rfl rfl rfl rfl rfl ⟨by decide, by decide⟩ rfl ?_
              refine ev_gU [] [] rfl ?_
              refine ev_reti rfl ?_
              refine ev_gU [] [some 5] rfl ?_
              refine ev_inV 2 k_MM_374 h_MM_storesThing rfl rfl rfl rfl rfl ⟨by decide, by decide⟩ rfl ?_
              refine ev_g0 rfl ?_
              refine ev_inV 1 k_MM_344 h_MM_hold rfl rfl rfl rfl rfl ⟨by decide, by decide⟩ rfl ?_
              refine ev_gU [] [] rfl ?_
              refine ev_reti rfl ?_
              refine ev_g0 rfl ?_
              refine ev_inV 1 k_MM_344 h_MM_hold rfl rfl rfl rfl rfl ⟨by decide, by decide⟩ rfl ?_
              refine ev_gU [] [] rfl ?_
              refine ev_reti rfl ?_
              refine ev_g0 rfl ?_
              refine ev_inV 2 k_MM_354 h_MM_takes rfl rfl rfl rfl rfl ⟨by decide, by decide⟩ rfl ?_
              refine ev_gU [false] [] rfl ?_
              refine ev_inV 2 k_MM_202 h_MM_isKind rfl rfl rfl rfl rfl ⟨by decide, by decide⟩ rfl ?_
              refine ev_gU [false, false, false, false] [] rfl ?_
              refine ev_retz rfl (by first | decide | exact zb_01 _) ?_
              refine ev_gU [true] [] rfl ?_
              refine ev_retz rfl (by first | decide | exact zb_01 _) ?_
              refine ev_gU [false] [] rfl ?_
              refine ev_inV 2 k_MM_354 h_MM_takes rfl rfl rfl rfl rfl ⟨by decide, by decide⟩ rfl ?_
              refine ev_gU [false] [] rfl ?_
              refine ev_inV 2 k_MM_202 h_MM_isKind rfl rfl rfl rfl rfl ⟨by decide, by decide⟩ rfl ?_
              refine ev_gU [true, false] [] rfl ?_
              refine ev_retz rfl (by first | decide | exact zb_01 _) ?_
              refine ev_gU [true] [] rfl ?_
              refine ev_retz rfl (by first | decide | exact zb_01 _) ?_
              refine ev_gU [false] [] rfl ?_
              refine ev_inV 1 k_MM_357 h_MM_is rfl rfl rfl rfl rfl ⟨by decide, by decide⟩ rfl ?_
              refine ev_gU [true, false] [] rfl ?_
              refine ev_retz rfl (by first | decide | exact zb_01 _) ?_
              refine ev_gU [false] [] rfl ?_
              refine ev_inV 1 k_MM_277 h_MM_number rfl rfl rfl rfl rfl ⟨by decide, by decide⟩ rfl ?_
              refine ev_gU [] [] rfl ?_
              refine ev_retl rfl ?_
              refine ev_g0 rfl ?_
              refine ev_inV 2 k_MM_360 h_MM_holdsIndex rfl rfl rfl rfl rfl ⟨by decide, by decide⟩ rfl ?_
              refine ev_gU [] [] rfl ?_
              refine ev_inS 3 k_MM_188 h_MM_in rfl rfl rfl rfl ⟨by decide, by decide⟩ rfl ?_
              refine ev_gU [true] [] rfl ?_
              refine ev_retz rfl (by first | decide | exact zb_01 _) ?_
              refine ev_gU [false] [] rfl ?_
              refine ev_retz rfl (by first | decide | exact zb_01 _) ?_
              refine ev_gU [false] [] rfl ?_
              refine ev_ret rfl ?_
              refine ev_g0 rfl ?_
              refine ev_ret rfl ?_
              exact ⟨rfl, xj, xd, xf, xo, xi, xn, nI 2, rfl, bdd, lf_U, lf_U, hC, hM⟩
            · skip
              refine ev_gU [true] [] rfl ?_
              refine ev_retz rfl (by first | decide | exact zb_01 _) ?_
              refine ev_gU [false] [] rfl ?_
              refine ev_reti rfl ?_
              refine ev_g0 rfl ?_
              refine ev_reti rfl ?_
              refine ct_of h_MM_handles rfl rfl rfl ?_
              refine ev_g0 rfl ?_
              refine ev_inV 1 k_MM_344 h_MM_hold rfl rfl rfl rfl rfl ⟨by decide, by decide⟩ rfl ?_
              refine ev_gU [] [] rfl ?_
              refine ev_reti rfl ?_
              refine ev_gU [] [some 5] rfl ?_
              refine ev_inV 2 k_MM_374 h_MM_storesThing rfl rfl rfl rfl rfl ⟨by decide, by decide⟩ rfl ?_
              refine ev_g0 rfl ?_
              refine ev_inV 1 k_MM_344 h_MM_hold rfl rfl rfl rfl rfl ⟨by decide, by decide⟩ rfl ?_
              refine ev_gU [] [] rfl ?_
              refine ev_reti rfl ?_
              refine ev_g0 rfl ?_
              refine ev_inV 1 k_MM_344 h_MM_hold rfl rfl rfl rfl rfl ⟨by decide, by decide⟩ rfl ?_
              refine ev_gU [] [] rfl ?_
              refine ev_reti rfl ?_
              refine ev_g0 rfl ?_
              refine ev_inV 2 k_MM_354 h_MM_takes rfl rfl rfl rfl rfl ⟨by decide, by decide⟩ rfl ?_
              refine ev_gU [false] [] rfl ?_
              refine ev_inV 2 k_MM_202 h_MM_isKind rfl rfl rfl rfl rfl ⟨by decide, by decide⟩ rfl ?_
              refine ev_gU [false, false, false, false] [] rfl ?_
              refine ev_retz rfl (by first | decide | exact zb_01 _) ?_
              refine ev_gU [true] [] rfl ?_
              refine ev_retz rfl (by first | decide | exact zb_01 _) ?_
              refine ev_gU [false] [] rfl ?_
              refine ev_inV 2 k_MM_354 h_MM_takes rfl rfl rfl rfl rfl ⟨by decide, by decide⟩ rfl ?_
              refine ev_gU [false] [] rfl ?_
              refine ev_inV 2 k_MM_202 h_MM_isKind rfl rfl rfl rfl rfl ⟨by decide, by decide⟩ rfl ?_
              refine ev_gU [true, false] [] rfl ?_
              refine ev_retz rfl (by first | decide | exact zb_01 _) ?_
              refine ev_gU [true] [] rfl ?_
              refine ev_retz rfl (by first | decide | exact zb_01 _) ?_
              refine ev_gU [false] [] rfl ?_
              refine ev_inV 1 k_MM_357 h_MM_is rfl rfl rfl rfl rfl ⟨by decide, by decide⟩ rfl ?_
              refine ev_gU [true, false] [] rfl ?_
              refine ev_retz rfl (by first | decide | exact zb_01 _) ?_
              refine ev_gU [false] [] rfl ?_
              refine ev_inV 1 k_MM_277 h_MM_number rfl rfl rfl rfl rfl ⟨by decide, by decide⟩ rfl ?_
              refine ev_gU [] [] rfl ?_
              refine ev_retl rfl ?_
              refine ev_g0 rfl ?_
              refine ev_inV 2 k_MM_360 h_MM_holdsIndex rfl rfl rfl rfl rfl ⟨by decide, by decide⟩ rfl ?_
              refine ev_gU [] [] rfl ?_
              refine ev_inS 3 k_MM_188 h_MM_in rfl rfl rfl rfl ⟨by decide, by decide⟩ rfl ?_
              refine ev_gU [false, true] [] rfl ?_
              refine ev_retz rfl (by first | decide | exact zb_01 _) ?_
              refine ev_gU [false] [] rfl ?_
              refine ev_retz rfl (by first | decide | exact zb_01 _) ?_
              refine ev_gU [false] [] rfl ?_
              refine ev_ret rfl ?_
              refine ev_g0 rfl ?_
              refine ev_ret rfl ?_
              exact ⟨rfl, xj, xd, xf, xo, xi, xn, nI 2, rfl, bdd, lf_U, lf_U, hC, hM⟩
theorem A42 {ci : Nat → Nat → Nat → Int32} {cn : Nat → Nat → Nat → Nat} {co : Nat → Option Nat} {xj : Nat → Nat → Nat → Int64} {xd : Nat → Nat → Nat → UInt64} {xf : Nat → Nat → Nat → UInt32} {xo : Nat → Nat → Nat → Option Nat} {xi : Nat → Nat → Nat → Int32} {xn : Nat → Nat → Nat → Nat} {K : Nat → Nat} {I : Nat → Nat → Int32} {J : Nat → Nat → Int64} {F : Nat → Nat → UInt32} {D : Nat → Nat → UInt64} {R : Nat → Nat → Option Nat} {nx sl : Nat} {Km : Nat → Nat} {Im : Nat → Nat → Int32} {Jm : Nat → Nat → Int64} {Fm : Nat → Nat → UInt32} {Dm : Nat → Nat → UInt64} {Rm : Nat → Nat → Option Nat} {nxm slm : Nat} (hC : RC ci cn co xj xd xf xo xi xn I J F D R nx sl) (hM : RM ci cn co xj xd xf xo xi xn Im Jm Dm) {t a b : Nat} {c : Int32} {go : Int32} (ht : t < 3) (ha : a < 8) (hb : b < 8) (x1 : Im 6 39 = nI t) (x2 : Im 6 40 = nI a) (x3 : Im 6 41 = nI b) (x4 : Im 6 42 = c) (x5 : Im 6 43 = nI 0) (x6 : Im 6 44 = go) : Ct Y_IA_perform [vr 8 (32 + 7 * t), vi (nI 42), vi (nI a), vi (nI b), vi c] (K, I, J, F, D, R, nx, sl) (fun r μ1 => Ct Y_MM_handles [vr 11 6, vi (nI 42)] (Km, Im, Jm, Fm, Dm, Rm, nxm, slm) (fun r2 μ2 => r2 = none ∧ QA ci cn co go r μ1 μ2)) := by
  rcases ho : xo 0 t b with _ | q
  · skip
    refine ct_of h_IA_perform rfl rfl rfl ?_
    refine ev_g0 rfl ?_
    refine ev_inV 1 k_IA_9 h_SD_t rfl rfl rfl rfl rfl ⟨by decide, by decide⟩ rfl ?_
    refine ev_gU [] [none] rfl ?_
    refine ev_retn rfl ?_
    refine ev_gU [true, true, true, true, false] [] rfl ?_
    refine ev_inS 3 k_IA_39 h_IA_getLength rfl rfl rfl rfl ⟨by decide, by decide⟩ rfl ?_
    refine ev_g0 rfl ?_
    refine ev_reti rfl ?_
    refine ev_g0 rfl ?_
    refine ev_reti rfl ?_
    refine ct_of h_MM_handles rfl rfl rfl ?_
    refine ev_g0 rfl ?_
    refine ev_inV 1 k_MM_344 h_MM_hold rfl rfl rfl rfl rfl ⟨by decide, by decide⟩ rfl ?_
    refine ev_gU [] [] rfl ?_
    refine ev_reti rfl ?_
    refine ev_gU [] [some 6] rfl ?_
    refine ev_inV 1 k_MM_357 h_MM_is rfl rfl rfl rfl rfl ⟨by decide, by decide⟩ rfl ?_
    refine ev_gU [false, true] [] rfl ?_
    refine ev_retz rfl (by first | decide | exact zb_01 _) ?_
    refine ev_gU [true] [] rfl ?_
    refine ev_ret rfl ?_
    exact ⟨rfl, xj, xd, xf, xo, xi, xn, nI 1, rfl, bdd, lf_U, lf_U, hC, hM⟩
  · skip
    have hq := rc_ihol hC ht hb _ ho
    have zq := rc_isor hC hq
    have yq := rc_imad hC
    refine ct_of h_IA_perform rfl rfl rfl ?_
    refine ev_g0 rfl ?_
    refine ev_inV 1 k_IA_9 h_SD_t rfl rfl rfl rfl rfl ⟨by decide, by decide⟩ rfl ?_
    refine ev_gU [] [some (94 + 4 * q)] rfl ?_
    refine ev_reta rfl ?_
    refine ev_gU [true, true, true, true, false] [] rfl ?_
    refine ev_inS 3 k_IA_39 h_IA_getLength rfl rfl rfl rfl ⟨by decide, by decide⟩ rfl ?_
    refine ev_g0 rfl ?_
    refine ev_inV 0 k_IA_111 h_TH_isRow rfl rfl rfl rfl rfl ⟨by decide, by decide⟩ rfl ?_
    refine ev_g0 rfl ?_
    refine ev_bU rfl rfl (fun h_1 => ?_) (fun h_1 => ?_)
    · skip
      refine ev_g0 rfl ?_
      refine ev_retz rfl (by first | decide | exact zb_01 _) ?_
      refine ev_gU [false] [] rfl ?_
      refine ev_reti rfl ?_
      refine ev_g0 rfl ?_
      refine ev_reti rfl ?_
      refine ct_of h_MM_handles rfl rfl rfl ?_
      refine ev_g0 rfl ?_
      refine ev_inV 1 k_MM_344 h_MM_hold rfl rfl rfl rfl rfl ⟨by decide, by decide⟩ rfl ?_
      refine ev_gU [] [] rfl ?_
      refine ev_reti rfl ?_
      refine ev_gU [] [some 6] rfl ?_
      refine ev_inV 1 k_MM_357 h_MM_is rfl rfl rfl rfl rfl ⟨by decide, by decide⟩ rfl ?_
      refine ev_gU [true, false] [] rfl ?_
      refine ev_retz rfl (by first | decide | exact zb_01 _) ?_
      refine ev_gU [false, false] [] rfl ?_
      refine ev_inV 1 k_MM_301 h_MM_fails rfl rfl rfl rfl rfl ⟨by decide, by decide⟩ rfl ?_
      refine ev_g0 rfl ?_
      refine ev_ret rfl ?_
      refine ev_g0 rfl ?_
      refine ev_ret rfl ?_
      exact ⟨rfl, xj, xd, xf, xo, xi, xn, nI 10, rfl, bdd, lf_U, lf_U, hC, hM⟩
    · skip
      refine ev_g0 rfl ?_
      refine ev_retz rfl (by first | decide | exact zb_01 _) ?_
      refine ev_gU [true] [] rfl ?_
      refine ev_inV 2 k_IA_80 h_SD_setN rfl rfl rfl rfl rfl ⟨by decide, by decide⟩ rfl ?_
      refine ev_gU [] [] rfl ?_
      refine ev_ret rfl ?_
      refine ev_g0 rfl ?_
      refine ev_reti rfl ?_
      refine ev_g0 rfl ?_
      refine ev_reti rfl ?_
      refine ct_of h_MM_handles rfl rfl rfl ?_
      refine ev_g0 rfl ?_
      refine ev_inV 1 k_MM_344 h_MM_hold rfl rfl rfl rfl rfl ⟨by decide, by decide⟩ rfl ?_
      refine ev_gU [] [] rfl ?_
      refine ev_reti rfl ?_
      refine ev_gU [] [some 6] rfl ?_
      refine ev_inV 1 k_MM_357 h_MM_is rfl rfl rfl rfl rfl ⟨by decide, by decide⟩ rfl ?_
      refine ev_gU [true, false] [] rfl ?_
      refine ev_retz rfl (by first | decide | exact zb_01 _) ?_
      refine ev_gU [false, true] [] rfl ?_
      refine ev_inV 2 k_MM_288 h_MM_lay rfl rfl rfl rfl rfl ⟨by decide, by decide⟩ rfl ?_
      refine ev_gU [] [] rfl ?_
      refine ev_ret rfl ?_
      refine ev_g0 rfl ?_
      refine ev_ret rfl ?_
      exact ⟨rfl, (u3 xj 0 t a ((nI (xn 1 q 0)).toInt64)), xd, xf, xo, xi, xn, nI 0, rfl, bdd, lf_U, lf_U, (CU_num hC ht ha lf_U lf_U), (MU_num hM ht ha lf_U lf_U (fun i hi => (rc_isor hC hi).2.2.1))⟩
theorem A43 {ci : Nat → Nat → Nat → Int32} {cn : Nat → Nat → Nat → Nat} {co : Nat → Option Nat} {xj : Nat → Nat → Nat → Int64} {xd : Nat → Nat → Nat → UInt64} {xf : Nat → Nat → Nat → UInt32} {xo : Nat → Nat → Nat → Option Nat} {xi : Nat → Nat → Nat → Int32} {xn : Nat → Nat → Nat → Nat} {K : Nat → Nat} {I : Nat → Nat → Int32} {J : Nat → Nat → Int64} {F : Nat → Nat → UInt32} {D : Nat → Nat → UInt64} {R : Nat → Nat → Option Nat} {nx sl : Nat} {Km : Nat → Nat} {Im : Nat → Nat → Int32} {Jm : Nat → Nat → Int64} {Fm : Nat → Nat → UInt32} {Dm : Nat → Nat → UInt64} {Rm : Nat → Nat → Option Nat} {nxm slm : Nat} (hC : RC ci cn co xj xd xf xo xi xn I J F D R nx sl) (hM : RM ci cn co xj xd xf xo xi xn Im Jm Dm) {t a b c : Nat} {go : Int32} (ht : t < 3) (ha : a < 8) (hb : b < 8) (hc : c < 8) (x1 : Im 6 39 = nI t) (x2 : Im 6 40 = nI a) (x3 : Im 6 41 = nI b) (x4 : Im 6 42 = nI c) (x5 : Im 6 43 = nI 0) (x6 : Im 6 44 = go) : Ct Y_IA_perform [vr 8 (32 + 7 * t), vi (nI 43), vi (nI a), vi (nI b), vi (nI c)] (K, I, J, F, D, R, nx, sl) (fun r μ1 => Ct Y_MM_handles [vr 11 6, vi (nI 43)] (Km, Im, Jm, Fm, Dm, Rm, nxm, slm) (fun r2 μ2 => r2 = none ∧ QA ci cn co go r μ1 μ2)) := by
  rcases ho : xo 0 t b with _ | q
  · skip
    refine ct_of h_IA_perform rfl rfl rfl ?_
    refine ev_g0 rfl ?_
    refine ev_inV 1 k_IA_9 h_SD_t rfl rfl rfl rfl rfl ⟨by decide, by decide⟩ rfl ?_
    refine ev_gU [] [none] rfl ?_
    refine ev_retn rfl ?_
    refine ev_gU [true, true, true, true, true, false] [] rfl ?_
    refine ev_inV 1 k_IA_17 h_SD_n rfl rfl rfl rfl rfl ⟨by decide, by decide⟩ rfl ?_
    refine ev_gU [] [] rfl ?_
    refine ev_retl rfl ?_
    refine ev_g0 rfl ?_
    refine ev_inS 4 k_IA_43 h_IA_getLong rfl rfl rfl rfl ⟨by decide, by decide⟩ rfl ?_
    refine ev_g0 rfl ?_
    refine ev_reti rfl ?_
    refine ev_g0 rfl ?_
    refine ev_reti rfl ?_
    refine ct_of h_MM_handles rfl rfl rfl ?_
    refine ev_g0 rfl ?_
    refine ev_inV 1 k_MM_344 h_MM_hold rfl rfl rfl rfl rfl ⟨by decide, by decide⟩ rfl ?_
    refine ev_gU [] [] rfl ?_
    refine ev_reti rfl ?_
    refine ev_gU [] [some 7] rfl ?_
    refine ev_inV 3 k_MM_368 h_MM_asks rfl rfl rfl rfl rfl ⟨by decide, by decide⟩ rfl ?_
    refine ev_g0 rfl ?_
    refine ev_inV 1 k_MM_357 h_MM_is rfl rfl rfl rfl rfl ⟨by decide, by decide⟩ rfl ?_
    refine ev_gU [false, true] [] rfl ?_
    refine ev_retz rfl (by first | decide | exact zb_01 _) ?_
    refine ev_gU [false] [] rfl ?_
    refine ev_retz rfl (by first | decide | exact zb_01 _) ?_
    refine ev_gU [true] [] rfl ?_
    refine ev_ret rfl ?_
    exact ⟨rfl, xj, xd, xf, xo, xi, xn, nI 1, rfl, bdd, lf_U, lf_U, hC, hM⟩
  · skip
    have hq := rc_ihol hC ht hb _ ho
    have zq := rc_isor hC hq
    have yq := rc_imad hC
    rcases ixc (xj 0 t c) (xn 1 q 0) with ⟨j, hj, hi⟩ | hi
    · skip
      refine ct_of h_IA_perform rfl rfl rfl ?_
      refine ev_g0 rfl ?_
      refine ev_inV 1 k_IA_9 h_SD_t rfl rfl rfl rfl rfl ⟨by decide, by decide⟩ rfl ?_
      refine ev_gU [] [some (94 + 4 * q)] rfl ?_
      refine ev_reta rfl ?_
      refine ev_gU [true, true, true, true, true, false] [] rfl ?_
      refine ev_inV 1 k_IA_17 h_SD_n rfl rfl rfl rfl rfl ⟨by decide, by decide⟩ rfl ?_
      refine ev_gU [] [] rfl ?_
      refine ev_retl rfl ?_
      refine ev_g0 rfl ?_
      refine ev_inS 4 k_IA_43 h_IA_getLong rfl rfl rfl rfl ⟨by decide, by decide⟩ rfl ?_
      refine ev_g0 rfl ?_
      refine ev_bU rfl rfl (fun h_1 => ?_) (fun h_1 => ?_)
      · skip
        refine ev_g0 rfl ?_
        refine ev_reti rfl ?_
        refine ev_g0 rfl ?_
        refine ev_reti rfl ?_
        refine ct_of h_MM_handles rfl rfl rfl ?_
        refine ev_g0 rfl ?_
        refine ev_inV 1 k_MM_344 h_MM_hold rfl rfl rfl rfl rfl ⟨by decide, by decide⟩ rfl ?_
        refine ev_gU [] [] rfl ?_
        refine ev_reti rfl ?_
        refine ev_gU [] [some 7] rfl ?_
        refine ev_inV 3 k_MM_368 h_MM_asks rfl rfl rfl rfl rfl ⟨by decide, by decide⟩ rfl ?_
        refine ev_g0 rfl ?_
        refine ev_inV 1 k_MM_357 h_MM_is rfl rfl rfl rfl rfl ⟨by decide, by decide⟩ rfl ?_
        refine ev_gU [true, false] [] rfl ?_
        refine ev_retz rfl (by first | decide | exact zb_01 _) ?_
        refine ev_gU [true] [] rfl ?_
        refine ev_inS 3 k_MM_188 h_MM_in rfl rfl rfl rfl ⟨by decide, by decide⟩ rfl ?_
        refine ev_gU [true] [] rfl ?_
        refine ev_retz rfl (by first | decide | exact zb_01 _) ?_
        refine ev_gU [false] [] rfl ?_
        refine ev_inV 1 k_MM_301 h_MM_fails rfl rfl rfl rfl rfl ⟨by decide, by decide⟩ rfl ?_
        refine ev_g0 rfl ?_
        refine ev_ret rfl ?_
        refine ev_g0 rfl ?_
        refine ev_retz rfl (by first | decide | exact zb_01 _) ?_
        refine ev_gU [true] [] rfl ?_
        refine ev_ret rfl ?_
        exact ⟨rfl, xj, xd, xf, xo, xi, xn, nI 10, rfl, bdd, lf_U, lf_U, hC, hM⟩
      · skip
        refine ev_g0 rfl ?_
        refine ev_bU rfl rfl (fun h_2 => ?_) (fun h_2 => ?_)
        · skip
          refine ev_g0 rfl ?_
          refine ev_inV 1 k_IA_60 h_TH_hasItem rfl rfl rfl rfl rfl ⟨by decide, by decide⟩ rfl ?_
          refine ev_gU [false, false] [] rfl ?_
          refine ev_retz rfl (by first | decide | exact zb_01 _) ?_
          refine ev_gU [true] [] rfl ?_
          refine ev_inV 2 k_IA_80 h_SD_setN rfl rfl rfl rfl rfl ⟨by decide, by decide⟩ rfl ?_
          refine ev_gU [] [] rfl ?_
          refine ev_ret rfl ?_
          refine ev_g0 rfl ?_
          refine ev_reti rfl ?_
          refine ev_g0 rfl ?_
          refine ev_reti rfl ?_
          refine ct_of h_MM_handles rfl rfl rfl ?_
          refine ev_g0 rfl ?_
          refine ev_inV 1 k_MM_344 h_MM_hold rfl rfl rfl rfl rfl ⟨by decide, by decide⟩ rfl ?_
          refine ev_gU [] [] rfl ?_
          refine ev_reti rfl ?_
          refine ev_gU [] [some 7] rfl ?_
          refine ev_inV 3 k_MM_368 h_MM_asks rfl rfl rfl rfl rfl ⟨by decide, by decide⟩ rfl ?_
          refine ev_g0 rfl ?_
          refine ev_inV 1 k_MM_357 h_MM_is rfl rfl rfl rfl rfl ⟨by decide, by decide⟩ rfl ?_
          refine ev_gU [true, false] [] rfl ?_
          refine ev_retz rfl (by first | decide | exact zb_01 _) ?_
          refine ev_gU [true] [] rfl ?_
          refine ev_inS 3 k_MM_188 h_MM_in rfl rfl rfl rfl ⟨by decide, by decide⟩ rfl ?_
          refine ev_gU [false, false] [] rfl ?_
          refine ev_retz rfl (by first | decide | exact zb_01 _) ?_
          refine ev_gU [true] [] rfl ?_
          refine ev_inV 1 k_MM_277 h_MM_number rfl rfl rfl rfl rfl ⟨by decide, by decide⟩ rfl ?_
          refine ev_gU [] [] rfl ?_
          refine ev_retl rfl ?_
          refine ev_g0 rfl ?_
          refine ev_inV 2 k_MM_360 h_MM_holdsIndex rfl rfl rfl rfl rfl ⟨by decide, by decide⟩ rfl ?_
          refine ev_gU [] [] rfl ?_
          refine ev_inS 3 k_MM_188 h_MM_in rfl rfl rfl rfl ⟨by decide, by decide⟩ rfl ?_
          refine ev_gU [false, false] [] rfl ?_
          refine ev_retz rfl (by first | decide | exact zb_01 _) ?_
          refine ev_gU [true] [] rfl ?_
          refine ev_retz rfl (by first | decide | exact zb_01 _) ?_
          refine ev_g0 rfl ?_
          refine ev_retz rfl (by first | decide | exact zb_01 _) ?_
          refine ev_gU [false] [] rfl ?_
          refine ev_inV 1 k_MM_277 h_MM_number rfl rfl rfl rfl rfl ⟨by decide, by decide⟩ rfl ?_
          refine ev_gU [] [] rfl ?_
          refine ev_retl rfl ?_
          refine ev_gU [] [] rfl ?_
          refine ev_inV 2 k_MM_288 h_MM_lay rfl rfl rfl rfl rfl ⟨by decide, by decide⟩ rfl ?_
          refine ev_gU [] [] rfl ?_
          refine ev_ret rfl ?_
          refine ev_g0 rfl ?_
          refine ev_ret rfl ?_
          exact ⟨rfl, (u3 xj 0 t a (xj 1 q j)), xd, xf, xo, xi, xn, nI 0, rfl, bdd, lf_U, lf_U, (CU_num hC ht ha lf_U lf_U), (MU_num hM ht ha lf_U lf_U (fun i hi => (rc_isor hC hi).2.2.1))⟩
        · skip
          refine ev_g0 rfl ?_
          refine ev_reti rfl ?_
          refine ev_g0 rfl ?_
          refine ev_reti rfl ?_
          refine ct_of h_MM_handles rfl rfl rfl ?_
          refine ev_g0 rfl ?_
          refine ev_inV 1 k_MM_344 h_MM_hold rfl rfl rfl rfl rfl ⟨by decide, by decide⟩ rfl ?_
          refine ev_gU [] [] rfl ?_
          refine ev_reti rfl ?_
          refine ev_gU [] [some 7] rfl ?_
          refine ev_inV 3 k_MM_368 h_MM_asks rfl rfl rfl rfl rfl ⟨by decide, by decide⟩ rfl ?_
          refine ev_g0 rfl ?_
          refine ev_inV 1 k_MM_357 h_MM_is rfl rfl rfl rfl rfl ⟨by decide, by decide⟩ rfl ?_
          refine ev_gU [true, false] [] rfl ?_
          refine ev_retz rfl (by first | decide | exact zb_01 _) ?_
          refine ev_gU [true] [] rfl ?_
          refine ev_inS 3 k_MM_188 h_MM_in rfl rfl rfl rfl ⟨by decide, by decide⟩ rfl ?_
          refine ev_gU [false, true] [] rfl ?_
          refine ev_retz rfl (by first | decide | exact zb_01 _) ?_
          refine ev_gU [false] [] rfl ?_
          refine ev_inV 1 k_MM_301 h_MM_fails rfl rfl rfl rfl rfl ⟨by decide, by decide⟩ rfl ?_
          refine ev_g0 rfl ?_
          refine ev_ret rfl ?_
          refine ev_g0 rfl ?_
          refine ev_retz rfl (by first | decide | exact zb_01 _) ?_
          refine ev_gU [true] [] rfl ?_
          refine ev_ret rfl ?_
          exact ⟨rfl, xj, xd, xf, xo, xi, xn, nI 10, rfl, bdd, lf_U, lf_U, hC, hM⟩
    · skip
      refine ct_of h_IA_perform rfl rfl rfl ?_
      refine ev_g0 rfl ?_
      refine ev_inV 1 k_IA_9 h_SD_t rfl rfl rfl rfl rfl ⟨by decide, by decide⟩ rfl ?_
      refine ev_gU [] [some (94 + 4 * q)] rfl ?_
      refine ev_reta rfl ?_
      refine ev_gU [true, true, true, true, true, false] [] rfl ?_
      refine ev_inV 1 k_IA_17 h_SD_n rfl rfl rfl rfl rfl ⟨by decide, by decide⟩ rfl ?_
      refine ev_gU [] [] rfl ?_
      refine ev_retl rfl ?_
      refine ev_g0 rfl ?_
      refine ev_inS 4 k_IA_43 h_IA_getLong rfl rfl rfl rfl ⟨by decide, by decide⟩ rfl ?_
      refine ev_g0 rfl ?_
      refine ev_bU rfl rfl (fun h_3 => ?_) (fun h_3 => ?_)
      · skip
        refine ev_g0 rfl ?_
        refine ev_reti rfl ?_
        refine ev_g0 rfl ?_
        refine ev_reti rfl ?_
        refine ct_of h_MM_handles rfl rfl rfl ?_
        refine ev_g0 rfl ?_
        refine ev_inV 1 k_MM_344 h_MM_hold rfl rfl rfl rfl rfl ⟨by decide, by decide⟩ rfl ?_
        refine ev_gU [] [] rfl ?_
        refine ev_reti rfl ?_
        refine ev_gU [] [some 7] rfl ?_
        refine ev_inV 3 k_MM_368 h_MM_asks rfl rfl rfl rfl rfl ⟨by decide, by decide⟩ rfl ?_
        refine ev_g0 rfl ?_
        refine ev_inV 1 k_MM_357 h_MM_is rfl rfl rfl rfl rfl ⟨by decide, by decide⟩ rfl ?_
        refine ev_gU [true, false] [] rfl ?_
        refine ev_retz rfl (by first | decide | exact zb_01 _) ?_
        refine ev_gU [true] [] rfl ?_
        refine ev_inS 3 k_MM_188 h_MM_in rfl rfl rfl rfl ⟨by decide, by decide⟩ rfl ?_
        refine ev_gU [true] [] rfl ?_
        refine ev_retz rfl (by first | decide | exact zb_01 _) ?_
        refine ev_gU [false] [] rfl ?_
        refine ev_inV 1 k_MM_301 h_MM_fails rfl rfl rfl rfl rfl ⟨by decide, by decide⟩ rfl ?_
        refine ev_g0 rfl ?_
        refine ev_ret rfl ?_
        refine ev_g0 rfl ?_
        refine ev_retz rfl (by first | decide | exact zb_01 _) ?_
        refine ev_gU [true] [] rfl ?_
        refine ev_ret rfl ?_
        exact ⟨rfl, xj, xd, xf, xo, xi, xn, nI 10, rfl, bdd, lf_U, lf_U, hC, hM⟩
      · skip
        refine ev_g0 rfl ?_
        refine ev_bU rfl rfl (fun h_4 => ?_) (fun h_4 => ?_)
        · skip
          refine ev_g0 rfl ?_
          refine ev_inV 1 k_IA_60 h_TH_hasItem rfl rfl rfl rfl rfl ⟨by decide, by decide⟩ rfl ?_
          refine ev_g0 rfl ?_
          refine ev_bU rfl rfl (fun h_5 => ?_) (fun h_5 => ?_)
          · skip
            refine ev_g0 rfl ?_
            refine ev_retz rfl (by first | decide | exact zb_01 _) ?_
            refine ev_gU [false] [] rfl ?_
            refine ev_reti rfl ?_
            refine ev_g0 rfl ?_
            refine ev_reti rfl ?_
            refine ct_of h_MM_handles rfl rfl rfl ?_
            refine ev_g0 rfl ?_
            refine ev_inV 1 k_MM_344 h_MM_hold rfl rfl rfl rfl rfl ⟨by decide, by decide⟩ rfl ?_
            refine ev_gU [] [] rfl ?_
            refine ev_reti rfl ?_
            refine ev_gU [] [some 7] rfl ?_
            refine ev_inV 3 k_MM_368 h_MM_asks rfl rfl rfl rfl rfl ⟨by decide, by decide⟩ rfl ?_
            refine ev_g0 rfl ?_
            refine ev_inV 1 k_MM_357 h_MM_is rfl rfl rfl rfl rfl ⟨by decide, by decide⟩ rfl ?_
            refine ev_gU [true, false] [] rfl ?_
            refine ev_retz rfl (by first | decide | exact zb_01 _) ?_
            refine ev_gU [true] [] rfl ?_
            refine ev_inS 3 k_MM_188 h_MM_in rfl rfl rfl rfl ⟨by decide, by decide⟩ rfl ?_
            refine ev_gU [false, false] [] rfl ?_
            refine ev_retz rfl (by first | decide | exact zb_01 _) ?_
            refine ev_gU [true] [] rfl ?_
            refine ev_inV 1 k_MM_277 h_MM_number rfl rfl rfl rfl rfl ⟨by decide, by decide⟩ rfl ?_
            refine ev_gU [] [] rfl ?_
            refine ev_retl rfl ?_
            refine ev_g0 rfl ?_
            refine ev_inV 2 k_MM_360 h_MM_holdsIndex rfl rfl rfl rfl rfl ⟨by decide, by decide⟩ rfl ?_
            refine ev_gU [] [] rfl ?_
            refine ev_inS 3 k_MM_188 h_MM_in rfl rfl rfl rfl ⟨by decide, by decide⟩ rfl ?_
            refine ev_gU [true] [] rfl ?_
            refine ev_retz rfl (by first | decide | exact zb_01 _) ?_
            refine ev_gU [false] [] rfl ?_
            refine ev_retz rfl (by first | decide | exact zb_01 _) ?_
            refine ev_g0 rfl ?_
            refine ev_retz rfl (by first | decide | exact zb_01 _) ?_
            refine ev_gU [true] [] rfl ?_
            refine ev_ret rfl ?_
            exact ⟨rfl, xj, xd, xf, xo, xi, xn, nI 2, rfl, bdd, lf_U, lf_U, hC, hM⟩
          · skip
            refine ev_gU [true] [] rfl ?_
            refine ev_retz rfl (by first | decide | exact zb_01 _) ?_
            refine ev_gU [false] [] rfl ?_
            refine ev_reti rfl ?_
            refine ev_g0 rfl ?_
            refine ev_reti rfl ?_
            refine ct_of h_MM_handles rfl rfl rfl ?_
            refine ev_g0 rfl ?_
            refine ev_inV 1 k_MM_344 h_MM_hold rfl rfl rfl rfl rfl ⟨by decide, by decide⟩ rfl ?_
            refine ev_gU [] [] rfl ?_
            refine ev_reti rfl ?_
            refine ev_gU [] [some 7] rfl ?_
            refine ev_inV 3 k_MM_368 h_MM_asks rfl rfl rfl rfl rfl ⟨by decide, by decide⟩ rfl ?_
            refine ev_g0 rfl ?_
            refine ev_inV 1 k_MM_357 h_MM_is rfl rfl rfl rfl rfl ⟨by decide, by decide⟩ rfl ?_
            refine ev_gU [true, false] [] rfl ?_
            refine ev_retz rfl (by first | decide | exact zb_01 _) ?_
            refine ev_gU [true] [] rfl ?_
            refine ev_inS 3 k_MM_188 h_MM_in rfl rfl rfl rfl ⟨by decide, by decide⟩ rfl ?_
            refine ev_gU [false, false] [] rfl ?_
            refine ev_retz rfl (by first | decide | exact zb_01 _) ?_
            refine ev_gU [true] [] rfl ?_
            refine ev_inV 1 k_MM_277 h_MM_number rfl rfl rfl rfl rfl ⟨by decide, by decide⟩ rfl ?_
            refine ev_gU [] [] rfl ?_
            refine ev_retl rfl ?_
            refine ev_g0 rfl ?_
            refine ev_inV 2 k_MM_360 h_MM_holdsIndex rfl rfl rfl rfl rfl ⟨by decide, by decide⟩ rfl ?_
            refine ev_gU [] [] rfl ?_
            refine ev_inS 3 k_MM_188 h_MM_in rfl rfl rfl rfl ⟨by decide, by decide⟩ rfl ?_
            refine ev_gU [false, true] [] rfl ?_
            refine ev_retz rfl (by first | decide | exact zb_01 _) ?_
            refine ev_gU [false] [] rfl ?_
            refine ev_retz rfl (by first | decide | exact zb_01 _) ?_
            refine ev_g0 rfl ?_
            refine ev_retz rfl (by first | decide | exact zb_01 _) ?_
            refine ev_gU [true] [] rfl ?_
            refine ev_ret rfl ?_
            exact ⟨rfl, xj, xd, xf, xo, xi, xn, nI 2, rfl, bdd, lf_U, lf_U, hC, hM⟩
        · skip
          refine ev_g0 rfl ?_
          refine ev_reti rfl ?_
          refine ev_g0 rfl ?_
          refine ev_reti rfl ?_
          refine ct_of h_MM_handles rfl rfl rfl ?_
          refine ev_g0 rfl ?_
          refine ev_inV 1 k_MM_344 h_MM_hold rfl rfl rfl rfl rfl ⟨by decide, by decide⟩ rfl ?_
          refine ev_gU [] [] rfl ?_
          refine ev_reti rfl ?_
          refine ev_gU [] [some 7] rfl ?_
          refine ev_inV 3 k_MM_368 h_MM_asks rfl rfl rfl rfl rfl ⟨by decide, by decide⟩ rfl ?_
          refine ev_g0 rfl ?_
          refine ev_inV 1 k_MM_357 h_MM_is rfl rfl rfl rfl rfl ⟨by decide, by decide⟩ rfl ?_
          refine ev_gU [true, false] [] rfl ?_
          refine ev_retz rfl (by first | decide | exact zb_01 _) ?_
          refine ev_gU [true] [] rfl ?_
          refine ev_inS 3 k_MM_188 h_MM_in rfl rfl rfl rfl ⟨by decide, by decide⟩ rfl ?_
          refine ev_gU [false, true] [] rfl ?_
          refine ev_retz rfl (by first | decide | exact zb_01 _) ?_
          refine ev_gU [false] [] rfl ?_
          refine ev_inV 1 k_MM_301 h_MM_fails rfl rfl rfl rfl rfl ⟨by decide, by decide⟩ rfl ?_
          refine ev_g0 rfl ?_
          refine ev_ret rfl ?_
          refine ev_g0 rfl ?_
          refine ev_retz rfl (by first | decide | exact zb_01 _) ?_
          refine ev_gU [true] [] rfl ?_
          refine ev_ret rfl ?_
          exact ⟨rfl, xj, xd, xf, xo, xi, xn, nI 10, rfl, bdd, lf_U, lf_U, hC, hM⟩
theorem A44 {ci : Nat → Nat → Nat → Int32} {cn : Nat → Nat → Nat → Nat} {co : Nat → Option Nat} {xj : Nat → Nat → Nat → Int64} {xd : Nat → Nat → Nat → UInt64} {xf : Nat → Nat → Nat → UInt32} {xo : Nat → Nat → Nat → Option Nat} {xi : Nat → Nat → Nat → Int32} {xn : Nat → Nat → Nat → Nat} {K : Nat → Nat} {I : Nat → Nat → Int32} {J : Nat → Nat → Int64} {F : Nat → Nat → UInt32} {D : Nat → Nat → UInt64} {R : Nat → Nat → Option Nat} {nx sl : Nat} {Km : Nat → Nat} {Im : Nat → Nat → Int32} {Jm : Nat → Nat → Int64} {Fm : Nat → Nat → UInt32} {Dm : Nat → Nat → UInt64} {Rm : Nat → Nat → Option Nat} {nxm slm : Nat} (hC : RC ci cn co xj xd xf xo xi xn I J F D R nx sl) (hM : RM ci cn co xj xd xf xo xi xn Im Jm Dm) {t a b c : Nat} {go : Int32} (ht : t < 3) (ha : a < 4) (hb : b < 8) (hc : c < 8) (x1 : Im 6 39 = nI t) (x2 : Im 6 40 = nI a) (x3 : Im 6 41 = nI b) (x4 : Im 6 42 = nI c) (x5 : Im 6 43 = nI 0) (x6 : Im 6 44 = go) : Ct Y_IA_perform [vr 8 (32 + 7 * t), vi (nI 44), vi (nI a), vi (nI b), vi (nI c)] (K, I, J, F, D, R, nx, sl) (fun r μ1 => Ct Y_MM_handles [vr 11 6, vi (nI 44)] (Km, Im, Jm, Fm, Dm, Rm, nxm, slm) (fun r2 μ2 => r2 = none ∧ QA ci cn co go r μ1 μ2)) := by
  rcases ho : xo 0 t b with _ | q
  · skip
    refine ct_of h_IA_perform rfl rfl rfl ?_
    refine ev_g0 rfl ?_
    refine ev_inV 1 k_IA_9 h_SD_t rfl rfl rfl rfl rfl ⟨by decide, by decide⟩ rfl ?_
    refine ev_gU [] [none] rfl ?_
    refine ev_retn rfl ?_
    refine ev_gU [true, true, true, true, true, true, false] [] rfl ?_
    refine ev_inV 1 k_IA_17 h_SD_n rfl rfl rfl rfl rfl ⟨by decide, by decide⟩ rfl ?_
    refine ev_gU [] [] rfl ?_
    refine ev_retl rfl ?_
    refine ev_g0 rfl ?_
    refine ev_inS 4 k_IA_47 h_IA_getDouble rfl rfl rfl rfl ⟨by decide, by decide⟩ rfl ?_
    refine ev_g0 rfl ?_
    refine ev_reti rfl ?_
    refine ev_g0 rfl ?_
    refine ev_reti rfl ?_
    refine ct_of h_MM_handles rfl rfl rfl ?_
    refine ev_g0 rfl ?_
    refine ev_inV 1 k_MM_344 h_MM_hold rfl rfl rfl rfl rfl ⟨by decide, by decide⟩ rfl ?_
    refine ev_gU [] [] rfl ?_
    refine ev_reti rfl ?_
    refine ev_gU [] [some 8] rfl ?_
    refine ev_inV 3 k_MM_368 h_MM_asks rfl rfl rfl rfl rfl ⟨by decide, by decide⟩ rfl ?_
    refine ev_g0 rfl ?_
    refine ev_inV 1 k_MM_357 h_MM_is rfl rfl rfl rfl rfl ⟨by decide, by decide⟩ rfl ?_
    refine ev_gU [false, true] [] rfl ?_
    refine ev_retz rfl (by first | decide | exact zb_01 _) ?_
    refine ev_gU [false] [] rfl ?_
    refine ev_retz rfl (by first | decide | exact zb_01 _) ?_
    refine ev_gU [true] [] rfl ?_
    refine ev_ret rfl ?_
    exact ⟨rfl, xj, xd, xf, xo, xi, xn, nI 1, rfl, bdd, lf_U, lf_U, hC, hM⟩
  · skip
    have hq := rc_ihol hC ht hb _ ho
    have zq := rc_isor hC hq
    have yq := rc_imad hC
    rcases ixc (xj 0 t c) (xn 1 q 0) with ⟨j, hj, hi⟩ | hi
    · skip
      refine ct_of h_IA_perform rfl rfl rfl ?_
      refine ev_g0 rfl ?_
      refine ev_inV 1 k_IA_9 h_SD_t rfl rfl rfl rfl rfl ⟨by decide, by decide⟩ rfl ?_
      refine ev_gU [] [some (94 + 4 * q)] rfl ?_
      refine ev_reta rfl ?_
      refine ev_gU [true, true, true, true, true, true, false] [] rfl ?_
      refine ev_inV 1 k_IA_17 h_SD_n rfl rfl rfl rfl rfl ⟨by decide, by decide⟩ rfl ?_
      refine ev_gU [] [] rfl ?_
      refine ev_retl rfl ?_
      refine ev_g0 rfl ?_
      refine ev_inS 4 k_IA_47 h_IA_getDouble rfl rfl rfl rfl ⟨by decide, by decide⟩ rfl ?_
      refine ev_g0 rfl ?_
      refine ev_bU rfl rfl (fun h_1 => ?_) (fun h_1 => ?_)
      · skip
        refine ev_g0 rfl ?_
        refine ev_reti rfl ?_
        refine ev_g0 rfl ?_
        refine ev_reti rfl ?_
        refine ct_of h_MM_handles rfl rfl rfl ?_
        refine ev_g0 rfl ?_
        refine ev_inV 1 k_MM_344 h_MM_hold rfl rfl rfl rfl rfl ⟨by decide, by decide⟩ rfl ?_
        refine ev_gU [] [] rfl ?_
        refine ev_reti rfl ?_
        refine ev_gU [] [some 8] rfl ?_
        refine ev_inV 3 k_MM_368 h_MM_asks rfl rfl rfl rfl rfl ⟨by decide, by decide⟩ rfl ?_
        refine ev_g0 rfl ?_
        refine ev_inV 1 k_MM_357 h_MM_is rfl rfl rfl rfl rfl ⟨by decide, by decide⟩ rfl ?_
        refine ev_gU [true, false] [] rfl ?_
        refine ev_retz rfl (by first | decide | exact zb_01 _) ?_
        refine ev_gU [true] [] rfl ?_
        refine ev_inS 3 k_MM_188 h_MM_in rfl rfl rfl rfl ⟨by decide, by decide⟩ rfl ?_
        refine ev_gU [true] [] rfl ?_
        refine ev_retz rfl (by first | decide | exact zb_01 _) ?_
        refine ev_gU [false] [] rfl ?_
        refine ev_inV 1 k_MM_301 h_MM_fails rfl rfl rfl rfl rfl ⟨by decide, by decide⟩ rfl ?_
        refine ev_g0 rfl ?_
        refine ev_ret rfl ?_
        refine ev_g0 rfl ?_
        refine ev_retz rfl (by first | decide | exact zb_01 _) ?_
        refine ev_gU [true] [] rfl ?_
        refine ev_ret rfl ?_
        exact ⟨rfl, xj, xd, xf, xo, xi, xn, nI 10, rfl, bdd, lf_U, lf_U, hC, hM⟩
      · skip
        refine ev_g0 rfl ?_
        refine ev_bU rfl rfl (fun h_2 => ?_) (fun h_2 => ?_)
        · skip
          refine ev_g0 rfl ?_
          refine ev_inV 1 k_IA_60 h_TH_hasItem rfl rfl rfl rfl rfl ⟨by decide, by decide⟩ rfl ?_
          refine ev_gU [false, false] [] rfl ?_
          refine ev_retz rfl (by first | decide | exact zb_01 _) ?_
          refine ev_gU [true] [] rfl ?_
          refine ev_bU rfl rfl (fun h_3 => ?_) (fun h_3 => ?_)
          · skip
            refine ev_gU [] [] rfl ?_
            refine ev_inV 2 k_IA_72 h_SD_setX rfl rfl rfl rfl rfl ⟨by decide, by decide⟩ rfl ?_
            refine ev_gU [] [] rfl ?_
            refine ev_ret rfl ?_
            refine ev_g0 rfl ?_
            refine ev_reti rfl ?_
            refine ev_g0 rfl ?_
            refine ev_reti rfl ?_
            refine ct_of h_MM_handles rfl rfl rfl ?_
            refine ev_g0 rfl ?_
            refine ev_inV 1 k_MM_344 h_MM_hold rfl rfl rfl rfl rfl ⟨by decide, by decide⟩ rfl ?_
            refine ev_gU [] [] rfl ?_
            refine ev_reti rfl ?_
            refine ev_gU [] [some 8] rfl ?_
            refine ev_inV 3 k_MM_368 h_MM_asks rfl rfl rfl rfl rfl ⟨by decide, by decide⟩ rfl ?_
            refine ev_g0 rfl ?_
            refine ev_inV 1 k_MM_357 h_MM_is rfl rfl rfl rfl rfl ⟨by decide, by decide⟩ rfl ?_
            refine ev_gU [true, false] [] rfl ?_
            refine ev_retz rfl (by first | decide | exact zb_01 _) ?_
            refine ev_gU [true] [] rfl ?_
            refine ev_inS 3 k_MM_188 h_MM_in rfl rfl rfl rfl ⟨by decide, by decide⟩ rfl ?_
            refine ev_gU [false, false] [] rfl ?_
            refine ev_retz rfl (by first | decide | exact zb_01 _) ?_
            refine ev_gU [true] [] rfl ?_
            refine ev_inV 1 k_MM_277 h_MM_number rfl rfl rfl rfl rfl ⟨by decide, by decide⟩ rfl ?_
            refine ev_gU [] [] rfl ?_
            refine ev_retl rfl ?_
            refine ev_g0 rfl ?_
            refine ev_inV 2 k_MM_360 h_MM_holdsIndex rfl rfl rfl rfl rfl ⟨by decide, by decide⟩ rfl ?_
            refine ev_gU [] [] rfl ?_
            refine ev_inS 3 k_MM_188 h_MM_in rfl rfl rfl rfl ⟨by decide, by decide⟩ rfl ?_
            refine ev_gU [false, false] [] rfl ?_
            refine ev_retz rfl (by first | decide | exact zb_01 _) ?_
            refine ev_gU [true] [] rfl ?_
            refine ev_retz rfl (by first | decide | exact zb_01 _) ?_
            refine ev_g0 rfl ?_
            refine ev_retz rfl (by first | decide | exact zb_01 _) ?_
            refine ev_gU [false] [] rfl ?_
            refine ev_inV 1 k_MM_277 h_MM_number rfl rfl rfl rfl rfl ⟨by decide, by decide⟩ rfl ?_
            refine ev_gU [] [] rfl ?_
            refine ev_retl rfl ?_
            refine ev_gU [true] [] rfl ?_
            refine ev_inV 2 k_MM_281 h_MM_twin2 rfl rfl rfl rfl rfl ⟨by decide, by decide⟩ rfl ?_
            refine ev_gU [] [] rfl ?_
            refine ev_ret rfl ?_
            refine ev_g0 rfl ?_
            refine ev_ret rfl ?_
            exact ⟨rfl, xj, (u3 xd 0 t a (xd 1 q j)), xf, xo, xi, xn, nI 0, rfl, bdd, lf_U, lf_U, (CU_dbl hC ht ha (rc_irea hC hq hj (by omega) (by omega)) lf_U lf_U), (MU_dbl hM ht ha lf_U lf_U (fun i hi => (rc_isor hC hi).2.2.1))⟩
          · skip
            refine ev_gU [] [] rfl ?_
            refine ev_inV 2 k_IA_72 h_SD_setX rfl rfl rfl rfl rfl ⟨by decide, by decide⟩ rfl ?_
            refine ev_gU [] [] rfl ?_
            refine ev_ret rfl ?_
            refine ev_g0 rfl ?_
            refine ev_reti rfl ?_
            refine ev_g0 rfl ?_
            refine ev_reti rfl ?_
            refine ct_of h_MM_handles rfl rfl rfl ?_
            refine ev_g0 rfl ?_
            refine ev_inV 1 k_MM_344 h_MM_hold rfl rfl rfl rfl rfl ⟨by decide, by decide⟩ rfl ?_
            refine ev_gU [] [] rfl ?_
            refine ev_reti rfl ?_
            refine ev_gU [] [some 8] rfl ?_
            refine ev_inV 3 k_MM_368 h_MM_asks rfl rfl rfl rfl rfl ⟨by decide, by decide⟩ rfl ?_
            refine ev_g0 rfl ?_
            refine ev_inV 1 k_MM_357 h_MM_is rfl rfl rfl rfl rfl ⟨by decide, by decide⟩ rfl ?_
            refine ev_gU [true, false] [] rfl ?_
            refine ev_retz rfl (by first | decide | exact zb_01 _) ?_
            refine ev_gU [true] [] rfl ?_
            refine ev_inS 3 k_MM_188 h_MM_in rfl rfl rfl rfl ⟨by decide, by decide⟩ rfl ?_
            refine ev_gU [false, false] [] rfl ?_
            refine ev_retz rfl (by first | decide | exact zb_01 _) ?_
            refine ev_gU [true] [] rfl ?_
            refine ev_inV 1 k_MM_277 h_MM_number rfl rfl rfl rfl rfl ⟨by decide, by decide⟩ rfl ?_
            refine ev_gU [] [] rfl ?_
            refine ev_retl rfl ?_
            refine ev_g0 rfl ?_
            refine ev_inV 2 k_MM_360 h_MM_holdsIndex rfl rfl rfl rfl rfl ⟨by decide, by decide⟩ rfl ?_
            refine ev_gU [] [] rfl ?_
            refine ev_inS 3 k_MM_188 h_MM_in rfl rfl rfl rfl ⟨by decide, by decide⟩ rfl ?_
            refine ev_gU [false, false] [] rfl ?_
            refine ev_retz rfl (by first | decide | exact zb_01 _) ?_
            refine ev_gU [true] [] rfl ?_
            refine ev_retz rfl (by first | decide | exact zb_01 _) ?_
            refine ev_g0 rfl ?_
            refine ev_retz rfl (by first | decide | exact zb_01 _) ?_
            refine ev_gU [false] [] rfl ?_
            refine ev_inV 1 k_MM_277 h_MM_number rfl rfl rfl rfl rfl ⟨by decide, by decide⟩ rfl ?_
            refine ev_gU [] [] rfl ?_
            refine ev_retl rfl ?_
            refine ev_gU [false] [] rfl ?_
            refine ev_inV 2 k_MM_281 h_MM_twin2 rfl rfl rfl rfl rfl ⟨by decide, by decide⟩ rfl ?_
            refine ev_gU [] [] rfl ?_
            refine ev_ret rfl ?_
            refine ev_g0 rfl ?_
            refine ev_ret rfl ?_
            exact ⟨rfl, xj, (u3 xd 0 t a (FP.l2d (xj 1 q j))), xf, xo, xi, xn, nI 0, rfl, bdd, lf_U, lf_U, (CU_dbl hC ht ha (l2d_n _) lf_U lf_U), (MU_dbl hM ht ha lf_U lf_U (fun i hi => (rc_isor hC hi).2.2.1))⟩
        · skip
          refine ev_g0 rfl ?_
          refine ev_reti rfl ?_
          refine ev_g0 rfl ?_
          refine ev_reti rfl ?_
          refine ct_of h_MM_handles rfl rfl rfl ?_
          refine ev_g0 rfl ?_
          refine ev_inV 1 k_MM_344 h_MM_hold rfl rfl rfl rfl rfl ⟨by decide, by decide⟩ rfl ?_
          refine ev_gU [] [] rfl ?_
          refine ev_reti rfl ?_
          refine ev_gU [] [some 8] rfl ?_
          refine ev_inV 3 k_MM_368 h_MM_asks rfl rfl rfl rfl rfl ⟨by decide, by decide⟩ rfl ?_
          refine ev_g0 rfl ?_
          refine ev_inV 1 k_MM_357 h_MM_is rfl rfl rfl rfl rfl ⟨by decide, by decide⟩ rfl ?_
          refine ev_gU [true, false] [] rfl ?_
          refine ev_retz rfl (by first | decide | exact zb_01 _) ?_
          refine ev_gU [true] [] rfl ?_
          refine ev_inS 3 k_MM_188 h_MM_in rfl rfl rfl rfl ⟨by decide, by decide⟩ rfl ?_
          refine ev_gU [false, true] [] rfl ?_
          refine ev_retz rfl (by first | decide | exact zb_01 _) ?_
          refine ev_gU [false] [] rfl ?_
          refine ev_inV 1 k_MM_301 h_MM_fails rfl rfl rfl rfl rfl ⟨by decide, by decide⟩ rfl ?_
          refine ev_g0 rfl ?_
          refine ev_ret rfl ?_
          refine ev_g0 rfl ?_
          refine ev_retz rfl (by first | decide | exact zb_01 _) ?_
          refine ev_gU [true] [] rfl ?_
          refine ev_ret rfl ?_
          exact ⟨rfl, xj, xd, xf, xo, xi, xn, nI 10, rfl, bdd, lf_U, lf_U, hC, hM⟩
    · skip
      refine ct_of h_IA_perform rfl rfl rfl ?_
      refine ev_g0 rfl ?_
      refine ev_inV 1 k_IA_9 h_SD_t rfl rfl rfl rfl rfl ⟨by decide, by decide⟩ rfl ?_
      refine ev_gU [] [some (94 + 4 * q)] rfl ?_
      refine ev_reta rfl ?_
      refine ev_gU [true, true, true, true, true, true, false] [] rfl ?_
      refine ev_inV 1 k_IA_17 h_SD_n rfl rfl rfl rfl rfl ⟨by decide, by decide⟩ rfl ?_
      refine ev_gU [] [] rfl ?_
      refine ev_retl rfl ?_
      refine ev_g0 rfl ?_
      refine ev_inS 4 k_IA_47 h_IA_getDouble rfl rfl rfl rfl ⟨by decide, by decide⟩ rfl ?_
      refine ev_g0 rfl ?_
      refine ev_bU rfl rfl (fun h_4 => ?_) (fun h_4 => ?_)
      · skip
        refine ev_g0 rfl ?_
        refine ev_reti rfl ?_
        refine ev_g0 rfl ?_
        refine ev_reti rfl ?_
        refine ct_of h_MM_handles rfl rfl rfl ?_
        refine ev_g0 rfl ?_
        refine ev_inV 1 k_MM_344 h_MM_hold rfl rfl rfl rfl rfl ⟨by decide, by decide⟩ rfl ?_
        refine ev_gU [] [] rfl ?_
        refine ev_reti rfl ?_
        refine ev_gU [] [some 8] rfl ?_
        refine ev_inV 3 k_MM_368 h_MM_asks rfl rfl rfl rfl rfl ⟨by decide, by decide⟩ rfl ?_
        refine ev_g0 rfl ?_
        refine ev_inV 1 k_MM_357 h_MM_is rfl rfl rfl rfl rfl ⟨by decide, by decide⟩ rfl ?_
        refine ev_gU [true, false] [] rfl ?_
        refine ev_retz rfl (by first | decide | exact zb_01 _) ?_
        refine ev_gU [true] [] rfl ?_
        refine ev_inS 3 k_MM_188 h_MM_in rfl rfl rfl rfl ⟨by decide, by decide⟩ rfl ?_
        refine ev_gU [true] [] rfl ?_
        refine ev_retz rfl (by first | decide | exact zb_01 _) ?_
        refine ev_gU [false] [] rfl ?_
        refine ev_inV 1 k_MM_301 h_MM_fails rfl rfl rfl rfl rfl ⟨by decide, by decide⟩ rfl ?_
        refine ev_g0 rfl ?_
        refine ev_ret rfl ?_
        refine ev_g0 rfl ?_
        refine ev_retz rfl (by first | decide | exact zb_01 _) ?_
        refine ev_gU [true] [] rfl ?_
        refine ev_ret rfl ?_
        exact ⟨rfl, xj, xd, xf, xo, xi, xn, nI 10, rfl, bdd, lf_U, lf_U, hC, hM⟩
      · skip
        refine ev_g0 rfl ?_
        refine ev_bU rfl rfl (fun h_5 => ?_) (fun h_5 => ?_)
        · skip
          refine ev_g0 rfl ?_
          refine ev_inV 1 k_IA_60 h_TH_hasItem rfl rfl rfl rfl rfl ⟨by decide, by decide⟩ rfl ?_
          refine ev_g0 rfl ?_
          refine ev_bU rfl rfl (fun h_6 => ?_) (fun h_6 => ?_)
          · skip
            refine ev_g0 rfl ?_
            refine ev_retz rfl (by first | decide | exact zb_01 _) ?_
            refine ev_gU [false] [] rfl ?_
            refine ev_reti rfl ?_
            refine ev_g0 rfl ?_
            refine ev_reti rfl ?_
            refine ct_of h_MM_handles rfl rfl rfl ?_
            refine ev_g0 rfl ?_
            refine ev_inV 1 k_MM_344 h_MM_hold rfl rfl rfl rfl rfl ⟨by decide, by decide⟩ rfl ?_
            refine ev_gU [] [] rfl ?_
            refine ev_reti rfl ?_
            refine ev_gU [] [some 8] rfl ?_
            refine ev_inV 3 k_MM_368 h_MM_asks rfl rfl rfl rfl rfl ⟨by decide, by decide⟩ rfl ?_
            refine ev_g0 rfl ?_
            refine ev_inV 1 k_MM_357 h_MM_is rfl rfl rfl rfl rfl ⟨by decide, by decide⟩ rfl ?_
            refine ev_gU [true, false] [] rfl ?_
            refine ev_retz rfl (by first | decide | exact zb_01 _) ?_
            refine ev_gU [true] [] rfl ?_
            refine ev_inS 3 k_MM_188 h_MM_in rfl rfl rfl rfl ⟨by decide, by decide⟩ rfl ?_
            refine ev_gU [false, false] [] rfl ?_
            refine ev_retz rfl (by first | decide | exact zb_01 _) ?_
            refine ev_gU [true] [] rfl ?_
            refine ev_inV 1 k_MM_277 h_MM_number rfl rfl rfl rfl rfl ⟨by decide, by decide⟩ rfl ?_
            refine ev_gU [] [] rfl ?_
            refine ev_retl rfl ?_
            refine ev_g0 rfl ?_
            refine ev_inV 2 k_MM_360 h_MM_holdsIndex rfl rfl rfl rfl rfl ⟨by decide, by decide⟩ rfl ?_
            refine ev_gU [] [] rfl ?_
            refine ev_inS 3 k_MM_188 h_MM_in rfl rfl rfl rfl ⟨by decide, by decide⟩ rfl ?_
            refine ev_gU [true] [] rfl ?_
            refine ev_retz rfl (by first | decide | exact zb_01 _) ?_
            refine ev_gU [false] [] rfl ?_
            refine ev_retz rfl (by first | decide | exact zb_01 _) ?_
            refine ev_g0 rfl ?_
            refine ev_retz rfl (by first | decide | exact zb_01 _) ?_
            refine ev_gU [true] [] rfl ?_
            refine ev_ret rfl ?_
            exact ⟨rfl, xj, xd, xf, xo, xi, xn, nI 2, rfl, bdd, lf_U, lf_U, hC, hM⟩
          · skip
            refine ev_gU [true] [] rfl ?_
            refine ev_retz rfl (by first | decide | exact zb_01 _) ?_
            refine ev_gU [false] [] rfl ?_
            refine ev_reti rfl ?_
            refine ev_g0 rfl ?_
            refine ev_reti rfl ?_
            refine ct_of h_MM_handles rfl rfl rfl ?_
            refine ev_g0 rfl ?_
            refine ev_inV 1 k_MM_344 h_MM_hold rfl rfl rfl rfl rfl ⟨by decide, by decide⟩ rfl ?_
            refine ev_gU [] [] rfl ?_
            refine ev_reti rfl ?_
            refine ev_gU [] [some 8] rfl ?_
            refine ev_inV 3 k_MM_368 h_MM_asks rfl rfl rfl rfl rfl ⟨by decide, by decide⟩ rfl ?_
            refine ev_g0 rfl ?_
            refine ev_inV 1 k_MM_357 h_MM_is rfl rfl rfl rfl rfl ⟨by decide, by decide⟩ rfl ?_
            refine ev_gU [true, false] [] rfl ?_
            refine ev_retz rfl (by first | decide | exact zb_01 _) ?_
            refine ev_gU [true] [] rfl ?_
            refine ev_inS 3 k_MM_188 h_MM_in rfl rfl rfl rfl ⟨by decide, by decide⟩ rfl ?_
            refine ev_gU [false, false] [] rfl ?_
            refine ev_retz rfl (by first | decide | exact zb_01 _) ?_
            refine ev_gU [true] [] rfl ?_
            refine ev_inV 1 k_MM_277 h_MM_number rfl rfl rfl rfl rfl ⟨by decide, by decide⟩ rfl ?_
            refine ev_gU [] [] rfl ?_
            refine ev_retl rfl ?_
            refine ev_g0 rfl ?_
            refine ev_inV 2 k_MM_360 h_MM_holdsIndex rfl rfl rfl rfl rfl ⟨by decide, by decide⟩ rfl ?_
            refine ev_gU [] [] rfl ?_
            refine ev_inS 3 k_MM_188 h_MM_in rfl rfl rfl rfl ⟨by decide, by decide⟩ rfl ?_
            refine ev_gU [false, true] [] rfl ?_
            refine ev_retz rfl (by first | decide | exact zb_01 _) ?_
            refine ev_gU [false] [] rfl ?_
            refine ev_retz rfl (by first | decide | exact zb_01 _) ?_
            refine ev_g0 rfl ?_
            refine ev_retz rfl (by first | decide | exact zb_01 _) ?_
            refine ev_gU [true] [] rfl ?_
            refine ev_ret rfl ?_
            exact ⟨rfl, xj, xd, xf, xo, xi, xn, nI 2, rfl, bdd, lf_U, lf_U, hC, hM⟩
        · skip
          refine ev_g0 rfl ?_
          refine ev_reti rfl ?_
          refine ev_g0 rfl ?_
          refine ev_reti rfl ?_
          refine ct_of h_MM_handles rfl rfl rfl ?_
          refine ev_g0 rfl ?_
          refine ev_inV 1 k_MM_344 h_MM_hold rfl rfl rfl rfl rfl ⟨by decide, by decide⟩ rfl ?_
          refine ev_gU [] [] rfl ?_
          refine ev_reti rfl ?_
          refine ev_gU [] [some 8] rfl ?_
          refine ev_inV 3 k_MM_368 h_MM_asks rfl rfl rfl rfl rfl ⟨by decide, by decide⟩ rfl ?_
          refine ev_g0 rfl ?_
          refine ev_inV 1 k_MM_357 h_MM_is rfl rfl rfl rfl rfl ⟨by decide, by decide⟩ rfl ?_
          refine ev_gU [true, false] [] rfl ?_
          refine ev_retz rfl (by first | decide | exact zb_01 _) ?_
          refine ev_gU [true] [] rfl ?_
          refine ev_inS 3 k_MM_188 h_MM_in rfl rfl rfl rfl ⟨by decide, by decide⟩ rfl ?_
          refine ev_gU [false, true] [] rfl ?_
          refine ev_retz rfl (by first | decide | exact zb_01 _) ?_
          refine ev_gU [false] [] rfl ?_
          refine ev_inV 1 k_MM_301 h_MM_fails rfl rfl rfl rfl rfl ⟨by decide, by decide⟩ rfl ?_
          refine ev_g0 rfl ?_
          refine ev_ret rfl ?_
          refine ev_g0 rfl ?_
          refine ev_retz rfl (by first | decide | exact zb_01 _) ?_
          refine ev_gU [true] [] rfl ?_
          refine ev_ret rfl ?_
          exact ⟨rfl, xj, xd, xf, xo, xi, xn, nI 10, rfl, bdd, lf_U, lf_U, hC, hM⟩
theorem A12 {ci : Nat → Nat → Nat → Int32} {cn : Nat → Nat → Nat → Nat} {co : Nat → Option Nat} {xj : Nat → Nat → Nat → Int64} {xd : Nat → Nat → Nat → UInt64} {xf : Nat → Nat → Nat → UInt32} {xo : Nat → Nat → Nat → Option Nat} {xi : Nat → Nat → Nat → Int32} {xn : Nat → Nat → Nat → Nat} {K : Nat → Nat} {I : Nat → Nat → Int32} {J : Nat → Nat → Int64} {F : Nat → Nat → UInt32} {D : Nat → Nat → UInt64} {R : Nat → Nat → Option Nat} {nx sl : Nat} {Km : Nat → Nat} {Im : Nat → Nat → Int32} {Jm : Nat → Nat → Int64} {Fm : Nat → Nat → UInt32} {Dm : Nat → Nat → UInt64} {Rm : Nat → Nat → Option Nat} {nxm slm : Nat} (hC : RC ci cn co xj xd xf xo xi xn I J F D R nx sl) (hM : RM ci cn co xj xd xf xo xi xn Im Jm Dm) {t a : Nat} {b : Int32} {c : Nat} {go : Int32} (ht : t < 3) (ha : a < 8) (hc : c < 8) (x1 : Im 6 39 = nI t) (x2 : Im 6 40 = nI a) (x3 : Im 6 41 = b) (x4 : Im 6 42 = nI c) (x5 : Im 6 43 = nI 0) (x6 : Im 6 44 = go) : Ct Y_HA_perform [vr 1 55, vr 8 (32 + 7 * t), vi (nI 12), vi (nI a), vi b, vi (nI c)] (K, I, J, F, D, R, nx, sl) (fun r μ1 => Ct Y_MM_makes [vr 11 6, vi (nI 12)] (Km, Im, Jm, Fm, Dm, Rm, nxm, slm) (fun r2 μ2 => r2 = none ∧ QA ci cn co go r μ1 μ2)) := by
  rcases ho : xo 0 t c with _ | q
  · skip
    refine ct_of h_HA_perform rfl rfl rfl ?_
    refine ev_gU [] [some 0] rfl ?_
    refine ev_inV 1 k_HA_15 h_SD_t rfl rfl rfl rfl rfl ⟨by decide, by decide⟩ rfl ?_
    refine ev_gU [] [none] rfl ?_
    refine ev_retn rfl ?_
    refine ev_g0 rfl ?_
    refine ev_inV 2 k_HA_21 h_SD_setT rfl rfl rfl rfl rfl ⟨by decide, by decide⟩ rfl ?_
    refine ev_gU [] [] rfl ?_
    refine ev_ret rfl ?_
    refine ev_g0 rfl ?_
    refine ev_reti rfl ?_
    refine ct_of h_MM_makes rfl rfl rfl ?_
    refine ev_gU [] [some 0] rfl ?_
    refine ev_inV 1 k_MM_344 h_MM_hold rfl rfl rfl rfl rfl ⟨by decide, by decide⟩ rfl ?_
    refine ev_gU [] [] rfl ?_
    refine ev_reti rfl ?_
    refine ev_g0 rfl ?_
    refine ev_inV 2 k_MM_336 h_MM_keep rfl rfl rfl rfl rfl ⟨by decide, by decide⟩ rfl ?_
    refine ev_gU [] [] rfl ?_
    refine ev_ret rfl ?_
    refine ev_g0 rfl ?_
    refine ev_ret rfl ?_
    exact ⟨rfl, xj, xd, xf, (u3 xo 0 t a (none)), xi, xn, nI 0, rfl, bdd, lf_U, lf_U, (CU_hol hC ht ha (fun _ h => by cases h) lf_U lf_U), (MU_hol hM ht ha lf_U lf_U (fun i hi => (rc_isor hC hi).2.2.1))⟩
  · skip
    have hq := rc_ihol hC ht hc _ ho
    have zq := rc_isor hC hq
    have yq := rc_imad hC
    refine ct_of h_HA_perform rfl rfl rfl ?_
    refine ev_gU [] [some 0] rfl ?_
    refine ev_inV 1 k_HA_15 h_SD_t rfl rfl rfl rfl rfl ⟨by decide, by decide⟩ rfl ?_
    refine ev_gU [] [some (94 + 4 * q)] rfl ?_
    refine ev_reta rfl ?_
    refine ev_g0 rfl ?_
    refine ev_inV 2 k_HA_21 h_SD_setT rfl rfl rfl rfl rfl ⟨by decide, by decide⟩ rfl ?_
    refine ev_gU [] [] rfl ?_
    refine ev_ret rfl ?_
    refine ev_g0 rfl ?_
    refine ev_reti rfl ?_
    refine ct_of h_MM_makes rfl rfl rfl ?_
    refine ev_gU [] [some 0] rfl ?_
    refine ev_inV 1 k_MM_344 h_MM_hold rfl rfl rfl rfl rfl ⟨by decide, by decide⟩ rfl ?_
    refine ev_gU [] [] rfl ?_
    refine ev_reti rfl ?_
    refine ev_g0 rfl ?_
    refine ev_inV 2 k_MM_336 h_MM_keep rfl rfl rfl rfl rfl ⟨by decide, by decide⟩ rfl ?_
    refine ev_gU [] [] rfl ?_
    refine ev_ret rfl ?_
    refine ev_g0 rfl ?_
    refine ev_ret rfl ?_
    exact ⟨rfl, xj, xd, xf, (u3 xo 0 t a (some q)), xi, xn, nI 0, rfl, bdd, lf_U, lf_U, (CU_hol hC ht ha (fun _ h => by cases h; exact hq) lf_U lf_U), (MU_hol hM ht ha lf_U lf_U (fun i hi => (rc_isor hC hi).2.2.1))⟩
theorem A13 {ci : Nat → Nat → Nat → Int32} {cn : Nat → Nat → Nat → Nat} {co : Nat → Option Nat} {xj : Nat → Nat → Nat → Int64} {xd : Nat → Nat → Nat → UInt64} {xf : Nat → Nat → Nat → UInt32} {xo : Nat → Nat → Nat → Option Nat} {xi : Nat → Nat → Nat → Int32} {xn : Nat → Nat → Nat → Nat} {K : Nat → Nat} {I : Nat → Nat → Int32} {J : Nat → Nat → Int64} {F : Nat → Nat → UInt32} {D : Nat → Nat → UInt64} {R : Nat → Nat → Option Nat} {nx sl : Nat} {Km : Nat → Nat} {Im : Nat → Nat → Int32} {Jm : Nat → Nat → Int64} {Fm : Nat → Nat → UInt32} {Dm : Nat → Nat → UInt64} {Rm : Nat → Nat → Option Nat} {nxm slm : Nat} (hC : RC ci cn co xj xd xf xo xi xn I J F D R nx sl) (hM : RM ci cn co xj xd xf xo xi xn Im Jm Dm) {t a : Nat} {b : Int32} {c : Int32} {go : Int32} (ht : t < 3) (ha : a < 8) (x1 : Im 6 39 = nI t) (x2 : Im 6 40 = nI a) (x3 : Im 6 41 = b) (x4 : Im 6 42 = c) (x5 : Im 6 43 = nI 0) (x6 : Im 6 44 = go) : Ct Y_HA_perform [vr 1 55, vr 8 (32 + 7 * t), vi (nI 13), vi (nI a), vi b, vi c] (K, I, J, F, D, R, nx, sl) (fun r μ1 => Ct Y_MM_makes [vr 11 6, vi (nI 13)] (Km, Im, Jm, Fm, Dm, Rm, nxm, slm) (fun r2 μ2 => r2 = none ∧ QA ci cn co go r μ1 μ2)) := by
  refine ct_of h_HA_perform rfl rfl rfl ?_
  refine ev_gU [] [some 1] rfl ?_
  refine ev_inV 2 k_HA_21 h_SD_setT rfl rfl rfl rfl rfl ⟨by decide, by decide⟩ rfl ?_
  refine ev_gU [] [] rfl ?_
  refine ev_ret rfl ?_
  refine ev_g0 rfl ?_
  refine ev_reti rfl ?_
  refine ct_of h_MM_makes rfl rfl rfl ?_
  refine ev_gU [] [some 1] rfl ?_
  refine ev_inV 2 k_MM_336 h_MM_keep rfl rfl rfl rfl rfl ⟨by decide, by decide⟩ rfl ?_
  refine ev_gU [] [] rfl ?_
  refine ev_ret rfl ?_
  refine ev_g0 rfl ?_
  refine ev_ret rfl ?_
  exact ⟨rfl, xj, xd, xf, (u3 xo 0 t a (none)), xi, xn, nI 0, rfl, bdd, lf_U, lf_U, (CU_hol hC ht ha (fun _ h => by cases h) lf_U lf_U), (MU_hol hM ht ha lf_U lf_U (fun i hi => (rc_isor hC hi).2.2.1))⟩
theorem A50 {ci : Nat → Nat → Nat → Int32} {cn : Nat → Nat → Nat → Nat} {co : Nat → Option Nat} {xj : Nat → Nat → Nat → Int64} {xd : Nat → Nat → Nat → UInt64} {xf : Nat → Nat → Nat → UInt32} {xo : Nat → Nat → Nat → Option Nat} {xi : Nat → Nat → Nat → Int32} {xn : Nat → Nat → Nat → Nat} {K : Nat → Nat} {I : Nat → Nat → Int32} {J : Nat → Nat → Int64} {F : Nat → Nat → UInt32} {D : Nat → Nat → UInt64} {R : Nat → Nat → Option Nat} {nx sl : Nat} {Km : Nat → Nat} {Im : Nat → Nat → Int32} {Jm : Nat → Nat → Int64} {Fm : Nat → Nat → UInt32} {Dm : Nat → Nat → UInt64} {Rm : Nat → Nat → Option Nat} {nxm slm : Nat} (hC : RC ci cn co xj xd xf xo xi xn I J F D R nx sl) (hM : RM ci cn co xj xd xf xo xi xn Im Jm Dm) {t a b c : Nat} {go : Int32} (ht : t < 3) (ha : a < 8) (hb : b < 8) (hc : c < 8) (x1 : Im 6 39 = nI t) (x2 : Im 6 40 = nI a) (x3 : Im 6 41 = nI b) (x4 : Im 6 42 = nI c) (x5 : Im 6 43 = nI 0) (x6 : Im 6 44 = go) : Ct Y_HA_perform [vr 1 55, vr 8 (32 + 7 * t), vi (nI 50), vi (nI a), vi (nI b), vi (nI c)] (K, I, J, F, D, R, nx, sl) (fun r μ1 => Ct Y_MM_handles [vr 11 6, vi (nI 50)] (Km, Im, Jm, Fm, Dm, Rm, nxm, slm) (fun r2 μ2 => r2 = none ∧ QA ci cn co go r μ1 μ2)) := by
  rcases ho : xo 0 t b with _ | q
  · skip
    rcases hou : xo 0 t c with _ | u
    · skip
      refine ct_of h_HA_perform rfl rfl rfl ?_
      refine ev_gU [] [none] rfl ?_
      refine ev_inV 1 k_HA_15 h_SD_t rfl rfl rfl rfl rfl ⟨by decide, by decide⟩ rfl ?_
      refine ev_gU [] [none] rfl ?_
      refine ev_retn rfl ?_
      refine ev_g0 rfl ?_
      refine ev_inV 1 k_HA_15 h_SD_t rfl rfl rfl rfl rfl ⟨by decide, by decide⟩ rfl ?_
      refine ev_gU [] [none] rfl ?_
      refine ev_retn rfl ?_
      refine ev_g0 rfl ?_
      refine ev_inV 2 k_HA_53 h_SD_setN rfl rfl rfl rfl rfl ⟨by decide, by decide⟩ rfl ?_
      refine ev_gU [] [] rfl ?_
      refine ev_ret rfl ?_
      refine ev_g0 rfl ?_
      refine ev_reti rfl ?_
      refine ct_of h_MM_handles rfl rfl rfl ?_
      refine ev_g0 rfl ?_
      refine ev_inV 1 k_MM_344 h_MM_hold rfl rfl rfl rfl rfl ⟨by decide, by decide⟩ rfl ?_
      refine ev_gU [] [] rfl ?_
      refine ev_reti rfl ?_
      refine ev_gU [] [none] rfl ?_
      refine ev_inV 1 k_MM_344 h_MM_hold rfl rfl rfl rfl rfl ⟨by decide, by decide⟩ rfl ?_
      refine ev_gU [] [] rfl ?_
      refine ev_reti rfl ?_
      refine ev_gU [false] [] rfl ?_
      refine ev_inV 2 k_MM_288 h_MM_lay rfl rfl rfl rfl rfl ⟨by decide, by decide⟩ rfl ?_
      refine ev_gU [] [] rfl ?_
      refine ev_ret rfl ?_
      refine ev_g0 rfl ?_
      refine ev_ret rfl ?_
      exact ⟨rfl, (u3 xj 0 t a ((nI 1).toInt64)), xd, xf, xo, xi, xn, nI 0, rfl, bdd, lf_U, lf_U, (CU_num hC ht ha lf_U lf_U), (MU_num hM ht ha lf_U lf_U (fun i hi => (rc_isor hC hi).2.2.1))⟩
    · skip
      have hu := rc_ihol hC ht hc _ hou
      have zu := rc_isor hC hu
      have yu := rc_imad hC
      refine ct_of h_HA_perform rfl rfl rfl ?_
      refine ev_gU [] [none] rfl ?_
      refine ev_inV 1 k_HA_15 h_SD_t rfl rfl rfl rfl rfl ⟨by decide, by decide⟩ rfl ?_
      refine ev_gU [] [none] rfl ?_
      refine ev_retn rfl ?_
      refine ev_g0 rfl ?_
      refine ev_inV 1 k_HA_15 h_SD_t rfl rfl rfl rfl rfl ⟨by decide, by decide⟩ rfl ?_
      refine ev_gU [] [some (94 + 4 * u)] rfl ?_
      refine ev_reta rfl ?_
      refine ev_g0 rfl ?_
      refine ev_inV 2 k_HA_53 h_SD_setN rfl rfl rfl rfl rfl ⟨by decide, by decide⟩ rfl ?_
      refine ev_gU [] [] rfl ?_
      refine ev_ret rfl ?_
      refine ev_g0 rfl ?_
      refine ev_reti rfl ?_
      refine ct_of h_MM_handles rfl rfl rfl ?_
      refine ev_g0 rfl ?_
      refine ev_inV 1 k_MM_344 h_MM_hold rfl rfl rfl rfl rfl ⟨by decide, by decide⟩ rfl ?_
      refine ev_gU [] [] rfl ?_
      refine ev_reti rfl ?_
      refine ev_gU [] [none] rfl ?_
      refine ev_inV 1 k_MM_344 h_MM_hold rfl rfl rfl rfl rfl ⟨by decide, by decide⟩ rfl ?_
      refine ev_gU [] [] rfl ?_
      refine ev_reti rfl ?_
      refine ev_gU [true] [] rfl ?_
      refine ev_inV 2 k_MM_288 h_MM_lay rfl rfl rfl rfl rfl ⟨by decide, by decide⟩ rfl ?_
      refine ev_gU [] [] rfl ?_
      refine ev_ret rfl ?_
      refine ev_g0 rfl ?_
      refine ev_ret rfl ?_
      exact ⟨rfl, (u3 xj 0 t a ((nI 0).toInt64)), xd, xf, xo, xi, xn, nI 0, rfl, bdd, lf_U, lf_U, (CU_num hC ht ha lf_U lf_U), (MU_num hM ht ha lf_U lf_U (fun i hi => (rc_isor hC hi).2.2.1))⟩
  · skip
    have hq := rc_ihol hC ht hb _ ho
    have zq := rc_isor hC hq
    have yq := rc_imad hC
    rcases hou : xo 0 t c with _ | u
    · skip
      refine ct_of h_HA_perform rfl rfl rfl ?_
      refine ev_gU [] [none] rfl ?_
      refine ev_inV 1 k_HA_15 h_SD_t rfl rfl rfl rfl rfl ⟨by decide, by decide⟩ rfl ?_
      refine ev_gU [] [some (94 + 4 * q)] rfl ?_
      refine ev_reta rfl ?_
      refine ev_g0 rfl ?_
      refine ev_inV 1 k_HA_15 h_SD_t rfl rfl rfl rfl rfl ⟨by decide, by decide⟩ rfl ?_
      refine ev_gU [] [none] rfl ?_
      refine ev_retn rfl ?_
      refine ev_g0 rfl ?_
      refine ev_inV 2 k_HA_53 h_SD_setN rfl rfl rfl rfl rfl ⟨by decide, by decide⟩ rfl ?_
      refine ev_gU [] [] rfl ?_
      refine ev_ret rfl ?_
      refine ev_g0 rfl ?_
      refine ev_reti rfl ?_
      refine ct_of h_MM_handles rfl rfl rfl ?_
      refine ev_g0 rfl ?_
      refine ev_inV 1 k_MM_344 h_MM_hold rfl rfl rfl rfl rfl ⟨by decide, by decide⟩ rfl ?_
      refine ev_gU [] [] rfl ?_
      refine ev_reti rfl ?_
      refine ev_gU [] [none] rfl ?_
      refine ev_inV 1 k_MM_344 h_MM_hold rfl rfl rfl rfl rfl ⟨by decide, by decide⟩ rfl ?_
      refine ev_gU [] [] rfl ?_
      refine ev_reti rfl ?_
      refine ev_gU [true] [] rfl ?_
      refine ev_inV 2 k_MM_288 h_MM_lay rfl rfl rfl rfl rfl ⟨by decide, by decide⟩ rfl ?_
      refine ev_gU [] [] rfl ?_
      refine ev_ret rfl ?_
      refine ev_g0 rfl ?_
      refine ev_ret rfl ?_
      exact ⟨rfl, (u3 xj 0 t a ((nI 0).toInt64)), xd, xf, xo, xi, xn, nI 0, rfl, bdd, lf_U, lf_U, (CU_num hC ht ha lf_U lf_U), (MU_num hM ht ha lf_U lf_U (fun i hi => (rc_isor hC hi).2.2.1))⟩
    · skip
      have hu := rc_ihol hC ht hc _ hou
      have zu := rc_isor hC hu
      have yu := rc_imad hC
      refine ct_of h_HA_perform rfl rfl rfl ?_
      refine ev_gU [] [none] rfl ?_
      refine ev_inV 1 k_HA_15 h_SD_t rfl rfl rfl rfl rfl ⟨by decide, by decide⟩ rfl ?_
      refine ev_gU [] [some (94 + 4 * q)] rfl ?_
      refine ev_reta rfl ?_
      refine ev_g0 rfl ?_
      refine ev_inV 1 k_HA_15 h_SD_t rfl rfl rfl rfl rfl ⟨by decide, by decide⟩ rfl ?_
      refine ev_gU [] [some (94 + 4 * u)] rfl ?_
      refine ev_reta rfl ?_
      refine ev_g0 rfl ?_
      refine ev_bU rfl rfl (fun h_1 => ?_) (fun h_1 => ?_)
      · skip
        refine ev_g0 rfl ?_
        refine ev_inV 2 k_HA_53 h_SD_setN rfl rfl rfl rfl rfl ⟨by decide, by decide⟩ rfl ?_
        refine ev_gU [] [] rfl ?_
        refine ev_ret rfl ?_
        refine ev_g0 rfl ?_
        refine ev_reti rfl ?_
        refine ct_of h_MM_handles rfl rfl rfl ?_
        refine ev_g0 rfl ?_
        refine ev_inV 1 k_MM_344 h_MM_hold rfl rfl rfl rfl rfl ⟨by decide, by decide⟩ rfl ?_
        refine ev_gU [] [] rfl ?_
        refine ev_reti rfl ?_
        refine ev_gU [] [none] rfl ?_
        refine ev_inV 1 k_MM_344 h_MM_hold rfl rfl rfl rfl rfl ⟨by decide, by decide⟩ rfl ?_
        refine ev_gU [] [] rfl ?_
        refine ev_reti rfl ?_
        refine ev_gU [true] [] rfl ?_
        refine ev_inV 2 k_MM_288 h_MM_lay rfl rfl rfl rfl rfl ⟨by decide, by decide⟩ rfl ?_
        refine ev_gU [] [] rfl ?_
        refine ev_ret rfl ?_
        refine ev_g0 rfl ?_
        refine ev_ret rfl ?_
        exact ⟨rfl, (u3 xj 0 t a ((nI 0).toInt64)), xd, xf, xo, xi, xn, nI 0, rfl, bdd, lf_U, lf_U, (CU_num hC ht ha lf_U lf_U), (MU_num hM ht ha lf_U lf_U (fun i hi => (rc_isor hC hi).2.2.1))⟩
      · skip
        refine ev_g0 rfl ?_
        refine ev_inV 2 k_HA_53 h_SD_setN rfl rfl rfl rfl rfl ⟨by decide, by decide⟩ rfl ?_
        refine ev_gU [] [] rfl ?_
        refine ev_ret rfl ?_
        refine ev_g0 rfl ?_
        refine ev_reti rfl ?_
        refine ct_of h_MM_handles rfl rfl rfl ?_
        refine ev_g0 rfl ?_
        refine ev_inV 1 k_MM_344 h_MM_hold rfl rfl rfl rfl rfl ⟨by decide, by decide⟩ rfl ?_
        refine ev_gU [] [] rfl ?_
        refine ev_reti rfl ?_
        refine ev_gU [] [none] rfl ?_
        refine ev_inV 1 k_MM_344 h_MM_hold rfl rfl rfl rfl rfl ⟨by decide, by decide⟩ rfl ?_
        refine ev_gU [] [] rfl ?_
        refine ev_reti rfl ?_
        refine ev_gU [false] [] rfl ?_
        refine ev_inV 2 k_MM_288 h_MM_lay rfl rfl rfl rfl rfl ⟨by decide, by decide⟩ rfl ?_
        refine ev_gU [] [] rfl ?_
        refine ev_ret rfl ?_
        refine ev_g0 rfl ?_
        refine ev_ret rfl ?_
        exact ⟨rfl, (u3 xj 0 t a ((nI 1).toInt64)), xd, xf, xo, xi, xn, nI 0, rfl, bdd, lf_U, lf_U, (CU_num hC ht ha lf_U lf_U), (MU_num hM ht ha lf_U lf_U (fun i hi => (rc_isor hC hi).2.2.1))⟩
