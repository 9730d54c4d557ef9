theorem zb_t0 {b : Bool} : (zb b).toInt = 0 ↔ b = false := by cases b <;> decide
theorem ev_gT0 {Y : mm_Y} {μ0 : mm_M} {rem : List mm_E} {L : mm_L} {st : List mm_V} {μ : mm_M} {Post : Option mm_V → mm_M → Prop} (bs : List Bool) (os : List (Option Nat)) {e2 : mm_E} {rem2 : List mm_E} {L2 : mm_L} {st2 : List mm_V} {μ2 : mm_M} {P2 : Prop} (h : mm_go 5000 (mm_co Y) rem L st μ bs os True = some (e2 :: rem2, L2, st2, μ2, P2)) (k : Ev Y μ0 (e2 :: rem2) L2 st2 μ2 Post) (hp : P2 := by (repeat' apply And.intro) <;> first | exact trivial | assumption | rfl | decide | omega | (simp (disch := first | assumption | omega | decide) only [i_add, i_mul, n_cl, nI_and7, nI_and3, v_in, i_eq, i_lt, i_le, i_eq0, i_lt0, i_ge0, i_gt0, i_le0, lg_cmp_eq, lg_cmp_ge, lg_cmp_gt, lg_cmp_le, lg_cmp_lt, zb_e0, zb_n0, Classical.not_not, up_ne, Nat.zero_add, Nat.add_zero, rc_num hC, rc_hol hC, rc_who hC, rc_nn hC, rc_dbl hC, rc_flt hC, rc_rea hC, rc_xx hC, rc_ff hC, rc_par hC, rc_nxt hC, rc_lin hC, rc_thg hC, rc_prg hC, rc_str hC, rc_pix hC, rc_six hC, rc_own hC, rc_tim hC, rc_mad hC, rc_psz hC, rc_phn hC, rc_pop hC, rc_paa hC, rc_pbb hC, rc_pcc hC, rc_hfr hC, rc_hto hC, rc_hfl hC, rc_hpl hC, rc_dep hC, rc_pla hC, rc_don hC, rc_fai hC, rc_fno hC, rc_lat hC, rc_lpr hC, rc_lpl hC, rc_wan hC, rc_cal hC, cl_ne, tR_s, tR_n, eI_s, eI_n, e_nm, e_mm, lN_i, l_lt, l_le, l_eq, l_z, lN_t, nI_tl, n_s1, i_sub, eLi, eL_s, eL_n, up_eq, mkz, i_l1, i_l2, i_l3, n_ti, i_tl2, e_mn, Nat.add_sub_cancel, mx0, s11, sa1, if1, ite_self, *] <;> first | assumption | omega | decide)) : Ev Y μ0 rem L st μ Post := ev_go bs os h hp k
theorem ev_bT0 {Y : mm_Y} {μ0 : mm_M} {rem : List mm_E} {L : mm_L} {st : List mm_V} {μ : mm_M} {Post : Option mm_V → mm_M → Prop} {e2 e3 : mm_E} {rem2 rem3 : List mm_E} {L2 L3 : mm_L} {st2 st3 : List mm_V} {μ2 μ3 : mm_M} {c c2 d d2 : Prop} (hT : mm_go 1 (mm_co Y) rem L st μ [true] [] True = some (e2 :: rem2, L2, st2, μ2, True ∧ c)) (hF : mm_go 1 (mm_co Y) rem L st μ [false] [] True = some (e3 :: rem3, L3, st3, μ3, True ∧ c2)) (kt : d → Ev Y μ0 (e2 :: rem2) L2 st2 μ2 Post) (kf : d2 → Ev Y μ0 (e3 :: rem3) L3 st3 μ3 Post) (hc : ¬ c → c2 := by first | exact id | exact Classical.not_not.mp) (g1 : c → d := by intro hh; (try simp (disch := first | assumption | omega | decide) only [i_add, i_mul, n_cl, nI_and7, nI_and3, v_in, i_eq, i_lt, i_le, i_eq0, i_lt0, i_ge0, i_gt0, i_le0, lg_cmp_eq, lg_cmp_ge, lg_cmp_gt, lg_cmp_le, lg_cmp_lt, zb_e0, zb_n0, Classical.not_not, up_ne, Nat.zero_add, Nat.add_zero, rc_num hC, rc_hol hC, rc_who hC, rc_nn hC, rc_dbl hC, rc_flt hC, rc_rea hC, rc_xx hC, rc_ff hC, rc_par hC, rc_nxt hC, rc_lin hC, rc_thg hC, rc_prg hC, rc_str hC, rc_pix hC, rc_six hC, rc_own hC, rc_tim hC, rc_mad hC, rc_psz hC, rc_phn hC, rc_pop hC, rc_paa hC, rc_pbb hC, rc_pcc hC, rc_hfr hC, rc_hto hC, rc_hfl hC, rc_hpl hC, rc_dep hC, rc_pla hC, rc_don hC, rc_fai hC, rc_fno hC, rc_lat hC, rc_lpr hC, rc_lpl hC, rc_wan hC, rc_cal hC, cl_ne, tR_s, tR_n, eI_s, eI_n, e_nm, e_mm, lN_i, l_lt, l_le, l_eq, l_z, lN_t, nI_tl, n_s1, i_sub, eLi, eL_s, eL_n, up_eq, mkz, i_l1, i_l2, i_l3, n_ti, i_tl2, e_mn, Nat.add_sub_cancel, mx0, s11, sa1, if1, ite_self, *] at hh); exact hh) (g2 : c2 → d2 := by intro hh; (try simp (disch := first | assumption | omega | decide) only [i_add, i_mul, n_cl, nI_and7, nI_and3, v_in, i_eq, i_lt, i_le, i_eq0, i_lt0, i_ge0, i_gt0, i_le0, lg_cmp_eq, lg_cmp_ge, lg_cmp_gt, lg_cmp_le, lg_cmp_lt, zb_e0, zb_n0, Classical.not_not, up_ne, Nat.zero_add, Nat.add_zero, rc_num hC, rc_hol hC, rc_who hC, rc_nn hC, rc_dbl hC, rc_flt hC, rc_rea hC, rc_xx hC, rc_ff hC, rc_par hC, rc_nxt hC, rc_lin hC, rc_thg hC, rc_prg hC, rc_str hC, rc_pix hC, rc_six hC, rc_own hC, rc_tim hC, rc_mad hC, rc_psz hC, rc_phn hC, rc_pop hC, rc_paa hC, rc_pbb hC, rc_pcc hC, rc_hfr hC, rc_hto hC, rc_hfl hC, rc_hpl hC, rc_dep hC, rc_pla hC, rc_don hC, rc_fai hC, rc_fno hC, rc_lat hC, rc_lpr hC, rc_lpl hC, rc_wan hC, rc_cal hC, cl_ne, tR_s, tR_n, eI_s, eI_n, e_nm, e_mm, lN_i, l_lt, l_le, l_eq, l_z, lN_t, nI_tl, n_s1, i_sub, eLi, eL_s, eL_n, up_eq, mkz, i_l1, i_l2, i_l3, n_ti, i_tl2, e_mn, Nat.add_sub_cancel, mx0, s11, sa1, if1, ite_self, *] at hh); exact hh) : Ev Y μ0 rem L st μ Post := ev_br hT hF hc (fun h => kt (g1 h)) (fun h => kf (g2 h))
theorem lf_T0 {p : Prop} (h : p := by first | rfl | assumption | (simp (disch := first | assumption | omega | decide) only [i_add, i_mul, n_cl, nI_and7, nI_and3, v_in, i_eq, i_lt, i_le, i_eq0, i_lt0, i_ge0, i_gt0, i_le0, lg_cmp_eq, lg_cmp_ge, lg_cmp_gt, lg_cmp_le, lg_cmp_lt, zb_e0, zb_n0, Classical.not_not, up_ne, Nat.zero_add, Nat.add_zero, rc_num hC, rc_hol hC, rc_who hC, rc_nn hC, rc_dbl hC, rc_flt hC, rc_rea hC, rc_xx hC, rc_ff hC, rc_par hC, rc_nxt hC, rc_lin hC, rc_thg hC, rc_prg hC, rc_str hC, rc_pix hC, rc_six hC, rc_own hC, rc_tim hC, rc_mad hC, rc_psz hC, rc_phn hC, rc_pop hC, rc_paa hC, rc_pbb hC, rc_pcc hC, rc_hfr hC, rc_hto hC, rc_hfl hC, rc_hpl hC, rc_dep hC, rc_pla hC, rc_don hC, rc_fai hC, rc_fno hC, rc_lat hC, rc_lpr hC, rc_lpl hC, rc_wan hC, rc_cal hC, cl_ne, tR_s, tR_n, eI_s, eI_n, e_nm, e_mm, lN_i, l_lt, l_le, l_eq, l_z, lN_t, nI_tl, n_s1, i_sub, eLi, eL_s, eL_n, up_eq, mkz, i_l1, i_l2, i_l3, n_ti, i_tl2, e_mn, Nat.add_sub_cancel, mx0, s11, sa1, if1, ite_self, *] <;> first | rfl | assumption | omega | decide)) : p := h
theorem C_step0 {ci : Nat → Nat → Nat → Int32} {co : Nat → Option Nat} {xj : Nat → Nat → Nat → Int64} {xd : Nat → Nat → Nat → UInt64} {xf : Nat → Nat → Nat → UInt32} {xo : Nat → Nat → Nat → Option Nat} {xi : Nat → Nat → Nat → Int32} {xn : Nat → Nat → Nat → Nat} {cn : Nat → Nat → Nat → Nat} {t n : Nat} (ht : t < 3) (hI : IC ci cn) (hn : cn 0 t 0 = n) (hz : pp t n cn 0 t 0 = 0) {K : Nat → Nat} {I : Nat → Nat → Int32} {J : Nat → Nat → Int64} {F : Nat → Nat → UInt32} {D : Nat → Nat → UInt64} {R : Nat → Nat → Option Nat} {nx sl : Nat} (hC : RC ci cn co xj xd xf xo xi xn I J F D R nx sl) : Ct Y_MV_step [vr 2 53, vr 8 (32 + 7 * t)] (K, I, J, F, D, R, nx, sl) (fun r μ1 => r = some (vi (nI 0)) ∧ RC ci (pp t n cn) co xj xd xf xo xi xn μ1.2.1 μ1.2.2.1 μ1.2.2.2.1 μ1.2.2.2.2.1 μ1.2.2.2.2.2.1 μ1.2.2.2.2.2.2.1 μ1.2.2.2.2.2.2.2) := by
  refine ct_of h_MV_step rfl rfl rfl ?_
  refine ev_g0 rfl ?_
  refine ev_qS 1 k_MV_27 rfl (C_goingOn ht hC hI hn) ⟨by decide, by decide⟩ rfl ?_
  intro r1 μ1 hq1
  obtain ⟨hCq, hr1⟩ := QGO_z hz hq1
  subst hr1
  refine ev_g0 rfl ?_
  refine ev_reti rfl ?_
  exact ⟨rfl, hCq⟩
theorem ev_gT1 {Y : mm_Y} {μ0 : mm_M} {rem : List mm_E} {L : mm_L} {st : List mm_V} {μ : mm_M} {Post : Option mm_V → mm_M → Prop} (bs : List Bool) (os : List (Option Nat)) {e2 : mm_E} {rem2 : List mm_E} {L2 : mm_L} {st2 : List mm_V} {μ2 : mm_M} {P2 : Prop} (h : mm_go 5000 (mm_co Y) rem L st μ bs os True = some (e2 :: rem2, L2, st2, μ2, P2)) (k : Ev Y μ0 (e2 :: rem2) L2 st2 μ2 Post) (hp : P2 := by (repeat' apply And.intro) <;> first | exact trivial | assumption | rfl | decide | omega | (simp (disch := first | assumption | omega | decide) only [i_add, i_mul, n_cl, nI_and7, nI_and3, v_in, i_eq, i_lt, i_le, i_eq0, i_lt0, i_ge0, i_gt0, i_le0, ↓lg_cmp_eq, ↓lg_cmp_ge, ↓lg_cmp_gt, ↓lg_cmp_le, ↓lg_cmp_lt, ↓zb_e0, ↓zb_n0, Classical.not_not, up_ne, Nat.zero_add, Nat.add_zero, rc_num hC, rc_hol hC, rc_who hC, rc_rea hC, rc_par hC, rc_nn hC, rc_xx hC, rc_ff hC, rc_nxt hC, rc_lin hC, rc_sor hC, rc_len hC, rc_own hC, rc_tim hC, rc_tal hC, rc_dbl hC, rc_flt hC, rc_mad hC, rc_trc hC, rc_mk0 hC, rc_mk1 hC, rc_mk2 hC, rc_tix hC, rc_thg hC, rm_num hM, rm_hol hM, rm_who hM, rm_rea hM, rm_par hM, rm_nn hM, rm_xx hM, rm_ff hM, rm_nxt hM, rm_lin hM, rm_sor hM, rm_len hM, rm_own hM, rm_tim hM, rm_tal hM, rm_dbl hM, rm_flt hM, rm_mad hM, rm_trc hM, rm_mk hM, tR_s, tR_n, eI_s, eI_n, e_nm, e_mm, lN_i, l_lt, l_le, l_eq, l_z, lN_t, nI_tl, n_s1, i_sub, eLi, eL_s, eL_n, up_eq, mkz, i_l1, i_l2, i_l3, n_ti, i_tl2, e_mn, rc_wan hC, rc_cal hC, rc_prg hC, rc_str hC, rc_pix hC, rc_psz hC, rc_phn hC, rc_pop hC, rc_paa hC, rc_pbb hC, rc_pcc hC, rc_hfr hC, rc_hto hC, rc_hfl hC, rc_hpl hC, rc_six hC, rc_dep hC, rc_pla hC, rc_don hC, rc_fai hC, rc_fno hC, rc_lat hC, rc_lpr hC, rc_lpl hC, rm_psz hM, rm_pop hM, rm_paa hM, rm_pbb hM, rm_pcc hM, rm_phn hM, rm_hfr hM, rm_hto hM, rm_hfl hM, rm_hpl hM, rm_isn hM, rm_dep hM, rm_cal hM, rm_pla hM, rm_don hM, rm_fai hM, rm_lat hM, rm_lpr hM, rm_lpl hM, rm_wan hM, Nat.add_sub_cancel, rm_mk0 hM, rm_mk1 hM, rm_mk2 hM, mks0, mks1, mks2, jl, n_s1j, j_lt, j_le, j_eq, j_z, i_l1, i_l2, i_l3, decide_eq_false_iff_not, decide_eq_true_iff, zb_t0, *] <;> first | assumption | omega | decide)) : Ev Y μ0 rem L st μ Post := ev_go bs os h hp k
theorem ev_bT1 {Y : mm_Y} {μ0 : mm_M} {rem : List mm_E} {L : mm_L} {st : List mm_V} {μ : mm_M} {Post : Option mm_V → mm_M → Prop} {e2 e3 : mm_E} {rem2 rem3 : List mm_E} {L2 L3 : mm_L} {st2 st3 : List mm_V} {μ2 μ3 : mm_M} {c c2 d d2 : Prop} (hT : mm_go 1 (mm_co Y) rem L st μ [true] [] True = some (e2 :: rem2, L2, st2, μ2, True ∧ c)) (hF : mm_go 1 (mm_co Y) rem L st μ [false] [] True = some (e3 :: rem3, L3, st3, μ3, True ∧ c2)) (kt : d → Ev Y μ0 (e2 :: rem2) L2 st2 μ2 Post) (kf : d2 → Ev Y μ0 (e3 :: rem3) L3 st3 μ3 Post) (hc : ¬ c → c2 := by first | exact id | exact Classical.not_not.mp) (g1 : c → d := by intro hh; (try simp (disch := first | assumption | omega | decide) only [i_add, i_mul, n_cl, nI_and7, nI_and3, v_in, i_eq, i_lt, i_le, i_eq0, i_lt0, i_ge0, i_gt0, i_le0, ↓lg_cmp_eq, ↓lg_cmp_ge, ↓lg_cmp_gt, ↓lg_cmp_le, ↓lg_cmp_lt, ↓zb_e0, ↓zb_n0, Classical.not_not, up_ne, Nat.zero_add, Nat.add_zero, rc_num hC, rc_hol hC, rc_who hC, rc_rea hC, rc_par hC, rc_nn hC, rc_xx hC, rc_ff hC, rc_nxt hC, rc_lin hC, rc_sor hC, rc_len hC, rc_own hC, rc_tim hC, rc_tal hC, rc_dbl hC, rc_flt hC, rc_mad hC, rc_trc hC, rc_mk0 hC, rc_mk1 hC, rc_mk2 hC, rc_tix hC, rc_thg hC, rm_num hM, rm_hol hM, rm_who hM, rm_rea hM, rm_par hM, rm_nn hM, rm_xx hM, rm_ff hM, rm_nxt hM, rm_lin hM, rm_sor hM, rm_len hM, rm_own hM, rm_tim hM, rm_tal hM, rm_dbl hM, rm_flt hM, rm_mad hM, rm_trc hM, rm_mk hM, tR_s, tR_n, eI_s, eI_n, e_nm, e_mm, lN_i, l_lt, l_le, l_eq, l_z, lN_t, nI_tl, n_s1, i_sub, eLi, eL_s, eL_n, up_eq, mkz, i_l1, i_l2, i_l3, n_ti, i_tl2, e_mn, rc_wan hC, rc_cal hC, rc_prg hC, rc_str hC, rc_pix hC, rc_psz hC, rc_phn hC, rc_pop hC, rc_paa hC, rc_pbb hC, rc_pcc hC, rc_hfr hC, rc_hto hC, rc_hfl hC, rc_hpl hC, rc_six hC, rc_dep hC, rc_pla hC, rc_don hC, rc_fai hC, rc_fno hC, rc_lat hC, rc_lpr hC, rc_lpl hC, rm_psz hM, rm_pop hM, rm_paa hM, rm_pbb hM, rm_pcc hM, rm_phn hM, rm_hfr hM, rm_hto hM, rm_hfl hM, rm_hpl hM, rm_isn hM, rm_dep hM, rm_cal hM, rm_pla hM, rm_don hM, rm_fai hM, rm_lat hM, rm_lpr hM, rm_lpl hM, rm_wan hM, Nat.add_sub_cancel, rm_mk0 hM, rm_mk1 hM, rm_mk2 hM, mks0, mks1, mks2, jl, n_s1j, j_lt, j_le, j_eq, j_z, i_l1, i_l2, i_l3, decide_eq_false_iff_not, decide_eq_true_iff, zb_t0, *] at hh); exact hh) (g2 : c2 → d2 := by intro hh; (try simp (disch := first | assumption | omega | decide) only [i_add, i_mul, n_cl, nI_and7, nI_and3, v_in, i_eq, i_lt, i_le, i_eq0, i_lt0, i_ge0, i_gt0, i_le0, ↓lg_cmp_eq, ↓lg_cmp_ge, ↓lg_cmp_gt, ↓lg_cmp_le, ↓lg_cmp_lt, ↓zb_e0, ↓zb_n0, Classical.not_not, up_ne, Nat.zero_add, Nat.add_zero, rc_num hC, rc_hol hC, rc_who hC, rc_rea hC, rc_par hC, rc_nn hC, rc_xx hC, rc_ff hC, rc_nxt hC, rc_lin hC, rc_sor hC, rc_len hC, rc_own hC, rc_tim hC, rc_tal hC, rc_dbl hC, rc_flt hC, rc_mad hC, rc_trc hC, rc_mk0 hC, rc_mk1 hC, rc_mk2 hC, rc_tix hC, rc_thg hC, rm_num hM, rm_hol hM, rm_who hM, rm_rea hM, rm_par hM, rm_nn hM, rm_xx hM, rm_ff hM, rm_nxt hM, rm_lin hM, rm_sor hM, rm_len hM, rm_own hM, rm_tim hM, rm_tal hM, rm_dbl hM, rm_flt hM, rm_mad hM, rm_trc hM, rm_mk hM, tR_s, tR_n, eI_s, eI_n, e_nm, e_mm, lN_i, l_lt, l_le, l_eq, l_z, lN_t, nI_tl, n_s1, i_sub, eLi, eL_s, eL_n, up_eq, mkz, i_l1, i_l2, i_l3, n_ti, i_tl2, e_mn, rc_wan hC, rc_cal hC, rc_prg hC, rc_str hC, rc_pix hC, rc_psz hC, rc_phn hC, rc_pop hC, rc_paa hC, rc_pbb hC, rc_pcc hC, rc_hfr hC, rc_hto hC, rc_hfl hC, rc_hpl hC, rc_six hC, rc_dep hC, rc_pla hC, rc_don hC, rc_fai hC, rc_fno hC, rc_lat hC, rc_lpr hC, rc_lpl hC, rm_psz hM, rm_pop hM, rm_paa hM, rm_pbb hM, rm_pcc hM, rm_phn hM, rm_hfr hM, rm_hto hM, rm_hfl hM, rm_hpl hM, rm_isn hM, rm_dep hM, rm_cal hM, rm_pla hM, rm_don hM, rm_fai hM, rm_lat hM, rm_lpr hM, rm_lpl hM, rm_wan hM, Nat.add_sub_cancel, rm_mk0 hM, rm_mk1 hM, rm_mk2 hM, mks0, mks1, mks2, jl, n_s1j, j_lt, j_le, j_eq, j_z, i_l1, i_l2, i_l3, decide_eq_false_iff_not, decide_eq_true_iff, zb_t0, *] at hh); exact hh) : Ev Y μ0 rem L st μ Post := ev_br hT hF hc (fun h => kt (g1 h)) (fun h => kf (g2 h))
theorem lf_T1 {p : Prop} (h : p := by first | rfl | assumption | (simp (disch := first | assumption | omega | decide) only [i_add, i_mul, n_cl, nI_and7, nI_and3, v_in, i_eq, i_lt, i_le, i_eq0, i_lt0, i_ge0, i_gt0, i_le0, ↓lg_cmp_eq, ↓lg_cmp_ge, ↓lg_cmp_gt, ↓lg_cmp_le, ↓lg_cmp_lt, ↓zb_e0, ↓zb_n0, Classical.not_not, up_ne, Nat.zero_add, Nat.add_zero, rc_num hC, rc_hol hC, rc_who hC, rc_rea hC, rc_par hC, rc_nn hC, rc_xx hC, rc_ff hC, rc_nxt hC, rc_lin hC, rc_sor hC, rc_len hC, rc_own hC, rc_tim hC, rc_tal hC, rc_dbl hC, rc_flt hC, rc_mad hC, rc_trc hC, rc_mk0 hC, rc_mk1 hC, rc_mk2 hC, rc_tix hC, rc_thg hC, rm_num hM, rm_hol hM, rm_who hM, rm_rea hM, rm_par hM, rm_nn hM, rm_xx hM, rm_ff hM, rm_nxt hM, rm_lin hM, rm_sor hM, rm_len hM, rm_own hM, rm_tim hM, rm_tal hM, rm_dbl hM, rm_flt hM, rm_mad hM, rm_trc hM, rm_mk hM, tR_s, tR_n, eI_s, eI_n, e_nm, e_mm, lN_i, l_lt, l_le, l_eq, l_z, lN_t, nI_tl, n_s1, i_sub, eLi, eL_s, eL_n, up_eq, mkz, i_l1, i_l2, i_l3, n_ti, i_tl2, e_mn, rc_wan hC, rc_cal hC, rc_prg hC, rc_str hC, rc_pix hC, rc_psz hC, rc_phn hC, rc_pop hC, rc_paa hC, rc_pbb hC, rc_pcc hC, rc_hfr hC, rc_hto hC, rc_hfl hC, rc_hpl hC, rc_six hC, rc_dep hC, rc_pla hC, rc_don hC, rc_fai hC, rc_fno hC, rc_lat hC, rc_lpr hC, rc_lpl hC, rm_psz hM, rm_pop hM, rm_paa hM, rm_pbb hM, rm_pcc hM, rm_phn hM, rm_hfr hM, rm_hto hM, rm_hfl hM, rm_hpl hM, rm_isn hM, rm_dep hM, rm_cal hM, rm_pla hM, rm_don hM, rm_fai hM, rm_lat hM, rm_lpr hM, rm_lpl hM, rm_wan hM, Nat.add_sub_cancel, rm_mk0 hM, rm_mk1 hM, rm_mk2 hM, mks0, mks1, mks2, jl, n_s1j, j_lt, j_le, j_eq, j_z, i_l1, i_l2, i_l3, decide_eq_false_iff_not, decide_eq_true_iff, zb_t0, *] <;> first | rfl | assumption | omega | decide)) : p := h
set_option maxHeartbeats 8000000 in
theorem Q_turn {ci : Nat → Nat → Nat → Int32} {cn : Nat → Nat → Nat → Nat} {co : Nat → Option Nat} {xj : Nat → Nat → Nat → Int64} {xd : Nat → Nat → Nat → UInt64} {xf : Nat → Nat → Nat → UInt32} {xo : Nat → Nat → Nat → Option Nat} {xi : Nat → Nat → Nat → Int32} {xn : Nat → Nat → Nat → Nat} {K : Nat → Nat} {I : Nat → Nat → Int32} {J : Nat → Nat → Int64} {F : Nat → Nat → UInt32} {D : Nat → Nat → UInt64} {R : Nat → Nat → Option Nat} {nx sl : Nat} {Km : Nat → Nat} {Im : Nat → Nat → Int32} {Jm : Nat → Nat → Int64} {Fm : Nat → Nat → UInt32} {Dm : Nat → Nat → UInt64} {Rm : Nat → Nat → Option Nat} {nxm slm : Nat} (hC : RC ci cn co xj xd xf xo xi xn I J F D R nx sl) (hM : RM ci cn co xj xd xf xo xi xn Im Jm Dm) (hR : RR) (hI : IC ci cn) (hW : IW cn co) {th nn : Int32} : Ct Y_MW_turn [vr 10 6, vi th, vi nn] (K, I, J, F, D, R, nx, sl) (fun r μ1 => Ct Y_MM_turn [vr 11 6, vi th, vi nn] (Km, Im, Jm, Fm, Dm, Rm, nxm, slm) (fun r2 μ2 => r = r2 ∧ RELS μ1 μ2)) := by
  rcases icc th 3 (by decide) with ⟨t, ht, rfl⟩ | hth
  · rcases icc nn 501 (by decide) with ⟨n, hn5, rfl⟩ | hnn
    · by_cases hn1 : 1 ≤ n
      · have h8 := hI.1 t ht
        by_cases hu : 0 < cn 0 t 0
        · have hu2 : decide (0 < cn 0 t 0) = true := decide_eq_true hu
          have hn : n ≤ 500 := by omega
          have isr : ∀ i, i < xn 2 0 0 → xn 1 i 0 ≤ 12 := fun i hi => (rc_isor hC hi).2.2.1
          have io : ∀ i, i < xn 2 0 0 → ∀ q, xo 4 i 0 = some q → q < 3 := fun i hi => rc_iown hC hi
          have yy : xn 2 0 0 ≤ 160 := by have := rc_imad hC; omega
          have hC1 := CU_fno (v := nI 0) (z := nI 0) (CU_wan (v := none) (z := none) hC ht (fun q h => by cases h) rfl) ht rfl
          have hM1 : RM (u3 ci 5 t 0 (nI 0)) cn (u1 co t none) xj xd xf xo xi xn (mm_up Im 43 t (-(nI 1))) Jm Dm := MU_fno (MU_wan (v := none) hM ht rfl rfl)
          have hI1 : IC (u3 ci 5 t 0 (nI 0)) cn := IC_ci hI (fun p k => ⟨rfl, rfl, rfl⟩)
          have hI2 := IC_pp ht _ hI1 rfl
          have hcot : (u1 co t none) t = none := if_pos rfl
          have hf5 : (u3 ci 5 t 0 (nI 0)) 5 t 0 = nI 0 := u3_s
          have hW1 : IWo t cn (u1 co t none) := fun u hu e h0 => (show u1 co t none u = co u from if_neg e).trans (hW u hu h0)
          obtain ⟨m2, hm2⟩ : ∃ m2, cn 0 t 0 = m2 + 1 := ⟨cn 0 t 0 - 1, by omega⟩
          obtain ⟨r3, ⟨K3, I3, J3, F3, D3, R3, n3, s3⟩, ⟨rfl, hQ⟩, d3⟩ := C_popEnded (Km := Km) (Fm := Fm) (Rm := Rm) (nxm := nxm) (slm := slm) ht isr io yy hM1 hI1 hm2
          rw [← hm2] at hQ
          have preM : ∀ {Post : Option mm_V → mm_M → Prop}, Ev Y_MM_turn (Km, Im, Jm, Fm, Dm, Rm, nxm, slm) (mm_to (mm_co Y_MM_turn) 61) [(0, vr 11 6), (1, vi (nI t)), (2, vi (nI n)), (3, vi (nI t)), (4, vi (nI 0)), (5, vi (nI 0))] [vi (nI n), vi (nI 0)] (K3, I3, J3, F3, D3, R3, n3, s3) Post → Ct Y_MM_turn [vr 11 6, vi (nI t), vi (nI n)] (Km, Im, Jm, Fm, Dm, Rm, nxm, slm) Post := by
            intro Post hmod
            refine ct_of h_MM_turn rfl rfl rfl ?_
            refine ev_g0 rfl ?_
            refine ev_inS 3 k_MM_188 h_MM_in rfl rfl rfl rfl ⟨by decide, by decide⟩ rfl ?_
            refine ev_gT1 [false, false] [] rfl ?_
            refine ev_retz rfl (by first | decide | exact zb_01 _) ?_
            refine ev_gT1 [false] [] rfl ?_
            refine ev_inS 3 k_MM_188 h_MM_in rfl rfl rfl rfl ⟨by decide, by decide⟩ rfl ?_
            refine ev_gT1 [false, false] [] rfl ?_
            refine ev_retz rfl (by first | decide | exact zb_01 _) ?_
            refine ev_gT1 [true, true] [] rfl ?_
            refine ev_cg2 rfl rfl (μ2 := (Km, mm_up Im 43 t (-(nI 1)), Jm, Fm, Dm, Rm, nxm, slm)) lf_T1 ?_
            refine ev_kV 1 k_MM_454 rfl d3 rfl ⟨by decide, by decide⟩ rfl ?_
            refine ev_g0 rfl ?_
            exact hmod
          have hE : ∀ (rv : Int32) (μ1 μ2 : mm_M), RELS μ1 μ2 → (fun (r : Option mm_V) (μ1 : mm_M) (r2 : Option mm_V) (μ2 : mm_M) => r = r2 ∧ RELS μ1 μ2) (some (vi rv)) μ1 (some (vi rv)) μ2 := fun rv μ1 μ2 h => ⟨rfl, h⟩
          refine ct_of h_MW_turn rfl rfl rfl ?_
          refine ev_g0 rfl ?_
          refine ev_inV 1 k_MW_95 h_MW_strandAt rfl rfl rfl rfl rfl ⟨by decide, by decide⟩ rfl ?_
          refine ev_gT1 [false, false] [some (32 + 7 * t)] rfl ?_
          refine ev_reta rfl ?_
          refine ev_gT1 [false, true] [] rfl ?_
          refine ev_inV 0 k_MW_99 h_SD_isUnderWay rfl rfl rfl rfl rfl ⟨by decide, by decide⟩ rfl ?_
          refine ev_gT1 [false] [] rfl ?_
          refine ev_retz rfl (by first | decide | exact zb_01 _) ?_
          refine ev_gT1 [true] [] rfl ?_
          refine ev_inV 0 k_MW_107 h_SD_beginTurn rfl rfl rfl rfl rfl ⟨by decide, by decide⟩ rfl ?_
          refine ev_g0 rfl ?_
          refine ev_ret rfl ?_
          refine ev_g0 rfl ?_
          refine ev_cg2 (L2 := [(0, vr 10 6), (1, vi (nI t)), (2, vi (nI n)), (3, vr 8 (32 + 7 * t)), (4, vi (nI 1)), (5, vi (nI 0))]) (st2 := [vi (nI n), vi (nI 0)]) (μ2 := (K, mm_up I (32 + 7 * t) 10 (nI 0), J, F, D, mm_up R (32 + 7 * t) 14 none, nx, sl)) lf_T1 lf_T1 lf_T1 ?_
          rcases hQ with ⟨hpos, hM4⟩ | ⟨hz, hM4⟩
          · obtain ⟨d2, hd2⟩ : ∃ d2, pp t (cn 0 t 0) cn 0 t 0 = d2 + 1 := ⟨pp t (cn 0 t 0) cn 0 t 0 - 1, by omega⟩
            exact T_loop hR (PostM := fun r μ1 r2 μ2 => r = r2 ∧ RELS μ1 μ2) ht hn1 hn hE n 0 0 _ _ _ _ _ _ _ _ _ _ _ _ _ _ _ _ _ _ _ _ _ _ _ _ _ _ [(0, vr 11 6), (1, vi (nI t)), (2, vi (nI n)), (3, vi (nI t)), (4, vi (nI 0)), (5, vi (nI 0))] (by omega) hC1 hM4 hI1 rfl (Or.inl rfl) ⟨d2, hd2, pp_rdy _ rfl hd2⟩ hf5 (by omega) hcot (IWo_pp hW1) (fun q h => h) (fun r μ1 h => preM h)
          · obtain ⟨r4, ⟨K4, I4, J4, F4, D4, R4, n4, s4⟩, ⟨rfl, hC4⟩, d4⟩ := C_step0 (K := K) ht hI1 rfl hz hC1
            have hI4 := IC_pp ht _ hI1 rfl
            rw [u1_id hcot] at hM4
            refine TC_step hn (by omega) d4 ?_
            have fin : ∀ μ1 : mm_M, RC (u3 ci 5 t 0 (nI 0)) (pp t (cn 0 t 0) cn) (u1 co t none) xj xd xf (rlo xo t (xn 2 0 0)) (rli xo xi t (xn 2 0 0)) xn μ1.2.1 μ1.2.2.1 μ1.2.2.2.1 μ1.2.2.2.2.1 μ1.2.2.2.2.2.1 μ1.2.2.2.2.2.2.1 μ1.2.2.2.2.2.2.2 → Ct Y_MM_turn [vr 11 6, vi (nI t), vi (nI n)] (Km, Im, Jm, Fm, Dm, Rm, nxm, slm) (fun r2 μ2 => some (vi (nI 0)) = r2 ∧ RELS μ1 μ2) := fun μ1 hCe => preM (TM_y0 (fl := 0) ht (decide_eq_false (by omega)) hn (by omega) hM4 _ (fun q h => h) ⟨rfl, _, _, _, _, _, _, _, _, _, hCe, hM4, hI4, IW_of (IWo_pp hW1) hcot⟩)
            by_cases hl : 0 + 1 = n
            · exact TC_e1 ht (by omega) hz hn hl hC4 fin
            · exact TC_e0 ht (by omega) hz hn (by omega) (by decide) hC4 fin
        · have hu2 : decide (0 < cn 0 t 0) = false := decide_eq_false hu
          refine ct_of h_MW_turn rfl rfl rfl ?_
          refine ev_g0 rfl ?_
          refine ev_inV 1 k_MW_95 h_MW_strandAt rfl rfl rfl rfl rfl ⟨by decide, by decide⟩ rfl ?_
          refine ev_gT1 [false, false] [some (32 + 7 * t)] rfl ?_
          refine ev_reta rfl ?_
          refine ev_gT1 [false, true] [] rfl ?_
          refine ev_inV 0 k_MW_99 h_SD_isUnderWay rfl rfl rfl rfl rfl ⟨by decide, by decide⟩ rfl ?_
          refine ev_gT1 [true] [] rfl ?_
          refine ev_retz rfl (by first | decide | exact zb_01 _) ?_
          refine ev_gT1 [false] [] rfl ?_
          refine ev_reti rfl ?_
          refine ct_of h_MM_turn rfl rfl rfl ?_
          refine ev_g0 rfl ?_
          refine ev_inS 3 k_MM_188 h_MM_in rfl rfl rfl rfl ⟨by decide, by decide⟩ rfl ?_
          refine ev_gT1 [false, false] [] rfl ?_
          refine ev_retz rfl (by first | decide | exact zb_01 _) ?_
          refine ev_gT1 [false] [] rfl ?_
          refine ev_inS 3 k_MM_188 h_MM_in rfl rfl rfl rfl ⟨by decide, by decide⟩ rfl ?_
          refine ev_gT1 [false, false] [] rfl ?_
          refine ev_retz rfl (by first | decide | exact zb_01 _) ?_
          refine ev_gT1 [true, false] [] rfl ?_
          refine ev_reti rfl ?_
          exact ⟨lf_T1, ci, cn, co, xj, xd, xf, xo, xi, xn, hC, hM, hI, hW⟩
      · skip
        refine ct_of h_MW_turn rfl rfl rfl ?_
        refine ev_g0 rfl ?_
        refine ev_inV 1 k_MW_95 h_MW_strandAt rfl rfl rfl rfl rfl ⟨by decide, by decide⟩ rfl ?_
        refine ev_gT1 [false, false] [some (32 + 7 * t)] rfl ?_
        refine ev_reta rfl ?_
        refine ev_gT1 [true] [] rfl ?_
        refine ev_reti rfl ?_
        refine ct_of h_MM_turn rfl rfl rfl ?_
        refine ev_g0 rfl ?_
        refine ev_inS 3 k_MM_188 h_MM_in rfl rfl rfl rfl ⟨by decide, by decide⟩ rfl ?_
        refine ev_gT1 [false, false] [] rfl ?_
        refine ev_retz rfl (by first | decide | exact zb_01 _) ?_
        refine ev_gT1 [false] [] rfl ?_
        refine ev_inS 3 k_MM_188 h_MM_in rfl rfl rfl rfl ⟨by decide, by decide⟩ rfl ?_
        refine ev_gT1 [true] [] rfl ?_
        refine ev_retz rfl (by first | decide | exact zb_01 _) ?_
        refine ev_gT1 [false] [] rfl ?_
        refine ev_reti rfl ?_
        exact ⟨lf_T1, ci, cn, co, xj, xd, xf, xo, xi, xn, hC, hM, hI, hW⟩
    · skip
      refine ct_of h_MW_turn rfl rfl rfl ?_
      refine ev_g0 rfl ?_
      refine ev_inV 1 k_MW_95 h_MW_strandAt rfl rfl rfl rfl rfl ⟨by decide, by decide⟩ rfl ?_
      refine ev_gT1 [false, false] [some (32 + 7 * t)] rfl ?_
      refine ev_reta rfl ?_
      refine ev_g0 rfl ?_
      refine ev_bT1 rfl rfl (fun h_1 => ?_) (fun h_1 => ?_)
      · skip
        refine ev_g0 rfl ?_
        refine ev_reti rfl ?_
        refine ct_of h_MM_turn rfl rfl rfl ?_
        refine ev_g0 rfl ?_
        refine ev_inS 3 k_MM_188 h_MM_in rfl rfl rfl rfl ⟨by decide, by decide⟩ rfl ?_
        refine ev_gT1 [false, false] [] rfl ?_
        refine ev_retz rfl (by first | decide | exact zb_01 _) ?_
        refine ev_gT1 [false] [] rfl ?_
        refine ev_inS 3 k_MM_188 h_MM_in rfl rfl rfl rfl ⟨by decide, by decide⟩ rfl ?_
        refine ev_gT1 [true] [] rfl ?_
        refine ev_retz rfl (by first | decide | exact zb_01 _) ?_
        refine ev_gT1 [false] [] rfl ?_
        refine ev_reti rfl ?_
        exact ⟨lf_T1, ci, cn, co, xj, xd, xf, xo, xi, xn, hC, hM, hI, hW⟩
      · skip
        refine ev_gT1 [false] [] rfl ?_
        refine ev_reti rfl ?_
        refine ct_of h_MM_turn rfl rfl rfl ?_
        refine ev_g0 rfl ?_
        refine ev_inS 3 k_MM_188 h_MM_in rfl rfl rfl rfl ⟨by decide, by decide⟩ rfl ?_
        refine ev_gT1 [false, false] [] rfl ?_
        refine ev_retz rfl (by first | decide | exact zb_01 _) ?_
        refine ev_gT1 [false] [] rfl ?_
        refine ev_inS 3 k_MM_188 h_MM_in rfl rfl rfl rfl ⟨by decide, by decide⟩ rfl ?_
        refine ev_gT1 [false, true] [] rfl ?_
        refine ev_retz rfl (by first | decide | exact zb_01 _) ?_
        refine ev_gT1 [false] [] rfl ?_
        refine ev_reti rfl ?_
        exact ⟨lf_T1, ci, cn, co, xj, xd, xf, xo, xi, xn, hC, hM, hI, hW⟩
  · skip
    refine ct_of h_MW_turn rfl rfl rfl ?_
    refine ev_g0 rfl ?_
    refine ev_inV 1 k_MW_95 h_MW_strandAt rfl rfl rfl rfl rfl ⟨by decide, by decide⟩ rfl ?_
    refine ev_g0 rfl ?_
    refine ev_bT1 rfl rfl (fun h_1 => ?_) (fun h_1 => ?_)
    · skip
      refine ev_g0 rfl ?_
      refine ev_retn rfl ?_
      refine ev_g0 rfl ?_
      refine ev_reti rfl ?_
      refine ct_of h_MM_turn rfl rfl rfl ?_
      refine ev_g0 rfl ?_
      refine ev_inS 3 k_MM_188 h_MM_in rfl rfl rfl rfl ⟨by decide, by decide⟩ rfl ?_
      refine ev_gT1 [true] [] rfl ?_
      refine ev_retz rfl (by first | decide | exact zb_01 _) ?_
      refine ev_gT1 [true] [] rfl ?_
      refine ev_reti rfl ?_
      exact ⟨lf_T1, ci, cn, co, xj, xd, xf, xo, xi, xn, hC, hM, hI, hW⟩
    · skip
      refine ev_gT1 [true] [] rfl ?_
      refine ev_retn rfl ?_
      refine ev_g0 rfl ?_
      refine ev_reti rfl ?_
      refine ct_of h_MM_turn rfl rfl rfl ?_
      refine ev_g0 rfl ?_
      refine ev_inS 3 k_MM_188 h_MM_in rfl rfl rfl rfl ⟨by decide, by decide⟩ rfl ?_
      refine ev_gT1 [false, true] [] rfl ?_
      refine ev_retz rfl (by first | decide | exact zb_01 _) ?_
      refine ev_gT1 [true] [] rfl ?_
      refine ev_reti rfl ?_
      exact ⟨lf_T1, ci, cn, co, xj, xd, xf, xo, xi, xn, hC, hM, hI, hW⟩
