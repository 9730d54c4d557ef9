theorem icc (v : Int32) (n : Nat) (hn : n < 10000) : (∃ j, j < n ∧ v = nI j) ∨ ¬ (0 ≤ v.toInt ∧ v.toInt < (n : Int)) := by
  by_cases h : 0 ≤ v.toInt ∧ v.toInt < (n : Int)
  · refine Or.inl ⟨v.toInt.toNat, by omega, ?_⟩
    apply Int32.toInt_inj.mp
    rw [nI_toInt (by omega)]
    omega
  · exact Or.inr h
theorem jl {x : Int32} : x.toInt64.toInt = x.toInt := Int32.toInt_toInt64 x
theorem LO : (lN 9223372036854775808 : Int64) = Int64.minValue := by decide
theorem n_s1j {n : Nat} (h : n < 10000) : (nI n - nI 1).toInt = (n : Int) - 1 := by
  rcases Nat.eq_zero_or_pos n with rfl | hp
  · decide
  · rw [pk_sub hp, nI_toInt (by omega)]; omega
theorem ev_gA {Y : mm_Y} {μ0 : mm_M} {rem : List mm_E} {L : mm_L} {st : List mm_V} {μ : mm_M} {Post : Option mm_V → mm_M → Prop} (bs : List Bool) (os : List (Option Nat)) {e2 : mm_E} {rem2 : List mm_E} {L2 : mm_L} {st2 : List mm_V} {μ2 : mm_M} {P2 : Prop} (h : mm_go 5000 (mm_co Y) rem L st μ bs os True = some (e2 :: rem2, L2, st2, μ2, P2)) (k : Ev Y μ0 (e2 :: rem2) L2 st2 μ2 Post) (hp : P2 := by (repeat' apply And.intro) <;> first | exact trivial | assumption | rfl | decide | omega | (simp (disch := first | assumption | omega | decide) only [i_add, i_mul, n_cl, nI_and7, nI_and3, v_in, i_eq, i_lt, i_le, i_eq0, i_lt0, i_ge0, i_gt0, i_le0, ↓lg_cmp_eq, ↓lg_cmp_ge, ↓lg_cmp_gt, ↓lg_cmp_le, ↓lg_cmp_lt, zb_e0, zb_n0, Classical.not_not, up_ne, Nat.zero_add, Nat.add_zero, rc_num hC, rc_hol hC, rc_who hC, rc_rea hC, rc_par hC, rc_nn hC, rc_xx hC, rc_ff hC, rc_nxt hC, rc_lin hC, rc_sor hC, rc_len hC, rc_own hC, rc_tim hC, rc_tal hC, rc_dbl hC, rc_flt hC, rc_mad hC, rc_trc hC, rc_mk0 hC, rc_mk1 hC, rc_mk2 hC, rc_tix hC, rc_thg hC, rm_num hM, rm_hol hM, rm_who hM, rm_rea hM, rm_par hM, rm_nn hM, rm_xx hM, rm_ff hM, rm_nxt hM, rm_lin hM, rm_sor hM, rm_len hM, rm_own hM, rm_tim hM, rm_tal hM, rm_dbl hM, rm_flt hM, rm_mad hM, rm_trc hM, rm_mk hM, tR_s, tR_n, eI_s, eI_n, e_nm, e_mm, lN_i, l_lt, l_le, l_eq, l_z, lN_t, nI_tl, n_s1, i_sub, eLi, eL_s, eL_n, up_eq, mkz, i_l1, i_l2, i_l3, n_ti, i_tl2, e_mn, rc_wan hC, rc_cal hC, rc_prg hC, rc_str hC, rc_pix hC, rc_psz hC, rc_phn hC, rc_pop hC, rc_paa hC, rc_pbb hC, rc_pcc hC, rc_hfr hC, rc_hto hC, rc_hfl hC, rc_hpl hC, rc_six hC, rc_dep hC, rc_pla hC, rc_don hC, rc_fai hC, rc_fno hC, rc_lat hC, rc_lpr hC, rc_lpl hC, rm_psz hM, rm_pop hM, rm_paa hM, rm_pbb hM, rm_pcc hM, rm_phn hM, rm_hfr hM, rm_hto hM, rm_hfl hM, rm_hpl hM, rm_isn hM, rm_dep hM, rm_cal hM, rm_pla hM, rm_don hM, rm_fai hM, rm_lat hM, rm_lpr hM, rm_lpl hM, rm_wan hM, Nat.add_sub_cancel, rm_mk0 hM, rm_mk1 hM, rm_mk2 hM, mks0, mks1, mks2, jl, n_s1j, j_lt, j_le, j_eq, j_z, *] <;> first | assumption | omega | decide)) : Ev Y μ0 rem L st μ Post := ev_go bs os h hp k
theorem ev_bA {Y : mm_Y} {μ0 : mm_M} {rem : List mm_E} {L : mm_L} {st : List mm_V} {μ : mm_M} {Post : Option mm_V → mm_M → Prop} {e2 e3 : mm_E} {rem2 rem3 : List mm_E} {L2 L3 : mm_L} {st2 st3 : List mm_V} {μ2 μ3 : mm_M} {c c2 d d2 : Prop} (hT : mm_go 1 (mm_co Y) rem L st μ [true] [] True = some (e2 :: rem2, L2, st2, μ2, True ∧ c)) (hF : mm_go 1 (mm_co Y) rem L st μ [false] [] True = some (e3 :: rem3, L3, st3, μ3, True ∧ c2)) (kt : d → Ev Y μ0 (e2 :: rem2) L2 st2 μ2 Post) (kf : d2 → Ev Y μ0 (e3 :: rem3) L3 st3 μ3 Post) (hc : ¬ c → c2 := by first | exact id | exact Classical.not_not.mp) (g1 : c → d := by intro hh; (try simp (disch := first | assumption | omega | decide) only [i_add, i_mul, n_cl, nI_and7, nI_and3, v_in, i_eq, i_lt, i_le, i_eq0, i_lt0, i_ge0, i_gt0, i_le0, ↓lg_cmp_eq, ↓lg_cmp_ge, ↓lg_cmp_gt, ↓lg_cmp_le, ↓lg_cmp_lt, zb_e0, zb_n0, Classical.not_not, up_ne, Nat.zero_add, Nat.add_zero, rc_num hC, rc_hol hC, rc_who hC, rc_rea hC, rc_par hC, rc_nn hC, rc_xx hC, rc_ff hC, rc_nxt hC, rc_lin hC, rc_sor hC, rc_len hC, rc_own hC, rc_tim hC, rc_tal hC, rc_dbl hC, rc_flt hC, rc_mad hC, rc_trc hC, rc_mk0 hC, rc_mk1 hC, rc_mk2 hC, rc_tix hC, rc_thg hC, rm_num hM, rm_hol hM, rm_who hM, rm_rea hM, rm_par hM, rm_nn hM, rm_xx hM, rm_ff hM, rm_nxt hM, rm_lin hM, rm_sor hM, rm_len hM, rm_own hM, rm_tim hM, rm_tal hM, rm_dbl hM, rm_flt hM, rm_mad hM, rm_trc hM, rm_mk hM, tR_s, tR_n, eI_s, eI_n, e_nm, e_mm, lN_i, l_lt, l_le, l_eq, l_z, lN_t, nI_tl, n_s1, i_sub, eLi, eL_s, eL_n, up_eq, mkz, i_l1, i_l2, i_l3, n_ti, i_tl2, e_mn, rc_wan hC, rc_cal hC, rc_prg hC, rc_str hC, rc_pix hC, rc_psz hC, rc_phn hC, rc_pop hC, rc_paa hC, rc_pbb hC, rc_pcc hC, rc_hfr hC, rc_hto hC, rc_hfl hC, rc_hpl hC, rc_six hC, rc_dep hC, rc_pla hC, rc_don hC, rc_fai hC, rc_fno hC, rc_lat hC, rc_lpr hC, rc_lpl hC, rm_psz hM, rm_pop hM, rm_paa hM, rm_pbb hM, rm_pcc hM, rm_phn hM, rm_hfr hM, rm_hto hM, rm_hfl hM, rm_hpl hM, rm_isn hM, rm_dep hM, rm_cal hM, rm_pla hM, rm_don hM, rm_fai hM, rm_lat hM, rm_lpr hM, rm_lpl hM, rm_wan hM, Nat.add_sub_cancel, rm_mk0 hM, rm_mk1 hM, rm_mk2 hM, mks0, mks1, mks2, jl, n_s1j, j_lt, j_le, j_eq, j_z, *] at hh); exact hh) (g2 : c2 → d2 := by intro hh; (try simp (disch := first | assumption | omega | decide) only [i_add, i_mul, n_cl, nI_and7, nI_and3, v_in, i_eq, i_lt, i_le, i_eq0, i_lt0, i_ge0, i_gt0, i_le0, ↓lg_cmp_eq, ↓lg_cmp_ge, ↓lg_cmp_gt, ↓lg_cmp_le, ↓lg_cmp_lt, zb_e0, zb_n0, Classical.not_not, up_ne, Nat.zero_add, Nat.add_zero, rc_num hC, rc_hol hC, rc_who hC, rc_rea hC, rc_par hC, rc_nn hC, rc_xx hC, rc_ff hC, rc_nxt hC, rc_lin hC, rc_sor hC, rc_len hC, rc_own hC, rc_tim hC, rc_tal hC, rc_dbl hC, rc_flt hC, rc_mad hC, rc_trc hC, rc_mk0 hC, rc_mk1 hC, rc_mk2 hC, rc_tix hC, rc_thg hC, rm_num hM, rm_hol hM, rm_who hM, rm_rea hM, rm_par hM, rm_nn hM, rm_xx hM, rm_ff hM, rm_nxt hM, rm_lin hM, rm_sor hM, rm_len hM, rm_own hM, rm_tim hM, rm_tal hM, rm_dbl hM, rm_flt hM, rm_mad hM, rm_trc hM, rm_mk hM, tR_s, tR_n, eI_s, eI_n, e_nm, e_mm, lN_i, l_lt, l_le, l_eq, l_z, lN_t, nI_tl, n_s1, i_sub, eLi, eL_s, eL_n, up_eq, mkz, i_l1, i_l2, i_l3, n_ti, i_tl2, e_mn, rc_wan hC, rc_cal hC, rc_prg hC, rc_str hC, rc_pix hC, rc_psz hC, rc_phn hC, rc_pop hC, rc_paa hC, rc_pbb hC, rc_pcc hC, rc_hfr hC, rc_hto hC, rc_hfl hC, rc_hpl hC, rc_six hC, rc_dep hC, rc_pla hC, rc_don hC, rc_fai hC, rc_fno hC, rc_lat hC, rc_lpr hC, rc_lpl hC, rm_psz hM, rm_pop hM, rm_paa hM, rm_pbb hM, rm_pcc hM, rm_phn hM, rm_hfr hM, rm_hto hM, rm_hfl hM, rm_hpl hM, rm_isn hM, rm_dep hM, rm_cal hM, rm_pla hM, rm_don hM, rm_fai hM, rm_lat hM, rm_lpr hM, rm_lpl hM, rm_wan hM, Nat.add_sub_cancel, rm_mk0 hM, rm_mk1 hM, rm_mk2 hM, mks0, mks1, mks2, jl, n_s1j, j_lt, j_le, j_eq, j_z, *] at hh); exact hh) : Ev Y μ0 rem L st μ Post := ev_br hT hF hc (fun h => kt (g1 h)) (fun h => kf (g2 h))
theorem lf_A {p : Prop} (h : p := by first | rfl | assumption | (simp (disch := first | assumption | omega | decide) only [i_add, i_mul, n_cl, nI_and7, nI_and3, v_in, i_eq, i_lt, i_le, i_eq0, i_lt0, i_ge0, i_gt0, i_le0, ↓lg_cmp_eq, ↓lg_cmp_ge, ↓lg_cmp_gt, ↓lg_cmp_le, ↓lg_cmp_lt, zb_e0, zb_n0, Classical.not_not, up_ne, Nat.zero_add, Nat.add_zero, rc_num hC, rc_hol hC, rc_who hC, rc_rea hC, rc_par hC, rc_nn hC, rc_xx hC, rc_ff hC, rc_nxt hC, rc_lin hC, rc_sor hC, rc_len hC, rc_own hC, rc_tim hC, rc_tal hC, rc_dbl hC, rc_flt hC, rc_mad hC, rc_trc hC, rc_mk0 hC, rc_mk1 hC, rc_mk2 hC, rc_tix hC, rc_thg hC, rm_num hM, rm_hol hM, rm_who hM, rm_rea hM, rm_par hM, rm_nn hM, rm_xx hM, rm_ff hM, rm_nxt hM, rm_lin hM, rm_sor hM, rm_len hM, rm_own hM, rm_tim hM, rm_tal hM, rm_dbl hM, rm_flt hM, rm_mad hM, rm_trc hM, rm_mk hM, tR_s, tR_n, eI_s, eI_n, e_nm, e_mm, lN_i, l_lt, l_le, l_eq, l_z, lN_t, nI_tl, n_s1, i_sub, eLi, eL_s, eL_n, up_eq, mkz, i_l1, i_l2, i_l3, n_ti, i_tl2, e_mn, rc_wan hC, rc_cal hC, rc_prg hC, rc_str hC, rc_pix hC, rc_psz hC, rc_phn hC, rc_pop hC, rc_paa hC, rc_pbb hC, rc_pcc hC, rc_hfr hC, rc_hto hC, rc_hfl hC, rc_hpl hC, rc_six hC, rc_dep hC, rc_pla hC, rc_don hC, rc_fai hC, rc_fno hC, rc_lat hC, rc_lpr hC, rc_lpl hC, rm_psz hM, rm_pop hM, rm_paa hM, rm_pbb hM, rm_pcc hM, rm_phn hM, rm_hfr hM, rm_hto hM, rm_hfl hM, rm_hpl hM, rm_isn hM, rm_dep hM, rm_cal hM, rm_pla hM, rm_don hM, rm_fai hM, rm_lat hM, rm_lpr hM, rm_lpl hM, rm_wan hM, Nat.add_sub_cancel, rm_mk0 hM, rm_mk1 hM, rm_mk2 hM, mks0, mks1, mks2, jl, n_s1j, j_lt, j_le, j_eq, j_z, *] <;> first | rfl | assumption | omega | decide)) : p := h
theorem Q_number {ci : Nat → Nat → Nat → Int32} {cn : Nat → Nat → Nat → Nat} {co : Nat → Option Nat} {xj : Nat → Nat → Nat → Int64} {xd : Nat → Nat → Nat → UInt64} {xf : Nat → Nat → Nat → UInt32} {xo : Nat → Nat → Nat → Option Nat} {xi : Nat → Nat → Nat → Int32} {xn : Nat → Nat → Nat → Nat} {K : Nat → Nat} {I : Nat → Nat → Int32} {J : Nat → Nat → Int64} {F : Nat → Nat → UInt32} {D : Nat → Nat → UInt64} {R : Nat → Nat → Option Nat} {nx sl : Nat} {Km : Nat → Nat} {Im : Nat → Nat → Int32} {Jm : Nat → Nat → Int64} {Fm : Nat → Nat → UInt32} {Dm : Nat → Nat → UInt64} {Rm : Nat → Nat → Option Nat} {nxm slm : Nat} (hC : RC ci cn co xj xd xf xo xi xn I J F D R nx sl) (hM : RM ci cn co xj xd xf xo xi xn Im Jm Dm) (hI : IC ci cn) (hW : IW cn co) {th kk : Int32} : Ct Y_MW_number [vr 10 6, vi th, vi kk] (K, I, J, F, D, R, nx, sl) (fun r μ1 => Ct Y_MM_number2 [vr 11 6, vi th, vi kk] (Km, Im, Jm, Fm, Dm, Rm, nxm, slm) (fun r2 μ2 => r = r2 ∧ RELS μ1 μ2)) := by
  rcases icc th 3 (by decide) with ⟨t, ht, rfl⟩ | hth
  · skip
    rcases icc kk 8 (by decide) with ⟨k, hk, rfl⟩ | hkk
    · skip
      refine ct_of h_MW_number rfl rfl rfl ?_
      refine ev_g0 rfl ?_
      refine ev_inV 1 k_MW_95 h_MW_strandAt rfl rfl rfl rfl rfl ⟨by decide, by decide⟩ rfl ?_
      refine ev_gA [false, false] [some (32 + 7 * t)] rfl ?_
      refine ev_reta rfl ?_
      refine ev_gA [false, true] [] rfl ?_
      refine ev_inV 1 k_MW_119 h_SD_n rfl rfl rfl rfl rfl ⟨by decide, by decide⟩ rfl ?_
      refine ev_gA [] [] rfl ?_
      refine ev_retl rfl ?_
      refine ev_g0 rfl ?_
      refine ev_retl rfl ?_
      refine ct_of h_MM_number2 rfl rfl rfl ?_
      refine ev_g0 rfl ?_
      refine ev_inS 3 k_MM_188 h_MM_in rfl rfl rfl rfl ⟨by decide, by decide⟩ rfl ?_
      refine ev_gA [false, false] [] rfl ?_
      refine ev_retz rfl (by first | decide | exact zb_01 _) ?_
      refine ev_gA [false] [] rfl ?_
      refine ev_inS 1 k_MM_218 h_MM_isN rfl rfl rfl rfl ⟨by decide, by decide⟩ rfl ?_
      refine ev_g0 rfl ?_
      refine ev_inS 3 k_MM_188 h_MM_in rfl rfl rfl rfl ⟨by decide, by decide⟩ rfl ?_
      refine ev_gA [false, false] [] rfl ?_
      refine ev_retz rfl (by first | decide | exact zb_01 _) ?_
      refine ev_g0 rfl ?_
      refine ev_retz rfl (by first | decide | exact zb_01 _) ?_
      refine ev_gA [false] [] rfl ?_
      refine ev_retl rfl ?_
      exact ⟨lf_A, ci, cn, co, xj, xd, xf, xo, xi, xn, hC, hM, hI, hW⟩
    · skip
      refine ct_of h_MW_number rfl rfl rfl ?_
      refine ev_g0 rfl ?_
      refine ev_inV 1 k_MW_95 h_MW_strandAt rfl rfl rfl rfl rfl ⟨by decide, by decide⟩ rfl ?_
      refine ev_gA [false, false] [some (32 + 7 * t)] rfl ?_
      refine ev_reta rfl ?_
      refine ev_g0 rfl ?_
      refine ev_bA rfl rfl (fun h_1 => ?_) (fun h_1 => ?_)
      · skip
        refine ev_g0 rfl ?_
        refine ev_retl rfl ?_
        refine ct_of h_MM_number2 rfl rfl rfl ?_
        refine ev_g0 rfl ?_
        refine ev_inS 3 k_MM_188 h_MM_in rfl rfl rfl rfl ⟨by decide, by decide⟩ rfl ?_
        refine ev_gA [false, false] [] rfl ?_
        refine ev_retz rfl (by first | decide | exact zb_01 _) ?_
        refine ev_gA [false] [] rfl ?_
        refine ev_inS 1 k_MM_218 h_MM_isN rfl rfl rfl rfl ⟨by decide, by decide⟩ rfl ?_
        refine ev_g0 rfl ?_
        refine ev_inS 3 k_MM_188 h_MM_in rfl rfl rfl rfl ⟨by decide, by decide⟩ rfl ?_
        refine ev_gA [true] [] rfl ?_
        refine ev_retz rfl (by first | decide | exact zb_01 _) ?_
        refine ev_g0 rfl ?_
        refine ev_retz rfl (by first | decide | exact zb_01 _) ?_
        refine ev_gA [true] [] rfl ?_
        refine ev_retl rfl ?_
        exact ⟨lf_A, ci, cn, co, xj, xd, xf, xo, xi, xn, hC, hM, hI, hW⟩
      · skip
        refine ev_gA [false] [] rfl ?_
        refine ev_retl rfl ?_
        refine ct_of h_MM_number2 rfl rfl rfl ?_
        refine ev_g0 rfl ?_
        refine ev_inS 3 k_MM_188 h_MM_in rfl rfl rfl rfl ⟨by decide, by decide⟩ rfl ?_
        refine ev_gA [false, false] [] rfl ?_
        refine ev_retz rfl (by first | decide | exact zb_01 _) ?_
        refine ev_gA [false] [] rfl ?_
        refine ev_inS 1 k_MM_218 h_MM_isN rfl rfl rfl rfl ⟨by decide, by decide⟩ rfl ?_
        refine ev_g0 rfl ?_
        refine ev_inS 3 k_MM_188 h_MM_in rfl rfl rfl rfl ⟨by decide, by decide⟩ rfl ?_
        refine ev_gA [false, true] [] rfl ?_
        refine ev_retz rfl (by first | decide | exact zb_01 _) ?_
        refine ev_g0 rfl ?_
        refine ev_retz rfl (by first | decide | exact zb_01 _) ?_
        refine ev_gA [true] [] rfl ?_
        refine ev_retl rfl ?_
        exact ⟨lf_A, ci, cn, co, xj, xd, xf, xo, xi, xn, hC, hM, hI, hW⟩
  · skip
    refine ct_of h_MW_number rfl rfl rfl ?_
    refine ev_g0 rfl ?_
    refine ev_inV 1 k_MW_95 h_MW_strandAt rfl rfl rfl rfl rfl ⟨by decide, by decide⟩ rfl ?_
    refine ev_g0 rfl ?_
    refine ev_bA rfl rfl (fun h_2 => ?_) (fun h_2 => ?_)
    · skip
      refine ev_g0 rfl ?_
      refine ev_retn rfl ?_
      refine ev_g0 rfl ?_
      refine ev_retl rfl ?_
      refine ct_of h_MM_number2 rfl rfl rfl ?_
      refine ev_g0 rfl ?_
      refine ev_inS 3 k_MM_188 h_MM_in rfl rfl rfl rfl ⟨by decide, by decide⟩ rfl ?_
      refine ev_gA [true] [] rfl ?_
      refine ev_retz rfl (by first | decide | exact zb_01 _) ?_
      refine ev_gA [true] [] rfl ?_
      refine ev_retl rfl ?_
      exact ⟨lf_A, ci, cn, co, xj, xd, xf, xo, xi, xn, hC, hM, hI, hW⟩
    · skip
      refine ev_gA [true] [] rfl ?_
      refine ev_retn rfl ?_
      refine ev_g0 rfl ?_
      refine ev_retl rfl ?_
      refine ct_of h_MM_number2 rfl rfl rfl ?_
      refine ev_g0 rfl ?_
      refine ev_inS 3 k_MM_188 h_MM_in rfl rfl rfl rfl ⟨by decide, by decide⟩ rfl ?_
      refine ev_gA [false, true] [] rfl ?_
      refine ev_retz rfl (by first | decide | exact zb_01 _) ?_
      refine ev_gA [true] [] rfl ?_
      refine ev_retl rfl ?_
      exact ⟨lf_A, ci, cn, co, xj, xd, xf, xo, xi, xn, hC, hM, hI, hW⟩
theorem Q_hold {ci : Nat → Nat → Nat → Int32} {cn : Nat → Nat → Nat → Nat} {co : Nat → Option Nat} {xj : Nat → Nat → Nat → Int64} {xd : Nat → Nat → Nat → UInt64} {xf : Nat → Nat → Nat → UInt32} {xo : Nat → Nat → Nat → Option Nat} {xi : Nat → Nat → Nat → Int32} {xn : Nat → Nat → Nat → Nat} {K : Nat → Nat} {I : Nat → Nat → Int32} {J : Nat → Nat → Int64} {F : Nat → Nat → UInt32} {D : Nat → Nat → UInt64} {R : Nat → Nat → Option Nat} {nx sl : Nat} {Km : Nat → Nat} {Im : Nat → Nat → Int32} {Jm : Nat → Nat → Int64} {Fm : Nat → Nat → UInt32} {Dm : Nat → Nat → UInt64} {Rm : Nat → Nat → Option Nat} {nxm slm : Nat} (hC : RC ci cn co xj xd xf xo xi xn I J F D R nx sl) (hM : RM ci cn co xj xd xf xo xi xn Im Jm Dm) (hI : IC ci cn) (hW : IW cn co) {th kk : Int32} : Ct Y_MW_hold [vr 10 6, vi th, vi kk] (K, I, J, F, D, R, nx, sl) (fun r μ1 => Ct Y_MM_hold2 [vr 11 6, vi th, vi kk] (Km, Im, Jm, Fm, Dm, Rm, nxm, slm) (fun r2 μ2 => r = r2 ∧ RELS μ1 μ2)) := by
  rcases icc th 3 (by decide) with ⟨t, ht, rfl⟩ | hth
  · skip
    rcases icc kk 8 (by decide) with ⟨k, hk, rfl⟩ | hkk
    · skip
      rcases ho : xo 0 t k with _ | q
      · skip
        refine ct_of h_MW_hold rfl rfl rfl ?_
        refine ev_g0 rfl ?_
        refine ev_inV 1 k_MW_95 h_MW_strandAt rfl rfl rfl rfl rfl ⟨by decide, by decide⟩ rfl ?_
        refine ev_gA [false, false] [some (32 + 7 * t)] rfl ?_
        refine ev_reta rfl ?_
        refine ev_gA [false, true] [] rfl ?_
        refine ev_inV 1 k_MW_139 h_SD_t rfl rfl rfl rfl rfl ⟨by decide, by decide⟩ rfl ?_
        refine ev_gA [] [none] rfl ?_
        refine ev_retn rfl ?_
        refine ev_g0 rfl ?_
        refine ev_inS 1 k_MW_143 h_MW_indexOf rfl rfl rfl rfl ⟨by decide, by decide⟩ rfl ?_
        refine ev_g0 rfl ?_
        refine ev_reti rfl ?_
        refine ev_g0 rfl ?_
        refine ev_reti rfl ?_
        refine ct_of h_MM_hold2 rfl rfl rfl ?_
        refine ev_g0 rfl ?_
        refine ev_inS 3 k_MM_188 h_MM_in rfl rfl rfl rfl ⟨by decide, by decide⟩ rfl ?_
        refine ev_gA [false, false] [] rfl ?_
        refine ev_retz rfl (by first | decide | exact zb_01 _) ?_
        refine ev_gA [false] [] rfl ?_
        refine ev_inS 1 k_MM_218 h_MM_isN rfl rfl rfl rfl ⟨by decide, by decide⟩ rfl ?_
        refine ev_g0 rfl ?_
        refine ev_inS 3 k_MM_188 h_MM_in rfl rfl rfl rfl ⟨by decide, by decide⟩ rfl ?_
        refine ev_gA [false, false] [] rfl ?_
        refine ev_retz rfl (by first | decide | exact zb_01 _) ?_
        refine ev_g0 rfl ?_
        refine ev_retz rfl (by first | decide | exact zb_01 _) ?_
        refine ev_gA [false] [] rfl ?_
        refine ev_reti rfl ?_
        exact ⟨lf_A, ci, cn, co, xj, xd, xf, xo, xi, xn, hC, hM, hI, hW⟩
      · skip
        have hq := rc_ihol hC ht hk _ ho
        have yq := rc_imad hC
        refine ct_of h_MW_hold rfl rfl rfl ?_
        refine ev_g0 rfl ?_
        refine ev_inV 1 k_MW_95 h_MW_strandAt rfl rfl rfl rfl rfl ⟨by decide, by decide⟩ rfl ?_
        refine ev_gA [false, false] [some (32 + 7 * t)] rfl ?_
        refine ev_reta rfl ?_
        refine ev_gA [false, true] [] rfl ?_
        refine ev_inV 1 k_MW_139 h_SD_t rfl rfl rfl rfl rfl ⟨by decide, by decide⟩ rfl ?_
        refine ev_gA [] [some (94 + 4 * q)] rfl ?_
        refine ev_reta rfl ?_
        refine ev_g0 rfl ?_
        refine ev_inS 1 k_MW_143 h_MW_indexOf rfl rfl rfl rfl ⟨by decide, by decide⟩ rfl ?_
        refine ev_g0 rfl ?_
        refine ev_reti rfl ?_
        refine ev_g0 rfl ?_
        refine ev_reti rfl ?_
        refine ct_of h_MM_hold2 rfl rfl rfl ?_
        refine ev_g0 rfl ?_
        refine ev_inS 3 k_MM_188 h_MM_in rfl rfl rfl rfl ⟨by decide, by decide⟩ rfl ?_
        refine ev_gA [false, false] [] rfl ?_
        refine ev_retz rfl (by first | decide | exact zb_01 _) ?_
        refine ev_gA [false] [] rfl ?_
        refine ev_inS 1 k_MM_218 h_MM_isN rfl rfl rfl rfl ⟨by decide, by decide⟩ rfl ?_
        refine ev_g0 rfl ?_
        refine ev_inS 3 k_MM_188 h_MM_in rfl rfl rfl rfl ⟨by decide, by decide⟩ rfl ?_
        refine ev_gA [false, false] [] rfl ?_
        refine ev_retz rfl (by first | decide | exact zb_01 _) ?_
        refine ev_g0 rfl ?_
        refine ev_retz rfl (by first | decide | exact zb_01 _) ?_
        refine ev_gA [false] [] rfl ?_
        refine ev_reti rfl ?_
        exact ⟨lf_A, ci, cn, co, xj, xd, xf, xo, xi, xn, hC, hM, hI, hW⟩
    · skip
      refine ct_of h_MW_hold rfl rfl rfl ?_
      refine ev_g0 rfl ?_
      refine ev_inV 1 k_MW_95 h_MW_strandAt rfl rfl rfl rfl rfl ⟨by decide, by decide⟩ rfl ?_
      refine ev_gA [false, false] [some (32 + 7 * t)] rfl ?_
      refine ev_reta rfl ?_
      refine ev_g0 rfl ?_
      refine ev_bA rfl rfl (fun h_1 => ?_) (fun h_1 => ?_)
      · skip
        refine ev_g0 rfl ?_
        refine ev_reti rfl ?_
        refine ct_of h_MM_hold2 rfl rfl rfl ?_
        refine ev_g0 rfl ?_
        refine ev_inS 3 k_MM_188 h_MM_in rfl rfl rfl rfl ⟨by decide, by decide⟩ rfl ?_
        refine ev_gA [false, false] [] rfl ?_
        refine ev_retz rfl (by first | decide | exact zb_01 _) ?_
        refine ev_gA [false] [] rfl ?_
        refine ev_inS 1 k_MM_218 h_MM_isN rfl rfl rfl rfl ⟨by decide, by decide⟩ rfl ?_
        refine ev_g0 rfl ?_
        refine ev_inS 3 k_MM_188 h_MM_in rfl rfl rfl rfl ⟨by decide, by decide⟩ rfl ?_
        refine ev_gA [true] [] rfl ?_
        refine ev_retz rfl (by first | decide | exact zb_01 _) ?_
        refine ev_g0 rfl ?_
        refine ev_retz rfl (by first | decide | exact zb_01 _) ?_
        refine ev_gA [true] [] rfl ?_
        refine ev_reti rfl ?_
        exact ⟨lf_A, ci, cn, co, xj, xd, xf, xo, xi, xn, hC, hM, hI, hW⟩
      · skip
        refine ev_gA [false] [] rfl ?_
        refine ev_reti rfl ?_
        refine ct_of h_MM_hold2 rfl rfl rfl ?_
        refine ev_g0 rfl ?_
        refine ev_inS 3 k_MM_188 h_MM_in rfl rfl rfl rfl ⟨by decide, by decide⟩ rfl ?_
        refine ev_gA [false, false] [] rfl ?_
        refine ev_retz rfl (by first | decide | exact zb_01 _) ?_
        refine ev_gA [false] [] rfl ?_
        refine ev_inS 1 k_MM_218 h_MM_isN rfl rfl rfl rfl ⟨by decide, by decide⟩ rfl ?_
        refine ev_g0 rfl ?_
        refine ev_inS 3 k_MM_188 h_MM_in rfl rfl rfl rfl ⟨by decide, by decide⟩ rfl ?_
        refine ev_gA [false, true] [] rfl ?_
        refine ev_retz rfl (by first | decide | exact zb_01 _) ?_
        refine ev_g0 rfl ?_
        refine ev_retz rfl (by first | decide | exact zb_01 _) ?_
        refine ev_gA [true] [] rfl ?_
        refine ev_reti rfl ?_
        exact ⟨lf_A, ci, cn, co, xj, xd, xf, xo, xi, xn, hC, hM, hI, hW⟩
  · skip
    refine ct_of h_MW_hold rfl rfl rfl ?_
    refine ev_g0 rfl ?_
    refine ev_inV 1 k_MW_95 h_MW_strandAt rfl rfl rfl rfl rfl ⟨by decide, by decide⟩ rfl ?_
    refine ev_g0 rfl ?_
    refine ev_bA rfl rfl (fun h_2 => ?_) (fun h_2 => ?_)
    · skip
      refine ev_g0 rfl ?_
      refine ev_retn rfl ?_
      refine ev_g0 rfl ?_
      refine ev_reti rfl ?_
      refine ct_of h_MM_hold2 rfl rfl rfl ?_
      refine ev_g0 rfl ?_
      refine ev_inS 3 k_MM_188 h_MM_in rfl rfl rfl rfl ⟨by decide, by decide⟩ rfl ?_
      refine ev_gA [true] [] rfl ?_
      refine ev_retz rfl (by first | decide | exact zb_01 _) ?_
      refine ev_gA [true] [] rfl ?_
      refine ev_reti rfl ?_
      exact ⟨lf_A, ci, cn, co, xj, xd, xf, xo, xi, xn, hC, hM, hI, hW⟩
    · skip
      refine ev_gA [true] [] rfl ?_
      refine ev_retn rfl ?_
      refine ev_g0 rfl ?_
      refine ev_reti rfl ?_
      refine ct_of h_MM_hold2 rfl rfl rfl ?_
      refine ev_g0 rfl ?_
      refine ev_inS 3 k_MM_188 h_MM_in rfl rfl rfl rfl ⟨by decide, by decide⟩ rfl ?_
      refine ev_gA [false, true] [] rfl ?_
      refine ev_retz rfl (by first | decide | exact zb_01 _) ?_
      refine ev_gA [true] [] rfl ?_
      refine ev_reti rfl ?_
      exact ⟨lf_A, ci, cn, co, xj, xd, xf, xo, xi, xn, hC, hM, hI, hW⟩
theorem Q_told {ci : Nat → Nat → Nat → Int32} {cn : Nat → Nat → Nat → Nat} {co : Nat → Option Nat} {xj : Nat → Nat → Nat → Int64} {xd : Nat → Nat → Nat → UInt64} {xf : Nat → Nat → Nat → UInt32} {xo : Nat → Nat → Nat → Option Nat} {xi : Nat → Nat → Nat → Int32} {xn : Nat → Nat → Nat → Nat} {K : Nat → Nat} {I : Nat → Nat → Int32} {J : Nat → Nat → Int64} {F : Nat → Nat → UInt32} {D : Nat → Nat → UInt64} {R : Nat → Nat → Option Nat} {nx sl : Nat} {Km : Nat → Nat} {Im : Nat → Nat → Int32} {Jm : Nat → Nat → Int64} {Fm : Nat → Nat → UInt32} {Dm : Nat → Nat → UInt64} {Rm : Nat → Nat → Option Nat} {nxm slm : Nat} (hC : RC ci cn co xj xd xf xo xi xn I J F D R nx sl) (hM : RM ci cn co xj xd xf xo xi xn Im Jm Dm) (hI : IC ci cn) (hW : IW cn co) {th kk : Int32} : Ct Y_MW_told [vr 10 6, vi th, vi kk] (K, I, J, F, D, R, nx, sl) (fun r μ1 => Ct Y_MM_told [vr 11 6, vi th, vi kk] (Km, Im, Jm, Fm, Dm, Rm, nxm, slm) (fun r2 μ2 => r = r2 ∧ RELS μ1 μ2)) := by
  rcases icc th 3 (by decide) with ⟨t, ht, rfl⟩ | hth
  · skip
    rcases icc kk 8 (by decide) with ⟨k, hk, rfl⟩ | hkk
    · skip
      have hd8 := hI.1 t ht
      rcases (by omega : k = 0 ∨ k = 1 ∨ k = 2 ∨ k = 3 ∨ k = 4 ∨ k = 5 ∨ k = 6 ∨ k = 7) with rfl | rfl | rfl | rfl | rfl | rfl | rfl | rfl
      · skip
        refine ct_of h_MW_told rfl rfl rfl ?_
        refine ev_g0 rfl ?_
        refine ev_inV 1 k_MW_95 h_MW_strandAt rfl rfl rfl rfl rfl ⟨by decide, by decide⟩ rfl ?_
        refine ev_gA [false, false] [some (32 + 7 * t)] rfl ?_
        refine ev_reta rfl ?_
        refine ev_gA [] [some 0] rfl ?_
        refine ev_reti rfl ?_
        refine ct_of h_MM_told rfl rfl rfl ?_
        refine ev_g0 rfl ?_
        refine ev_inS 3 k_MM_188 h_MM_in rfl rfl rfl rfl ⟨by decide, by decide⟩ rfl ?_
        refine ev_gA [false, false] [] rfl ?_
        refine ev_retz rfl (by first | decide | exact zb_01 _) ?_
        refine ev_gA [true] [some 0] rfl ?_
        refine ev_reti rfl ?_
        exact ⟨lf_A, ci, cn, co, xj, xd, xf, xo, xi, xn, hC, hM, hI, hW⟩
      · skip
        refine ct_of h_MW_told rfl rfl rfl ?_
        refine ev_g0 rfl ?_
        refine ev_inV 1 k_MW_95 h_MW_strandAt rfl rfl rfl rfl rfl ⟨by decide, by decide⟩ rfl ?_
        refine ev_gA [false, false] [some (32 + 7 * t)] rfl ?_
        refine ev_reta rfl ?_
        refine ev_gA [] [some 1] rfl ?_
        refine ev_reti rfl ?_
        refine ct_of h_MM_told rfl rfl rfl ?_
        refine ev_g0 rfl ?_
        refine ev_inS 3 k_MM_188 h_MM_in rfl rfl rfl rfl ⟨by decide, by decide⟩ rfl ?_
        refine ev_gA [false, false] [] rfl ?_
        refine ev_retz rfl (by first | decide | exact zb_01 _) ?_
        refine ev_gA [true] [some 1] rfl ?_
        refine ev_reti rfl ?_
        exact ⟨lf_A, ci, cn, co, xj, xd, xf, xo, xi, xn, hC, hM, hI, hW⟩
      · skip
        refine ct_of h_MW_told rfl rfl rfl ?_
        refine ev_g0 rfl ?_
        refine ev_inV 1 k_MW_95 h_MW_strandAt rfl rfl rfl rfl rfl ⟨by decide, by decide⟩ rfl ?_
        refine ev_gA [false, false] [some (32 + 7 * t)] rfl ?_
        refine ev_reta rfl ?_
        refine ev_gA [] [some 2] rfl ?_
        refine ev_reti rfl ?_
        refine ct_of h_MM_told rfl rfl rfl ?_
        refine ev_g0 rfl ?_
        refine ev_inS 3 k_MM_188 h_MM_in rfl rfl rfl rfl ⟨by decide, by decide⟩ rfl ?_
        refine ev_gA [false, false] [] rfl ?_
        refine ev_retz rfl (by first | decide | exact zb_01 _) ?_
        refine ev_gA [true] [some 2] rfl ?_
        refine ev_reti rfl ?_
        exact ⟨lf_A, ci, cn, co, xj, xd, xf, xo, xi, xn, hC, hM, hI, hW⟩
      · skip
        refine ct_of h_MW_told rfl rfl rfl ?_
        refine ev_g0 rfl ?_
        refine ev_inV 1 k_MW_95 h_MW_strandAt rfl rfl rfl rfl rfl ⟨by decide, by decide⟩ rfl ?_
        refine ev_gA [false, false] [some (32 + 7 * t)] rfl ?_
        refine ev_reta rfl ?_
        refine ev_gA [] [some 3] rfl ?_
        refine ev_reti rfl ?_
        refine ct_of h_MM_told rfl rfl rfl ?_
        refine ev_g0 rfl ?_
        refine ev_inS 3 k_MM_188 h_MM_in rfl rfl rfl rfl ⟨by decide, by decide⟩ rfl ?_
        refine ev_gA [false, false] [] rfl ?_
        refine ev_retz rfl (by first | decide | exact zb_01 _) ?_
        refine ev_gA [true] [some 3] rfl ?_
        refine ev_reti rfl ?_
        exact ⟨lf_A, ci, cn, co, xj, xd, xf, xo, xi, xn, hC, hM, hI, hW⟩
      · skip
        refine ct_of h_MW_told rfl rfl rfl ?_
        refine ev_g0 rfl ?_
        refine ev_inV 1 k_MW_95 h_MW_strandAt rfl rfl rfl rfl rfl ⟨by decide, by decide⟩ rfl ?_
        refine ev_gA [false, false] [some (32 + 7 * t)] rfl ?_
        refine ev_reta rfl ?_
        refine ev_gA [] [some 4] rfl ?_
        refine ev_reti rfl ?_
        refine ct_of h_MM_told rfl rfl rfl ?_
        refine ev_g0 rfl ?_
        refine ev_inS 3 k_MM_188 h_MM_in rfl rfl rfl rfl ⟨by decide, by decide⟩ rfl ?_
        refine ev_gA [false, false] [] rfl ?_
        refine ev_retz rfl (by first | decide | exact zb_01 _) ?_
        refine ev_gA [true] [some 4] rfl ?_
        refine ev_reti rfl ?_
        exact ⟨lf_A, ci, cn, co, xj, xd, xf, xo, xi, xn, hC, hM, hI, hW⟩
      · skip
        refine ct_of h_MW_told rfl rfl rfl ?_
        refine ev_g0 rfl ?_
        refine ev_inV 1 k_MW_95 h_MW_strandAt rfl rfl rfl rfl rfl ⟨by decide, by decide⟩ rfl ?_
        refine ev_gA [false, false] [some (32 + 7 * t)] rfl ?_
        refine ev_reta rfl ?_
        refine ev_gA [] [some 5] rfl ?_
        refine ev_reti rfl ?_
        refine ct_of h_MM_told rfl rfl rfl ?_
        refine ev_g0 rfl ?_
        refine ev_inS 3 k_MM_188 h_MM_in rfl rfl rfl rfl ⟨by decide, by decide⟩ rfl ?_
        refine ev_gA [false, false] [] rfl ?_
        refine ev_retz rfl (by first | decide | exact zb_01 _) ?_
        refine ev_gA [true] [some 5] rfl ?_
        refine ev_reti rfl ?_
        exact ⟨lf_A, ci, cn, co, xj, xd, xf, xo, xi, xn, hC, hM, hI, hW⟩
      · skip
        rcases hw : co t with _ | q
        · skip
          refine ct_of h_MW_told rfl rfl rfl ?_
          refine ev_g0 rfl ?_
          refine ev_inV 1 k_MW_95 h_MW_strandAt rfl rfl rfl rfl rfl ⟨by decide, by decide⟩ rfl ?_
          refine ev_gA [false, false] [some (32 + 7 * t)] rfl ?_
          refine ev_reta rfl ?_
          refine ev_gA [] [some 6, none] rfl ?_
          refine ev_inS 1 k_MW_143 h_MW_indexOf rfl rfl rfl rfl ⟨by decide, by decide⟩ rfl ?_
          refine ev_g0 rfl ?_
          refine ev_reti rfl ?_
          refine ev_g0 rfl ?_
          refine ev_reti rfl ?_
          refine ct_of h_MM_told rfl rfl rfl ?_
          refine ev_g0 rfl ?_
          refine ev_inS 3 k_MM_188 h_MM_in rfl rfl rfl rfl ⟨by decide, by decide⟩ rfl ?_
          refine ev_gA [false, false] [] rfl ?_
          refine ev_retz rfl (by first | decide | exact zb_01 _) ?_
          refine ev_gA [true] [some 6] rfl ?_
          refine ev_reti rfl ?_
          exact ⟨lf_A, ci, cn, co, xj, xd, xf, xo, xi, xn, hC, hM, hI, hW⟩
        · skip
          have hq := rc_iwan hC ht _ hw
          have yq := rc_imad hC
          refine ct_of h_MW_told rfl rfl rfl ?_
          refine ev_g0 rfl ?_
          refine ev_inV 1 k_MW_95 h_MW_strandAt rfl rfl rfl rfl rfl ⟨by decide, by decide⟩ rfl ?_
          refine ev_gA [false, false] [some (32 + 7 * t)] rfl ?_
          refine ev_reta rfl ?_
          refine ev_gA [] [some 6, some (94 + 4 * q)] rfl ?_
          refine ev_inS 1 k_MW_143 h_MW_indexOf rfl rfl rfl rfl ⟨by decide, by decide⟩ rfl ?_
          refine ev_g0 rfl ?_
          refine ev_reti rfl ?_
          refine ev_g0 rfl ?_
          refine ev_reti rfl ?_
          refine ct_of h_MM_told rfl rfl rfl ?_
          refine ev_g0 rfl ?_
          refine ev_inS 3 k_MM_188 h_MM_in rfl rfl rfl rfl ⟨by decide, by decide⟩ rfl ?_
          refine ev_gA [false, false] [] rfl ?_
          refine ev_retz rfl (by first | decide | exact zb_01 _) ?_
          refine ev_gA [true] [some 6] rfl ?_
          refine ev_reti rfl ?_
          exact ⟨lf_A, ci, cn, co, xj, xd, xf, xo, xi, xn, hC, hM, hI, hW⟩
      · skip
        by_cases hu : 0 < cn 0 t 0
        · skip
          have hu2 : decide (0 < cn 0 t 0) = true := decide_eq_true hu
          refine ct_of h_MW_told rfl rfl rfl ?_
          refine ev_g0 rfl ?_
          refine ev_inV 1 k_MW_95 h_MW_strandAt rfl rfl rfl rfl rfl ⟨by decide, by decide⟩ rfl ?_
          refine ev_gA [false, false] [some (32 + 7 * t)] rfl ?_
          refine ev_reta rfl ?_
          refine ev_gA [] [some 7] rfl ?_
          refine ev_inV 0 k_MW_99 h_SD_isUnderWay rfl rfl rfl rfl rfl ⟨by decide, by decide⟩ rfl ?_
          refine ev_gA [false] [] rfl ?_
          refine ev_retz rfl (by first | decide | exact zb_01 _) ?_
          refine ev_gA [false] [] rfl ?_
          refine ev_reti rfl ?_
          refine ct_of h_MM_told rfl rfl rfl ?_
          refine ev_g0 rfl ?_
          refine ev_inS 3 k_MM_188 h_MM_in rfl rfl rfl rfl ⟨by decide, by decide⟩ rfl ?_
          refine ev_gA [false, false] [] rfl ?_
          refine ev_retz rfl (by first | decide | exact zb_01 _) ?_
          refine ev_gA [true, false] [some 7] rfl ?_
          refine ev_reti rfl ?_
          exact ⟨lf_A, ci, cn, co, xj, xd, xf, xo, xi, xn, hC, hM, hI, hW⟩
        · skip
          have hu2 : decide (0 < cn 0 t 0) = false := decide_eq_false hu
          refine ct_of h_MW_told rfl rfl rfl ?_
          refine ev_g0 rfl ?_
          refine ev_inV 1 k_MW_95 h_MW_strandAt rfl rfl rfl rfl rfl ⟨by decide, by decide⟩ rfl ?_
          refine ev_gA [false, false] [some (32 + 7 * t)] rfl ?_
          refine ev_reta rfl ?_
          refine ev_gA [] [some 7] rfl ?_
          refine ev_inV 0 k_MW_99 h_SD_isUnderWay rfl rfl rfl rfl rfl ⟨by decide, by decide⟩ rfl ?_
          refine ev_gA [true] [] rfl ?_
          refine ev_retz rfl (by first | decide | exact zb_01 _) ?_
          refine ev_gA [true] [] rfl ?_
          refine ev_reti rfl ?_
          refine ct_of h_MM_told rfl rfl rfl ?_
          refine ev_g0 rfl ?_
          refine ev_inS 3 k_MM_188 h_MM_in rfl rfl rfl rfl ⟨by decide, by decide⟩ rfl ?_
          refine ev_gA [false, false] [] rfl ?_
          refine ev_retz rfl (by first | decide | exact zb_01 _) ?_
          refine ev_gA [true, true] [some 7] rfl ?_
          refine ev_reti rfl ?_
          exact ⟨lf_A, ci, cn, co, xj, xd, xf, xo, xi, xn, hC, hM, hI, hW⟩
    · skip
      refine ct_of h_MW_told rfl rfl rfl ?_
      refine ev_g0 rfl ?_
      refine ev_inV 1 k_MW_95 h_MW_strandAt rfl rfl rfl rfl rfl ⟨by decide, by decide⟩ rfl ?_
      refine ev_gA [false, false] [some (32 + 7 * t)] rfl ?_
      refine ev_reta rfl ?_
      refine ev_gA [] [none] rfl ?_
      refine ev_reti rfl ?_
      refine ct_of h_MM_told rfl rfl rfl ?_
      refine ev_g0 rfl ?_
      refine ev_inS 3 k_MM_188 h_MM_in rfl rfl rfl rfl ⟨by decide, by decide⟩ rfl ?_
      refine ev_gA [false, false] [] rfl ?_
      refine ev_retz rfl (by first | decide | exact zb_01 _) ?_
      refine ev_gA [true] [none] rfl ?_
      refine ev_reti rfl ?_
      exact ⟨lf_A, ci, cn, co, xj, xd, xf, xo, xi, xn, hC, hM, hI, hW⟩
  · skip
    refine ct_of h_MW_told rfl rfl rfl ?_
    refine ev_g0 rfl ?_
    refine ev_inV 1 k_MW_95 h_MW_strandAt rfl rfl rfl rfl rfl ⟨by decide, by decide⟩ rfl ?_
    refine ev_g0 rfl ?_
    refine ev_bA rfl rfl (fun h_1 => ?_) (fun h_1 => ?_)
    · skip
      refine ev_g0 rfl ?_
      refine ev_retn rfl ?_
      refine ev_g0 rfl ?_
      refine ev_reti rfl ?_
      refine ct_of h_MM_told rfl rfl rfl ?_
      refine ev_g0 rfl ?_
      refine ev_inS 3 k_MM_188 h_MM_in rfl rfl rfl rfl ⟨by decide, by decide⟩ rfl ?_
      refine ev_gA [true] [] rfl ?_
      refine ev_retz rfl (by first | decide | exact zb_01 _) ?_
      refine ev_gA [false] [] rfl ?_
      refine ev_reti rfl ?_
      exact ⟨lf_A, ci, cn, co, xj, xd, xf, xo, xi, xn, hC, hM, hI, hW⟩
    · skip
      refine ev_gA [true] [] rfl ?_
      refine ev_retn rfl ?_
      refine ev_g0 rfl ?_
      refine ev_reti rfl ?_
      refine ct_of h_MM_told rfl rfl rfl ?_
      refine ev_g0 rfl ?_
      refine ev_inS 3 k_MM_188 h_MM_in rfl rfl rfl rfl ⟨by decide, by decide⟩ rfl ?_
      refine ev_gA [false, true] [] rfl ?_
      refine ev_retz rfl (by first | decide | exact zb_01 _) ?_
      refine ev_gA [false] [] rfl ?_
      refine ev_reti rfl ?_
      exact ⟨lf_A, ci, cn, co, xj, xd, xf, xo, xi, xn, hC, hM, hI, hW⟩
theorem Q_trace {ci : Nat → Nat → Nat → Int32} {cn : Nat → Nat → Nat → Nat} {co : Nat → Option Nat} {xj : Nat → Nat → Nat → Int64} {xd : Nat → Nat → Nat → UInt64} {xf : Nat → Nat → Nat → UInt32} {xo : Nat → Nat → Nat → Option Nat} {xi : Nat → Nat → Nat → Int32} {xn : Nat → Nat → Nat → Nat} {K : Nat → Nat} {I : Nat → Nat → Int32} {J : Nat → Nat → Int64} {F : Nat → Nat → UInt32} {D : Nat → Nat → UInt64} {R : Nat → Nat → Option Nat} {nx sl : Nat} {Km : Nat → Nat} {Im : Nat → Nat → Int32} {Jm : Nat → Nat → Int64} {Fm : Nat → Nat → UInt32} {Dm : Nat → Nat → UInt64} {Rm : Nat → Nat → Option Nat} {nxm slm : Nat} (hC : RC ci cn co xj xd xf xo xi xn I J F D R nx sl) (hM : RM ci cn co xj xd xf xo xi xn Im Jm Dm) (hI : IC ci cn) (hW : IW cn co)  : Ct Y_MW_trace [vr 10 6] (K, I, J, F, D, R, nx, sl) (fun r μ1 => Ct Y_MM_trace [vr 11 6] (Km, Im, Jm, Fm, Dm, Rm, nxm, slm) (fun r2 μ2 => r = r2 ∧ RELS μ1 μ2)) := by
  refine ct_of h_MW_trace rfl rfl rfl ?_
  refine ev_g0 rfl ?_
  refine ev_reti rfl ?_
  refine ct_of h_MM_trace rfl rfl rfl ?_
  refine ev_g0 rfl ?_
  refine ev_reti rfl ?_
  exact ⟨lf_A, ci, cn, co, xj, xd, xf, xo, xi, xn, hC, hM, hI, hW⟩
theorem Q_thing {ci : Nat → Nat → Nat → Int32} {cn : Nat → Nat → Nat → Nat} {co : Nat → Option Nat} {xj : Nat → Nat → Nat → Int64} {xd : Nat → Nat → Nat → UInt64} {xf : Nat → Nat → Nat → UInt32} {xo : Nat → Nat → Nat → Option Nat} {xi : Nat → Nat → Nat → Int32} {xn : Nat → Nat → Nat → Nat} {K : Nat → Nat} {I : Nat → Nat → Int32} {J : Nat → Nat → Int64} {F : Nat → Nat → UInt32} {D : Nat → Nat → UInt64} {R : Nat → Nat → Option Nat} {nx sl : Nat} {Km : Nat → Nat} {Im : Nat → Nat → Int32} {Jm : Nat → Nat → Int64} {Fm : Nat → Nat → UInt32} {Dm : Nat → Nat → UInt64} {Rm : Nat → Nat → Option Nat} {nxm slm : Nat} (hC : RC ci cn co xj xd xf xo xi xn I J F D R nx sl) (hM : RM ci cn co xj xd xf xo xi xn Im Jm Dm) (hI : IC ci cn) (hW : IW cn co) {th kk : Int32} : Ct Y_MW_thing [vr 10 6, vi th, vi kk] (K, I, J, F, D, R, nx, sl) (fun r μ1 => Ct Y_MM_thing [vr 11 6, vi th, vi kk] (Km, Im, Jm, Fm, Dm, Rm, nxm, slm) (fun r2 μ2 => r = r2 ∧ RELS μ1 μ2)) := by
  have ym := rc_imad hC
  rcases icc th (xn 2 0 0) (by omega) with ⟨i, hi, rfl⟩ | hth
  · skip
    rcases icc kk 4 (by decide) with ⟨k, hk, rfl⟩ | hkk
    · skip
      have zi := rc_isor hC hi
      rcases (by omega : k = 0 ∨ k = 1 ∨ k = 2 ∨ k = 3) with rfl | rfl | rfl | rfl
      · skip
        refine ct_of h_MW_thing rfl rfl rfl ?_
        refine ev_g0 rfl ?_
        refine ev_inV 1 k_MW_170 h_SO_at rfl rfl rfl rfl rfl ⟨by decide, by decide⟩ rfl ?_
        refine ev_gA [false, false] [some (94 + 4 * i)] rfl ?_
        refine ev_reta rfl ?_
        refine ev_gA [] [some 0] rfl ?_
        refine ev_reti rfl ?_
        refine ct_of h_MM_thing rfl rfl rfl ?_
        refine ev_g0 rfl ?_
        refine ev_inV 1 k_MM_477 h_MM_isThing rfl rfl rfl rfl rfl ⟨by decide, by decide⟩ rfl ?_
        refine ev_g0 rfl ?_
        refine ev_inS 3 k_MM_188 h_MM_in rfl rfl rfl rfl ⟨by decide, by decide⟩ rfl ?_
        refine ev_gA [false, false] [] rfl ?_
        refine ev_retz rfl (by first | decide | exact zb_01 _) ?_
        refine ev_g0 rfl ?_
        refine ev_retz rfl (by first | decide | exact zb_01 _) ?_
        refine ev_gA [false] [] rfl ?_
        refine ev_inS 3 k_MM_188 h_MM_in rfl rfl rfl rfl ⟨by decide, by decide⟩ rfl ?_
        refine ev_gA [false, false] [] rfl ?_
        refine ev_retz rfl (by first | decide | exact zb_01 _) ?_
        refine ev_gA [true, false] [] rfl ?_
        refine ev_reti rfl ?_
        exact ⟨lf_A, ci, cn, co, xj, xd, xf, xo, xi, xn, hC, hM, hI, hW⟩
      · skip
        refine ct_of h_MW_thing rfl rfl rfl ?_
        refine ev_g0 rfl ?_
        refine ev_inV 1 k_MW_170 h_SO_at rfl rfl rfl rfl rfl ⟨by decide, by decide⟩ rfl ?_
        refine ev_gA [false, false] [some (94 + 4 * i)] rfl ?_
        refine ev_reta rfl ?_
        refine ev_gA [] [some 1] rfl ?_
        refine ev_reti rfl ?_
        refine ct_of h_MM_thing rfl rfl rfl ?_
        refine ev_g0 rfl ?_
        refine ev_inV 1 k_MM_477 h_MM_isThing rfl rfl rfl rfl rfl ⟨by decide, by decide⟩ rfl ?_
        refine ev_g0 rfl ?_
        refine ev_inS 3 k_MM_188 h_MM_in rfl rfl rfl rfl ⟨by decide, by decide⟩ rfl ?_
        refine ev_gA [false, false] [] rfl ?_
        refine ev_retz rfl (by first | decide | exact zb_01 _) ?_
        refine ev_g0 rfl ?_
        refine ev_retz rfl (by first | decide | exact zb_01 _) ?_
        refine ev_gA [false] [] rfl ?_
        refine ev_inS 3 k_MM_188 h_MM_in rfl rfl rfl rfl ⟨by decide, by decide⟩ rfl ?_
        refine ev_gA [false, false] [] rfl ?_
        refine ev_retz rfl (by first | decide | exact zb_01 _) ?_
        refine ev_gA [true, true, false] [] rfl ?_
        refine ev_reti rfl ?_
        exact ⟨lf_A, ci, cn, co, xj, xd, xf, xo, xi, xn, hC, hM, hI, hW⟩
      · skip
        refine ct_of h_MW_thing rfl rfl rfl ?_
        refine ev_g0 rfl ?_
        refine ev_inV 1 k_MW_170 h_SO_at rfl rfl rfl rfl rfl ⟨by decide, by decide⟩ rfl ?_
        refine ev_gA [false, false] [some (94 + 4 * i)] rfl ?_
        refine ev_reta rfl ?_
        refine ev_gA [] [some 2] rfl ?_
        refine ev_reti rfl ?_
        refine ct_of h_MM_thing rfl rfl rfl ?_
        refine ev_g0 rfl ?_
        refine ev_inV 1 k_MM_477 h_MM_isThing rfl rfl rfl rfl rfl ⟨by decide, by decide⟩ rfl ?_
        refine ev_g0 rfl ?_
        refine ev_inS 3 k_MM_188 h_MM_in rfl rfl rfl rfl ⟨by decide, by decide⟩ rfl ?_
        refine ev_gA [false, false] [] rfl ?_
        refine ev_retz rfl (by first | decide | exact zb_01 _) ?_
        refine ev_g0 rfl ?_
        refine ev_retz rfl (by first | decide | exact zb_01 _) ?_
        refine ev_gA [false] [] rfl ?_
        refine ev_inS 3 k_MM_188 h_MM_in rfl rfl rfl rfl ⟨by decide, by decide⟩ rfl ?_
        refine ev_gA [false, false] [] rfl ?_
        refine ev_retz rfl (by first | decide | exact zb_01 _) ?_
        refine ev_gA [true, true, true, false] [] rfl ?_
        refine ev_reti rfl ?_
        exact ⟨lf_A, ci, cn, co, xj, xd, xf, xo, xi, xn, hC, hM, hI, hW⟩
      · skip
        refine ct_of h_MW_thing rfl rfl rfl ?_
        refine ev_g0 rfl ?_
        refine ev_inV 1 k_MW_170 h_SO_at rfl rfl rfl rfl rfl ⟨by decide, by decide⟩ rfl ?_
        refine ev_gA [false, false] [some (94 + 4 * i)] rfl ?_
        refine ev_reta rfl ?_
        refine ev_gA [] [some 3] rfl ?_
        refine ev_reti rfl ?_
        refine ct_of h_MM_thing rfl rfl rfl ?_
        refine ev_g0 rfl ?_
        refine ev_inV 1 k_MM_477 h_MM_isThing rfl rfl rfl rfl rfl ⟨by decide, by decide⟩ rfl ?_
        refine ev_g0 rfl ?_
        refine ev_inS 3 k_MM_188 h_MM_in rfl rfl rfl rfl ⟨by decide, by decide⟩ rfl ?_
        refine ev_gA [false, false] [] rfl ?_
        refine ev_retz rfl (by first | decide | exact zb_01 _) ?_
        refine ev_g0 rfl ?_
        refine ev_retz rfl (by first | decide | exact zb_01 _) ?_
        refine ev_gA [false] [] rfl ?_
        refine ev_inS 3 k_MM_188 h_MM_in rfl rfl rfl rfl ⟨by decide, by decide⟩ rfl ?_
        refine ev_gA [false, false] [] rfl ?_
        refine ev_retz rfl (by first | decide | exact zb_01 _) ?_
        refine ev_gA [true, true, true, true] [] rfl ?_
        refine ev_reti rfl ?_
        exact ⟨lf_A, ci, cn, co, xj, xd, xf, xo, xi, xn, hC, hM, hI, hW⟩
    · skip
      refine ct_of h_MW_thing rfl rfl rfl ?_
      refine ev_g0 rfl ?_
      refine ev_inV 1 k_MW_170 h_SO_at rfl rfl rfl rfl rfl ⟨by decide, by decide⟩ rfl ?_
      refine ev_gA [false, false] [some (94 + 4 * i)] rfl ?_
      refine ev_reta rfl ?_
      refine ev_gA [] [none] rfl ?_
      refine ev_reti rfl ?_
      refine ct_of h_MM_thing rfl rfl rfl ?_
      refine ev_g0 rfl ?_
      refine ev_inV 1 k_MM_477 h_MM_isThing rfl rfl rfl rfl rfl ⟨by decide, by decide⟩ rfl ?_
      refine ev_g0 rfl ?_
      refine ev_inS 3 k_MM_188 h_MM_in rfl rfl rfl rfl ⟨by decide, by decide⟩ rfl ?_
      refine ev_gA [false, false] [] rfl ?_
      refine ev_retz rfl (by first | decide | exact zb_01 _) ?_
      refine ev_g0 rfl ?_
      refine ev_retz rfl (by first | decide | exact zb_01 _) ?_
      refine ev_gA [false] [] rfl ?_
      refine ev_inS 3 k_MM_188 h_MM_in rfl rfl rfl rfl ⟨by decide, by decide⟩ rfl ?_
      refine ev_g0 rfl ?_
      refine ev_bA rfl rfl (fun h_1 => ?_) (fun h_1 => ?_)
      · skip
        refine ev_g0 rfl ?_
        refine ev_retz rfl (by first | decide | exact zb_01 _) ?_
        refine ev_gA [false] [] rfl ?_
        refine ev_reti rfl ?_
        exact ⟨lf_A, ci, cn, co, xj, xd, xf, xo, xi, xn, hC, hM, hI, hW⟩
      · skip
        refine ev_gA [true] [] rfl ?_
        refine ev_retz rfl (by first | decide | exact zb_01 _) ?_
        refine ev_gA [false] [] rfl ?_
        refine ev_reti rfl ?_
        exact ⟨lf_A, ci, cn, co, xj, xd, xf, xo, xi, xn, hC, hM, hI, hW⟩
  · skip
    refine ct_of h_MW_thing rfl rfl rfl ?_
    refine ev_g0 rfl ?_
    refine ev_inV 1 k_MW_170 h_SO_at rfl rfl rfl rfl rfl ⟨by decide, by decide⟩ rfl ?_
    refine ev_g0 rfl ?_
    refine ev_bA rfl rfl (fun h_2 => ?_) (fun h_2 => ?_)
    · skip
      refine ev_g0 rfl ?_
      refine ev_retn rfl ?_
      refine ev_g0 rfl ?_
      refine ev_reti rfl ?_
      refine ct_of h_MM_thing rfl rfl rfl ?_
      refine ev_g0 rfl ?_
      refine ev_inV 1 k_MM_477 h_MM_isThing rfl rfl rfl rfl rfl ⟨by decide, by decide⟩ rfl ?_
      refine ev_g0 rfl ?_
      refine ev_inS 3 k_MM_188 h_MM_in rfl rfl rfl rfl ⟨by decide, by decide⟩ rfl ?_
      refine ev_gA [true] [] rfl ?_
      refine ev_retz rfl (by first | decide | exact zb_01 _) ?_
      refine ev_g0 rfl ?_
      refine ev_retz rfl (by first | decide | exact zb_01 _) ?_
      refine ev_gA [true] [] rfl ?_
      refine ev_reti rfl ?_
      exact ⟨lf_A, ci, cn, co, xj, xd, xf, xo, xi, xn, hC, hM, hI, hW⟩
    · skip
      refine ev_gA [true] [] rfl ?_
      refine ev_retn rfl ?_
      refine ev_g0 rfl ?_
      refine ev_reti rfl ?_
      refine ct_of h_MM_thing rfl rfl rfl ?_
      refine ev_g0 rfl ?_
      refine ev_inV 1 k_MM_477 h_MM_isThing rfl rfl rfl rfl rfl ⟨by decide, by decide⟩ rfl ?_
      refine ev_g0 rfl ?_
      refine ev_inS 3 k_MM_188 h_MM_in rfl rfl rfl rfl ⟨by decide, by decide⟩ rfl ?_
      refine ev_gA [false, true] [] rfl ?_
      refine ev_retz rfl (by first | decide | exact zb_01 _) ?_
      refine ev_g0 rfl ?_
      refine ev_retz rfl (by first | decide | exact zb_01 _) ?_
      refine ev_gA [true] [] rfl ?_
      refine ev_reti rfl ?_
      exact ⟨lf_A, ci, cn, co, xj, xd, xf, xo, xi, xn, hC, hM, hI, hW⟩
