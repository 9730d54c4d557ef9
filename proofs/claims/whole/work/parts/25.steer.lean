def QG (ci : Nat → Nat → Nat → Int32) (cn : Nat → Nat → Nat → Nat) (co : Nat → Option Nat) (t d : Nat) (r : Option mm_V) (μ1 μ2 : mm_M) : Prop := ∃ xj xd xf xo xi xn bd gv, r = some (vi bd) ∧ μ2.2.1 6 43 = bd ∧ μ2.2.1 6 44 = nI gv ∧ gv ≤ 40 ∧ ((bd = nI 0 ∧ RC ci (u3 cn 2 t d gv) co xj xd xf xo xi xn μ1.2.1 μ1.2.2.1 μ1.2.2.2.1 μ1.2.2.2.2.1 μ1.2.2.2.2.2.1 μ1.2.2.2.2.2.2.1 μ1.2.2.2.2.2.2.2) ∨ ((∃ nf, 0 < nf ∧ nf < 100 ∧ bd = nI nf) ∧ RC ci cn co xj xd xf xo xi xn μ1.2.1 μ1.2.2.1 μ1.2.2.2.1 μ1.2.2.2.2.1 μ1.2.2.2.2.2.1 μ1.2.2.2.2.2.2.1 μ1.2.2.2.2.2.2.2)) ∧ RM ci cn co xj xd xf xo xi xn μ2.2.1 μ2.2.2.1 μ2.2.2.2.2.1
def QW (ci : Nat → Nat → Nat → Int32) (cn : Nat → Nat → Nat → Nat) (co : Nat → Option Nat) (t : Nat) (r : Option mm_V) (μ1 μ2 : mm_M) : Prop := ∃ xj xd xf xo xi xn q, q < xn 2 0 0 ∧ r = some (vi (-(nI 1))) ∧ RC ci cn (u1 co t (some q)) xj xd xf xo xi xn μ1.2.1 μ1.2.2.1 μ1.2.2.2.1 μ1.2.2.2.2.1 μ1.2.2.2.2.2.1 μ1.2.2.2.2.2.2.1 μ1.2.2.2.2.2.2.2 ∧ RM ci cn (u1 co t (some q)) xj xd xf xo xi xn μ2.2.1 μ2.2.2.1 μ2.2.2.2.2.1
theorem u3_u3 {α : Type} (f : Nat → Nat → Nat → α) (c i k : Nat) (u v : α) : u3 (u3 f c i k u) c i k v = u3 f c i k v := by
  funext c1 i1 k1
  unfold u3
  split <;> rfl
theorem u3_id {α : Type} {f : Nat → Nat → Nat → α} {c i k : Nat} {v : α} (h : f c i k = v) : u3 f c i k v = f := by
  funext c1 i1 k1
  unfold u3
  split
  · next g => obtain ⟨rfl, rfl, rfl⟩ := g; exact h.symm
  · rfl
theorem u3x {ci : Nat → Nat → Nat → Int32} {cn : Nat → Nat → Nat → Nat} {co : Nat → Option Nat} {xj : Nat → Nat → Nat → Int64} {xd : Nat → Nat → Nat → UInt64} {xf : Nat → Nat → Nat → UInt32} {xo : Nat → Nat → Nat → Option Nat} {xi : Nat → Nat → Nat → Int32} {xn : Nat → Nat → Nat → Nat} {I : Nat → Nat → Int32} {J : Nat → Nat → Int64} {F : Nat → Nat → UInt32} {D : Nat → Nat → UInt64} {R : Nat → Nat → Option Nat} {nx sl : Nat} {c i k : Nat} {u v : Int32} (h : RC ci cn co xj xd xf xo (u3 (u3 xi c i k u) c i k v) xn I J F D R nx sl) : RC ci cn co xj xd xf xo (u3 xi c i k v) xn I J F D R nx sl := by rw [u3_u3] at h; exact h
theorem u3i {ci : Nat → Nat → Nat → Int32} {cn : Nat → Nat → Nat → Nat} {co : Nat → Option Nat} {xj : Nat → Nat → Nat → Int64} {xd : Nat → Nat → Nat → UInt64} {xf : Nat → Nat → Nat → UInt32} {xo : Nat → Nat → Nat → Option Nat} {xi : Nat → Nat → Nat → Int32} {xn : Nat → Nat → Nat → Nat} {I : Nat → Nat → Int32} {J : Nat → Nat → Int64} {D : Nat → Nat → UInt64} {c i k : Nat} {v : Option Nat} (e : xo c i k = v) (h : RM ci cn co xj xd xf (u3 xo c i k v) xi xn I J D) : RM ci cn co xj xd xf xo xi xn I J D := by rw [u3_id e] at h; exact h
theorem ev_gS {Y : mm_Y} {μ0 : mm_M} {rem : List mm_E} {L : mm_L} {st : List mm_V} {μ : mm_M} {Post : Option mm_V → mm_M → Prop} (bs : List Bool) (os : List (Option Nat)) {e2 : mm_E} {rem2 : List mm_E} {L2 : mm_L} {st2 : List mm_V} {μ2 : mm_M} {P2 : Prop} (h : mm_go 5000 (mm_co Y) rem L st μ bs os True = some (e2 :: rem2, L2, st2, μ2, P2)) (k : Ev Y μ0 (e2 :: rem2) L2 st2 μ2 Post) (hp : P2 := by (repeat' apply And.intro) <;> first | exact trivial | assumption | rfl | decide | omega | (simp (disch := first | assumption | omega | decide) only [i_add, i_mul, n_cl, nI_and7, nI_and3, v_in, i_eq, i_lt, i_le, i_eq0, i_lt0, i_ge0, i_gt0, i_le0, lg_cmp_eq, lg_cmp_ge, lg_cmp_gt, lg_cmp_le, lg_cmp_lt, zb_e0, zb_n0, Classical.not_not, up_ne, Nat.zero_add, Nat.add_zero, rc_num hC, rc_hol hC, rc_who hC, rc_rea hC, rc_par hC, rc_nn hC, rc_xx hC, rc_ff hC, rc_nxt hC, rc_lin hC, rc_sor hC, rc_len hC, rc_own hC, rc_tim hC, rc_tal hC, rc_dbl hC, rc_flt hC, rc_mad hC, rc_trc hC, rc_mk0 hC, rc_mk1 hC, rc_mk2 hC, rc_tix hC, rc_thg hC, rm_num hM, rm_hol hM, rm_who hM, rm_rea hM, rm_par hM, rm_nn hM, rm_xx hM, rm_ff hM, rm_nxt hM, rm_lin hM, rm_sor hM, rm_len hM, rm_own hM, rm_tim hM, rm_tal hM, rm_dbl hM, rm_flt hM, rm_mad hM, rm_trc hM, rm_mk hM, tR_s, tR_n, eI_s, eI_n, e_nm, e_mm, lN_i, l_lt, l_le, l_eq, l_z, lN_t, nI_tl, n_s1, i_sub, eLi, eL_s, eL_n, up_eq, mkz, i_l1, i_l2, i_l3, n_ti, i_tl2, e_mn, rc_wan hC, rc_cal hC, rc_prg hC, rc_str hC, rc_pix hC, rc_psz hC, rc_phn hC, rc_pop hC, rc_paa hC, rc_pbb hC, rc_pcc hC, rc_hfr hC, rc_hto hC, rc_hfl hC, rc_hpl hC, rc_six hC, rc_dep hC, rc_pla hC, rc_don hC, rc_fai hC, rc_fno hC, rc_lat hC, rc_lpr hC, rc_lpl hC, rm_psz hM, rm_pop hM, rm_paa hM, rm_pbb hM, rm_pcc hM, rm_phn hM, rm_hfr hM, rm_hto hM, rm_hfl hM, rm_hpl hM, rm_isn hM, rm_dep hM, rm_cal hM, rm_pla hM, rm_don hM, rm_fai hM, rm_lat hM, rm_lpr hM, rm_lpl hM, rm_wan hM, Nat.add_sub_cancel, *] <;> first | assumption | omega | decide)) : Ev Y μ0 rem L st μ Post := ev_go bs os h hp k
theorem ev_bS {Y : mm_Y} {μ0 : mm_M} {rem : List mm_E} {L : mm_L} {st : List mm_V} {μ : mm_M} {Post : Option mm_V → mm_M → Prop} {e2 e3 : mm_E} {rem2 rem3 : List mm_E} {L2 L3 : mm_L} {st2 st3 : List mm_V} {μ2 μ3 : mm_M} {c c2 d d2 : Prop} (hT : mm_go 1 (mm_co Y) rem L st μ [true] [] True = some (e2 :: rem2, L2, st2, μ2, True ∧ c)) (hF : mm_go 1 (mm_co Y) rem L st μ [false] [] True = some (e3 :: rem3, L3, st3, μ3, True ∧ c2)) (kt : d → Ev Y μ0 (e2 :: rem2) L2 st2 μ2 Post) (kf : d2 → Ev Y μ0 (e3 :: rem3) L3 st3 μ3 Post) (hc : ¬ c → c2 := by first | exact id | exact Classical.not_not.mp) (g1 : c → d := by intro hh; (try simp (disch := first | assumption | omega | decide) only [i_add, i_mul, n_cl, nI_and7, nI_and3, v_in, i_eq, i_lt, i_le, i_eq0, i_lt0, i_ge0, i_gt0, i_le0, lg_cmp_eq, lg_cmp_ge, lg_cmp_gt, lg_cmp_le, lg_cmp_lt, zb_e0, zb_n0, Classical.not_not, up_ne, Nat.zero_add, Nat.add_zero, rc_num hC, rc_hol hC, rc_who hC, rc_rea hC, rc_par hC, rc_nn hC, rc_xx hC, rc_ff hC, rc_nxt hC, rc_lin hC, rc_sor hC, rc_len hC, rc_own hC, rc_tim hC, rc_tal hC, rc_dbl hC, rc_flt hC, rc_mad hC, rc_trc hC, rc_mk0 hC, rc_mk1 hC, rc_mk2 hC, rc_tix hC, rc_thg hC, rm_num hM, rm_hol hM, rm_who hM, rm_rea hM, rm_par hM, rm_nn hM, rm_xx hM, rm_ff hM, rm_nxt hM, rm_lin hM, rm_sor hM, rm_len hM, rm_own hM, rm_tim hM, rm_tal hM, rm_dbl hM, rm_flt hM, rm_mad hM, rm_trc hM, rm_mk hM, tR_s, tR_n, eI_s, eI_n, e_nm, e_mm, lN_i, l_lt, l_le, l_eq, l_z, lN_t, nI_tl, n_s1, i_sub, eLi, eL_s, eL_n, up_eq, mkz, i_l1, i_l2, i_l3, n_ti, i_tl2, e_mn, rc_wan hC, rc_cal hC, rc_prg hC, rc_str hC, rc_pix hC, rc_psz hC, rc_phn hC, rc_pop hC, rc_paa hC, rc_pbb hC, rc_pcc hC, rc_hfr hC, rc_hto hC, rc_hfl hC, rc_hpl hC, rc_six hC, rc_dep hC, rc_pla hC, rc_don hC, rc_fai hC, rc_fno hC, rc_lat hC, rc_lpr hC, rc_lpl hC, rm_psz hM, rm_pop hM, rm_paa hM, rm_pbb hM, rm_pcc hM, rm_phn hM, rm_hfr hM, rm_hto hM, rm_hfl hM, rm_hpl hM, rm_isn hM, rm_dep hM, rm_cal hM, rm_pla hM, rm_don hM, rm_fai hM, rm_lat hM, rm_lpr hM, rm_lpl hM, rm_wan hM, Nat.add_sub_cancel, *] at hh); exact hh) (g2 : c2 → d2 := by intro hh; (try simp (disch := first | assumption | omega | decide) only [i_add, i_mul, n_cl, nI_and7, nI_and3, v_in, i_eq, i_lt, i_le, i_eq0, i_lt0, i_ge0, i_gt0, i_le0, lg_cmp_eq, lg_cmp_ge, lg_cmp_gt, lg_cmp_le, lg_cmp_lt, zb_e0, zb_n0, Classical.not_not, up_ne, Nat.zero_add, Nat.add_zero, rc_num hC, rc_hol hC, rc_who hC, rc_rea hC, rc_par hC, rc_nn hC, rc_xx hC, rc_ff hC, rc_nxt hC, rc_lin hC, rc_sor hC, rc_len hC, rc_own hC, rc_tim hC, rc_tal hC, rc_dbl hC, rc_flt hC, rc_mad hC, rc_trc hC, rc_mk0 hC, rc_mk1 hC, rc_mk2 hC, rc_tix hC, rc_thg hC, rm_num hM, rm_hol hM, rm_who hM, rm_rea hM, rm_par hM, rm_nn hM, rm_xx hM, rm_ff hM, rm_nxt hM, rm_lin hM, rm_sor hM, rm_len hM, rm_own hM, rm_tim hM, rm_tal hM, rm_dbl hM, rm_flt hM, rm_mad hM, rm_trc hM, rm_mk hM, tR_s, tR_n, eI_s, eI_n, e_nm, e_mm, lN_i, l_lt, l_le, l_eq, l_z, lN_t, nI_tl, n_s1, i_sub, eLi, eL_s, eL_n, up_eq, mkz, i_l1, i_l2, i_l3, n_ti, i_tl2, e_mn, rc_wan hC, rc_cal hC, rc_prg hC, rc_str hC, rc_pix hC, rc_psz hC, rc_phn hC, rc_pop hC, rc_paa hC, rc_pbb hC, rc_pcc hC, rc_hfr hC, rc_hto hC, rc_hfl hC, rc_hpl hC, rc_six hC, rc_dep hC, rc_pla hC, rc_don hC, rc_fai hC, rc_fno hC, rc_lat hC, rc_lpr hC, rc_lpl hC, rm_psz hM, rm_pop hM, rm_paa hM, rm_pbb hM, rm_pcc hM, rm_phn hM, rm_hfr hM, rm_hto hM, rm_hfl hM, rm_hpl hM, rm_isn hM, rm_dep hM, rm_cal hM, rm_pla hM, rm_don hM, rm_fai hM, rm_lat hM, rm_lpr hM, rm_lpl hM, rm_wan hM, Nat.add_sub_cancel, *] at hh); exact hh) : Ev Y μ0 rem L st μ Post := ev_br hT hF hc (fun h => kt (g1 h)) (fun h => kf (g2 h))
theorem lf_S {p : Prop} (h : p := by first | rfl | assumption | (simp (disch := first | assumption | omega | decide) only [i_add, i_mul, n_cl, nI_and7, nI_and3, v_in, i_eq, i_lt, i_le, i_eq0, i_lt0, i_ge0, i_gt0, i_le0, lg_cmp_eq, lg_cmp_ge, lg_cmp_gt, lg_cmp_le, lg_cmp_lt, zb_e0, zb_n0, Classical.not_not, up_ne, Nat.zero_add, Nat.add_zero, rc_num hC, rc_hol hC, rc_who hC, rc_rea hC, rc_par hC, rc_nn hC, rc_xx hC, rc_ff hC, rc_nxt hC, rc_lin hC, rc_sor hC, rc_len hC, rc_own hC, rc_tim hC, rc_tal hC, rc_dbl hC, rc_flt hC, rc_mad hC, rc_trc hC, rc_mk0 hC, rc_mk1 hC, rc_mk2 hC, rc_tix hC, rc_thg hC, rm_num hM, rm_hol hM, rm_who hM, rm_rea hM, rm_par hM, rm_nn hM, rm_xx hM, rm_ff hM, rm_nxt hM, rm_lin hM, rm_sor hM, rm_len hM, rm_own hM, rm_tim hM, rm_tal hM, rm_dbl hM, rm_flt hM, rm_mad hM, rm_trc hM, rm_mk hM, tR_s, tR_n, eI_s, eI_n, e_nm, e_mm, lN_i, l_lt, l_le, l_eq, l_z, lN_t, nI_tl, n_s1, i_sub, eLi, eL_s, eL_n, up_eq, mkz, i_l1, i_l2, i_l3, n_ti, i_tl2, e_mn, rc_wan hC, rc_cal hC, rc_prg hC, rc_str hC, rc_pix hC, rc_psz hC, rc_phn hC, rc_pop hC, rc_paa hC, rc_pbb hC, rc_pcc hC, rc_hfr hC, rc_hto hC, rc_hfl hC, rc_hpl hC, rc_six hC, rc_dep hC, rc_pla hC, rc_don hC, rc_fai hC, rc_fno hC, rc_lat hC, rc_lpr hC, rc_lpl hC, rm_psz hM, rm_pop hM, rm_paa hM, rm_pbb hM, rm_pcc hM, rm_phn hM, rm_hfr hM, rm_hto hM, rm_hfl hM, rm_hpl hM, rm_isn hM, rm_dep hM, rm_cal hM, rm_pla hM, rm_don hM, rm_fai hM, rm_lat hM, rm_lpr hM, rm_lpl hM, rm_wan hM, Nat.add_sub_cancel, *] <;> first | rfl | assumption | omega | decide)) : p := h
theorem A58n {ci : Nat → Nat → Nat → Int32} {cn : Nat → Nat → Nat → Nat} {co : Nat → Option Nat} {xj : Nat → Nat → Nat → Int64} {xd : Nat → Nat → Nat → UInt64} {xf : Nat → Nat → Nat → UInt32} {xo : Nat → Nat → Nat → Option Nat} {xi : Nat → Nat → Nat → Int32} {xn : Nat → Nat → Nat → Nat} {K : Nat → Nat} {I : Nat → Nat → Int32} {J : Nat → Nat → Int64} {F : Nat → Nat → UInt32} {D : Nat → Nat → UInt64} {R : Nat → Nat → Option Nat} {nx sl : Nat} {Km : Nat → Nat} {Im : Nat → Nat → Int32} {Jm : Nat → Nat → Int64} {Fm : Nat → Nat → UInt32} {Dm : Nat → Nat → UInt64} {Rm : Nat → Nat → Option Nat} {nxm slm : Nat} (hC : RC ci cn co xj xd xf xo xi xn I J F D R nx sl) (hM : RM ci cn co xj xd xf xo xi xn Im Jm Dm) {t d pl : Nat} {a c : Int32} (ht : t < 3) (hd : cn 0 t 0 = d + 1) (hd8 : d < 8) (hpl : cn 2 t d = pl) (hp4 : pl < 40) (x1 : Im 6 39 = nI t) (x2 : Im 6 40 = a) (x3 : Im 6 41 = -(nI 1)) (x4 : Im 6 42 = c) (x5 : Im 6 43 = nI 0) (x6 : Im 6 44 = nI (pl + 1)) : Ct Y_MV_steer [vr 2 53, vr 8 (32 + 7 * t), vi (nI 58), vi (a), vi (-(nI 1)), vi (c)] (K, I, J, F, D, R, nx, sl) (fun r μ1 => Ct Y_MM_ways [vr 11 6, vi (nI 58)] (Km, Im, Jm, Fm, Dm, Rm, nxm, slm) (fun r2 μ2 => r2 = none ∧ QG ci cn co t d r μ1 μ2)) := by
  refine ct_of h_MV_steer rfl rfl rfl ?_
  refine ev_g0 rfl ?_
  refine ev_inV 0 k_MV_31 h_SD_place rfl rfl rfl rfl rfl ⟨by decide, by decide⟩ rfl ?_
  refine ev_gS [false, false] [] rfl ?_
  refine ev_reti rfl ?_
  refine ev_gS [false] [some 0] rfl ?_
  refine ev_reti rfl ?_
  refine ct_of h_MM_ways rfl rfl rfl ?_
  refine ev_gS [false] [some 0] rfl ?_
  refine ev_inV 1 k_MM_301 h_MM_fails rfl rfl rfl rfl rfl ⟨by decide, by decide⟩ rfl ?_
  refine ev_g0 rfl ?_
  refine ev_ret rfl ?_
  refine ev_g0 rfl ?_
  refine ev_ret rfl ?_
  exact ⟨rfl, xj, xd, xf, xo, xi, xn, nI 1, pl + 1, rfl, lf_S, lf_S, by omega, Or.inr ⟨⟨1, by omega, by omega, rfl⟩, hC⟩, hM⟩
theorem A58 {ci : Nat → Nat → Nat → Int32} {cn : Nat → Nat → Nat → Nat} {co : Nat → Option Nat} {xj : Nat → Nat → Nat → Int64} {xd : Nat → Nat → Nat → UInt64} {xf : Nat → Nat → Nat → UInt32} {xo : Nat → Nat → Nat → Option Nat} {xi : Nat → Nat → Nat → Int32} {xn : Nat → Nat → Nat → Nat} {K : Nat → Nat} {I : Nat → Nat → Int32} {J : Nat → Nat → Int64} {F : Nat → Nat → UInt32} {D : Nat → Nat → UInt64} {R : Nat → Nat → Option Nat} {nx sl : Nat} {Km : Nat → Nat} {Im : Nat → Nat → Int32} {Jm : Nat → Nat → Int64} {Fm : Nat → Nat → UInt32} {Dm : Nat → Nat → UInt64} {Rm : Nat → Nat → Option Nat} {nxm slm : Nat} (hC : RC ci cn co xj xd xf xo xi xn I J F D R nx sl) (hM : RM ci cn co xj xd xf xo xi xn Im Jm Dm) {t d pl b : Nat} {a c : Int32} (ht : t < 3) (hd : cn 0 t 0 = d + 1) (hd8 : d < 8) (hpl : cn 2 t d = pl) (hp4 : pl < 40) (hb : 20 ≤ b ∧ b < 30) (x1 : Im 6 39 = nI t) (x2 : Im 6 40 = a) (x3 : Im 6 41 = nI b) (x4 : Im 6 42 = c) (x5 : Im 6 43 = nI 0) (x6 : Im 6 44 = nI (pl + 1)) : Ct Y_MV_steer [vr 2 53, vr 8 (32 + 7 * t), vi (nI 58), vi (a), vi (nI b), vi (c)] (K, I, J, F, D, R, nx, sl) (fun r μ1 => Ct Y_MM_ways [vr 11 6, vi (nI 58)] (Km, Im, Jm, Fm, Dm, Rm, nxm, slm) (fun r2 μ2 => r2 = none ∧ QG ci cn co t d r μ1 μ2)) := by
  refine ct_of h_MV_steer rfl rfl rfl ?_
  refine ev_g0 rfl ?_
  refine ev_inV 0 k_MV_31 h_SD_place rfl rfl rfl rfl rfl ⟨by decide, by decide⟩ rfl ?_
  refine ev_gS [false, false] [] rfl ?_
  refine ev_reti rfl ?_
  refine ev_gS [true] [some 0] rfl ?_
  refine ev_reti rfl ?_
  refine ct_of h_MM_ways rfl rfl rfl ?_
  refine ev_gS [true] [some 0] rfl ?_
  refine ev_inV 1 k_MM_301 h_MM_fails rfl rfl rfl rfl rfl ⟨by decide, by decide⟩ rfl ?_
  refine ev_g0 rfl ?_
  refine ev_ret rfl ?_
  refine ev_g0 rfl ?_
  refine ev_ret rfl ?_
  have hb0 : ¬ nI b = nI 0 := fun e => by rw [i_eq (by omega) (by decide)] at e; omega
  have hb1 : ¬ nI b = -(nI 1) := fun e => (e_nm (by omega)).mp e
  exact ⟨rfl, xj, xd, xf, xo, xi, xn, nI b, pl + 1, rfl, lf_S, lf_S, by omega, Or.inr ⟨⟨b, by omega, by omega, rfl⟩, hC⟩, hM⟩
theorem A59 {ci : Nat → Nat → Nat → Int32} {cn : Nat → Nat → Nat → Nat} {co : Nat → Option Nat} {xj : Nat → Nat → Nat → Int64} {xd : Nat → Nat → Nat → UInt64} {xf : Nat → Nat → Nat → UInt32} {xo : Nat → Nat → Nat → Option Nat} {xi : Nat → Nat → Nat → Int32} {xn : Nat → Nat → Nat → Nat} {K : Nat → Nat} {I : Nat → Nat → Int32} {J : Nat → Nat → Int64} {F : Nat → Nat → UInt32} {D : Nat → Nat → UInt64} {R : Nat → Nat → Option Nat} {nx sl : Nat} {Km : Nat → Nat} {Im : Nat → Nat → Int32} {Jm : Nat → Nat → Int64} {Fm : Nat → Nat → UInt32} {Dm : Nat → Nat → UInt64} {Rm : Nat → Nat → Option Nat} {nxm slm : Nat} (hC : RC ci cn co xj xd xf xo xi xn I J F D R nx sl) (hM : RM ci cn co xj xd xf xo xi xn Im Jm Dm) {t d pl a : Nat} {b c : Int32} (ht : t < 3) (hd : cn 0 t 0 = d + 1) (hd8 : d < 8) (hpl : cn 2 t d = pl) (hp4 : pl < 40) (ha : a < 40) (x1 : Im 6 39 = nI t) (x2 : Im 6 40 = nI a) (x3 : Im 6 41 = b) (x4 : Im 6 42 = c) (x5 : Im 6 43 = nI 0) (x6 : Im 6 44 = nI (pl + 1)) : Ct Y_MV_steer [vr 2 53, vr 8 (32 + 7 * t), vi (nI 59), vi (nI a), vi (b), vi (c)] (K, I, J, F, D, R, nx, sl) (fun r μ1 => Ct Y_MM_ways [vr 11 6, vi (nI 59)] (Km, Im, Jm, Fm, Dm, Rm, nxm, slm) (fun r2 μ2 => r2 = none ∧ QG ci cn co t d r μ1 μ2)) := by
  refine ct_of h_MV_steer rfl rfl rfl ?_
  refine ev_g0 rfl ?_
  refine ev_inV 0 k_MV_31 h_SD_place rfl rfl rfl rfl rfl ⟨by decide, by decide⟩ rfl ?_
  refine ev_gS [false, false] [] rfl ?_
  refine ev_reti rfl ?_
  refine ev_gS [] [some 1] rfl ?_
  refine ev_inV 1 k_MV_69 h_SD_goTo rfl rfl rfl rfl rfl ⟨by decide, by decide⟩ rfl ?_
  refine ev_gS [false, false] [] rfl ?_
  refine ev_ret rfl ?_
  refine ev_g0 rfl ?_
  refine ev_reti rfl ?_
  refine ct_of h_MM_ways rfl rfl rfl ?_
  refine ev_gS [] [some 1] rfl ?_
  refine ev_ret rfl ?_
  exact ⟨rfl, xj, xd, xf, xo, xi, xn, nI 0, a, rfl, lf_S, lf_S, by omega, Or.inl ⟨rfl, CU_pla hC ht (by omega) lf_S lf_S⟩, hM⟩
theorem A60_0 {ci : Nat → Nat → Nat → Int32} {cn : Nat → Nat → Nat → Nat} {co : Nat → Option Nat} {xj : Nat → Nat → Nat → Int64} {xd : Nat → Nat → Nat → UInt64} {xf : Nat → Nat → Nat → UInt32} {xo : Nat → Nat → Nat → Option Nat} {xi : Nat → Nat → Nat → Int32} {xn : Nat → Nat → Nat → Nat} {K : Nat → Nat} {I : Nat → Nat → Int32} {J : Nat → Nat → Int64} {F : Nat → Nat → UInt32} {D : Nat → Nat → UInt64} {R : Nat → Nat → Option Nat} {nx sl : Nat} {Km : Nat → Nat} {Im : Nat → Nat → Int32} {Jm : Nat → Nat → Int64} {Fm : Nat → Nat → UInt32} {Dm : Nat → Nat → UInt64} {Rm : Nat → Nat → Option Nat} {nxm slm : Nat} (hC : RC ci cn co xj xd xf xo xi xn I J F D R nx sl) (hM : RM ci cn co xj xd xf xo xi xn Im Jm Dm) {t d pl a b : Nat} (ht : t < 3) (hd : cn 0 t 0 = d + 1) (hd8 : d < 8) (hpl : cn 2 t d = pl) (hp4 : pl < 40) (ha : a < 40) (hb : b < 8) (x1 : Im 6 39 = nI t) (x2 : Im 6 40 = nI a) (x3 : Im 6 41 = nI b) (x4 : Im 6 42 = nI 0) (x5 : Im 6 43 = nI 0) (x6 : Im 6 44 = nI (pl + 1)) : Ct Y_MV_steer [vr 2 53, vr 8 (32 + 7 * t), vi (nI 60), vi (nI a), vi (nI b), vi (nI 0)] (K, I, J, F, D, R, nx, sl) (fun r μ1 => Ct Y_MM_ways [vr 11 6, vi (nI 60)] (Km, Im, Jm, Fm, Dm, Rm, nxm, slm) (fun r2 μ2 => r2 = none ∧ QG ci cn co t d r μ1 μ2)) := by
  refine ct_of h_MV_steer rfl rfl rfl ?_
  refine ev_g0 rfl ?_
  refine ev_inV 0 k_MV_31 h_SD_place rfl rfl rfl rfl rfl ⟨by decide, by decide⟩ rfl ?_
  refine ev_gS [false, false] [] rfl ?_
  refine ev_reti rfl ?_
  refine ev_gS [] [some 2] rfl ?_
  refine ev_inV 1 k_MV_84 h_SD_n rfl rfl rfl rfl rfl ⟨by decide, by decide⟩ rfl ?_
  refine ev_gS [] [] rfl ?_
  refine ev_retl rfl ?_
  refine ev_g0 rfl ?_
  refine ev_inS 2 k_MV_88 h_MV_isSo rfl rfl rfl rfl ⟨by decide, by decide⟩ rfl ?_
  refine ev_gS [] [some 0] rfl ?_
  refine ev_bS rfl rfl (fun h_1 => ?_) (fun h_1 => ?_)
  · skip
    refine ev_g0 rfl ?_
    refine ev_retz rfl (by first | decide | exact zb_01 _) ?_
    refine ev_gS [true] [] rfl ?_
    refine ev_inV 1 k_MV_69 h_SD_goTo rfl rfl rfl rfl rfl ⟨by decide, by decide⟩ rfl ?_
    refine ev_gS [false, false] [] rfl ?_
    refine ev_ret rfl ?_
    refine ev_g0 rfl ?_
    refine ev_reti rfl ?_
    refine ct_of h_MM_ways rfl rfl rfl ?_
    refine ev_gS [] [some 2] rfl ?_
    refine ev_inV 1 k_MM_277 h_MM_number rfl rfl rfl rfl rfl ⟨by decide, by decide⟩ rfl ?_
    refine ev_gS [] [] rfl ?_
    refine ev_retl rfl ?_
    refine ev_g0 rfl ?_
    refine ev_inV 1 k_MM_417 h_MM_isSo rfl rfl rfl rfl rfl ⟨by decide, by decide⟩ rfl ?_
    refine ev_gS [false, true] [] rfl ?_
    refine ev_retz rfl (by first | decide | exact zb_01 _) ?_
    refine ev_gS [true] [] rfl ?_
    refine ev_ret rfl ?_
    exact ⟨rfl, xj, xd, xf, xo, xi, xn, nI 0, pl + 1, rfl, lf_S, lf_S, by omega, Or.inl ⟨rfl, CU_pla hC ht (by omega) lf_S lf_S⟩, hM⟩
  · skip
    refine ev_g0 rfl ?_
    refine ev_retz rfl (by first | decide | exact zb_01 _) ?_
    refine ev_gS [false] [] rfl ?_
    refine ev_inV 1 k_MV_69 h_SD_goTo rfl rfl rfl rfl rfl ⟨by decide, by decide⟩ rfl ?_
    refine ev_gS [false, false] [] rfl ?_
    refine ev_ret rfl ?_
    refine ev_g0 rfl ?_
    refine ev_reti rfl ?_
    refine ct_of h_MM_ways rfl rfl rfl ?_
    refine ev_gS [] [some 2] rfl ?_
    refine ev_inV 1 k_MM_277 h_MM_number rfl rfl rfl rfl rfl ⟨by decide, by decide⟩ rfl ?_
    refine ev_gS [] [] rfl ?_
    refine ev_retl rfl ?_
    refine ev_g0 rfl ?_
    refine ev_inV 1 k_MM_417 h_MM_isSo rfl rfl rfl rfl rfl ⟨by decide, by decide⟩ rfl ?_
    refine ev_gS [false, false] [] rfl ?_
    refine ev_retz rfl (by first | decide | exact zb_01 _) ?_
    refine ev_gS [false] [] rfl ?_
    refine ev_ret rfl ?_
    exact ⟨rfl, xj, xd, xf, xo, xi, xn, nI 0, a, rfl, lf_S, lf_S, by omega, Or.inl ⟨rfl, CU_pla hC ht (by omega) lf_S lf_S⟩, hM⟩
theorem A60_1 {ci : Nat → Nat → Nat → Int32} {cn : Nat → Nat → Nat → Nat} {co : Nat → Option Nat} {xj : Nat → Nat → Nat → Int64} {xd : Nat → Nat → Nat → UInt64} {xf : Nat → Nat → Nat → UInt32} {xo : Nat → Nat → Nat → Option Nat} {xi : Nat → Nat → Nat → Int32} {xn : Nat → Nat → Nat → Nat} {K : Nat → Nat} {I : Nat → Nat → Int32} {J : Nat → Nat → Int64} {F : Nat → Nat → UInt32} {D : Nat → Nat → UInt64} {R : Nat → Nat → Option Nat} {nx sl : Nat} {Km : Nat → Nat} {Im : Nat → Nat → Int32} {Jm : Nat → Nat → Int64} {Fm : Nat → Nat → UInt32} {Dm : Nat → Nat → UInt64} {Rm : Nat → Nat → Option Nat} {nxm slm : Nat} (hC : RC ci cn co xj xd xf xo xi xn I J F D R nx sl) (hM : RM ci cn co xj xd xf xo xi xn Im Jm Dm) {t d pl a b : Nat} (ht : t < 3) (hd : cn 0 t 0 = d + 1) (hd8 : d < 8) (hpl : cn 2 t d = pl) (hp4 : pl < 40) (ha : a < 40) (hb : b < 8) (x1 : Im 6 39 = nI t) (x2 : Im 6 40 = nI a) (x3 : Im 6 41 = nI b) (x4 : Im 6 42 = nI 1) (x5 : Im 6 43 = nI 0) (x6 : Im 6 44 = nI (pl + 1)) : Ct Y_MV_steer [vr 2 53, vr 8 (32 + 7 * t), vi (nI 60), vi (nI a), vi (nI b), vi (nI 1)] (K, I, J, F, D, R, nx, sl) (fun r μ1 => Ct Y_MM_ways [vr 11 6, vi (nI 60)] (Km, Im, Jm, Fm, Dm, Rm, nxm, slm) (fun r2 μ2 => r2 = none ∧ QG ci cn co t d r μ1 μ2)) := by
  refine ct_of h_MV_steer rfl rfl rfl ?_
  refine ev_g0 rfl ?_
  refine ev_inV 0 k_MV_31 h_SD_place rfl rfl rfl rfl rfl ⟨by decide, by decide⟩ rfl ?_
  refine ev_gS [false, false] [] rfl ?_
  refine ev_reti rfl ?_
  refine ev_gS [] [some 2] rfl ?_
  refine ev_inV 1 k_MV_84 h_SD_n rfl rfl rfl rfl rfl ⟨by decide, by decide⟩ rfl ?_
  refine ev_gS [] [] rfl ?_
  refine ev_retl rfl ?_
  refine ev_g0 rfl ?_
  refine ev_inS 2 k_MV_88 h_MV_isSo rfl rfl rfl rfl ⟨by decide, by decide⟩ rfl ?_
  refine ev_gS [] [some 1] rfl ?_
  refine ev_bS rfl rfl (fun h_1 => ?_) (fun h_1 => ?_)
  · skip
    refine ev_g0 rfl ?_
    refine ev_retz rfl (by first | decide | exact zb_01 _) ?_
    refine ev_gS [true] [] rfl ?_
    refine ev_inV 1 k_MV_69 h_SD_goTo rfl rfl rfl rfl rfl ⟨by decide, by decide⟩ rfl ?_
    refine ev_gS [false, false] [] rfl ?_
    refine ev_ret rfl ?_
    refine ev_g0 rfl ?_
    refine ev_reti rfl ?_
    refine ct_of h_MM_ways rfl rfl rfl ?_
    refine ev_gS [] [some 2] rfl ?_
    refine ev_inV 1 k_MM_277 h_MM_number rfl rfl rfl rfl rfl ⟨by decide, by decide⟩ rfl ?_
    refine ev_gS [] [] rfl ?_
    refine ev_retl rfl ?_
    refine ev_g0 rfl ?_
    refine ev_inV 1 k_MM_417 h_MM_isSo rfl rfl rfl rfl rfl ⟨by decide, by decide⟩ rfl ?_
    refine ev_gS [true, false, true] [] rfl ?_
    refine ev_retz rfl (by first | decide | exact zb_01 _) ?_
    refine ev_gS [true] [] rfl ?_
    refine ev_ret rfl ?_
    exact ⟨rfl, xj, xd, xf, xo, xi, xn, nI 0, pl + 1, rfl, lf_S, lf_S, by omega, Or.inl ⟨rfl, CU_pla hC ht (by omega) lf_S lf_S⟩, hM⟩
  · skip
    refine ev_g0 rfl ?_
    refine ev_retz rfl (by first | decide | exact zb_01 _) ?_
    refine ev_gS [false] [] rfl ?_
    refine ev_inV 1 k_MV_69 h_SD_goTo rfl rfl rfl rfl rfl ⟨by decide, by decide⟩ rfl ?_
    refine ev_gS [false, false] [] rfl ?_
    refine ev_ret rfl ?_
    refine ev_g0 rfl ?_
    refine ev_reti rfl ?_
    refine ct_of h_MM_ways rfl rfl rfl ?_
    refine ev_gS [] [some 2] rfl ?_
    refine ev_inV 1 k_MM_277 h_MM_number rfl rfl rfl rfl rfl ⟨by decide, by decide⟩ rfl ?_
    refine ev_gS [] [] rfl ?_
    refine ev_retl rfl ?_
    refine ev_g0 rfl ?_
    refine ev_inV 1 k_MM_417 h_MM_isSo rfl rfl rfl rfl rfl ⟨by decide, by decide⟩ rfl ?_
    refine ev_gS [true, false, false] [] rfl ?_
    refine ev_retz rfl (by first | decide | exact zb_01 _) ?_
    refine ev_gS [false] [] rfl ?_
    refine ev_ret rfl ?_
    exact ⟨rfl, xj, xd, xf, xo, xi, xn, nI 0, a, rfl, lf_S, lf_S, by omega, Or.inl ⟨rfl, CU_pla hC ht (by omega) lf_S lf_S⟩, hM⟩
theorem A60_2 {ci : Nat → Nat → Nat → Int32} {cn : Nat → Nat → Nat → Nat} {co : Nat → Option Nat} {xj : Nat → Nat → Nat → Int64} {xd : Nat → Nat → Nat → UInt64} {xf : Nat → Nat → Nat → UInt32} {xo : Nat → Nat → Nat → Option Nat} {xi : Nat → Nat → Nat → Int32} {xn : Nat → Nat → Nat → Nat} {K : Nat → Nat} {I : Nat → Nat → Int32} {J : Nat → Nat → Int64} {F : Nat → Nat → UInt32} {D : Nat → Nat → UInt64} {R : Nat → Nat → Option Nat} {nx sl : Nat} {Km : Nat → Nat} {Im : Nat → Nat → Int32} {Jm : Nat → Nat → Int64} {Fm : Nat → Nat → UInt32} {Dm : Nat → Nat → UInt64} {Rm : Nat → Nat → Option Nat} {nxm slm : Nat} (hC : RC ci cn co xj xd xf xo xi xn I J F D R nx sl) (hM : RM ci cn co xj xd xf xo xi xn Im Jm Dm) {t d pl a b : Nat} (ht : t < 3) (hd : cn 0 t 0 = d + 1) (hd8 : d < 8) (hpl : cn 2 t d = pl) (hp4 : pl < 40) (ha : a < 40) (hb : b < 8) (x1 : Im 6 39 = nI t) (x2 : Im 6 40 = nI a) (x3 : Im 6 41 = nI b) (x4 : Im 6 42 = nI 2) (x5 : Im 6 43 = nI 0) (x6 : Im 6 44 = nI (pl + 1)) : Ct Y_MV_steer [vr 2 53, vr 8 (32 + 7 * t), vi (nI 60), vi (nI a), vi (nI b), vi (nI 2)] (K, I, J, F, D, R, nx, sl) (fun r μ1 => Ct Y_MM_ways [vr 11 6, vi (nI 60)] (Km, Im, Jm, Fm, Dm, Rm, nxm, slm) (fun r2 μ2 => r2 = none ∧ QG ci cn co t d r μ1 μ2)) := by
  refine ct_of h_MV_steer rfl rfl rfl ?_
  refine ev_g0 rfl ?_
  refine ev_inV 0 k_MV_31 h_SD_place rfl rfl rfl rfl rfl ⟨by decide, by decide⟩ rfl ?_
  refine ev_gS [false, false] [] rfl ?_
  refine ev_reti rfl ?_
  refine ev_gS [] [some 2] rfl ?_
  refine ev_inV 1 k_MV_84 h_SD_n rfl rfl rfl rfl rfl ⟨by decide, by decide⟩ rfl ?_
  refine ev_gS [] [] rfl ?_
  refine ev_retl rfl ?_
  refine ev_g0 rfl ?_
  refine ev_inS 2 k_MV_88 h_MV_isSo rfl rfl rfl rfl ⟨by decide, by decide⟩ rfl ?_
  refine ev_gS [] [some 2] rfl ?_
  refine ev_bS rfl rfl (fun h_1 => ?_) (fun h_1 => ?_)
  · skip
    refine ev_g0 rfl ?_
    refine ev_retz rfl (by first | decide | exact zb_01 _) ?_
    refine ev_gS [true] [] rfl ?_
    refine ev_inV 1 k_MV_69 h_SD_goTo rfl rfl rfl rfl rfl ⟨by decide, by decide⟩ rfl ?_
    refine ev_gS [false, false] [] rfl ?_
    refine ev_ret rfl ?_
    refine ev_g0 rfl ?_
    refine ev_reti rfl ?_
    refine ct_of h_MM_ways rfl rfl rfl ?_
    refine ev_gS [] [some 2] rfl ?_
    refine ev_inV 1 k_MM_277 h_MM_number rfl rfl rfl rfl rfl ⟨by decide, by decide⟩ rfl ?_
    refine ev_gS [] [] rfl ?_
    refine ev_retl rfl ?_
    refine ev_g0 rfl ?_
    refine ev_inV 1 k_MM_417 h_MM_isSo rfl rfl rfl rfl rfl ⟨by decide, by decide⟩ rfl ?_
    refine ev_gS [true, true, false, true] [] rfl ?_
    refine ev_retz rfl (by first | decide | exact zb_01 _) ?_
    refine ev_gS [true] [] rfl ?_
    refine ev_ret rfl ?_
    exact ⟨rfl, xj, xd, xf, xo, xi, xn, nI 0, pl + 1, rfl, lf_S, lf_S, by omega, Or.inl ⟨rfl, CU_pla hC ht (by omega) lf_S lf_S⟩, hM⟩
  · skip
    refine ev_g0 rfl ?_
    refine ev_retz rfl (by first | decide | exact zb_01 _) ?_
    refine ev_gS [false] [] rfl ?_
    refine ev_inV 1 k_MV_69 h_SD_goTo rfl rfl rfl rfl rfl ⟨by decide, by decide⟩ rfl ?_
    refine ev_gS [false, false] [] rfl ?_
    refine ev_ret rfl ?_
    refine ev_g0 rfl ?_
    refine ev_reti rfl ?_
    refine ct_of h_MM_ways rfl rfl rfl ?_
    refine ev_gS [] [some 2] rfl ?_
    refine ev_inV 1 k_MM_277 h_MM_number rfl rfl rfl rfl rfl ⟨by decide, by decide⟩ rfl ?_
    refine ev_gS [] [] rfl ?_
    refine ev_retl rfl ?_
    refine ev_g0 rfl ?_
    refine ev_inV 1 k_MM_417 h_MM_isSo rfl rfl rfl rfl rfl ⟨by decide, by decide⟩ rfl ?_
    refine ev_gS [true, true, false, false] [] rfl ?_
    refine ev_retz rfl (by first | decide | exact zb_01 _) ?_
    refine ev_gS [false] [] rfl ?_
    refine ev_ret rfl ?_
    exact ⟨rfl, xj, xd, xf, xo, xi, xn, nI 0, a, rfl, lf_S, lf_S, by omega, Or.inl ⟨rfl, CU_pla hC ht (by omega) lf_S lf_S⟩, hM⟩
theorem A60_3 {ci : Nat → Nat → Nat → Int32} {cn : Nat → Nat → Nat → Nat} {co : Nat → Option Nat} {xj : Nat → Nat → Nat → Int64} {xd : Nat → Nat → Nat → UInt64} {xf : Nat → Nat → Nat → UInt32} {xo : Nat → Nat → Nat → Option Nat} {xi : Nat → Nat → Nat → Int32} {xn : Nat → Nat → Nat → Nat} {K : Nat → Nat} {I : Nat → Nat → Int32} {J : Nat → Nat → Int64} {F : Nat → Nat → UInt32} {D : Nat → Nat → UInt64} {R : Nat → Nat → Option Nat} {nx sl : Nat} {Km : Nat → Nat} {Im : Nat → Nat → Int32} {Jm : Nat → Nat → Int64} {Fm : Nat → Nat → UInt32} {Dm : Nat → Nat → UInt64} {Rm : Nat → Nat → Option Nat} {nxm slm : Nat} (hC : RC ci cn co xj xd xf xo xi xn I J F D R nx sl) (hM : RM ci cn co xj xd xf xo xi xn Im Jm Dm) {t d pl a b : Nat} (ht : t < 3) (hd : cn 0 t 0 = d + 1) (hd8 : d < 8) (hpl : cn 2 t d = pl) (hp4 : pl < 40) (ha : a < 40) (hb : b < 8) (x1 : Im 6 39 = nI t) (x2 : Im 6 40 = nI a) (x3 : Im 6 41 = nI b) (x4 : Im 6 42 = nI 3) (x5 : Im 6 43 = nI 0) (x6 : Im 6 44 = nI (pl + 1)) : Ct Y_MV_steer [vr 2 53, vr 8 (32 + 7 * t), vi (nI 60), vi (nI a), vi (nI b), vi (nI 3)] (K, I, J, F, D, R, nx, sl) (fun r μ1 => Ct Y_MM_ways [vr 11 6, vi (nI 60)] (Km, Im, Jm, Fm, Dm, Rm, nxm, slm) (fun r2 μ2 => r2 = none ∧ QG ci cn co t d r μ1 μ2)) := by
  refine ct_of h_MV_steer rfl rfl rfl ?_
  refine ev_g0 rfl ?_
  refine ev_inV 0 k_MV_31 h_SD_place rfl rfl rfl rfl rfl ⟨by decide, by decide⟩ rfl ?_
  refine ev_gS [false, false] [] rfl ?_
  refine ev_reti rfl ?_
  refine ev_gS [] [some 2] rfl ?_
  refine ev_inV 1 k_MV_84 h_SD_n rfl rfl rfl rfl rfl ⟨by decide, by decide⟩ rfl ?_
  refine ev_gS [] [] rfl ?_
  refine ev_retl rfl ?_
  refine ev_g0 rfl ?_
  refine ev_inS 2 k_MV_88 h_MV_isSo rfl rfl rfl rfl ⟨by decide, by decide⟩ rfl ?_
  refine ev_gS [] [none] rfl ?_
  refine ev_bS rfl rfl (fun h_1 => ?_) (fun h_1 => ?_)
  · skip
    refine ev_g0 rfl ?_
    refine ev_retz rfl (by first | decide | exact zb_01 _) ?_
    refine ev_gS [true] [] rfl ?_
    refine ev_inV 1 k_MV_69 h_SD_goTo rfl rfl rfl rfl rfl ⟨by decide, by decide⟩ rfl ?_
    refine ev_gS [false, false] [] rfl ?_
    refine ev_ret rfl ?_
    refine ev_g0 rfl ?_
    refine ev_reti rfl ?_
    refine ct_of h_MM_ways rfl rfl rfl ?_
    refine ev_gS [] [some 2] rfl ?_
    refine ev_inV 1 k_MM_277 h_MM_number rfl rfl rfl rfl rfl ⟨by decide, by decide⟩ rfl ?_
    refine ev_gS [] [] rfl ?_
    refine ev_retl rfl ?_
    refine ev_g0 rfl ?_
    refine ev_inV 1 k_MM_417 h_MM_isSo rfl rfl rfl rfl rfl ⟨by decide, by decide⟩ rfl ?_
    refine ev_gS [true, true, true, true] [] rfl ?_
    refine ev_retz rfl (by first | decide | exact zb_01 _) ?_
    refine ev_gS [true] [] rfl ?_
    refine ev_ret rfl ?_
    exact ⟨rfl, xj, xd, xf, xo, xi, xn, nI 0, pl + 1, rfl, lf_S, lf_S, by omega, Or.inl ⟨rfl, CU_pla hC ht (by omega) lf_S lf_S⟩, hM⟩
  · skip
    refine ev_g0 rfl ?_
    refine ev_retz rfl (by first | decide | exact zb_01 _) ?_
    refine ev_gS [false] [] rfl ?_
    refine ev_inV 1 k_MV_69 h_SD_goTo rfl rfl rfl rfl rfl ⟨by decide, by decide⟩ rfl ?_
    refine ev_gS [false, false] [] rfl ?_
    refine ev_ret rfl ?_
    refine ev_g0 rfl ?_
    refine ev_reti rfl ?_
    refine ct_of h_MM_ways rfl rfl rfl ?_
    refine ev_gS [] [some 2] rfl ?_
    refine ev_inV 1 k_MM_277 h_MM_number rfl rfl rfl rfl rfl ⟨by decide, by decide⟩ rfl ?_
    refine ev_gS [] [] rfl ?_
    refine ev_retl rfl ?_
    refine ev_g0 rfl ?_
    refine ev_inV 1 k_MM_417 h_MM_isSo rfl rfl rfl rfl rfl ⟨by decide, by decide⟩ rfl ?_
    refine ev_gS [true, true, true, false] [] rfl ?_
    refine ev_retz rfl (by first | decide | exact zb_01 _) ?_
    refine ev_gS [false] [] rfl ?_
    refine ev_ret rfl ?_
    exact ⟨rfl, xj, xd, xf, xo, xi, xn, nI 0, a, rfl, lf_S, lf_S, by omega, Or.inl ⟨rfl, CU_pla hC ht (by omega) lf_S lf_S⟩, hM⟩
theorem A61 {ci : Nat → Nat → Nat → Int32} {cn : Nat → Nat → Nat → Nat} {co : Nat → Option Nat} {xj : Nat → Nat → Nat → Int64} {xd : Nat → Nat → Nat → UInt64} {xf : Nat → Nat → Nat → UInt32} {xo : Nat → Nat → Nat → Option Nat} {xi : Nat → Nat → Nat → Int32} {xn : Nat → Nat → Nat → Nat} {K : Nat → Nat} {I : Nat → Nat → Int32} {J : Nat → Nat → Int64} {F : Nat → Nat → UInt32} {D : Nat → Nat → UInt64} {R : Nat → Nat → Option Nat} {nx sl : Nat} {Km : Nat → Nat} {Im : Nat → Nat → Int32} {Jm : Nat → Nat → Int64} {Fm : Nat → Nat → UInt32} {Dm : Nat → Nat → UInt64} {Rm : Nat → Nat → Option Nat} {nxm slm : Nat} (hC : RC ci cn co xj xd xf xo xi xn I J F D R nx sl) (hM : RM ci cn co xj xd xf xo xi xn Im Jm Dm) {t d pl a b : Nat} {c : Int32} (ht : t < 3) (hd : cn 0 t 0 = d + 1) (hd8 : d < 8) (hpl : cn 2 t d = pl) (hp4 : pl < 40) (ha : a < 40) (hb : b < 8) (x1 : Im 6 39 = nI t) (x2 : Im 6 40 = nI a) (x3 : Im 6 41 = nI b) (x4 : Im 6 42 = c) (x5 : Im 6 43 = nI 0) (x6 : Im 6 44 = nI (pl + 1)) : Ct Y_MV_steer [vr 2 53, vr 8 (32 + 7 * t), vi (nI 61), vi (nI a), vi (nI b), vi (c)] (K, I, J, F, D, R, nx, sl) (fun r μ1 => Ct Y_MM_ways [vr 11 6, vi (nI 61)] (Km, Im, Jm, Fm, Dm, Rm, nxm, slm) (fun r2 μ2 => r2 = none ∧ QG ci cn co t d r μ1 μ2)) := by
  rcases ho : xo 0 t b with _ | q
  · skip
    refine ct_of h_MV_steer rfl rfl rfl ?_
    refine ev_g0 rfl ?_
    refine ev_inV 0 k_MV_31 h_SD_place rfl rfl rfl rfl rfl ⟨by decide, by decide⟩ rfl ?_
    refine ev_gS [false, false] [] rfl ?_
    refine ev_reti rfl ?_
    refine ev_gS [] [some 3] rfl ?_
    refine ev_inV 1 k_MV_92 h_SD_t rfl rfl rfl rfl rfl ⟨by decide, by decide⟩ rfl ?_
    refine ev_gS [] [none] rfl ?_
    refine ev_retn rfl ?_
    refine ev_g0 rfl ?_
    refine ev_inV 1 k_MV_69 h_SD_goTo rfl rfl rfl rfl rfl ⟨by decide, by decide⟩ rfl ?_
    refine ev_gS [false, false] [] rfl ?_
    refine ev_ret rfl ?_
    refine ev_g0 rfl ?_
    refine ev_reti rfl ?_
    refine ct_of h_MM_ways rfl rfl rfl ?_
    refine ev_gS [] [some 3] rfl ?_
    refine ev_inV 1 k_MM_344 h_MM_hold rfl rfl rfl rfl rfl ⟨by decide, by decide⟩ rfl ?_
    refine ev_gS [] [] rfl ?_
    refine ev_reti rfl ?_
    refine ev_gS [false] [] rfl ?_
    refine ev_ret rfl ?_
    exact ⟨rfl, xj, xd, xf, xo, xi, xn, nI 0, a, rfl, lf_S, lf_S, by omega, Or.inl ⟨rfl, CU_pla hC ht (by omega) lf_S lf_S⟩, hM⟩
  · skip
    have hq := rc_ihol hC ht hb _ ho
    have zq := rc_isor hC hq
    have yq := rc_imad hC
    refine ct_of h_MV_steer rfl rfl rfl ?_
    refine ev_g0 rfl ?_
    refine ev_inV 0 k_MV_31 h_SD_place rfl rfl rfl rfl rfl ⟨by decide, by decide⟩ rfl ?_
    refine ev_gS [false, false] [] rfl ?_
    refine ev_reti rfl ?_
    refine ev_gS [] [some 3] rfl ?_
    refine ev_inV 1 k_MV_92 h_SD_t rfl rfl rfl rfl rfl ⟨by decide, by decide⟩ rfl ?_
    refine ev_gS [] [some (94 + 4 * q)] rfl ?_
    refine ev_reta rfl ?_
    refine ev_g0 rfl ?_
    refine ev_inV 1 k_MV_69 h_SD_goTo rfl rfl rfl rfl rfl ⟨by decide, by decide⟩ rfl ?_
    refine ev_gS [false, false] [] rfl ?_
    refine ev_ret rfl ?_
    refine ev_g0 rfl ?_
    refine ev_reti rfl ?_
    refine ct_of h_MM_ways rfl rfl rfl ?_
    refine ev_gS [] [some 3] rfl ?_
    refine ev_inV 1 k_MM_344 h_MM_hold rfl rfl rfl rfl rfl ⟨by decide, by decide⟩ rfl ?_
    refine ev_gS [] [] rfl ?_
    refine ev_reti rfl ?_
    refine ev_gS [true] [] rfl ?_
    refine ev_ret rfl ?_
    exact ⟨rfl, xj, xd, xf, xo, xi, xn, nI 0, pl + 1, rfl, lf_S, lf_S, by omega, Or.inl ⟨rfl, CU_pla hC ht (by omega) lf_S lf_S⟩, hM⟩
theorem A65 {ci : Nat → Nat → Nat → Int32} {cn : Nat → Nat → Nat → Nat} {co : Nat → Option Nat} {xj : Nat → Nat → Nat → Int64} {xd : Nat → Nat → Nat → UInt64} {xf : Nat → Nat → Nat → UInt32} {xo : Nat → Nat → Nat → Option Nat} {xi : Nat → Nat → Nat → Int32} {xn : Nat → Nat → Nat → Nat} {K : Nat → Nat} {I : Nat → Nat → Int32} {J : Nat → Nat → Int64} {F : Nat → Nat → UInt32} {D : Nat → Nat → UInt64} {R : Nat → Nat → Option Nat} {nx sl : Nat} {Km : Nat → Nat} {Im : Nat → Nat → Int32} {Jm : Nat → Nat → Int64} {Fm : Nat → Nat → UInt32} {Dm : Nat → Nat → UInt64} {Rm : Nat → Nat → Option Nat} {nxm slm : Nat} (hC : RC ci cn co xj xd xf xo xi xn I J F D R nx sl) (hM : RM ci cn co xj xd xf xo xi xn Im Jm Dm) {t d pl b : Nat} {a c : Int32} (ht : t < 3) (hd : cn 0 t 0 = d + 1) (hd8 : d < 8) (hpl : cn 2 t d = pl) (hp4 : pl < 40) (hb : b < 8) (x1 : Im 6 39 = nI t) (x2 : Im 6 40 = a) (x3 : Im 6 41 = nI b) (x4 : Im 6 42 = c) (x5 : Im 6 43 = nI 0) (x6 : Im 6 44 = nI (pl + 1)) : Ct Y_MV_steer [vr 2 53, vr 8 (32 + 7 * t), vi (nI 65), vi (a), vi (nI b), vi (c)] (K, I, J, F, D, R, nx, sl) (fun r μ1 => Ct Y_MM_ways [vr 11 6, vi (nI 65)] (Km, Im, Jm, Fm, Dm, Rm, nxm, slm) (fun r2 μ2 => r2 = none ∧ QG ci cn co t d r μ1 μ2)) := by
  rcases ho : xo 0 t b with _ | q
  · skip
    refine ct_of h_MV_steer rfl rfl rfl ?_
    refine ev_g0 rfl ?_
    refine ev_inV 0 k_MV_31 h_SD_place rfl rfl rfl rfl rfl ⟨by decide, by decide⟩ rfl ?_
    refine ev_gS [false, false] [] rfl ?_
    refine ev_reti rfl ?_
    refine ev_gS [] [none] rfl ?_
    refine ev_inV 1 k_MV_92 h_SD_t rfl rfl rfl rfl rfl ⟨by decide, by decide⟩ rfl ?_
    refine ev_gS [] [none] rfl ?_
    refine ev_retn rfl ?_
    refine ev_g0 rfl ?_
    refine ev_inS 3 k_MV_104 h_MV_unlock rfl rfl rfl rfl ⟨by decide, by decide⟩ rfl ?_
    refine ev_g0 rfl ?_
    refine ev_reti rfl ?_
    refine ev_g0 rfl ?_
    refine ev_reti rfl ?_
    refine ct_of h_MM_ways rfl rfl rfl ?_
    refine ev_gS [] [none] rfl ?_
    refine ev_inV 1 k_MM_344 h_MM_hold rfl rfl rfl rfl rfl ⟨by decide, by decide⟩ rfl ?_
    refine ev_gS [] [] rfl ?_
    refine ev_reti rfl ?_
    refine ev_g0 rfl ?_
    refine ev_inV 1 k_MM_357 h_MM_is rfl rfl rfl rfl rfl ⟨by decide, by decide⟩ rfl ?_
    refine ev_gS [false, true] [] rfl ?_
    refine ev_retz rfl (by first | decide | exact zb_01 _) ?_
    refine ev_gS [false] [] rfl ?_
    refine ev_ret rfl ?_
    exact ⟨rfl, xj, xd, xf, xo, xi, xn, nI 1, pl + 1, rfl, lf_S, lf_S, by omega, Or.inr ⟨⟨1, by omega, by omega, rfl⟩, hC⟩, hM⟩
  · skip
    have hq := rc_ihol hC ht hb _ ho
    have zq := rc_isor hC hq
    have yq := rc_imad hC
    rcases hw : xo 4 q 0 with _ | w
    · skip
      refine ct_of h_MV_steer rfl rfl rfl ?_
      refine ev_g0 rfl ?_
      refine ev_inV 0 k_MV_31 h_SD_place rfl rfl rfl rfl rfl ⟨by decide, by decide⟩ rfl ?_
      refine ev_gS [false, false] [] rfl ?_
      refine ev_reti rfl ?_
      refine ev_gS [] [none] rfl ?_
      refine ev_inV 1 k_MV_92 h_SD_t rfl rfl rfl rfl rfl ⟨by decide, by decide⟩ rfl ?_
      refine ev_gS [] [some (94 + 4 * q)] rfl ?_
      refine ev_reta rfl ?_
      refine ev_g0 rfl ?_
      refine ev_inS 3 k_MV_104 h_MV_unlock rfl rfl rfl rfl ⟨by decide, by decide⟩ rfl ?_
      refine ev_gS [false] [] rfl ?_
      refine ev_reti rfl ?_
      refine ev_g0 rfl ?_
      refine ev_reti rfl ?_
      refine ct_of h_MM_ways rfl rfl rfl ?_
      refine ev_gS [] [none] rfl ?_
      refine ev_inV 1 k_MM_344 h_MM_hold rfl rfl rfl rfl rfl ⟨by decide, by decide⟩ rfl ?_
      refine ev_gS [] [] rfl ?_
      refine ev_reti rfl ?_
      refine ev_g0 rfl ?_
      refine ev_inV 1 k_MM_357 h_MM_is rfl rfl rfl rfl rfl ⟨by decide, by decide⟩ rfl ?_
      refine ev_gS [true, false] [] rfl ?_
      refine ev_retz rfl (by first | decide | exact zb_01 _) ?_
      refine ev_gS [true, false] [] rfl ?_
      refine ev_inV 1 k_MM_301 h_MM_fails rfl rfl rfl rfl rfl ⟨by decide, by decide⟩ rfl ?_
      refine ev_g0 rfl ?_
      refine ev_ret rfl ?_
      refine ev_g0 rfl ?_
      refine ev_ret rfl ?_
      exact ⟨rfl, xj, xd, xf, xo, xi, xn, nI 7, pl + 1, rfl, lf_S, lf_S, by omega, Or.inr ⟨⟨7, by omega, by omega, rfl⟩, hC⟩, hM⟩
    · skip
      have hw3 := rc_iown hC hq _ hw
      by_cases hwt : w = t
      · skip
        rw [hwt] at hw
        refine ct_of h_MV_steer rfl rfl rfl ?_
        refine ev_g0 rfl ?_
        refine ev_inV 0 k_MV_31 h_SD_place rfl rfl rfl rfl rfl ⟨by decide, by decide⟩ rfl ?_
        refine ev_gS [false, false] [] rfl ?_
        refine ev_reti rfl ?_
        refine ev_gS [] [none] rfl ?_
        refine ev_inV 1 k_MV_92 h_SD_t rfl rfl rfl rfl rfl ⟨by decide, by decide⟩ rfl ?_
        refine ev_gS [] [some (94 + 4 * q)] rfl ?_
        refine ev_reta rfl ?_
        refine ev_g0 rfl ?_
        refine ev_inS 3 k_MV_104 h_MV_unlock rfl rfl rfl rfl ⟨by decide, by decide⟩ rfl ?_
        refine ev_gS [true] [] rfl ?_
        refine ev_bS rfl rfl (fun h_1 => ?_) (fun h_1 => ?_)
        · skip
          refine ev_g0 rfl ?_
          refine ev_inV 1 k_MV_69 h_SD_goTo rfl rfl rfl rfl rfl ⟨by decide, by decide⟩ rfl ?_
          refine ev_gS [false, false] [] rfl ?_
          refine ev_ret rfl ?_
          refine ev_g0 rfl ?_
          refine ev_reti rfl ?_
          refine ev_g0 rfl ?_
          refine ev_reti rfl ?_
          refine ct_of h_MM_ways rfl rfl rfl ?_
          refine ev_gS [] [none] rfl ?_
          refine ev_inV 1 k_MM_344 h_MM_hold rfl rfl rfl rfl rfl ⟨by decide, by decide⟩ rfl ?_
          refine ev_gS [] [] rfl ?_
          refine ev_reti rfl ?_
          refine ev_g0 rfl ?_
          refine ev_inV 1 k_MM_357 h_MM_is rfl rfl rfl rfl rfl ⟨by decide, by decide⟩ rfl ?_
          refine ev_gS [true, false] [] rfl ?_
          refine ev_retz rfl (by first | decide | exact zb_01 _) ?_
          refine ev_gS [true, true, true] [] rfl ?_
          refine ev_ret rfl ?_
          exact ⟨rfl, xj, xd, xf, xo, u3 xi 0 q 0 (xi 0 q 0 - nI 1), xn, nI 0, pl + 1, rfl, lf_S, lf_S, by omega, Or.inl ⟨rfl, CU_pla (CU_tim hC hq lf_S lf_S) ht (by omega) lf_S lf_S⟩, u3i hw (MU_own (MU_tim hM hq lf_S lf_S (fun i hi => (rc_isor hC hi).2.2.1)) hq lf_S lf_S (fun i hi => (rc_isor hC hi).2.2.1))⟩
        · skip
          refine ev_g0 rfl ?_
          refine ev_inV 0 k_MV_122 h_TH_letGo rfl rfl rfl rfl rfl ⟨by decide, by decide⟩ rfl ?_
          refine ev_g0 rfl ?_
          refine ev_ret rfl ?_
          refine ev_g0 rfl ?_
          refine ev_inV 1 k_MV_69 h_SD_goTo rfl rfl rfl rfl rfl ⟨by decide, by decide⟩ rfl ?_
          refine ev_gS [false, false] [] rfl ?_
          refine ev_ret rfl ?_
          refine ev_g0 rfl ?_
          refine ev_reti rfl ?_
          refine ev_g0 rfl ?_
          refine ev_reti rfl ?_
          refine ct_of h_MM_ways rfl rfl rfl ?_
          refine ev_gS [] [none] rfl ?_
          refine ev_inV 1 k_MM_344 h_MM_hold rfl rfl rfl rfl rfl ⟨by decide, by decide⟩ rfl ?_
          refine ev_gS [] [] rfl ?_
          refine ev_reti rfl ?_
          refine ev_g0 rfl ?_
          refine ev_inV 1 k_MM_357 h_MM_is rfl rfl rfl rfl rfl ⟨by decide, by decide⟩ rfl ?_
          refine ev_gS [true, false] [] rfl ?_
          refine ev_retz rfl (by first | decide | exact zb_01 _) ?_
          refine ev_gS [true, true, false] [] rfl ?_
          refine ev_ret rfl ?_
          exact ⟨rfl, xj, xd, xf, u3 xo 4 q 0 none, u3 xi 0 q 0 (nI 0), xn, nI 0, pl + 1, rfl, lf_S, lf_S, by omega, Or.inl ⟨rfl, CU_pla (u3x (CU_tim (CU_own (CU_tim hC hq lf_S lf_S) hq (fun _ h => by cases h) lf_S lf_S) hq lf_S lf_S)) ht (by omega) lf_S lf_S⟩, MU_own (MU_tim hM hq lf_S lf_S (fun i hi => (rc_isor hC hi).2.2.1)) hq lf_S lf_S (fun i hi => (rc_isor hC hi).2.2.1)⟩
      · skip
        refine ct_of h_MV_steer rfl rfl rfl ?_
        refine ev_g0 rfl ?_
        refine ev_inV 0 k_MV_31 h_SD_place rfl rfl rfl rfl rfl ⟨by decide, by decide⟩ rfl ?_
        refine ev_gS [false, false] [] rfl ?_
        refine ev_reti rfl ?_
        refine ev_gS [] [none] rfl ?_
        refine ev_inV 1 k_MV_92 h_SD_t rfl rfl rfl rfl rfl ⟨by decide, by decide⟩ rfl ?_
        refine ev_gS [] [some (94 + 4 * q)] rfl ?_
        refine ev_reta rfl ?_
        refine ev_g0 rfl ?_
        refine ev_inS 3 k_MV_104 h_MV_unlock rfl rfl rfl rfl ⟨by decide, by decide⟩ rfl ?_
        refine ev_gS [false] [] rfl ?_
        refine ev_reti rfl ?_
        refine ev_g0 rfl ?_
        refine ev_reti rfl ?_
        refine ct_of h_MM_ways rfl rfl rfl ?_
        refine ev_gS [] [none] rfl ?_
        refine ev_inV 1 k_MM_344 h_MM_hold rfl rfl rfl rfl rfl ⟨by decide, by decide⟩ rfl ?_
        refine ev_gS [] [] rfl ?_
        refine ev_reti rfl ?_
        refine ev_g0 rfl ?_
        refine ev_inV 1 k_MM_357 h_MM_is rfl rfl rfl rfl rfl ⟨by decide, by decide⟩ rfl ?_
        refine ev_gS [true, false] [] rfl ?_
        refine ev_retz rfl (by first | decide | exact zb_01 _) ?_
        refine ev_gS [true, false] [] rfl ?_
        refine ev_inV 1 k_MM_301 h_MM_fails rfl rfl rfl rfl rfl ⟨by decide, by decide⟩ rfl ?_
        refine ev_g0 rfl ?_
        refine ev_ret rfl ?_
        refine ev_g0 rfl ?_
        refine ev_ret rfl ?_
        exact ⟨rfl, xj, xd, xf, xo, xi, xn, nI 7, pl + 1, rfl, lf_S, lf_S, by omega, Or.inr ⟨⟨7, by omega, by omega, rfl⟩, hC⟩, hM⟩
theorem A64 {ci : Nat → Nat → Nat → Int32} {cn : Nat → Nat → Nat → Nat} {co : Nat → Option Nat} {xj : Nat → Nat → Nat → Int64} {xd : Nat → Nat → Nat → UInt64} {xf : Nat → Nat → Nat → UInt32} {xo : Nat → Nat → Nat → Option Nat} {xi : Nat → Nat → Nat → Int32} {xn : Nat → Nat → Nat → Nat} {K : Nat → Nat} {I : Nat → Nat → Int32} {J : Nat → Nat → Int64} {F : Nat → Nat → UInt32} {D : Nat → Nat → UInt64} {R : Nat → Nat → Option Nat} {nx sl : Nat} {Km : Nat → Nat} {Im : Nat → Nat → Int32} {Jm : Nat → Nat → Int64} {Fm : Nat → Nat → UInt32} {Dm : Nat → Nat → UInt64} {Rm : Nat → Nat → Option Nat} {nxm slm : Nat} (hC : RC ci cn co xj xd xf xo xi xn I J F D R nx sl) (hM : RM ci cn co xj xd xf xo xi xn Im Jm Dm) {t d pl b : Nat} {a c : Int32} (ht : t < 3) (hd : cn 0 t 0 = d + 1) (hd8 : d < 8) (hpl : cn 2 t d = pl) (hp4 : pl < 40) (hb : b < 8) (x1 : Im 6 39 = nI t) (x2 : Im 6 40 = a) (x3 : Im 6 41 = nI b) (x4 : Im 6 42 = c) (x5 : Im 6 43 = nI 0) (x6 : Im 6 44 = nI (pl + 1)) : Ct Y_MV_steer [vr 2 53, vr 8 (32 + 7 * t), vi (nI 64), vi (a), vi (nI b), vi (c)] (K, I, J, F, D, R, nx, sl) (fun r μ1 => Ct Y_MM_locks [vr 11 6] (Km, Im, Jm, Fm, Dm, Rm, nxm, slm) (fun r2 μ2 => (r2 = some (vi (nI 1)) ∧ QG ci cn co t d r μ1 μ2) ∨ (r2 = some (vi (nI 0)) ∧ QW ci cn co t r μ1 μ2))) := by
  rcases ho : xo 0 t b with _ | q
  · skip
    refine ct_of h_MV_steer rfl rfl rfl ?_
    refine ev_g0 rfl ?_
    refine ev_inV 0 k_MV_31 h_SD_place rfl rfl rfl rfl rfl ⟨by decide, by decide⟩ rfl ?_
    refine ev_gS [false, false] [] rfl ?_
    refine ev_reti rfl ?_
    refine ev_gS [] [some 6] rfl ?_
    refine ev_inV 1 k_MV_92 h_SD_t rfl rfl rfl rfl rfl ⟨by decide, by decide⟩ rfl ?_
    refine ev_gS [] [none] rfl ?_
    refine ev_retn rfl ?_
    refine ev_g0 rfl ?_
    refine ev_inS 3 k_MV_100 h_MV_lock rfl rfl rfl rfl ⟨by decide, by decide⟩ rfl ?_
    refine ev_g0 rfl ?_
    refine ev_reti rfl ?_
    refine ev_g0 rfl ?_
    refine ev_reti rfl ?_
    refine ct_of h_MM_locks rfl rfl rfl ?_
    refine ev_g0 rfl ?_
    refine ev_inV 1 k_MM_344 h_MM_hold rfl rfl rfl rfl rfl ⟨by decide, by decide⟩ rfl ?_
    refine ev_gS [] [] rfl ?_
    refine ev_reti rfl ?_
    refine ev_g0 rfl ?_
    refine ev_inV 1 k_MM_357 h_MM_is rfl rfl rfl rfl rfl ⟨by decide, by decide⟩ rfl ?_
    refine ev_gS [false, true] [] rfl ?_
    refine ev_retz rfl (by first | decide | exact zb_01 _) ?_
    refine ev_gS [false] [] rfl ?_
    refine ev_retz rfl (by first | decide | exact zb_01 _) ?_
    exact Or.inl ⟨rfl, xj, xd, xf, xo, xi, xn, nI 1, pl + 1, rfl, lf_S, lf_S, by omega, Or.inr ⟨⟨1, by omega, by omega, rfl⟩, hC⟩, hM⟩
  · skip
    have hq := rc_ihol hC ht hb _ ho
    have zq := rc_isor hC hq
    have yq := rc_imad hC
    rcases hw : xo 4 q 0 with _ | w
    · skip
      refine ct_of h_MV_steer rfl rfl rfl ?_
      refine ev_g0 rfl ?_
      refine ev_inV 0 k_MV_31 h_SD_place rfl rfl rfl rfl rfl ⟨by decide, by decide⟩ rfl ?_
      refine ev_gS [false, false] [] rfl ?_
      refine ev_reti rfl ?_
      refine ev_gS [] [some 6] rfl ?_
      refine ev_inV 1 k_MV_92 h_SD_t rfl rfl rfl rfl rfl ⟨by decide, by decide⟩ rfl ?_
      refine ev_gS [] [some (94 + 4 * q)] rfl ?_
      refine ev_reta rfl ?_
      refine ev_g0 rfl ?_
      refine ev_inS 3 k_MV_100 h_MV_lock rfl rfl rfl rfl ⟨by decide, by decide⟩ rfl ?_
      refine ev_gS [true] [] rfl ?_
      refine ev_inV 1 k_MV_69 h_SD_goTo rfl rfl rfl rfl rfl ⟨by decide, by decide⟩ rfl ?_
      refine ev_gS [false, false] [] rfl ?_
      refine ev_ret rfl ?_
      refine ev_g0 rfl ?_
      refine ev_reti rfl ?_
      refine ev_g0 rfl ?_
      refine ev_reti rfl ?_
      refine ct_of h_MM_locks rfl rfl rfl ?_
      refine ev_g0 rfl ?_
      refine ev_inV 1 k_MM_344 h_MM_hold rfl rfl rfl rfl rfl ⟨by decide, by decide⟩ rfl ?_
      refine ev_gS [] [] rfl ?_
      refine ev_reti rfl ?_
      refine ev_g0 rfl ?_
      refine ev_inV 1 k_MM_357 h_MM_is rfl rfl rfl rfl rfl ⟨by decide, by decide⟩ rfl ?_
      refine ev_gS [true, false] [] rfl ?_
      refine ev_retz rfl (by first | decide | exact zb_01 _) ?_
      refine ev_gS [true, true] [] rfl ?_
      refine ev_retz rfl (by first | decide | exact zb_01 _) ?_
      exact Or.inl ⟨rfl, xj, xd, xf, (u3 xo 4 q 0 (some t)), (u3 xi 0 q 0 (xi 0 q 0 + nI 1)), xn, nI 0, pl + 1, rfl, lf_S, lf_S, by omega, Or.inl ⟨rfl, CU_pla (CU_tim (CU_own hC hq (fun _ h => by cases h; exact ht) lf_S lf_S) hq lf_S lf_S) ht (by omega) lf_S lf_S⟩, (MU_tim (MU_own hM hq lf_S lf_S (fun i hi => (rc_isor hC hi).2.2.1)) hq lf_S lf_S (fun i hi => (rc_isor hC hi).2.2.1))⟩
    · skip
      have hw3 := rc_iown hC hq _ hw
      by_cases hwt : w = t
      · skip
        rw [hwt] at hw
        refine ct_of h_MV_steer rfl rfl rfl ?_
        refine ev_g0 rfl ?_
        refine ev_inV 0 k_MV_31 h_SD_place rfl rfl rfl rfl rfl ⟨by decide, by decide⟩ rfl ?_
        refine ev_gS [false, false] [] rfl ?_
        refine ev_reti rfl ?_
        refine ev_gS [] [some 6] rfl ?_
        refine ev_inV 1 k_MV_92 h_SD_t rfl rfl rfl rfl rfl ⟨by decide, by decide⟩ rfl ?_
        refine ev_gS [] [some (94 + 4 * q)] rfl ?_
        refine ev_reta rfl ?_
        refine ev_g0 rfl ?_
        refine ev_inS 3 k_MV_100 h_MV_lock rfl rfl rfl rfl ⟨by decide, by decide⟩ rfl ?_
        refine ev_gS [false, true] [] rfl ?_
        refine ev_inV 1 k_MV_69 h_SD_goTo rfl rfl rfl rfl rfl ⟨by decide, by decide⟩ rfl ?_
        refine ev_gS [false, false] [] rfl ?_
        refine ev_ret rfl ?_
        refine ev_g0 rfl ?_
        refine ev_reti rfl ?_
        refine ev_g0 rfl ?_
        refine ev_reti rfl ?_
        refine ct_of h_MM_locks rfl rfl rfl ?_
        refine ev_g0 rfl ?_
        refine ev_inV 1 k_MM_344 h_MM_hold rfl rfl rfl rfl rfl ⟨by decide, by decide⟩ rfl ?_
        refine ev_gS [] [] rfl ?_
        refine ev_reti rfl ?_
        refine ev_g0 rfl ?_
        refine ev_inV 1 k_MM_357 h_MM_is rfl rfl rfl rfl rfl ⟨by decide, by decide⟩ rfl ?_
        refine ev_gS [true, false] [] rfl ?_
        refine ev_retz rfl (by first | decide | exact zb_01 _) ?_
        refine ev_gS [true, false, true] [] rfl ?_
        refine ev_retz rfl (by first | decide | exact zb_01 _) ?_
        exact Or.inl ⟨rfl, xj, xd, xf, (u3 xo 4 q 0 (some t)), (u3 xi 0 q 0 (xi 0 q 0 + nI 1)), xn, nI 0, pl + 1, rfl, lf_S, lf_S, by omega, Or.inl ⟨rfl, CU_pla (CU_tim (CU_own hC hq (fun _ h => by cases h; exact ht) lf_S lf_S) hq lf_S lf_S) ht (by omega) lf_S lf_S⟩, (MU_tim (MU_own hM hq lf_S lf_S (fun i hi => (rc_isor hC hi).2.2.1)) hq lf_S lf_S (fun i hi => (rc_isor hC hi).2.2.1))⟩
      · skip
        refine ct_of h_MV_steer rfl rfl rfl ?_
        refine ev_g0 rfl ?_
        refine ev_inV 0 k_MV_31 h_SD_place rfl rfl rfl rfl rfl ⟨by decide, by decide⟩ rfl ?_
        refine ev_gS [false, false] [] rfl ?_
        refine ev_reti rfl ?_
        refine ev_gS [] [some 6] rfl ?_
        refine ev_inV 1 k_MV_92 h_SD_t rfl rfl rfl rfl rfl ⟨by decide, by decide⟩ rfl ?_
        refine ev_gS [] [some (94 + 4 * q)] rfl ?_
        refine ev_reta rfl ?_
        refine ev_g0 rfl ?_
        refine ev_inS 3 k_MV_100 h_MV_lock rfl rfl rfl rfl ⟨by decide, by decide⟩ rfl ?_
        refine ev_gS [false, false] [] rfl ?_
        refine ev_reti rfl ?_
        refine ev_g0 rfl ?_
        refine ev_reti rfl ?_
        refine ct_of h_MM_locks rfl rfl rfl ?_
        refine ev_g0 rfl ?_
        refine ev_inV 1 k_MM_344 h_MM_hold rfl rfl rfl rfl rfl ⟨by decide, by decide⟩ rfl ?_
        refine ev_gS [] [] rfl ?_
        refine ev_reti rfl ?_
        refine ev_g0 rfl ?_
        refine ev_inV 1 k_MM_357 h_MM_is rfl rfl rfl rfl rfl ⟨by decide, by decide⟩ rfl ?_
        refine ev_gS [true, false] [] rfl ?_
        refine ev_retz rfl (by first | decide | exact zb_01 _) ?_
        refine ev_gS [true, false, false] [] rfl ?_
        refine ev_retz rfl (by first | decide | exact zb_01 _) ?_
        exact Or.inr ⟨rfl, xj, xd, xf, xo, xi, xn, q, hq, rfl, CU_wan hC ht (fun _ h => by cases h; exact hq) lf_S, MU_wan hM ht lf_S lf_S⟩
