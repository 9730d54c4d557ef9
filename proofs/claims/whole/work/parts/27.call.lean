theorem ev_gL9 {Y : mm_Y} {μ0 : mm_M} {rem : List mm_E} {L : mm_L} {st : List mm_V} {μ : mm_M} {Post : Option mm_V → mm_M → Prop} (bs : List Bool) (os : List (Option Nat)) {e2 : mm_E} {rem2 : List mm_E} {L2 : mm_L} {st2 : List mm_V} {μ2 : mm_M} {P2 : Prop} (h : mm_go 5000 (mm_co Y) rem L st μ bs os True = some (e2 :: rem2, L2, st2, μ2, P2)) (k : Ev Y μ0 (e2 :: rem2) L2 st2 μ2 Post) (hp : P2 := by (repeat' apply And.intro) <;> first | exact trivial | assumption | rfl | decide | omega | (simp (disch := first | assumption | omega | decide) only [i_add, i_mul, n_cl, nI_and7, nI_and3, v_in, i_eq, i_lt, i_le, i_eq0, i_lt0, i_ge0, i_gt0, i_le0, lg_cmp_eq, lg_cmp_ge, lg_cmp_gt, lg_cmp_le, lg_cmp_lt, zb_e0, zb_n0, Classical.not_not, up_ne, Nat.zero_add, Nat.add_zero, rm_num hM, rm_mad hM, rm_own hM, rm_tim hM, rm_hol hM, rm_psz hM, rm_pop hM, rm_paa hM, rm_pbb hM, rm_pcc hM, rm_phn hM, rm_hfr hM, rm_hto hM, rm_hfl hM, rm_hpl hM, rm_isn hM, rm_dep hM, rm_cal hM, rm_pla hM, rm_don hM, rm_fai hM, rm_lat hM, rm_lpr hM, rm_lpl hM, rm_wan hM, rm_cal0 hM, rm_pla0 hM, cl_ne, tR_s, tR_n, eI_s, eI_n, e_nm, e_mm, lN_i, l_lt, l_le, l_eq, l_z, lN_t, nI_tl, n_s1, i_sub, eLi, eL_s, eL_n, up_eq, mkz, i_l1, i_l2, i_l3, n_ti, i_tl2, e_mn, Nat.add_sub_cancel, mx0, s11, sa1, if1, ite_self, isr, *] <;> first | assumption | omega | decide)) : Ev Y μ0 rem L st μ Post := ev_go bs os h hp k
theorem ev_bL9 {Y : mm_Y} {μ0 : mm_M} {rem : List mm_E} {L : mm_L} {st : List mm_V} {μ : mm_M} {Post : Option mm_V → mm_M → Prop} {e2 e3 : mm_E} {rem2 rem3 : List mm_E} {L2 L3 : mm_L} {st2 st3 : List mm_V} {μ2 μ3 : mm_M} {c c2 d d2 : Prop} (hT : mm_go 1 (mm_co Y) rem L st μ [true] [] True = some (e2 :: rem2, L2, st2, μ2, True ∧ c)) (hF : mm_go 1 (mm_co Y) rem L st μ [false] [] True = some (e3 :: rem3, L3, st3, μ3, True ∧ c2)) (kt : d → Ev Y μ0 (e2 :: rem2) L2 st2 μ2 Post) (kf : d2 → Ev Y μ0 (e3 :: rem3) L3 st3 μ3 Post) (hc : ¬ c → c2 := by first | exact id | exact Classical.not_not.mp) (g1 : c → d := by intro hh; (try simp (disch := first | assumption | omega | decide) only [i_add, i_mul, n_cl, nI_and7, nI_and3, v_in, i_eq, i_lt, i_le, i_eq0, i_lt0, i_ge0, i_gt0, i_le0, lg_cmp_eq, lg_cmp_ge, lg_cmp_gt, lg_cmp_le, lg_cmp_lt, zb_e0, zb_n0, Classical.not_not, up_ne, Nat.zero_add, Nat.add_zero, rm_num hM, rm_mad hM, rm_own hM, rm_tim hM, rm_hol hM, rm_psz hM, rm_pop hM, rm_paa hM, rm_pbb hM, rm_pcc hM, rm_phn hM, rm_hfr hM, rm_hto hM, rm_hfl hM, rm_hpl hM, rm_isn hM, rm_dep hM, rm_cal hM, rm_pla hM, rm_don hM, rm_fai hM, rm_lat hM, rm_lpr hM, rm_lpl hM, rm_wan hM, rm_cal0 hM, rm_pla0 hM, cl_ne, tR_s, tR_n, eI_s, eI_n, e_nm, e_mm, lN_i, l_lt, l_le, l_eq, l_z, lN_t, nI_tl, n_s1, i_sub, eLi, eL_s, eL_n, up_eq, mkz, i_l1, i_l2, i_l3, n_ti, i_tl2, e_mn, Nat.add_sub_cancel, mx0, s11, sa1, if1, ite_self, isr, *] at hh); exact hh) (g2 : c2 → d2 := by intro hh; (try simp (disch := first | assumption | omega | decide) only [i_add, i_mul, n_cl, nI_and7, nI_and3, v_in, i_eq, i_lt, i_le, i_eq0, i_lt0, i_ge0, i_gt0, i_le0, lg_cmp_eq, lg_cmp_ge, lg_cmp_gt, lg_cmp_le, lg_cmp_lt, zb_e0, zb_n0, Classical.not_not, up_ne, Nat.zero_add, Nat.add_zero, rm_num hM, rm_mad hM, rm_own hM, rm_tim hM, rm_hol hM, rm_psz hM, rm_pop hM, rm_paa hM, rm_pbb hM, rm_pcc hM, rm_phn hM, rm_hfr hM, rm_hto hM, rm_hfl hM, rm_hpl hM, rm_isn hM, rm_dep hM, rm_cal hM, rm_pla hM, rm_don hM, rm_fai hM, rm_lat hM, rm_lpr hM, rm_lpl hM, rm_wan hM, rm_cal0 hM, rm_pla0 hM, cl_ne, tR_s, tR_n, eI_s, eI_n, e_nm, e_mm, lN_i, l_lt, l_le, l_eq, l_z, lN_t, nI_tl, n_s1, i_sub, eLi, eL_s, eL_n, up_eq, mkz, i_l1, i_l2, i_l3, n_ti, i_tl2, e_mn, Nat.add_sub_cancel, mx0, s11, sa1, if1, ite_self, isr, *] at hh); exact hh) : Ev Y μ0 rem L st μ Post := ev_br hT hF hc (fun h => kt (g1 h)) (fun h => kf (g2 h))
theorem lf_L9 {p : Prop} (h : p := by first | rfl | assumption | (simp (disch := first | assumption | omega | decide) only [i_add, i_mul, n_cl, nI_and7, nI_and3, v_in, i_eq, i_lt, i_le, i_eq0, i_lt0, i_ge0, i_gt0, i_le0, lg_cmp_eq, lg_cmp_ge, lg_cmp_gt, lg_cmp_le, lg_cmp_lt, zb_e0, zb_n0, Classical.not_not, up_ne, Nat.zero_add, Nat.add_zero, rm_num hM, rm_mad hM, rm_own hM, rm_tim hM, rm_hol hM, rm_psz hM, rm_pop hM, rm_paa hM, rm_pbb hM, rm_pcc hM, rm_phn hM, rm_hfr hM, rm_hto hM, rm_hfl hM, rm_hpl hM, rm_isn hM, rm_dep hM, rm_cal hM, rm_pla hM, rm_don hM, rm_fai hM, rm_lat hM, rm_lpr hM, rm_lpl hM, rm_wan hM, rm_cal0 hM, rm_pla0 hM, cl_ne, tR_s, tR_n, eI_s, eI_n, e_nm, e_mm, lN_i, l_lt, l_le, l_eq, l_z, lN_t, nI_tl, n_s1, i_sub, eLi, eL_s, eL_n, up_eq, mkz, i_l1, i_l2, i_l3, n_ti, i_tl2, e_mn, Nat.add_sub_cancel, mx0, s11, sa1, if1, ite_self, isr, *] <;> first | rfl | assumption | omega | decide)) : p := h
set_option maxHeartbeats 4000000 in
theorem EN2_loop {ci : Nat → Nat → Nat → Int32} {co : Nat → Option Nat} {xj : Nat → Nat → Nat → Int64} {xd : Nat → Nat → Nat → UInt64} {xf : Nat → Nat → Nat → UInt32} {xo : Nat → Nat → Nat → Option Nat} {xi : Nat → Nat → Nat → Int32} {xn : Nat → Nat → Nat → Nat} {cn : Nat → Nat → Nat → Nat} {t : Nat} {z : Int32} (ht : t < 3) (isr : ∀ i, i < xn 2 0 0 → xn 1 i 0 ≤ 12) (io : ∀ i, i < xn 2 0 0 → ∀ q, xo 4 i 0 = some q → q < 3) (yy : xn 2 0 0 ≤ 160) {μ0 : mm_M} {Post : Option mm_V → mm_M → Prop} : ∀ (n i : Nat) (v : Int32) (L : mm_L) (Km : Nat → Nat) (Im : Nat → Nat → Int32) (Jm : Nat → Nat → Int64) (Fm : Nat → Nat → UInt32) (Dm : Nat → Nat → UInt64) (Rm : Nat → Nat → Option Nat) (nxm slm : Nat), v = nI i → (∀ q ∈ [(0, vr 11 6), (1, vi (nI t)), (2, vi v)], q ∈ L) → RM ci cn co xj xd xf (rlo xo t i) (rli xo xi t i) xn Im Jm Dm → Im 6 43 = z → i + n = xn 2 0 0 → (∀ μ1 : mm_M, RM ci cn co xj xd xf (rlo xo t (xn 2 0 0)) (rli xo xi t (xn 2 0 0)) xn μ1.2.1 μ1.2.2.1 μ1.2.2.2.2.1 → μ1.2.1 6 43 = z → Post none μ1) → Ev Y_MM_ends μ0 (mm_to (mm_co Y_MM_ends) 28) L [vi (nI (xn 2 0 0)), vi v] (Km, Im, Jm, Fm, Dm, Rm, nxm, slm) Post := by
  intro n
  induction n with
  | zero =>
    intro i v L Km Im Jm Fm Dm Rm nxm slm hv hL hM hz hi hQ
    subst hv
    refine ev_sub hL ?_
    have hie : i = xn 2 0 0 := by omega
    subst hie
    refine ev_gL9 [true] [] rfl ?_
    refine ev_ret rfl ?_
    exact hQ _ hM hz
  | succ n ih =>
    intro i v L Km Im Jm Fm Dm Rm nxm slm hv hL hM hz hi hQ
    subst hv
    refine ev_sub hL ?_
    have him : i < xn 2 0 0 := by omega
    have hro : rlo xo t i 4 i 0 = xo 4 i 0 := rlo_ge i (Nat.le_refl _)
    rcases hw : xo 4 i 0 with _ | w
    · skip
      refine ev_gL9 [false, true] [] rfl ?_
      have hr1 : rlo xo t (i + 1) = rlo xo t i := if_neg (by rw [hw]; intro h; cases h)
      have hr2 : rli xo xi t (i + 1) = rli xo xi t i := if_neg (by rw [hw]; intro h; cases h)
      refine ev_cg2 rfl (st2 := [vi (nI (xn 2 0 0)), vi (nI i + nI 1)]) lf_L9 rfl ?_
      refine ih (i + 1) _ _ _ _ _ _ _ _ _ _ (i_add i 1) (fun q h => h) ?_ lf_L9 (by omega) hQ
      rw [hr1, hr2]
      exact hM
    · have hw3 := io i him w hw
      by_cases hwt : w = t
      · rw [hwt] at hw
        refine ev_gL9 [false, false] [] rfl ?_
        have hr1 : rlo xo t (i + 1) = u3 (rlo xo t i) 4 i 0 none := if_pos (by rw [hw])
        have hr2 : rli xo xi t (i + 1) = u3 (rli xo xi t i) 0 i 0 (nI 0) := if_pos (by rw [hw])
        refine ev_cg2 rfl (st2 := [vi (nI (xn 2 0 0)), vi (nI i + nI 1)]) lf_L9 rfl ?_
        refine ih (i + 1) _ _ _ _ _ _ _ _ _ _ (i_add i 1) (fun q h => h) ?_ lf_L9 (by omega) hQ
        rw [hr1, hr2]
        exact MU_tim (MU_own hM him lf_L9 lf_L9 isr) him lf_L9 lf_L9 isr
      · skip
        refine ev_gL9 [false, true] [] rfl ?_
        have hr1 : rlo xo t (i + 1) = rlo xo t i := if_neg (by rw [hw]; intro h; exact hwt (Option.some.inj h))
        have hr2 : rli xo xi t (i + 1) = rli xo xi t i := if_neg (by rw [hw]; intro h; exact hwt (Option.some.inj h))
        refine ev_cg2 rfl (st2 := [vi (nI (xn 2 0 0)), vi (nI i + nI 1)]) lf_L9 rfl ?_
        refine ih (i + 1) _ _ _ _ _ _ _ _ _ _ (i_add i 1) (fun q h => h) ?_ lf_L9 (by omega) hQ
        rw [hr1, hr2]
        exact hM
theorem C_MM_ends2 {ci : Nat → Nat → Nat → Int32} {co : Nat → Option Nat} {xj : Nat → Nat → Nat → Int64} {xd : Nat → Nat → Nat → UInt64} {xf : Nat → Nat → Nat → UInt32} {xo : Nat → Nat → Nat → Option Nat} {xi : Nat → Nat → Nat → Int32} {xn : Nat → Nat → Nat → Nat} {cn : Nat → Nat → Nat → Nat} {t : Nat} (ht : t < 3) (isr : ∀ i, i < xn 2 0 0 → xn 1 i 0 ≤ 12) (io : ∀ i, i < xn 2 0 0 → ∀ q, xo 4 i 0 = some q → q < 3) (yy : xn 2 0 0 ≤ 160) {Km : Nat → Nat} {Im : Nat → Nat → Int32} {Jm : Nat → Nat → Int64} {Fm : Nat → Nat → UInt32} {Dm : Nat → Nat → UInt64} {Rm : Nat → Nat → Option Nat} {nxm slm : Nat} {I2 : Nat → Nat → Int32} (hM : RM ci cn co xj xd xf xo xi xn Im Jm Dm) (h2 : ∀ a k, ¬ (a = 35 ∧ k = t) → I2 a k = Im a k) : Ct Y_MM_ends [vr 11 6, vi (nI t)] (Km, I2, Jm, Fm, Dm, Rm, nxm, slm) (fun r μ1 => r = none ∧ RM ci (u3 cn 0 t 0 0) (u1 co t none) xj xd xf (rlo xo t (xn 2 0 0)) (rli xo xi t (xn 2 0 0)) xn μ1.2.1 μ1.2.2.1 μ1.2.2.2.2.1 ∧ μ1.2.1 6 43 = Im 6 43) := by
  have hM1 := MU_wan (v := none) (MU_dp0 hM ht) ht rfl rfl
  have e : mm_up (mm_up (mm_up I2 34 t (nI 0)) 35 t (nI 0)) 43 t (-(nI 1)) = mm_up (mm_up (mm_up Im 34 t (nI 0)) 35 t (nI 0)) 43 t (eI none) := by
    funext a k
    simp only [mm_up]
    by_cases g : a = 35 ∧ k = t
    · (repeat' split) <;> first | rfl | (exfalso; omega)
    · rw [h2 a k g]; rfl
  have em : I2 6 0 = nI (xn 2 0 0) := by rw [h2 6 0 (by rintro ⟨q, -⟩; cases q)]; exact rm_mad hM
  have c0 : vp_in (nI t) 3 := (v_in (by omega)).mpr ht
  have ct : (nI t).toNatClampNeg = t := n_cl (by omega)
  refine ct_of h_MM_ends rfl rfl rfl ?_
  refine ev_go [] [] rfl ⟨⟨⟨trivial, c0⟩, c0⟩, c0⟩ ?_
  refine ev_cg2 rfl (st2 := [vi (nI (xn 2 0 0)), vi (nI 0)]) (μ2 := (Km, mm_up (mm_up (mm_up Im 34 t (nI 0)) 35 t (nI 0)) 43 t (eI none), Jm, Fm, Dm, Rm, nxm, slm)) ?_ ?_ ?_
  · show [vi (mm_up _ _ _ _ 6 0), _] = _
    rw [up_ne (by omega), up_ne (by omega), up_ne (by omega), em]
  · rw [ct, show vp_nar FieldType.boolean (nI 0) = nI 0 from by decide, e]
  · exact EN2_loop ht isr io yy (xn 2 0 0) 0 _ _ _ _ _ _ _ _ _ _ rfl (fun q h => h) hM1 (by rw [up_ne (by omega), up_ne (by omega), up_ne (by omega)]) (by omega) (fun μ1 h hz => ⟨rfl, h, hz⟩)
theorem ev_gK8 {Y : mm_Y} {μ0 : mm_M} {rem : List mm_E} {L : mm_L} {st : List mm_V} {μ : mm_M} {Post : Option mm_V → mm_M → Prop} (bs : List Bool) (os : List (Option Nat)) {e2 : mm_E} {rem2 : List mm_E} {L2 : mm_L} {st2 : List mm_V} {μ2 : mm_M} {P2 : Prop} (h : mm_go 5000 (mm_co Y) rem L st μ bs os True = some (e2 :: rem2, L2, st2, μ2, P2)) (k : Ev Y μ0 (e2 :: rem2) L2 st2 μ2 Post) (hp : P2 := by (repeat' apply And.intro) <;> first | exact trivial | assumption | rfl | decide | omega | (simp (disch := first | assumption | omega | decide) only [i_add, i_mul, n_cl, nI_and7, nI_and3, v_in, i_eq, i_lt, i_le, i_eq0, i_lt0, i_ge0, i_gt0, i_le0, lg_cmp_eq, lg_cmp_ge, lg_cmp_gt, lg_cmp_le, lg_cmp_lt, zb_e0, zb_n0, Classical.not_not, up_ne, Nat.zero_add, Nat.add_zero, rc_num hC, rc_hol hC, rc_who hC, rc_nn hC, rc_dbl hC, rc_flt hC, rc_rea hC, rc_xx hC, rc_ff hC, rc_par hC, rc_nxt hC, rc_lin hC, rc_thg hC, rc_prg hC, rc_str hC, rc_pix hC, rc_six hC, rc_own hC, rc_tim hC, rc_mad hC, rc_psz hC, rc_phn hC, rc_pop hC, rc_paa hC, rc_pbb hC, rc_pcc hC, rc_hfr hC, rc_hto hC, rc_hfl hC, rc_hpl hC, rc_dep hC, rc_pla hC, rc_don hC, rc_fai hC, rc_fno hC, rc_lat hC, rc_lpr hC, rc_lpl hC, rc_wan hC, rc_cal hC, cl_ne, tR_s, tR_n, eI_s, eI_n, e_nm, e_mm, lN_i, l_lt, l_le, l_eq, l_z, lN_t, nI_tl, n_s1, i_sub, eLi, eL_s, eL_n, up_eq, mkz, i_l1, i_l2, i_l3, n_ti, i_tl2, e_mn, Nat.add_sub_cancel, mx0, s11, sa1, if1, ite_self, if_true, if_false, *] <;> first | assumption | omega | decide)) : Ev Y μ0 rem L st μ Post := ev_go bs os h hp k
theorem ev_bK8 {Y : mm_Y} {μ0 : mm_M} {rem : List mm_E} {L : mm_L} {st : List mm_V} {μ : mm_M} {Post : Option mm_V → mm_M → Prop} {e2 e3 : mm_E} {rem2 rem3 : List mm_E} {L2 L3 : mm_L} {st2 st3 : List mm_V} {μ2 μ3 : mm_M} {c c2 d d2 : Prop} (hT : mm_go 1 (mm_co Y) rem L st μ [true] [] True = some (e2 :: rem2, L2, st2, μ2, True ∧ c)) (hF : mm_go 1 (mm_co Y) rem L st μ [false] [] True = some (e3 :: rem3, L3, st3, μ3, True ∧ c2)) (kt : d → Ev Y μ0 (e2 :: rem2) L2 st2 μ2 Post) (kf : d2 → Ev Y μ0 (e3 :: rem3) L3 st3 μ3 Post) (hc : ¬ c → c2 := by first | exact id | exact Classical.not_not.mp) (g1 : c → d := by intro hh; (try simp (disch := first | assumption | omega | decide) only [i_add, i_mul, n_cl, nI_and7, nI_and3, v_in, i_eq, i_lt, i_le, i_eq0, i_lt0, i_ge0, i_gt0, i_le0, lg_cmp_eq, lg_cmp_ge, lg_cmp_gt, lg_cmp_le, lg_cmp_lt, zb_e0, zb_n0, Classical.not_not, up_ne, Nat.zero_add, Nat.add_zero, rc_num hC, rc_hol hC, rc_who hC, rc_nn hC, rc_dbl hC, rc_flt hC, rc_rea hC, rc_xx hC, rc_ff hC, rc_par hC, rc_nxt hC, rc_lin hC, rc_thg hC, rc_prg hC, rc_str hC, rc_pix hC, rc_six hC, rc_own hC, rc_tim hC, rc_mad hC, rc_psz hC, rc_phn hC, rc_pop hC, rc_paa hC, rc_pbb hC, rc_pcc hC, rc_hfr hC, rc_hto hC, rc_hfl hC, rc_hpl hC, rc_dep hC, rc_pla hC, rc_don hC, rc_fai hC, rc_fno hC, rc_lat hC, rc_lpr hC, rc_lpl hC, rc_wan hC, rc_cal hC, cl_ne, tR_s, tR_n, eI_s, eI_n, e_nm, e_mm, lN_i, l_lt, l_le, l_eq, l_z, lN_t, nI_tl, n_s1, i_sub, eLi, eL_s, eL_n, up_eq, mkz, i_l1, i_l2, i_l3, n_ti, i_tl2, e_mn, Nat.add_sub_cancel, mx0, s11, sa1, if1, ite_self, if_true, if_false, *] at hh); exact hh) (g2 : c2 → d2 := by intro hh; (try simp (disch := first | assumption | omega | decide) only [i_add, i_mul, n_cl, nI_and7, nI_and3, v_in, i_eq, i_lt, i_le, i_eq0, i_lt0, i_ge0, i_gt0, i_le0, lg_cmp_eq, lg_cmp_ge, lg_cmp_gt, lg_cmp_le, lg_cmp_lt, zb_e0, zb_n0, Classical.not_not, up_ne, Nat.zero_add, Nat.add_zero, rc_num hC, rc_hol hC, rc_who hC, rc_nn hC, rc_dbl hC, rc_flt hC, rc_rea hC, rc_xx hC, rc_ff hC, rc_par hC, rc_nxt hC, rc_lin hC, rc_thg hC, rc_prg hC, rc_str hC, rc_pix hC, rc_six hC, rc_own hC, rc_tim hC, rc_mad hC, rc_psz hC, rc_phn hC, rc_pop hC, rc_paa hC, rc_pbb hC, rc_pcc hC, rc_hfr hC, rc_hto hC, rc_hfl hC, rc_hpl hC, rc_dep hC, rc_pla hC, rc_don hC, rc_fai hC, rc_fno hC, rc_lat hC, rc_lpr hC, rc_lpl hC, rc_wan hC, rc_cal hC, cl_ne, tR_s, tR_n, eI_s, eI_n, e_nm, e_mm, lN_i, l_lt, l_le, l_eq, l_z, lN_t, nI_tl, n_s1, i_sub, eLi, eL_s, eL_n, up_eq, mkz, i_l1, i_l2, i_l3, n_ti, i_tl2, e_mn, Nat.add_sub_cancel, mx0, s11, sa1, if1, ite_self, if_true, if_false, *] at hh); exact hh) : Ev Y μ0 rem L st μ Post := ev_br hT hF hc (fun h => kt (g1 h)) (fun h => kf (g2 h))
theorem lf_K8 {p : Prop} (h : p := by first | rfl | assumption | (simp (disch := first | assumption | omega | decide) only [i_add, i_mul, n_cl, nI_and7, nI_and3, v_in, i_eq, i_lt, i_le, i_eq0, i_lt0, i_ge0, i_gt0, i_le0, lg_cmp_eq, lg_cmp_ge, lg_cmp_gt, lg_cmp_le, lg_cmp_lt, zb_e0, zb_n0, Classical.not_not, up_ne, Nat.zero_add, Nat.add_zero, rc_num hC, rc_hol hC, rc_who hC, rc_nn hC, rc_dbl hC, rc_flt hC, rc_rea hC, rc_xx hC, rc_ff hC, rc_par hC, rc_nxt hC, rc_lin hC, rc_thg hC, rc_prg hC, rc_str hC, rc_pix hC, rc_six hC, rc_own hC, rc_tim hC, rc_mad hC, rc_psz hC, rc_phn hC, rc_pop hC, rc_paa hC, rc_pbb hC, rc_pcc hC, rc_hfr hC, rc_hto hC, rc_hfl hC, rc_hpl hC, rc_dep hC, rc_pla hC, rc_don hC, rc_fai hC, rc_fno hC, rc_lat hC, rc_lpr hC, rc_lpl hC, rc_wan hC, rc_cal hC, cl_ne, tR_s, tR_n, eI_s, eI_n, e_nm, e_mm, lN_i, l_lt, l_le, l_eq, l_z, lN_t, nI_tl, n_s1, i_sub, eLi, eL_s, eL_n, up_eq, mkz, i_l1, i_l2, i_l3, n_ti, i_tl2, e_mn, Nat.add_sub_cancel, mx0, s11, sa1, if1, ite_self, if_true, if_false, *] <;> first | rfl | assumption | omega | decide)) : p := h
set_option maxHeartbeats 4000000 in
theorem S62a {ci : Nat → Nat → Nat → Int32} {co : Nat → Option Nat} {xj : Nat → Nat → Nat → Int64} {xd : Nat → Nat → Nat → UInt64} {xf : Nat → Nat → Nat → UInt32} {xo : Nat → Nat → Nat → Option Nat} {xi : Nat → Nat → Nat → Int32} {xn : Nat → Nat → Nat → Nat} {cn : Nat → Nat → Nat → Nat} {t d a : Nat} {b c : Int32} (ht : t < 3) (hI : IC ci cn) (hd : cn 0 t 0 = d + 1) (ha : a < 6) (hd7 : d + 1 < 8) {K : Nat → Nat} {I : Nat → Nat → Int32} {J : Nat → Nat → Int64} {F : Nat → Nat → UInt32} {D : Nat → Nat → UInt64} {R : Nat → Nat → Option Nat} {nx sl : Nat} (hC : RC ci cn co xj xd xf xo xi xn I J F D R nx sl) : Ct Y_MV_steer [vr 2 53, vr 8 (32 + 7 * t), vi (nI 62), vi (nI a), vi b, vi c] (K, I, J, F, D, R, nx, sl) (fun r μ1 => r = some (vi (nI 0)) ∧ RC ci (u3 (u3 (u3 cn 1 t (d + 1) a) 2 t (d + 1) 0) 0 t 0 (d + 1 + 1)) co xj xd xf xo xi xn μ1.2.1 μ1.2.2.1 μ1.2.2.2.1 μ1.2.2.2.2.1 μ1.2.2.2.2.2.1 μ1.2.2.2.2.2.2.1 μ1.2.2.2.2.2.2.2) := by
  have i0 := hI.1 t ht
  have hd8 : d + 1 < 8 := hd7
  have i1 := hI.2.1 t ht d (by omega)
  refine ct_of h_MV_steer rfl rfl rfl ?_
  refine ev_g0 rfl ?_
  refine ev_inV 0 k_MV_31 h_SD_place rfl rfl rfl rfl rfl ⟨by decide, by decide⟩ rfl ?_
  refine ev_gK8 [false, false] [] rfl ?_
  refine ev_reti rfl ?_
  refine ev_gK8 [false, false] [some 4, some (14 + 3 * a)] rfl ?_
  refine ev_inV 1 k_MV_96 h_SD_enter rfl rfl rfl rfl rfl ⟨by decide, by decide⟩ rfl ?_
  refine ev_gK8 [false, true] [] rfl ?_
  refine ev_retz rfl (by first | decide | exact zb_01 _) ?_
  refine ev_gK8 [false] [] rfl ?_
  refine ev_reti rfl ?_
  refine ⟨rfl, ?_⟩
  have h9 := CU_psh (p := a) hC ht hd (by omega)
  show RC _ _ _ _ _ _ _ _ _ _ _ _ _ _ _ _
  simp (disch := first | assumption | omega | decide) only [up_ne, i_add, n_cl, rc_dep hC, hd]
  exact h9
set_option maxHeartbeats 4000000 in
theorem S62b {ci : Nat → Nat → Nat → Int32} {co : Nat → Option Nat} {xj : Nat → Nat → Nat → Int64} {xd : Nat → Nat → Nat → UInt64} {xf : Nat → Nat → Nat → UInt32} {xo : Nat → Nat → Nat → Option Nat} {xi : Nat → Nat → Nat → Int32} {xn : Nat → Nat → Nat → Nat} {cn : Nat → Nat → Nat → Nat} {t d a : Nat} {b c : Int32} (ht : t < 3) (hI : IC ci cn) (hd : cn 0 t 0 = 7 + 1) (ha : a < 6) {K : Nat → Nat} {I : Nat → Nat → Int32} {J : Nat → Nat → Int64} {F : Nat → Nat → UInt32} {D : Nat → Nat → UInt64} {R : Nat → Nat → Option Nat} {nx sl : Nat} (hC : RC ci cn co xj xd xf xo xi xn I J F D R nx sl) : Ct Y_MV_steer [vr 2 53, vr 8 (32 + 7 * t), vi (nI 62), vi (nI a), vi b, vi c] (K, I, J, F, D, R, nx, sl) (fun r μ1 => r = some (vi (nI 9)) ∧ RC ci cn co xj xd xf xo xi xn μ1.2.1 μ1.2.2.1 μ1.2.2.2.1 μ1.2.2.2.2.1 μ1.2.2.2.2.2.1 μ1.2.2.2.2.2.2.1 μ1.2.2.2.2.2.2.2) := by
  have i0 := hI.1 t ht
  have i1 := hI.2.1 t ht 7 (by omega)
  refine ct_of h_MV_steer rfl rfl rfl ?_
  refine ev_g0 rfl ?_
  refine ev_inV 0 k_MV_31 h_SD_place rfl rfl rfl rfl rfl ⟨by decide, by decide⟩ rfl ?_
  refine ev_gK8 [false, false] [] rfl ?_
  refine ev_reti rfl ?_
  refine ev_gK8 [false, false] [some 4, some (14 + 3 * a)] rfl ?_
  refine ev_inV 1 k_MV_96 h_SD_enter rfl rfl rfl rfl rfl ⟨by decide, by decide⟩ rfl ?_
  refine ev_gK8 [false, false] [] rfl ?_
  refine ev_retz rfl (by first | decide | exact zb_01 _) ?_
  refine ev_gK8 [true] [] rfl ?_
  refine ev_reti rfl ?_
  exact ⟨rfl, hC⟩
set_option maxHeartbeats 4000000 in
theorem S63z {ci : Nat → Nat → Nat → Int32} {co : Nat → Option Nat} {xj : Nat → Nat → Nat → Int64} {xd : Nat → Nat → Nat → UInt64} {xf : Nat → Nat → Nat → UInt32} {xo : Nat → Nat → Nat → Option Nat} {xi : Nat → Nat → Nat → Int32} {xn : Nat → Nat → Nat → Nat} {cn : Nat → Nat → Nat → Nat} {t d : Nat} {a b c : Int32} (ht : t < 3) (hI : IC ci cn) (hd : cn 0 t 0 = 0 + 1)  {K : Nat → Nat} {I : Nat → Nat → Int32} {J : Nat → Nat → Int64} {F : Nat → Nat → UInt32} {D : Nat → Nat → UInt64} {R : Nat → Nat → Option Nat} {nx sl : Nat} (hC : RC ci cn co xj xd xf xo xi xn I J F D R nx sl) : Ct Y_MV_steer [vr 2 53, vr 8 (32 + 7 * t), vi (nI 63), vi (a), vi b, vi c] (K, I, J, F, D, R, nx, sl) (fun r μ1 => r = some (vi (nI 0)) ∧ RC ci (lv cn t 0) co xj xd xf xo xi xn μ1.2.1 μ1.2.2.1 μ1.2.2.2.1 μ1.2.2.2.2.1 μ1.2.2.2.2.2.1 μ1.2.2.2.2.2.2.1 μ1.2.2.2.2.2.2.2) := by
  have i0 := hI.1 t ht
  have i1 := hI.2.1 t ht 0 (by omega)
  refine ct_of h_MV_steer rfl rfl rfl ?_
  refine ev_g0 rfl ?_
  refine ev_inV 0 k_MV_31 h_SD_place rfl rfl rfl rfl rfl ⟨by decide, by decide⟩ rfl ?_
  refine ev_gK8 [false, false] [] rfl ?_
  refine ev_reti rfl ?_
  refine ev_gK8 [] [some 5] rfl ?_
  refine ev_inV 0 k_MV_81 h_SD_leave rfl rfl rfl rfl rfl ⟨by decide, by decide⟩ rfl ?_
  refine ev_g0 rfl ?_
  refine ev_inV 0 k_SD_58 h_SD_place rfl rfl rfl rfl rfl ⟨by decide, by decide⟩ rfl ?_
  refine ev_gK8 [true] [] rfl ?_
  refine ev_reti rfl ?_
  refine ev_g0 rfl ?_
  refine ev_inV 1 k_SD_62 h_SD_goTo rfl rfl rfl rfl rfl ⟨by decide, by decide⟩ rfl ?_
  refine ev_gK8 [true] [] rfl ?_
  refine ev_ret rfl ?_
  refine ev_g0 rfl ?_
  refine ev_ret rfl ?_
  refine ev_g0 rfl ?_
  refine ev_reti rfl ?_
  exact ⟨rfl, CU_dep hC ht (by omega) lf_K8⟩
set_option maxHeartbeats 4000000 in
theorem S63s {ci : Nat → Nat → Nat → Int32} {co : Nat → Option Nat} {xj : Nat → Nat → Nat → Int64} {xd : Nat → Nat → Nat → UInt64} {xf : Nat → Nat → Nat → UInt32} {xo : Nat → Nat → Nat → Option Nat} {xi : Nat → Nat → Nat → Int32} {xn : Nat → Nat → Nat → Nat} {cn : Nat → Nat → Nat → Nat} {t d : Nat} {a b c : Int32} (ht : t < 3) (hI : IC ci cn) (hd : cn 0 t 0 = d + 1 + 1)  {K : Nat → Nat} {I : Nat → Nat → Int32} {J : Nat → Nat → Int64} {F : Nat → Nat → UInt32} {D : Nat → Nat → UInt64} {R : Nat → Nat → Option Nat} {nx sl : Nat} (hC : RC ci cn co xj xd xf xo xi xn I J F D R nx sl) : Ct Y_MV_steer [vr 2 53, vr 8 (32 + 7 * t), vi (nI 63), vi (a), vi b, vi c] (K, I, J, F, D, R, nx, sl) (fun r μ1 => r = some (vi (nI 0)) ∧ RC ci (lv cn t (d + 1)) co xj xd xf xo xi xn μ1.2.1 μ1.2.2.1 μ1.2.2.2.1 μ1.2.2.2.2.1 μ1.2.2.2.2.2.1 μ1.2.2.2.2.2.2.1 μ1.2.2.2.2.2.2.2) := by
  have i0 := hI.1 t ht
  have i1 := hI.2.1 t ht (d + 1) (by omega)
  have i3 := hI.2.1 t ht d (by omega)
  refine ct_of h_MV_steer rfl rfl rfl ?_
  refine ev_g0 rfl ?_
  refine ev_inV 0 k_MV_31 h_SD_place rfl rfl rfl rfl rfl ⟨by decide, by decide⟩ rfl ?_
  refine ev_gK8 [false, false] [] rfl ?_
  refine ev_reti rfl ?_
  refine ev_gK8 [] [some 5] rfl ?_
  refine ev_inV 0 k_MV_81 h_SD_leave rfl rfl rfl rfl rfl ⟨by decide, by decide⟩ rfl ?_
  refine ev_g0 rfl ?_
  refine ev_inV 0 k_SD_58 h_SD_place rfl rfl rfl rfl rfl ⟨by decide, by decide⟩ rfl ?_
  refine ev_gK8 [false, false] [] rfl ?_
  refine ev_reti rfl ?_
  refine ev_g0 rfl ?_
  refine ev_inV 1 k_SD_62 h_SD_goTo rfl rfl rfl rfl rfl ⟨by decide, by decide⟩ rfl ?_
  refine ev_gK8 [false, false] [] rfl ?_
  refine ev_ret rfl ?_
  refine ev_g0 rfl ?_
  refine ev_ret rfl ?_
  refine ev_g0 rfl ?_
  refine ev_reti rfl ?_
  exact ⟨rfl, CU_pla (CU_dep hC ht (by omega) lf_K8) ht (by simp [u3]) lf_K8 lf_K8⟩
theorem ev_gL8 {Y : mm_Y} {μ0 : mm_M} {rem : List mm_E} {L : mm_L} {st : List mm_V} {μ : mm_M} {Post : Option mm_V → mm_M → Prop} (bs : List Bool) (os : List (Option Nat)) {e2 : mm_E} {rem2 : List mm_E} {L2 : mm_L} {st2 : List mm_V} {μ2 : mm_M} {P2 : Prop} (h : mm_go 5000 (mm_co Y) rem L st μ bs os True = some (e2 :: rem2, L2, st2, μ2, P2)) (k : Ev Y μ0 (e2 :: rem2) L2 st2 μ2 Post) (hp : P2 := by (repeat' apply And.intro) <;> first | exact trivial | assumption | rfl | decide | omega | (simp (disch := first | assumption | omega | decide) only [i_add, i_mul, n_cl, nI_and7, nI_and3, v_in, i_eq, i_lt, i_le, i_eq0, i_lt0, i_ge0, i_gt0, i_le0, lg_cmp_eq, lg_cmp_ge, lg_cmp_gt, lg_cmp_le, lg_cmp_lt, zb_e0, zb_n0, Classical.not_not, up_ne, Nat.zero_add, Nat.add_zero, rm_num hM, rm_mad hM, rm_own hM, rm_tim hM, rm_hol hM, rm_psz hM, rm_pop hM, rm_paa hM, rm_pbb hM, rm_pcc hM, rm_phn hM, rm_hfr hM, rm_hto hM, rm_hfl hM, rm_hpl hM, rm_isn hM, rm_dep hM, rm_cal hM, rm_pla hM, rm_don hM, rm_fai hM, rm_lat hM, rm_lpr hM, rm_lpl hM, rm_wan hM, rm_cal0 hM, rm_pla0 hM, cl_ne, tR_s, tR_n, eI_s, eI_n, e_nm, e_mm, lN_i, l_lt, l_le, l_eq, l_z, lN_t, nI_tl, n_s1, i_sub, eLi, eL_s, eL_n, up_eq, mkz, i_l1, i_l2, i_l3, n_ti, i_tl2, e_mn, Nat.add_sub_cancel, mx0, s11, sa1, if1, ite_self, up_eq, u3_s, *] <;> first | assumption | omega | decide)) : Ev Y μ0 rem L st μ Post := ev_go bs os h hp k
theorem ev_bL8 {Y : mm_Y} {μ0 : mm_M} {rem : List mm_E} {L : mm_L} {st : List mm_V} {μ : mm_M} {Post : Option mm_V → mm_M → Prop} {e2 e3 : mm_E} {rem2 rem3 : List mm_E} {L2 L3 : mm_L} {st2 st3 : List mm_V} {μ2 μ3 : mm_M} {c c2 d d2 : Prop} (hT : mm_go 1 (mm_co Y) rem L st μ [true] [] True = some (e2 :: rem2, L2, st2, μ2, True ∧ c)) (hF : mm_go 1 (mm_co Y) rem L st μ [false] [] True = some (e3 :: rem3, L3, st3, μ3, True ∧ c2)) (kt : d → Ev Y μ0 (e2 :: rem2) L2 st2 μ2 Post) (kf : d2 → Ev Y μ0 (e3 :: rem3) L3 st3 μ3 Post) (hc : ¬ c → c2 := by first | exact id | exact Classical.not_not.mp) (g1 : c → d := by intro hh; (try simp (disch := first | assumption | omega | decide) only [i_add, i_mul, n_cl, nI_and7, nI_and3, v_in, i_eq, i_lt, i_le, i_eq0, i_lt0, i_ge0, i_gt0, i_le0, lg_cmp_eq, lg_cmp_ge, lg_cmp_gt, lg_cmp_le, lg_cmp_lt, zb_e0, zb_n0, Classical.not_not, up_ne, Nat.zero_add, Nat.add_zero, rm_num hM, rm_mad hM, rm_own hM, rm_tim hM, rm_hol hM, rm_psz hM, rm_pop hM, rm_paa hM, rm_pbb hM, rm_pcc hM, rm_phn hM, rm_hfr hM, rm_hto hM, rm_hfl hM, rm_hpl hM, rm_isn hM, rm_dep hM, rm_cal hM, rm_pla hM, rm_don hM, rm_fai hM, rm_lat hM, rm_lpr hM, rm_lpl hM, rm_wan hM, rm_cal0 hM, rm_pla0 hM, cl_ne, tR_s, tR_n, eI_s, eI_n, e_nm, e_mm, lN_i, l_lt, l_le, l_eq, l_z, lN_t, nI_tl, n_s1, i_sub, eLi, eL_s, eL_n, up_eq, mkz, i_l1, i_l2, i_l3, n_ti, i_tl2, e_mn, Nat.add_sub_cancel, mx0, s11, sa1, if1, ite_self, up_eq, u3_s, *] at hh); exact hh) (g2 : c2 → d2 := by intro hh; (try simp (disch := first | assumption | omega | decide) only [i_add, i_mul, n_cl, nI_and7, nI_and3, v_in, i_eq, i_lt, i_le, i_eq0, i_lt0, i_ge0, i_gt0, i_le0, lg_cmp_eq, lg_cmp_ge, lg_cmp_gt, lg_cmp_le, lg_cmp_lt, zb_e0, zb_n0, Classical.not_not, up_ne, Nat.zero_add, Nat.add_zero, rm_num hM, rm_mad hM, rm_own hM, rm_tim hM, rm_hol hM, rm_psz hM, rm_pop hM, rm_paa hM, rm_pbb hM, rm_pcc hM, rm_phn hM, rm_hfr hM, rm_hto hM, rm_hfl hM, rm_hpl hM, rm_isn hM, rm_dep hM, rm_cal hM, rm_pla hM, rm_don hM, rm_fai hM, rm_lat hM, rm_lpr hM, rm_lpl hM, rm_wan hM, rm_cal0 hM, rm_pla0 hM, cl_ne, tR_s, tR_n, eI_s, eI_n, e_nm, e_mm, lN_i, l_lt, l_le, l_eq, l_z, lN_t, nI_tl, n_s1, i_sub, eLi, eL_s, eL_n, up_eq, mkz, i_l1, i_l2, i_l3, n_ti, i_tl2, e_mn, Nat.add_sub_cancel, mx0, s11, sa1, if1, ite_self, up_eq, u3_s, *] at hh); exact hh) : Ev Y μ0 rem L st μ Post := ev_br hT hF hc (fun h => kt (g1 h)) (fun h => kf (g2 h))
theorem lf_L8 {p : Prop} (h : p := by first | rfl | assumption | (simp (disch := first | assumption | omega | decide) only [i_add, i_mul, n_cl, nI_and7, nI_and3, v_in, i_eq, i_lt, i_le, i_eq0, i_lt0, i_ge0, i_gt0, i_le0, lg_cmp_eq, lg_cmp_ge, lg_cmp_gt, lg_cmp_le, lg_cmp_lt, zb_e0, zb_n0, Classical.not_not, up_ne, Nat.zero_add, Nat.add_zero, rm_num hM, rm_mad hM, rm_own hM, rm_tim hM, rm_hol hM, rm_psz hM, rm_pop hM, rm_paa hM, rm_pbb hM, rm_pcc hM, rm_phn hM, rm_hfr hM, rm_hto hM, rm_hfl hM, rm_hpl hM, rm_isn hM, rm_dep hM, rm_cal hM, rm_pla hM, rm_don hM, rm_fai hM, rm_lat hM, rm_lpr hM, rm_lpl hM, rm_wan hM, rm_cal0 hM, rm_pla0 hM, cl_ne, tR_s, tR_n, eI_s, eI_n, e_nm, e_mm, lN_i, l_lt, l_le, l_eq, l_z, lN_t, nI_tl, n_s1, i_sub, eLi, eL_s, eL_n, up_eq, mkz, i_l1, i_l2, i_l3, n_ti, i_tl2, e_mn, Nat.add_sub_cancel, mx0, s11, sa1, if1, ite_self, up_eq, u3_s, *] <;> first | rfl | assumption | omega | decide)) : p := h
set_option maxHeartbeats 4000000 in
theorem D62a {ci : Nat → Nat → Nat → Int32} {co : Nat → Option Nat} {xj : Nat → Nat → Nat → Int64} {xd : Nat → Nat → Nat → UInt64} {xf : Nat → Nat → Nat → UInt32} {xo : Nat → Nat → Nat → Option Nat} {xi : Nat → Nat → Nat → Int32} {xn : Nat → Nat → Nat → Nat} {cn : Nat → Nat → Nat → Nat} {t d a : Nat} {at1 a2 : Int32} (ht : t < 3) (hI : IC ci cn) (hd : cn 0 t 0 = d + 1) (hd7 : d + 1 < 8)  {Km : Nat → Nat} {Im : Nat → Nat → Int32} {Jm : Nat → Nat → Int64} {Fm : Nat → Nat → UInt32} {Dm : Nat → Nat → UInt64} {Rm : Nat → Nat → Option Nat} {nxm slm : Nat} (hM : RM ci cn co xj xd xf xo xi xn Im Jm Dm) (x2 : Im 6 40 = nI a) (x5 : Im 6 43 = nI 0) {μ0 : mm_M} {Post : Option mm_V → mm_M → Prop} (k : ∀ μ2 : mm_M, μ2.2.1 6 43 = nI 0 ∧ RM ci (u3 (u3 (u3 cn 1 t (d + 1) a) 2 t (d + 1) 0) 0 t 0 (d + 1 + 1)) co xj xd xf xo xi xn μ2.2.1 μ2.2.2.1 μ2.2.2.2.2.1 → Post (some (vi (nI 1))) μ2) : Ev Y_MM_does μ0 (mm_to (mm_co Y_MM_does) 95) [(0, vr 11 6), (1, vi (nI t)), (2, vi (nI (8 * t + d))), (3, vi at1), (4, vi (nI 62))] [vi (nI 62), vi (nI 62)] (Km, Im, Jm, Fm, Dm, Rm, nxm, slm) Post := by
  have i0 := hI.1 t ht
  have i1 := hI.2.1 t ht d (by omega)
  refine ev_gL8 [false, true] [] rfl ?_
  refine ev_retz rfl (by first | decide | exact zb_01 _) ?_
  refine k _ ⟨lf_L8, ?_⟩
  have h9 := MU_psh (p := a) hM ht hd (by omega) (by omega) hI.1
  show RM _ _ _ _ _ _ _ _ _ _ _ _
  simp (disch := first | assumption | omega | decide) only [i_add, n_cl, rm_dep hM, hd, x2, up_ne, Nat.add_assoc]
  simp only [Nat.add_assoc] at h9
  exact h9
set_option maxHeartbeats 4000000 in
theorem D62b {ci : Nat → Nat → Nat → Int32} {co : Nat → Option Nat} {xj : Nat → Nat → Nat → Int64} {xd : Nat → Nat → Nat → UInt64} {xf : Nat → Nat → Nat → UInt32} {xo : Nat → Nat → Nat → Option Nat} {xi : Nat → Nat → Nat → Int32} {xn : Nat → Nat → Nat → Nat} {cn : Nat → Nat → Nat → Nat} {t d a : Nat} {at1 a2 : Int32} (ht : t < 3) (hI : IC ci cn) (hd : cn 0 t 0 = 7 + 1)   {Km : Nat → Nat} {Im : Nat → Nat → Int32} {Jm : Nat → Nat → Int64} {Fm : Nat → Nat → UInt32} {Dm : Nat → Nat → UInt64} {Rm : Nat → Nat → Option Nat} {nxm slm : Nat} (hM : RM ci cn co xj xd xf xo xi xn Im Jm Dm) (x2 : Im 6 40 = nI a) (x5 : Im 6 43 = nI 0) {μ0 : mm_M} {Post : Option mm_V → mm_M → Prop} (k : ∀ μ2 : mm_M, μ2.2.1 6 43 = nI 9 ∧ RM ci cn co xj xd xf xo xi xn μ2.2.1 μ2.2.2.1 μ2.2.2.2.2.1 → Post (some (vi (nI 1))) μ2) : Ev Y_MM_does μ0 (mm_to (mm_co Y_MM_does) 95) [(0, vr 11 6), (1, vi (nI t)), (2, vi (nI (8 * t + 7))), (3, vi at1), (4, vi (nI 62))] [vi (nI 62), vi (nI 62)] (Km, Im, Jm, Fm, Dm, Rm, nxm, slm) Post := by
  have i0 := hI.1 t ht
  refine ev_gL8 [false, false] [] rfl ?_
  refine ev_inV 1 k_MM_301 h_MM_fails rfl rfl rfl rfl rfl ⟨by decide, by decide⟩ rfl ?_
  refine ev_g0 rfl ?_
  refine ev_ret rfl ?_
  refine ev_g0 rfl ?_
  refine ev_retz rfl (by first | decide | exact zb_01 _) ?_
  exact k _ ⟨lf_L8, MU_scr hM (by decide)⟩
set_option maxHeartbeats 4000000 in
theorem D63z {ci : Nat → Nat → Nat → Int32} {co : Nat → Option Nat} {xj : Nat → Nat → Nat → Int64} {xd : Nat → Nat → Nat → UInt64} {xf : Nat → Nat → Nat → UInt32} {xo : Nat → Nat → Nat → Option Nat} {xi : Nat → Nat → Nat → Int32} {xn : Nat → Nat → Nat → Nat} {cn : Nat → Nat → Nat → Nat} {t d a : Nat} {at1 a2 : Int32} (ht : t < 3) (hI : IC ci cn) (hd : cn 0 t 0 = 0 + 1)  (isr : ∀ i, i < xn 2 0 0 → xn 1 i 0 ≤ 12) (io : ∀ i, i < xn 2 0 0 → ∀ q, xo 4 i 0 = some q → q < 3) (yy : xn 2 0 0 ≤ 160) {Km : Nat → Nat} {Im : Nat → Nat → Int32} {Jm : Nat → Nat → Int64} {Fm : Nat → Nat → UInt32} {Dm : Nat → Nat → UInt64} {Rm : Nat → Nat → Option Nat} {nxm slm : Nat} (hM : RM ci cn co xj xd xf xo xi xn Im Jm Dm) (x2 : Im 6 40 = a2) (x5 : Im 6 43 = nI 0) {μ0 : mm_M} {Post : Option mm_V → mm_M → Prop} (k : ∀ μ2 : mm_M, μ2.2.1 6 43 = nI 0 ∧ RM ci (lv cn t 0) (u1 co t none) xj xd xf (rlo xo t (xn 2 0 0)) (rli xo xi t (xn 2 0 0)) xn μ2.2.1 μ2.2.2.1 μ2.2.2.2.2.1 → Post (some (vi (nI 1))) μ2) : Ev Y_MM_does μ0 (mm_to (mm_co Y_MM_does) 95) [(0, vr 11 6), (1, vi (nI t)), (2, vi (nI (8 * t + 0))), (3, vi at1), (4, vi (nI 63))] [vi (nI 62), vi (nI 63)] (Km, Im, Jm, Fm, Dm, Rm, nxm, slm) Post := by
  have i0 := hI.1 t ht
  refine ev_gL8 [true, false] [] rfl ?_
  refine ev_inV 1 k_MM_424 h_MM_pop rfl rfl rfl rfl rfl ⟨by decide, by decide⟩ rfl ?_
  refine ev_gL8 [true] [] rfl ?_
  refine ev_qV 1 k_MM_421 rfl (C_MM_ends2 ht isr io yy hM (fun a k g => up_ne (by rw [n_cl (by omega)]; exact g))) rfl ⟨by decide, by decide⟩ rfl ?_
  rintro _ ⟨Km2, Im2, Jm2, Fm2, Dm2, Rm2, nxm2, slm2⟩ ⟨rfl, hM2, hz2⟩
  refine ev_g0 rfl ?_
  refine ev_ret rfl ?_
  refine ev_g0 rfl ?_
  refine ev_retz rfl (by first | decide | exact zb_01 _) ?_
  exact k _ ⟨hz2.trans x5, hM2⟩
set_option maxHeartbeats 4000000 in
theorem D63s {ci : Nat → Nat → Nat → Int32} {co : Nat → Option Nat} {xj : Nat → Nat → Nat → Int64} {xd : Nat → Nat → Nat → UInt64} {xf : Nat → Nat → Nat → UInt32} {xo : Nat → Nat → Nat → Option Nat} {xi : Nat → Nat → Nat → Int32} {xn : Nat → Nat → Nat → Nat} {cn : Nat → Nat → Nat → Nat} {t d a : Nat} {at1 a2 : Int32} (ht : t < 3) (hI : IC ci cn) (hd : cn 0 t 0 = d + 1 + 1)   {Km : Nat → Nat} {Im : Nat → Nat → Int32} {Jm : Nat → Nat → Int64} {Fm : Nat → Nat → UInt32} {Dm : Nat → Nat → UInt64} {Rm : Nat → Nat → Option Nat} {nxm slm : Nat} (hM : RM ci cn co xj xd xf xo xi xn Im Jm Dm) (x2 : Im 6 40 = a2) (x5 : Im 6 43 = nI 0) {μ0 : mm_M} {Post : Option mm_V → mm_M → Prop} (k : ∀ μ2 : mm_M, μ2.2.1 6 43 = nI 0 ∧ RM ci (lv cn t (d + 1)) co xj xd xf xo xi xn μ2.2.1 μ2.2.2.1 μ2.2.2.2.2.1 → Post (some (vi (nI 1))) μ2) : Ev Y_MM_does μ0 (mm_to (mm_co Y_MM_does) 95) [(0, vr 11 6), (1, vi (nI t)), (2, vi (nI (8 * t + (d + 1)))), (3, vi at1), (4, vi (nI 63))] [vi (nI 62), vi (nI 63)] (Km, Im, Jm, Fm, Dm, Rm, nxm, slm) Post := by
  have i0 := hI.1 t ht
  have i1 := hI.2.1 t ht (d + 1) (by omega)
  have i3 := hI.2.1 t ht d (by omega)
  refine ev_gL8 [true, false] [] rfl ?_
  refine ev_inV 1 k_MM_424 h_MM_pop rfl rfl rfl rfl rfl ⟨by decide, by decide⟩ rfl ?_
  refine ev_gL8 [false] [] rfl ?_
  refine ev_ret rfl ?_
  refine ev_g0 rfl ?_
  refine ev_retz rfl (by first | decide | exact zb_01 _) ?_
  exact k _ ⟨lf_L8, MU_pla (MU_dep hM ht (by omega) (by omega) lf_L8 lf_L8) ht (by simp [u3]) (fun t1 h1 => (IC_dep ht hI (by omega)).1 t1 h1) lf_L8 lf_L8⟩
