theorem lz0 {r : Nat} : ((r : Nat) : Int) < ((0 : Nat) : Int) ↔ False := iff_false_intro (by omega)
theorem add_ll {a b : Nat} (ha : a < 10000) (hb : b < 10000) : ((nI a).toInt64 + lN b).toInt = (a : Int) + (b : Int) := by
  rw [FP.Core.int64_add (by rw [nI_tl ha, lN_t hb]; omega) (by rw [nI_tl ha, lN_t hb]; omega), nI_tl ha, lN_t hb]
theorem add_li {a b : Nat} (ha : a < 10000) (hb : b < 10000) : ((nI a).toInt64 + (nI b).toInt64).toInt = (a : Int) + (b : Int) := by
  rw [FP.Core.int64_add (by rw [nI_tl ha, nI_tl hb]; omega) (by rw [nI_tl ha, nI_tl hb]; omega), nI_tl ha, nI_tl hb]
theorem ev_gO2 {Y : mm_Y} {μ0 : mm_M} {rem : List mm_E} {L : mm_L} {st : List mm_V} {μ : mm_M} {Post : Option mm_V → mm_M → Prop} (bs : List Bool) (os : List (Option Nat)) {e2 : mm_E} {rem2 : List mm_E} {L2 : mm_L} {st2 : List mm_V} {μ2 : mm_M} {P2 : Prop} (h : mm_go 5000 (mm_co Y) rem L st μ bs os True = some (e2 :: rem2, L2, st2, μ2, P2)) (k : Ev Y μ0 (e2 :: rem2) L2 st2 μ2 Post) (hp : P2 := by (repeat' apply And.intro) <;> first | exact trivial | assumption | rfl | decide | omega | (simp (disch := first | assumption | omega | decide) only [i_add, i_mul, n_cl, nI_and7, nI_and3, v_in, i_eq, i_lt, i_le, i_eq0, i_lt0, i_ge0, i_gt0, i_le0, lg_cmp_eq, lg_cmp_ge, lg_cmp_gt, lg_cmp_le, lg_cmp_lt, zb_e0, zb_n0, Classical.not_not, up_ne, Nat.zero_add, Nat.add_zero, rc_num hC, rc_hol hC, rc_who hC, rc_rea hC, rc_par hC, rc_nn hC, rc_xx hC, rc_ff hC, rc_nxt hC, rc_lin hC, rc_sor hC, rc_len hC, rc_own hC, rc_tim hC, rc_tal hC, rc_dbl hC, rc_flt hC, rc_mad hC, rc_trc hC, rc_mk0 hC, rc_mk1 hC, rc_mk2 hC, rc_tix hC, rc_thg hC, rm_num hM, rm_hol hM, rm_who hM, rm_rea hM, rm_par hM, rm_nn hM, rm_xx hM, rm_ff hM, rm_nxt hM, rm_lin hM, rm_sor hM, rm_len hM, rm_own hM, rm_tim hM, rm_tal hM, rm_dbl hM, rm_flt hM, rm_mad hM, rm_trc hM, rm_mk hM, tR_s, tR_n, eI_s, eI_n, e_nm, e_mm, lN_i, l_lt, l_le, l_eq, l_z, lN_t, nI_tl, n_s1, i_sub, eLi, eL_s, eL_n, up_eq, mkz, i_l1, i_l2, i_l3, n_ti, i_tl2, e_mn, lN_i, if_true, if_false, Nat.add_sub_cancel, lz0, add_ll, add_li, *] <;> first | assumption | omega | decide)) : Ev Y μ0 rem L st μ Post := ev_go bs os h hp k
theorem ev_bO2 {Y : mm_Y} {μ0 : mm_M} {rem : List mm_E} {L : mm_L} {st : List mm_V} {μ : mm_M} {Post : Option mm_V → mm_M → Prop} {e2 e3 : mm_E} {rem2 rem3 : List mm_E} {L2 L3 : mm_L} {st2 st3 : List mm_V} {μ2 μ3 : mm_M} {c c2 d d2 : Prop} (hT : mm_go 1 (mm_co Y) rem L st μ [true] [] True = some (e2 :: rem2, L2, st2, μ2, True ∧ c)) (hF : mm_go 1 (mm_co Y) rem L st μ [false] [] True = some (e3 :: rem3, L3, st3, μ3, True ∧ c2)) (kt : d → Ev Y μ0 (e2 :: rem2) L2 st2 μ2 Post) (kf : d2 → Ev Y μ0 (e3 :: rem3) L3 st3 μ3 Post) (hc : ¬ c → c2 := by first | exact id | exact Classical.not_not.mp) (g1 : c → d := by intro hh; (try simp (disch := first | assumption | omega | decide) only [i_add, i_mul, n_cl, nI_and7, nI_and3, v_in, i_eq, i_lt, i_le, i_eq0, i_lt0, i_ge0, i_gt0, i_le0, lg_cmp_eq, lg_cmp_ge, lg_cmp_gt, lg_cmp_le, lg_cmp_lt, zb_e0, zb_n0, Classical.not_not, up_ne, Nat.zero_add, Nat.add_zero, rc_num hC, rc_hol hC, rc_who hC, rc_rea hC, rc_par hC, rc_nn hC, rc_xx hC, rc_ff hC, rc_nxt hC, rc_lin hC, rc_sor hC, rc_len hC, rc_own hC, rc_tim hC, rc_tal hC, rc_dbl hC, rc_flt hC, rc_mad hC, rc_trc hC, rc_mk0 hC, rc_mk1 hC, rc_mk2 hC, rc_tix hC, rc_thg hC, rm_num hM, rm_hol hM, rm_who hM, rm_rea hM, rm_par hM, rm_nn hM, rm_xx hM, rm_ff hM, rm_nxt hM, rm_lin hM, rm_sor hM, rm_len hM, rm_own hM, rm_tim hM, rm_tal hM, rm_dbl hM, rm_flt hM, rm_mad hM, rm_trc hM, rm_mk hM, tR_s, tR_n, eI_s, eI_n, e_nm, e_mm, lN_i, l_lt, l_le, l_eq, l_z, lN_t, nI_tl, n_s1, i_sub, eLi, eL_s, eL_n, up_eq, mkz, i_l1, i_l2, i_l3, n_ti, i_tl2, e_mn, lN_i, if_true, if_false, Nat.add_sub_cancel, lz0, add_ll, add_li, *] at hh); exact hh) (g2 : c2 → d2 := by intro hh; (try simp (disch := first | assumption | omega | decide) only [i_add, i_mul, n_cl, nI_and7, nI_and3, v_in, i_eq, i_lt, i_le, i_eq0, i_lt0, i_ge0, i_gt0, i_le0, lg_cmp_eq, lg_cmp_ge, lg_cmp_gt, lg_cmp_le, lg_cmp_lt, zb_e0, zb_n0, Classical.not_not, up_ne, Nat.zero_add, Nat.add_zero, rc_num hC, rc_hol hC, rc_who hC, rc_rea hC, rc_par hC, rc_nn hC, rc_xx hC, rc_ff hC, rc_nxt hC, rc_lin hC, rc_sor hC, rc_len hC, rc_own hC, rc_tim hC, rc_tal hC, rc_dbl hC, rc_flt hC, rc_mad hC, rc_trc hC, rc_mk0 hC, rc_mk1 hC, rc_mk2 hC, rc_tix hC, rc_thg hC, rm_num hM, rm_hol hM, rm_who hM, rm_rea hM, rm_par hM, rm_nn hM, rm_xx hM, rm_ff hM, rm_nxt hM, rm_lin hM, rm_sor hM, rm_len hM, rm_own hM, rm_tim hM, rm_tal hM, rm_dbl hM, rm_flt hM, rm_mad hM, rm_trc hM, rm_mk hM, tR_s, tR_n, eI_s, eI_n, e_nm, e_mm, lN_i, l_lt, l_le, l_eq, l_z, lN_t, nI_tl, n_s1, i_sub, eLi, eL_s, eL_n, up_eq, mkz, i_l1, i_l2, i_l3, n_ti, i_tl2, e_mn, lN_i, if_true, if_false, Nat.add_sub_cancel, lz0, add_ll, add_li, *] at hh); exact hh) : Ev Y μ0 rem L st μ Post := ev_br hT hF hc (fun h => kt (g1 h)) (fun h => kf (g2 h))
theorem lf_O2 {p : Prop} (h : p := by first | rfl | assumption | (simp (disch := first | assumption | omega | decide) only [i_add, i_mul, n_cl, nI_and7, nI_and3, v_in, i_eq, i_lt, i_le, i_eq0, i_lt0, i_ge0, i_gt0, i_le0, lg_cmp_eq, lg_cmp_ge, lg_cmp_gt, lg_cmp_le, lg_cmp_lt, zb_e0, zb_n0, Classical.not_not, up_ne, Nat.zero_add, Nat.add_zero, rc_num hC, rc_hol hC, rc_who hC, rc_rea hC, rc_par hC, rc_nn hC, rc_xx hC, rc_ff hC, rc_nxt hC, rc_lin hC, rc_sor hC, rc_len hC, rc_own hC, rc_tim hC, rc_tal hC, rc_dbl hC, rc_flt hC, rc_mad hC, rc_trc hC, rc_mk0 hC, rc_mk1 hC, rc_mk2 hC, rc_tix hC, rc_thg hC, rm_num hM, rm_hol hM, rm_who hM, rm_rea hM, rm_par hM, rm_nn hM, rm_xx hM, rm_ff hM, rm_nxt hM, rm_lin hM, rm_sor hM, rm_len hM, rm_own hM, rm_tim hM, rm_tal hM, rm_dbl hM, rm_flt hM, rm_mad hM, rm_trc hM, rm_mk hM, tR_s, tR_n, eI_s, eI_n, e_nm, e_mm, lN_i, l_lt, l_le, l_eq, l_z, lN_t, nI_tl, n_s1, i_sub, eLi, eL_s, eL_n, up_eq, mkz, i_l1, i_l2, i_l3, n_ti, i_tl2, e_mn, lN_i, if_true, if_false, Nat.add_sub_cancel, lz0, add_ll, add_li, *] <;> first | rfl | assumption | omega | decide)) : p := h
set_option maxHeartbeats 4000000 in
theorem MR_loop16 {ci : Nat → Nat → Nat → Int32} {cn : Nat → Nat → Nat → Nat} {co : Nat → Option Nat} {t a rows j o : Nat} {go : Int32} {more : Int64} (ht : t < 3) (ha : a < 8) (hj : j < 13) (hr : rows < 7) (hroom0 : o + 1 + rows ≤ 160) {μ0 μm0 : mm_M} {PostC : Option mm_V → mm_M → Prop} {PostM : mm_M → Option mm_V → mm_M → Prop} (hE : ∀ μ1 μ2, QA ci cn co go (some (vi (nI 0))) μ1 μ2 → PostM μ1 none μ2) : ∀ (n i : Nat) (xj : Nat → Nat → Nat → Int64) (xd : Nat → Nat → Nat → UInt64) (xf : Nat → Nat → Nat → UInt32) (xo : Nat → Nat → Nat → Option Nat) (xi : Nat → Nat → Nat → Int32) (xn : Nat → Nat → Nat → Nat) (K : Nat → Nat) (I : Nat → Nat → Int32) (J : Nat → Nat → Int64) (F : Nat → Nat → UInt32) (D : Nat → Nat → UInt64) (R : Nat → Nat → Option Nat) (nx sl : Nat) (Km : Nat → Nat) (Im : Nat → Nat → Int32) (Jm : Nat → Nat → Int64) (Fm : Nat → Nat → UInt32) (Dm : Nat → Nat → UInt64) (Rm : Nat → Nat → Option Nat) (nxm slm : Nat), i + n = rows → RC ci cn co xj xd xf xo xi xn I J F D R nx sl → RM ci cn co xj xd xf xo xi xn Im Jm Dm → xn 2 0 0 = o + 1 + i → xn 0 o 0 = 13 → xn 1 o 0 = rows → Im 6 39 = nI t → Im 6 40 = nI a → Im 6 43 = nI 0 → Im 6 44 = go → (∀ μ1, Ev Y_MM_makesRows μm0 (mm_to (mm_co Y_MM_makesRows) 113) [(0, vr 11 6), (1, vi (nI 13)), (2, vi (nI 4)), (3, vl (lN rows)), (5, vl (lN j)), (7, vl more), (9, vi (nI o)), (10, vi (nI (i)))] [vi (lg_cmp (nI (i)).toInt64 (lN rows))] (Km, Im, Jm, Fm, Dm, Rm, nxm, slm) (PostM μ1) → PostC (some (vi (nI 0))) μ1) → Ev Y_HA_makeRows μ0 (mm_to (mm_co Y_HA_makeRows) 86) [(0, vr 1 55), (1, vr 8 (32 + 7 * t)), (2, vi (nI a)), (3, vi (nI 13)), (4, vl (lN rows)), (6, vl (lN j)), (8, vr 9 (94 + 4 * o)), (9, vi (nI (i)))] [vi (lg_cmp (nI (i)).toInt64 (lN rows))] (K, I, J, F, D, R, nx, sl) PostC := by
  intro n
  induction n with
  | zero =>
    intro i xj xd xf xo xi xn K I J F D R nx sl Km Im Jm Fm Dm Rm nxm slm hi hC hM h2 h0 h1 x1 x2 x5 x6 hP
    have hie : i = rows := by omega
    have yy := rc_imad hC
    refine ev_gO2 [true] [] rfl ?_
    refine ev_inV 2 k_HA_21 h_SD_setT rfl rfl rfl rfl rfl ⟨by decide, by decide⟩ rfl ?_
    refine ev_gO2 [] [] rfl ?_
    refine ev_ret rfl ?_
    refine ev_g0 rfl ?_
    refine ev_reti rfl ?_
    refine hP _ ?_
    refine ev_gO2 [true] [] rfl ?_
    refine ev_inV 2 k_MM_336 h_MM_keep rfl rfl rfl rfl rfl ⟨by decide, by decide⟩ rfl ?_
    refine ev_gO2 [] [] rfl ?_
    refine ev_ret rfl ?_
    refine ev_g0 rfl ?_
    refine ev_ret rfl ?_
    exact hE _ _ ⟨_, _, _, _, _, _, nI 0, rfl, bdd, lf_O2, lf_O2, CU_hol (v := some o) hC ht ha (fun q h => by cases h; omega) lf_O2 lf_O2, MU_hol hM ht ha lf_O2 lf_O2 (fun i hi => (rc_isor hC hi).2.2.1)⟩
  | succ n ih =>
    intro i xj xd xf xo xi xn K I J F D R nx sl Km Im Jm Fm Dm Rm nxm slm hi hC hM h2 h0 h1 x1 x2 x5 x6 hP
    have hil : i < rows := by omega
    have hroom : xn 2 0 0 < 160 := by omega
    obtain ⟨xa, K1, I1, J1, F1, D1, R1, n1, s1, K2, I2, J2, F2, D2, R2, n2, s2, d1, d2, hC1, hM1, ⟨y1, y2, y3, y4, y5, y6⟩, hxa⟩ := MK (K := K) (Km := Km) (Fm := Fm) (Rm := Rm) (nxm := nxm) (slm := slm) (s := 4) (l := j) hC hM hroom (by omega)
    rw [x1] at y1
    rw [x2] at y2
    rw [x5] at y5
    rw [x6] at y6
    have hom : ¬ o = xn 2 0 0 := by omega
    have e0 : mkn xa (xn 2 0 0) 4 j 0 o 0 = 13 := by rw [mkn_0 hom, hxa 0 o 0 (by decide)]; exact h0
    have e1 : mkn xa (xn 2 0 0) 4 j 1 o 0 = rows := by rw [mkn_1 hom, hxa 1 o 0 (by decide)]; exact h1
    have e2 : mkn xa (xn 2 0 0) 4 j 2 0 0 = o + 1 + (i + 1) := by rw [mkn_2]; omega
    refine ev_gO2 [false, false] [] rfl ?_
    refine ev_top2 (a2 := vi (nI j)) (b2 := vi (nI 4)) lf_O2 lf_O2 ?_
    refine ev_kV 2 k_HA_73 rfl d1 rfl ⟨by decide, by decide⟩ rfl ?_
    refine ev_gO2 [] [] rfl ?_
    refine ev_cg2 (L2 := [(0, vr 1 55), (1, vr 8 (32 + 7 * t)), (2, vi (nI a)), (3, vi (nI 13)), (4, vl (lN rows)), (6, vl (lN j)), (8, vr 9 (94 + 4 * o)), (9, vi (nI (i + 1)))]) (st2 := [vi (lg_cmp (nI (i + 1)).toInt64 (lN rows))]) lf_O2 lf_O2 rfl ?_
    refine ih (i + 1) _ _ _ _ _ _ _ _ _ _ _ _ _ _ K2 I2 _ F2 D2 R2 n2 s2 (by omega) (CU_par (v := some (xn 2 0 0)) hC1 (by rw [e2]; omega) (by rw [e1]; exact hil) (by rw [e0]; decide) (fun q h => by cases h; rw [mkn_2]; omega) lf_O2 lf_O2) (MU_par (v := some (xn 2 0 0)) (j := 12 * o + i) (z := (nI (xn 2 0 0)).toInt64) hM1 (by rw [e2]; omega) (by rw [e1]; exact hil) (by rw [e0]; decide) rfl rfl (fun i hi => (rc_isor hC1 hi).2.2.1)) e2 e0 e1 y1 y2 y5 y6 (fun μ1 hmod => hP μ1 ?_)
    refine ev_gO2 [false] [] rfl ?_
    refine ev_top2 (a2 := vi (nI j)) (b2 := vi (nI 4)) lf_O2 lf_O2 ?_
    refine ev_kV 2 k_MM_332 rfl d2 rfl ⟨by decide, by decide⟩ rfl ?_
    refine ev_gO2 [] [] rfl ?_
    exact ev_cg2 lf_O2 lf_O2 lf_O2 hmod
set_option maxRecDepth 20000 in
set_option maxHeartbeats 4000000 in
theorem A16 {ci : Nat → Nat → Nat → Int32} {cn : Nat → Nat → Nat → Nat} {co : Nat → Option Nat} {xj : Nat → Nat → Nat → Int64} {xd : Nat → Nat → Nat → UInt64} {xf : Nat → Nat → Nat → UInt32} {xo : Nat → Nat → Nat → Option Nat} {xi : Nat → Nat → Nat → Int32} {xn : Nat → Nat → Nat → Nat} {K : Nat → Nat} {I : Nat → Nat → Int32} {J : Nat → Nat → Int64} {F : Nat → Nat → UInt32} {D : Nat → Nat → UInt64} {R : Nat → Nat → Option Nat} {nx sl : Nat} {Km : Nat → Nat} {Im : Nat → Nat → Int32} {Jm : Nat → Nat → Int64} {Fm : Nat → Nat → UInt32} {Dm : Nat → Nat → UInt64} {Rm : Nat → Nat → Option Nat} {nxm slm : Nat} (hC : RC ci cn co xj xd xf xo xi xn I J F D R nx sl) (hM : RM ci cn co xj xd xf xo xi xn Im Jm Dm) {t a b c : Nat} {go : Int32} (ht : t < 3) (ha : a < 8) (hb : b < 8) (hc : c < 8) (x1 : Im 6 39 = nI t) (x2 : Im 6 40 = nI a) (x3 : Im 6 41 = nI b) (x4 : Im 6 42 = nI c) (x5 : Im 6 43 = nI 0) (x6 : Im 6 44 = go) : Ct Y_HA_perform [vr 1 55, vr 8 (32 + 7 * t), vi (nI 16), vi (nI a), vi (nI b), vi (nI c)] (K, I, J, F, D, R, nx, sl) (fun r μ1 => Ct Y_MM_makes [vr 11 6, vi (nI 16)] (Km, Im, Jm, Fm, Dm, Rm, nxm, slm) (fun r2 μ2 => r2 = none ∧ QA ci cn co go r μ1 μ2)) := by
  have ym := rc_imad hC
  rcases ixc (xj 0 t b) 7 with ⟨rows, hr, hir⟩ | hir
  · rcases ixc (xj 0 t c) 13 with ⟨j, hj, hij⟩ | hij
    · by_cases hrm : xn 2 0 0 + 1 + rows ≤ 160
      · have hroom : xn 2 0 0 < 160 := by omega
        obtain ⟨xa, K1, I1, J1, F1, D1, R1, n1, s1, K2, I2, J2, F2, D2, R2, n2, s2, d1, d2, hC1, hM1, ⟨y1, y2, y3, y4, y5, y6⟩, hxa⟩ := MK (K := K) (Km := Km) (Fm := Fm) (Rm := Rm) (nxm := nxm) (slm := slm) (s := 13) (l := rows) hC hM hroom (by omega)
        rw [x1] at y1
        rw [x2] at y2
        rw [x3] at y3
        rw [x4] at y4
        rw [x5] at y5
        rw [x6] at y6
        refine ct_of h_HA_perform rfl rfl rfl ?_
        refine ev_gO2 [] [some 4] rfl ?_
        refine ev_inV 1 k_HA_25 h_SD_n rfl rfl rfl rfl rfl ⟨by decide, by decide⟩ rfl ?_
        refine ev_gO2 [] [] rfl ?_
        refine ev_retl rfl ?_
        refine ev_g0 rfl ?_
        refine ev_inV 1 k_HA_25 h_SD_n rfl rfl rfl rfl rfl ⟨by decide, by decide⟩ rfl ?_
        refine ev_gO2 [] [] rfl ?_
        refine ev_retl rfl ?_
        refine ev_g0 rfl ?_
        refine ev_inV 5 k_HA_33 h_HA_makeRows rfl rfl rfl rfl rfl ⟨by decide, by decide⟩ rfl ?_
        refine ev_gO2 [false, false] [] rfl ?_
        refine ev_inV 1 k_HA_68 h_SO_hasRoomFor rfl rfl rfl rfl rfl ⟨by decide, by decide⟩ rfl ?_
        refine ev_gO2 [false] [] rfl ?_
        refine ev_retz rfl (by first | decide | exact zb_01 _) ?_
        refine ev_gO2 [true, false, true] [] rfl ?_
        refine ev_top2 (a2 := vi (nI rows)) (b2 := vi (nI 13)) lf_O2 lf_O2 ?_
        refine ev_kV 2 k_HA_73 rfl d1 rfl ⟨by decide, by decide⟩ rfl ?_
        refine ev_g0 rfl ?_
        refine ev_cg2 (L2 := [(0, vr 1 55), (1, vr 8 (32 + 7 * t)), (2, vi (nI a)), (3, vi (nI 13)), (4, vl (lN rows)), (6, vl (lN j)), (8, vr 9 (94 + 4 * xn 2 0 0)), (9, vi (nI (0)))]) (st2 := [vi (lg_cmp (nI (0)).toInt64 (lN rows))]) lf_O2 lf_O2 rfl ?_
        refine MR_loop16 (t := t) (a := a) (rows := rows) (j := j) (o := xn 2 0 0) (more := lN rows) (go := go) (μm0 := (Km, Im, Jm, Fm, Dm, Rm, nxm, slm)) (PostM := fun μ1 r2 μ2 => r2 = none ∧ QA ci cn co go (some (vi (nI 0))) μ1 μ2) ht ha hj hr hrm (fun μ1 μ2 hq => ⟨rfl, hq⟩) rows 0 _ _ _ _ _ _ _ _ _ _ _ _ _ _ K2 I2 J2 F2 D2 R2 n2 s2 (by omega) hC1 hM1 (by rw [mkn_2]) mkn_0n mkn_1n y1 y2 y5 y6 ?_
        intro μ1 hmod
        refine ev_g0 rfl ?_
        refine ev_reti rfl ?_
        refine ct_of h_MM_makes rfl rfl rfl ?_
        refine ev_gO2 [] [some 4] rfl ?_
        refine ev_inV 2 k_MM_351 h_MM_makesRows rfl rfl rfl rfl rfl ⟨by decide, by decide⟩ rfl ?_
        refine ev_g0 rfl ?_
        refine ev_inV 1 k_MM_277 h_MM_number rfl rfl rfl rfl rfl ⟨by decide, by decide⟩ rfl ?_
        refine ev_gO2 [] [] rfl ?_
        refine ev_retl rfl ?_
        refine ev_g0 rfl ?_
        refine ev_inV 1 k_MM_277 h_MM_number rfl rfl rfl rfl rfl ⟨by decide, by decide⟩ rfl ?_
        refine ev_gO2 [] [] rfl ?_
        refine ev_retl rfl ?_
        refine ev_gO2 [true, false, false, true, false, true] [] rfl ?_
        refine ev_top2 (a2 := vi (nI rows)) (b2 := vi (nI 13)) lf_O2 lf_O2 ?_
        refine ev_kV 2 k_MM_332 rfl d2 rfl ⟨by decide, by decide⟩ rfl ?_
        refine ev_g0 rfl ?_
        refine ev_cg2 lf_O2 lf_O2 rfl (Ev.mono hmod ?_)
        rintro _ μ3 ⟨rfl, hq⟩
        refine ev_g0 rfl ?_
        refine ev_ret rfl ?_
        exact ⟨rfl, hq⟩
      · skip
        refine ct_of h_HA_perform rfl rfl rfl ?_
        refine ev_gO2 [] [some 4] rfl ?_
        refine ev_inV 1 k_HA_25 h_SD_n rfl rfl rfl rfl rfl ⟨by decide, by decide⟩ rfl ?_
        refine ev_gO2 [] [] rfl ?_
        refine ev_retl rfl ?_
        refine ev_g0 rfl ?_
        refine ev_inV 1 k_HA_25 h_SD_n rfl rfl rfl rfl rfl ⟨by decide, by decide⟩ rfl ?_
        refine ev_gO2 [] [] rfl ?_
        refine ev_retl rfl ?_
        refine ev_g0 rfl ?_
        refine ev_inV 5 k_HA_33 h_HA_makeRows rfl rfl rfl rfl rfl ⟨by decide, by decide⟩ rfl ?_
        refine ev_gO2 [false, false] [] rfl ?_
        refine ev_inV 1 k_HA_68 h_SO_hasRoomFor rfl rfl rfl rfl rfl ⟨by decide, by decide⟩ rfl ?_
        refine ev_gO2 [true] [] rfl ?_
        refine ev_retz rfl (by first | decide | exact zb_01 _) ?_
        refine ev_gO2 [false] [] rfl ?_
        refine ev_reti rfl ?_
        refine ev_g0 rfl ?_
        refine ev_reti rfl ?_
        refine ct_of h_MM_makes rfl rfl rfl ?_
        refine ev_gO2 [] [some 4] rfl ?_
        refine ev_inV 2 k_MM_351 h_MM_makesRows rfl rfl rfl rfl rfl ⟨by decide, by decide⟩ rfl ?_
        refine ev_g0 rfl ?_
        refine ev_inV 1 k_MM_277 h_MM_number rfl rfl rfl rfl rfl ⟨by decide, by decide⟩ rfl ?_
        refine ev_gO2 [] [] rfl ?_
        refine ev_retl rfl ?_
        refine ev_g0 rfl ?_
        refine ev_inV 1 k_MM_277 h_MM_number rfl rfl rfl rfl rfl ⟨by decide, by decide⟩ rfl ?_
        refine ev_gO2 [] [] rfl ?_
        refine ev_retl rfl ?_
        refine ev_gO2 [true, false, false, false] [] rfl ?_
        refine ev_inV 1 k_MM_301 h_MM_fails rfl rfl rfl rfl rfl ⟨by decide, by decide⟩ rfl ?_
        refine ev_g0 rfl ?_
        refine ev_ret rfl ?_
        refine ev_g0 rfl ?_
        refine ev_ret rfl ?_
        refine ev_g0 rfl ?_
        refine ev_ret rfl ?_
        exact ⟨rfl, xj, xd, xf, xo, xi, xn, nI 9, rfl, bdd, lf_O2, lf_O2, hC, hM⟩
    · skip
      refine ct_of h_HA_perform rfl rfl rfl ?_
      refine ev_gO2 [] [some 4] rfl ?_
      refine ev_inV 1 k_HA_25 h_SD_n rfl rfl rfl rfl rfl ⟨by decide, by decide⟩ rfl ?_
      refine ev_gO2 [] [] rfl ?_
      refine ev_retl rfl ?_
      refine ev_g0 rfl ?_
      refine ev_inV 1 k_HA_25 h_SD_n rfl rfl rfl rfl rfl ⟨by decide, by decide⟩ rfl ?_
      refine ev_gO2 [] [] rfl ?_
      refine ev_retl rfl ?_
      refine ev_g0 rfl ?_
      refine ev_inV 5 k_HA_33 h_HA_makeRows rfl rfl rfl rfl rfl ⟨by decide, by decide⟩ rfl ?_
      refine ev_g0 rfl ?_
      refine ev_bO2 rfl rfl (fun h_1 => ?_) (fun h_1 => ?_)
      · skip
        refine ev_g0 rfl ?_
        refine ev_reti rfl ?_
        refine ev_g0 rfl ?_
        refine ev_reti rfl ?_
        refine ct_of h_MM_makes rfl rfl rfl ?_
        refine ev_gO2 [] [some 4] rfl ?_
        refine ev_inV 2 k_MM_351 h_MM_makesRows rfl rfl rfl rfl rfl ⟨by decide, by decide⟩ rfl ?_
        refine ev_g0 rfl ?_
        refine ev_inV 1 k_MM_277 h_MM_number rfl rfl rfl rfl rfl ⟨by decide, by decide⟩ rfl ?_
        refine ev_gO2 [] [] rfl ?_
        refine ev_retl rfl ?_
        refine ev_g0 rfl ?_
        refine ev_inV 1 k_MM_277 h_MM_number rfl rfl rfl rfl rfl ⟨by decide, by decide⟩ rfl ?_
        refine ev_gO2 [] [] rfl ?_
        refine ev_retl rfl ?_
        refine ev_gO2 [true, false, true] [] rfl ?_
        refine ev_inV 1 k_MM_301 h_MM_fails rfl rfl rfl rfl rfl ⟨by decide, by decide⟩ rfl ?_
        refine ev_g0 rfl ?_
        refine ev_ret rfl ?_
        refine ev_g0 rfl ?_
        refine ev_ret rfl ?_
        refine ev_g0 rfl ?_
        refine ev_ret rfl ?_
        exact ⟨rfl, xj, xd, xf, xo, xi, xn, nI 9, rfl, bdd, lf_O2, lf_O2, hC, hM⟩
      · skip
        refine ev_gO2 [false] [] rfl ?_
        refine ev_inV 1 k_HA_68 h_SO_hasRoomFor rfl rfl rfl rfl rfl ⟨by decide, by decide⟩ rfl ?_
        refine ev_g0 rfl ?_
        refine ev_bO2 rfl rfl (fun h_2 => ?_) (fun h_2 => ?_)
        · skip
          refine ev_g0 rfl ?_
          refine ev_retz rfl (by first | decide | exact zb_01 _) ?_
          refine ev_gO2 [false] [] rfl ?_
          refine ev_reti rfl ?_
          refine ev_g0 rfl ?_
          refine ev_reti rfl ?_
          refine ct_of h_MM_makes rfl rfl rfl ?_
          refine ev_gO2 [] [some 4] rfl ?_
          refine ev_inV 2 k_MM_351 h_MM_makesRows rfl rfl rfl rfl rfl ⟨by decide, by decide⟩ rfl ?_
          refine ev_g0 rfl ?_
          refine ev_inV 1 k_MM_277 h_MM_number rfl rfl rfl rfl rfl ⟨by decide, by decide⟩ rfl ?_
          refine ev_gO2 [] [] rfl ?_
          refine ev_retl rfl ?_
          refine ev_g0 rfl ?_
          refine ev_inV 1 k_MM_277 h_MM_number rfl rfl rfl rfl rfl ⟨by decide, by decide⟩ rfl ?_
          refine ev_gO2 [] [] rfl ?_
          refine ev_retl rfl ?_
          refine ev_gO2 [true, false, false, false] [] rfl ?_
          refine ev_inV 1 k_MM_301 h_MM_fails rfl rfl rfl rfl rfl ⟨by decide, by decide⟩ rfl ?_
          refine ev_g0 rfl ?_
          refine ev_ret rfl ?_
          refine ev_g0 rfl ?_
          refine ev_ret rfl ?_
          refine ev_g0 rfl ?_
          refine ev_ret rfl ?_
          exact ⟨rfl, xj, xd, xf, xo, xi, xn, nI 9, rfl, bdd, lf_O2, lf_O2, hC, hM⟩
        · skip
          refine ev_g0 rfl ?_
          refine ev_retz rfl (by first | decide | exact zb_01 _) ?_
          refine ev_gO2 [true, false, false] [] rfl ?_
          refine ev_reti rfl ?_
          refine ev_g0 rfl ?_
          refine ev_reti rfl ?_
          refine ct_of h_MM_makes rfl rfl rfl ?_
          refine ev_gO2 [] [some 4] rfl ?_
          refine ev_inV 2 k_MM_351 h_MM_makesRows rfl rfl rfl rfl rfl ⟨by decide, by decide⟩ rfl ?_
          refine ev_g0 rfl ?_
          refine ev_inV 1 k_MM_277 h_MM_number rfl rfl rfl rfl rfl ⟨by decide, by decide⟩ rfl ?_
          refine ev_gO2 [] [] rfl ?_
          refine ev_retl rfl ?_
          refine ev_g0 rfl ?_
          refine ev_inV 1 k_MM_277 h_MM_number rfl rfl rfl rfl rfl ⟨by decide, by decide⟩ rfl ?_
          refine ev_gO2 [] [] rfl ?_
          refine ev_retl rfl ?_
          refine ev_gO2 [true, false, false, true, false, false] [] rfl ?_
          refine ev_inV 1 k_MM_301 h_MM_fails rfl rfl rfl rfl rfl ⟨by decide, by decide⟩ rfl ?_
          refine ev_g0 rfl ?_
          refine ev_ret rfl ?_
          refine ev_g0 rfl ?_
          refine ev_ret rfl ?_
          refine ev_g0 rfl ?_
          refine ev_ret rfl ?_
          exact ⟨rfl, xj, xd, xf, xo, xi, xn, nI 5, rfl, bdd, lf_O2, lf_O2, hC, hM⟩
  · by_cases hneg : (xj 0 t b).toInt < ((0 : Nat) : Int)
    · skip
      refine ct_of h_HA_perform rfl rfl rfl ?_
      refine ev_gO2 [] [some 4] rfl ?_
      refine ev_inV 1 k_HA_25 h_SD_n rfl rfl rfl rfl rfl ⟨by decide, by decide⟩ rfl ?_
      refine ev_gO2 [] [] rfl ?_
      refine ev_retl rfl ?_
      refine ev_g0 rfl ?_
      refine ev_inV 1 k_HA_25 h_SD_n rfl rfl rfl rfl rfl ⟨by decide, by decide⟩ rfl ?_
      refine ev_gO2 [] [] rfl ?_
      refine ev_retl rfl ?_
      refine ev_g0 rfl ?_
      refine ev_inV 5 k_HA_33 h_HA_makeRows rfl rfl rfl rfl rfl ⟨by decide, by decide⟩ rfl ?_
      refine ev_g0 rfl ?_
      refine ev_bO2 rfl rfl (fun h_3 => ?_) (fun h_3 => ?_)
      · skip
        refine ev_g0 rfl ?_
        refine ev_reti rfl ?_
        refine ev_g0 rfl ?_
        refine ev_reti rfl ?_
        refine ct_of h_MM_makes rfl rfl rfl ?_
        refine ev_gO2 [] [some 4] rfl ?_
        refine ev_inV 2 k_MM_351 h_MM_makesRows rfl rfl rfl rfl rfl ⟨by decide, by decide⟩ rfl ?_
        refine ev_g0 rfl ?_
        refine ev_inV 1 k_MM_277 h_MM_number rfl rfl rfl rfl rfl ⟨by decide, by decide⟩ rfl ?_
        refine ev_gO2 [] [] rfl ?_
        refine ev_retl rfl ?_
        refine ev_g0 rfl ?_
        refine ev_inV 1 k_MM_277 h_MM_number rfl rfl rfl rfl rfl ⟨by decide, by decide⟩ rfl ?_
        refine ev_gO2 [] [] rfl ?_
        refine ev_retl rfl ?_
        refine ev_gO2 [false, false, true] [] rfl ?_
        refine ev_inV 1 k_MM_301 h_MM_fails rfl rfl rfl rfl rfl ⟨by decide, by decide⟩ rfl ?_
        refine ev_g0 rfl ?_
        refine ev_ret rfl ?_
        refine ev_g0 rfl ?_
        refine ev_ret rfl ?_
        refine ev_g0 rfl ?_
        refine ev_ret rfl ?_
        exact ⟨rfl, xj, xd, xf, xo, xi, xn, nI 9, rfl, bdd, lf_O2, lf_O2, hC, hM⟩
      · skip
        refine ev_gO2 [false] [] rfl ?_
        refine ev_inV 1 k_HA_68 h_SO_hasRoomFor rfl rfl rfl rfl rfl ⟨by decide, by decide⟩ rfl ?_
        refine ev_g0 rfl ?_
        refine ev_bO2 rfl rfl (fun h_4 => ?_) (fun h_4 => ?_)
        · skip
          refine ev_g0 rfl ?_
          refine ev_retz rfl (by first | decide | exact zb_01 _) ?_
          refine ev_gO2 [false] [] rfl ?_
          refine ev_reti rfl ?_
          refine ev_g0 rfl ?_
          refine ev_reti rfl ?_
          refine ct_of h_MM_makes rfl rfl rfl ?_
          refine ev_gO2 [] [some 4] rfl ?_
          refine ev_inV 2 k_MM_351 h_MM_makesRows rfl rfl rfl rfl rfl ⟨by decide, by decide⟩ rfl ?_
          refine ev_g0 rfl ?_
          refine ev_inV 1 k_MM_277 h_MM_number rfl rfl rfl rfl rfl ⟨by decide, by decide⟩ rfl ?_
          refine ev_gO2 [] [] rfl ?_
          refine ev_retl rfl ?_
          refine ev_g0 rfl ?_
          refine ev_inV 1 k_MM_277 h_MM_number rfl rfl rfl rfl rfl ⟨by decide, by decide⟩ rfl ?_
          refine ev_gO2 [] [] rfl ?_
          refine ev_retl rfl ?_
          refine ev_gO2 [false, false, false, false] [] rfl ?_
          refine ev_inV 1 k_MM_301 h_MM_fails rfl rfl rfl rfl rfl ⟨by decide, by decide⟩ rfl ?_
          refine ev_g0 rfl ?_
          refine ev_ret rfl ?_
          refine ev_g0 rfl ?_
          refine ev_ret rfl ?_
          refine ev_g0 rfl ?_
          refine ev_ret rfl ?_
          exact ⟨rfl, xj, xd, xf, xo, xi, xn, nI 9, rfl, bdd, lf_O2, lf_O2, hC, hM⟩
        · skip
          refine ev_g0 rfl ?_
          refine ev_retz rfl (by first | decide | exact zb_01 _) ?_
          refine ev_gO2 [true, true] [] rfl ?_
          refine ev_reti rfl ?_
          refine ev_g0 rfl ?_
          refine ev_reti rfl ?_
          refine ct_of h_MM_makes rfl rfl rfl ?_
          refine ev_gO2 [] [some 4] rfl ?_
          refine ev_inV 2 k_MM_351 h_MM_makesRows rfl rfl rfl rfl rfl ⟨by decide, by decide⟩ rfl ?_
          refine ev_g0 rfl ?_
          refine ev_inV 1 k_MM_277 h_MM_number rfl rfl rfl rfl rfl ⟨by decide, by decide⟩ rfl ?_
          refine ev_gO2 [] [] rfl ?_
          refine ev_retl rfl ?_
          refine ev_g0 rfl ?_
          refine ev_inV 1 k_MM_277 h_MM_number rfl rfl rfl rfl rfl ⟨by decide, by decide⟩ rfl ?_
          refine ev_gO2 [] [] rfl ?_
          refine ev_retl rfl ?_
          refine ev_gO2 [false, false, false, true, true] [] rfl ?_
          refine ev_inV 1 k_MM_301 h_MM_fails rfl rfl rfl rfl rfl ⟨by decide, by decide⟩ rfl ?_
          refine ev_g0 rfl ?_
          refine ev_ret rfl ?_
          refine ev_g0 rfl ?_
          refine ev_ret rfl ?_
          refine ev_g0 rfl ?_
          refine ev_ret rfl ?_
          exact ⟨rfl, xj, xd, xf, xo, xi, xn, nI 5, rfl, bdd, lf_O2, lf_O2, hC, hM⟩
    · skip
      refine ct_of h_HA_perform rfl rfl rfl ?_
      refine ev_gO2 [] [some 4] rfl ?_
      refine ev_inV 1 k_HA_25 h_SD_n rfl rfl rfl rfl rfl ⟨by decide, by decide⟩ rfl ?_
      refine ev_gO2 [] [] rfl ?_
      refine ev_retl rfl ?_
      refine ev_g0 rfl ?_
      refine ev_inV 1 k_HA_25 h_SD_n rfl rfl rfl rfl rfl ⟨by decide, by decide⟩ rfl ?_
      refine ev_gO2 [] [] rfl ?_
      refine ev_retl rfl ?_
      refine ev_g0 rfl ?_
      refine ev_inV 5 k_HA_33 h_HA_makeRows rfl rfl rfl rfl rfl ⟨by decide, by decide⟩ rfl ?_
      refine ev_g0 rfl ?_
      refine ev_bO2 rfl rfl (fun h_5 => ?_) (fun h_5 => ?_)
      · skip
        refine ev_g0 rfl ?_
        refine ev_reti rfl ?_
        refine ev_g0 rfl ?_
        refine ev_reti rfl ?_
        refine ct_of h_MM_makes rfl rfl rfl ?_
        refine ev_gO2 [] [some 4] rfl ?_
        refine ev_inV 2 k_MM_351 h_MM_makesRows rfl rfl rfl rfl rfl ⟨by decide, by decide⟩ rfl ?_
        refine ev_g0 rfl ?_
        refine ev_inV 1 k_MM_277 h_MM_number rfl rfl rfl rfl rfl ⟨by decide, by decide⟩ rfl ?_
        refine ev_gO2 [] [] rfl ?_
        refine ev_retl rfl ?_
        refine ev_g0 rfl ?_
        refine ev_inV 1 k_MM_277 h_MM_number rfl rfl rfl rfl rfl ⟨by decide, by decide⟩ rfl ?_
        refine ev_gO2 [] [] rfl ?_
        refine ev_retl rfl ?_
        refine ev_gO2 [true, true] [] rfl ?_
        refine ev_inV 1 k_MM_301 h_MM_fails rfl rfl rfl rfl rfl ⟨by decide, by decide⟩ rfl ?_
        refine ev_g0 rfl ?_
        refine ev_ret rfl ?_
        refine ev_g0 rfl ?_
        refine ev_ret rfl ?_
        refine ev_g0 rfl ?_
        refine ev_ret rfl ?_
        exact ⟨rfl, xj, xd, xf, xo, xi, xn, nI 9, rfl, bdd, lf_O2, lf_O2, hC, hM⟩
      · skip
        refine ev_gO2 [true] [] rfl ?_
        refine ev_reti rfl ?_
        refine ev_g0 rfl ?_
        refine ev_reti rfl ?_
        refine ct_of h_MM_makes rfl rfl rfl ?_
        refine ev_gO2 [] [some 4] rfl ?_
        refine ev_inV 2 k_MM_351 h_MM_makesRows rfl rfl rfl rfl rfl ⟨by decide, by decide⟩ rfl ?_
        refine ev_g0 rfl ?_
        refine ev_inV 1 k_MM_277 h_MM_number rfl rfl rfl rfl rfl ⟨by decide, by decide⟩ rfl ?_
        refine ev_gO2 [] [] rfl ?_
        refine ev_retl rfl ?_
        refine ev_g0 rfl ?_
        refine ev_inV 1 k_MM_277 h_MM_number rfl rfl rfl rfl rfl ⟨by decide, by decide⟩ rfl ?_
        refine ev_gO2 [] [] rfl ?_
        refine ev_retl rfl ?_
        refine ev_gO2 [true, true] [] rfl ?_
        refine ev_inV 1 k_MM_301 h_MM_fails rfl rfl rfl rfl rfl ⟨by decide, by decide⟩ rfl ?_
        refine ev_g0 rfl ?_
        refine ev_ret rfl ?_
        refine ev_g0 rfl ?_
        refine ev_ret rfl ?_
        refine ev_g0 rfl ?_
        refine ev_ret rfl ?_
        exact ⟨rfl, xj, xd, xf, xo, xi, xn, nI 9, rfl, bdd, lf_O2, lf_O2, hC, hM⟩
set_option maxHeartbeats 4000000 in
theorem MR_loop17 {ci : Nat → Nat → Nat → Int32} {cn : Nat → Nat → Nat → Nat} {co : Nat → Option Nat} {t a rows j o : Nat} {go : Int32} {more : Int64} (ht : t < 3) (ha : a < 8) (hj : j < 13) (hr : rows < 7) (hroom0 : o + 1 + rows ≤ 160) {μ0 μm0 : mm_M} {PostC : Option mm_V → mm_M → Prop} {PostM : mm_M → Option mm_V → mm_M → Prop} (hE : ∀ μ1 μ2, QA ci cn co go (some (vi (nI 0))) μ1 μ2 → PostM μ1 none μ2) : ∀ (n i : Nat) (xj : Nat → Nat → Nat → Int64) (xd : Nat → Nat → Nat → UInt64) (xf : Nat → Nat → Nat → UInt32) (xo : Nat → Nat → Nat → Option Nat) (xi : Nat → Nat → Nat → Int32) (xn : Nat → Nat → Nat → Nat) (K : Nat → Nat) (I : Nat → Nat → Int32) (J : Nat → Nat → Int64) (F : Nat → Nat → UInt32) (D : Nat → Nat → UInt64) (R : Nat → Nat → Option Nat) (nx sl : Nat) (Km : Nat → Nat) (Im : Nat → Nat → Int32) (Jm : Nat → Nat → Int64) (Fm : Nat → Nat → UInt32) (Dm : Nat → Nat → UInt64) (Rm : Nat → Nat → Option Nat) (nxm slm : Nat), i + n = rows → RC ci cn co xj xd xf xo xi xn I J F D R nx sl → RM ci cn co xj xd xf xo xi xn Im Jm Dm → xn 2 0 0 = o + 1 + i → xn 0 o 0 = 14 → xn 1 o 0 = rows → Im 6 39 = nI t → Im 6 40 = nI a → Im 6 43 = nI 0 → Im 6 44 = go → (∀ μ1, Ev Y_MM_makesRows μm0 (mm_to (mm_co Y_MM_makesRows) 113) [(0, vr 11 6), (1, vi (nI 14)), (2, vi (nI 7)), (3, vl (lN rows)), (5, vl (lN j)), (7, vl more), (9, vi (nI o)), (10, vi (nI (i)))] [vi (lg_cmp (nI (i)).toInt64 (lN rows))] (Km, Im, Jm, Fm, Dm, Rm, nxm, slm) (PostM μ1) → PostC (some (vi (nI 0))) μ1) → Ev Y_HA_makeRows μ0 (mm_to (mm_co Y_HA_makeRows) 86) [(0, vr 1 55), (1, vr 8 (32 + 7 * t)), (2, vi (nI a)), (3, vi (nI 14)), (4, vl (lN rows)), (6, vl (lN j)), (8, vr 9 (94 + 4 * o)), (9, vi (nI (i)))] [vi (lg_cmp (nI (i)).toInt64 (lN rows))] (K, I, J, F, D, R, nx, sl) PostC := by
  intro n
  induction n with
  | zero =>
    intro i xj xd xf xo xi xn K I J F D R nx sl Km Im Jm Fm Dm Rm nxm slm hi hC hM h2 h0 h1 x1 x2 x5 x6 hP
    have hie : i = rows := by omega
    have yy := rc_imad hC
    refine ev_gO2 [true] [] rfl ?_
    refine ev_inV 2 k_HA_21 h_SD_setT rfl rfl rfl rfl rfl ⟨by decide, by decide⟩ rfl ?_
    refine ev_gO2 [] [] rfl ?_
    refine ev_ret rfl ?_
    refine ev_g0 rfl ?_
    refine ev_reti rfl ?_
    refine hP _ ?_
    refine ev_gO2 [true] [] rfl ?_
    refine ev_inV 2 k_MM_336 h_MM_keep rfl rfl rfl rfl rfl ⟨by decide, by decide⟩ rfl ?_
    refine ev_gO2 [] [] rfl ?_
    refine ev_ret rfl ?_
    refine ev_g0 rfl ?_
    refine ev_ret rfl ?_
    exact hE _ _ ⟨_, _, _, _, _, _, nI 0, rfl, bdd, lf_O2, lf_O2, CU_hol (v := some o) hC ht ha (fun q h => by cases h; omega) lf_O2 lf_O2, MU_hol hM ht ha lf_O2 lf_O2 (fun i hi => (rc_isor hC hi).2.2.1)⟩
  | succ n ih =>
    intro i xj xd xf xo xi xn K I J F D R nx sl Km Im Jm Fm Dm Rm nxm slm hi hC hM h2 h0 h1 x1 x2 x5 x6 hP
    have hil : i < rows := by omega
    have hroom : xn 2 0 0 < 160 := by omega
    obtain ⟨xa, K1, I1, J1, F1, D1, R1, n1, s1, K2, I2, J2, F2, D2, R2, n2, s2, d1, d2, hC1, hM1, ⟨y1, y2, y3, y4, y5, y6⟩, hxa⟩ := MK (K := K) (Km := Km) (Fm := Fm) (Rm := Rm) (nxm := nxm) (slm := slm) (s := 7) (l := j) hC hM hroom (by omega)
    rw [x1] at y1
    rw [x2] at y2
    rw [x5] at y5
    rw [x6] at y6
    have hom : ¬ o = xn 2 0 0 := by omega
    have e0 : mkn xa (xn 2 0 0) 7 j 0 o 0 = 14 := by rw [mkn_0 hom, hxa 0 o 0 (by decide)]; exact h0
    have e1 : mkn xa (xn 2 0 0) 7 j 1 o 0 = rows := by rw [mkn_1 hom, hxa 1 o 0 (by decide)]; exact h1
    have e2 : mkn xa (xn 2 0 0) 7 j 2 0 0 = o + 1 + (i + 1) := by rw [mkn_2]; omega
    refine ev_gO2 [false, true] [] rfl ?_
    refine ev_top2 (a2 := vi (nI j)) (b2 := vi (nI 7)) lf_O2 lf_O2 ?_
    refine ev_kV 2 k_HA_73 rfl d1 rfl ⟨by decide, by decide⟩ rfl ?_
    refine ev_gO2 [] [] rfl ?_
    refine ev_cg2 (L2 := [(0, vr 1 55), (1, vr 8 (32 + 7 * t)), (2, vi (nI a)), (3, vi (nI 14)), (4, vl (lN rows)), (6, vl (lN j)), (8, vr 9 (94 + 4 * o)), (9, vi (nI (i + 1)))]) (st2 := [vi (lg_cmp (nI (i + 1)).toInt64 (lN rows))]) lf_O2 lf_O2 rfl ?_
    refine ih (i + 1) _ _ _ _ _ _ _ _ _ _ _ _ _ _ K2 I2 _ F2 D2 R2 n2 s2 (by omega) (CU_par (v := some (xn 2 0 0)) hC1 (by rw [e2]; omega) (by rw [e1]; exact hil) (by rw [e0]; decide) (fun q h => by cases h; rw [mkn_2]; omega) lf_O2 lf_O2) (MU_par (v := some (xn 2 0 0)) (j := 12 * o + i) (z := (nI (xn 2 0 0)).toInt64) hM1 (by rw [e2]; omega) (by rw [e1]; exact hil) (by rw [e0]; decide) rfl rfl (fun i hi => (rc_isor hC1 hi).2.2.1)) e2 e0 e1 y1 y2 y5 y6 (fun μ1 hmod => hP μ1 ?_)
    refine ev_gO2 [false] [] rfl ?_
    refine ev_top2 (a2 := vi (nI j)) (b2 := vi (nI 7)) lf_O2 lf_O2 ?_
    refine ev_kV 2 k_MM_332 rfl d2 rfl ⟨by decide, by decide⟩ rfl ?_
    refine ev_gO2 [] [] rfl ?_
    exact ev_cg2 lf_O2 lf_O2 lf_O2 hmod
set_option maxRecDepth 20000 in
set_option maxHeartbeats 4000000 in
theorem A17 {ci : Nat → Nat → Nat → Int32} {cn : Nat → Nat → Nat → Nat} {co : Nat → Option Nat} {xj : Nat → Nat → Nat → Int64} {xd : Nat → Nat → Nat → UInt64} {xf : Nat → Nat → Nat → UInt32} {xo : Nat → Nat → Nat → Option Nat} {xi : Nat → Nat → Nat → Int32} {xn : Nat → Nat → Nat → Nat} {K : Nat → Nat} {I : Nat → Nat → Int32} {J : Nat → Nat → Int64} {F : Nat → Nat → UInt32} {D : Nat → Nat → UInt64} {R : Nat → Nat → Option Nat} {nx sl : Nat} {Km : Nat → Nat} {Im : Nat → Nat → Int32} {Jm : Nat → Nat → Int64} {Fm : Nat → Nat → UInt32} {Dm : Nat → Nat → UInt64} {Rm : Nat → Nat → Option Nat} {nxm slm : Nat} (hC : RC ci cn co xj xd xf xo xi xn I J F D R nx sl) (hM : RM ci cn co xj xd xf xo xi xn Im Jm Dm) {t a b c : Nat} {go : Int32} (ht : t < 3) (ha : a < 8) (hb : b < 8) (hc : c < 8) (x1 : Im 6 39 = nI t) (x2 : Im 6 40 = nI a) (x3 : Im 6 41 = nI b) (x4 : Im 6 42 = nI c) (x5 : Im 6 43 = nI 0) (x6 : Im 6 44 = go) : Ct Y_HA_perform [vr 1 55, vr 8 (32 + 7 * t), vi (nI 17), vi (nI a), vi (nI b), vi (nI c)] (K, I, J, F, D, R, nx, sl) (fun r μ1 => Ct Y_MM_makes [vr 11 6, vi (nI 17)] (Km, Im, Jm, Fm, Dm, Rm, nxm, slm) (fun r2 μ2 => r2 = none ∧ QA ci cn co go r μ1 μ2)) := by
  have ym := rc_imad hC
  rcases ixc (xj 0 t b) 7 with ⟨rows, hr, hir⟩ | hir
  · rcases ixc (xj 0 t c) 13 with ⟨j, hj, hij⟩ | hij
    · by_cases hrm : xn 2 0 0 + 1 + rows ≤ 160
      · have hroom : xn 2 0 0 < 160 := by omega
        obtain ⟨xa, K1, I1, J1, F1, D1, R1, n1, s1, K2, I2, J2, F2, D2, R2, n2, s2, d1, d2, hC1, hM1, ⟨y1, y2, y3, y4, y5, y6⟩, hxa⟩ := MK (K := K) (Km := Km) (Fm := Fm) (Rm := Rm) (nxm := nxm) (slm := slm) (s := 14) (l := rows) hC hM hroom (by omega)
        rw [x1] at y1
        rw [x2] at y2
        rw [x3] at y3
        rw [x4] at y4
        rw [x5] at y5
        rw [x6] at y6
        refine ct_of h_HA_perform rfl rfl rfl ?_
        refine ev_gO2 [] [some 5] rfl ?_
        refine ev_inV 1 k_HA_25 h_SD_n rfl rfl rfl rfl rfl ⟨by decide, by decide⟩ rfl ?_
        refine ev_gO2 [] [] rfl ?_
        refine ev_retl rfl ?_
        refine ev_g0 rfl ?_
        refine ev_inV 1 k_HA_25 h_SD_n rfl rfl rfl rfl rfl ⟨by decide, by decide⟩ rfl ?_
        refine ev_gO2 [] [] rfl ?_
        refine ev_retl rfl ?_
        refine ev_g0 rfl ?_
        refine ev_inV 5 k_HA_33 h_HA_makeRows rfl rfl rfl rfl rfl ⟨by decide, by decide⟩ rfl ?_
        refine ev_gO2 [false, false] [] rfl ?_
        refine ev_inV 1 k_HA_68 h_SO_hasRoomFor rfl rfl rfl rfl rfl ⟨by decide, by decide⟩ rfl ?_
        refine ev_gO2 [false] [] rfl ?_
        refine ev_retz rfl (by first | decide | exact zb_01 _) ?_
        refine ev_gO2 [true, false, true] [] rfl ?_
        refine ev_top2 (a2 := vi (nI rows)) (b2 := vi (nI 14)) lf_O2 lf_O2 ?_
        refine ev_kV 2 k_HA_73 rfl d1 rfl ⟨by decide, by decide⟩ rfl ?_
        refine ev_g0 rfl ?_
        refine ev_cg2 (L2 := [(0, vr 1 55), (1, vr 8 (32 + 7 * t)), (2, vi (nI a)), (3, vi (nI 14)), (4, vl (lN rows)), (6, vl (lN j)), (8, vr 9 (94 + 4 * xn 2 0 0)), (9, vi (nI (0)))]) (st2 := [vi (lg_cmp (nI (0)).toInt64 (lN rows))]) lf_O2 lf_O2 rfl ?_
        refine MR_loop17 (t := t) (a := a) (rows := rows) (j := j) (o := xn 2 0 0) (more := lN rows) (go := go) (μm0 := (Km, Im, Jm, Fm, Dm, Rm, nxm, slm)) (PostM := fun μ1 r2 μ2 => r2 = none ∧ QA ci cn co go (some (vi (nI 0))) μ1 μ2) ht ha hj hr hrm (fun μ1 μ2 hq => ⟨rfl, hq⟩) rows 0 _ _ _ _ _ _ _ _ _ _ _ _ _ _ K2 I2 J2 F2 D2 R2 n2 s2 (by omega) hC1 hM1 (by rw [mkn_2]) mkn_0n mkn_1n y1 y2 y5 y6 ?_
        intro μ1 hmod
        refine ev_g0 rfl ?_
        refine ev_reti rfl ?_
        refine ct_of h_MM_makes rfl rfl rfl ?_
        refine ev_gO2 [] [some 5] rfl ?_
        refine ev_inV 2 k_MM_351 h_MM_makesRows rfl rfl rfl rfl rfl ⟨by decide, by decide⟩ rfl ?_
        refine ev_g0 rfl ?_
        refine ev_inV 1 k_MM_277 h_MM_number rfl rfl rfl rfl rfl ⟨by decide, by decide⟩ rfl ?_
        refine ev_gO2 [] [] rfl ?_
        refine ev_retl rfl ?_
        refine ev_g0 rfl ?_
        refine ev_inV 1 k_MM_277 h_MM_number rfl rfl rfl rfl rfl ⟨by decide, by decide⟩ rfl ?_
        refine ev_gO2 [] [] rfl ?_
        refine ev_retl rfl ?_
        refine ev_gO2 [true, false, false, true, false, true] [] rfl ?_
        refine ev_top2 (a2 := vi (nI rows)) (b2 := vi (nI 14)) lf_O2 lf_O2 ?_
        refine ev_kV 2 k_MM_332 rfl d2 rfl ⟨by decide, by decide⟩ rfl ?_
        refine ev_g0 rfl ?_
        refine ev_cg2 lf_O2 lf_O2 rfl (Ev.mono hmod ?_)
        rintro _ μ3 ⟨rfl, hq⟩
        refine ev_g0 rfl ?_
        refine ev_ret rfl ?_
        exact ⟨rfl, hq⟩
      · skip
        refine ct_of h_HA_perform rfl rfl rfl ?_
        refine ev_gO2 [] [some 5] rfl ?_
        refine ev_inV 1 k_HA_25 h_SD_n rfl rfl rfl rfl rfl ⟨by decide, by decide⟩ rfl ?_
        refine ev_gO2 [] [] rfl ?_
        refine ev_retl rfl ?_
        refine ev_g0 rfl ?_
        refine ev_inV 1 k_HA_25 h_SD_n rfl rfl rfl rfl rfl ⟨by decide, by decide⟩ rfl ?_
        refine ev_gO2 [] [] rfl ?_
        refine ev_retl rfl ?_
        refine ev_g0 rfl ?_
        refine ev_inV 5 k_HA_33 h_HA_makeRows rfl rfl rfl rfl rfl ⟨by decide, by decide⟩ rfl ?_
        refine ev_gO2 [false, false] [] rfl ?_
        refine ev_inV 1 k_HA_68 h_SO_hasRoomFor rfl rfl rfl rfl rfl ⟨by decide, by decide⟩ rfl ?_
        refine ev_gO2 [true] [] rfl ?_
        refine ev_retz rfl (by first | decide | exact zb_01 _) ?_
        refine ev_gO2 [false] [] rfl ?_
        refine ev_reti rfl ?_
        refine ev_g0 rfl ?_
        refine ev_reti rfl ?_
        refine ct_of h_MM_makes rfl rfl rfl ?_
        refine ev_gO2 [] [some 5] rfl ?_
        refine ev_inV 2 k_MM_351 h_MM_makesRows rfl rfl rfl rfl rfl ⟨by decide, by decide⟩ rfl ?_
        refine ev_g0 rfl ?_
        refine ev_inV 1 k_MM_277 h_MM_number rfl rfl rfl rfl rfl ⟨by decide, by decide⟩ rfl ?_
        refine ev_gO2 [] [] rfl ?_
        refine ev_retl rfl ?_
        refine ev_g0 rfl ?_
        refine ev_inV 1 k_MM_277 h_MM_number rfl rfl rfl rfl rfl ⟨by decide, by decide⟩ rfl ?_
        refine ev_gO2 [] [] rfl ?_
        refine ev_retl rfl ?_
        refine ev_gO2 [true, false, false, false] [] rfl ?_
        refine ev_inV 1 k_MM_301 h_MM_fails rfl rfl rfl rfl rfl ⟨by decide, by decide⟩ rfl ?_
        refine ev_g0 rfl ?_
        refine ev_ret rfl ?_
        refine ev_g0 rfl ?_
        refine ev_ret rfl ?_
        refine ev_g0 rfl ?_
        refine ev_ret rfl ?_
        exact ⟨rfl, xj, xd, xf, xo, xi, xn, nI 9, rfl, bdd, lf_O2, lf_O2, hC, hM⟩
    · skip
      refine ct_of h_HA_perform rfl rfl rfl ?_
      refine ev_gO2 [] [some 5] rfl ?_
      refine ev_inV 1 k_HA_25 h_SD_n rfl rfl rfl rfl rfl ⟨by decide, by decide⟩ rfl ?_
      refine ev_gO2 [] [] rfl ?_
      refine ev_retl rfl ?_
      refine ev_g0 rfl ?_
      refine ev_inV 1 k_HA_25 h_SD_n rfl rfl rfl rfl rfl ⟨by decide, by decide⟩ rfl ?_
      refine ev_gO2 [] [] rfl ?_
      refine ev_retl rfl ?_
      refine ev_g0 rfl ?_
      refine ev_inV 5 k_HA_33 h_HA_makeRows rfl rfl rfl rfl rfl ⟨by decide, by decide⟩ rfl ?_
      refine ev_g0 rfl ?_
      refine ev_bO2 rfl rfl (fun h_1 => ?_) (fun h_1 => ?_)
      · skip
        refine ev_g0 rfl ?_
        refine ev_reti rfl ?_
        refine ev_g0 rfl ?_
        refine ev_reti rfl ?_
        refine ct_of h_MM_makes rfl rfl rfl ?_
        refine ev_gO2 [] [some 5] rfl ?_
        refine ev_inV 2 k_MM_351 h_MM_makesRows rfl rfl rfl rfl rfl ⟨by decide, by decide⟩ rfl ?_
        refine ev_g0 rfl ?_
        refine ev_inV 1 k_MM_277 h_MM_number rfl rfl rfl rfl rfl ⟨by decide, by decide⟩ rfl ?_
        refine ev_gO2 [] [] rfl ?_
        refine ev_retl rfl ?_
        refine ev_g0 rfl ?_
        refine ev_inV 1 k_MM_277 h_MM_number rfl rfl rfl rfl rfl ⟨by decide, by decide⟩ rfl ?_
        refine ev_gO2 [] [] rfl ?_
        refine ev_retl rfl ?_
        refine ev_gO2 [true, false, true] [] rfl ?_
        refine ev_inV 1 k_MM_301 h_MM_fails rfl rfl rfl rfl rfl ⟨by decide, by decide⟩ rfl ?_
        refine ev_g0 rfl ?_
        refine ev_ret rfl ?_
        refine ev_g0 rfl ?_
        refine ev_ret rfl ?_
        refine ev_g0 rfl ?_
        refine ev_ret rfl ?_
        exact ⟨rfl, xj, xd, xf, xo, xi, xn, nI 9, rfl, bdd, lf_O2, lf_O2, hC, hM⟩
      · skip
        refine ev_gO2 [false] [] rfl ?_
        refine ev_inV 1 k_HA_68 h_SO_hasRoomFor rfl rfl rfl rfl rfl ⟨by decide, by decide⟩ rfl ?_
        refine ev_g0 rfl ?_
        refine ev_bO2 rfl rfl (fun h_2 => ?_) (fun h_2 => ?_)
        · skip
          refine ev_g0 rfl ?_
          refine ev_retz rfl (by first | decide | exact zb_01 _) ?_
          refine ev_gO2 [false] [] rfl ?_
          refine ev_reti rfl ?_
          refine ev_g0 rfl ?_
          refine ev_reti rfl ?_
          refine ct_of h_MM_makes rfl rfl rfl ?_
          refine ev_gO2 [] [some 5] rfl ?_
          refine ev_inV 2 k_MM_351 h_MM_makesRows rfl rfl rfl rfl rfl ⟨by decide, by decide⟩ rfl ?_
          refine ev_g0 rfl ?_
          refine ev_inV 1 k_MM_277 h_MM_number rfl rfl rfl rfl rfl ⟨by decide, by decide⟩ rfl ?_
          refine ev_gO2 [] [] rfl ?_
          refine ev_retl rfl ?_
          refine ev_g0 rfl ?_
          refine ev_inV 1 k_MM_277 h_MM_number rfl rfl rfl rfl rfl ⟨by decide, by decide⟩ rfl ?_
          refine ev_gO2 [] [] rfl ?_
          refine ev_retl rfl ?_
          refine ev_gO2 [true, false, false, false] [] rfl ?_
          refine ev_inV 1 k_MM_301 h_MM_fails rfl rfl rfl rfl rfl ⟨by decide, by decide⟩ rfl ?_
          refine ev_g0 rfl ?_
          refine ev_ret rfl ?_
          refine ev_g0 rfl ?_
          refine ev_ret rfl ?_
          refine ev_g0 rfl ?_
          refine ev_ret rfl ?_
          exact ⟨rfl, xj, xd, xf, xo, xi, xn, nI 9, rfl, bdd, lf_O2, lf_O2, hC, hM⟩
        · skip
          refine ev_g0 rfl ?_
          refine ev_retz rfl (by first | decide | exact zb_01 _) ?_
          refine ev_gO2 [true, false, false] [] rfl ?_
          refine ev_reti rfl ?_
          refine ev_g0 rfl ?_
          refine ev_reti rfl ?_
          refine ct_of h_MM_makes rfl rfl rfl ?_
          refine ev_gO2 [] [some 5] rfl ?_
          refine ev_inV 2 k_MM_351 h_MM_makesRows rfl rfl rfl rfl rfl ⟨by decide, by decide⟩ rfl ?_
          refine ev_g0 rfl ?_
          refine ev_inV 1 k_MM_277 h_MM_number rfl rfl rfl rfl rfl ⟨by decide, by decide⟩ rfl ?_
          refine ev_gO2 [] [] rfl ?_
          refine ev_retl rfl ?_
          refine ev_g0 rfl ?_
          refine ev_inV 1 k_MM_277 h_MM_number rfl rfl rfl rfl rfl ⟨by decide, by decide⟩ rfl ?_
          refine ev_gO2 [] [] rfl ?_
          refine ev_retl rfl ?_
          refine ev_gO2 [true, false, false, true, false, false] [] rfl ?_
          refine ev_inV 1 k_MM_301 h_MM_fails rfl rfl rfl rfl rfl ⟨by decide, by decide⟩ rfl ?_
          refine ev_g0 rfl ?_
          refine ev_ret rfl ?_
          refine ev_g0 rfl ?_
          refine ev_ret rfl ?_
          refine ev_g0 rfl ?_
          refine ev_ret rfl ?_
          exact ⟨rfl, xj, xd, xf, xo, xi, xn, nI 5, rfl, bdd, lf_O2, lf_O2, hC, hM⟩
  · by_cases hneg : (xj 0 t b).toInt < ((0 : Nat) : Int)
    · skip
      refine ct_of h_HA_perform rfl rfl rfl ?_
      refine ev_gO2 [] [some 5] rfl ?_
      refine ev_inV 1 k_HA_25 h_SD_n rfl rfl rfl rfl rfl ⟨by decide, by decide⟩ rfl ?_
      refine ev_gO2 [] [] rfl ?_
      refine ev_retl rfl ?_
      refine ev_g0 rfl ?_
      refine ev_inV 1 k_HA_25 h_SD_n rfl rfl rfl rfl rfl ⟨by decide, by decide⟩ rfl ?_
      refine ev_gO2 [] [] rfl ?_
      refine ev_retl rfl ?_
      refine ev_g0 rfl ?_
      refine ev_inV 5 k_HA_33 h_HA_makeRows rfl rfl rfl rfl rfl ⟨by decide, by decide⟩ rfl ?_
      refine ev_g0 rfl ?_
      refine ev_bO2 rfl rfl (fun h_3 => ?_) (fun h_3 => ?_)
      · skip
        refine ev_g0 rfl ?_
        refine ev_reti rfl ?_
        refine ev_g0 rfl ?_
        refine ev_reti rfl ?_
        refine ct_of h_MM_makes rfl rfl rfl ?_
        refine ev_gO2 [] [some 5] rfl ?_
        refine ev_inV 2 k_MM_351 h_MM_makesRows rfl rfl rfl rfl rfl ⟨by decide, by decide⟩ rfl ?_
        refine ev_g0 rfl ?_
        refine ev_inV 1 k_MM_277 h_MM_number rfl rfl rfl rfl rfl ⟨by decide, by decide⟩ rfl ?_
        refine ev_gO2 [] [] rfl ?_
        refine ev_retl rfl ?_
        refine ev_g0 rfl ?_
        refine ev_inV 1 k_MM_277 h_MM_number rfl rfl rfl rfl rfl ⟨by decide, by decide⟩ rfl ?_
        refine ev_gO2 [] [] rfl ?_
        refine ev_retl rfl ?_
        refine ev_gO2 [false, false, true] [] rfl ?_
        refine ev_inV 1 k_MM_301 h_MM_fails rfl rfl rfl rfl rfl ⟨by decide, by decide⟩ rfl ?_
        refine ev_g0 rfl ?_
        refine ev_ret rfl ?_
        refine ev_g0 rfl ?_
        refine ev_ret rfl ?_
        refine ev_g0 rfl ?_
        refine ev_ret rfl ?_
        exact ⟨rfl, xj, xd, xf, xo, xi, xn, nI 9, rfl, bdd, lf_O2, lf_O2, hC, hM⟩
      · skip
        refine ev_gO2 [false] [] rfl ?_
        refine ev_inV 1 k_HA_68 h_SO_hasRoomFor rfl rfl rfl rfl rfl ⟨by decide, by decide⟩ rfl ?_
        refine ev_g0 rfl ?_
        refine ev_bO2 rfl rfl (fun h_4 => ?_) (fun h_4 => ?_)
        · skip
          refine ev_g0 rfl ?_
          refine ev_retz rfl (by first | decide | exact zb_01 _) ?_
          refine ev_gO2 [false] [] rfl ?_
          refine ev_reti rfl ?_
          refine ev_g0 rfl ?_
          refine ev_reti rfl ?_
          refine ct_of h_MM_makes rfl rfl rfl ?_
          refine ev_gO2 [] [some 5] rfl ?_
          refine ev_inV 2 k_MM_351 h_MM_makesRows rfl rfl rfl rfl rfl ⟨by decide, by decide⟩ rfl ?_
          refine ev_g0 rfl ?_
          refine ev_inV 1 k_MM_277 h_MM_number rfl rfl rfl rfl rfl ⟨by decide, by decide⟩ rfl ?_
          refine ev_gO2 [] [] rfl ?_
          refine ev_retl rfl ?_
          refine ev_g0 rfl ?_
          refine ev_inV 1 k_MM_277 h_MM_number rfl rfl rfl rfl rfl ⟨by decide, by decide⟩ rfl ?_
          refine ev_gO2 [] [] rfl ?_
          refine ev_retl rfl ?_
          refine ev_gO2 [false, false, false, false] [] rfl ?_
          refine ev_inV 1 k_MM_301 h_MM_fails rfl rfl rfl rfl rfl ⟨by decide, by decide⟩ rfl ?_
          refine ev_g0 rfl ?_
          refine ev_ret rfl ?_
          refine ev_g0 rfl ?_
          refine ev_ret rfl ?_
          refine ev_g0 rfl ?_
          refine ev_ret rfl ?_
          exact ⟨rfl, xj, xd, xf, xo, xi, xn, nI 9, rfl, bdd, lf_O2, lf_O2, hC, hM⟩
        · skip
          refine ev_g0 rfl ?_
          refine ev_retz rfl (by first | decide | exact zb_01 _) ?_
          refine ev_gO2 [true, true] [] rfl ?_
          refine ev_reti rfl ?_
          refine ev_g0 rfl ?_
          refine ev_reti rfl ?_
          refine ct_of h_MM_makes rfl rfl rfl ?_
          refine ev_gO2 [] [some 5] rfl ?_
          refine ev_inV 2 k_MM_351 h_MM_makesRows rfl rfl rfl rfl rfl ⟨by decide, by decide⟩ rfl ?_
          refine ev_g0 rfl ?_
          refine ev_inV 1 k_MM_277 h_MM_number rfl rfl rfl rfl rfl ⟨by decide, by decide⟩ rfl ?_
          refine ev_gO2 [] [] rfl ?_
          refine ev_retl rfl ?_
          refine ev_g0 rfl ?_
          refine ev_inV 1 k_MM_277 h_MM_number rfl rfl rfl rfl rfl ⟨by decide, by decide⟩ rfl ?_
          refine ev_gO2 [] [] rfl ?_
          refine ev_retl rfl ?_
          refine ev_gO2 [false, false, false, true, true] [] rfl ?_
          refine ev_inV 1 k_MM_301 h_MM_fails rfl rfl rfl rfl rfl ⟨by decide, by decide⟩ rfl ?_
          refine ev_g0 rfl ?_
          refine ev_ret rfl ?_
          refine ev_g0 rfl ?_
          refine ev_ret rfl ?_
          refine ev_g0 rfl ?_
          refine ev_ret rfl ?_
          exact ⟨rfl, xj, xd, xf, xo, xi, xn, nI 5, rfl, bdd, lf_O2, lf_O2, hC, hM⟩
    · skip
      refine ct_of h_HA_perform rfl rfl rfl ?_
      refine ev_gO2 [] [some 5] rfl ?_
      refine ev_inV 1 k_HA_25 h_SD_n rfl rfl rfl rfl rfl ⟨by decide, by decide⟩ rfl ?_
      refine ev_gO2 [] [] rfl ?_
      refine ev_retl rfl ?_
      refine ev_g0 rfl ?_
      refine ev_inV 1 k_HA_25 h_SD_n rfl rfl rfl rfl rfl ⟨by decide, by decide⟩ rfl ?_
      refine ev_gO2 [] [] rfl ?_
      refine ev_retl rfl ?_
      refine ev_g0 rfl ?_
      refine ev_inV 5 k_HA_33 h_HA_makeRows rfl rfl rfl rfl rfl ⟨by decide, by decide⟩ rfl ?_
      refine ev_g0 rfl ?_
      refine ev_bO2 rfl rfl (fun h_5 => ?_) (fun h_5 => ?_)
      · skip
        refine ev_g0 rfl ?_
        refine ev_reti rfl ?_
        refine ev_g0 rfl ?_
        refine ev_reti rfl ?_
        refine ct_of h_MM_makes rfl rfl rfl ?_
        refine ev_gO2 [] [some 5] rfl ?_
        refine ev_inV 2 k_MM_351 h_MM_makesRows rfl rfl rfl rfl rfl ⟨by decide, by decide⟩ rfl ?_
        refine ev_g0 rfl ?_
        refine ev_inV 1 k_MM_277 h_MM_number rfl rfl rfl rfl rfl ⟨by decide, by decide⟩ rfl ?_
        refine ev_gO2 [] [] rfl ?_
        refine ev_retl rfl ?_
        refine ev_g0 rfl ?_
        refine ev_inV 1 k_MM_277 h_MM_number rfl rfl rfl rfl rfl ⟨by decide, by decide⟩ rfl ?_
        refine ev_gO2 [] [] rfl ?_
        refine ev_retl rfl ?_
        refine ev_gO2 [true, true] [] rfl ?_
        refine ev_inV 1 k_MM_301 h_MM_fails rfl rfl rfl rfl rfl ⟨by decide, by decide⟩ rfl ?_
        refine ev_g0 rfl ?_
        refine ev_ret rfl ?_
        refine ev_g0 rfl ?_
        refine ev_ret rfl ?_
        refine ev_g0 rfl ?_
        refine ev_ret rfl ?_
        exact ⟨rfl, xj, xd, xf, xo, xi, xn, nI 9, rfl, bdd, lf_O2, lf_O2, hC, hM⟩
      · skip
        refine ev_gO2 [true] [] rfl ?_
        refine ev_reti rfl ?_
        refine ev_g0 rfl ?_
        refine ev_reti rfl ?_
        refine ct_of h_MM_makes rfl rfl rfl ?_
        refine ev_gO2 [] [some 5] rfl ?_
        refine ev_inV 2 k_MM_351 h_MM_makesRows rfl rfl rfl rfl rfl ⟨by decide, by decide⟩ rfl ?_
        refine ev_g0 rfl ?_
        refine ev_inV 1 k_MM_277 h_MM_number rfl rfl rfl rfl rfl ⟨by decide, by decide⟩ rfl ?_
        refine ev_gO2 [] [] rfl ?_
        refine ev_retl rfl ?_
        refine ev_g0 rfl ?_
        refine ev_inV 1 k_MM_277 h_MM_number rfl rfl rfl rfl rfl ⟨by decide, by decide⟩ rfl ?_
        refine ev_gO2 [] [] rfl ?_
        refine ev_retl rfl ?_
        refine ev_gO2 [true, true] [] rfl ?_
        refine ev_inV 1 k_MM_301 h_MM_fails rfl rfl rfl rfl rfl ⟨by decide, by decide⟩ rfl ?_
        refine ev_g0 rfl ?_
        refine ev_ret rfl ?_
        refine ev_g0 rfl ?_
        refine ev_ret rfl ?_
        refine ev_g0 rfl ?_
        refine ev_ret rfl ?_
        exact ⟨rfl, xj, xd, xf, xo, xi, xn, nI 9, rfl, bdd, lf_O2, lf_O2, hC, hM⟩
