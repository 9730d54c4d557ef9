theorem RM_xa {ci : Nat → Nat → Nat → Int32} {cn : Nat → Nat → Nat → Nat} {co : Nat → Option Nat} {xj : Nat → Nat → Nat → Int64} {xd : Nat → Nat → Nat → UInt64} {xf : Nat → Nat → Nat → UInt32} {xo : Nat → Nat → Nat → Option Nat} {xi : Nat → Nat → Nat → Int32} {xn : Nat → Nat → Nat → Nat} {Im : Nat → Nat → Int32} {Jm : Nat → Nat → Int64} {Dm : Nat → Nat → UInt64} {xa : Nat → Nat → Nat → Nat} {v : Nat} (h : xa = xn ∨ xa = u3 xn 3 0 0 v) (hM : RM ci cn co xj xd xf xo xi xn Im Jm Dm) : RM ci cn co xj xd xf xo xi xa Im Jm Dm := by
  rcases h with rfl | rfl
  · exact hM
  · exact hM
theorem xa_k {xn xa : Nat → Nat → Nat → Nat} {v : Nat} (h : xa = xn ∨ xa = u3 xn 3 0 0 v) (c i k : Nat) (hc : ¬ c = 3) : xa c i k = xn c i k := by
  rcases h with rfl | rfl
  · rfl
  · exact if_neg (fun g => hc g.1)
theorem MK {ci : Nat → Nat → Nat → Int32} {cn : Nat → Nat → Nat → Nat} {co : Nat → Option Nat} {xj : Nat → Nat → Nat → Int64} {xd : Nat → Nat → Nat → UInt64} {xf : Nat → Nat → Nat → UInt32} {xo : Nat → Nat → Nat → Option Nat} {xi : Nat → Nat → Nat → Int32} {xn : Nat → Nat → Nat → Nat} {K : Nat → Nat} {I : Nat → Nat → Int32} {J : Nat → Nat → Int64} {F : Nat → Nat → UInt32} {D : Nat → Nat → UInt64} {R : Nat → Nat → Option Nat} {nx sl : Nat} {Km : Nat → Nat} {Im : Nat → Nat → Int32} {Jm : Nat → Nat → Int64} {Fm : Nat → Nat → UInt32} {Dm : Nat → Nat → UInt64} {Rm : Nat → Nat → Option Nat} {nxm slm : Nat} (hC : RC ci cn co xj xd xf xo xi xn I J F D R nx sl) (hM : RM ci cn co xj xd xf xo xi xn Im Jm Dm) {s l : Nat} (hm : xn 2 0 0 < 160) (hs : s ≤ 20 ∧ s ≠ 15 ∧ l ≤ 12 ∧ (16 ≤ s → l = 0)) : ∃ (xa : Nat → Nat → Nat → Nat) (K1 : Nat → Nat) (I1 : Nat → Nat → Int32) (J1 : Nat → Nat → Int64) (F1 : Nat → Nat → UInt32) (D1 : Nat → Nat → UInt64) (R1 : Nat → Nat → Option Nat) (n1 s1 : Nat) (K2 : Nat → Nat) (I2 : Nat → Nat → Int32) (J2 : Nat → Nat → Int64) (F2 : Nat → Nat → UInt32) (D2 : Nat → Nat → UInt64) (R2 : Nat → Nat → Option Nat) (n2 s2 : Nat), mm_Det Y_SO_make [vr 7 9, vi (nI s), vi (nI l)] (K, I, J, F, D, R, nx, sl) (some (vr 9 (94 + 4 * xn 2 0 0))) (K1, I1, J1, F1, D1, R1, n1, s1) ∧ mm_Det Y_MM_fresh [vr 11 6, vi (nI s), vi (nI l)] (Km, Im, Jm, Fm, Dm, Rm, nxm, slm) (some (vi (nI (xn 2 0 0)))) (K2, I2, J2, F2, D2, R2, n2, s2) ∧ RC ci cn co (mkj xj (xn 2 0 0)) (mkd xd (xn 2 0 0)) (mkf xf (xn 2 0 0)) (mko xo (xn 2 0 0)) (mki xi (xn 2 0 0)) (mkn xa (xn 2 0 0) s l) I1 J1 F1 D1 R1 n1 s1 ∧ RM ci cn co (mkj xj (xn 2 0 0)) (mkd xd (xn 2 0 0)) (mkf xf (xn 2 0 0)) (mko xo (xn 2 0 0)) (mki xi (xn 2 0 0)) (mkn xa (xn 2 0 0) s l) I2 J2 D2 ∧ (I2 6 39 = Im 6 39 ∧ I2 6 40 = Im 6 40 ∧ I2 6 41 = Im 6 41 ∧ I2 6 42 = Im 6 42 ∧ I2 6 43 = Im 6 43 ∧ I2 6 44 = Im 6 44) ∧ (∀ c i k, ¬ c = 3 → xa c i k = xn c i k) := by
  obtain ⟨r1, ⟨K1, I1, J1, F1, D1, R1, n1, s1⟩, ⟨xa, hxa, hx2, rfl, hC1⟩, d1⟩ := C_SO_make (K := K) hC hm hs
  have hM0 := RM_xa hxa hM
  obtain ⟨r2, ⟨K2, I2, J2, F2, D2, R2, n2, s2⟩, ⟨rfl, hM1, hk⟩, d2⟩ := C_MM_fresh (Km := Km) (Fm := Fm) (Rm := Rm) (nxm := nxm) (slm := slm) hM0 (by rw [hx2]; exact hm) hs (fun i hi => by rw [xa_k hxa 1 i 0 (by decide)]; exact (rc_isor hC (i := i) (by rw [← hx2]; exact hi)).2.2.1)
  rw [hx2] at d1 d2 hC1 hM1
  exact ⟨xa, K1, I1, J1, F1, D1, R1, n1, s1, K2, I2, J2, F2, D2, R2, n2, s2, d1, d2, hC1, hM1, hk, fun c i k hc => xa_k hxa c i k hc⟩
theorem ev_gO {Y : mm_Y} {μ0 : mm_M} {rem : List mm_E} {L : mm_L} {st : List mm_V} {μ : mm_M} {Post : Option mm_V → mm_M → Prop} (bs : List Bool) (os : List (Option Nat)) {e2 : mm_E} {rem2 : List mm_E} {L2 : mm_L} {st2 : List mm_V} {μ2 : mm_M} {P2 : Prop} (h : mm_go 5000 (mm_co Y) rem L st μ bs os True = some (e2 :: rem2, L2, st2, μ2, P2)) (k : Ev Y μ0 (e2 :: rem2) L2 st2 μ2 Post) (hp : P2 := by (repeat' apply And.intro) <;> first | exact trivial | assumption | rfl | decide | omega | (simp (disch := first | assumption | omega | decide) only [i_add, i_mul, n_cl, nI_and7, nI_and3, v_in, i_eq, i_lt, i_le, i_eq0, i_lt0, i_ge0, i_gt0, i_le0, lg_cmp_eq, lg_cmp_ge, lg_cmp_gt, lg_cmp_le, lg_cmp_lt, zb_e0, zb_n0, Classical.not_not, up_ne, Nat.zero_add, Nat.add_zero, rc_num hC, rc_hol hC, rc_who hC, rc_rea hC, rc_par hC, rc_nn hC, rc_xx hC, rc_ff hC, rc_nxt hC, rc_lin hC, rc_sor hC, rc_len hC, rc_own hC, rc_tim hC, rc_tal hC, rc_dbl hC, rc_flt hC, rc_mad hC, rc_trc hC, rc_mk0 hC, rc_mk1 hC, rc_mk2 hC, rc_tix hC, rc_thg hC, rm_num hM, rm_hol hM, rm_who hM, rm_rea hM, rm_par hM, rm_nn hM, rm_xx hM, rm_ff hM, rm_nxt hM, rm_lin hM, rm_sor hM, rm_len hM, rm_own hM, rm_tim hM, rm_tal hM, rm_dbl hM, rm_flt hM, rm_mad hM, rm_trc hM, rm_mk hM, tR_s, tR_n, eI_s, eI_n, e_nm, e_mm, lN_i, l_lt, l_le, l_eq, l_z, lN_t, nI_tl, n_s1, i_sub, eLi, eL_s, eL_n, up_eq, mkz, i_l1, i_l2, i_l3, n_ti, i_tl2, e_mn, lN_i, *] <;> first | assumption | omega | decide)) : Ev Y μ0 rem L st μ Post := ev_go bs os h hp k
theorem ev_bO {Y : mm_Y} {μ0 : mm_M} {rem : List mm_E} {L : mm_L} {st : List mm_V} {μ : mm_M} {Post : Option mm_V → mm_M → Prop} {e2 e3 : mm_E} {rem2 rem3 : List mm_E} {L2 L3 : mm_L} {st2 st3 : List mm_V} {μ2 μ3 : mm_M} {c c2 d d2 : Prop} (hT : mm_go 1 (mm_co Y) rem L st μ [true] [] True = some (e2 :: rem2, L2, st2, μ2, True ∧ c)) (hF : mm_go 1 (mm_co Y) rem L st μ [false] [] True = some (e3 :: rem3, L3, st3, μ3, True ∧ c2)) (kt : d → Ev Y μ0 (e2 :: rem2) L2 st2 μ2 Post) (kf : d2 → Ev Y μ0 (e3 :: rem3) L3 st3 μ3 Post) (hc : ¬ c → c2 := by first | exact id | exact Classical.not_not.mp) (g1 : c → d := by intro hh; (try simp (disch := first | assumption | omega | decide) only [i_add, i_mul, n_cl, nI_and7, nI_and3, v_in, i_eq, i_lt, i_le, i_eq0, i_lt0, i_ge0, i_gt0, i_le0, lg_cmp_eq, lg_cmp_ge, lg_cmp_gt, lg_cmp_le, lg_cmp_lt, zb_e0, zb_n0, Classical.not_not, up_ne, Nat.zero_add, Nat.add_zero, rc_num hC, rc_hol hC, rc_who hC, rc_rea hC, rc_par hC, rc_nn hC, rc_xx hC, rc_ff hC, rc_nxt hC, rc_lin hC, rc_sor hC, rc_len hC, rc_own hC, rc_tim hC, rc_tal hC, rc_dbl hC, rc_flt hC, rc_mad hC, rc_trc hC, rc_mk0 hC, rc_mk1 hC, rc_mk2 hC, rc_tix hC, rc_thg hC, rm_num hM, rm_hol hM, rm_who hM, rm_rea hM, rm_par hM, rm_nn hM, rm_xx hM, rm_ff hM, rm_nxt hM, rm_lin hM, rm_sor hM, rm_len hM, rm_own hM, rm_tim hM, rm_tal hM, rm_dbl hM, rm_flt hM, rm_mad hM, rm_trc hM, rm_mk hM, tR_s, tR_n, eI_s, eI_n, e_nm, e_mm, lN_i, l_lt, l_le, l_eq, l_z, lN_t, nI_tl, n_s1, i_sub, eLi, eL_s, eL_n, up_eq, mkz, i_l1, i_l2, i_l3, n_ti, i_tl2, e_mn, lN_i, *] at hh); exact hh) (g2 : c2 → d2 := by intro hh; (try simp (disch := first | assumption | omega | decide) only [i_add, i_mul, n_cl, nI_and7, nI_and3, v_in, i_eq, i_lt, i_le, i_eq0, i_lt0, i_ge0, i_gt0, i_le0, lg_cmp_eq, lg_cmp_ge, lg_cmp_gt, lg_cmp_le, lg_cmp_lt, zb_e0, zb_n0, Classical.not_not, up_ne, Nat.zero_add, Nat.add_zero, rc_num hC, rc_hol hC, rc_who hC, rc_rea hC, rc_par hC, rc_nn hC, rc_xx hC, rc_ff hC, rc_nxt hC, rc_lin hC, rc_sor hC, rc_len hC, rc_own hC, rc_tim hC, rc_tal hC, rc_dbl hC, rc_flt hC, rc_mad hC, rc_trc hC, rc_mk0 hC, rc_mk1 hC, rc_mk2 hC, rc_tix hC, rc_thg hC, rm_num hM, rm_hol hM, rm_who hM, rm_rea hM, rm_par hM, rm_nn hM, rm_xx hM, rm_ff hM, rm_nxt hM, rm_lin hM, rm_sor hM, rm_len hM, rm_own hM, rm_tim hM, rm_tal hM, rm_dbl hM, rm_flt hM, rm_mad hM, rm_trc hM, rm_mk hM, tR_s, tR_n, eI_s, eI_n, e_nm, e_mm, lN_i, l_lt, l_le, l_eq, l_z, lN_t, nI_tl, n_s1, i_sub, eLi, eL_s, eL_n, up_eq, mkz, i_l1, i_l2, i_l3, n_ti, i_tl2, e_mn, lN_i, *] at hh); exact hh) : Ev Y μ0 rem L st μ Post := ev_br hT hF hc (fun h => kt (g1 h)) (fun h => kf (g2 h))
theorem lf_O {p : Prop} (h : p := by first | rfl | assumption | (simp (disch := first | assumption | omega | decide) only [i_add, i_mul, n_cl, nI_and7, nI_and3, v_in, i_eq, i_lt, i_le, i_eq0, i_lt0, i_ge0, i_gt0, i_le0, lg_cmp_eq, lg_cmp_ge, lg_cmp_gt, lg_cmp_le, lg_cmp_lt, zb_e0, zb_n0, Classical.not_not, up_ne, Nat.zero_add, Nat.add_zero, rc_num hC, rc_hol hC, rc_who hC, rc_rea hC, rc_par hC, rc_nn hC, rc_xx hC, rc_ff hC, rc_nxt hC, rc_lin hC, rc_sor hC, rc_len hC, rc_own hC, rc_tim hC, rc_tal hC, rc_dbl hC, rc_flt hC, rc_mad hC, rc_trc hC, rc_mk0 hC, rc_mk1 hC, rc_mk2 hC, rc_tix hC, rc_thg hC, rm_num hM, rm_hol hM, rm_who hM, rm_rea hM, rm_par hM, rm_nn hM, rm_xx hM, rm_ff hM, rm_nxt hM, rm_lin hM, rm_sor hM, rm_len hM, rm_own hM, rm_tim hM, rm_tal hM, rm_dbl hM, rm_flt hM, rm_mad hM, rm_trc hM, rm_mk hM, tR_s, tR_n, eI_s, eI_n, e_nm, e_mm, lN_i, l_lt, l_le, l_eq, l_z, lN_t, nI_tl, n_s1, i_sub, eLi, eL_s, eL_n, up_eq, mkz, i_l1, i_l2, i_l3, n_ti, i_tl2, e_mn, lN_i, *] <;> first | rfl | assumption | omega | decide)) : p := h
theorem A14 {ci : Nat → Nat → Nat → Int32} {cn : Nat → Nat → Nat → Nat} {co : Nat → Option Nat} {xj : Nat → Nat → Nat → Int64} {xd : Nat → Nat → Nat → UInt64} {xf : Nat → Nat → Nat → UInt32} {xo : Nat → Nat → Nat → Option Nat} {xi : Nat → Nat → Nat → Int32} {xn : Nat → Nat → Nat → Nat} {K : Nat → Nat} {I : Nat → Nat → Int32} {J : Nat → Nat → Int64} {F : Nat → Nat → UInt32} {D : Nat → Nat → UInt64} {R : Nat → Nat → Option Nat} {nx sl : Nat} {Km : Nat → Nat} {Im : Nat → Nat → Int32} {Jm : Nat → Nat → Int64} {Fm : Nat → Nat → UInt32} {Dm : Nat → Nat → UInt64} {Rm : Nat → Nat → Option Nat} {nxm slm : Nat} (hC : RC ci cn co xj xd xf xo xi xn I J F D R nx sl) (hM : RM ci cn co xj xd xf xo xi xn Im Jm Dm) {t a b c : Nat} {go : Int32} (ht : t < 3) (ha : a < 8) (hb : b < 8) (hc : c < 8) (x1 : Im 6 39 = nI t) (x2 : Im 6 40 = nI a) (x3 : Im 6 41 = nI b) (x4 : Im 6 42 = nI c) (x5 : Im 6 43 = nI 0) (x6 : Im 6 44 = go) : Ct Y_HA_perform [vr 1 55, vr 8 (32 + 7 * t), vi (nI 14), vi (nI a), vi (nI b), vi (nI c)] (K, I, J, F, D, R, nx, sl) (fun r μ1 => Ct Y_MM_makes [vr 11 6, vi (nI 14)] (Km, Im, Jm, Fm, Dm, Rm, nxm, slm) (fun r2 μ2 => r2 = none ∧ QA ci cn co go r μ1 μ2)) := by
  have ym := rc_imad hC
  by_cases hroom : xn 2 0 0 < 160
  · skip
    rcases ixc (xj 0 t c) 13 with ⟨j, hj, hi⟩ | hi
    · skip
      obtain ⟨xa, K1, I1, J1, F1, D1, R1, n1, s1, K2, I2, J2, F2, D2, R2, n2, s2, d1, d2, hC1, hM1, ⟨y1, y2, y3, y4, y5, y6⟩, hxa⟩ := MK (K := K) (Km := Km) (Fm := Fm) (Rm := Rm) (nxm := nxm) (slm := slm) (s := b) (l := j) hC hM hroom (by omega)
      rw [x1] at y1
      rw [x2] at y2
      rw [x3] at y3
      rw [x4] at y4
      rw [x5] at y5
      rw [x6] at y6
      refine ct_of h_HA_perform rfl rfl rfl ?_
      refine ev_gO [] [some 2] rfl ?_
      refine ev_inV 1 k_HA_25 h_SD_n rfl rfl rfl rfl rfl ⟨by decide, by decide⟩ rfl ?_
      refine ev_gO [] [] rfl ?_
      refine ev_retl rfl ?_
      refine ev_g0 rfl ?_
      refine ev_inV 4 k_HA_29 h_HA_makeRow rfl rfl rfl rfl rfl ⟨by decide, by decide⟩ rfl ?_
      refine ev_gO [false] [] rfl ?_
      refine ev_inV 1 k_HA_68 h_SO_hasRoomFor rfl rfl rfl rfl rfl ⟨by decide, by decide⟩ rfl ?_
      refine ev_gO [false] [] rfl ?_
      refine ev_retz rfl (by first | decide | exact zb_01 _) ?_
      refine ev_gO [true, true] [] rfl ?_
      refine ev_top2 (a2 := vi (nI j)) (b2 := vi (nI (b))) lf_O lf_O ?_
      refine ev_kV 2 k_HA_73 rfl d1 rfl ⟨by decide, by decide⟩ rfl ?_
      refine ev_g0 rfl ?_
      refine ev_inV 2 k_HA_21 h_SD_setT rfl rfl rfl rfl rfl ⟨by decide, by decide⟩ rfl ?_
      refine ev_gO [] [] rfl ?_
      refine ev_ret rfl ?_
      refine ev_g0 rfl ?_
      refine ev_reti rfl ?_
      refine ev_g0 rfl ?_
      refine ev_reti rfl ?_
      refine ct_of h_MM_makes rfl rfl rfl ?_
      refine ev_gO [] [some 2] rfl ?_
      refine ev_inV 1 k_MM_348 h_MM_makesRow rfl rfl rfl rfl rfl ⟨by decide, by decide⟩ rfl ?_
      refine ev_g0 rfl ?_
      refine ev_inV 1 k_MM_277 h_MM_number rfl rfl rfl rfl rfl ⟨by decide, by decide⟩ rfl ?_
      refine ev_gO [] [] rfl ?_
      refine ev_retl rfl ?_
      refine ev_gO [false, true, true] [] rfl ?_
      refine ev_top2 (a2 := vi (nI j)) (b2 := vi (nI (b))) lf_O lf_O ?_
      refine ev_kV 2 k_MM_332 rfl d2 rfl ⟨by decide, by decide⟩ rfl ?_
      refine ev_g0 rfl ?_
      refine ev_inV 2 k_MM_336 h_MM_keep rfl rfl rfl rfl rfl ⟨by decide, by decide⟩ rfl ?_
      refine ev_gO [] [] rfl ?_
      refine ev_ret rfl ?_
      refine ev_g0 rfl ?_
      refine ev_ret rfl ?_
      refine ev_g0 rfl ?_
      refine ev_ret rfl ?_
      exact ⟨rfl, _, _, _, _, _, _, nI 0, rfl, bdd, lf_O, lf_O, CU_hol (v := some (xn 2 0 0)) hC1 ht ha (fun q h => by cases h; rw [mkn_2]; omega) lf_O lf_O, MU_hol hM1 ht ha lf_O lf_O (fun i hi => (rc_isor hC1 hi).2.2.1)⟩
    · skip
      refine ct_of h_HA_perform rfl rfl rfl ?_
      refine ev_gO [] [some 2] rfl ?_
      refine ev_inV 1 k_HA_25 h_SD_n rfl rfl rfl rfl rfl ⟨by decide, by decide⟩ rfl ?_
      refine ev_gO [] [] rfl ?_
      refine ev_retl rfl ?_
      refine ev_g0 rfl ?_
      refine ev_inV 4 k_HA_29 h_HA_makeRow rfl rfl rfl rfl rfl ⟨by decide, by decide⟩ rfl ?_
      refine ev_g0 rfl ?_
      refine ev_bO rfl rfl (fun h_1 => ?_) (fun h_1 => ?_)
      · skip
        refine ev_g0 rfl ?_
        refine ev_reti rfl ?_
        refine ev_g0 rfl ?_
        refine ev_reti rfl ?_
        refine ct_of h_MM_makes rfl rfl rfl ?_
        refine ev_gO [] [some 2] rfl ?_
        refine ev_inV 1 k_MM_348 h_MM_makesRow rfl rfl rfl rfl rfl ⟨by decide, by decide⟩ rfl ?_
        refine ev_g0 rfl ?_
        refine ev_inV 1 k_MM_277 h_MM_number rfl rfl rfl rfl rfl ⟨by decide, by decide⟩ rfl ?_
        refine ev_gO [] [] rfl ?_
        refine ev_retl rfl ?_
        refine ev_gO [true] [] rfl ?_
        refine ev_inV 1 k_MM_301 h_MM_fails rfl rfl rfl rfl rfl ⟨by decide, by decide⟩ rfl ?_
        refine ev_g0 rfl ?_
        refine ev_ret rfl ?_
        refine ev_g0 rfl ?_
        refine ev_ret rfl ?_
        refine ev_g0 rfl ?_
        refine ev_ret rfl ?_
        exact ⟨rfl, xj, xd, xf, xo, xi, xn, nI 9, rfl, bdd, lf_O, lf_O, hC, hM⟩
      · skip
        refine ev_g0 rfl ?_
        refine ev_inV 1 k_HA_68 h_SO_hasRoomFor rfl rfl rfl rfl rfl ⟨by decide, by decide⟩ rfl ?_
        refine ev_gO [false] [] rfl ?_
        refine ev_retz rfl (by first | decide | exact zb_01 _) ?_
        refine ev_gO [true, false] [] rfl ?_
        refine ev_reti rfl ?_
        refine ev_g0 rfl ?_
        refine ev_reti rfl ?_
        refine ct_of h_MM_makes rfl rfl rfl ?_
        refine ev_gO [] [some 2] rfl ?_
        refine ev_inV 1 k_MM_348 h_MM_makesRow rfl rfl rfl rfl rfl ⟨by decide, by decide⟩ rfl ?_
        refine ev_g0 rfl ?_
        refine ev_inV 1 k_MM_277 h_MM_number rfl rfl rfl rfl rfl ⟨by decide, by decide⟩ rfl ?_
        refine ev_gO [] [] rfl ?_
        refine ev_retl rfl ?_
        refine ev_gO [false, true, false] [] rfl ?_
        refine ev_inV 1 k_MM_301 h_MM_fails rfl rfl rfl rfl rfl ⟨by decide, by decide⟩ rfl ?_
        refine ev_g0 rfl ?_
        refine ev_ret rfl ?_
        refine ev_g0 rfl ?_
        refine ev_ret rfl ?_
        refine ev_g0 rfl ?_
        refine ev_ret rfl ?_
        exact ⟨rfl, xj, xd, xf, xo, xi, xn, nI 5, rfl, bdd, lf_O, lf_O, hC, hM⟩
  · skip
    have hfull : xn 2 0 0 = 160 := by omega
    refine ct_of h_HA_perform rfl rfl rfl ?_
    refine ev_gO [] [some 2] rfl ?_
    refine ev_inV 1 k_HA_25 h_SD_n rfl rfl rfl rfl rfl ⟨by decide, by decide⟩ rfl ?_
    refine ev_gO [] [] rfl ?_
    refine ev_retl rfl ?_
    refine ev_g0 rfl ?_
    refine ev_inV 4 k_HA_29 h_HA_makeRow rfl rfl rfl rfl rfl ⟨by decide, by decide⟩ rfl ?_
    refine ev_g0 rfl ?_
    refine ev_bO rfl rfl (fun h_2 => ?_) (fun h_2 => ?_)
    · skip
      refine ev_g0 rfl ?_
      refine ev_reti rfl ?_
      refine ev_g0 rfl ?_
      refine ev_reti rfl ?_
      refine ct_of h_MM_makes rfl rfl rfl ?_
      refine ev_gO [] [some 2] rfl ?_
      refine ev_inV 1 k_MM_348 h_MM_makesRow rfl rfl rfl rfl rfl ⟨by decide, by decide⟩ rfl ?_
      refine ev_g0 rfl ?_
      refine ev_inV 1 k_MM_277 h_MM_number rfl rfl rfl rfl rfl ⟨by decide, by decide⟩ rfl ?_
      refine ev_gO [] [] rfl ?_
      refine ev_retl rfl ?_
      refine ev_gO [true] [] rfl ?_
      refine ev_inV 1 k_MM_301 h_MM_fails rfl rfl rfl rfl rfl ⟨by decide, by decide⟩ rfl ?_
      refine ev_g0 rfl ?_
      refine ev_ret rfl ?_
      refine ev_g0 rfl ?_
      refine ev_ret rfl ?_
      refine ev_g0 rfl ?_
      refine ev_ret rfl ?_
      exact ⟨rfl, xj, xd, xf, xo, xi, xn, nI 9, rfl, bdd, lf_O, lf_O, hC, hM⟩
    · skip
      refine ev_g0 rfl ?_
      refine ev_inV 1 k_HA_68 h_SO_hasRoomFor rfl rfl rfl rfl rfl ⟨by decide, by decide⟩ rfl ?_
      refine ev_gO [true] [] rfl ?_
      refine ev_retz rfl (by first | decide | exact zb_01 _) ?_
      refine ev_gO [false] [] rfl ?_
      refine ev_reti rfl ?_
      refine ev_g0 rfl ?_
      refine ev_reti rfl ?_
      refine ct_of h_MM_makes rfl rfl rfl ?_
      refine ev_gO [] [some 2] rfl ?_
      refine ev_inV 1 k_MM_348 h_MM_makesRow rfl rfl rfl rfl rfl ⟨by decide, by decide⟩ rfl ?_
      refine ev_g0 rfl ?_
      refine ev_inV 1 k_MM_277 h_MM_number rfl rfl rfl rfl rfl ⟨by decide, by decide⟩ rfl ?_
      refine ev_gO [] [] rfl ?_
      refine ev_retl rfl ?_
      refine ev_gO [false, false] [] rfl ?_
      refine ev_inV 1 k_MM_301 h_MM_fails rfl rfl rfl rfl rfl ⟨by decide, by decide⟩ rfl ?_
      refine ev_g0 rfl ?_
      refine ev_ret rfl ?_
      refine ev_g0 rfl ?_
      refine ev_ret rfl ?_
      refine ev_g0 rfl ?_
      refine ev_ret rfl ?_
      exact ⟨rfl, xj, xd, xf, xo, xi, xn, nI 9, rfl, bdd, lf_O, lf_O, hC, hM⟩
theorem A15 {ci : Nat → Nat → Nat → Int32} {cn : Nat → Nat → Nat → Nat} {co : Nat → Option Nat} {xj : Nat → Nat → Nat → Int64} {xd : Nat → Nat → Nat → UInt64} {xf : Nat → Nat → Nat → UInt32} {xo : Nat → Nat → Nat → Option Nat} {xi : Nat → Nat → Nat → Int32} {xn : Nat → Nat → Nat → Nat} {K : Nat → Nat} {I : Nat → Nat → Int32} {J : Nat → Nat → Int64} {F : Nat → Nat → UInt32} {D : Nat → Nat → UInt64} {R : Nat → Nat → Option Nat} {nx sl : Nat} {Km : Nat → Nat} {Im : Nat → Nat → Int32} {Jm : Nat → Nat → Int64} {Fm : Nat → Nat → UInt32} {Dm : Nat → Nat → UInt64} {Rm : Nat → Nat → Option Nat} {nxm slm : Nat} (hC : RC ci cn co xj xd xf xo xi xn I J F D R nx sl) (hM : RM ci cn co xj xd xf xo xi xn Im Jm Dm) {t a b c : Nat} {go : Int32} (ht : t < 3) (ha : a < 8) (hb : b < 5) (hc : c < 8) (x1 : Im 6 39 = nI t) (x2 : Im 6 40 = nI a) (x3 : Im 6 41 = nI b) (x4 : Im 6 42 = nI c) (x5 : Im 6 43 = nI 0) (x6 : Im 6 44 = go) : Ct Y_HA_perform [vr 1 55, vr 8 (32 + 7 * t), vi (nI 15), vi (nI a), vi (nI b), vi (nI c)] (K, I, J, F, D, R, nx, sl) (fun r μ1 => Ct Y_MM_makes [vr 11 6, vi (nI 15)] (Km, Im, Jm, Fm, Dm, Rm, nxm, slm) (fun r2 μ2 => r2 = none ∧ QA ci cn co go r μ1 μ2)) := by
  have ym := rc_imad hC
  by_cases hroom : xn 2 0 0 < 160
  · skip
    rcases ixc (xj 0 t c) 13 with ⟨j, hj, hi⟩ | hi
    · skip
      obtain ⟨xa, K1, I1, J1, F1, D1, R1, n1, s1, K2, I2, J2, F2, D2, R2, n2, s2, d1, d2, hC1, hM1, ⟨y1, y2, y3, y4, y5, y6⟩, hxa⟩ := MK (K := K) (Km := Km) (Fm := Fm) (Rm := Rm) (nxm := nxm) (slm := slm) (s := 8 + b) (l := j) hC hM hroom (by omega)
      rw [x1] at y1
      rw [x2] at y2
      rw [x3] at y3
      rw [x4] at y4
      rw [x5] at y5
      rw [x6] at y6
      refine ct_of h_HA_perform rfl rfl rfl ?_
      refine ev_gO [] [some 3] rfl ?_
      refine ev_inV 1 k_HA_25 h_SD_n rfl rfl rfl rfl rfl ⟨by decide, by decide⟩ rfl ?_
      refine ev_gO [] [] rfl ?_
      refine ev_retl rfl ?_
      refine ev_g0 rfl ?_
      refine ev_inV 4 k_HA_29 h_HA_makeRow rfl rfl rfl rfl rfl ⟨by decide, by decide⟩ rfl ?_
      refine ev_gO [false] [] rfl ?_
      refine ev_inV 1 k_HA_68 h_SO_hasRoomFor rfl rfl rfl rfl rfl ⟨by decide, by decide⟩ rfl ?_
      refine ev_gO [false] [] rfl ?_
      refine ev_retz rfl (by first | decide | exact zb_01 _) ?_
      refine ev_gO [true, true] [] rfl ?_
      refine ev_top2 (a2 := vi (nI j)) (b2 := vi (nI (8 + b))) lf_O lf_O ?_
      refine ev_kV 2 k_HA_73 rfl d1 rfl ⟨by decide, by decide⟩ rfl ?_
      refine ev_g0 rfl ?_
      refine ev_inV 2 k_HA_21 h_SD_setT rfl rfl rfl rfl rfl ⟨by decide, by decide⟩ rfl ?_
      refine ev_gO [] [] rfl ?_
      refine ev_ret rfl ?_
      refine ev_g0 rfl ?_
      refine ev_reti rfl ?_
      refine ev_g0 rfl ?_
      refine ev_reti rfl ?_
      refine ct_of h_MM_makes rfl rfl rfl ?_
      refine ev_gO [] [some 3] rfl ?_
      refine ev_inV 1 k_MM_348 h_MM_makesRow rfl rfl rfl rfl rfl ⟨by decide, by decide⟩ rfl ?_
      refine ev_g0 rfl ?_
      refine ev_inV 1 k_MM_277 h_MM_number rfl rfl rfl rfl rfl ⟨by decide, by decide⟩ rfl ?_
      refine ev_gO [] [] rfl ?_
      refine ev_retl rfl ?_
      refine ev_gO [false, true, true] [] rfl ?_
      refine ev_top2 (a2 := vi (nI j)) (b2 := vi (nI (8 + b))) lf_O lf_O ?_
      refine ev_kV 2 k_MM_332 rfl d2 rfl ⟨by decide, by decide⟩ rfl ?_
      refine ev_g0 rfl ?_
      refine ev_inV 2 k_MM_336 h_MM_keep rfl rfl rfl rfl rfl ⟨by decide, by decide⟩ rfl ?_
      refine ev_gO [] [] rfl ?_
      refine ev_ret rfl ?_
      refine ev_g0 rfl ?_
      refine ev_ret rfl ?_
      refine ev_g0 rfl ?_
      refine ev_ret rfl ?_
      exact ⟨rfl, _, _, _, _, _, _, nI 0, rfl, bdd, lf_O, lf_O, CU_hol (v := some (xn 2 0 0)) hC1 ht ha (fun q h => by cases h; rw [mkn_2]; omega) lf_O lf_O, MU_hol hM1 ht ha lf_O lf_O (fun i hi => (rc_isor hC1 hi).2.2.1)⟩
    · skip
      refine ct_of h_HA_perform rfl rfl rfl ?_
      refine ev_gO [] [some 3] rfl ?_
      refine ev_inV 1 k_HA_25 h_SD_n rfl rfl rfl rfl rfl ⟨by decide, by decide⟩ rfl ?_
      refine ev_gO [] [] rfl ?_
      refine ev_retl rfl ?_
      refine ev_g0 rfl ?_
      refine ev_inV 4 k_HA_29 h_HA_makeRow rfl rfl rfl rfl rfl ⟨by decide, by decide⟩ rfl ?_
      refine ev_g0 rfl ?_
      refine ev_bO rfl rfl (fun h_1 => ?_) (fun h_1 => ?_)
      · skip
        refine ev_g0 rfl ?_
        refine ev_reti rfl ?_
        refine ev_g0 rfl ?_
        refine ev_reti rfl ?_
        refine ct_of h_MM_makes rfl rfl rfl ?_
        refine ev_gO [] [some 3] rfl ?_
        refine ev_inV 1 k_MM_348 h_MM_makesRow rfl rfl rfl rfl rfl ⟨by decide, by decide⟩ rfl ?_
        refine ev_g0 rfl ?_
        refine ev_inV 1 k_MM_277 h_MM_number rfl rfl rfl rfl rfl ⟨by decide, by decide⟩ rfl ?_
        refine ev_gO [] [] rfl ?_
        refine ev_retl rfl ?_
        refine ev_gO [true] [] rfl ?_
        refine ev_inV 1 k_MM_301 h_MM_fails rfl rfl rfl rfl rfl ⟨by decide, by decide⟩ rfl ?_
        refine ev_g0 rfl ?_
        refine ev_ret rfl ?_
        refine ev_g0 rfl ?_
        refine ev_ret rfl ?_
        refine ev_g0 rfl ?_
        refine ev_ret rfl ?_
        exact ⟨rfl, xj, xd, xf, xo, xi, xn, nI 9, rfl, bdd, lf_O, lf_O, hC, hM⟩
      · skip
        refine ev_g0 rfl ?_
        refine ev_inV 1 k_HA_68 h_SO_hasRoomFor rfl rfl rfl rfl rfl ⟨by decide, by decide⟩ rfl ?_
        refine ev_gO [false] [] rfl ?_
        refine ev_retz rfl (by first | decide | exact zb_01 _) ?_
        refine ev_gO [true, false] [] rfl ?_
        refine ev_reti rfl ?_
        refine ev_g0 rfl ?_
        refine ev_reti rfl ?_
        refine ct_of h_MM_makes rfl rfl rfl ?_
        refine ev_gO [] [some 3] rfl ?_
        refine ev_inV 1 k_MM_348 h_MM_makesRow rfl rfl rfl rfl rfl ⟨by decide, by decide⟩ rfl ?_
        refine ev_g0 rfl ?_
        refine ev_inV 1 k_MM_277 h_MM_number rfl rfl rfl rfl rfl ⟨by decide, by decide⟩ rfl ?_
        refine ev_gO [] [] rfl ?_
        refine ev_retl rfl ?_
        refine ev_gO [false, true, false] [] rfl ?_
        refine ev_inV 1 k_MM_301 h_MM_fails rfl rfl rfl rfl rfl ⟨by decide, by decide⟩ rfl ?_
        refine ev_g0 rfl ?_
        refine ev_ret rfl ?_
        refine ev_g0 rfl ?_
        refine ev_ret rfl ?_
        refine ev_g0 rfl ?_
        refine ev_ret rfl ?_
        exact ⟨rfl, xj, xd, xf, xo, xi, xn, nI 5, rfl, bdd, lf_O, lf_O, hC, hM⟩
  · skip
    have hfull : xn 2 0 0 = 160 := by omega
    refine ct_of h_HA_perform rfl rfl rfl ?_
    refine ev_gO [] [some 3] rfl ?_
    refine ev_inV 1 k_HA_25 h_SD_n rfl rfl rfl rfl rfl ⟨by decide, by decide⟩ rfl ?_
    refine ev_gO [] [] rfl ?_
    refine ev_retl rfl ?_
    refine ev_g0 rfl ?_
    refine ev_inV 4 k_HA_29 h_HA_makeRow rfl rfl rfl rfl rfl ⟨by decide, by decide⟩ rfl ?_
    refine ev_g0 rfl ?_
    refine ev_bO rfl rfl (fun h_2 => ?_) (fun h_2 => ?_)
    · skip
      refine ev_g0 rfl ?_
      refine ev_reti rfl ?_
      refine ev_g0 rfl ?_
      refine ev_reti rfl ?_
      refine ct_of h_MM_makes rfl rfl rfl ?_
      refine ev_gO [] [some 3] rfl ?_
      refine ev_inV 1 k_MM_348 h_MM_makesRow rfl rfl rfl rfl rfl ⟨by decide, by decide⟩ rfl ?_
      refine ev_g0 rfl ?_
      refine ev_inV 1 k_MM_277 h_MM_number rfl rfl rfl rfl rfl ⟨by decide, by decide⟩ rfl ?_
      refine ev_gO [] [] rfl ?_
      refine ev_retl rfl ?_
      refine ev_gO [true] [] rfl ?_
      refine ev_inV 1 k_MM_301 h_MM_fails rfl rfl rfl rfl rfl ⟨by decide, by decide⟩ rfl ?_
      refine ev_g0 rfl ?_
      refine ev_ret rfl ?_
      refine ev_g0 rfl ?_
      refine ev_ret rfl ?_
      refine ev_g0 rfl ?_
      refine ev_ret rfl ?_
      exact ⟨rfl, xj, xd, xf, xo, xi, xn, nI 9, rfl, bdd, lf_O, lf_O, hC, hM⟩
    · skip
      refine ev_g0 rfl ?_
      refine ev_inV 1 k_HA_68 h_SO_hasRoomFor rfl rfl rfl rfl rfl ⟨by decide, by decide⟩ rfl ?_
      refine ev_gO [true] [] rfl ?_
      refine ev_retz rfl (by first | decide | exact zb_01 _) ?_
      refine ev_gO [false] [] rfl ?_
      refine ev_reti rfl ?_
      refine ev_g0 rfl ?_
      refine ev_reti rfl ?_
      refine ct_of h_MM_makes rfl rfl rfl ?_
      refine ev_gO [] [some 3] rfl ?_
      refine ev_inV 1 k_MM_348 h_MM_makesRow rfl rfl rfl rfl rfl ⟨by decide, by decide⟩ rfl ?_
      refine ev_g0 rfl ?_
      refine ev_inV 1 k_MM_277 h_MM_number rfl rfl rfl rfl rfl ⟨by decide, by decide⟩ rfl ?_
      refine ev_gO [] [] rfl ?_
      refine ev_retl rfl ?_
      refine ev_gO [false, false] [] rfl ?_
      refine ev_inV 1 k_MM_301 h_MM_fails rfl rfl rfl rfl rfl ⟨by decide, by decide⟩ rfl ?_
      refine ev_g0 rfl ?_
      refine ev_ret rfl ?_
      refine ev_g0 rfl ?_
      refine ev_ret rfl ?_
      refine ev_g0 rfl ?_
      refine ev_ret rfl ?_
      exact ⟨rfl, xj, xd, xf, xo, xi, xn, nI 9, rfl, bdd, lf_O, lf_O, hC, hM⟩
theorem A18 {ci : Nat → Nat → Nat → Int32} {cn : Nat → Nat → Nat → Nat} {co : Nat → Option Nat} {xj : Nat → Nat → Nat → Int64} {xd : Nat → Nat → Nat → UInt64} {xf : Nat → Nat → Nat → UInt32} {xo : Nat → Nat → Nat → Option Nat} {xi : Nat → Nat → Nat → Int32} {xn : Nat → Nat → Nat → Nat} {K : Nat → Nat} {I : Nat → Nat → Int32} {J : Nat → Nat → Int64} {F : Nat → Nat → UInt32} {D : Nat → Nat → UInt64} {R : Nat → Nat → Option Nat} {nx sl : Nat} {Km : Nat → Nat} {Im : Nat → Nat → Int32} {Jm : Nat → Nat → Int64} {Fm : Nat → Nat → UInt32} {Dm : Nat → Nat → UInt64} {Rm : Nat → Nat → Option Nat} {nxm slm : Nat} (hC : RC ci cn co xj xd xf xo xi xn I J F D R nx sl) (hM : RM ci cn co xj xd xf xo xi xn Im Jm Dm) {t a b : Nat} {c : Int32} {go : Int32} (ht : t < 3) (ha : a < 8) (hb : b < 5) (x1 : Im 6 39 = nI t) (x2 : Im 6 40 = nI a) (x3 : Im 6 41 = nI b) (x4 : Im 6 42 = c) (x5 : Im 6 43 = nI 0) (x6 : Im 6 44 = go) : Ct Y_HA_perform [vr 1 55, vr 8 (32 + 7 * t), vi (nI 18), vi (nI a), vi (nI b), vi c] (K, I, J, F, D, R, nx, sl) (fun r μ1 => Ct Y_MM_makes [vr 11 6, vi (nI 18)] (Km, Im, Jm, Fm, Dm, Rm, nxm, slm) (fun r2 μ2 => r2 = none ∧ QA ci cn co go r μ1 μ2)) := by
  have ym := rc_imad hC
  by_cases hroom : xn 2 0 0 < 160
  · skip
    obtain ⟨xa, K1, I1, J1, F1, D1, R1, n1, s1, K2, I2, J2, F2, D2, R2, n2, s2, d1, d2, hC1, hM1, ⟨y1, y2, y3, y4, y5, y6⟩, hxa⟩ := MK (K := K) (Km := Km) (Fm := Fm) (Rm := Rm) (nxm := nxm) (slm := slm) (s := 16 + b) (l := 0) hC hM hroom (by omega)
    rw [x1] at y1
    rw [x2] at y2
    rw [x3] at y3
    rw [x4] at y4
    rw [x5] at y5
    rw [x6] at y6
    refine ct_of h_HA_perform rfl rfl rfl ?_
    refine ev_gO [] [some 6] rfl ?_
    refine ev_inV 3 k_HA_37 h_HA_makeObject rfl rfl rfl rfl rfl ⟨by decide, by decide⟩ rfl ?_
    refine ev_g0 rfl ?_
    refine ev_inV 1 k_HA_68 h_SO_hasRoomFor rfl rfl rfl rfl rfl ⟨by decide, by decide⟩ rfl ?_
    refine ev_gO [false] [] rfl ?_
    refine ev_retz rfl (by first | decide | exact zb_01 _) ?_
    refine ev_gO [true] [] rfl ?_
    refine ev_top2 (a2 := vi (nI 0)) (b2 := vi (nI (16 + b))) lf_O lf_O ?_
    refine ev_kV 2 k_HA_73 rfl d1 rfl ⟨by decide, by decide⟩ rfl ?_
    refine ev_g0 rfl ?_
    refine ev_inV 2 k_HA_21 h_SD_setT rfl rfl rfl rfl rfl ⟨by decide, by decide⟩ rfl ?_
    refine ev_gO [] [] rfl ?_
    refine ev_ret rfl ?_
    refine ev_g0 rfl ?_
    refine ev_reti rfl ?_
    refine ev_g0 rfl ?_
    refine ev_reti rfl ?_
    refine ct_of h_MM_makes rfl rfl rfl ?_
    refine ev_gO [true] [none] rfl ?_
    refine ev_top2 (a2 := vi (nI 0)) (b2 := vi (nI (16 + b))) lf_O lf_O ?_
    refine ev_kV 2 k_MM_332 rfl d2 rfl ⟨by decide, by decide⟩ rfl ?_
    refine ev_g0 rfl ?_
    refine ev_inV 2 k_MM_336 h_MM_keep rfl rfl rfl rfl rfl ⟨by decide, by decide⟩ rfl ?_
    refine ev_gO [] [] rfl ?_
    refine ev_ret rfl ?_
    refine ev_g0 rfl ?_
    refine ev_ret rfl ?_
    exact ⟨rfl, _, _, _, _, _, _, nI 0, rfl, bdd, lf_O, lf_O, CU_hol (v := some (xn 2 0 0)) hC1 ht ha (fun q h => by cases h; rw [mkn_2]; omega) lf_O lf_O, MU_hol hM1 ht ha lf_O lf_O (fun i hi => (rc_isor hC1 hi).2.2.1)⟩
  · skip
    have hfull : xn 2 0 0 = 160 := by omega
    refine ct_of h_HA_perform rfl rfl rfl ?_
    refine ev_gO [] [some 6] rfl ?_
    refine ev_inV 3 k_HA_37 h_HA_makeObject rfl rfl rfl rfl rfl ⟨by decide, by decide⟩ rfl ?_
    refine ev_g0 rfl ?_
    refine ev_inV 1 k_HA_68 h_SO_hasRoomFor rfl rfl rfl rfl rfl ⟨by decide, by decide⟩ rfl ?_
    refine ev_gO [true] [] rfl ?_
    refine ev_retz rfl (by first | decide | exact zb_01 _) ?_
    refine ev_gO [false] [] rfl ?_
    refine ev_reti rfl ?_
    refine ev_g0 rfl ?_
    refine ev_reti rfl ?_
    refine ct_of h_MM_makes rfl rfl rfl ?_
    refine ev_gO [false] [none] rfl ?_
    refine ev_inV 1 k_MM_301 h_MM_fails rfl rfl rfl rfl rfl ⟨by decide, by decide⟩ rfl ?_
    refine ev_g0 rfl ?_
    refine ev_ret rfl ?_
    refine ev_g0 rfl ?_
    refine ev_ret rfl ?_
    exact ⟨rfl, xj, xd, xf, xo, xi, xn, nI 9, rfl, bdd, lf_O, lf_O, hC, hM⟩
