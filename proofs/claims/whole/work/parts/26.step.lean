def QF (ci : Nat → Nat → Nat → Int32) (cn : Nat → Nat → Nat → Nat) (co : Nat → Option Nat) (xj : Nat → Nat → Nat → Int64) (xd : Nat → Nat → Nat → UInt64) (xf : Nat → Nat → Nat → UInt32) (xo : Nat → Nat → Nat → Option Nat) (xi : Nat → Nat → Nat → Int32) (xn : Nat → Nat → Nat → Nat) (t : Nat) (f : Int32) (n : Nat) (r : Option mm_V) (μ1 : mm_M) : Prop := (tk ci t f n cn = none ∧ r = some (vi (-(nI 10) - f)) ∧ RC ci (u3 cn 0 t 0 0) co xj xd xf xo xi xn μ1.2.1 μ1.2.2.1 μ1.2.2.2.1 μ1.2.2.2.2.1 μ1.2.2.2.2.2.1 μ1.2.2.2.2.2.2.1 μ1.2.2.2.2.2.2.2) ∨ (∃ d cn1, tk ci t f n cn = some (d, cn1) ∧ ((pp t (d + 1) cn1 0 t 0 = 0 ∧ r = some (vi (nI 0))) ∨ (0 < pp t (d + 1) cn1 0 t 0 ∧ r = some (vi (nI 1)))) ∧ RC ci (pp t (d + 1) cn1) co (u3 xj 0 t 7 f.toInt64) xd xf xo xi xn μ1.2.1 μ1.2.2.1 μ1.2.2.2.1 μ1.2.2.2.2.1 μ1.2.2.2.2.2.1 μ1.2.2.2.2.2.2.1 μ1.2.2.2.2.2.2.2)
def QT (ci : Nat → Nat → Nat → Int32) (cn : Nat → Nat → Nat → Nat) (co : Nat → Option Nat) (xj : Nat → Nat → Nat → Int64) (xd : Nat → Nat → Nat → UInt64) (xf : Nat → Nat → Nat → UInt32) (xo : Nat → Nat → Nat → Option Nat) (xi : Nat → Nat → Nat → Int32) (xn : Nat → Nat → Nat → Nat) (t : Nat) (f : Int32) (n : Nat) (r : Option mm_V) (μ1 : mm_M) : Prop := (tk ci t f n cn = none ∧ r = some (vi (nI 0)) ∧ RM ci (u3 cn 0 t 0 0) (u1 co t none) xj xd xf (rlo xo t (xn 2 0 0)) (rli xo xi t (xn 2 0 0)) xn μ1.2.1 μ1.2.2.1 μ1.2.2.2.2.1) ∨ (∃ d cn1, tk ci t f n cn = some (d, cn1) ∧ r = some (vi (nI 1)) ∧ RM ci cn1 co (u3 xj 0 t 7 f.toInt64) xd xf xo xi xn μ1.2.1 μ1.2.2.1 μ1.2.2.2.2.1)
theorem QGO_z {ci : Nat → Nat → Nat → Int32} {cn : Nat → Nat → Nat → Nat} {co : Nat → Option Nat} {xj : Nat → Nat → Nat → Int64} {xd : Nat → Nat → Nat → UInt64} {xf : Nat → Nat → Nat → UInt32} {xo : Nat → Nat → Nat → Option Nat} {xi : Nat → Nat → Nat → Int32} {xn : Nat → Nat → Nat → Nat} {t n : Nat} {r : Option mm_V} {μ1 : mm_M} (h0 : pp t n cn 0 t 0 = 0) (h : QGO ci cn co xj xd xf xo xi xn t n r μ1) : RC ci (pp t n cn) co xj xd xf xo xi xn μ1.2.1 μ1.2.2.1 μ1.2.2.2.1 μ1.2.2.2.2.1 μ1.2.2.2.2.2.1 μ1.2.2.2.2.2.2.1 μ1.2.2.2.2.2.2.2 ∧ r = some vn := by
  obtain ⟨h1, ⟨-, h2⟩ | ⟨d, h2, -⟩⟩ := h
  · exact ⟨h1, h2⟩
  · omega
theorem QGO_s {ci : Nat → Nat → Nat → Int32} {cn : Nat → Nat → Nat → Nat} {co : Nat → Option Nat} {xj : Nat → Nat → Nat → Int64} {xd : Nat → Nat → Nat → UInt64} {xf : Nat → Nat → Nat → UInt32} {xo : Nat → Nat → Nat → Option Nat} {xi : Nat → Nat → Nat → Int32} {xn : Nat → Nat → Nat → Nat} {t n : Nat} {r : Option mm_V} {μ1 : mm_M} (h0 : ¬ pp t n cn 0 t 0 = 0) (h : QGO ci cn co xj xd xf xo xi xn t n r μ1) : RC ci (pp t n cn) co xj xd xf xo xi xn μ1.2.1 μ1.2.2.1 μ1.2.2.2.1 μ1.2.2.2.2.1 μ1.2.2.2.2.2.1 μ1.2.2.2.2.2.2.1 μ1.2.2.2.2.2.2.2 ∧ ∃ d, pp t n cn 0 t 0 = d + 1 ∧ pp t n cn 2 t d < pp t n cn 3 (pp t n cn 1 t d) 0 ∧ r = some (vr 5 (14 + 3 * pp t n cn 1 t d)) := by
  obtain ⟨h1, ⟨h2, -⟩ | ⟨d, h2, h3, h4⟩⟩ := h
  · exact absurd h2 h0
  · exact ⟨h1, d, h2, h4, h3⟩
theorem ev_top2 {Y : mm_Y} {μ0 : mm_M} {rem : List mm_E} {L : mm_L} {a b a2 b2 : mm_V} {st : List mm_V} {μ : mm_M} {Post : Option mm_V → mm_M → Prop} (ha : a = a2) (hb : b = b2) (h : Ev Y μ0 rem L (a2 :: b2 :: st) μ Post) : Ev Y μ0 rem L (a :: b :: st) μ Post := by subst ha; subst hb; exact h
theorem tk_s (ci : Nat → Nat → Nat → Int32) (t : Nat) (f : Int32) (n : Nat) (cn : Nat → Nat → Nat → Nat) : tk ci t f (n + 1) cn = match hs ci cn (cn 1 t n) (cn 2 t n) f (cn 4 (cn 1 t n) 0) 0 with
    | some k => some (n, u3 cn 2 t n (cn 8 (cn 1 t n) k))
    | none => tk ci t f n (u3 cn 0 t 0 n) := rfl
theorem mem46 {a b c d e g : Nat × mm_V} : ∀ q ∈ [a, b, c, d], q ∈ [a, b, c, d, e, g] := fun q hq => List.mem_append_left [e, g] hq
theorem mem36 {a b c d e g : Nat × mm_V} : ∀ q ∈ [a, b, c], q ∈ [a, b, c, d, e, g] := fun q hq => List.mem_append_left [d, e, g] hq
theorem fl_ne {n : Nat} (h : n < 10000) : ¬ nI n = -(nI 1) := fun e => (e_nm h).mp e
theorem ev_gK4 {Y : mm_Y} {μ0 : mm_M} {rem : List mm_E} {L : mm_L} {st : List mm_V} {μ : mm_M} {Post : Option mm_V → mm_M → Prop} (bs : List Bool) (os : List (Option Nat)) {e2 : mm_E} {rem2 : List mm_E} {L2 : mm_L} {st2 : List mm_V} {μ2 : mm_M} {P2 : Prop} (h : mm_go 5000 (mm_co Y) rem L st μ bs os True = some (e2 :: rem2, L2, st2, μ2, P2)) (k : Ev Y μ0 (e2 :: rem2) L2 st2 μ2 Post) (hp : P2 := by (repeat' apply And.intro) <;> first | exact trivial | assumption | rfl | decide | omega | (simp (disch := first | assumption | omega | decide) only [i_add, i_mul, n_cl, nI_and7, nI_and3, v_in, i_eq, i_lt, i_le, i_eq0, i_lt0, i_ge0, i_gt0, i_le0, lg_cmp_eq, lg_cmp_ge, lg_cmp_gt, lg_cmp_le, lg_cmp_lt, zb_e0, zb_n0, Classical.not_not, up_ne, Nat.zero_add, Nat.add_zero, rc_num hC, rc_hol hC, rc_who hC, rc_nn hC, rc_dbl hC, rc_flt hC, rc_rea hC, rc_xx hC, rc_ff hC, rc_par hC, rc_nxt hC, rc_lin hC, rc_thg hC, rc_prg hC, rc_str hC, rc_pix hC, rc_six hC, rc_own hC, rc_tim hC, rc_mad hC, rc_psz hC, rc_phn hC, rc_pop hC, rc_paa hC, rc_pbb hC, rc_pcc hC, rc_hfr hC, rc_hto hC, rc_hfl hC, rc_hpl hC, rc_dep hC, rc_pla hC, rc_don hC, rc_fai hC, rc_fno hC, rc_lat hC, rc_lpr hC, rc_lpl hC, rc_wan hC, rc_cal hC, cl_ne, tR_s, tR_n, eI_s, eI_n, e_nm, e_mm, lN_i, l_lt, l_le, l_eq, l_z, lN_t, nI_tl, n_s1, i_sub, eLi, eL_s, eL_n, up_eq, mkz, i_l1, i_l2, i_l3, n_ti, i_tl2, e_mn, Nat.add_sub_cancel, mx0, s11, sa1, if1, ite_self, fl_ne, u3_s, *] <;> first | assumption | omega | decide)) : Ev Y μ0 rem L st μ Post := ev_go bs os h hp k
theorem ev_bK4 {Y : mm_Y} {μ0 : mm_M} {rem : List mm_E} {L : mm_L} {st : List mm_V} {μ : mm_M} {Post : Option mm_V → mm_M → Prop} {e2 e3 : mm_E} {rem2 rem3 : List mm_E} {L2 L3 : mm_L} {st2 st3 : List mm_V} {μ2 μ3 : mm_M} {c c2 d d2 : Prop} (hT : mm_go 1 (mm_co Y) rem L st μ [true] [] True = some (e2 :: rem2, L2, st2, μ2, True ∧ c)) (hF : mm_go 1 (mm_co Y) rem L st μ [false] [] True = some (e3 :: rem3, L3, st3, μ3, True ∧ c2)) (kt : d → Ev Y μ0 (e2 :: rem2) L2 st2 μ2 Post) (kf : d2 → Ev Y μ0 (e3 :: rem3) L3 st3 μ3 Post) (hc : ¬ c → c2 := by first | exact id | exact Classical.not_not.mp) (g1 : c → d := by intro hh; (try simp (disch := first | assumption | omega | decide) only [i_add, i_mul, n_cl, nI_and7, nI_and3, v_in, i_eq, i_lt, i_le, i_eq0, i_lt0, i_ge0, i_gt0, i_le0, lg_cmp_eq, lg_cmp_ge, lg_cmp_gt, lg_cmp_le, lg_cmp_lt, zb_e0, zb_n0, Classical.not_not, up_ne, Nat.zero_add, Nat.add_zero, rc_num hC, rc_hol hC, rc_who hC, rc_nn hC, rc_dbl hC, rc_flt hC, rc_rea hC, rc_xx hC, rc_ff hC, rc_par hC, rc_nxt hC, rc_lin hC, rc_thg hC, rc_prg hC, rc_str hC, rc_pix hC, rc_six hC, rc_own hC, rc_tim hC, rc_mad hC, rc_psz hC, rc_phn hC, rc_pop hC, rc_paa hC, rc_pbb hC, rc_pcc hC, rc_hfr hC, rc_hto hC, rc_hfl hC, rc_hpl hC, rc_dep hC, rc_pla hC, rc_don hC, rc_fai hC, rc_fno hC, rc_lat hC, rc_lpr hC, rc_lpl hC, rc_wan hC, rc_cal hC, cl_ne, tR_s, tR_n, eI_s, eI_n, e_nm, e_mm, lN_i, l_lt, l_le, l_eq, l_z, lN_t, nI_tl, n_s1, i_sub, eLi, eL_s, eL_n, up_eq, mkz, i_l1, i_l2, i_l3, n_ti, i_tl2, e_mn, Nat.add_sub_cancel, mx0, s11, sa1, if1, ite_self, fl_ne, u3_s, *] at hh); exact hh) (g2 : c2 → d2 := by intro hh; (try simp (disch := first | assumption | omega | decide) only [i_add, i_mul, n_cl, nI_and7, nI_and3, v_in, i_eq, i_lt, i_le, i_eq0, i_lt0, i_ge0, i_gt0, i_le0, lg_cmp_eq, lg_cmp_ge, lg_cmp_gt, lg_cmp_le, lg_cmp_lt, zb_e0, zb_n0, Classical.not_not, up_ne, Nat.zero_add, Nat.add_zero, rc_num hC, rc_hol hC, rc_who hC, rc_nn hC, rc_dbl hC, rc_flt hC, rc_rea hC, rc_xx hC, rc_ff hC, rc_par hC, rc_nxt hC, rc_lin hC, rc_thg hC, rc_prg hC, rc_str hC, rc_pix hC, rc_six hC, rc_own hC, rc_tim hC, rc_mad hC, rc_psz hC, rc_phn hC, rc_pop hC, rc_paa hC, rc_pbb hC, rc_pcc hC, rc_hfr hC, rc_hto hC, rc_hfl hC, rc_hpl hC, rc_dep hC, rc_pla hC, rc_don hC, rc_fai hC, rc_fno hC, rc_lat hC, rc_lpr hC, rc_lpl hC, rc_wan hC, rc_cal hC, cl_ne, tR_s, tR_n, eI_s, eI_n, e_nm, e_mm, lN_i, l_lt, l_le, l_eq, l_z, lN_t, nI_tl, n_s1, i_sub, eLi, eL_s, eL_n, up_eq, mkz, i_l1, i_l2, i_l3, n_ti, i_tl2, e_mn, Nat.add_sub_cancel, mx0, s11, sa1, if1, ite_self, fl_ne, u3_s, *] at hh); exact hh) : Ev Y μ0 rem L st μ Post := ev_br hT hF hc (fun h => kt (g1 h)) (fun h => kf (g2 h))
theorem lf_K4 {p : Prop} (h : p := by first | rfl | assumption | (simp (disch := first | assumption | omega | decide) only [i_add, i_mul, n_cl, nI_and7, nI_and3, v_in, i_eq, i_lt, i_le, i_eq0, i_lt0, i_ge0, i_gt0, i_le0, lg_cmp_eq, lg_cmp_ge, lg_cmp_gt, lg_cmp_le, lg_cmp_lt, zb_e0, zb_n0, Classical.not_not, up_ne, Nat.zero_add, Nat.add_zero, rc_num hC, rc_hol hC, rc_who hC, rc_nn hC, rc_dbl hC, rc_flt hC, rc_rea hC, rc_xx hC, rc_ff hC, rc_par hC, rc_nxt hC, rc_lin hC, rc_thg hC, rc_prg hC, rc_str hC, rc_pix hC, rc_six hC, rc_own hC, rc_tim hC, rc_mad hC, rc_psz hC, rc_phn hC, rc_pop hC, rc_paa hC, rc_pbb hC, rc_pcc hC, rc_hfr hC, rc_hto hC, rc_hfl hC, rc_hpl hC, rc_dep hC, rc_pla hC, rc_don hC, rc_fai hC, rc_fno hC, rc_lat hC, rc_lpr hC, rc_lpl hC, rc_wan hC, rc_cal hC, cl_ne, tR_s, tR_n, eI_s, eI_n, e_nm, e_mm, lN_i, l_lt, l_le, l_eq, l_z, lN_t, nI_tl, n_s1, i_sub, eLi, eL_s, eL_n, up_eq, mkz, i_l1, i_l2, i_l3, n_ti, i_tl2, e_mn, Nat.add_sub_cancel, mx0, s11, sa1, if1, ite_self, fl_ne, u3_s, *] <;> first | rfl | assumption | omega | decide)) : p := h
set_option maxHeartbeats 4000000 in
theorem FA_loop {ci : Nat → Nat → Nat → Int32} {co : Nat → Option Nat} {xj : Nat → Nat → Nat → Int64} {xd : Nat → Nat → Nat → UInt64} {xf : Nat → Nat → Nat → UInt32} {xo : Nat → Nat → Nat → Option Nat} {xi : Nat → Nat → Nat → Int32} {xn : Nat → Nat → Nat → Nat} {t p0 : Nat} {f : Int32} (ht : t < 3) {μ0 : mm_M} {Post : Option mm_V → mm_M → Prop} : ∀ (n k : Nat) (v : Int32) (L : mm_L) (cn : Nat → Nat → Nat → Nat) (K : Nat → Nat) (I : Nat → Nat → Int32) (J : Nat → Nat → Int64) (F : Nat → Nat → UInt32) (D : Nat → Nat → UInt64) (R : Nat → Nat → Option Nat) (nx sl : Nat), v = nI k → (∀ q ∈ [(0, vr 8 (32 + 7 * t)), (1, vr 5 p0), (2, vi f), (3, vi v)], q ∈ L) → RC ci cn co xj xd xf xo xi xn I J F D R nx sl → IC ci cn → cn 0 t 0 = n → k + n ≤ 8 → (∀ r μ1, QF ci cn co xj xd xf xo xi xn t f n r μ1 → Post r μ1) → Ev Y_MV_fail μ0 (mm_to (mm_co Y_MV_fail) 34) L [vi (nI 8), vi v] (K, I, J, F, D, R, nx, sl) Post := by
  intro n
  induction n with
  | zero =>
    intro k v L cn K I J F D R nx sl hv hL hC hI hcn hk hQ
    subst hv
    refine ev_sub hL ?_
    have hC0 : RC ci (u3 cn 0 t 0 0) co xj xd xf xo xi xn I J F D R nx sl := by rw [u3_id hcn]; exact hC
    by_cases hk8 : k = 8
    · subst hk8
      refine ev_gK4 [true] [] rfl ?_
      refine ev_reti rfl ?_
      exact hQ _ _ (Or.inl ⟨rfl, rfl, hC0⟩)
    · have hk7 : k < 8 := by omega
      refine ev_gK4 [false] [] rfl ?_
      refine ev_inV 0 k_MV_73 h_SD_latestCalled rfl rfl rfl rfl rfl ⟨by decide, by decide⟩ rfl ?_
      refine ev_gK4 [true] [] rfl ?_
      refine ev_retn rfl ?_
      refine ev_g0 rfl ?_
      refine ev_reti rfl ?_
      exact hQ _ _ (Or.inl ⟨rfl, rfl, hC0⟩)
  | succ m ih =>
    intro k v L cn K I J F D R nx sl hv hL hC hI hcn hk hQ
    subst hv
    refine ev_sub hL ?_
    have i1 := hI.2.1 t ht m (by omega)
    have i2 := hI.2.2.1 (cn 1 t m) i1.1
    rcases hh : hs ci cn (cn 1 t m) (cn 2 t m) f (cn 4 (cn 1 t m) 0) 0 with _ | j
    · have htk : tk ci t f (m + 1) cn = tk ci t f m (u3 cn 0 t 0 m) := by rw [tk_s, hh] <;> rfl
      have hph : phr cn (cn 1 t m) (hs ci cn (cn 1 t m) (cn 2 t m) f (cn 4 (cn 1 t m) 0) 0) = -(nI 1) := by rw [hh]; rfl
      clear hh
      refine ev_gK4 [false] [] rfl ?_
      refine ev_inV 0 k_MV_73 h_SD_latestCalled rfl rfl rfl rfl rfl ⟨by decide, by decide⟩ rfl ?_
      refine ev_gK4 [false, false] [some (14 + 3 * cn 1 t m)] rfl ?_
      refine ev_reta rfl ?_
      refine ev_g0 rfl ?_
      refine ev_inV 0 k_MV_31 h_SD_place rfl rfl rfl rfl rfl ⟨by decide, by decide⟩ rfl ?_
      refine ev_gK4 [false, false] [] rfl ?_
      refine ev_reti rfl ?_
      refine ev_g0 rfl ?_
      refine ev_top2 (a2 := vi f) (b2 := vi (nI (cn 2 t m))) rfl lf_K4 ?_
      refine ev_kV 2 k_MV_138 rfl (C_handling i1.1 i1.2.1 hI hC) rfl ⟨by decide, by decide⟩ rfl ?_
      refine ev_gK4 [true] [] rfl ?_
      refine ih (k + 1) _ _ (u3 cn 0 t 0 m) _ _ _ _ _ _ _ _ (i_add k 1) mem46 (CU_dep hC ht (by omega) lf_K4) (IC_dep ht hI (by omega)) u3_s (by omega) (fun r μ1 h => hQ r μ1 ?_)
      unfold QF at h ⊢
      rw [htk]
      rw [u3_u3] at h
      exact h
    · have hj := hs_lt _ _ hh
      have i5 := hI.2.2.2.2 (cn 1 t m) i1.1 j (by omega)
      have htk : tk ci t f (m + 1) cn = some (m, (u3 cn 2 t m (cn 8 (cn 1 t m) j))) := by rw [tk_s, hh] <;> rfl
      have hph : phr cn (cn 1 t m) (hs ci cn (cn 1 t m) (cn 2 t m) f (cn 4 (cn 1 t m) 0) 0) = nI (cn 8 (cn 1 t m) j) := by rw [hh]; rfl
      clear hh
      by_cases hz : pp t (m + 1) (u3 cn 2 t m (cn 8 (cn 1 t m) j)) 0 t 0 = 0
      · skip
        refine ev_gK4 [false] [] rfl ?_
        refine ev_inV 0 k_MV_73 h_SD_latestCalled rfl rfl rfl rfl rfl ⟨by decide, by decide⟩ rfl ?_
        refine ev_gK4 [false, false] [some (14 + 3 * cn 1 t m)] rfl ?_
        refine ev_reta rfl ?_
        refine ev_g0 rfl ?_
        refine ev_inV 0 k_MV_31 h_SD_place rfl rfl rfl rfl rfl ⟨by decide, by decide⟩ rfl ?_
        refine ev_gK4 [false, false] [] rfl ?_
        refine ev_reti rfl ?_
        refine ev_g0 rfl ?_
        refine ev_top2 (a2 := vi f) (b2 := vi (nI (cn 2 t m))) rfl lf_K4 ?_
        refine ev_kV 2 k_MV_138 rfl (C_handling i1.1 i1.2.1 hI hC) rfl ⟨by decide, by decide⟩ rfl ?_
        refine ev_gK4 [false] [] rfl ?_
        refine ev_inV 2 k_MV_141 h_SD_setN rfl rfl rfl rfl rfl ⟨by decide, by decide⟩ rfl ?_
        refine ev_gK4 [] [] rfl ?_
        refine ev_ret rfl ?_
        refine ev_g0 rfl ?_
        refine ev_inV 1 k_MV_69 h_SD_goTo rfl rfl rfl rfl rfl ⟨by decide, by decide⟩ rfl ?_
        refine ev_gK4 [false, false] [] rfl ?_
        refine ev_ret rfl ?_
        refine ev_g0 rfl ?_
        refine ev_qS 1 k_MV_27 rfl (C_goingOn (cn := (u3 cn 2 t m (cn 8 (cn 1 t m) j))) (n := m + 1) ht (CU_pla (CU_num (a := 7) hC ht (by decide) lf_K4 lf_K4) ht (by omega) lf_K4 lf_K4) (IC_pla ht hI hcn (by omega)) hcn) ⟨by decide, by decide⟩ rfl ?_
        intro r1 μ1 hq1
        obtain ⟨hCq, hr1⟩ := QGO_z hz hq1
        subst hr1
        refine ev_g0 rfl ?_
        refine ev_reti rfl ?_
        exact hQ _ _ (Or.inr ⟨m, _, htk, Or.inl ⟨hz, rfl⟩, hCq⟩)
      · skip
        refine ev_gK4 [false] [] rfl ?_
        refine ev_inV 0 k_MV_73 h_SD_latestCalled rfl rfl rfl rfl rfl ⟨by decide, by decide⟩ rfl ?_
        refine ev_gK4 [false, false] [some (14 + 3 * cn 1 t m)] rfl ?_
        refine ev_reta rfl ?_
        refine ev_g0 rfl ?_
        refine ev_inV 0 k_MV_31 h_SD_place rfl rfl rfl rfl rfl ⟨by decide, by decide⟩ rfl ?_
        refine ev_gK4 [false, false] [] rfl ?_
        refine ev_reti rfl ?_
        refine ev_g0 rfl ?_
        refine ev_top2 (a2 := vi f) (b2 := vi (nI (cn 2 t m))) rfl lf_K4 ?_
        refine ev_kV 2 k_MV_138 rfl (C_handling i1.1 i1.2.1 hI hC) rfl ⟨by decide, by decide⟩ rfl ?_
        refine ev_gK4 [false] [] rfl ?_
        refine ev_inV 2 k_MV_141 h_SD_setN rfl rfl rfl rfl rfl ⟨by decide, by decide⟩ rfl ?_
        refine ev_gK4 [] [] rfl ?_
        refine ev_ret rfl ?_
        refine ev_g0 rfl ?_
        refine ev_inV 1 k_MV_69 h_SD_goTo rfl rfl rfl rfl rfl ⟨by decide, by decide⟩ rfl ?_
        refine ev_gK4 [false, false] [] rfl ?_
        refine ev_ret rfl ?_
        refine ev_g0 rfl ?_
        refine ev_qS 1 k_MV_27 rfl (C_goingOn (cn := (u3 cn 2 t m (cn 8 (cn 1 t m) j))) (n := m + 1) ht (CU_pla (CU_num (a := 7) hC ht (by decide) lf_K4 lf_K4) ht (by omega) lf_K4 lf_K4) (IC_pla ht hI hcn (by omega)) hcn) ⟨by decide, by decide⟩ rfl ?_
        intro r1 μ1 hq1
        obtain ⟨hCq, d1, hz1, -, hr1⟩ := QGO_s hz hq1
        subst hr1
        refine ev_g0 rfl ?_
        refine ev_reti rfl ?_
        exact hQ _ _ (Or.inr ⟨m, _, htk, Or.inr ⟨by omega, rfl⟩, hCq⟩)
theorem ev_gL4 {Y : mm_Y} {μ0 : mm_M} {rem : List mm_E} {L : mm_L} {st : List mm_V} {μ : mm_M} {Post : Option mm_V → mm_M → Prop} (bs : List Bool) (os : List (Option Nat)) {e2 : mm_E} {rem2 : List mm_E} {L2 : mm_L} {st2 : List mm_V} {μ2 : mm_M} {P2 : Prop} (h : mm_go 5000 (mm_co Y) rem L st μ bs os True = some (e2 :: rem2, L2, st2, μ2, P2)) (k : Ev Y μ0 (e2 :: rem2) L2 st2 μ2 Post) (hp : P2 := by (repeat' apply And.intro) <;> first | exact trivial | assumption | rfl | decide | omega | (simp (disch := first | assumption | omega | decide) only [i_add, i_mul, n_cl, nI_and7, nI_and3, v_in, i_eq, i_lt, i_le, i_eq0, i_lt0, i_ge0, i_gt0, i_le0, lg_cmp_eq, lg_cmp_ge, lg_cmp_gt, lg_cmp_le, lg_cmp_lt, zb_e0, zb_n0, Classical.not_not, up_ne, Nat.zero_add, Nat.add_zero, rm_num hM, rm_mad hM, rm_own hM, rm_tim hM, rm_hol hM, rm_psz hM, rm_pop hM, rm_paa hM, rm_pbb hM, rm_pcc hM, rm_phn hM, rm_hfr hM, rm_hto hM, rm_hfl hM, rm_hpl hM, rm_isn hM, rm_dep hM, rm_cal hM, rm_pla hM, rm_don hM, rm_fai hM, rm_lat hM, rm_lpr hM, rm_lpl hM, rm_wan hM, rm_cal0 hM, rm_pla0 hM, cl_ne, tR_s, tR_n, eI_s, eI_n, e_nm, e_mm, lN_i, l_lt, l_le, l_eq, l_z, lN_t, nI_tl, n_s1, i_sub, eLi, eL_s, eL_n, up_eq, mkz, i_l1, i_l2, i_l3, n_ti, i_tl2, e_mn, Nat.add_sub_cancel, mx0, s11, sa1, if1, ite_self, fl_ne, u3_s, in_l, in_l2, *] <;> first | assumption | omega | decide)) : Ev Y μ0 rem L st μ Post := ev_go bs os h hp k
theorem ev_bL4 {Y : mm_Y} {μ0 : mm_M} {rem : List mm_E} {L : mm_L} {st : List mm_V} {μ : mm_M} {Post : Option mm_V → mm_M → Prop} {e2 e3 : mm_E} {rem2 rem3 : List mm_E} {L2 L3 : mm_L} {st2 st3 : List mm_V} {μ2 μ3 : mm_M} {c c2 d d2 : Prop} (hT : mm_go 1 (mm_co Y) rem L st μ [true] [] True = some (e2 :: rem2, L2, st2, μ2, True ∧ c)) (hF : mm_go 1 (mm_co Y) rem L st μ [false] [] True = some (e3 :: rem3, L3, st3, μ3, True ∧ c2)) (kt : d → Ev Y μ0 (e2 :: rem2) L2 st2 μ2 Post) (kf : d2 → Ev Y μ0 (e3 :: rem3) L3 st3 μ3 Post) (hc : ¬ c → c2 := by first | exact id | exact Classical.not_not.mp) (g1 : c → d := by intro hh; (try simp (disch := first | assumption | omega | decide) only [i_add, i_mul, n_cl, nI_and7, nI_and3, v_in, i_eq, i_lt, i_le, i_eq0, i_lt0, i_ge0, i_gt0, i_le0, lg_cmp_eq, lg_cmp_ge, lg_cmp_gt, lg_cmp_le, lg_cmp_lt, zb_e0, zb_n0, Classical.not_not, up_ne, Nat.zero_add, Nat.add_zero, rm_num hM, rm_mad hM, rm_own hM, rm_tim hM, rm_hol hM, rm_psz hM, rm_pop hM, rm_paa hM, rm_pbb hM, rm_pcc hM, rm_phn hM, rm_hfr hM, rm_hto hM, rm_hfl hM, rm_hpl hM, rm_isn hM, rm_dep hM, rm_cal hM, rm_pla hM, rm_don hM, rm_fai hM, rm_lat hM, rm_lpr hM, rm_lpl hM, rm_wan hM, rm_cal0 hM, rm_pla0 hM, cl_ne, tR_s, tR_n, eI_s, eI_n, e_nm, e_mm, lN_i, l_lt, l_le, l_eq, l_z, lN_t, nI_tl, n_s1, i_sub, eLi, eL_s, eL_n, up_eq, mkz, i_l1, i_l2, i_l3, n_ti, i_tl2, e_mn, Nat.add_sub_cancel, mx0, s11, sa1, if1, ite_self, fl_ne, u3_s, in_l, in_l2, *] at hh); exact hh) (g2 : c2 → d2 := by intro hh; (try simp (disch := first | assumption | omega | decide) only [i_add, i_mul, n_cl, nI_and7, nI_and3, v_in, i_eq, i_lt, i_le, i_eq0, i_lt0, i_ge0, i_gt0, i_le0, lg_cmp_eq, lg_cmp_ge, lg_cmp_gt, lg_cmp_le, lg_cmp_lt, zb_e0, zb_n0, Classical.not_not, up_ne, Nat.zero_add, Nat.add_zero, rm_num hM, rm_mad hM, rm_own hM, rm_tim hM, rm_hol hM, rm_psz hM, rm_pop hM, rm_paa hM, rm_pbb hM, rm_pcc hM, rm_phn hM, rm_hfr hM, rm_hto hM, rm_hfl hM, rm_hpl hM, rm_isn hM, rm_dep hM, rm_cal hM, rm_pla hM, rm_don hM, rm_fai hM, rm_lat hM, rm_lpr hM, rm_lpl hM, rm_wan hM, rm_cal0 hM, rm_pla0 hM, cl_ne, tR_s, tR_n, eI_s, eI_n, e_nm, e_mm, lN_i, l_lt, l_le, l_eq, l_z, lN_t, nI_tl, n_s1, i_sub, eLi, eL_s, eL_n, up_eq, mkz, i_l1, i_l2, i_l3, n_ti, i_tl2, e_mn, Nat.add_sub_cancel, mx0, s11, sa1, if1, ite_self, fl_ne, u3_s, in_l, in_l2, *] at hh); exact hh) : Ev Y μ0 rem L st μ Post := ev_br hT hF hc (fun h => kt (g1 h)) (fun h => kf (g2 h))
theorem lf_L4 {p : Prop} (h : p := by first | rfl | assumption | (simp (disch := first | assumption | omega | decide) only [i_add, i_mul, n_cl, nI_and7, nI_and3, v_in, i_eq, i_lt, i_le, i_eq0, i_lt0, i_ge0, i_gt0, i_le0, lg_cmp_eq, lg_cmp_ge, lg_cmp_gt, lg_cmp_le, lg_cmp_lt, zb_e0, zb_n0, Classical.not_not, up_ne, Nat.zero_add, Nat.add_zero, rm_num hM, rm_mad hM, rm_own hM, rm_tim hM, rm_hol hM, rm_psz hM, rm_pop hM, rm_paa hM, rm_pbb hM, rm_pcc hM, rm_phn hM, rm_hfr hM, rm_hto hM, rm_hfl hM, rm_hpl hM, rm_isn hM, rm_dep hM, rm_cal hM, rm_pla hM, rm_don hM, rm_fai hM, rm_lat hM, rm_lpr hM, rm_lpl hM, rm_wan hM, rm_cal0 hM, rm_pla0 hM, cl_ne, tR_s, tR_n, eI_s, eI_n, e_nm, e_mm, lN_i, l_lt, l_le, l_eq, l_z, lN_t, nI_tl, n_s1, i_sub, eLi, eL_s, eL_n, up_eq, mkz, i_l1, i_l2, i_l3, n_ti, i_tl2, e_mn, Nat.add_sub_cancel, mx0, s11, sa1, if1, ite_self, fl_ne, u3_s, in_l, in_l2, *] <;> first | rfl | assumption | omega | decide)) : p := h
theorem in_l {a : Nat} (h : a < 10000) : (nI a).toInt64.toInt = (a : Int) := nI_tl h
theorem in_l2 {a : Nat} (h : a < 10000) : (nI a - nI 1).toInt64.toInt = (a : Int) - 1 := n_s1 h
set_option maxHeartbeats 4000000 in
theorem IT_in {ci : Nat → Nat → Nat → Int32} {co : Nat → Option Nat} {xj : Nat → Nat → Nat → Int64} {xd : Nat → Nat → Nat → UInt64} {xf : Nat → Nat → Nat → UInt32} {xo : Nat → Nat → Nat → Option Nat} {xi : Nat → Nat → Nat → Int32} {xn : Nat → Nat → Nat → Nat} {cn : Nat → Nat → Nat → Nat} {t m p : Nat} {f : Int32} (ht : t < 3) (hI : IC ci cn) (hcn : cn 0 t 0 = m + 1) (hpe : cn 1 t m = p) {Km : Nat → Nat} {Im : Nat → Nat → Int32} {Jm : Nat → Nat → Int64} {Fm : Nat → Nat → UInt32} {Dm : Nat → Nat → UInt64} {Rm : Nat → Nat → Option Nat} {nxm slm : Nat} (hM : RM ci cn co xj xd xf xo xi xn Im Jm Dm) {μ0 : mm_M} {Post : Option mm_V → mm_M → Prop} (hN : hs ci cn p (cn 2 t m) f (cn 4 p 0) 0 = none → ∀ L, (∀ q ∈ [(0, vr 11 6), (1, vi (nI t)), (2, vi f)], q ∈ L) → Ev Y_MM_isTaken μ0 (mm_to (mm_co Y_MM_isTaken) 6) L [vi (nI m)] (Km, mm_up Im 35 t (nI m), Jm, Fm, Dm, Rm, nxm, slm) Post) (hS : ∀ j, hs ci cn p (cn 2 t m) f (cn 4 p 0) 0 = some j → Post (some (vi (nI 1))) (Km, mm_up Im 37 (8 * t + m) (nI (cn 8 p j)), mm_up Jm 30 (8 * t + 7) f.toInt64, Fm, Dm, Rm, nxm, slm)) : ∀ (n k : Nat) (v : Int32), v = nI (6 * p + k) → k + n = cn 4 p 0 → hs ci cn p (cn 2 t m) f (cn 4 p 0) 0 = hs ci cn p (cn 2 t m) f n k → Ev Y_MM_isTaken μ0 (mm_to (mm_co Y_MM_isTaken) 53) [(0, vr 11 6), (1, vi (nI t)), (2, vi f), (3, vi (nI (8 * t + m))), (4, vi (nI p)), (5, vi v)] [vi (nI (6 * p + cn 4 p 0)), vi v] (Km, Im, Jm, Fm, Dm, Rm, nxm, slm) Post := by
  have i0 := hI.1 t ht
  have i1 := hI.2.1 t ht m (by omega)
  rw [hpe] at i1
  have i2 := hI.2.2.1 p i1.1
  intro n
  induction n with
  | zero =>
    intro k v hv hk he
    subst hv
    have hke : k = cn 4 p 0 := by omega
    subst hke
    refine ev_gL4 [true] [] rfl ?_
    refine ev_cg2 rfl ?_ ?_ (hN he _ mem36)
    · show [vi _] = [vi _]
      exact congrArg (fun z => [vi z]) lf_L4
    · show (Km, mm_up Im 35 _ _, Jm, Fm, Dm, Rm, nxm, slm) = _
      rw [show (nI t).toNatClampNeg = t from n_cl (by omega), rm_dep hM ht, hcn, i_sub (by omega), Nat.add_sub_cancel]
  | succ n ih =>
    intro k v hv hk he
    subst hv
    have hkl : k < cn 4 p 0 := by omega
    have i5 := hI.2.2.2.2 p i1.1 k hkl
    by_cases c1 : cn 6 p k ≤ cn 2 t m
    · by_cases c2 : cn 2 t m < cn 7 p k
      · by_cases c3 : ci 9 p k = -(nI 1)
        · skip
          refine ev_gL4 [false] [] rfl ?_
          refine ev_inS 3 k_MM_188 h_MM_in rfl rfl rfl rfl ⟨by decide, by decide⟩ rfl ?_
          refine ev_gL4 [false, false] [] rfl ?_
          refine ev_retz rfl (by first | decide | exact zb_01 _) ?_
          refine ev_gL4 [false, true] [] rfl ?_
          refine ev_retz rfl (by first | decide | exact zb_01 _) ?_
          rw [show hs ci cn p (cn 2 t m) f (n + 1) k = some k from if_pos ⟨c1, c2, Or.inl c3⟩] at he
          have hfin := hS k he
          rw [show nI (cn 8 p k) = Im 29 (6 * p + k) from (rm_hpl hM i1.1 hkl).symm] at hfin
          simp (disch := first | assumption | omega | decide) only [i_add, i_mul, n_cl] at hfin ⊢
          exact hfin
        · by_cases c4 : ci 9 p k = f
          · rw [c4] at c3
            refine ev_gL4 [false] [] rfl ?_
            refine ev_inS 3 k_MM_188 h_MM_in rfl rfl rfl rfl ⟨by decide, by decide⟩ rfl ?_
            refine ev_gL4 [false, false] [] rfl ?_
            refine ev_retz rfl (by first | decide | exact zb_01 _) ?_
            refine ev_gL4 [false, false, false] [] rfl ?_
            refine ev_retz rfl (by first | decide | exact zb_01 _) ?_
            rw [show hs ci cn p (cn 2 t m) f (n + 1) k = some k from if_pos ⟨c1, c2, Or.inr c4⟩] at he
            have hfin := hS k he
            rw [show nI (cn 8 p k) = Im 29 (6 * p + k) from (rm_hpl hM i1.1 hkl).symm] at hfin
            simp (disch := first | assumption | omega | decide) only [i_add, i_mul, n_cl] at hfin ⊢
            exact hfin
          · skip
            refine ev_gL4 [false] [] rfl ?_
            refine ev_inS 3 k_MM_188 h_MM_in rfl rfl rfl rfl ⟨by decide, by decide⟩ rfl ?_
            refine ev_gL4 [false, false] [] rfl ?_
            refine ev_retz rfl (by first | decide | exact zb_01 _) ?_
            refine ev_gL4 [false, false, true] [] rfl ?_
            rw [show hs ci cn p (cn 2 t m) f (n + 1) k = hs ci cn p (cn 2 t m) f n (k + 1) from if_neg (by rintro ⟨-, -, g | g⟩ <;> first | exact c3 g | exact c4 g)] at he
            refine ev_cg2 rfl (st2 := [vi (nI (6 * p + cn 4 p 0)), vi (nI (6 * p + k) + nI 1)]) lf_L4 rfl ?_
            exact ih (k + 1) _ (i_add _ 1) (by omega) he
      · skip
        refine ev_gL4 [false] [] rfl ?_
        refine ev_inS 3 k_MM_188 h_MM_in rfl rfl rfl rfl ⟨by decide, by decide⟩ rfl ?_
        refine ev_gL4 [false, true] [] rfl ?_
        refine ev_retz rfl (by first | decide | exact zb_01 _) ?_
        refine ev_gL4 [true] [] rfl ?_
        rw [show hs ci cn p (cn 2 t m) f (n + 1) k = hs ci cn p (cn 2 t m) f n (k + 1) from if_neg (by rintro ⟨-, g, -⟩; exact c2 g)] at he
        refine ev_cg2 rfl (st2 := [vi (nI (6 * p + cn 4 p 0)), vi (nI (6 * p + k) + nI 1)]) lf_L4 rfl ?_
        exact ih (k + 1) _ (i_add _ 1) (by omega) he
    · skip
      refine ev_gL4 [false] [] rfl ?_
      refine ev_inS 3 k_MM_188 h_MM_in rfl rfl rfl rfl ⟨by decide, by decide⟩ rfl ?_
      refine ev_gL4 [true] [] rfl ?_
      refine ev_retz rfl (by first | decide | exact zb_01 _) ?_
      refine ev_gL4 [true] [] rfl ?_
      rw [show hs ci cn p (cn 2 t m) f (n + 1) k = hs ci cn p (cn 2 t m) f n (k + 1) from if_neg (by rintro ⟨g, -⟩; exact c1 g)] at he
      refine ev_cg2 rfl (st2 := [vi (nI (6 * p + cn 4 p 0)), vi (nI (6 * p + k) + nI 1)]) lf_L4 rfl ?_
      exact ih (k + 1) _ (i_add _ 1) (by omega) he
theorem ev_gL6 {Y : mm_Y} {μ0 : mm_M} {rem : List mm_E} {L : mm_L} {st : List mm_V} {μ : mm_M} {Post : Option mm_V → mm_M → Prop} (bs : List Bool) (os : List (Option Nat)) {e2 : mm_E} {rem2 : List mm_E} {L2 : mm_L} {st2 : List mm_V} {μ2 : mm_M} {P2 : Prop} (h : mm_go 5000 (mm_co Y) rem L st μ bs os True = some (e2 :: rem2, L2, st2, μ2, P2)) (k : Ev Y μ0 (e2 :: rem2) L2 st2 μ2 Post) (hp : P2 := by (repeat' apply And.intro) <;> first | exact trivial | assumption | rfl | decide | omega | (simp (disch := first | assumption | omega | decide) only [i_add, i_mul, n_cl, nI_and7, nI_and3, v_in, i_eq, i_lt, i_le, i_eq0, i_lt0, i_ge0, i_gt0, i_le0, lg_cmp_eq, lg_cmp_ge, lg_cmp_gt, lg_cmp_le, lg_cmp_lt, zb_e0, zb_n0, Classical.not_not, up_ne, Nat.zero_add, Nat.add_zero, rm_num hM, rm_mad hM, rm_own hM, rm_tim hM, rm_hol hM, rm_psz hM, rm_pop hM, rm_paa hM, rm_pbb hM, rm_pcc hM, rm_phn hM, rm_hfr hM, rm_hto hM, rm_hfl hM, rm_hpl hM, rm_isn hM, rm_dep hM, rm_cal hM, rm_pla hM, rm_don hM, rm_fai hM, rm_lat hM, rm_lpr hM, rm_lpl hM, rm_wan hM, rm_cal0 hM, rm_pla0 hM, cl_ne, tR_s, tR_n, eI_s, eI_n, e_nm, e_mm, lN_i, l_lt, l_le, l_eq, l_z, lN_t, nI_tl, n_s1, i_sub, eLi, eL_s, eL_n, up_eq, mkz, i_l1, i_l2, i_l3, n_ti, i_tl2, e_mn, Nat.add_sub_cancel, mx0, s11, sa1, if1, ite_self, u3_s, *] <;> first | assumption | omega | decide)) : Ev Y μ0 rem L st μ Post := ev_go bs os h hp k
theorem ev_bL6 {Y : mm_Y} {μ0 : mm_M} {rem : List mm_E} {L : mm_L} {st : List mm_V} {μ : mm_M} {Post : Option mm_V → mm_M → Prop} {e2 e3 : mm_E} {rem2 rem3 : List mm_E} {L2 L3 : mm_L} {st2 st3 : List mm_V} {μ2 μ3 : mm_M} {c c2 d d2 : Prop} (hT : mm_go 1 (mm_co Y) rem L st μ [true] [] True = some (e2 :: rem2, L2, st2, μ2, True ∧ c)) (hF : mm_go 1 (mm_co Y) rem L st μ [false] [] True = some (e3 :: rem3, L3, st3, μ3, True ∧ c2)) (kt : d → Ev Y μ0 (e2 :: rem2) L2 st2 μ2 Post) (kf : d2 → Ev Y μ0 (e3 :: rem3) L3 st3 μ3 Post) (hc : ¬ c → c2 := by first | exact id | exact Classical.not_not.mp) (g1 : c → d := by intro hh; (try simp (disch := first | assumption | omega | decide) only [i_add, i_mul, n_cl, nI_and7, nI_and3, v_in, i_eq, i_lt, i_le, i_eq0, i_lt0, i_ge0, i_gt0, i_le0, lg_cmp_eq, lg_cmp_ge, lg_cmp_gt, lg_cmp_le, lg_cmp_lt, zb_e0, zb_n0, Classical.not_not, up_ne, Nat.zero_add, Nat.add_zero, rm_num hM, rm_mad hM, rm_own hM, rm_tim hM, rm_hol hM, rm_psz hM, rm_pop hM, rm_paa hM, rm_pbb hM, rm_pcc hM, rm_phn hM, rm_hfr hM, rm_hto hM, rm_hfl hM, rm_hpl hM, rm_isn hM, rm_dep hM, rm_cal hM, rm_pla hM, rm_don hM, rm_fai hM, rm_lat hM, rm_lpr hM, rm_lpl hM, rm_wan hM, rm_cal0 hM, rm_pla0 hM, cl_ne, tR_s, tR_n, eI_s, eI_n, e_nm, e_mm, lN_i, l_lt, l_le, l_eq, l_z, lN_t, nI_tl, n_s1, i_sub, eLi, eL_s, eL_n, up_eq, mkz, i_l1, i_l2, i_l3, n_ti, i_tl2, e_mn, Nat.add_sub_cancel, mx0, s11, sa1, if1, ite_self, u3_s, *] at hh); exact hh) (g2 : c2 → d2 := by intro hh; (try simp (disch := first | assumption | omega | decide) only [i_add, i_mul, n_cl, nI_and7, nI_and3, v_in, i_eq, i_lt, i_le, i_eq0, i_lt0, i_ge0, i_gt0, i_le0, lg_cmp_eq, lg_cmp_ge, lg_cmp_gt, lg_cmp_le, lg_cmp_lt, zb_e0, zb_n0, Classical.not_not, up_ne, Nat.zero_add, Nat.add_zero, rm_num hM, rm_mad hM, rm_own hM, rm_tim hM, rm_hol hM, rm_psz hM, rm_pop hM, rm_paa hM, rm_pbb hM, rm_pcc hM, rm_phn hM, rm_hfr hM, rm_hto hM, rm_hfl hM, rm_hpl hM, rm_isn hM, rm_dep hM, rm_cal hM, rm_pla hM, rm_don hM, rm_fai hM, rm_lat hM, rm_lpr hM, rm_lpl hM, rm_wan hM, rm_cal0 hM, rm_pla0 hM, cl_ne, tR_s, tR_n, eI_s, eI_n, e_nm, e_mm, lN_i, l_lt, l_le, l_eq, l_z, lN_t, nI_tl, n_s1, i_sub, eLi, eL_s, eL_n, up_eq, mkz, i_l1, i_l2, i_l3, n_ti, i_tl2, e_mn, Nat.add_sub_cancel, mx0, s11, sa1, if1, ite_self, u3_s, *] at hh); exact hh) : Ev Y μ0 rem L st μ Post := ev_br hT hF hc (fun h => kt (g1 h)) (fun h => kf (g2 h))
theorem lf_L6 {p : Prop} (h : p := by first | rfl | assumption | (simp (disch := first | assumption | omega | decide) only [i_add, i_mul, n_cl, nI_and7, nI_and3, v_in, i_eq, i_lt, i_le, i_eq0, i_lt0, i_ge0, i_gt0, i_le0, lg_cmp_eq, lg_cmp_ge, lg_cmp_gt, lg_cmp_le, lg_cmp_lt, zb_e0, zb_n0, Classical.not_not, up_ne, Nat.zero_add, Nat.add_zero, rm_num hM, rm_mad hM, rm_own hM, rm_tim hM, rm_hol hM, rm_psz hM, rm_pop hM, rm_paa hM, rm_pbb hM, rm_pcc hM, rm_phn hM, rm_hfr hM, rm_hto hM, rm_hfl hM, rm_hpl hM, rm_isn hM, rm_dep hM, rm_cal hM, rm_pla hM, rm_don hM, rm_fai hM, rm_lat hM, rm_lpr hM, rm_lpl hM, rm_wan hM, rm_cal0 hM, rm_pla0 hM, cl_ne, tR_s, tR_n, eI_s, eI_n, e_nm, e_mm, lN_i, l_lt, l_le, l_eq, l_z, lN_t, nI_tl, n_s1, i_sub, eLi, eL_s, eL_n, up_eq, mkz, i_l1, i_l2, i_l3, n_ti, i_tl2, e_mn, Nat.add_sub_cancel, mx0, s11, sa1, if1, ite_self, u3_s, *] <;> first | rfl | assumption | omega | decide)) : p := h
set_option maxHeartbeats 4000000 in
theorem IT_loop {ci : Nat → Nat → Nat → Int32} {co : Nat → Option Nat} {xj : Nat → Nat → Nat → Int64} {xd : Nat → Nat → Nat → UInt64} {xf : Nat → Nat → Nat → UInt32} {xo : Nat → Nat → Nat → Option Nat} {xi : Nat → Nat → Nat → Int32} {xn : Nat → Nat → Nat → Nat} {t : Nat} {f : Int32} (ht : t < 3) (isr : ∀ i, i < xn 2 0 0 → xn 1 i 0 ≤ 12) (io : ∀ i, i < xn 2 0 0 → ∀ q, xo 4 i 0 = some q → q < 3) (yy : xn 2 0 0 ≤ 160) {μ0 : mm_M} {Post : Option mm_V → mm_M → Prop} : ∀ (m : Nat) (v : Int32) (L : mm_L) (cn : Nat → Nat → Nat → Nat) (Km : Nat → Nat) (Im : Nat → Nat → Int32) (Jm : Nat → Nat → Int64) (Fm : Nat → Nat → UInt32) (Dm : Nat → Nat → UInt64) (Rm : Nat → Nat → Option Nat) (nxm slm : Nat), v = nI (m + 1) → (∀ q ∈ [(0, vr 11 6), (1, vi (nI t)), (2, vi f)], q ∈ L) → RM ci cn co xj xd xf xo xi xn Im Jm Dm → IC ci cn → cn 0 t 0 = m + 1 → (∀ r μ1, QT ci cn co xj xd xf xo xi xn t f (m + 1) r μ1 → Post r μ1) → Ev Y_MM_isTaken μ0 (mm_to (mm_co Y_MM_isTaken) 6) L [vi v] (Km, Im, Jm, Fm, Dm, Rm, nxm, slm) Post := by
  intro m
  induction m with
  | zero =>
    intro v L cn Km Im Jm Fm Dm Rm nxm slm hv hL hM hI hcn hQ
    subst hv
    refine ev_sub hL ?_
    have i0 := hI.1 t ht
    have i1 := hI.2.1 t ht 0 (by omega)
    have i2 := hI.2.2.1 (cn 1 t 0) i1.1
    refine ev_gL6 [false] [] rfl ?_
    refine ev_cg2 (L2 := [(0, vr 11 6), (1, vi (nI t)), (2, vi f), (3, vi (nI (8 * t + 0))), (4, vi (nI (cn 1 t 0))), (5, vi (nI (6 * cn 1 t 0 + 0)))]) (st2 := [vi (nI (6 * cn 1 t 0 + cn 4 (cn 1 t 0) 0)), vi (nI (6 * cn 1 t 0 + 0))]) lf_L6 lf_L6 rfl ?_
    refine IT_in ht hI hcn rfl hM ?_ ?_ (cn 4 (cn 1 t 0) 0) 0 _ rfl (by omega) rfl
    · intro hn L2 hL2
      refine ev_sub hL2 ?_
      have htk : tk ci t f (0 + 1) cn = tk ci t f 0 (u3 cn 0 t 0 0) := by rw [tk_s, hn] <;> rfl
      refine ev_gL6 [true] [] rfl ?_
      refine ev_qV 1 k_MM_421 rfl (C_MM_ends ht isr io yy hM (fun a k g => up_ne g)) rfl ⟨by decide, by decide⟩ rfl ?_
      rintro _ ⟨Km2, Im2, Jm2, Fm2, Dm2, Rm2, nxm2, slm2⟩ ⟨rfl, hM2⟩
      refine ev_g0 rfl ?_
      refine ev_retz rfl (by first | decide | exact zb_01 _) ?_
      exact hQ _ _ (Or.inl ⟨htk, rfl, hM2⟩)
    · intro j hj
      have hl := hs_lt _ _ hj
      have i5 := hI.2.2.2.2 (cn 1 t 0) i1.1 j (by omega)
      exact hQ _ _ (Or.inr ⟨0, _, by rw [tk_s, hj] <;> rfl, rfl, MU_num (MU_pla hM ht (by omega) hI.1 rfl rfl) ht (by decide) rfl rfl isr⟩)
  | succ m ih =>
    intro v L cn Km Im Jm Fm Dm Rm nxm slm hv hL hM hI hcn hQ
    subst hv
    refine ev_sub hL ?_
    have i0 := hI.1 t ht
    have i1 := hI.2.1 t ht (m + 1) (by omega)
    have i2 := hI.2.2.1 (cn 1 t (m + 1)) i1.1
    refine ev_gL6 [false] [] rfl ?_
    refine ev_cg2 (L2 := [(0, vr 11 6), (1, vi (nI t)), (2, vi f), (3, vi (nI (8 * t + (m + 1)))), (4, vi (nI (cn 1 t (m + 1)))), (5, vi (nI (6 * cn 1 t (m + 1) + 0)))]) (st2 := [vi (nI (6 * cn 1 t (m + 1) + cn 4 (cn 1 t (m + 1)) 0)), vi (nI (6 * cn 1 t (m + 1) + 0))]) lf_L6 lf_L6 rfl ?_
    refine IT_in ht hI hcn rfl hM ?_ ?_ (cn 4 (cn 1 t (m + 1)) 0) 0 _ rfl (by omega) rfl
    · intro hn L2 hL2
      refine ev_sub hL2 ?_
      have htk : tk ci t f ((m + 1) + 1) cn = tk ci t f (m + 1) (u3 cn 0 t 0 (m + 1)) := by rw [tk_s, hn] <;> rfl
      refine ih _ _ (u3 cn 0 t 0 (m + 1)) _ _ _ _ _ _ _ _ rfl (fun q h => h) (MU_dep hM ht (by omega) (by omega) rfl rfl) (IC_dep ht hI (by omega)) u3_s (fun r μ1 h => hQ r μ1 ?_)
      unfold QT at h ⊢
      rw [htk]
      rw [u3_u3] at h
      exact h
    · intro j hj
      have hl := hs_lt _ _ hj
      have i5 := hI.2.2.2.2 (cn 1 t (m + 1)) i1.1 j (by omega)
      exact hQ _ _ (Or.inr ⟨(m + 1), _, by rw [tk_s, hj] <;> rfl, rfl, MU_num (MU_pla hM ht (by omega) hI.1 rfl rfl) ht (by decide) rfl rfl isr⟩)
theorem C_isTaken {ci : Nat → Nat → Nat → Int32} {co : Nat → Option Nat} {xj : Nat → Nat → Nat → Int64} {xd : Nat → Nat → Nat → UInt64} {xf : Nat → Nat → Nat → UInt32} {xo : Nat → Nat → Nat → Option Nat} {xi : Nat → Nat → Nat → Int32} {xn : Nat → Nat → Nat → Nat} {cn : Nat → Nat → Nat → Nat} {t m : Nat} {f : Int32} (ht : t < 3) (isr : ∀ i, i < xn 2 0 0 → xn 1 i 0 ≤ 12) (io : ∀ i, i < xn 2 0 0 → ∀ q, xo 4 i 0 = some q → q < 3) (yy : xn 2 0 0 ≤ 160) {Km : Nat → Nat} {Im : Nat → Nat → Int32} {Jm : Nat → Nat → Int64} {Fm : Nat → Nat → UInt32} {Dm : Nat → Nat → UInt64} {Rm : Nat → Nat → Option Nat} {nxm slm : Nat} (hM : RM ci cn co xj xd xf xo xi xn Im Jm Dm) (hI : IC ci cn) (hn : cn 0 t 0 = m + 1) : Ct Y_MM_isTaken [vr 11 6, vi (nI t), vi f] (Km, Im, Jm, Fm, Dm, Rm, nxm, slm) (fun r μ1 => QT ci cn co xj xd xf xo xi xn t f (m + 1) r μ1) := by
  have h8 := hI.1 t ht
  refine ct_of h_MM_isTaken rfl rfl rfl ?_
  refine ev_go [] [] rfl ⟨trivial, (v_in (by omega)).mpr ht⟩ ?_
  exact IT_loop ht isr io yy m _ _ cn _ _ _ _ _ _ _ _ (by rw [n_cl (by omega), rm_dep hM ht, hn]) (fun q h => h) hM hI hn (fun r μ1 h => h)
theorem ev_gQ {Y : mm_Y} {μ0 : mm_M} {rem : List mm_E} {L : mm_L} {st : List mm_V} {μ : mm_M} {Post : Option mm_V → mm_M → Prop} (bs : List Bool) (os : List (Option Nat)) {e2 : mm_E} {rem2 : List mm_E} {L2 : mm_L} {st2 : List mm_V} {μ2 : mm_M} {P2 : Prop} (h : mm_go 5000 (mm_co Y) rem L st μ bs os True = some (e2 :: rem2, L2, st2, μ2, P2)) (k : Ev Y μ0 (e2 :: rem2) L2 st2 μ2 Post) (hp : P2 := by (repeat' apply And.intro) <;> first | exact trivial | assumption | rfl | decide | omega | (simp (disch := first | assumption | omega | decide) only [i_add, i_mul, n_cl, nI_and7, nI_and3, v_in, i_eq, i_lt, i_le, i_eq0, i_lt0, i_ge0, i_gt0, i_le0, lg_cmp_eq, lg_cmp_ge, lg_cmp_gt, lg_cmp_le, lg_cmp_lt, zb_e0, zb_n0, Classical.not_not, up_ne, Nat.zero_add, Nat.add_zero, Nat.add_sub_cancel, *] <;> first | assumption | omega | decide)) : Ev Y μ0 rem L st μ Post := ev_go bs os h hp k
theorem ev_bQ {Y : mm_Y} {μ0 : mm_M} {rem : List mm_E} {L : mm_L} {st : List mm_V} {μ : mm_M} {Post : Option mm_V → mm_M → Prop} {e2 e3 : mm_E} {rem2 rem3 : List mm_E} {L2 L3 : mm_L} {st2 st3 : List mm_V} {μ2 μ3 : mm_M} {c c2 d d2 : Prop} (hT : mm_go 1 (mm_co Y) rem L st μ [true] [] True = some (e2 :: rem2, L2, st2, μ2, True ∧ c)) (hF : mm_go 1 (mm_co Y) rem L st μ [false] [] True = some (e3 :: rem3, L3, st3, μ3, True ∧ c2)) (kt : d → Ev Y μ0 (e2 :: rem2) L2 st2 μ2 Post) (kf : d2 → Ev Y μ0 (e3 :: rem3) L3 st3 μ3 Post) (hc : ¬ c → c2 := by first | exact id | exact Classical.not_not.mp) (g1 : c → d := by intro hh; (try simp (disch := first | assumption | omega | decide) only [i_add, i_mul, n_cl, nI_and7, nI_and3, v_in, i_eq, i_lt, i_le, i_eq0, i_lt0, i_ge0, i_gt0, i_le0, lg_cmp_eq, lg_cmp_ge, lg_cmp_gt, lg_cmp_le, lg_cmp_lt, zb_e0, zb_n0, Classical.not_not, up_ne, Nat.zero_add, Nat.add_zero, Nat.add_sub_cancel, *] at hh); exact hh) (g2 : c2 → d2 := by intro hh; (try simp (disch := first | assumption | omega | decide) only [i_add, i_mul, n_cl, nI_and7, nI_and3, v_in, i_eq, i_lt, i_le, i_eq0, i_lt0, i_ge0, i_gt0, i_le0, lg_cmp_eq, lg_cmp_ge, lg_cmp_gt, lg_cmp_le, lg_cmp_lt, zb_e0, zb_n0, Classical.not_not, up_ne, Nat.zero_add, Nat.add_zero, Nat.add_sub_cancel, *] at hh); exact hh) : Ev Y μ0 rem L st μ Post := ev_br hT hF hc (fun h => kt (g1 h)) (fun h => kf (g2 h))
theorem lf_Q {p : Prop} (h : p := by first | rfl | assumption | (simp (disch := first | assumption | omega | decide) only [i_add, i_mul, n_cl, nI_and7, nI_and3, v_in, i_eq, i_lt, i_le, i_eq0, i_lt0, i_ge0, i_gt0, i_le0, lg_cmp_eq, lg_cmp_ge, lg_cmp_gt, lg_cmp_le, lg_cmp_lt, zb_e0, zb_n0, Classical.not_not, up_ne, Nat.zero_add, Nat.add_zero, Nat.add_sub_cancel, *] <;> first | rfl | assumption | omega | decide)) : p := h
theorem ST_NA {t op p0 : Nat} {pl a b c bd : Int32} (hop : op < 12) {μ μ0 μ1 : mm_M} {Post : Option mm_V → mm_M → Prop} (d1 : mm_Det Y_NA_perform [vr 3 54, vr 8 (32 + 7 * t), vi (nI op), vi a, vi b, vi c] μ (some (vi bd)) μ1) (k : Ev Y_MV_step μ0 (mm_to (mm_co Y_MV_step) 181) [(0, vr 2 53), (1, vr 8 (32 + 7 * t)), (2, vr 5 p0), (3, vi pl), (4, vi (nI op)), (5, vi a), (6, vi b), (7, vi c), (8, vi bd)] [vi (-(nI 1)), vi bd] μ1 Post) : Ev Y_MV_step μ0 (mm_to (mm_co Y_MV_step) 52) [(0, vr 2 53), (1, vr 8 (32 + 7 * t)), (2, vr 5 p0), (3, vi pl), (4, vi (nI op)), (5, vi a), (6, vi b), (7, vi c)] [vi (nI 58), vi (nI op)] μ Post := by
  refine ev_gQ [true, false] [] rfl ?_
  refine ev_kV 5 k_MV_47 rfl d1 rfl ⟨by decide, by decide⟩ rfl ?_
  refine ev_g0 rfl ?_
  exact k
theorem ST_HA1 {t op p0 : Nat} {pl a b c bd : Int32} (hop : 12 ≤ op ∧ op < 20) {μ μ0 μ1 : mm_M} {Post : Option mm_V → mm_M → Prop} (d1 : mm_Det Y_HA_perform [vr 1 55, vr 8 (32 + 7 * t), vi (nI op), vi a, vi b, vi c] μ (some (vi bd)) μ1) (k : Ev Y_MV_step μ0 (mm_to (mm_co Y_MV_step) 181) [(0, vr 2 53), (1, vr 8 (32 + 7 * t)), (2, vr 5 p0), (3, vi pl), (4, vi (nI op)), (5, vi a), (6, vi b), (7, vi c), (8, vi bd)] [vi (-(nI 1)), vi bd] μ1 Post) : Ev Y_MV_step μ0 (mm_to (mm_co Y_MV_step) 52) [(0, vr 2 53), (1, vr 8 (32 + 7 * t)), (2, vr 5 p0), (3, vi pl), (4, vi (nI op)), (5, vi a), (6, vi b), (7, vi c)] [vi (nI 58), vi (nI op)] μ Post := by
  refine ev_gQ [true, true, true, true] [] rfl ?_
  refine ev_kV 5 k_MV_55 rfl d1 rfl ⟨by decide, by decide⟩ rfl ?_
  refine ev_g0 rfl ?_
  exact k
theorem ST_IA {t op p0 : Nat} {pl a b c bd : Int32} (hop : 20 ≤ op ∧ op < 46) {μ μ0 μ1 : mm_M} {Post : Option mm_V → mm_M → Prop} (d1 : mm_Det Y_IA_perform [vr 8 (32 + 7 * t), vi (nI op), vi a, vi b, vi c] μ (some (vi bd)) μ1) (k : Ev Y_MV_step μ0 (mm_to (mm_co Y_MV_step) 181) [(0, vr 2 53), (1, vr 8 (32 + 7 * t)), (2, vr 5 p0), (3, vi pl), (4, vi (nI op)), (5, vi a), (6, vi b), (7, vi c), (8, vi bd)] [vi (-(nI 1)), vi bd] μ1 Post) : Ev Y_MV_step μ0 (mm_to (mm_co Y_MV_step) 52) [(0, vr 2 53), (1, vr 8 (32 + 7 * t)), (2, vr 5 p0), (3, vi pl), (4, vi (nI op)), (5, vi a), (6, vi b), (7, vi c)] [vi (nI 58), vi (nI op)] μ Post := by
  refine ev_gQ [true, true, true, false, true] [] rfl ?_
  refine ev_kS 5 k_MV_58 rfl d1 ⟨by decide, by decide⟩ rfl ?_
  refine ev_g0 rfl ?_
  exact k
theorem ST_HA2 {t op p0 : Nat} {pl a b c bd : Int32} (hop : 46 ≤ op ∧ op < 51) {μ μ0 μ1 : mm_M} {Post : Option mm_V → mm_M → Prop} (d1 : mm_Det Y_HA_perform [vr 1 55, vr 8 (32 + 7 * t), vi (nI op), vi a, vi b, vi c] μ (some (vi bd)) μ1) (k : Ev Y_MV_step μ0 (mm_to (mm_co Y_MV_step) 181) [(0, vr 2 53), (1, vr 8 (32 + 7 * t)), (2, vr 5 p0), (3, vi pl), (4, vi (nI op)), (5, vi a), (6, vi b), (7, vi c), (8, vi bd)] [vi (-(nI 1)), vi bd] μ1 Post) : Ev Y_MV_step μ0 (mm_to (mm_co Y_MV_step) 52) [(0, vr 2 53), (1, vr 8 (32 + 7 * t)), (2, vr 5 p0), (3, vi pl), (4, vi (nI op)), (5, vi a), (6, vi b), (7, vi c)] [vi (nI 58), vi (nI op)] μ Post := by
  refine ev_gQ [true, true, true, false, false] [] rfl ?_
  refine ev_kV 5 k_MV_55 rfl d1 rfl ⟨by decide, by decide⟩ rfl ?_
  refine ev_g0 rfl ?_
  exact k
theorem ST_OA {t op p0 : Nat} {pl a b c bd : Int32} (hop : 51 ≤ op ∧ op < 58) {μ μ0 μ1 : mm_M} {Post : Option mm_V → mm_M → Prop} (d1 : mm_Det Y_OA_perform [vr 4 13, vr 8 (32 + 7 * t), vi (nI op), vi a, vi b, vi c] μ (some (vi bd)) μ1) (k : Ev Y_MV_step μ0 (mm_to (mm_co Y_MV_step) 181) [(0, vr 2 53), (1, vr 8 (32 + 7 * t)), (2, vr 5 p0), (3, vi pl), (4, vi (nI op)), (5, vi a), (6, vi b), (7, vi c), (8, vi bd)] [vi (-(nI 1)), vi bd] μ1 Post) : Ev Y_MV_step μ0 (mm_to (mm_co Y_MV_step) 52) [(0, vr 2 53), (1, vr 8 (32 + 7 * t)), (2, vr 5 p0), (3, vi pl), (4, vi (nI op)), (5, vi a), (6, vi b), (7, vi c)] [vi (nI 58), vi (nI op)] μ Post := by
  refine ev_gQ [true, true, false] [] rfl ?_
  refine ev_kV 5 k_MV_52 rfl d1 rfl ⟨by decide, by decide⟩ rfl ?_
  refine ev_g0 rfl ?_
  exact k
theorem ST_MV {t op p0 : Nat} {pl a b c bd : Int32} (hop : 58 ≤ op ∧ op < 66) {μ μ0 μ1 : mm_M} {Post : Option mm_V → mm_M → Prop} (d1 : mm_Det Y_MV_steer [vr 2 53, vr 8 (32 + 7 * t), vi (nI op), vi a, vi b, vi c] μ (some (vi bd)) μ1) (k : Ev Y_MV_step μ0 (mm_to (mm_co Y_MV_step) 181) [(0, vr 2 53), (1, vr 8 (32 + 7 * t)), (2, vr 5 p0), (3, vi pl), (4, vi (nI op)), (5, vi a), (6, vi b), (7, vi c), (8, vi bd)] [vi (-(nI 1)), vi bd] μ1 Post) : Ev Y_MV_step μ0 (mm_to (mm_co Y_MV_step) 52) [(0, vr 2 53), (1, vr 8 (32 + 7 * t)), (2, vr 5 p0), (3, vi pl), (4, vi (nI op)), (5, vi a), (6, vi b), (7, vi c)] [vi (nI 58), vi (nI op)] μ Post := by
  refine ev_gQ [false] [] rfl ?_
  refine ev_kV 5 k_MV_43 rfl d1 rfl ⟨by decide, by decide⟩ rfl ?_
  refine ev_g0 rfl ?_
  exact k
theorem DO_reckons {op : Nat} {t1 top at1 : Int32} (hop : op < 12) {μ μ0 : mm_M} {K1 : Nat → Nat} {I1 : Nat → Nat → Int32} {J1 : Nat → Nat → Int64} {F1 : Nat → Nat → UInt32} {D1 : Nat → Nat → UInt64} {R1 : Nat → Nat → Option Nat} {n1 s1 : Nat} {Post : Option mm_V → mm_M → Prop} (d1 : mm_Det Y_MM_reckons [vr 11 6, vi (nI op)] μ none (K1, I1, J1, F1, D1, R1, n1, s1)) (k : Ev Y_MM_does μ0 (mm_to (mm_co Y_MM_does) 298) [(0, vr 11 6), (1, vi t1), (2, vi top), (3, vi at1), (4, vi (nI op))] [vi (I1 6 43), vi top, vr 41 37] (K1, I1, J1, F1, D1, R1, n1, s1) Post) : Ev Y_MM_does μ0 (mm_to (mm_co Y_MM_does) 95) [(0, vr 11 6), (1, vi t1), (2, vi top), (3, vi at1), (4, vi (nI op))] [vi (nI 62), vi (nI op)] μ Post := by
  refine ev_gQ [true, true, true, false] [] rfl ?_
  refine ev_kV 1 k_MM_431 rfl d1 rfl ⟨by decide, by decide⟩ rfl ?_
  refine ev_g0 rfl ?_
  exact k
theorem DO_makes {op : Nat} {t1 top at1 : Int32} (hop : 12 ≤ op ∧ op < 19) {μ μ0 : mm_M} {K1 : Nat → Nat} {I1 : Nat → Nat → Int32} {J1 : Nat → Nat → Int64} {F1 : Nat → Nat → UInt32} {D1 : Nat → Nat → UInt64} {R1 : Nat → Nat → Option Nat} {n1 s1 : Nat} {Post : Option mm_V → mm_M → Prop} (d1 : mm_Det Y_MM_makes [vr 11 6, vi (nI op)] μ none (K1, I1, J1, F1, D1, R1, n1, s1)) (k : Ev Y_MM_does μ0 (mm_to (mm_co Y_MM_does) 298) [(0, vr 11 6), (1, vi t1), (2, vi top), (3, vi at1), (4, vi (nI op))] [vi (I1 6 43), vi top, vr 41 37] (K1, I1, J1, F1, D1, R1, n1, s1) Post) : Ev Y_MM_does μ0 (mm_to (mm_co Y_MM_does) 95) [(0, vr 11 6), (1, vi t1), (2, vi top), (3, vi at1), (4, vi (nI op))] [vi (nI 62), vi (nI op)] μ Post := by
  refine ev_gQ [true, true, true, true, false] [] rfl ?_
  refine ev_kV 1 k_MM_434 rfl d1 rfl ⟨by decide, by decide⟩ rfl ?_
  refine ev_g0 rfl ?_
  exact k
theorem DO_loads {op : Nat} {t1 top at1 : Int32} (hop : 20 ≤ op ∧ op < 28) {μ μ0 : mm_M} {K1 : Nat → Nat} {I1 : Nat → Nat → Int32} {J1 : Nat → Nat → Int64} {F1 : Nat → Nat → UInt32} {D1 : Nat → Nat → UInt64} {R1 : Nat → Nat → Option Nat} {n1 s1 : Nat} {Post : Option mm_V → mm_M → Prop} (d1 : mm_Det Y_MM_loads [vr 11 6, vi (nI op - nI 20)] μ none (K1, I1, J1, F1, D1, R1, n1, s1)) (k : Ev Y_MM_does μ0 (mm_to (mm_co Y_MM_does) 298) [(0, vr 11 6), (1, vi t1), (2, vi top), (3, vi at1), (4, vi (nI op))] [vi (I1 6 43), vi top, vr 41 37] (K1, I1, J1, F1, D1, R1, n1, s1) Post) : Ev Y_MM_does μ0 (mm_to (mm_co Y_MM_does) 95) [(0, vr 11 6), (1, vi t1), (2, vi top), (3, vi at1), (4, vi (nI op))] [vi (nI 62), vi (nI op)] μ Post := by
  refine ev_gQ [true, true, true, true, true, false] [] rfl ?_
  refine ev_kV 1 k_MM_437 rfl d1 rfl ⟨by decide, by decide⟩ rfl ?_
  refine ev_g0 rfl ?_
  exact k
theorem DO_stores {op : Nat} {t1 top at1 : Int32} (hop : 28 ≤ op ∧ op < 36) {μ μ0 : mm_M} {K1 : Nat → Nat} {I1 : Nat → Nat → Int32} {J1 : Nat → Nat → Int64} {F1 : Nat → Nat → UInt32} {D1 : Nat → Nat → UInt64} {R1 : Nat → Nat → Option Nat} {n1 s1 : Nat} {Post : Option mm_V → mm_M → Prop} (d1 : mm_Det Y_MM_stores [vr 11 6, vi (nI op - nI 28)] μ none (K1, I1, J1, F1, D1, R1, n1, s1)) (k : Ev Y_MM_does μ0 (mm_to (mm_co Y_MM_does) 298) [(0, vr 11 6), (1, vi t1), (2, vi top), (3, vi at1), (4, vi (nI op))] [vi (I1 6 43), vi top, vr 41 37] (K1, I1, J1, F1, D1, R1, n1, s1) Post) : Ev Y_MM_does μ0 (mm_to (mm_co Y_MM_does) 95) [(0, vr 11 6), (1, vi t1), (2, vi top), (3, vi at1), (4, vi (nI op))] [vi (nI 62), vi (nI op)] μ Post := by
  refine ev_gQ [true, true, true, true, true, true, false] [] rfl ?_
  refine ev_kV 1 k_MM_440 rfl d1 rfl ⟨by decide, by decide⟩ rfl ?_
  refine ev_g0 rfl ?_
  exact k
theorem DO_handles {op : Nat} {t1 top at1 : Int32} (hop : 36 ≤ op ∧ op < 51) {μ μ0 : mm_M} {K1 : Nat → Nat} {I1 : Nat → Nat → Int32} {J1 : Nat → Nat → Int64} {F1 : Nat → Nat → UInt32} {D1 : Nat → Nat → UInt64} {R1 : Nat → Nat → Option Nat} {n1 s1 : Nat} {Post : Option mm_V → mm_M → Prop} (d1 : mm_Det Y_MM_handles [vr 11 6, vi (nI op)] μ none (K1, I1, J1, F1, D1, R1, n1, s1)) (k : Ev Y_MM_does μ0 (mm_to (mm_co Y_MM_does) 298) [(0, vr 11 6), (1, vi t1), (2, vi top), (3, vi at1), (4, vi (nI op))] [vi (I1 6 43), vi top, vr 41 37] (K1, I1, J1, F1, D1, R1, n1, s1) Post) : Ev Y_MM_does μ0 (mm_to (mm_co Y_MM_does) 95) [(0, vr 11 6), (1, vi t1), (2, vi top), (3, vi at1), (4, vi (nI op))] [vi (nI 62), vi (nI op)] μ Post := by
  refine ev_gQ [true, true, true, true, true, true, true, false] [] rfl ?_
  refine ev_kV 1 k_MM_443 rfl d1 rfl ⟨by decide, by decide⟩ rfl ?_
  refine ev_g0 rfl ?_
  exact k
theorem DO_meets {op : Nat} {t1 top at1 : Int32} (hop : 51 ≤ op ∧ op < 58) {μ μ0 : mm_M} {K1 : Nat → Nat} {I1 : Nat → Nat → Int32} {J1 : Nat → Nat → Int64} {F1 : Nat → Nat → UInt32} {D1 : Nat → Nat → UInt64} {R1 : Nat → Nat → Option Nat} {n1 s1 : Nat} {Post : Option mm_V → mm_M → Prop} (d1 : mm_Det Y_MM_meets [vr 11 6, vi (nI op)] μ none (K1, I1, J1, F1, D1, R1, n1, s1)) (k : Ev Y_MM_does μ0 (mm_to (mm_co Y_MM_does) 298) [(0, vr 11 6), (1, vi t1), (2, vi top), (3, vi at1), (4, vi (nI op))] [vi (I1 6 43), vi top, vr 41 37] (K1, I1, J1, F1, D1, R1, n1, s1) Post) : Ev Y_MM_does μ0 (mm_to (mm_co Y_MM_does) 95) [(0, vr 11 6), (1, vi t1), (2, vi top), (3, vi at1), (4, vi (nI op))] [vi (nI 62), vi (nI op)] μ Post := by
  refine ev_gQ [true, true, true, true, true, true, true, true, false] [] rfl ?_
  refine ev_kV 1 k_MM_446 rfl d1 rfl ⟨by decide, by decide⟩ rfl ?_
  refine ev_g0 rfl ?_
  exact k
theorem DO_ways {op : Nat} {t1 top at1 : Int32} (hop : (58 ≤ op ∧ op < 62) ∨ op = 65) {μ μ0 : mm_M} {K1 : Nat → Nat} {I1 : Nat → Nat → Int32} {J1 : Nat → Nat → Int64} {F1 : Nat → Nat → UInt32} {D1 : Nat → Nat → UInt64} {R1 : Nat → Nat → Option Nat} {n1 s1 : Nat} {Post : Option mm_V → mm_M → Prop} (d1 : mm_Det Y_MM_ways [vr 11 6, vi (nI op)] μ none (K1, I1, J1, F1, D1, R1, n1, s1)) (k : Ev Y_MM_does μ0 (mm_to (mm_co Y_MM_does) 298) [(0, vr 11 6), (1, vi t1), (2, vi top), (3, vi at1), (4, vi (nI op))] [vi (I1 6 43), vi top, vr 41 37] (K1, I1, J1, F1, D1, R1, n1, s1) Post) : Ev Y_MM_does μ0 (mm_to (mm_co Y_MM_does) 95) [(0, vr 11 6), (1, vi t1), (2, vi top), (3, vi at1), (4, vi (nI op))] [vi (nI 62), vi (nI op)] μ Post := by
  refine ev_gQ [true, true, true, true, true, true, true, true, true] [] rfl ?_
  refine ev_kV 1 k_MM_449 rfl d1 rfl ⟨by decide, by decide⟩ rfl ?_
  refine ev_g0 rfl ?_
  exact k
theorem DO_locks0 {t1 top at1 : Int32} {μ μ0 : mm_M} {K1 : Nat → Nat} {I1 : Nat → Nat → Int32} {J1 : Nat → Nat → Int64} {F1 : Nat → Nat → UInt32} {D1 : Nat → Nat → UInt64} {R1 : Nat → Nat → Option Nat} {n1 s1 : Nat} {Post : Option mm_V → mm_M → Prop} (d1 : mm_Det Y_MM_locks [vr 11 6] μ (some (vi (nI 0))) (K1, I1, J1, F1, D1, R1, n1, s1)) (k : Post (some (vi (nI 0))) (K1, I1, J1, F1, D1, R1, n1, s1)) : Ev Y_MM_does μ0 (mm_to (mm_co Y_MM_does) 95) [(0, vr 11 6), (1, vi t1), (2, vi top), (3, vi at1), (4, vi (nI 64))] [vi (nI 62), vi (nI 64)] μ Post := by
  refine ev_gQ [true, true, false] [] rfl ?_
  refine ev_kV 0 k_MM_427 rfl d1 rfl ⟨by decide, by decide⟩ rfl ?_
  refine ev_gQ [false] [] rfl ?_
  refine ev_retz rfl (by first | decide | exact zb_01 _) ?_
  exact k
theorem DO_locks1 {t1 top at1 : Int32} {μ μ0 : mm_M} {K1 : Nat → Nat} {I1 : Nat → Nat → Int32} {J1 : Nat → Nat → Int64} {F1 : Nat → Nat → UInt32} {D1 : Nat → Nat → UInt64} {R1 : Nat → Nat → Option Nat} {n1 s1 : Nat} {Post : Option mm_V → mm_M → Prop} (d1 : mm_Det Y_MM_locks [vr 11 6] μ (some (vi (nI 1))) (K1, I1, J1, F1, D1, R1, n1, s1)) (k : Ev Y_MM_does μ0 (mm_to (mm_co Y_MM_does) 298) [(0, vr 11 6), (1, vi t1), (2, vi top), (3, vi at1), (4, vi (nI 64))] [vi (I1 6 43), vi top, vr 41 37] (K1, I1, J1, F1, D1, R1, n1, s1) Post) : Ev Y_MM_does μ0 (mm_to (mm_co Y_MM_does) 95) [(0, vr 11 6), (1, vi t1), (2, vi top), (3, vi at1), (4, vi (nI 64))] [vi (nI 62), vi (nI 64)] μ Post := by
  refine ev_gQ [true, true, false] [] rfl ?_
  refine ev_kV 0 k_MM_427 rfl d1 rfl ⟨by decide, by decide⟩ rfl ?_
  refine ev_gQ [true] [] rfl ?_
  exact k
theorem MU_scr {ci : Nat → Nat → Nat → Int32} {cn : Nat → Nat → Nat → Nat} {co : Nat → Option Nat} {xj : Nat → Nat → Nat → Int64} {xd : Nat → Nat → Nat → UInt64} {xf : Nat → Nat → Nat → UInt32} {xo : Nat → Nat → Nat → Option Nat} {xi : Nat → Nat → Nat → Int32} {xn : Nat → Nat → Nat → Nat} {I : Nat → Nat → Int32} {J : Nat → Nat → Int64} {D : Nat → Nat → UInt64} (h : RM ci cn co xj xd xf xo xi xn I J D) {j : Nat} {z : Int32} (hj : 39 ≤ j) : RM ci cn co xj xd xf xo xi xn (mm_up I 6 j z) J D := by
  obtain ⟨hJ, hD, hI⟩ := h
  exact ⟨hJ,
   hD,
   ⟨by
      have g0 := hI.1
      simp only [mm_up, u3, u1, true_and, and_true, false_and, and_false, and_self, if_true, if_false] <;> (repeat' split) <;> first | exact g0 | rfl | (exfalso; omega) | assumption | (congr 1; omega) | (simp_all; done),
    by
      have g0 := hI.2.1
      simp only [mm_up, u3, u1, true_and, and_true, false_and, and_false, and_self, if_true, if_false] <;> (repeat' split) <;> first | exact g0 | rfl | (exfalso; omega) | assumption | (congr 1; omega) | (simp_all; done),
    fun i1 hi1 => by
      have g0 := hI.2.2.1 i1 hi1
      simp only [mm_up, u3, u1, true_and, and_true, false_and, and_false, and_self, if_true, if_false] <;> (repeat' split) <;> first | exact g0 | rfl | (exfalso; omega) | assumption | (congr 1; omega) | (simp_all; done),
    fun i1 hi1 => by
      have g0 := hI.2.2.2.1 i1 hi1
      simp only [mm_up, u3, u1, true_and, and_true, false_and, and_false, and_self, if_true, if_false] <;> (repeat' split) <;> first | exact g0 | rfl | (exfalso; omega) | assumption | (congr 1; omega) | (simp_all; done),
    fun i1 hi1 => by
      have g0 := hI.2.2.2.2.1 i1 hi1
      simp only [mm_up, u3, u1, true_and, and_true, false_and, and_false, and_self, if_true, if_false] <;> (repeat' split) <;> first | exact g0 | rfl | (exfalso; omega) | assumption | (congr 1; omega) | (simp_all; done),
    fun i1 hi1 => by
      have g0 := hI.2.2.2.2.2.1 i1 hi1
      simp only [mm_up, u3, u1, true_and, and_true, false_and, and_false, and_self, if_true, if_false] <;> (repeat' split) <;> first | exact g0 | rfl | (exfalso; omega) | assumption | (congr 1; omega) | (simp_all; done),
    fun i1 hi1 => by
      have g0 := hI.2.2.2.2.2.2.1 i1 hi1
      simp only [mm_up, u3, u1, true_and, and_true, false_and, and_false, and_self, if_true, if_false] <;> (repeat' split) <;> first | exact g0 | rfl | (exfalso; omega) | assumption | (congr 1; omega) | (simp_all; done),
    fun i1 hi1 k1 hk1 => by
      have g0 := hI.2.2.2.2.2.2.2.1 i1 hi1 k1 hk1
      simp only [mm_up, u3, u1, true_and, and_true, false_and, and_false, and_self, if_true, if_false] <;> (repeat' split) <;> first | exact g0 | rfl | (exfalso; omega) | assumption | (congr 1; omega) | (simp_all; done),
    fun i1 hi1 => by
      have g0 := hI.2.2.2.2.2.2.2.2.1 i1 hi1
      simp only [mm_up, u3, u1, true_and, and_true, false_and, and_false, and_self, if_true, if_false] <;> (repeat' split) <;> first | exact g0 | rfl | (exfalso; omega) | assumption | (congr 1; omega) | (simp_all; done),
    fun i1 hi1 => by
      have g0 := hI.2.2.2.2.2.2.2.2.2.1 i1 hi1
      simp only [mm_up, u3, u1, true_and, and_true, false_and, and_false, and_self, if_true, if_false] <;> (repeat' split) <;> first | exact g0 | rfl | (exfalso; omega) | assumption | (congr 1; omega) | (simp_all; done),
    fun p1 hp1 => by
      have g0 := hI.2.2.2.2.2.2.2.2.2.2.1 p1 hp1
      simp only [mm_up, u3, u1, true_and, and_true, false_and, and_false, and_self, if_true, if_false] <;> (repeat' split) <;> first | exact g0 | rfl | (exfalso; omega) | assumption | (congr 1; omega) | (simp_all; done),
    fun p1 hp1 k1 hk1 => by
      have g0 := hI.2.2.2.2.2.2.2.2.2.2.2.1 p1 hp1 k1 hk1
      simp only [mm_up, u3, u1, true_and, and_true, false_and, and_false, and_self, if_true, if_false] <;> (repeat' split) <;> first | exact g0 | rfl | (exfalso; omega) | assumption | (congr 1; omega) | (simp_all; done),
    fun p1 hp1 k1 hk1 => by
      have g0 := hI.2.2.2.2.2.2.2.2.2.2.2.2.1 p1 hp1 k1 hk1
      simp only [mm_up, u3, u1, true_and, and_true, false_and, and_false, and_self, if_true, if_false] <;> (repeat' split) <;> first | exact g0 | rfl | (exfalso; omega) | assumption | (congr 1; omega) | (simp_all; done),
    fun p1 hp1 k1 hk1 => by
      have g0 := hI.2.2.2.2.2.2.2.2.2.2.2.2.2.1 p1 hp1 k1 hk1
      simp only [mm_up, u3, u1, true_and, and_true, false_and, and_false, and_self, if_true, if_false] <;> (repeat' split) <;> first | exact g0 | rfl | (exfalso; omega) | assumption | (congr 1; omega) | (simp_all; done),
    fun p1 hp1 k1 hk1 => by
      have g0 := hI.2.2.2.2.2.2.2.2.2.2.2.2.2.2.1 p1 hp1 k1 hk1
      simp only [mm_up, u3, u1, true_and, and_true, false_and, and_false, and_self, if_true, if_false] <;> (repeat' split) <;> first | exact g0 | rfl | (exfalso; omega) | assumption | (congr 1; omega) | (simp_all; done),
    fun p1 hp1 => by
      have g0 := hI.2.2.2.2.2.2.2.2.2.2.2.2.2.2.2.1 p1 hp1
      simp only [mm_up, u3, u1, true_and, and_true, false_and, and_false, and_self, if_true, if_false] <;> (repeat' split) <;> first | exact g0 | rfl | (exfalso; omega) | assumption | (congr 1; omega) | (simp_all; done),
    fun p1 hp1 k1 hk1 => by
      have g0 := hI.2.2.2.2.2.2.2.2.2.2.2.2.2.2.2.2.1 p1 hp1 k1 hk1
      simp only [mm_up, u3, u1, true_and, and_true, false_and, and_false, and_self, if_true, if_false] <;> (repeat' split) <;> first | exact g0 | rfl | (exfalso; omega) | assumption | (congr 1; omega) | (simp_all; done),
    fun p1 hp1 k1 hk1 => by
      have g0 := hI.2.2.2.2.2.2.2.2.2.2.2.2.2.2.2.2.2.1 p1 hp1 k1 hk1
      simp only [mm_up, u3, u1, true_and, and_true, false_and, and_false, and_self, if_true, if_false] <;> (repeat' split) <;> first | exact g0 | rfl | (exfalso; omega) | assumption | (congr 1; omega) | (simp_all; done),
    fun p1 hp1 k1 hk1 => by
      have g0 := hI.2.2.2.2.2.2.2.2.2.2.2.2.2.2.2.2.2.2.1 p1 hp1 k1 hk1
      simp only [mm_up, u3, u1, true_and, and_true, false_and, and_false, and_self, if_true, if_false] <;> (repeat' split) <;> first | exact g0 | rfl | (exfalso; omega) | assumption | (congr 1; omega) | (simp_all; done),
    fun p1 hp1 k1 hk1 => by
      have g0 := hI.2.2.2.2.2.2.2.2.2.2.2.2.2.2.2.2.2.2.2.1 p1 hp1 k1 hk1
      simp only [mm_up, u3, u1, true_and, and_true, false_and, and_false, and_self, if_true, if_false] <;> (repeat' split) <;> first | exact g0 | rfl | (exfalso; omega) | assumption | (congr 1; omega) | (simp_all; done),
    fun t1 ht1 k1 hk1 => by
      have g0 := hI.2.2.2.2.2.2.2.2.2.2.2.2.2.2.2.2.2.2.2.2.1 t1 ht1 k1 hk1
      simp only [mm_up, u3, u1, true_and, and_true, false_and, and_false, and_self, if_true, if_false] <;> (repeat' split) <;> first | exact g0 | rfl | (exfalso; omega) | assumption | (congr 1; omega) | (simp_all; done),
    fun t1 ht1 => by
      have g0 := hI.2.2.2.2.2.2.2.2.2.2.2.2.2.2.2.2.2.2.2.2.2.1 t1 ht1
      simp only [mm_up, u3, u1, true_and, and_true, false_and, and_false, and_self, if_true, if_false] <;> (repeat' split) <;> first | exact g0 | rfl | (exfalso; omega) | assumption | (congr 1; omega) | (simp_all; done),
    fun t1 ht1 => by
      have g0 := hI.2.2.2.2.2.2.2.2.2.2.2.2.2.2.2.2.2.2.2.2.2.2.1 t1 ht1
      simp only [mm_up, u3, u1, true_and, and_true, false_and, and_false, and_self, if_true, if_false] <;> (repeat' split) <;> first | exact g0 | rfl | (exfalso; omega) | assumption | (congr 1; omega) | (simp_all; done),
    fun t1 ht1 k1 hk1 => by
      have g0 := hI.2.2.2.2.2.2.2.2.2.2.2.2.2.2.2.2.2.2.2.2.2.2.2.1 t1 ht1 k1 hk1
      simp only [mm_up, u3, u1, true_and, and_true, false_and, and_false, and_self, if_true, if_false] <;> (repeat' split) <;> first | exact g0 | rfl | (exfalso; omega) | assumption | (congr 1; omega) | (simp_all; done),
    fun t1 ht1 k1 hk1 => by
      have g0 := hI.2.2.2.2.2.2.2.2.2.2.2.2.2.2.2.2.2.2.2.2.2.2.2.2.1 t1 ht1 k1 hk1
      simp only [mm_up, u3, u1, true_and, and_true, false_and, and_false, and_self, if_true, if_false] <;> (repeat' split) <;> first | exact g0 | rfl | (exfalso; omega) | assumption | (congr 1; omega) | (simp_all; done),
    fun t1 ht1 => by
      have g0 := hI.2.2.2.2.2.2.2.2.2.2.2.2.2.2.2.2.2.2.2.2.2.2.2.2.2.1 t1 ht1
      simp only [mm_up, u3, u1, true_and, and_true, false_and, and_false, and_self, if_true, if_false] <;> (repeat' split) <;> first | exact g0 | rfl | (exfalso; omega) | assumption | (congr 1; omega) | (simp_all; done),
    fun t1 ht1 => by
      have g0 := hI.2.2.2.2.2.2.2.2.2.2.2.2.2.2.2.2.2.2.2.2.2.2.2.2.2.2.1 t1 ht1
      simp only [mm_up, u3, u1, true_and, and_true, false_and, and_false, and_self, if_true, if_false] <;> (repeat' split) <;> first | exact g0 | rfl | (exfalso; omega) | assumption | (congr 1; omega) | (simp_all; done),
    fun t1 ht1 => by
      have g0 := hI.2.2.2.2.2.2.2.2.2.2.2.2.2.2.2.2.2.2.2.2.2.2.2.2.2.2.2.1 t1 ht1
      simp only [mm_up, u3, u1, true_and, and_true, false_and, and_false, and_self, if_true, if_false] <;> (repeat' split) <;> first | exact g0 | rfl | (exfalso; omega) | assumption | (congr 1; omega) | (simp_all; done),
    fun t1 ht1 => by
      have g0 := hI.2.2.2.2.2.2.2.2.2.2.2.2.2.2.2.2.2.2.2.2.2.2.2.2.2.2.2.2.1 t1 ht1
      simp only [mm_up, u3, u1, true_and, and_true, false_and, and_false, and_self, if_true, if_false] <;> (repeat' split) <;> first | exact g0 | rfl | (exfalso; omega) | assumption | (congr 1; omega) | (simp_all; done),
    fun t1 ht1 => by
      have g0 := hI.2.2.2.2.2.2.2.2.2.2.2.2.2.2.2.2.2.2.2.2.2.2.2.2.2.2.2.2.2.1 t1 ht1
      simp only [mm_up, u3, u1, true_and, and_true, false_and, and_false, and_self, if_true, if_false] <;> (repeat' split) <;> first | exact g0 | rfl | (exfalso; omega) | assumption | (congr 1; omega) | (simp_all; done),
    fun t1 ht1 => by
      have g0 := hI.2.2.2.2.2.2.2.2.2.2.2.2.2.2.2.2.2.2.2.2.2.2.2.2.2.2.2.2.2.2 t1 ht1
      simp only [mm_up, u3, u1, true_and, and_true, false_and, and_false, and_self, if_true, if_false] <;> (repeat' split) <;> first | exact g0 | rfl | (exfalso; omega) | assumption | (congr 1; omega) | (simp_all; done)⟩⟩
theorem ev_gK5 {Y : mm_Y} {μ0 : mm_M} {rem : List mm_E} {L : mm_L} {st : List mm_V} {μ : mm_M} {Post : Option mm_V → mm_M → Prop} (bs : List Bool) (os : List (Option Nat)) {e2 : mm_E} {rem2 : List mm_E} {L2 : mm_L} {st2 : List mm_V} {μ2 : mm_M} {P2 : Prop} (h : mm_go 5000 (mm_co Y) rem L st μ bs os True = some (e2 :: rem2, L2, st2, μ2, P2)) (k : Ev Y μ0 (e2 :: rem2) L2 st2 μ2 Post) (hp : P2 := by (repeat' apply And.intro) <;> first | exact trivial | assumption | rfl | decide | omega | (simp (disch := first | assumption | omega | decide) only [i_add, n_cl, nI_and7, nI_and3, v_in, i_eq, i_lt, i_le, i_eq0, i_lt0, i_ge0, i_gt0, i_le0, lg_cmp_eq, lg_cmp_ge, lg_cmp_gt, lg_cmp_le, lg_cmp_lt, zb_e0, zb_n0, Classical.not_not, up_ne, Nat.zero_add, Nat.add_zero, rc_num hC, rc_hol hC, rc_who hC, rc_nn hC, rc_dbl hC, rc_flt hC, rc_rea hC, rc_xx hC, rc_ff hC, rc_par hC, rc_nxt hC, rc_lin hC, rc_thg hC, rc_prg hC, rc_str hC, rc_pix hC, rc_six hC, rc_own hC, rc_tim hC, rc_mad hC, rc_psz hC, rc_phn hC, rc_pop hC, rc_paa hC, rc_pbb hC, rc_pcc hC, rc_hfr hC, rc_hto hC, rc_hfl hC, rc_hpl hC, rc_dep hC, rc_pla hC, rc_don hC, rc_fai hC, rc_fno hC, rc_lat hC, rc_lpr hC, rc_lpl hC, rc_wan hC, rc_cal hC, cl_ne, tR_s, tR_n, eI_s, eI_n, e_nm, e_mm, lN_i, l_lt, l_le, l_eq, l_z, lN_t, nI_tl, n_s1, i_sub, eLi, eL_s, eL_n, up_eq, mkz, i_l1, i_l2, i_l3, n_ti, i_tl2, e_mn, Nat.add_sub_cancel, mx0, s11, sa1, if1, ite_self, k4, *] <;> first | assumption | omega | decide)) : Ev Y μ0 rem L st μ Post := ev_go bs os h hp k
theorem ev_bK5 {Y : mm_Y} {μ0 : mm_M} {rem : List mm_E} {L : mm_L} {st : List mm_V} {μ : mm_M} {Post : Option mm_V → mm_M → Prop} {e2 e3 : mm_E} {rem2 rem3 : List mm_E} {L2 L3 : mm_L} {st2 st3 : List mm_V} {μ2 μ3 : mm_M} {c c2 d d2 : Prop} (hT : mm_go 1 (mm_co Y) rem L st μ [true] [] True = some (e2 :: rem2, L2, st2, μ2, True ∧ c)) (hF : mm_go 1 (mm_co Y) rem L st μ [false] [] True = some (e3 :: rem3, L3, st3, μ3, True ∧ c2)) (kt : d → Ev Y μ0 (e2 :: rem2) L2 st2 μ2 Post) (kf : d2 → Ev Y μ0 (e3 :: rem3) L3 st3 μ3 Post) (hc : ¬ c → c2 := by first | exact id | exact Classical.not_not.mp) (g1 : c → d := by intro hh; (try simp (disch := first | assumption | omega | decide) only [i_add, n_cl, nI_and7, nI_and3, v_in, i_eq, i_lt, i_le, i_eq0, i_lt0, i_ge0, i_gt0, i_le0, lg_cmp_eq, lg_cmp_ge, lg_cmp_gt, lg_cmp_le, lg_cmp_lt, zb_e0, zb_n0, Classical.not_not, up_ne, Nat.zero_add, Nat.add_zero, rc_num hC, rc_hol hC, rc_who hC, rc_nn hC, rc_dbl hC, rc_flt hC, rc_rea hC, rc_xx hC, rc_ff hC, rc_par hC, rc_nxt hC, rc_lin hC, rc_thg hC, rc_prg hC, rc_str hC, rc_pix hC, rc_six hC, rc_own hC, rc_tim hC, rc_mad hC, rc_psz hC, rc_phn hC, rc_pop hC, rc_paa hC, rc_pbb hC, rc_pcc hC, rc_hfr hC, rc_hto hC, rc_hfl hC, rc_hpl hC, rc_dep hC, rc_pla hC, rc_don hC, rc_fai hC, rc_fno hC, rc_lat hC, rc_lpr hC, rc_lpl hC, rc_wan hC, rc_cal hC, cl_ne, tR_s, tR_n, eI_s, eI_n, e_nm, e_mm, lN_i, l_lt, l_le, l_eq, l_z, lN_t, nI_tl, n_s1, i_sub, eLi, eL_s, eL_n, up_eq, mkz, i_l1, i_l2, i_l3, n_ti, i_tl2, e_mn, Nat.add_sub_cancel, mx0, s11, sa1, if1, ite_self, k4, *] at hh); exact hh) (g2 : c2 → d2 := by intro hh; (try simp (disch := first | assumption | omega | decide) only [i_add, n_cl, nI_and7, nI_and3, v_in, i_eq, i_lt, i_le, i_eq0, i_lt0, i_ge0, i_gt0, i_le0, lg_cmp_eq, lg_cmp_ge, lg_cmp_gt, lg_cmp_le, lg_cmp_lt, zb_e0, zb_n0, Classical.not_not, up_ne, Nat.zero_add, Nat.add_zero, rc_num hC, rc_hol hC, rc_who hC, rc_nn hC, rc_dbl hC, rc_flt hC, rc_rea hC, rc_xx hC, rc_ff hC, rc_par hC, rc_nxt hC, rc_lin hC, rc_thg hC, rc_prg hC, rc_str hC, rc_pix hC, rc_six hC, rc_own hC, rc_tim hC, rc_mad hC, rc_psz hC, rc_phn hC, rc_pop hC, rc_paa hC, rc_pbb hC, rc_pcc hC, rc_hfr hC, rc_hto hC, rc_hfl hC, rc_hpl hC, rc_dep hC, rc_pla hC, rc_don hC, rc_fai hC, rc_fno hC, rc_lat hC, rc_lpr hC, rc_lpl hC, rc_wan hC, rc_cal hC, cl_ne, tR_s, tR_n, eI_s, eI_n, e_nm, e_mm, lN_i, l_lt, l_le, l_eq, l_z, lN_t, nI_tl, n_s1, i_sub, eLi, eL_s, eL_n, up_eq, mkz, i_l1, i_l2, i_l3, n_ti, i_tl2, e_mn, Nat.add_sub_cancel, mx0, s11, sa1, if1, ite_self, k4, *] at hh); exact hh) : Ev Y μ0 rem L st μ Post := ev_br hT hF hc (fun h => kt (g1 h)) (fun h => kf (g2 h))
theorem lf_K5 {p : Prop} (h : p := by first | rfl | assumption | (simp (disch := first | assumption | omega | decide) only [i_add, n_cl, nI_and7, nI_and3, v_in, i_eq, i_lt, i_le, i_eq0, i_lt0, i_ge0, i_gt0, i_le0, lg_cmp_eq, lg_cmp_ge, lg_cmp_gt, lg_cmp_le, lg_cmp_lt, zb_e0, zb_n0, Classical.not_not, up_ne, Nat.zero_add, Nat.add_zero, rc_num hC, rc_hol hC, rc_who hC, rc_nn hC, rc_dbl hC, rc_flt hC, rc_rea hC, rc_xx hC, rc_ff hC, rc_par hC, rc_nxt hC, rc_lin hC, rc_thg hC, rc_prg hC, rc_str hC, rc_pix hC, rc_six hC, rc_own hC, rc_tim hC, rc_mad hC, rc_psz hC, rc_phn hC, rc_pop hC, rc_paa hC, rc_pbb hC, rc_pcc hC, rc_hfr hC, rc_hto hC, rc_hfl hC, rc_hpl hC, rc_dep hC, rc_pla hC, rc_don hC, rc_fai hC, rc_fno hC, rc_lat hC, rc_lpr hC, rc_lpl hC, rc_wan hC, rc_cal hC, cl_ne, tR_s, tR_n, eI_s, eI_n, e_nm, e_mm, lN_i, l_lt, l_le, l_eq, l_z, lN_t, nI_tl, n_s1, i_sub, eLi, eL_s, eL_n, up_eq, mkz, i_l1, i_l2, i_l3, n_ti, i_tl2, e_mn, Nat.add_sub_cancel, mx0, s11, sa1, if1, ite_self, k4, *] <;> first | rfl | assumption | omega | decide)) : p := h
set_option maxHeartbeats 4000000 in
theorem SB1 {ci : Nat → Nat → Nat → Int32} {co : Nat → Option Nat} {xj : Nat → Nat → Nat → Int64} {xd : Nat → Nat → Nat → UInt64} {xf : Nat → Nat → Nat → UInt32} {xo : Nat → Nat → Nat → Option Nat} {xi : Nat → Nat → Nat → Int32} {xn : Nat → Nat → Nat → Nat} {cn : Nat → Nat → Nat → Nat} {t d : Nat} (ht : t < 3) (hI : IC ci cn) (hd : cn 0 t 0 = d + 1) (hp : cn 2 t d < cn 3 (cn 1 t d) 0) {K : Nat → Nat} {I : Nat → Nat → Int32} {J : Nat → Nat → Int64} {F : Nat → Nat → UInt32} {D : Nat → Nat → UInt64} {R : Nat → Nat → Option Nat} {nx sl : Nat} (hC : RC ci cn co xj xd xf xo xi xn I J F D R nx sl) {μ0 : mm_M} {Post : Option mm_V → mm_M → Prop} (k : Ev Y_MV_step μ0 (mm_to (mm_co Y_MV_step) 52) [(0, vr 2 53), (1, vr 8 (32 + 7 * t)), (2, vr 5 (14 + 3 * (cn 1 t d))), (3, vi (nI (cn 2 t d))), (4, vi (nI (cn 5 (cn 1 t d) (cn 2 t d)))), (5, vi (ci 6 (cn 1 t d) (cn 2 t d))), (6, vi (ci 7 (cn 1 t d) (cn 2 t d))), (7, vi (ci 8 (cn 1 t d) (cn 2 t d)))] [vi (nI 58), vi (nI (cn 5 (cn 1 t d) (cn 2 t d)))] (K, I, J, F, D, R, nx, sl) Post) : Ev Y_MV_step μ0 (mm_to (mm_co Y_MV_step) 4) [(0, vr 2 53), (1, vr 8 (32 + 7 * t))] [vr 5 (14 + 3 * cn 1 t d)] (K, I, J, F, D, R, nx, sl) Post := by
  have i0 := hI.1 t ht
  have i1 := hI.2.1 t ht d (by omega)
  have i2 := hI.2.2.1 (cn 1 t d) i1.1
  refine ev_g0 rfl ?_
  refine ev_inV 0 k_MV_31 h_SD_place rfl rfl rfl rfl rfl ⟨by decide, by decide⟩ rfl ?_
  refine ev_gK5 [false, false] [] rfl ?_
  refine ev_reti rfl ?_
  refine ev_g0 rfl ?_
  refine ev_inV 2 k_MV_37 h_PR_part rfl rfl rfl rfl rfl ⟨by decide, by decide⟩ rfl ?_
  refine ev_gK5 [] [] rfl ?_
  refine ev_reti rfl ?_
  refine ev_g0 rfl ?_
  refine ev_inV 2 k_MV_37 h_PR_part rfl rfl rfl rfl rfl ⟨by decide, by decide⟩ rfl ?_
  refine ev_gK5 [] [] rfl ?_
  refine ev_reti rfl ?_
  refine ev_g0 rfl ?_
  refine ev_inV 2 k_MV_37 h_PR_part rfl rfl rfl rfl rfl ⟨by decide, by decide⟩ rfl ?_
  refine ev_gK5 [] [] rfl ?_
  refine ev_reti rfl ?_
  refine ev_g0 rfl ?_
  refine ev_inV 2 k_MV_37 h_PR_part rfl rfl rfl rfl rfl ⟨by decide, by decide⟩ rfl ?_
  refine ev_gK5 [] [] rfl ?_
  refine ev_reti rfl ?_
  refine ev_g0 rfl ?_
  exact ev_cg2 lf_K5 lf_K5 rfl k
theorem ev_gL5 {Y : mm_Y} {μ0 : mm_M} {rem : List mm_E} {L : mm_L} {st : List mm_V} {μ : mm_M} {Post : Option mm_V → mm_M → Prop} (bs : List Bool) (os : List (Option Nat)) {e2 : mm_E} {rem2 : List mm_E} {L2 : mm_L} {st2 : List mm_V} {μ2 : mm_M} {P2 : Prop} (h : mm_go 5000 (mm_co Y) rem L st μ bs os True = some (e2 :: rem2, L2, st2, μ2, P2)) (k : Ev Y μ0 (e2 :: rem2) L2 st2 μ2 Post) (hp : P2 := by (repeat' apply And.intro) <;> first | exact trivial | assumption | rfl | decide | omega | (simp (disch := first | assumption | omega | decide) only [i_add, i_mul, n_cl, nI_and7, nI_and3, v_in, i_eq, i_lt, i_le, i_eq0, i_lt0, i_ge0, i_gt0, i_le0, lg_cmp_eq, lg_cmp_ge, lg_cmp_gt, lg_cmp_le, lg_cmp_lt, zb_e0, zb_n0, Classical.not_not, up_ne, Nat.zero_add, Nat.add_zero, rm_num hM, rm_mad hM, rm_own hM, rm_tim hM, rm_hol hM, rm_psz hM, rm_pop hM, rm_paa hM, rm_pbb hM, rm_pcc hM, rm_phn hM, rm_hfr hM, rm_hto hM, rm_hfl hM, rm_hpl hM, rm_isn hM, rm_dep hM, rm_cal hM, rm_pla hM, rm_don hM, rm_fai hM, rm_lat hM, rm_lpr hM, rm_lpl hM, rm_wan hM, rm_cal0 hM, rm_pla0 hM, cl_ne, tR_s, tR_n, eI_s, eI_n, e_nm, e_mm, lN_i, l_lt, l_le, l_eq, l_z, lN_t, nI_tl, n_s1, i_sub, eLi, eL_s, eL_n, up_eq, mkz, i_l1, i_l2, i_l3, n_ti, i_tl2, e_mn, Nat.add_sub_cancel, mx0, s11, sa1, if1, ite_self, *] <;> first | assumption | omega | decide)) : Ev Y μ0 rem L st μ Post := ev_go bs os h hp k
theorem ev_bL5 {Y : mm_Y} {μ0 : mm_M} {rem : List mm_E} {L : mm_L} {st : List mm_V} {μ : mm_M} {Post : Option mm_V → mm_M → Prop} {e2 e3 : mm_E} {rem2 rem3 : List mm_E} {L2 L3 : mm_L} {st2 st3 : List mm_V} {μ2 μ3 : mm_M} {c c2 d d2 : Prop} (hT : mm_go 1 (mm_co Y) rem L st μ [true] [] True = some (e2 :: rem2, L2, st2, μ2, True ∧ c)) (hF : mm_go 1 (mm_co Y) rem L st μ [false] [] True = some (e3 :: rem3, L3, st3, μ3, True ∧ c2)) (kt : d → Ev Y μ0 (e2 :: rem2) L2 st2 μ2 Post) (kf : d2 → Ev Y μ0 (e3 :: rem3) L3 st3 μ3 Post) (hc : ¬ c → c2 := by first | exact id | exact Classical.not_not.mp) (g1 : c → d := by intro hh; (try simp (disch := first | assumption | omega | decide) only [i_add, i_mul, n_cl, nI_and7, nI_and3, v_in, i_eq, i_lt, i_le, i_eq0, i_lt0, i_ge0, i_gt0, i_le0, lg_cmp_eq, lg_cmp_ge, lg_cmp_gt, lg_cmp_le, lg_cmp_lt, zb_e0, zb_n0, Classical.not_not, up_ne, Nat.zero_add, Nat.add_zero, rm_num hM, rm_mad hM, rm_own hM, rm_tim hM, rm_hol hM, rm_psz hM, rm_pop hM, rm_paa hM, rm_pbb hM, rm_pcc hM, rm_phn hM, rm_hfr hM, rm_hto hM, rm_hfl hM, rm_hpl hM, rm_isn hM, rm_dep hM, rm_cal hM, rm_pla hM, rm_don hM, rm_fai hM, rm_lat hM, rm_lpr hM, rm_lpl hM, rm_wan hM, rm_cal0 hM, rm_pla0 hM, cl_ne, tR_s, tR_n, eI_s, eI_n, e_nm, e_mm, lN_i, l_lt, l_le, l_eq, l_z, lN_t, nI_tl, n_s1, i_sub, eLi, eL_s, eL_n, up_eq, mkz, i_l1, i_l2, i_l3, n_ti, i_tl2, e_mn, Nat.add_sub_cancel, mx0, s11, sa1, if1, ite_self, *] at hh); exact hh) (g2 : c2 → d2 := by intro hh; (try simp (disch := first | assumption | omega | decide) only [i_add, i_mul, n_cl, nI_and7, nI_and3, v_in, i_eq, i_lt, i_le, i_eq0, i_lt0, i_ge0, i_gt0, i_le0, lg_cmp_eq, lg_cmp_ge, lg_cmp_gt, lg_cmp_le, lg_cmp_lt, zb_e0, zb_n0, Classical.not_not, up_ne, Nat.zero_add, Nat.add_zero, rm_num hM, rm_mad hM, rm_own hM, rm_tim hM, rm_hol hM, rm_psz hM, rm_pop hM, rm_paa hM, rm_pbb hM, rm_pcc hM, rm_phn hM, rm_hfr hM, rm_hto hM, rm_hfl hM, rm_hpl hM, rm_isn hM, rm_dep hM, rm_cal hM, rm_pla hM, rm_don hM, rm_fai hM, rm_lat hM, rm_lpr hM, rm_lpl hM, rm_wan hM, rm_cal0 hM, rm_pla0 hM, cl_ne, tR_s, tR_n, eI_s, eI_n, e_nm, e_mm, lN_i, l_lt, l_le, l_eq, l_z, lN_t, nI_tl, n_s1, i_sub, eLi, eL_s, eL_n, up_eq, mkz, i_l1, i_l2, i_l3, n_ti, i_tl2, e_mn, Nat.add_sub_cancel, mx0, s11, sa1, if1, ite_self, *] at hh); exact hh) : Ev Y μ0 rem L st μ Post := ev_br hT hF hc (fun h => kt (g1 h)) (fun h => kf (g2 h))
theorem lf_L5 {p : Prop} (h : p := by first | rfl | assumption | (simp (disch := first | assumption | omega | decide) only [i_add, i_mul, n_cl, nI_and7, nI_and3, v_in, i_eq, i_lt, i_le, i_eq0, i_lt0, i_ge0, i_gt0, i_le0, lg_cmp_eq, lg_cmp_ge, lg_cmp_gt, lg_cmp_le, lg_cmp_lt, zb_e0, zb_n0, Classical.not_not, up_ne, Nat.zero_add, Nat.add_zero, rm_num hM, rm_mad hM, rm_own hM, rm_tim hM, rm_hol hM, rm_psz hM, rm_pop hM, rm_paa hM, rm_pbb hM, rm_pcc hM, rm_phn hM, rm_hfr hM, rm_hto hM, rm_hfl hM, rm_hpl hM, rm_isn hM, rm_dep hM, rm_cal hM, rm_pla hM, rm_don hM, rm_fai hM, rm_lat hM, rm_lpr hM, rm_lpl hM, rm_wan hM, rm_cal0 hM, rm_pla0 hM, cl_ne, tR_s, tR_n, eI_s, eI_n, e_nm, e_mm, lN_i, l_lt, l_le, l_eq, l_z, lN_t, nI_tl, n_s1, i_sub, eLi, eL_s, eL_n, up_eq, mkz, i_l1, i_l2, i_l3, n_ti, i_tl2, e_mn, Nat.add_sub_cancel, mx0, s11, sa1, if1, ite_self, *] <;> first | rfl | assumption | omega | decide)) : p := h
set_option maxHeartbeats 4000000 in
theorem DB {ci : Nat → Nat → Nat → Int32} {co : Nat → Option Nat} {xj : Nat → Nat → Nat → Int64} {xd : Nat → Nat → Nat → UInt64} {xf : Nat → Nat → Nat → UInt32} {xo : Nat → Nat → Nat → Option Nat} {xi : Nat → Nat → Nat → Int32} {xn : Nat → Nat → Nat → Nat} {cn : Nat → Nat → Nat → Nat} {t d : Nat} (ht : t < 3) (hI : IC ci cn) (hd : cn 0 t 0 = d + 1) (hp : cn 2 t d < cn 3 (cn 1 t d) 0) {Km : Nat → Nat} {Im : Nat → Nat → Int32} {Jm : Nat → Nat → Int64} {Fm : Nat → Nat → UInt32} {Dm : Nat → Nat → UInt64} {Rm : Nat → Nat → Option Nat} {nxm slm : Nat} (hM : RM ci cn co xj xd xf xo xi xn Im Jm Dm) {Post : Option mm_V → mm_M → Prop} (k : Ev Y_MM_does (Km, Im, Jm, Fm, Dm, Rm, nxm, slm) (mm_to (mm_co Y_MM_does) 95) [(0, vr 11 6), (1, vi (nI t)), (2, vi (nI (8 * t + d))), (3, vi (nI (40 * cn 1 t d + cn 2 t d))), (4, vi (nI (cn 5 (cn 1 t d) (cn 2 t d))))] [vi (nI 62), vi (nI (cn 5 (cn 1 t d) (cn 2 t d)))] (Km, (mm_up (mm_up (mm_up (mm_up (mm_up (mm_up Im 6 39 (nI t)) 6 40 (ci 6 (cn 1 t d) (cn 2 t d))) 6 41 (ci 7 (cn 1 t d) (cn 2 t d))) 6 42 (ci 8 (cn 1 t d) (cn 2 t d))) 6 43 (nI 0)) 6 44 (nI (cn 2 t d + 1))), Jm, Fm, Dm, Rm, nxm, slm) Post) : Ct Y_MM_does [vr 11 6, vi (nI t)] (Km, Im, Jm, Fm, Dm, Rm, nxm, slm) Post := by
  have i0 := hI.1 t ht
  have i1 := hI.2.1 t ht d (by omega)
  have i2 := hI.2.2.1 (cn 1 t d) i1.1
  refine ct_of h_MM_does rfl rfl rfl ?_
  refine ev_gL5 [] [] rfl ?_
  refine ev_cg2 lf_L5 lf_L5 ?_ k
  show (Km, _, Jm, Fm, Dm, Rm, nxm, slm) = _
  refine congrArg (fun z => (Km, z, Jm, Fm, Dm, Rm, nxm, slm)) ?_
  exact lf_L5
set_option maxHeartbeats 4000000 in
theorem DE0 {ci : Nat → Nat → Nat → Int32} {co : Nat → Option Nat} {xj : Nat → Nat → Nat → Int64} {xd : Nat → Nat → Nat → UInt64} {xf : Nat → Nat → Nat → UInt32} {xo : Nat → Nat → Nat → Option Nat} {xi : Nat → Nat → Nat → Int32} {xn : Nat → Nat → Nat → Nat} {cn : Nat → Nat → Nat → Nat} {t d gv : Nat} {at1 op1 : Int32} (ht : t < 3) (hI : IC ci cn) (hd : cn 0 t 0 = d + 1) (hgv : gv ≤ 40) {Km : Nat → Nat} {Im : Nat → Nat → Int32} {Jm : Nat → Nat → Int64} {Fm : Nat → Nat → UInt32} {Dm : Nat → Nat → UInt64} {Rm : Nat → Nat → Option Nat} {nxm slm : Nat} (hM : RM ci cn co xj xd xf xo xi xn Im Jm Dm) (h44 : Im 6 44 = nI gv) {μ0 : mm_M} {Post : Option mm_V → mm_M → Prop} (k : ∀ I2 : Nat → Nat → Int32, (∀ j, I2 6 j = Im 6 j) → RM ci (u3 cn 2 t d gv) co xj xd xf xo xi xn I2 Jm Dm → Post (some (vi (nI 1))) (Km, I2, Jm, Fm, Dm, Rm, nxm, slm)) : Ev Y_MM_does μ0 (mm_to (mm_co Y_MM_does) 298) [(0, vr 11 6), (1, vi (nI t)), (2, vi (nI (8 * t + d))), (3, vi at1), (4, vi op1)] [vi (nI 0), vi (nI (8 * t + d)), vr 41 37] (Km, Im, Jm, Fm, Dm, Rm, nxm, slm) Post := by
  have i0 := hI.1 t ht
  have i1 := hI.2.1 t ht d (by omega)
  refine ev_gL5 [false] [] rfl ?_
  refine ev_retz rfl (by first | decide | exact zb_01 _) ?_
  exact k _ (fun j => up_ne (by rintro ⟨g, -⟩; cases g)) (MU_pla hM ht (by omega) hI.1 lf_L5 lf_L5)
set_option maxHeartbeats 4000000 in
theorem DE1 {ci : Nat → Nat → Nat → Int32} {co : Nat → Option Nat} {xj : Nat → Nat → Nat → Int64} {xd : Nat → Nat → Nat → UInt64} {xf : Nat → Nat → Nat → UInt32} {xo : Nat → Nat → Nat → Option Nat} {xi : Nat → Nat → Nat → Int32} {xn : Nat → Nat → Nat → Nat} {cn : Nat → Nat → Nat → Nat} {t d gv : Nat} {at1 op1 bd : Int32} (ht : t < 3) (hI : IC ci cn) (hd : cn 0 t 0 = d + 1) (hbd : ¬ bd = 0) (hgv : gv ≤ 40) {Km : Nat → Nat} {Im : Nat → Nat → Int32} {Jm : Nat → Nat → Int64} {Fm : Nat → Nat → UInt32} {Dm : Nat → Nat → UInt64} {Rm : Nat → Nat → Option Nat} {nxm slm : Nat} (hM : RM ci cn co xj xd xf xo xi xn Im Jm Dm) (h44 : Im 6 44 = nI gv) {μ0 : mm_M} {Post : Option mm_V → mm_M → Prop} (k : ∀ I2 : Nat → Nat → Int32, (∀ j, I2 6 j = Im 6 j) → RM ci cn co xj xd xf xo xi xn I2 Jm Dm → Post (some (vi (nI 1))) (Km, I2, Jm, Fm, Dm, Rm, nxm, slm)) : Ev Y_MM_does μ0 (mm_to (mm_co Y_MM_does) 298) [(0, vr 11 6), (1, vi (nI t)), (2, vi (nI (8 * t + d))), (3, vi at1), (4, vi op1)] [vi (bd), vi (nI (8 * t + d)), vr 41 37] (Km, Im, Jm, Fm, Dm, Rm, nxm, slm) Post := by
  have i0 := hI.1 t ht
  have i1 := hI.2.1 t ht d (by omega)
  refine ev_gL5 [true] [] rfl ?_
  refine ev_retz rfl (by first | decide | exact zb_01 _) ?_
  refine k _ (fun j => up_ne (by rintro ⟨g, -⟩; cases g)) ?_
  have h9 := MU_pla (v := cn 2 t d) hM ht (k := d) (by omega) hI.1 (j := (nI (8 * t + d)).toNatClampNeg) (z := Im 37 (nI (8 * t + d)).toNatClampNeg) lf_L5 lf_L5
  rw [u3_id rfl] at h9
  exact h9
theorem ev_gK6 {Y : mm_Y} {μ0 : mm_M} {rem : List mm_E} {L : mm_L} {st : List mm_V} {μ : mm_M} {Post : Option mm_V → mm_M → Prop} (bs : List Bool) (os : List (Option Nat)) {e2 : mm_E} {rem2 : List mm_E} {L2 : mm_L} {st2 : List mm_V} {μ2 : mm_M} {P2 : Prop} (h : mm_go 5000 (mm_co Y) rem L st μ bs os True = some (e2 :: rem2, L2, st2, μ2, P2)) (k : Ev Y μ0 (e2 :: rem2) L2 st2 μ2 Post) (hp : P2 := by (repeat' apply And.intro) <;> first | exact trivial | assumption | rfl | decide | omega | (simp (disch := first | assumption | omega | decide) only [i_add, i_mul, n_cl, nI_and7, nI_and3, v_in, i_eq, i_lt, i_le, i_eq0, i_lt0, i_ge0, i_gt0, i_le0, lg_cmp_eq, lg_cmp_ge, lg_cmp_gt, lg_cmp_le, lg_cmp_lt, zb_e0, zb_n0, Classical.not_not, up_ne, Nat.zero_add, Nat.add_zero, rc_num hC, rc_hol hC, rc_who hC, rc_nn hC, rc_dbl hC, rc_flt hC, rc_rea hC, rc_xx hC, rc_ff hC, rc_par hC, rc_nxt hC, rc_lin hC, rc_thg hC, rc_prg hC, rc_str hC, rc_pix hC, rc_six hC, rc_own hC, rc_tim hC, rc_mad hC, rc_psz hC, rc_phn hC, rc_pop hC, rc_paa hC, rc_pbb hC, rc_pcc hC, rc_hfr hC, rc_hto hC, rc_hfl hC, rc_hpl hC, rc_dep hC, rc_pla hC, rc_don hC, rc_fai hC, rc_fno hC, rc_lat hC, rc_lpr hC, rc_lpl hC, rc_wan hC, rc_cal hC, cl_ne, tR_s, tR_n, eI_s, eI_n, e_nm, e_mm, lN_i, l_lt, l_le, l_eq, l_z, lN_t, nI_tl, n_s1, i_sub, eLi, eL_s, eL_n, up_eq, mkz, i_l1, i_l2, i_l3, n_ti, i_tl2, e_mn, Nat.add_sub_cancel, mx0, s11, sa1, if1, ite_self, *] <;> first | assumption | omega | decide)) : Ev Y μ0 rem L st μ Post := ev_go bs os h hp k
theorem ev_bK6 {Y : mm_Y} {μ0 : mm_M} {rem : List mm_E} {L : mm_L} {st : List mm_V} {μ : mm_M} {Post : Option mm_V → mm_M → Prop} {e2 e3 : mm_E} {rem2 rem3 : List mm_E} {L2 L3 : mm_L} {st2 st3 : List mm_V} {μ2 μ3 : mm_M} {c c2 d d2 : Prop} (hT : mm_go 1 (mm_co Y) rem L st μ [true] [] True = some (e2 :: rem2, L2, st2, μ2, True ∧ c)) (hF : mm_go 1 (mm_co Y) rem L st μ [false] [] True = some (e3 :: rem3, L3, st3, μ3, True ∧ c2)) (kt : d → Ev Y μ0 (e2 :: rem2) L2 st2 μ2 Post) (kf : d2 → Ev Y μ0 (e3 :: rem3) L3 st3 μ3 Post) (hc : ¬ c → c2 := by first | exact id | exact Classical.not_not.mp) (g1 : c → d := by intro hh; (try simp (disch := first | assumption | omega | decide) only [i_add, i_mul, n_cl, nI_and7, nI_and3, v_in, i_eq, i_lt, i_le, i_eq0, i_lt0, i_ge0, i_gt0, i_le0, lg_cmp_eq, lg_cmp_ge, lg_cmp_gt, lg_cmp_le, lg_cmp_lt, zb_e0, zb_n0, Classical.not_not, up_ne, Nat.zero_add, Nat.add_zero, rc_num hC, rc_hol hC, rc_who hC, rc_nn hC, rc_dbl hC, rc_flt hC, rc_rea hC, rc_xx hC, rc_ff hC, rc_par hC, rc_nxt hC, rc_lin hC, rc_thg hC, rc_prg hC, rc_str hC, rc_pix hC, rc_six hC, rc_own hC, rc_tim hC, rc_mad hC, rc_psz hC, rc_phn hC, rc_pop hC, rc_paa hC, rc_pbb hC, rc_pcc hC, rc_hfr hC, rc_hto hC, rc_hfl hC, rc_hpl hC, rc_dep hC, rc_pla hC, rc_don hC, rc_fai hC, rc_fno hC, rc_lat hC, rc_lpr hC, rc_lpl hC, rc_wan hC, rc_cal hC, cl_ne, tR_s, tR_n, eI_s, eI_n, e_nm, e_mm, lN_i, l_lt, l_le, l_eq, l_z, lN_t, nI_tl, n_s1, i_sub, eLi, eL_s, eL_n, up_eq, mkz, i_l1, i_l2, i_l3, n_ti, i_tl2, e_mn, Nat.add_sub_cancel, mx0, s11, sa1, if1, ite_self, *] at hh); exact hh) (g2 : c2 → d2 := by intro hh; (try simp (disch := first | assumption | omega | decide) only [i_add, i_mul, n_cl, nI_and7, nI_and3, v_in, i_eq, i_lt, i_le, i_eq0, i_lt0, i_ge0, i_gt0, i_le0, lg_cmp_eq, lg_cmp_ge, lg_cmp_gt, lg_cmp_le, lg_cmp_lt, zb_e0, zb_n0, Classical.not_not, up_ne, Nat.zero_add, Nat.add_zero, rc_num hC, rc_hol hC, rc_who hC, rc_nn hC, rc_dbl hC, rc_flt hC, rc_rea hC, rc_xx hC, rc_ff hC, rc_par hC, rc_nxt hC, rc_lin hC, rc_thg hC, rc_prg hC, rc_str hC, rc_pix hC, rc_six hC, rc_own hC, rc_tim hC, rc_mad hC, rc_psz hC, rc_phn hC, rc_pop hC, rc_paa hC, rc_pbb hC, rc_pcc hC, rc_hfr hC, rc_hto hC, rc_hfl hC, rc_hpl hC, rc_dep hC, rc_pla hC, rc_don hC, rc_fai hC, rc_fno hC, rc_lat hC, rc_lpr hC, rc_lpl hC, rc_wan hC, rc_cal hC, cl_ne, tR_s, tR_n, eI_s, eI_n, e_nm, e_mm, lN_i, l_lt, l_le, l_eq, l_z, lN_t, nI_tl, n_s1, i_sub, eLi, eL_s, eL_n, up_eq, mkz, i_l1, i_l2, i_l3, n_ti, i_tl2, e_mn, Nat.add_sub_cancel, mx0, s11, sa1, if1, ite_self, *] at hh); exact hh) : Ev Y μ0 rem L st μ Post := ev_br hT hF hc (fun h => kt (g1 h)) (fun h => kf (g2 h))
theorem lf_K6 {p : Prop} (h : p := by first | rfl | assumption | (simp (disch := first | assumption | omega | decide) only [i_add, i_mul, n_cl, nI_and7, nI_and3, v_in, i_eq, i_lt, i_le, i_eq0, i_lt0, i_ge0, i_gt0, i_le0, lg_cmp_eq, lg_cmp_ge, lg_cmp_gt, lg_cmp_le, lg_cmp_lt, zb_e0, zb_n0, Classical.not_not, up_ne, Nat.zero_add, Nat.add_zero, rc_num hC, rc_hol hC, rc_who hC, rc_nn hC, rc_dbl hC, rc_flt hC, rc_rea hC, rc_xx hC, rc_ff hC, rc_par hC, rc_nxt hC, rc_lin hC, rc_thg hC, rc_prg hC, rc_str hC, rc_pix hC, rc_six hC, rc_own hC, rc_tim hC, rc_mad hC, rc_psz hC, rc_phn hC, rc_pop hC, rc_paa hC, rc_pbb hC, rc_pcc hC, rc_hfr hC, rc_hto hC, rc_hfl hC, rc_hpl hC, rc_dep hC, rc_pla hC, rc_don hC, rc_fai hC, rc_fno hC, rc_lat hC, rc_lpr hC, rc_lpl hC, rc_wan hC, rc_cal hC, cl_ne, tR_s, tR_n, eI_s, eI_n, e_nm, e_mm, lN_i, l_lt, l_le, l_eq, l_z, lN_t, nI_tl, n_s1, i_sub, eLi, eL_s, eL_n, up_eq, mkz, i_l1, i_l2, i_l3, n_ti, i_tl2, e_mn, Nat.add_sub_cancel, mx0, s11, sa1, if1, ite_self, *] <;> first | rfl | assumption | omega | decide)) : p := h
set_option maxHeartbeats 4000000 in
theorem C_fail1 {ci : Nat → Nat → Nat → Int32} {co : Nat → Option Nat} {xj : Nat → Nat → Nat → Int64} {xd : Nat → Nat → Nat → UInt64} {xf : Nat → Nat → Nat → UInt32} {xo : Nat → Nat → Nat → Option Nat} {xi : Nat → Nat → Nat → Int32} {xn : Nat → Nat → Nat → Nat} {cn : Nat → Nat → Nat → Nat} {t d p fn : Nat} {f : Int32} (ht : t < 3) (hp6 : p < 6) (hI : IC ci cn) (hd : cn 0 t 0 = d + 1) (hfn : ci 5 t 0 = nI fn) {K : Nat → Nat} {I : Nat → Nat → Int32} {J : Nat → Nat → Int64} {F : Nat → Nat → UInt32} {D : Nat → Nat → UInt64} {R : Nat → Nat → Option Nat} {nx sl : Nat} (hC : RC ci cn co xj xd xf xo xi xn I J F D R nx sl) (hf : 20 ≤ fn ∧ fn < 9000) : Ct Y_MV_fail [vr 8 (32 + 7 * t), vr 5 (14 + 3 * p), vi f] (K, I, J, F, D, R, nx, sl) (fun r μ1 => r = some (vi (-(nI 21))) ∧ RC (u3 (u3 (u3 (u3 (u3 (u3 ci 1 t 0 (ci 1 t 0 + nI 1)) 5 t 0 (ci 5 t 0 + nI 1)) 2 t 0 f) 3 t 0 (nI p)) 4 t 0 (nI (cn 2 t d))) 2 t 0 (nI 11)) (u3 cn 0 t 0 0) co xj xd xf xo xi xn μ1.2.1 μ1.2.2.1 μ1.2.2.2.1 μ1.2.2.2.2.1 μ1.2.2.2.2.2.1 μ1.2.2.2.2.2.2.1 μ1.2.2.2.2.2.2.2) := by
  have i0 := hI.1 t ht
  have i1 := hI.2.1 t ht d (by omega)
  refine ct_of h_MV_fail rfl rfl rfl ?_
  refine ev_g0 rfl ?_
  refine ev_inV 2 k_MV_125 h_SD_note rfl rfl rfl rfl rfl ⟨by decide, by decide⟩ rfl ?_
  refine ev_g0 rfl ?_
  refine ev_inV 0 k_SD_58 h_SD_place rfl rfl rfl rfl rfl ⟨by decide, by decide⟩ rfl ?_
  refine ev_gK6 [false, false] [] rfl ?_
  refine ev_reti rfl ?_
  refine ev_g0 rfl ?_
  refine ev_ret rfl ?_
  refine ev_gK6 [false] [] rfl ?_
  refine ev_reti rfl ?_
  exact ⟨rfl, CU_dep (CU_lat (CU_lpl (CU_lpr (CU_lat (CU_fno (CU_fai hC ht lf_K6) ht lf_K6) ht lf_K6) ht lf_K6) ht lf_K6) ht lf_K6) ht (by omega) lf_K6⟩
theorem IC_ci {ci ci2 : Nat → Nat → Nat → Int32} {cn : Nat → Nat → Nat → Nat} (h : IC ci cn) (e : ∀ p k, ci2 6 p k = ci 6 p k ∧ ci2 7 p k = ci 7 p k ∧ ci2 8 p k = ci 8 p k) : IC ci2 cn := by
  obtain ⟨h1, h2, h3, h4, h5⟩ := h
  refine ⟨h1, h2, h3, fun p hp k hk => ?_, h5⟩
  rw [(e p k).1, (e p k).2.1, (e p k).2.2]
  exact h4 p hp k hk
set_option maxHeartbeats 4000000 in
theorem C_fail2 {ci : Nat → Nat → Nat → Int32} {co : Nat → Option Nat} {xj : Nat → Nat → Nat → Int64} {xd : Nat → Nat → Nat → UInt64} {xf : Nat → Nat → Nat → UInt32} {xo : Nat → Nat → Nat → Option Nat} {xi : Nat → Nat → Nat → Int32} {xn : Nat → Nat → Nat → Nat} {cn : Nat → Nat → Nat → Nat} {t d p fn : Nat} {f : Int32} (ht : t < 3) (hp6 : p < 6) (hI : IC ci cn) (hd : cn 0 t 0 = d + 1) (hfn : ci 5 t 0 = nI fn) {K : Nat → Nat} {I : Nat → Nat → Int32} {J : Nat → Nat → Int64} {F : Nat → Nat → UInt32} {D : Nat → Nat → UInt64} {R : Nat → Nat → Option Nat} {nx sl : Nat} (hC : RC ci cn co xj xd xf xo xi xn I J F D R nx sl) (hf : fn < 20) : Ct Y_MV_fail [vr 8 (32 + 7 * t), vr 5 (14 + 3 * p), vi f] (K, I, J, F, D, R, nx, sl) (fun r μ1 => QF (u3 (u3 (u3 (u3 (u3 ci 1 t 0 (ci 1 t 0 + nI 1)) 5 t 0 (ci 5 t 0 + nI 1)) 2 t 0 f) 3 t 0 (nI p)) 4 t 0 (nI (cn 2 t d))) cn co xj xd xf xo xi xn t f (d + 1) r μ1) := by
  have i0 := hI.1 t ht
  have i1 := hI.2.1 t ht d (by omega)
  refine ct_of h_MV_fail rfl rfl rfl ?_
  refine ev_g0 rfl ?_
  refine ev_inV 2 k_MV_125 h_SD_note rfl rfl rfl rfl rfl ⟨by decide, by decide⟩ rfl ?_
  refine ev_g0 rfl ?_
  refine ev_inV 0 k_SD_58 h_SD_place rfl rfl rfl rfl rfl ⟨by decide, by decide⟩ rfl ?_
  refine ev_gK6 [false, false] [] rfl ?_
  refine ev_reti rfl ?_
  refine ev_g0 rfl ?_
  refine ev_ret rfl ?_
  refine ev_gK6 [true] [] rfl ?_
  exact FA_loop ht (d + 1) 0 _ _ cn _ _ _ _ _ _ _ _ rfl (fun q h => h) (CU_lpl (CU_lpr (CU_lat (CU_fno (CU_fai hC ht lf_K6) ht lf_K6) ht lf_K6) ht lf_K6) ht lf_K6) (IC_ci hI (fun p k => ⟨rfl, rfl, rfl⟩)) hd (by omega) (fun r μ1 h => h)
theorem ev_gK7 {Y : mm_Y} {μ0 : mm_M} {rem : List mm_E} {L : mm_L} {st : List mm_V} {μ : mm_M} {Post : Option mm_V → mm_M → Prop} (bs : List Bool) (os : List (Option Nat)) {e2 : mm_E} {rem2 : List mm_E} {L2 : mm_L} {st2 : List mm_V} {μ2 : mm_M} {P2 : Prop} (h : mm_go 5000 (mm_co Y) rem L st μ bs os True = some (e2 :: rem2, L2, st2, μ2, P2)) (k : Ev Y μ0 (e2 :: rem2) L2 st2 μ2 Post) (hp : P2 := by (repeat' apply And.intro) <;> first | exact trivial | assumption | rfl | decide | omega | (simp (disch := first | assumption | omega | decide) only [i_add, i_mul, n_cl, nI_and7, nI_and3, v_in, i_eq, i_lt, i_le, i_eq0, i_lt0, i_ge0, i_gt0, i_le0, lg_cmp_eq, lg_cmp_ge, lg_cmp_gt, lg_cmp_le, lg_cmp_lt, zb_e0, zb_n0, Classical.not_not, up_ne, Nat.zero_add, Nat.add_zero, rc_num hC, rc_hol hC, rc_who hC, rc_nn hC, rc_dbl hC, rc_flt hC, rc_rea hC, rc_xx hC, rc_ff hC, rc_par hC, rc_nxt hC, rc_lin hC, rc_thg hC, rc_prg hC, rc_str hC, rc_pix hC, rc_six hC, rc_own hC, rc_tim hC, rc_mad hC, rc_psz hC, rc_phn hC, rc_pop hC, rc_paa hC, rc_pbb hC, rc_pcc hC, rc_hfr hC, rc_hto hC, rc_hfl hC, rc_hpl hC, rc_dep hC, rc_pla hC, rc_don hC, rc_fai hC, rc_fno hC, rc_lat hC, rc_lpr hC, rc_lpl hC, rc_wan hC, rc_cal hC, cl_ne, tR_s, tR_n, eI_s, eI_n, e_nm, e_mm, lN_i, l_lt, l_le, l_eq, l_z, lN_t, nI_tl, n_s1, i_sub, eLi, eL_s, eL_n, up_eq, mkz, i_l1, i_l2, i_l3, n_ti, i_tl2, e_mn, Nat.add_sub_cancel, mx0, s11, sa1, if1, ite_self, *] <;> first | assumption | omega | decide)) : Ev Y μ0 rem L st μ Post := ev_go bs os h hp k
theorem ev_bK7 {Y : mm_Y} {μ0 : mm_M} {rem : List mm_E} {L : mm_L} {st : List mm_V} {μ : mm_M} {Post : Option mm_V → mm_M → Prop} {e2 e3 : mm_E} {rem2 rem3 : List mm_E} {L2 L3 : mm_L} {st2 st3 : List mm_V} {μ2 μ3 : mm_M} {c c2 d d2 : Prop} (hT : mm_go 1 (mm_co Y) rem L st μ [true] [] True = some (e2 :: rem2, L2, st2, μ2, True ∧ c)) (hF : mm_go 1 (mm_co Y) rem L st μ [false] [] True = some (e3 :: rem3, L3, st3, μ3, True ∧ c2)) (kt : d → Ev Y μ0 (e2 :: rem2) L2 st2 μ2 Post) (kf : d2 → Ev Y μ0 (e3 :: rem3) L3 st3 μ3 Post) (hc : ¬ c → c2 := by first | exact id | exact Classical.not_not.mp) (g1 : c → d := by intro hh; (try simp (disch := first | assumption | omega | decide) only [i_add, i_mul, n_cl, nI_and7, nI_and3, v_in, i_eq, i_lt, i_le, i_eq0, i_lt0, i_ge0, i_gt0, i_le0, lg_cmp_eq, lg_cmp_ge, lg_cmp_gt, lg_cmp_le, lg_cmp_lt, zb_e0, zb_n0, Classical.not_not, up_ne, Nat.zero_add, Nat.add_zero, rc_num hC, rc_hol hC, rc_who hC, rc_nn hC, rc_dbl hC, rc_flt hC, rc_rea hC, rc_xx hC, rc_ff hC, rc_par hC, rc_nxt hC, rc_lin hC, rc_thg hC, rc_prg hC, rc_str hC, rc_pix hC, rc_six hC, rc_own hC, rc_tim hC, rc_mad hC, rc_psz hC, rc_phn hC, rc_pop hC, rc_paa hC, rc_pbb hC, rc_pcc hC, rc_hfr hC, rc_hto hC, rc_hfl hC, rc_hpl hC, rc_dep hC, rc_pla hC, rc_don hC, rc_fai hC, rc_fno hC, rc_lat hC, rc_lpr hC, rc_lpl hC, rc_wan hC, rc_cal hC, cl_ne, tR_s, tR_n, eI_s, eI_n, e_nm, e_mm, lN_i, l_lt, l_le, l_eq, l_z, lN_t, nI_tl, n_s1, i_sub, eLi, eL_s, eL_n, up_eq, mkz, i_l1, i_l2, i_l3, n_ti, i_tl2, e_mn, Nat.add_sub_cancel, mx0, s11, sa1, if1, ite_self, *] at hh); exact hh) (g2 : c2 → d2 := by intro hh; (try simp (disch := first | assumption | omega | decide) only [i_add, i_mul, n_cl, nI_and7, nI_and3, v_in, i_eq, i_lt, i_le, i_eq0, i_lt0, i_ge0, i_gt0, i_le0, lg_cmp_eq, lg_cmp_ge, lg_cmp_gt, lg_cmp_le, lg_cmp_lt, zb_e0, zb_n0, Classical.not_not, up_ne, Nat.zero_add, Nat.add_zero, rc_num hC, rc_hol hC, rc_who hC, rc_nn hC, rc_dbl hC, rc_flt hC, rc_rea hC, rc_xx hC, rc_ff hC, rc_par hC, rc_nxt hC, rc_lin hC, rc_thg hC, rc_prg hC, rc_str hC, rc_pix hC, rc_six hC, rc_own hC, rc_tim hC, rc_mad hC, rc_psz hC, rc_phn hC, rc_pop hC, rc_paa hC, rc_pbb hC, rc_pcc hC, rc_hfr hC, rc_hto hC, rc_hfl hC, rc_hpl hC, rc_dep hC, rc_pla hC, rc_don hC, rc_fai hC, rc_fno hC, rc_lat hC, rc_lpr hC, rc_lpl hC, rc_wan hC, rc_cal hC, cl_ne, tR_s, tR_n, eI_s, eI_n, e_nm, e_mm, lN_i, l_lt, l_le, l_eq, l_z, lN_t, nI_tl, n_s1, i_sub, eLi, eL_s, eL_n, up_eq, mkz, i_l1, i_l2, i_l3, n_ti, i_tl2, e_mn, Nat.add_sub_cancel, mx0, s11, sa1, if1, ite_self, *] at hh); exact hh) : Ev Y μ0 rem L st μ Post := ev_br hT hF hc (fun h => kt (g1 h)) (fun h => kf (g2 h))
theorem lf_K7 {p : Prop} (h : p := by first | rfl | assumption | (simp (disch := first | assumption | omega | decide) only [i_add, i_mul, n_cl, nI_and7, nI_and3, v_in, i_eq, i_lt, i_le, i_eq0, i_lt0, i_ge0, i_gt0, i_le0, lg_cmp_eq, lg_cmp_ge, lg_cmp_gt, lg_cmp_le, lg_cmp_lt, zb_e0, zb_n0, Classical.not_not, up_ne, Nat.zero_add, Nat.add_zero, rc_num hC, rc_hol hC, rc_who hC, rc_nn hC, rc_dbl hC, rc_flt hC, rc_rea hC, rc_xx hC, rc_ff hC, rc_par hC, rc_nxt hC, rc_lin hC, rc_thg hC, rc_prg hC, rc_str hC, rc_pix hC, rc_six hC, rc_own hC, rc_tim hC, rc_mad hC, rc_psz hC, rc_phn hC, rc_pop hC, rc_paa hC, rc_pbb hC, rc_pcc hC, rc_hfr hC, rc_hto hC, rc_hfl hC, rc_hpl hC, rc_dep hC, rc_pla hC, rc_don hC, rc_fai hC, rc_fno hC, rc_lat hC, rc_lpr hC, rc_lpl hC, rc_wan hC, rc_cal hC, cl_ne, tR_s, tR_n, eI_s, eI_n, e_nm, e_mm, lN_i, l_lt, l_le, l_eq, l_z, lN_t, nI_tl, n_s1, i_sub, eLi, eL_s, eL_n, up_eq, mkz, i_l1, i_l2, i_l3, n_ti, i_tl2, e_mn, Nat.add_sub_cancel, mx0, s11, sa1, if1, ite_self, *] <;> first | rfl | assumption | omega | decide)) : p := h
theorem SE_w {t p0 : Nat} {pl op a b c : Int32} {μ μ0 : mm_M} {Post : Option mm_V → mm_M → Prop} (k : Post (some (vi (nI 2))) μ) : Ev Y_MV_step μ0 (mm_to (mm_co Y_MV_step) 181) [(0, vr 2 53), (1, vr 8 (32 + 7 * t)), (2, vr 5 p0), (3, vi pl), (4, vi op), (5, vi a), (6, vi b), (7, vi c), (8, vi (-(nI 1)))] [vi (-(nI 1)), vi (-(nI 1))] μ Post := by
  refine ev_go [false] [] rfl ⟨trivial, rfl⟩ ?_
  exact ev_reti rfl k
theorem SE_f {t p0 : Nat} {pl op a b c bd : Int32} {μ μ0 μ1 : mm_M} {r : Option mm_V} {rv : Int32} {Post : Option mm_V → mm_M → Prop} (h1 : ¬ bd = -(nI 1)) (h0 : ¬ bd = 0) (d1 : mm_Det Y_MV_fail [vr 8 (32 + 7 * t), vr 5 p0, vi bd] μ (some (vi rv)) μ1) (k : Post (some (vi rv)) μ1) : Ev Y_MV_step μ0 (mm_to (mm_co Y_MV_step) 181) [(0, vr 2 53), (1, vr 8 (32 + 7 * t)), (2, vr 5 p0), (3, vi pl), (4, vi op), (5, vi a), (6, vi b), (7, vi c), (8, vi bd)] [vi (-(nI 1)), vi bd] μ Post := by
  refine ev_go [true, false] [] rfl ⟨⟨trivial, h1⟩, h0⟩ ?_
  refine ev_kS 3 k_MV_61 rfl d1 ⟨by decide, by decide⟩ rfl ?_
  refine ev_go [] [] rfl trivial ?_
  exact ev_reti rfl k
set_option maxHeartbeats 4000000 in
theorem SE_z0 {ci : Nat → Nat → Nat → Int32} {co : Nat → Option Nat} {xj : Nat → Nat → Nat → Int64} {xd : Nat → Nat → Nat → UInt64} {xf : Nat → Nat → Nat → UInt32} {xo : Nat → Nat → Nat → Option Nat} {xi : Nat → Nat → Nat → Int32} {xn : Nat → Nat → Nat → Nat} {cn : Nat → Nat → Nat → Nat} {t d pl op n p0 : Nat} {a b c : Int32} (ht : t < 3) (hop : op < 58) (hd : cn 0 t 0 = d + 1) (hd8 : d < 8) (hpl : pl < 9000) (hI2 : IC (u3 ci 0 t 0 (ci 0 t 0 + nI 1)) (u3 cn 2 t d (pl + 1))) (hn : (u3 cn 2 t d (pl + 1)) 0 t 0 = n) (hz : pp t n (u3 cn 2 t d (pl + 1)) 0 t 0 = 0) {K : Nat → Nat} {I : Nat → Nat → Int32} {J : Nat → Nat → Int64} {F : Nat → Nat → UInt32} {D : Nat → Nat → UInt64} {R : Nat → Nat → Option Nat} {nx sl : Nat} (hC : RC ci cn co xj xd xf xo xi xn I J F D R nx sl) {μ0 : mm_M} {Post : Option mm_V → mm_M → Prop} (k : ∀ μ1 : mm_M, RC (u3 ci 0 t 0 (ci 0 t 0 + nI 1)) (pp t n (u3 cn 2 t d (pl + 1))) co xj xd xf xo xi xn μ1.2.1 μ1.2.2.1 μ1.2.2.2.1 μ1.2.2.2.2.1 μ1.2.2.2.2.2.1 μ1.2.2.2.2.2.2.1 μ1.2.2.2.2.2.2.2 → Post (some (vi (nI 0))) μ1) : Ev Y_MV_step μ0 (mm_to (mm_co Y_MV_step) 181) [(0, vr 2 53), (1, vr 8 (32 + 7 * t)), (2, vr 5 p0), (3, vi (nI pl)), (4, vi (nI op)), (5, vi a), (6, vi b), (7, vi c), (8, vi (nI 0))] [vi (-(nI 1)), vi (nI 0)] (K, I, J, F, D, R, nx, sl) Post := by
  refine ev_gK7 [true, true, false] [] rfl ?_
  refine ev_inV 1 k_MV_69 h_SD_goTo rfl rfl rfl rfl rfl ⟨by decide, by decide⟩ rfl ?_
  refine ev_gK7 [false, false] [] rfl ?_
  refine ev_ret rfl ?_
  refine ev_g0 rfl ?_
  refine ev_qS 1 k_MV_27 rfl (C_goingOn (cn := (u3 cn 2 t d (pl + 1))) (n := n) ht (CU_pla (CU_don hC ht lf_K7) ht (by omega) lf_K7 lf_K7) hI2 hn) ⟨by decide, by decide⟩ rfl ?_
  intro r1 μ1 hq1
  obtain ⟨hCq, hr1⟩ := QGO_z hz hq1
  subst hr1
  refine ev_g0 rfl ?_
  refine ev_reti rfl ?_
  exact k _ hCq
set_option maxHeartbeats 4000000 in
theorem SE_s0 {ci : Nat → Nat → Nat → Int32} {co : Nat → Option Nat} {xj : Nat → Nat → Nat → Int64} {xd : Nat → Nat → Nat → UInt64} {xf : Nat → Nat → Nat → UInt32} {xo : Nat → Nat → Nat → Option Nat} {xi : Nat → Nat → Nat → Int32} {xn : Nat → Nat → Nat → Nat} {cn : Nat → Nat → Nat → Nat} {t d pl op n p0 : Nat} {a b c : Int32} (ht : t < 3) (hop : op < 58) (hd : cn 0 t 0 = d + 1) (hd8 : d < 8) (hpl : pl < 9000) (hI2 : IC (u3 ci 0 t 0 (ci 0 t 0 + nI 1)) (u3 cn 2 t d (pl + 1))) (hn : (u3 cn 2 t d (pl + 1)) 0 t 0 = n) (hz : ¬ pp t n (u3 cn 2 t d (pl + 1)) 0 t 0 = 0) {K : Nat → Nat} {I : Nat → Nat → Int32} {J : Nat → Nat → Int64} {F : Nat → Nat → UInt32} {D : Nat → Nat → UInt64} {R : Nat → Nat → Option Nat} {nx sl : Nat} (hC : RC ci cn co xj xd xf xo xi xn I J F D R nx sl) {μ0 : mm_M} {Post : Option mm_V → mm_M → Prop} (k : ∀ μ1 : mm_M, RC (u3 ci 0 t 0 (ci 0 t 0 + nI 1)) (pp t n (u3 cn 2 t d (pl + 1))) co xj xd xf xo xi xn μ1.2.1 μ1.2.2.1 μ1.2.2.2.1 μ1.2.2.2.2.1 μ1.2.2.2.2.2.1 μ1.2.2.2.2.2.2.1 μ1.2.2.2.2.2.2.2 → Post (some (vi (nI 1))) μ1) : Ev Y_MV_step μ0 (mm_to (mm_co Y_MV_step) 181) [(0, vr 2 53), (1, vr 8 (32 + 7 * t)), (2, vr 5 p0), (3, vi (nI pl)), (4, vi (nI op)), (5, vi a), (6, vi b), (7, vi c), (8, vi (nI 0))] [vi (-(nI 1)), vi (nI 0)] (K, I, J, F, D, R, nx, sl) Post := by
  refine ev_gK7 [true, true, false] [] rfl ?_
  refine ev_inV 1 k_MV_69 h_SD_goTo rfl rfl rfl rfl rfl ⟨by decide, by decide⟩ rfl ?_
  refine ev_gK7 [false, false] [] rfl ?_
  refine ev_ret rfl ?_
  refine ev_g0 rfl ?_
  refine ev_qS 1 k_MV_27 rfl (C_goingOn (cn := (u3 cn 2 t d (pl + 1))) (n := n) ht (CU_pla (CU_don hC ht lf_K7) ht (by omega) lf_K7 lf_K7) hI2 hn) ⟨by decide, by decide⟩ rfl ?_
  intro r1 μ1 hq1
  obtain ⟨hCq, d1, hz1, -, hr1⟩ := QGO_s hz hq1
  subst hr1
  refine ev_g0 rfl ?_
  refine ev_reti rfl ?_
  exact k _ hCq
set_option maxHeartbeats 4000000 in
theorem SE_z1 {ci : Nat → Nat → Nat → Int32} {co : Nat → Option Nat} {xj : Nat → Nat → Nat → Int64} {xd : Nat → Nat → Nat → UInt64} {xf : Nat → Nat → Nat → UInt32} {xo : Nat → Nat → Nat → Option Nat} {xi : Nat → Nat → Nat → Int32} {xn : Nat → Nat → Nat → Nat} {cn : Nat → Nat → Nat → Nat} {t d pl op n p0 : Nat} {a b c : Int32} (ht : t < 3) (hop : 58 ≤ op ∧ op < 100) (hpl : pl < 9000) (hI2 : IC (u3 ci 0 t 0 (ci 0 t 0 + nI 1)) cn) (hn : cn 0 t 0 = n) (hz : pp t n cn 0 t 0 = 0) {K : Nat → Nat} {I : Nat → Nat → Int32} {J : Nat → Nat → Int64} {F : Nat → Nat → UInt32} {D : Nat → Nat → UInt64} {R : Nat → Nat → Option Nat} {nx sl : Nat} (hC : RC ci cn co xj xd xf xo xi xn I J F D R nx sl) {μ0 : mm_M} {Post : Option mm_V → mm_M → Prop} (k : ∀ μ1 : mm_M, RC (u3 ci 0 t 0 (ci 0 t 0 + nI 1)) (pp t n cn) co xj xd xf xo xi xn μ1.2.1 μ1.2.2.1 μ1.2.2.2.1 μ1.2.2.2.2.1 μ1.2.2.2.2.2.1 μ1.2.2.2.2.2.2.1 μ1.2.2.2.2.2.2.2 → Post (some (vi (nI 0))) μ1) : Ev Y_MV_step μ0 (mm_to (mm_co Y_MV_step) 181) [(0, vr 2 53), (1, vr 8 (32 + 7 * t)), (2, vr 5 p0), (3, vi (nI pl)), (4, vi (nI op)), (5, vi a), (6, vi b), (7, vi c), (8, vi (nI 0))] [vi (-(nI 1)), vi (nI 0)] (K, I, J, F, D, R, nx, sl) Post := by
  refine ev_gK7 [true, true, true] [] rfl ?_
  refine ev_qS 1 k_MV_27 rfl (C_goingOn (cn := cn) (n := n) ht (CU_don hC ht lf_K7) hI2 hn) ⟨by decide, by decide⟩ rfl ?_
  intro r1 μ1 hq1
  obtain ⟨hCq, hr1⟩ := QGO_z hz hq1
  subst hr1
  refine ev_g0 rfl ?_
  refine ev_reti rfl ?_
  exact k _ hCq
set_option maxHeartbeats 4000000 in
theorem SE_s1 {ci : Nat → Nat → Nat → Int32} {co : Nat → Option Nat} {xj : Nat → Nat → Nat → Int64} {xd : Nat → Nat → Nat → UInt64} {xf : Nat → Nat → Nat → UInt32} {xo : Nat → Nat → Nat → Option Nat} {xi : Nat → Nat → Nat → Int32} {xn : Nat → Nat → Nat → Nat} {cn : Nat → Nat → Nat → Nat} {t d pl op n p0 : Nat} {a b c : Int32} (ht : t < 3) (hop : 58 ≤ op ∧ op < 100) (hpl : pl < 9000) (hI2 : IC (u3 ci 0 t 0 (ci 0 t 0 + nI 1)) cn) (hn : cn 0 t 0 = n) (hz : ¬ pp t n cn 0 t 0 = 0) {K : Nat → Nat} {I : Nat → Nat → Int32} {J : Nat → Nat → Int64} {F : Nat → Nat → UInt32} {D : Nat → Nat → UInt64} {R : Nat → Nat → Option Nat} {nx sl : Nat} (hC : RC ci cn co xj xd xf xo xi xn I J F D R nx sl) {μ0 : mm_M} {Post : Option mm_V → mm_M → Prop} (k : ∀ μ1 : mm_M, RC (u3 ci 0 t 0 (ci 0 t 0 + nI 1)) (pp t n cn) co xj xd xf xo xi xn μ1.2.1 μ1.2.2.1 μ1.2.2.2.1 μ1.2.2.2.2.1 μ1.2.2.2.2.2.1 μ1.2.2.2.2.2.2.1 μ1.2.2.2.2.2.2.2 → Post (some (vi (nI 1))) μ1) : Ev Y_MV_step μ0 (mm_to (mm_co Y_MV_step) 181) [(0, vr 2 53), (1, vr 8 (32 + 7 * t)), (2, vr 5 p0), (3, vi (nI pl)), (4, vi (nI op)), (5, vi a), (6, vi b), (7, vi c), (8, vi (nI 0))] [vi (-(nI 1)), vi (nI 0)] (K, I, J, F, D, R, nx, sl) Post := by
  refine ev_gK7 [true, true, true] [] rfl ?_
  refine ev_qS 1 k_MV_27 rfl (C_goingOn (cn := cn) (n := n) ht (CU_don hC ht lf_K7) hI2 hn) ⟨by decide, by decide⟩ rfl ?_
  intro r1 μ1 hq1
  obtain ⟨hCq, d1, hz1, -, hr1⟩ := QGO_s hz hq1
  subst hr1
  refine ev_g0 rfl ?_
  refine ev_reti rfl ?_
  exact k _ hCq
