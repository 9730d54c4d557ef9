theorem ev_gOc {Y : mm_Y} {μ0 : mm_M} {rem : List mm_E} {L : mm_L} {st : List mm_V} {μ : mm_M} {Post : Option mm_V → mm_M → Prop} (bs : List Bool) (os : List (Option Nat)) {e2 : mm_E} {rem2 : List mm_E} {L2 : mm_L} {st2 : List mm_V} {μ2 : mm_M} {P2 : Prop} (h : mm_go 5000 (mm_co Y) rem L st μ bs os True = some (e2 :: rem2, L2, st2, μ2, P2)) (k : Ev Y μ0 (e2 :: rem2) L2 st2 μ2 Post) (hp : P2 := by (repeat' apply And.intro) <;> first | exact trivial | assumption | rfl | decide | omega | (simp (disch := first | assumption | omega | decide) only [i_add, i_mul, n_cl, nI_and7, nI_and3, v_in, i_eq, i_lt, i_le, i_eq0, i_lt0, i_ge0, i_gt0, i_le0, lg_cmp_eq, lg_cmp_ge, lg_cmp_gt, lg_cmp_le, lg_cmp_lt, zb_e0, zb_n0, Classical.not_not, up_ne, Nat.zero_add, Nat.add_zero, rc_dbl hC, rc_flt hC, *] <;> first | assumption | omega | decide)) : Ev Y μ0 rem L st μ Post := ev_go bs os h hp k
theorem ev_bOc {Y : mm_Y} {μ0 : mm_M} {rem : List mm_E} {L : mm_L} {st : List mm_V} {μ : mm_M} {Post : Option mm_V → mm_M → Prop} {e2 e3 : mm_E} {rem2 rem3 : List mm_E} {L2 L3 : mm_L} {st2 st3 : List mm_V} {μ2 μ3 : mm_M} {c c2 d d2 : Prop} (hT : mm_go 1 (mm_co Y) rem L st μ [true] [] True = some (e2 :: rem2, L2, st2, μ2, True ∧ c)) (hF : mm_go 1 (mm_co Y) rem L st μ [false] [] True = some (e3 :: rem3, L3, st3, μ3, True ∧ c2)) (kt : d → Ev Y μ0 (e2 :: rem2) L2 st2 μ2 Post) (kf : d2 → Ev Y μ0 (e3 :: rem3) L3 st3 μ3 Post) (hc : ¬ c → c2 := by first | exact id | exact Classical.not_not.mp) (g1 : c → d := by intro hh; (try simp (disch := first | assumption | omega | decide) only [i_add, i_mul, n_cl, nI_and7, nI_and3, v_in, i_eq, i_lt, i_le, i_eq0, i_lt0, i_ge0, i_gt0, i_le0, lg_cmp_eq, lg_cmp_ge, lg_cmp_gt, lg_cmp_le, lg_cmp_lt, zb_e0, zb_n0, Classical.not_not, up_ne, Nat.zero_add, Nat.add_zero, rc_dbl hC, rc_flt hC, *] at hh); exact hh) (g2 : c2 → d2 := by intro hh; (try simp (disch := first | assumption | omega | decide) only [i_add, i_mul, n_cl, nI_and7, nI_and3, v_in, i_eq, i_lt, i_le, i_eq0, i_lt0, i_ge0, i_gt0, i_le0, lg_cmp_eq, lg_cmp_ge, lg_cmp_gt, lg_cmp_le, lg_cmp_lt, zb_e0, zb_n0, Classical.not_not, up_ne, Nat.zero_add, Nat.add_zero, rc_dbl hC, rc_flt hC, *] at hh); exact hh) : Ev Y μ0 rem L st μ Post := ev_br hT hF hc (fun h => kt (g1 h)) (fun h => kf (g2 h))
theorem lf_Oc {p : Prop} (h : p := by first | rfl | assumption | (simp (disch := first | assumption | omega | decide) only [i_add, i_mul, n_cl, nI_and7, nI_and3, v_in, i_eq, i_lt, i_le, i_eq0, i_lt0, i_ge0, i_gt0, i_le0, lg_cmp_eq, lg_cmp_ge, lg_cmp_gt, lg_cmp_le, lg_cmp_lt, zb_e0, zb_n0, Classical.not_not, up_ne, Nat.zero_add, Nat.add_zero, rc_dbl hC, rc_flt hC, *] <;> first | rfl | assumption | omega | decide)) : p := h
theorem ev_gOm {Y : mm_Y} {μ0 : mm_M} {rem : List mm_E} {L : mm_L} {st : List mm_V} {μ : mm_M} {Post : Option mm_V → mm_M → Prop} (bs : List Bool) (os : List (Option Nat)) {e2 : mm_E} {rem2 : List mm_E} {L2 : mm_L} {st2 : List mm_V} {μ2 : mm_M} {P2 : Prop} (h : mm_go 5000 (mm_co Y) rem L st μ bs os True = some (e2 :: rem2, L2, st2, μ2, P2)) (k : Ev Y μ0 (e2 :: rem2) L2 st2 μ2 Post) (hp : P2 := by (repeat' apply And.intro) <;> first | exact trivial | assumption | rfl | decide | omega | (simp (disch := first | assumption | omega | decide) only [i_add, i_mul, n_cl, nI_and7, nI_and3, v_in, i_eq, i_lt, i_le, i_eq0, i_lt0, i_ge0, i_gt0, i_le0, lg_cmp_eq, lg_cmp_ge, lg_cmp_gt, lg_cmp_le, lg_cmp_lt, zb_e0, zb_n0, Classical.not_not, up_ne, Nat.zero_add, Nat.add_zero, rm_dbl hM, rm_flt hM, *] <;> first | assumption | omega | decide)) : Ev Y μ0 rem L st μ Post := ev_go bs os h hp k
theorem ev_bOm {Y : mm_Y} {μ0 : mm_M} {rem : List mm_E} {L : mm_L} {st : List mm_V} {μ : mm_M} {Post : Option mm_V → mm_M → Prop} {e2 e3 : mm_E} {rem2 rem3 : List mm_E} {L2 L3 : mm_L} {st2 st3 : List mm_V} {μ2 μ3 : mm_M} {c c2 d d2 : Prop} (hT : mm_go 1 (mm_co Y) rem L st μ [true] [] True = some (e2 :: rem2, L2, st2, μ2, True ∧ c)) (hF : mm_go 1 (mm_co Y) rem L st μ [false] [] True = some (e3 :: rem3, L3, st3, μ3, True ∧ c2)) (kt : d → Ev Y μ0 (e2 :: rem2) L2 st2 μ2 Post) (kf : d2 → Ev Y μ0 (e3 :: rem3) L3 st3 μ3 Post) (hc : ¬ c → c2 := by first | exact id | exact Classical.not_not.mp) (g1 : c → d := by intro hh; (try simp (disch := first | assumption | omega | decide) only [i_add, i_mul, n_cl, nI_and7, nI_and3, v_in, i_eq, i_lt, i_le, i_eq0, i_lt0, i_ge0, i_gt0, i_le0, lg_cmp_eq, lg_cmp_ge, lg_cmp_gt, lg_cmp_le, lg_cmp_lt, zb_e0, zb_n0, Classical.not_not, up_ne, Nat.zero_add, Nat.add_zero, rm_dbl hM, rm_flt hM, *] at hh); exact hh) (g2 : c2 → d2 := by intro hh; (try simp (disch := first | assumption | omega | decide) only [i_add, i_mul, n_cl, nI_and7, nI_and3, v_in, i_eq, i_lt, i_le, i_eq0, i_lt0, i_ge0, i_gt0, i_le0, lg_cmp_eq, lg_cmp_ge, lg_cmp_gt, lg_cmp_le, lg_cmp_lt, zb_e0, zb_n0, Classical.not_not, up_ne, Nat.zero_add, Nat.add_zero, rm_dbl hM, rm_flt hM, *] at hh); exact hh) : Ev Y μ0 rem L st μ Post := ev_br hT hF hc (fun h => kt (g1 h)) (fun h => kf (g2 h))
theorem lf_Om {p : Prop} (h : p := by first | rfl | assumption | (simp (disch := first | assumption | omega | decide) only [i_add, i_mul, n_cl, nI_and7, nI_and3, v_in, i_eq, i_lt, i_le, i_eq0, i_lt0, i_ge0, i_gt0, i_le0, lg_cmp_eq, lg_cmp_ge, lg_cmp_gt, lg_cmp_le, lg_cmp_lt, zb_e0, zb_n0, Classical.not_not, up_ne, Nat.zero_add, Nat.add_zero, rm_dbl hM, rm_flt hM, *] <;> first | rfl | assumption | omega | decide)) : p := h
theorem CA_SD_x {ci : Nat → Nat → Nat → Int32} {cn : Nat → Nat → Nat → Nat} {co : Nat → Option Nat} {xj : Nat → Nat → Nat → Int64} {xd : Nat → Nat → Nat → UInt64} {xf : Nat → Nat → Nat → UInt32} {xo : Nat → Nat → Nat → Option Nat} {xi : Nat → Nat → Nat → Int32} {xn : Nat → Nat → Nat → Nat} {K : Nat → Nat} {I : Nat → Nat → Int32} {J : Nat → Nat → Int64} {F : Nat → Nat → UInt32} {D : Nat → Nat → UInt64} {R : Nat → Nat → Option Nat} {nx sl : Nat} {t k : Nat} {x : Int32} (hC : RC ci cn co xj xd xf xo xi xn I J F D R nx sl) (ht : t < 3) (hk : k < 4) (hx : x = nI k) : mm_Det Y_SD_x [vr 8 (32 + 7 * t), vi x] (K, I, J, F, D, R, nx, sl) (some (vd (xd 0 t k))) (K, I, J, F, D, R, nx, sl) := by
  subst hx
  refine det_of h_SD_x rfl rfl rfl ?_
  refine ev_gOc [] [] rfl ?_
  refine ev_retd rfl ?_
  exact ⟨lf_Oc, rfl⟩
theorem CA_SD_f {ci : Nat → Nat → Nat → Int32} {cn : Nat → Nat → Nat → Nat} {co : Nat → Option Nat} {xj : Nat → Nat → Nat → Int64} {xd : Nat → Nat → Nat → UInt64} {xf : Nat → Nat → Nat → UInt32} {xo : Nat → Nat → Nat → Option Nat} {xi : Nat → Nat → Nat → Int32} {xn : Nat → Nat → Nat → Nat} {K : Nat → Nat} {I : Nat → Nat → Int32} {J : Nat → Nat → Int64} {F : Nat → Nat → UInt32} {D : Nat → Nat → UInt64} {R : Nat → Nat → Option Nat} {nx sl : Nat} {t k : Nat} {x : Int32} (hC : RC ci cn co xj xd xf xo xi xn I J F D R nx sl) (ht : t < 3) (hk : k < 4) (hx : x = nI k) : mm_Det Y_SD_f [vr 8 (32 + 7 * t), vi x] (K, I, J, F, D, R, nx, sl) (some (vf (xf 0 t k))) (K, I, J, F, D, R, nx, sl) := by
  subst hx
  refine det_of h_SD_f rfl rfl rfl ?_
  refine ev_gOc [] [] rfl ?_
  refine ev_retf rfl ?_
  exact ⟨lf_Oc, rfl⟩
theorem CA_MM_twin {ci : Nat → Nat → Nat → Int32} {cn : Nat → Nat → Nat → Nat} {co : Nat → Option Nat} {xj : Nat → Nat → Nat → Int64} {xd : Nat → Nat → Nat → UInt64} {xf : Nat → Nat → Nat → UInt32} {xo : Nat → Nat → Nat → Option Nat} {xi : Nat → Nat → Nat → Int32} {xn : Nat → Nat → Nat → Nat} {Km : Nat → Nat} {Im : Nat → Nat → Int32} {Jm : Nat → Nat → Int64} {Fm : Nat → Nat → UInt32} {Dm : Nat → Nat → UInt64} {Rm : Nat → Nat → Option Nat} {nxm slm : Nat} {t k : Nat} {x : Int32} (hM : RM ci cn co xj xd xf xo xi xn Im Jm Dm) (ht : t < 3) (hk : k < 4) (x1 : Im 6 39 = nI t) (hx : x = nI k) : mm_Det Y_MM_twin [vr 11 6, vi x] (Km, Im, Jm, Fm, Dm, Rm, nxm, slm) (some (vd (xd 0 t k))) (Km, Im, Jm, Fm, Dm, Rm, nxm, slm) := by
  subst hx
  refine det_of h_MM_twin rfl rfl rfl ?_
  refine ev_gOm [] [] rfl ?_
  refine ev_retd rfl ?_
  exact ⟨lf_Om, rfl⟩
theorem CA_MM_small {ci : Nat → Nat → Nat → Int32} {cn : Nat → Nat → Nat → Nat} {co : Nat → Option Nat} {xj : Nat → Nat → Nat → Int64} {xd : Nat → Nat → Nat → UInt64} {xf : Nat → Nat → Nat → UInt32} {xo : Nat → Nat → Nat → Option Nat} {xi : Nat → Nat → Nat → Int32} {xn : Nat → Nat → Nat → Nat} {Km : Nat → Nat} {Im : Nat → Nat → Int32} {Jm : Nat → Nat → Int64} {Fm : Nat → Nat → UInt32} {Dm : Nat → Nat → UInt64} {Rm : Nat → Nat → Option Nat} {nxm slm : Nat} {t k : Nat} {x : Int32} (hM : RM ci cn co xj xd xf xo xi xn Im Jm Dm) (ht : t < 3) (hk : k < 4) (x1 : Im 6 39 = nI t) (hx : x = nI k) : mm_Det Y_MM_small [vr 11 6, vi x] (Km, Im, Jm, Fm, Dm, Rm, nxm, slm) (some (vd (FP.f2d (xf 0 t k)))) (Km, Im, Jm, Fm, Dm, Rm, nxm, slm) := by
  subst hx
  refine det_of h_MM_small rfl rfl rfl ?_
  refine ev_gOm [] [] rfl ?_
  refine ev_retd rfl ?_
  exact ⟨lf_Om, rfl⟩
theorem nr_n {x : UInt64} (h : vf_n64 x) : vf_n64 (nr x) := by
  unfold nr
  split
  · exact h
  · exact dv_n _ _ _
theorem pow_c {ci : Nat → Nat → Nat → Int32} {cn : Nat → Nat → Nat → Nat} {co : Nat → Option Nat} {xj : Nat → Nat → Nat → Int64} {xd : Nat → Nat → Nat → UInt64} {xf : Nat → Nat → Nat → UInt32} {xo : Nat → Nat → Nat → Option Nat} {xi : Nat → Nat → Nat → Int32} {xn : Nat → Nat → Nat → Nat} {I : Nat → Nat → Int32} {J : Nat → Nat → Int64} {F : Nat → Nat → UInt32} {D : Nat → Nat → UInt64} {R : Nat → Nat → Option Nat} {nx sl : Nat} (hC : RC ci cn co xj xd xf xo xi xn I J F D R nx sl) : ∀ j, j < 10 → D 12 j = pw2 j := fun _ hj => rc_pow hC hj
theorem two_n {y : UInt64} (h : vf_n64 y) : vf_n64 (FP.dmul (UInt64.ofNat 4611686018427387904) y) := mul_n nc_4611686018427387904 h (by
  have e : (UInt64.ofNat 4611686018427387904).toNat % 2 ^ 63 = 4611686018427387904 := by decide
  rw [e]; omega)
theorem dbl_n {y : UInt64} (h : vf_n64 y) : vf_n64 (FP.dadd y y) := add_n h h (by omega)
theorem b32q : FP.Core.b32.qmin = -149 := by decide
theorem b32x : FP.Core.b32.qmax = 104 := by decide
theorem b32p : 2 ^ FP.Core.b32.p = 16777216 := by decide
theorem f2d_dv {x : UInt32} (h : vf_n32 x) {s : Bool} {c : Nat} {q : Int} (hv : FP.Core.val32 x = .fin s c q) : FP.f2d x = dv s c q ∧ c < 16777216 ∧ -149 ≤ q ∧ q ≤ 104 := by
  have hf := FP.Core.val32_fits x
  rw [hv] at hf
  obtain ⟨f1, f2, f3, -⟩ := hf
  rw [b32p] at f1
  rw [b32q] at f2
  rw [b32x] at f3
  refine ⟨?_, f1, f2, f3⟩
  refine FP.Core.val64_inj (n64v (f2d_n h)) ?_
  rw [f2dv h, hv, dv_val]
  rfl
theorem frem_d {x y : UInt32} (hx : vf_n32 x) (hy : vf_n32 y) (h : ¬ ((FP.f2d y).toNat % 2 ^ 63 = 0 ∨ (FP.f2d x).toNat % 2 ^ 63 = 9218868437227405312)) : FP.d2f (FP.drem (FP.f2d x) (FP.f2d y)) = FP.frem x y := by
  have hdn : vf_n64 (FP.drem (FP.f2d x) (FP.f2d y)) := rem_n (f2d_n hx) (f2d_n hy) h
  cases hvx : FP.Core.val32 x with
  | nan => exact absurd hvx (n32v hx)
  | inf s => exact absurd ((dinf (f2d_n hx)).mpr ⟨s, f2inf hx hvx⟩) (fun g => h (Or.inr g))
  | fin s c q =>
    obtain ⟨ex, c1, q1, q2⟩ := f2d_dv hx hvx
    cases hvy : FP.Core.val32 y with
    | nan => exact absurd hvy (n32v hy)
    | inf t =>
      obtain ⟨k, hk⟩ := dv_fin (s := s) (r := c) (p := q) (by omega) (by omega) (by omega)
      rw [← ex] at hk
      rw [drem_inf hk (f2inf hy hvy), dff hx]
      refine FP.Core.val32_inj (n32v hx) ?_
      rw [show FP.frem x y = FP.Core.frem x y from rfl, FP.Core.val32_frem, hvx, hvy]
      exact (FP.Core.round_of_fits FP.Core.good_b32 (d := .fin s c q) (by rw [← hvx]; exact FP.Core.val32_fits x)).symm
    | fin t d r =>
      obtain ⟨ey, d1, r1, r2⟩ := f2d_dv hy hvy
      have hd0 : d ≠ 0 := by
        intro e
        subst e
        exact h (Or.inl (f2zer hy ⟨t, r, hvy⟩))
      obtain ⟨k1, hk1⟩ := dv_fin (s := s) (r := c) (p := q) (by omega) (by omega) (by omega)
      obtain ⟨k2, hk2⟩ := dv_fin (s := t) (r := d) (p := r) (by omega) (by omega) (by omega)
      rw [← ex] at hk1
      rw [← ey] at hk2
      obtain ⟨m, hm⟩ : ∃ m : Int, m = min q r := ⟨_, rfl⟩
      obtain ⟨m', hm'⟩ : ∃ m' : Int, m' = min (q - (k1 : Int)) (r - (k2 : Int)) := ⟨_, rfl⟩
      obtain ⟨A, hA⟩ : ∃ A : Nat, A = c * 2 ^ (q - m).toNat := ⟨_, rfl⟩
      obtain ⟨B, hB⟩ : ∃ B : Nat, B = d * 2 ^ (r - m).toNat := ⟨_, rfl⟩
      have hdr : FP.drem (FP.f2d x) (FP.f2d y) = dv s (A % B) m := by
        show FP.Core.of64 (FP.Core.round FP.Core.b64 (FP.Core.exactRemainder (FP.Core.val64 (FP.f2d x)) (FP.Core.val64 (FP.f2d y)))) = _
        rw [hk1, hk2]
        have hd2 : ¬ d * 2 ^ k2 = 0 := by
          intro e
          rcases Nat.mul_eq_zero.mp e with e | e
          · exact hd0 e
          · have := Nat.two_pow_pos k2; omega
        show FP.Core.of64 (FP.Core.round FP.Core.b64 (if d * 2 ^ k2 = 0 then .nan else .fin s (c * 2 ^ k1 * 2 ^ (q - (k1 : Int) - min (q - (k1 : Int)) (r - (k2 : Int))).toNat % (d * 2 ^ k2 * 2 ^ (r - (k2 : Int) - min (q - (k1 : Int)) (r - (k2 : Int))).toNat)) (min (q - (k1 : Int)) (r - (k2 : Int))))) = _
        rw [if_neg hd2, ← hm', mul_sh (c := (q - m').toNat) (by omega), mul_sh (c := (r - m').toNat) (by omega)]
        have e1 : c * 2 ^ (q - m').toNat = A * 2 ^ (m - m').toNat := by rw [hA]; exact (mul_sh (by omega)).symm
        have e2 : d * 2 ^ (r - m').toNat = B * 2 ^ (m - m').toNat := by rw [hB]; exact (mul_sh (by omega)).symm
        rw [e1, e2, Nat.mul_mod_mul_right]
        show dv s (A % B * 2 ^ (m - m').toNat) m' = dv s (A % B) m
        refine dv_cong ?_
        rw [show (m' - m).toNat = 0 by omega, Nat.pow_zero, Nat.mul_one]
      have hR : A % B < 16777216 := by
        rcases Int.le_total q r with g | g
        · have : A = c := by rw [hA, show (q - m).toNat = 0 by omega, Nat.pow_zero, Nat.mul_one]
          have := Nat.mod_le A B
          omega
        · have h1 : B = d := by rw [hB, show (r - m).toNat = 0 by omega, Nat.pow_zero, Nat.mul_one]
          have := Nat.mod_lt A (show 0 < B by omega)
          omega
      obtain ⟨k3, hk3⟩ := dv_fin (s := s) (r := A % B) (p := m) (by omega) (by omega) (by omega)
      rw [FP.d2f_core (n64n hdn), hdr]
      show FP.Core.of32 (FP.Core.round FP.Core.b32 (FP.Core.val64 (dv s (A % B) m))) = FP.Core.of32 (FP.Core.round FP.Core.b32 (FP.Core.exactRemainder (FP.Core.val32 x) (FP.Core.val32 y)))
      rw [hk3, hvx, hvy]
      refine congrArg FP.Core.of32 ?_
      show FP.Core.roundRatio FP.Core.b32 s (A % B * 2 ^ k3) 1 (m - (k3 : Int)) = FP.Core.round FP.Core.b32 (if d = 0 then .nan else .fin s (c * 2 ^ (q - min q r).toNat % (d * 2 ^ (r - min q r).toNat)) (min q r))
      rw [if_neg hd0, ← hm, ← hA, ← hB]
      show _ = FP.Core.roundRatio FP.Core.b32 s (A % B) 1 m
      refine FP.Core.roundRatio_congr (by decide) (by decide) ?_
      rw [show (m - (k3 : Int) - m).toNat = 0 by omega, show (m - (m - (k3 : Int))).toNat = k3 by omega, Nat.pow_zero]
      simp only [Nat.mul_one]
