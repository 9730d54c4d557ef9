def z_ci : Nat → Nat → Nat → Int32 := fun c _ _ => match c with
  | 3 => -(nI 1)
  | 4 => -(nI 1)
  | _ => nI 0
def z_cn : Nat → Nat → Nat → Nat := fun _ _ _ => 0
def z_co : Nat → Option Nat := fun _ => none
def z_xj : Nat → Nat → Nat → Int64 := fun _ _ _ => lN 0
def z_xd : Nat → Nat → Nat → UInt64 := fun _ _ _ => FP.dconst0
def z_xf : Nat → Nat → Nat → UInt32 := fun _ _ _ => FP.fconst0
def z_xo : Nat → Nat → Nat → Option Nat := fun _ _ _ => none
def z_xi : Nat → Nat → Nat → Int32 := fun _ _ _ => nI 0
def z_xn (al : Nat) : Nat → Nat → Nat → Nat := fun c _ _ => match c with
  | 3 => al
  | _ => 0
theorem z_ff : FP.f2d FP.fconst0 = FP.dconst0 := by decide +kernel
theorem z_nf : vf_n32 FP.fconst0 := by unfold vf_n32; decide
theorem RC_zero {I : Nat → Nat → Int32} {J : Nat → Nat → Int64} {F : Nat → Nat → UInt32} {D : Nat → Nat → UInt64} {R : Nat → Nat → Option Nat} {nx sl al : Nat} (hal : al ≤ 160) (h_num : ∀ t, t < 3 → ∀ k, k < 8 → J (32 + 7 * t + 1) (k) = lN 0) (h_dbl : ∀ t, t < 3 → ∀ k, k < 4 → D (32 + 7 * t + 2) (k) = FP.dconst0) (h_pow : ∀ j, j < 10 → D (12) (j) = pw2 j) (h_flt : ∀ t, t < 3 → ∀ k, k < 4 → F (32 + 7 * t + 3) (k) = FP.fconst0) (h_hol : ∀ t, t < 3 → ∀ k, k < 8 → R (32 + 7 * t + 4) (k) = none) (h_wan : ∀ t, t < 3 → R (32 + 7 * t) (14) = none) (h_thg : ∀ i, i < al → R (10) (i) = some (94 + 4 * i)) (h_thn : ∀ i, i < 160 → al ≤ i → R (10) (i) = none) (h_prg : ∀ p, p < 6 → R (7) (p) = some (14 + 3 * p)) (h_str : ∀ t, t < 3 → R (8) (t) = some (32 + 7 * t)) (h_pix : ∀ p, p < 6 → I (14 + 3 * p) (0) = nI p) (h_psz : ∀ p, p < 6 → I (14 + 3 * p) (1) = nI 0) (h_phn : ∀ p, p < 6 → I (14 + 3 * p) (2) = nI 0) (h_six : ∀ t, t < 3 → I (32 + 7 * t) (0) = nI t) (h_dep : ∀ t, t < 3 → I (32 + 7 * t) (7) = nI 0) (h_don : ∀ t, t < 3 → I (32 + 7 * t) (8) = nI 0) (h_fai : ∀ t, t < 3 → I (32 + 7 * t) (9) = nI 0) (h_fno : ∀ t, t < 3 → I (32 + 7 * t) (10) = nI 0) (h_lat : ∀ t, t < 3 → I (32 + 7 * t) (11) = nI 0) (h_lpr : ∀ t, t < 3 → I (32 + 7 * t) (12) = -(nI 1)) (h_lpl : ∀ t, t < 3 → I (32 + 7 * t) (13) = -(nI 1)) (h_mad : I (9) (1) = nI 0) (h_trc : I (13) (1) = nI 0) (h_tix : ∀ i, i < al → I (94 + 4 * i) (0) = nI i) (hN : nx = 94 + 4 * al) (hS : sl = 53 * al) : RC z_ci z_cn z_co z_xj z_xd z_xf z_xo z_xi (z_xn al) I J F D R nx sl :=
  ⟨⟨h_num, (fun i hi k hk e0 => absurd hi (Nat.not_lt_zero _)), (fun i hi => absurd hi (Nat.not_lt_zero _))⟩,
   ⟨h_dbl, (fun i hi k hk e0 e1 => absurd hi (Nat.not_lt_zero _)), (fun i hi => absurd hi (Nat.not_lt_zero _)), h_pow⟩,
   ⟨h_flt, (fun i hi => absurd hi (Nat.not_lt_zero _))⟩,
   ⟨h_hol, (fun i hi k hk e0 => absurd hi (Nat.not_lt_zero _)), (fun i hi => absurd hi (Nat.not_lt_zero _)), (fun i hi => absurd hi (Nat.not_lt_zero _)), h_wan, (fun t ht k hk => absurd hk (Nat.not_lt_zero _)), h_thg, h_thn, h_prg, h_str⟩,
   ⟨h_pix, h_psz, h_phn, (fun p hp k hk => absurd hk (Nat.not_lt_zero _)), (fun p hp k hk => absurd hk (Nat.not_lt_zero _)), (fun p hp k hk => absurd hk (Nat.not_lt_zero _)), (fun p hp k hk => absurd hk (Nat.not_lt_zero _)), (fun p hp k hk => absurd hk (Nat.not_lt_zero _)), (fun p hp k hk => absurd hk (Nat.not_lt_zero _)), (fun p hp k hk => absurd hk (Nat.not_lt_zero _)), (fun p hp k hk => absurd hk (Nat.not_lt_zero _)), h_six, h_dep, (fun t ht k hk => absurd hk (Nat.not_lt_zero _)), h_don, h_fai, h_fno, h_lat, h_lpr, h_lpl, h_mad, h_trc, h_tix, (fun i hi => absurd hi (Nat.not_lt_zero _)), (fun i hi => absurd hi (Nat.not_lt_zero _)), (fun i hi => absurd hi (Nat.not_lt_zero _)), (fun i hi => absurd hi (Nat.not_lt_zero _)), (fun i hi => absurd hi (Nat.not_lt_zero _)), (fun i hi => absurd hi (Nat.not_lt_zero _)), (fun i hi => absurd hi (Nat.not_lt_zero _)), (fun i hi => absurd hi (Nat.not_lt_zero _))⟩,
   ⟨(fun t ht k hk q h => by cases h), (fun i hi k hk e0 => absurd hi (Nat.not_lt_zero _)), (fun i hi => absurd hi (Nat.not_lt_zero _)), (fun i hi => absurd hi (Nat.not_lt_zero _)), (fun i hi => absurd hi (Nat.not_lt_zero _)), (fun i hi => absurd hi (Nat.not_lt_zero _)), (fun t ht k hk => nc_0), (fun i hi k hk e0 e1 => absurd hi (Nat.not_lt_zero _)), (fun i hi => absurd hi (Nat.not_lt_zero _)), (fun t ht k hk => z_nf), (fun i hi => absurd hi (Nat.not_lt_zero _)), ⟨Nat.zero_le _, hal⟩, (fun t ht q h => by cases h)⟩,
   hN,
   hS⟩
theorem RM_zero0 {I : Nat → Nat → Int32} {J : Nat → Nat → Int64} {D : Nat → Nat → UInt64} {al : Nat} (h_num : ∀ t, t < 3 → ∀ k, k < 8 → J (30) (8 * t + k) = lN 0) (h_dbl : ∀ t, t < 3 → ∀ k, k < 4 → D (31) (4 * t + k) = FP.dconst0) (h_flt : ∀ t, t < 3 → ∀ k, k < 4 → D (32) (4 * t + k) = FP.f2d FP.fconst0) (h_mad : I (6) (0) = nI 0) (h_trc : I (6) (14) = nI 0) (h_psz : ∀ p, p < 6 → I (20) (p) = nI 0) (h_phn : ∀ p, p < 6 → I (25) (p) = nI 0) (h_hol : ∀ t, t < 3 → ∀ k, k < 8 → I (33) (8 * t + k) = -(nI 1)) (h_isn : ∀ t, t < 3 → I (34) (t) = nI 0) (h_dep : ∀ t, t < 3 → I (35) (t) = nI 0) (h_don : ∀ t, t < 3 → I (38) (t) = nI 0) (h_fai : ∀ t, t < 3 → I (39) (t) = nI 0) (h_lat : ∀ t, t < 3 → I (40) (t) = nI 0) (h_lpr : ∀ t, t < 3 → I (41) (t) = -(nI 1)) (h_lpl : ∀ t, t < 3 → I (42) (t) = -(nI 1)) (h_wan : ∀ t, t < 3 → I (43) (t) = -(nI 1)) : RM z_ci z_cn z_co z_xj z_xd z_xf z_xo z_xi (z_xn al) I J D :=
  ⟨⟨h_num, (fun i hi k hk e0 => absurd hi (Nat.not_lt_zero _)), (fun i hi k hk e0 => absurd hi (Nat.not_lt_zero _)), (fun i hi => absurd hi (Nat.not_lt_zero _))⟩,
   ⟨h_dbl, h_flt, (fun i hi k hk e0 e1 => absurd hi (Nat.not_lt_zero _)), (fun i hi => absurd hi (Nat.not_lt_zero _)), (fun i hi => absurd hi (Nat.not_lt_zero _))⟩,
   ⟨h_mad, h_trc, (fun i hi => absurd hi (Nat.not_lt_zero _)), (fun i hi => absurd hi (Nat.not_lt_zero _)), (fun i hi => absurd hi (Nat.not_lt_zero _)), (fun i hi => absurd hi (Nat.not_lt_zero _)), (fun i hi => absurd hi (Nat.not_lt_zero _)), (fun i hi k hk => absurd hi (Nat.not_lt_zero _)), (fun i hi => absurd hi (Nat.not_lt_zero _)), (fun i hi => absurd hi (Nat.not_lt_zero _)), h_psz, (fun p hp k hk => absurd hk (Nat.not_lt_zero _)), (fun p hp k hk => absurd hk (Nat.not_lt_zero _)), (fun p hp k hk => absurd hk (Nat.not_lt_zero _)), (fun p hp k hk => absurd hk (Nat.not_lt_zero _)), h_phn, (fun p hp k hk => absurd hk (Nat.not_lt_zero _)), (fun p hp k hk => absurd hk (Nat.not_lt_zero _)), (fun p hp k hk => absurd hk (Nat.not_lt_zero _)), (fun p hp k hk => absurd hk (Nat.not_lt_zero _)), h_hol, h_isn, h_dep, (fun t ht k hk => absurd hk (Nat.not_lt_zero _)), (fun t ht k hk => absurd hk (Nat.not_lt_zero _)), h_don, h_fai, h_lat, h_lpr, h_lpl, h_wan⟩⟩
theorem IC_zero : IC z_ci z_cn := ⟨fun t _ => Nat.zero_le _, fun t _ k hk => absurd hk (Nat.not_lt_zero _), fun p _ => ⟨Nat.zero_le _, Nat.zero_le _⟩, fun p _ k hk => absurd hk (Nat.not_lt_zero _), fun p _ k hk => absurd hk (Nat.not_lt_zero _)⟩
theorem IW_zero : IW z_cn z_co := fun u _ _ => rfl
def BEG (I : Nat → Nat → Int32) (J : Nat → Nat → Int64) (D : Nat → Nat → UInt64) : Prop := (I 6 0 = nI 0 ∧ I 6 14 = nI 0) ∧ (∀ p, p < 6 → I 20 p = nI 0 ∧ I 25 p = nI 0) ∧ (∀ p, p < 24 → J 30 p = lN 0 ∧ I 33 p = -(nI 1)) ∧ (∀ p, p < 12 → D 31 p = FP.dconst0 ∧ D 32 p = FP.dconst0) ∧ (∀ p, p < 3 → I 34 p = nI 0 ∧ I 35 p = nI 0 ∧ I 38 p = nI 0 ∧ I 39 p = nI 0 ∧ I 40 p = nI 0 ∧ I 41 p = -(nI 1) ∧ I 42 p = -(nI 1) ∧ I 43 p = -(nI 1))
theorem RM_zero {I : Nat → Nat → Int32} {J : Nat → Nat → Int64} {D : Nat → Nat → UInt64} {al : Nat} (h : BEG I J D) : RM z_ci z_cn z_co z_xj z_xd z_xf z_xo z_xi (z_xn al) I J D := by
  obtain ⟨h0, h1, h2, h3, h4⟩ := h
  exact RM_zero0 (fun t ht k hk => (h2 (8 * t + k) (by omega)).1) (fun t ht k hk => (h3 (4 * t + k) (by omega)).1) (fun t ht k hk => (h3 (4 * t + k) (by omega)).2.trans z_ff.symm) (h0.1) (h0.2) (fun p hp => (h1 p hp).1) (fun p hp => (h1 p hp).2) (fun t ht k hk => (h2 (8 * t + k) (by omega)).2) (fun t ht => (h4 t ht).1) (fun t ht => (h4 t ht).2.1) (fun t ht => (h4 t ht).2.2.1) (fun t ht => (h4 t ht).2.2.2.1) (fun t ht => (h4 t ht).2.2.2.2.1) (fun t ht => (h4 t ht).2.2.2.2.2.1) (fun t ht => (h4 t ht).2.2.2.2.2.2.1) (fun t ht => (h4 t ht).2.2.2.2.2.2.2)
theorem ev_gZ1 {Y : mm_Y} {μ0 : mm_M} {rem : List mm_E} {L : mm_L} {st : List mm_V} {μ : mm_M} {Post : Option mm_V → mm_M → Prop} (bs : List Bool) (os : List (Option Nat)) {e2 : mm_E} {rem2 : List mm_E} {L2 : mm_L} {st2 : List mm_V} {μ2 : mm_M} {P2 : Prop} (h : mm_go 5000 (mm_co Y) rem L st μ bs os True = some (e2 :: rem2, L2, st2, μ2, P2)) (k : Ev Y μ0 (e2 :: rem2) L2 st2 μ2 Post) (hp : P2 := by (repeat' apply And.intro) <;> first | exact trivial | assumption | rfl | decide | omega | (simp (disch := first | assumption | omega | decide) only [i_add, i_mul, n_cl, nI_and7, nI_and3, v_in, i_eq, i_lt, i_le, i_eq0, i_lt0, i_ge0, i_gt0, i_le0, lg_cmp_eq, lg_cmp_ge, lg_cmp_gt, lg_cmp_le, lg_cmp_lt, zb_e0, zb_n0, Classical.not_not, up_ne, Nat.zero_add, Nat.add_zero, *] <;> first | assumption | omega | decide)) : Ev Y μ0 rem L st μ Post := ev_go bs os h hp k
theorem ev_bZ1 {Y : mm_Y} {μ0 : mm_M} {rem : List mm_E} {L : mm_L} {st : List mm_V} {μ : mm_M} {Post : Option mm_V → mm_M → Prop} {e2 e3 : mm_E} {rem2 rem3 : List mm_E} {L2 L3 : mm_L} {st2 st3 : List mm_V} {μ2 μ3 : mm_M} {c c2 d d2 : Prop} (hT : mm_go 1 (mm_co Y) rem L st μ [true] [] True = some (e2 :: rem2, L2, st2, μ2, True ∧ c)) (hF : mm_go 1 (mm_co Y) rem L st μ [false] [] True = some (e3 :: rem3, L3, st3, μ3, True ∧ c2)) (kt : d → Ev Y μ0 (e2 :: rem2) L2 st2 μ2 Post) (kf : d2 → Ev Y μ0 (e3 :: rem3) L3 st3 μ3 Post) (hc : ¬ c → c2 := by first | exact id | exact Classical.not_not.mp) (g1 : c → d := by intro hh; (try simp (disch := first | assumption | omega | decide) only [i_add, i_mul, n_cl, nI_and7, nI_and3, v_in, i_eq, i_lt, i_le, i_eq0, i_lt0, i_ge0, i_gt0, i_le0, lg_cmp_eq, lg_cmp_ge, lg_cmp_gt, lg_cmp_le, lg_cmp_lt, zb_e0, zb_n0, Classical.not_not, up_ne, Nat.zero_add, Nat.add_zero, *] at hh); exact hh) (g2 : c2 → d2 := by intro hh; (try simp (disch := first | assumption | omega | decide) only [i_add, i_mul, n_cl, nI_and7, nI_and3, v_in, i_eq, i_lt, i_le, i_eq0, i_lt0, i_ge0, i_gt0, i_le0, lg_cmp_eq, lg_cmp_ge, lg_cmp_gt, lg_cmp_le, lg_cmp_lt, zb_e0, zb_n0, Classical.not_not, up_ne, Nat.zero_add, Nat.add_zero, *] at hh); exact hh) : Ev Y μ0 rem L st μ Post := ev_br hT hF hc (fun h => kt (g1 h)) (fun h => kf (g2 h))
theorem lf_Z1 {p : Prop} (h : p := by first | rfl | assumption | (simp (disch := first | assumption | omega | decide) only [i_add, i_mul, n_cl, nI_and7, nI_and3, v_in, i_eq, i_lt, i_le, i_eq0, i_lt0, i_ge0, i_gt0, i_le0, lg_cmp_eq, lg_cmp_ge, lg_cmp_gt, lg_cmp_le, lg_cmp_lt, zb_e0, zb_n0, Classical.not_not, up_ne, Nat.zero_add, Nat.add_zero, *] <;> first | rfl | assumption | omega | decide)) : p := h
theorem BG_1 {Km : Nat → Nat} {Fm : Nat → Nat → UInt32} {Rm : Nat → Nat → Option Nat} {nxm slm : Nat} {μ0 : mm_M} {Post : Option mm_V → mm_M → Prop} (hX : ∀ (I : Nat → Nat → Int32) (J : Nat → Nat → Int64) (D : Nat → Nat → UInt64), (I 6 0 = nI 0 ∧ I 6 14 = nI 0) ∧ (∀ p, p < 6 → I 20 p = nI 0 ∧ I 25 p = nI 0) → Ev Y_MM_begin μ0 (mm_to (mm_co Y_MM_begin) 43) [(0, vr 11 6), (1, vi (nI 0))] [vi (nI 24), vi (nI 0)] (Km, I, J, Fm, D, Rm, nxm, slm) Post) : ∀ (n k : Nat) (I : Nat → Nat → Int32) (J : Nat → Nat → Int64) (D : Nat → Nat → UInt64), k + n = 6 → (I 6 0 = nI 0 ∧ I 6 14 = nI 0) ∧ (∀ p, p < k → I 20 p = nI 0 ∧ I 25 p = nI 0) → Ev Y_MM_begin μ0 (mm_to (mm_co Y_MM_begin) 15) [(0, vr 11 6), (1, vi (nI k))] [vi (nI 6), vi (nI k)] (Km, I, J, Fm, D, Rm, nxm, slm) Post := by
  intro n
  induction n with
  | zero =>
    intro k I J D hk hinv
    obtain rfl : k = 6 := by omega
    refine ev_gZ1 [true] [] rfl ?_
    exact hX I J D hinv
  | succ n ih =>
    intro k I J D hk hinv
    have hc : (nI k).toNatClampNeg = k := n_cl (by omega)
    refine ev_gZ1 [false] [] rfl ?_
    refine ev_cg2 (L2 := [(0, vr 11 6), (1, vi (nI (k + 1)))]) (st2 := [vi (nI 6), vi (nI (k + 1))]) (μ2 := (Km, (mm_up (mm_up I 20 k (nI 0)) 25 k (nI 0)), J, Fm, D, Rm, nxm, slm)) lf_Z1 lf_Z1 (by rw [hc]) (ih (k + 1) _ _ _ (by omega) ?_)
    obtain ⟨h0, h1⟩ := hinv
    refine ⟨?_, ?_⟩
    · refine ⟨?_, ?_⟩
      · rw [up_ne (by omega), up_ne (by omega)]; exact h0.1
      · rw [up_ne (by omega), up_ne (by omega)]; exact h0.2
    · intro p hp
      by_cases e : p = k
      · subst e
        refine ⟨?_, ?_⟩
        · rw [up_ne (by omega), up_eq ⟨rfl, rfl⟩]
        · rw [up_eq ⟨rfl, rfl⟩]
      · have hq := h1 p (by omega)
        refine ⟨?_, ?_⟩
        · rw [up_ne (by omega), up_ne (by omega)]; exact hq.1
        · rw [up_ne (by omega), up_ne (by omega)]; exact hq.2
theorem BG_2 {Km : Nat → Nat} {Fm : Nat → Nat → UInt32} {Rm : Nat → Nat → Option Nat} {nxm slm : Nat} {μ0 : mm_M} {Post : Option mm_V → mm_M → Prop} (hX : ∀ (I : Nat → Nat → Int32) (J : Nat → Nat → Int64) (D : Nat → Nat → UInt64), (I 6 0 = nI 0 ∧ I 6 14 = nI 0) ∧ (∀ p, p < 6 → I 20 p = nI 0 ∧ I 25 p = nI 0) ∧ (∀ p, p < 24 → J 30 p = lN 0 ∧ I 33 p = -(nI 1)) → Ev Y_MM_begin μ0 (mm_to (mm_co Y_MM_begin) 71) [(0, vr 11 6), (1, vi (nI 0))] [vi (nI 12), vi (nI 0)] (Km, I, J, Fm, D, Rm, nxm, slm) Post) : ∀ (n k : Nat) (I : Nat → Nat → Int32) (J : Nat → Nat → Int64) (D : Nat → Nat → UInt64), k + n = 24 → (I 6 0 = nI 0 ∧ I 6 14 = nI 0) ∧ (∀ p, p < 6 → I 20 p = nI 0 ∧ I 25 p = nI 0) ∧ (∀ p, p < k → J 30 p = lN 0 ∧ I 33 p = -(nI 1)) → Ev Y_MM_begin μ0 (mm_to (mm_co Y_MM_begin) 43) [(0, vr 11 6), (1, vi (nI k))] [vi (nI 24), vi (nI k)] (Km, I, J, Fm, D, Rm, nxm, slm) Post := by
  intro n
  induction n with
  | zero =>
    intro k I J D hk hinv
    obtain rfl : k = 24 := by omega
    refine ev_gZ1 [true] [] rfl ?_
    exact hX I J D hinv
  | succ n ih =>
    intro k I J D hk hinv
    have hc : (nI k).toNatClampNeg = k := n_cl (by omega)
    refine ev_gZ1 [false] [] rfl ?_
    refine ev_cg2 (L2 := [(0, vr 11 6), (1, vi (nI (k + 1)))]) (st2 := [vi (nI 24), vi (nI (k + 1))]) (μ2 := (Km, (mm_up I 33 k (-(nI 1))), (mm_up J 30 k (lN 0)), Fm, D, Rm, nxm, slm)) lf_Z1 lf_Z1 (by rw [hc]) (ih (k + 1) _ _ _ (by omega) ?_)
    obtain ⟨h0, h1, h2⟩ := hinv
    refine ⟨?_, ?_, ?_⟩
    · refine ⟨?_, ?_⟩
      · rw [up_ne (by omega)]; exact h0.1
      · rw [up_ne (by omega)]; exact h0.2
    · intro p hp
      have hq := h1 p hp
      refine ⟨?_, ?_⟩
      · rw [up_ne (by omega)]; exact hq.1
      · rw [up_ne (by omega)]; exact hq.2
    · intro p hp
      by_cases e : p = k
      · subst e
        refine ⟨?_, ?_⟩
        · rw [up_eq ⟨rfl, rfl⟩]
        · rw [up_eq ⟨rfl, rfl⟩]
      · have hq := h2 p (by omega)
        refine ⟨?_, ?_⟩
        · rw [up_ne (by omega)]; exact hq.1
        · rw [up_ne (by omega)]; exact hq.2
theorem BG_3 {Km : Nat → Nat} {Fm : Nat → Nat → UInt32} {Rm : Nat → Nat → Option Nat} {nxm slm : Nat} {μ0 : mm_M} {Post : Option mm_V → mm_M → Prop} (hX : ∀ (I : Nat → Nat → Int32) (J : Nat → Nat → Int64) (D : Nat → Nat → UInt64), (I 6 0 = nI 0 ∧ I 6 14 = nI 0) ∧ (∀ p, p < 6 → I 20 p = nI 0 ∧ I 25 p = nI 0) ∧ (∀ p, p < 24 → J 30 p = lN 0 ∧ I 33 p = -(nI 1)) ∧ (∀ p, p < 12 → D 31 p = FP.dconst0 ∧ D 32 p = FP.dconst0) → Ev Y_MM_begin μ0 (mm_to (mm_co Y_MM_begin) 98) [(0, vr 11 6), (1, vi (nI 0))] [vi (nI 3), vi (nI 0)] (Km, I, J, Fm, D, Rm, nxm, slm) Post) : ∀ (n k : Nat) (I : Nat → Nat → Int32) (J : Nat → Nat → Int64) (D : Nat → Nat → UInt64), k + n = 12 → (I 6 0 = nI 0 ∧ I 6 14 = nI 0) ∧ (∀ p, p < 6 → I 20 p = nI 0 ∧ I 25 p = nI 0) ∧ (∀ p, p < 24 → J 30 p = lN 0 ∧ I 33 p = -(nI 1)) ∧ (∀ p, p < k → D 31 p = FP.dconst0 ∧ D 32 p = FP.dconst0) → Ev Y_MM_begin μ0 (mm_to (mm_co Y_MM_begin) 71) [(0, vr 11 6), (1, vi (nI k))] [vi (nI 12), vi (nI k)] (Km, I, J, Fm, D, Rm, nxm, slm) Post := by
  intro n
  induction n with
  | zero =>
    intro k I J D hk hinv
    obtain rfl : k = 12 := by omega
    refine ev_gZ1 [true] [] rfl ?_
    exact hX I J D hinv
  | succ n ih =>
    intro k I J D hk hinv
    have hc : (nI k).toNatClampNeg = k := n_cl (by omega)
    refine ev_gZ1 [false] [] rfl ?_
    refine ev_cg2 (L2 := [(0, vr 11 6), (1, vi (nI (k + 1)))]) (st2 := [vi (nI 12), vi (nI (k + 1))]) (μ2 := (Km, I, J, Fm, (mm_up (mm_up D 31 k (FP.dconst0)) 32 k (FP.dconst0)), Rm, nxm, slm)) lf_Z1 lf_Z1 (by rw [hc]) (ih (k + 1) _ _ _ (by omega) ?_)
    obtain ⟨h0, h1, h2, h3⟩ := hinv
    refine ⟨?_, ?_, ?_, ?_⟩
    · refine ⟨?_, ?_⟩
      · skip; exact h0.1
      · skip; exact h0.2
    · intro p hp
      have hq := h1 p hp
      refine ⟨?_, ?_⟩
      · skip; exact hq.1
      · skip; exact hq.2
    · intro p hp
      have hq := h2 p hp
      refine ⟨?_, ?_⟩
      · skip; exact hq.1
      · skip; exact hq.2
    · intro p hp
      by_cases e : p = k
      · subst e
        refine ⟨?_, ?_⟩
        · rw [up_ne (by omega), up_eq ⟨rfl, rfl⟩]
        · rw [up_eq ⟨rfl, rfl⟩]
      · have hq := h3 p (by omega)
        refine ⟨?_, ?_⟩
        · rw [up_ne (by omega), up_ne (by omega)]; exact hq.1
        · rw [up_ne (by omega), up_ne (by omega)]; exact hq.2
theorem BG_4 {Km : Nat → Nat} {Fm : Nat → Nat → UInt32} {Rm : Nat → Nat → Option Nat} {nxm slm : Nat} {μ0 : mm_M} {Post : Option mm_V → mm_M → Prop} (hX : ∀ (I : Nat → Nat → Int32) (J : Nat → Nat → Int64) (D : Nat → Nat → UInt64), (I 6 0 = nI 0 ∧ I 6 14 = nI 0) ∧ (∀ p, p < 6 → I 20 p = nI 0 ∧ I 25 p = nI 0) ∧ (∀ p, p < 24 → J 30 p = lN 0 ∧ I 33 p = -(nI 1)) ∧ (∀ p, p < 12 → D 31 p = FP.dconst0 ∧ D 32 p = FP.dconst0) ∧ (∀ p, p < 3 → I 34 p = nI 0 ∧ I 35 p = nI 0 ∧ I 38 p = nI 0 ∧ I 39 p = nI 0 ∧ I 40 p = nI 0 ∧ I 41 p = -(nI 1) ∧ I 42 p = -(nI 1) ∧ I 43 p = -(nI 1)) → Post none (Km, I, J, Fm, D, Rm, nxm, slm)) : ∀ (n k : Nat) (I : Nat → Nat → Int32) (J : Nat → Nat → Int64) (D : Nat → Nat → UInt64), k + n = 3 → (I 6 0 = nI 0 ∧ I 6 14 = nI 0) ∧ (∀ p, p < 6 → I 20 p = nI 0 ∧ I 25 p = nI 0) ∧ (∀ p, p < 24 → J 30 p = lN 0 ∧ I 33 p = -(nI 1)) ∧ (∀ p, p < 12 → D 31 p = FP.dconst0 ∧ D 32 p = FP.dconst0) ∧ (∀ p, p < k → I 34 p = nI 0 ∧ I 35 p = nI 0 ∧ I 38 p = nI 0 ∧ I 39 p = nI 0 ∧ I 40 p = nI 0 ∧ I 41 p = -(nI 1) ∧ I 42 p = -(nI 1) ∧ I 43 p = -(nI 1)) → Ev Y_MM_begin μ0 (mm_to (mm_co Y_MM_begin) 98) [(0, vr 11 6), (1, vi (nI k))] [vi (nI 3), vi (nI k)] (Km, I, J, Fm, D, Rm, nxm, slm) Post := by
  intro n
  induction n with
  | zero =>
    intro k I J D hk hinv
    obtain rfl : k = 3 := by omega
    refine ev_gZ1 [true] [] rfl ?_
    exact ev_ret rfl (hX I J D hinv)
  | succ n ih =>
    intro k I J D hk hinv
    have hc : (nI k).toNatClampNeg = k := n_cl (by omega)
    refine ev_gZ1 [false] [] rfl ?_
    refine ev_cg2 (L2 := [(0, vr 11 6), (1, vi (nI (k + 1)))]) (st2 := [vi (nI 3), vi (nI (k + 1))]) (μ2 := (Km, (mm_up (mm_up (mm_up (mm_up (mm_up (mm_up (mm_up (mm_up I 34 k (nI 0)) 35 k (nI 0)) 38 k (nI 0)) 39 k (nI 0)) 40 k (nI 0)) 41 k (-(nI 1))) 42 k (-(nI 1))) 43 k (-(nI 1))), J, Fm, D, Rm, nxm, slm)) lf_Z1 lf_Z1 (by rw [hc, show vp_nar FieldType.boolean (nI 0) = nI 0 from by decide]) (ih (k + 1) _ _ _ (by omega) ?_)
    obtain ⟨h0, h1, h2, h3, h4⟩ := hinv
    refine ⟨?_, ?_, ?_, ?_, ?_⟩
    · refine ⟨?_, ?_⟩
      · rw [up_ne (by omega), up_ne (by omega), up_ne (by omega), up_ne (by omega), up_ne (by omega), up_ne (by omega), up_ne (by omega), up_ne (by omega)]; exact h0.1
      · rw [up_ne (by omega), up_ne (by omega), up_ne (by omega), up_ne (by omega), up_ne (by omega), up_ne (by omega), up_ne (by omega), up_ne (by omega)]; exact h0.2
    · intro p hp
      have hq := h1 p hp
      refine ⟨?_, ?_⟩
      · rw [up_ne (by omega), up_ne (by omega), up_ne (by omega), up_ne (by omega), up_ne (by omega), up_ne (by omega), up_ne (by omega), up_ne (by omega)]; exact hq.1
      · rw [up_ne (by omega), up_ne (by omega), up_ne (by omega), up_ne (by omega), up_ne (by omega), up_ne (by omega), up_ne (by omega), up_ne (by omega)]; exact hq.2
    · intro p hp
      have hq := h2 p hp
      refine ⟨?_, ?_⟩
      · skip; exact hq.1
      · rw [up_ne (by omega), up_ne (by omega), up_ne (by omega), up_ne (by omega), up_ne (by omega), up_ne (by omega), up_ne (by omega), up_ne (by omega)]; exact hq.2
    · intro p hp
      have hq := h3 p hp
      refine ⟨?_, ?_⟩
      · skip; exact hq.1
      · skip; exact hq.2
    · intro p hp
      by_cases e : p = k
      · subst e
        refine ⟨?_, ?_, ?_, ?_, ?_, ?_, ?_, ?_⟩
        · rw [up_ne (by omega), up_ne (by omega), up_ne (by omega), up_ne (by omega), up_ne (by omega), up_ne (by omega), up_ne (by omega), up_eq ⟨rfl, rfl⟩]
        · rw [up_ne (by omega), up_ne (by omega), up_ne (by omega), up_ne (by omega), up_ne (by omega), up_ne (by omega), up_eq ⟨rfl, rfl⟩]
        · rw [up_ne (by omega), up_ne (by omega), up_ne (by omega), up_ne (by omega), up_ne (by omega), up_eq ⟨rfl, rfl⟩]
        · rw [up_ne (by omega), up_ne (by omega), up_ne (by omega), up_ne (by omega), up_eq ⟨rfl, rfl⟩]
        · rw [up_ne (by omega), up_ne (by omega), up_ne (by omega), up_eq ⟨rfl, rfl⟩]
        · rw [up_ne (by omega), up_ne (by omega), up_eq ⟨rfl, rfl⟩]
        · rw [up_ne (by omega), up_eq ⟨rfl, rfl⟩]
        · rw [up_eq ⟨rfl, rfl⟩]
      · have hq := h4 p (by omega)
        refine ⟨?_, ?_, ?_, ?_, ?_, ?_, ?_, ?_⟩
        · rw [up_ne (by omega), up_ne (by omega), up_ne (by omega), up_ne (by omega), up_ne (by omega), up_ne (by omega), up_ne (by omega), up_ne (by omega)]; exact hq.1
        · rw [up_ne (by omega), up_ne (by omega), up_ne (by omega), up_ne (by omega), up_ne (by omega), up_ne (by omega), up_ne (by omega), up_ne (by omega)]; exact hq.2.1
        · rw [up_ne (by omega), up_ne (by omega), up_ne (by omega), up_ne (by omega), up_ne (by omega), up_ne (by omega), up_ne (by omega), up_ne (by omega)]; exact hq.2.2.1
        · rw [up_ne (by omega), up_ne (by omega), up_ne (by omega), up_ne (by omega), up_ne (by omega), up_ne (by omega), up_ne (by omega), up_ne (by omega)]; exact hq.2.2.2.1
        · rw [up_ne (by omega), up_ne (by omega), up_ne (by omega), up_ne (by omega), up_ne (by omega), up_ne (by omega), up_ne (by omega), up_ne (by omega)]; exact hq.2.2.2.2.1
        · rw [up_ne (by omega), up_ne (by omega), up_ne (by omega), up_ne (by omega), up_ne (by omega), up_ne (by omega), up_ne (by omega), up_ne (by omega)]; exact hq.2.2.2.2.2.1
        · rw [up_ne (by omega), up_ne (by omega), up_ne (by omega), up_ne (by omega), up_ne (by omega), up_ne (by omega), up_ne (by omega), up_ne (by omega)]; exact hq.2.2.2.2.2.2.1
        · rw [up_ne (by omega), up_ne (by omega), up_ne (by omega), up_ne (by omega), up_ne (by omega), up_ne (by omega), up_ne (by omega), up_ne (by omega)]; exact hq.2.2.2.2.2.2.2
theorem C_begin {Km : Nat → Nat} {Im : Nat → Nat → Int32} {Jm : Nat → Nat → Int64} {Fm : Nat → Nat → UInt32} {Dm : Nat → Nat → UInt64} {Rm : Nat → Nat → Option Nat} {nxm slm : Nat} : Ct Y_MM_begin [vr 11 6] (Km, Im, Jm, Fm, Dm, Rm, nxm, slm) (fun r μ1 => r = none ∧ ∃ I1 J1 D1, μ1 = (Km, I1, J1, Fm, D1, Rm, nxm, slm) ∧ BEG I1 J1 D1) := by
  refine ct_of h_MM_begin rfl rfl rfl ?_
  refine ev_go [] [] rfl trivial ?_
  refine BG_1 (fun I J D h => ?_) 6 0 _ _ _ (by omega) ⟨⟨rfl, rfl⟩, fun p hp => absurd hp (Nat.not_lt_zero _)⟩
  refine BG_2 (fun I J D h => ?_) 24 0 _ _ _ (by omega) ⟨h.1, h.2, fun p hp => absurd hp (Nat.not_lt_zero _)⟩
  refine BG_3 (fun I J D h => ?_) 12 0 _ _ _ (by omega) ⟨h.1, h.2.1, h.2.2, fun p hp => absurd hp (Nat.not_lt_zero _)⟩
  refine BG_4 (fun I J D h => ?_) 3 0 _ _ _ (by omega) ⟨h.1, h.2.1, h.2.2.1, h.2.2.2, fun p hp => absurd hp (Nat.not_lt_zero _)⟩
  exact ⟨rfl, I, J, D, rfl, h⟩
def zf {α : Type} (f : Nat → Nat → Nat → α) (t k : Nat) (v : α) : Nat → Nat → Nat → α := fun c i j => if c = 0 ∧ i = t ∧ j < k then v else f c i j
theorem zf_0 {α : Type} (f : Nat → Nat → Nat → α) (t : Nat) (v : α) : zf f t 0 v = f := by
  funext c i j
  exact if_neg (fun h => absurd h.2.2 (Nat.not_lt_zero _))
theorem zf_s {α : Type} (f : Nat → Nat → Nat → α) (t k : Nat) (v : α) : u3 (zf f t k v) 0 t k v = zf f t (k + 1) v := by
  funext c i j
  unfold u3 zf
  by_cases h : c = 0 ∧ i = t ∧ j = k
  · rw [if_pos h, if_pos ⟨h.1, h.2.1, by omega⟩]
  · rw [if_neg h]
    by_cases h2 : c = 0 ∧ i = t ∧ j < k
    · rw [if_pos h2, if_pos ⟨h2.1, h2.2.1, by omega⟩]
    · rw [if_neg h2, if_neg (fun g => by
        rcases Nat.lt_or_ge j k with e | e
        · exact h2 ⟨g.1, g.2.1, e⟩
        · exact h ⟨g.1, g.2.1, by omega⟩)]
def zg {α : Type} (f : Nat → Nat → Nat → α) (t n : Nat) (v : α) : Nat → Nat → Nat → α := fun c i j => if c = 0 ∧ i < t ∧ j < n then v else f c i j
theorem zg_0 {α : Type} (f : Nat → Nat → Nat → α) (n : Nat) (v : α) : zg f 0 n v = f := by
  funext c i j
  exact if_neg (fun h => absurd h.2.1 (Nat.not_lt_zero _))
theorem zg_s {α : Type} (f : Nat → Nat → Nat → α) (t n : Nat) (v : α) : zf (zg f t n v) t n v = zg f (t + 1) n v := by
  funext c i j
  unfold zf zg
  by_cases h : c = 0 ∧ i = t ∧ j < n
  · rw [if_pos h, if_pos ⟨h.1, by omega, h.2.2⟩]
  · rw [if_neg h]
    by_cases h2 : c = 0 ∧ i < t ∧ j < n
    · rw [if_pos h2, if_pos ⟨h2.1, by omega, h2.2.2⟩]
    · rw [if_neg h2, if_neg (fun g => by
        rcases Nat.lt_or_ge i t with e | e
        · exact h2 ⟨g.1, e, g.2.2⟩
        · exact h ⟨g.1, by omega, g.2.2⟩)]
theorem zg_t {α : Type} {f : Nat → Nat → Nat → α} {n : Nat} {v : α} {t k : Nat} (ht : t < 3) (hk : k < n) : zg f 3 n v 0 t k = v := if_pos ⟨rfl, ht, hk⟩
def zp (cn : Nat → Nat → Nat → Nat) (p : Nat) : Nat → Nat → Nat → Nat := fun c i j => if (c = 3 ∨ c = 4) ∧ i < p ∧ j = 0 then 0 else cn c i j
theorem zp_0 (cn : Nat → Nat → Nat → Nat) : zp cn 0 = cn := by
  funext c i j
  exact if_neg (fun h => absurd h.2.1 (Nat.not_lt_zero _))
theorem zp_s (cn : Nat → Nat → Nat → Nat) (p : Nat) : u3 (u3 (zp cn p) 3 p 0 0) 4 p 0 0 = zp cn (p + 1) := by
  funext c i j
  unfold u3 zp
  (repeat' split) <;> first | rfl | (exfalso; omega)
def zd (cn : Nat → Nat → Nat → Nat) (t : Nat) : Nat → Nat → Nat → Nat := fun c i j => if c = 0 ∧ i < t ∧ j = 0 then 0 else cn c i j
theorem zd_0 (cn : Nat → Nat → Nat → Nat) : zd cn 0 = cn := by
  funext c i j
  exact if_neg (fun h => absurd h.2.1 (Nat.not_lt_zero _))
theorem zd_s (cn : Nat → Nat → Nat → Nat) (t : Nat) : u3 (zd cn t) 0 t 0 0 = zd cn (t + 1) := by
  funext c i j
  unfold u3 zd
  (repeat' split) <;> first | rfl | (exfalso; omega)
def zw (co : Nat → Option Nat) (t : Nat) : Nat → Option Nat := fun i => if i < t then none else co i
theorem zw_0 (co : Nat → Option Nat) : zw co 0 = co := by
  funext i
  exact if_neg (Nat.not_lt_zero _)
theorem zw_s (co : Nat → Option Nat) (t : Nat) : u1 (zw co t) t none = zw co (t + 1) := by
  funext i
  unfold u1 zw
  (repeat' split) <;> first | rfl | (exfalso; omega)
def zc (ci : Nat → Nat → Nat → Int32) (t : Nat) : Nat → Nat → Nat → Int32 := fun c i j => if i < t ∧ j = 0 ∧ c < 6 then (if c = 3 ∨ c = 4 then -(nI 1) else nI 0) else ci c i j
theorem zc_0 (ci : Nat → Nat → Nat → Int32) : zc ci 0 = ci := by
  funext c i j
  exact if_neg (fun h => absurd h.1 (Nat.not_lt_zero _))
theorem zc_s (ci : Nat → Nat → Nat → Int32) (t : Nat) : u3 (u3 (u3 (u3 (u3 (u3 (zc ci t) 0 t 0 (nI 0)) 1 t 0 (nI 0)) 5 t 0 (nI 0)) 2 t 0 (nI 0)) 3 t 0 (-(nI 1))) 4 t 0 (-(nI 1)) = zc ci (t + 1) := by
  funext c i j
  unfold u3 zc
  (repeat' split) <;> first | rfl | (exfalso; omega)
theorem ev_gZ2 {Y : mm_Y} {μ0 : mm_M} {rem : List mm_E} {L : mm_L} {st : List mm_V} {μ : mm_M} {Post : Option mm_V → mm_M → Prop} (bs : List Bool) (os : List (Option Nat)) {e2 : mm_E} {rem2 : List mm_E} {L2 : mm_L} {st2 : List mm_V} {μ2 : mm_M} {P2 : Prop} (h : mm_go 5000 (mm_co Y) rem L st μ bs os True = some (e2 :: rem2, L2, st2, μ2, P2)) (k : Ev Y μ0 (e2 :: rem2) L2 st2 μ2 Post) (hp : P2 := by (repeat' apply And.intro) <;> first | exact trivial | assumption | rfl | decide | omega | (simp (disch := first | assumption | omega | decide) only [i_add, i_mul, n_cl, nI_and7, nI_and3, v_in, i_eq, i_lt, i_le, i_eq0, i_lt0, i_ge0, i_gt0, i_le0, lg_cmp_eq, lg_cmp_ge, lg_cmp_gt, lg_cmp_le, lg_cmp_lt, zb_e0, zb_n0, Classical.not_not, up_ne, Nat.zero_add, Nat.add_zero, rc_num hC, rc_hol hC, rc_who hC, rc_nn hC, rc_dbl hC, rc_flt hC, rc_rea hC, rc_xx hC, rc_ff hC, rc_par hC, rc_nxt hC, rc_lin hC, rc_thg hC, rc_prg hC, rc_str hC, rc_pix hC, rc_six hC, rc_own hC, rc_tim hC, rc_mad hC, rc_psz hC, rc_phn hC, rc_pop hC, rc_paa hC, rc_pbb hC, rc_pcc hC, rc_hfr hC, rc_hto hC, rc_hfl hC, rc_hpl hC, rc_dep hC, rc_pla hC, rc_don hC, rc_fai hC, rc_fno hC, rc_lat hC, rc_lpr hC, rc_lpl hC, rc_wan hC, rc_cal hC, cl_ne, tR_s, tR_n, eI_s, eI_n, e_nm, e_mm, lN_i, l_lt, l_le, l_eq, l_z, lN_t, nI_tl, n_s1, i_sub, eLi, eL_s, eL_n, up_eq, mkz, i_l1, i_l2, i_l3, n_ti, i_tl2, e_mn, Nat.add_sub_cancel, mx0, s11, sa1, if1, ite_self, up_eq, *] <;> first | assumption | omega | decide)) : Ev Y μ0 rem L st μ Post := ev_go bs os h hp k
theorem ev_bZ2 {Y : mm_Y} {μ0 : mm_M} {rem : List mm_E} {L : mm_L} {st : List mm_V} {μ : mm_M} {Post : Option mm_V → mm_M → Prop} {e2 e3 : mm_E} {rem2 rem3 : List mm_E} {L2 L3 : mm_L} {st2 st3 : List mm_V} {μ2 μ3 : mm_M} {c c2 d d2 : Prop} (hT : mm_go 1 (mm_co Y) rem L st μ [true] [] True = some (e2 :: rem2, L2, st2, μ2, True ∧ c)) (hF : mm_go 1 (mm_co Y) rem L st μ [false] [] True = some (e3 :: rem3, L3, st3, μ3, True ∧ c2)) (kt : d → Ev Y μ0 (e2 :: rem2) L2 st2 μ2 Post) (kf : d2 → Ev Y μ0 (e3 :: rem3) L3 st3 μ3 Post) (hc : ¬ c → c2 := by first | exact id | exact Classical.not_not.mp) (g1 : c → d := by intro hh; (try simp (disch := first | assumption | omega | decide) only [i_add, i_mul, n_cl, nI_and7, nI_and3, v_in, i_eq, i_lt, i_le, i_eq0, i_lt0, i_ge0, i_gt0, i_le0, lg_cmp_eq, lg_cmp_ge, lg_cmp_gt, lg_cmp_le, lg_cmp_lt, zb_e0, zb_n0, Classical.not_not, up_ne, Nat.zero_add, Nat.add_zero, rc_num hC, rc_hol hC, rc_who hC, rc_nn hC, rc_dbl hC, rc_flt hC, rc_rea hC, rc_xx hC, rc_ff hC, rc_par hC, rc_nxt hC, rc_lin hC, rc_thg hC, rc_prg hC, rc_str hC, rc_pix hC, rc_six hC, rc_own hC, rc_tim hC, rc_mad hC, rc_psz hC, rc_phn hC, rc_pop hC, rc_paa hC, rc_pbb hC, rc_pcc hC, rc_hfr hC, rc_hto hC, rc_hfl hC, rc_hpl hC, rc_dep hC, rc_pla hC, rc_don hC, rc_fai hC, rc_fno hC, rc_lat hC, rc_lpr hC, rc_lpl hC, rc_wan hC, rc_cal hC, cl_ne, tR_s, tR_n, eI_s, eI_n, e_nm, e_mm, lN_i, l_lt, l_le, l_eq, l_z, lN_t, nI_tl, n_s1, i_sub, eLi, eL_s, eL_n, up_eq, mkz, i_l1, i_l2, i_l3, n_ti, i_tl2, e_mn, Nat.add_sub_cancel, mx0, s11, sa1, if1, ite_self, up_eq, *] at hh); exact hh) (g2 : c2 → d2 := by intro hh; (try simp (disch := first | assumption | omega | decide) only [i_add, i_mul, n_cl, nI_and7, nI_and3, v_in, i_eq, i_lt, i_le, i_eq0, i_lt0, i_ge0, i_gt0, i_le0, lg_cmp_eq, lg_cmp_ge, lg_cmp_gt, lg_cmp_le, lg_cmp_lt, zb_e0, zb_n0, Classical.not_not, up_ne, Nat.zero_add, Nat.add_zero, rc_num hC, rc_hol hC, rc_who hC, rc_nn hC, rc_dbl hC, rc_flt hC, rc_rea hC, rc_xx hC, rc_ff hC, rc_par hC, rc_nxt hC, rc_lin hC, rc_thg hC, rc_prg hC, rc_str hC, rc_pix hC, rc_six hC, rc_own hC, rc_tim hC, rc_mad hC, rc_psz hC, rc_phn hC, rc_pop hC, rc_paa hC, rc_pbb hC, rc_pcc hC, rc_hfr hC, rc_hto hC, rc_hfl hC, rc_hpl hC, rc_dep hC, rc_pla hC, rc_don hC, rc_fai hC, rc_fno hC, rc_lat hC, rc_lpr hC, rc_lpl hC, rc_wan hC, rc_cal hC, cl_ne, tR_s, tR_n, eI_s, eI_n, e_nm, e_mm, lN_i, l_lt, l_le, l_eq, l_z, lN_t, nI_tl, n_s1, i_sub, eLi, eL_s, eL_n, up_eq, mkz, i_l1, i_l2, i_l3, n_ti, i_tl2, e_mn, Nat.add_sub_cancel, mx0, s11, sa1, if1, ite_self, up_eq, *] at hh); exact hh) : Ev Y μ0 rem L st μ Post := ev_br hT hF hc (fun h => kt (g1 h)) (fun h => kf (g2 h))
theorem lf_Z2 {p : Prop} (h : p := by first | rfl | assumption | (simp (disch := first | assumption | omega | decide) only [i_add, i_mul, n_cl, nI_and7, nI_and3, v_in, i_eq, i_lt, i_le, i_eq0, i_lt0, i_ge0, i_gt0, i_le0, lg_cmp_eq, lg_cmp_ge, lg_cmp_gt, lg_cmp_le, lg_cmp_lt, zb_e0, zb_n0, Classical.not_not, up_ne, Nat.zero_add, Nat.add_zero, rc_num hC, rc_hol hC, rc_who hC, rc_nn hC, rc_dbl hC, rc_flt hC, rc_rea hC, rc_xx hC, rc_ff hC, rc_par hC, rc_nxt hC, rc_lin hC, rc_thg hC, rc_prg hC, rc_str hC, rc_pix hC, rc_six hC, rc_own hC, rc_tim hC, rc_mad hC, rc_psz hC, rc_phn hC, rc_pop hC, rc_paa hC, rc_pbb hC, rc_pcc hC, rc_hfr hC, rc_hto hC, rc_hfl hC, rc_hpl hC, rc_dep hC, rc_pla hC, rc_don hC, rc_fai hC, rc_fno hC, rc_lat hC, rc_lpr hC, rc_lpl hC, rc_wan hC, rc_cal hC, cl_ne, tR_s, tR_n, eI_s, eI_n, e_nm, e_mm, lN_i, l_lt, l_le, l_eq, l_z, lN_t, nI_tl, n_s1, i_sub, eLi, eL_s, eL_n, up_eq, mkz, i_l1, i_l2, i_l3, n_ti, i_tl2, e_mn, Nat.add_sub_cancel, mx0, s11, sa1, if1, ite_self, up_eq, *] <;> first | rfl | assumption | omega | decide)) : p := h
set_option maxHeartbeats 4000000 in
theorem FG_1 {ci : Nat → Nat → Nat → Int32} {cn : Nat → Nat → Nat → Nat} {co : Nat → Option Nat} {xj : Nat → Nat → Nat → Int64} {xd : Nat → Nat → Nat → UInt64} {xf : Nat → Nat → Nat → UInt32} {xo : Nat → Nat → Nat → Option Nat} {xi : Nat → Nat → Nat → Int32} {xn : Nat → Nat → Nat → Nat} {t : Nat} (ht : t < 3) {K : Nat → Nat} {I : Nat → Nat → Int32} {F : Nat → Nat → UInt32} {D : Nat → Nat → UInt64} {nx sl : Nat} {μ0 : mm_M} {Post : Option mm_V → mm_M → Prop} (hX : ∀ (J : Nat → Nat → Int64) (R : Nat → Nat → Option Nat), RC ci cn co (zf xj t 8 (lN 0)) xd xf (zf xo t 8 none) xi xn I J F D R nx sl → Ev Y_SD_forget μ0 (mm_to (mm_co Y_SD_forget) 30) [(0, vr 8 (32 + 7 * t)), (1, vi (nI 0))] [vi (nI 4), vi (nI 0)] (K, I, J, F, D, R, nx, sl) Post) : ∀ (n k : Nat) (J : Nat → Nat → Int64) (R : Nat → Nat → Option Nat), k + n = 8 → RC ci cn co (zf xj t k (lN 0)) xd xf (zf xo t k none) xi xn I J F D R nx sl → Ev Y_SD_forget μ0 (mm_to (mm_co Y_SD_forget) 5) [(0, vr 8 (32 + 7 * t)), (1, vi (nI k))] [vi (nI 8), vi (nI k)] (K, I, J, F, D, R, nx, sl) Post := by
  intro n
  induction n with
  | zero =>
    intro k J R hk hC
    obtain rfl : k = 8 := by omega
    refine ev_gZ2 [true] [] rfl ?_
    exact hX J R hC
  | succ n ih =>
    intro k J R hk hC
    have hk8 : k < 8 := by omega
    refine ev_gZ2 [false] [] rfl ?_
    refine ev_inV 2 k_SD_80 h_SD_setN rfl rfl rfl rfl rfl ⟨by decide, by decide⟩ rfl ?_
    refine ev_gZ2 [] [] rfl ?_
    refine ev_ret rfl ?_
    refine ev_g0 rfl ?_
    refine ev_inV 2 k_SD_84 h_SD_setT rfl rfl rfl rfl rfl ⟨by decide, by decide⟩ rfl ?_
    refine ev_gZ2 [] [] rfl ?_
    refine ev_ret rfl ?_
    refine ev_g0 rfl ?_
    have h9 := CU_hol (v := none) (CU_num (v := lN 0) (j := k) (z := lN 0) hC ht hk8 rfl rfl) ht hk8 (j := k) (z := none) (fun q h => by cases h) rfl rfl
    rw [zf_s, zf_s] at h9
    refine ev_cg2 (L2 := [(0, vr 8 (32 + 7 * t)), (1, vi (nI (k + 1)))]) (st2 := [vi (nI 8), vi (nI (k + 1))]) (μ2 := (K, I, mm_up J (32 + 7 * t + 1) k (lN 0), F, D, mm_up R (32 + 7 * t + 4) k none, nx, sl)) lf_Z2 lf_Z2 lf_Z2 (ih (k + 1) _ _ (by omega) h9)
set_option maxHeartbeats 4000000 in
theorem FG_2 {ci : Nat → Nat → Nat → Int32} {cn : Nat → Nat → Nat → Nat} {co : Nat → Option Nat} {xj : Nat → Nat → Nat → Int64} {xd : Nat → Nat → Nat → UInt64} {xf : Nat → Nat → Nat → UInt32} {xo : Nat → Nat → Nat → Option Nat} {xi : Nat → Nat → Nat → Int32} {xn : Nat → Nat → Nat → Nat} {t : Nat} (ht : t < 3) {K : Nat → Nat} {I : Nat → Nat → Int32} {J : Nat → Nat → Int64} {R : Nat → Nat → Option Nat} {nx sl : Nat} {μ0 : mm_M} {Post : Option mm_V → mm_M → Prop} (hX : ∀ (F : Nat → Nat → UInt32) (D : Nat → Nat → UInt64), RC ci cn co xj (zf xd t 4 FP.dconst0) (zf xf t 4 FP.fconst0) xo xi xn I J F D R nx sl → Ev Y_SD_forget μ0 (mm_to (mm_co Y_SD_forget) 51) [(0, vr 8 (32 + 7 * t)), (1, vi (nI 4))] [] (K, I, J, F, D, R, nx, sl) Post) : ∀ (n k : Nat) (F : Nat → Nat → UInt32) (D : Nat → Nat → UInt64), k + n = 4 → RC ci cn co xj (zf xd t k FP.dconst0) (zf xf t k FP.fconst0) xo xi xn I J F D R nx sl → Ev Y_SD_forget μ0 (mm_to (mm_co Y_SD_forget) 30) [(0, vr 8 (32 + 7 * t)), (1, vi (nI k))] [vi (nI 4), vi (nI k)] (K, I, J, F, D, R, nx, sl) Post := by
  intro n
  induction n with
  | zero =>
    intro k F D hk hC
    obtain rfl : k = 4 := by omega
    refine ev_gon 1 [true] [] rfl ⟨trivial, by decide⟩ ?_
    exact hX F D hC
  | succ n ih =>
    intro k F D hk hC
    have hk4 : k < 4 := by omega
    refine ev_gZ2 [false] [] rfl ?_
    refine ev_inV 2 k_SD_88 h_SD_setX rfl rfl rfl rfl rfl ⟨by decide, by decide⟩ rfl ?_
    refine ev_gZ2 [] [] rfl ?_
    refine ev_ret rfl ?_
    refine ev_g0 rfl ?_
    refine ev_inV 2 k_SD_92 h_SD_setF rfl rfl rfl rfl rfl ⟨by decide, by decide⟩ rfl ?_
    refine ev_gZ2 [] [] rfl ?_
    refine ev_ret rfl ?_
    refine ev_g0 rfl ?_
    have h9 := CU_flt (v := FP.fconst0) (CU_dbl (v := FP.dconst0) (j := k) (z := FP.dconst0) hC ht hk4 nc_0 rfl rfl) ht hk4 (j := k) (z := FP.fconst0) z_nf rfl rfl
    rw [zf_s, zf_s] at h9
    refine ev_cg2 (L2 := [(0, vr 8 (32 + 7 * t)), (1, vi (nI (k + 1)))]) (st2 := [vi (nI 4), vi (nI (k + 1))]) (μ2 := (K, I, J, mm_up F (32 + 7 * t + 3) k FP.fconst0, mm_up D (32 + 7 * t + 2) k FP.dconst0, R, nx, sl)) lf_Z2 lf_Z2 lf_Z2 (ih (k + 1) _ _ (by omega) h9)
set_option maxHeartbeats 4000000 in
theorem C_SDf {ci : Nat → Nat → Nat → Int32} {cn : Nat → Nat → Nat → Nat} {co : Nat → Option Nat} {xj : Nat → Nat → Nat → Int64} {xd : Nat → Nat → Nat → UInt64} {xf : Nat → Nat → Nat → UInt32} {xo : Nat → Nat → Nat → Option Nat} {xi : Nat → Nat → Nat → Int32} {xn : Nat → Nat → Nat → Nat} {K : Nat → Nat} {I : Nat → Nat → Int32} {J : Nat → Nat → Int64} {F : Nat → Nat → UInt32} {D : Nat → Nat → UInt64} {R : Nat → Nat → Option Nat} {nx sl : Nat} (hC : RC ci cn co xj xd xf xo xi xn I J F D R nx sl) {t : Nat} (ht : t < 3) : Ct Y_SD_forget [vr 8 (32 + 7 * t)] (K, I, J, F, D, R, nx, sl) (fun r μ1 => r = none ∧ RC (u3 (u3 (u3 (u3 (u3 (u3 ci 0 t 0 (nI 0)) 1 t 0 (nI 0)) 5 t 0 (nI 0)) 2 t 0 (nI 0)) 3 t 0 (-(nI 1))) 4 t 0 (-(nI 1))) (u3 cn 0 t 0 0) (u1 co t none) (zf xj t 8 (lN 0)) (zf xd t 4 FP.dconst0) (zf xf t 4 FP.fconst0) (zf xo t 8 none) xi xn μ1.2.1 μ1.2.2.1 μ1.2.2.2.1 μ1.2.2.2.2.1 μ1.2.2.2.2.2.1 μ1.2.2.2.2.2.2.1 μ1.2.2.2.2.2.2.2) := by
  refine ct_of h_SD_forget rfl rfl rfl ?_
  refine ev_go [] [] rfl trivial ?_
  refine FG_1 ht (fun J R hC => ?_) 8 0 _ _ (by omega) (by rw [zf_0, zf_0]; exact hC)
  refine FG_2 ht (fun F D hC => ?_) 4 0 _ _ (by omega) (by rw [zf_0, zf_0]; exact hC)
  refine ev_go [] [] rfl trivial ?_
  refine ev_ret rfl ⟨rfl, ?_⟩
  exact CU_wan (v := none) (CU_lpl (CU_lpr (CU_lat (CU_fno (CU_fai (CU_don (CU_dep (d := 0) hC ht (Nat.zero_le _) rfl) ht rfl) ht rfl) ht rfl) ht rfl) ht rfl) ht rfl) ht (fun q h => by cases h) rfl
set_option maxHeartbeats 4000000 in
theorem CL_1 {ci : Nat → Nat → Nat → Int32} {cn : Nat → Nat → Nat → Nat} {co : Nat → Option Nat} {xj : Nat → Nat → Nat → Int64} {xd : Nat → Nat → Nat → UInt64} {xf : Nat → Nat → Nat → UInt32} {xo : Nat → Nat → Nat → Option Nat} {xi : Nat → Nat → Nat → Int32} {xn : Nat → Nat → Nat → Nat} {K : Nat → Nat} {J : Nat → Nat → Int64} {F : Nat → Nat → UInt32} {D : Nat → Nat → UInt64} {R : Nat → Nat → Option Nat} {nx sl : Nat} {μ0 : mm_M} {Post : Option mm_V → mm_M → Prop} (hX : ∀ (I : Nat → Nat → Int32), RC ci (zp cn 6) co xj xd xf xo xi xn I J F D R nx sl → Ev Y_MW_clear μ0 (mm_to (mm_co Y_MW_clear) 28) [(0, vr 10 6), (1, vi (nI 0))] [vi (nI 3), vi (nI 0)] (K, I, J, F, D, R, nx, sl) Post) : ∀ (n p : Nat) (I : Nat → Nat → Int32), p + n = 6 → RC ci (zp cn p) co xj xd xf xo xi xn I J F D R nx sl → Ev Y_MW_clear μ0 (mm_to (mm_co Y_MW_clear) 5) [(0, vr 10 6), (1, vi (nI p))] [vi (nI 6), vi (nI p)] (K, I, J, F, D, R, nx, sl) Post := by
  intro n
  induction n with
  | zero =>
    intro p I hp6 hC
    obtain rfl : p = 6 := by omega
    refine ev_gZ2 [true] [] rfl ?_
    exact hX I hC
  | succ n ih =>
    intro p I hp6 hC
    have hp : p < 6 := by omega
    refine ev_gZ2 [false] [some (14 + 3 * p)] rfl ?_
    refine ev_inV 0 k_MW_92 h_PR_forget rfl rfl rfl rfl rfl ⟨by decide, by decide⟩ rfl ?_
    refine ev_g0 rfl ?_
    refine ev_reti rfl ?_
    refine ev_g0 rfl ?_
    have h9 := CU_emp hC hp
    rw [zp_s] at h9
    refine ev_cg2 (L2 := [(0, vr 10 6), (1, vi (nI (p + 1)))]) (st2 := [vi (nI 6), vi (nI (p + 1))]) (μ2 := _) lf_Z2 lf_Z2 rfl (ih (p + 1) _ (by omega) h9)
set_option maxHeartbeats 4000000 in
theorem CL_2 {ci : Nat → Nat → Nat → Int32} {cn : Nat → Nat → Nat → Nat} {co : Nat → Option Nat} {xj : Nat → Nat → Nat → Int64} {xd : Nat → Nat → Nat → UInt64} {xf : Nat → Nat → Nat → UInt32} {xo : Nat → Nat → Nat → Option Nat} {xi : Nat → Nat → Nat → Int32} {xn : Nat → Nat → Nat → Nat} {μ0 : mm_M} {Post : Option mm_V → mm_M → Prop} (hX : ∀ (K : Nat → Nat) (I : Nat → Nat → Int32) (J : Nat → Nat → Int64) (F : Nat → Nat → UInt32) (D : Nat → Nat → UInt64) (R : Nat → Nat → Option Nat) (nx sl : Nat), RC (zc ci 3) (zd cn 3) (zw co 3) (zg xj 3 8 (lN 0)) (zg xd 3 4 FP.dconst0) (zg xf 3 4 FP.fconst0) (zg xo 3 8 none) xi xn I J F D R nx sl → Ev Y_MW_clear μ0 (mm_to (mm_co Y_MW_clear) 46) [(0, vr 10 6), (1, vi (nI 3))] [] (K, I, J, F, D, R, nx, sl) Post) : ∀ (n t : Nat) (K : Nat → Nat) (I : Nat → Nat → Int32) (J : Nat → Nat → Int64) (F : Nat → Nat → UInt32) (D : Nat → Nat → UInt64) (R : Nat → Nat → Option Nat) (nx sl : Nat), t + n = 3 → RC (zc ci t) (zd cn t) (zw co t) (zg xj t 8 (lN 0)) (zg xd t 4 FP.dconst0) (zg xf t 4 FP.fconst0) (zg xo t 8 none) xi xn I J F D R nx sl → Ev Y_MW_clear μ0 (mm_to (mm_co Y_MW_clear) 28) [(0, vr 10 6), (1, vi (nI t))] [vi (nI 3), vi (nI t)] (K, I, J, F, D, R, nx, sl) Post := by
  intro n
  induction n with
  | zero =>
    intro t K I J F D R nx sl ht3 hC
    obtain rfl : t = 3 := by omega
    refine ev_gon 1 [true] [] rfl ⟨trivial, by decide⟩ ?_
    exact hX _ _ _ _ _ _ _ _ hC
  | succ n ih =>
    intro t K I J F D R nx sl ht3 hC
    have ht : t < 3 := by omega
    refine ev_gZ2 [false] [some (32 + 7 * t)] rfl ?_
    refine ev_qV 0 k_MW_244 rfl (C_SDf hC ht) rfl ⟨by decide, by decide⟩ rfl ?_
    rintro _ ⟨K1, I1, J1, F1, D1, R1, n1, s1⟩ ⟨rfl, h9⟩
    refine ev_g0 rfl ?_
    rw [zc_s, zd_s, zw_s, zg_s, zg_s, zg_s, zg_s] at h9
    refine ev_cg2 (L2 := [(0, vr 10 6), (1, vi (nI (t + 1)))]) (st2 := [vi (nI 3), vi (nI (t + 1))]) (μ2 := _) lf_Z2 lf_Z2 rfl (ih (t + 1) _ _ _ _ _ _ _ _ (by omega) h9)
theorem CL_z {ci : Nat → Nat → Nat → Int32} {cn : Nat → Nat → Nat → Nat} {co : Nat → Option Nat} {xj : Nat → Nat → Nat → Int64} {xd : Nat → Nat → Nat → UInt64} {xf : Nat → Nat → Nat → UInt32} {xo : Nat → Nat → Nat → Option Nat} {xi : Nat → Nat → Nat → Int32} {xn : Nat → Nat → Nat → Nat} {I : Nat → Nat → Int32} {J : Nat → Nat → Int64} {F : Nat → Nat → UInt32} {D : Nat → Nat → UInt64} {R : Nat → Nat → Option Nat} {nx sl : Nat} (hC : RC (zc ci 3) (zd (zp cn 6) 3) (zw co 3) (zg xj 3 8 (lN 0)) (zg xd 3 4 FP.dconst0) (zg xf 3 4 FP.fconst0) (zg xo 3 8 none) xi xn I J F D R nx sl) : RC z_ci z_cn z_co z_xj z_xd z_xf z_xo z_xi (z_xn (xn 3 0 0)) (mm_up (mm_up I 13 1 (nI 0)) 9 1 (nI 0)) J F D R nx sl := by
  have ym := rc_imad hC
  exact RC_zero ym.2 (fun t ht k hk => (rc_num hC ht hk).trans (zg_t ht hk))
    (fun t ht k hk => (rc_dbl hC ht hk).trans (zg_t ht hk))
    (fun j hj => (rc_pow hC hj))
    (fun t ht k hk => (rc_flt hC ht hk).trans (zg_t ht hk))
    (fun t ht k hk => (rc_hol hC ht hk).trans (by rw [zg_t ht hk]; rfl))
    (fun t ht => (rc_wan hC ht).trans (by rw [show zw co 3 t = none from if_pos ht]; rfl))
    (fun i hi => (rc_thg hC hi))
    (fun i hi e0 => (rc_thn hC hi e0))
    (fun p hp => (rc_prg hC hp))
    (fun t ht => (rc_str hC ht))
    (fun p hp => (up_ne (by omega)).trans ((up_ne (by omega)).trans ((rc_pix hC hp))))
    (fun p hp => (up_ne (by omega)).trans ((up_ne (by omega)).trans ((rc_psz hC hp).trans (by rw [show zd (zp cn 6) 3 3 p 0 = 0 from (if_neg (by omega) : zd (zp cn 6) 3 3 p 0 = zp cn 6 3 p 0).trans (if_pos ⟨Or.inl rfl, hp, rfl⟩)]))))
    (fun p hp => (up_ne (by omega)).trans ((up_ne (by omega)).trans ((rc_phn hC hp).trans (by rw [show zd (zp cn 6) 3 4 p 0 = 0 from (if_neg (by omega) : zd (zp cn 6) 3 4 p 0 = zp cn 6 4 p 0).trans (if_pos ⟨Or.inr rfl, hp, rfl⟩)]))))
    (fun t ht => (up_ne (by omega)).trans ((up_ne (by omega)).trans ((rc_six hC ht))))
    (fun t ht => (up_ne (by omega)).trans ((up_ne (by omega)).trans ((rc_dep hC ht).trans (by rw [show zd (zp cn 6) 3 0 t 0 = 0 from if_pos ⟨rfl, ht, rfl⟩]))))
    (fun t ht => (up_ne (by omega)).trans ((up_ne (by omega)).trans ((rc_don hC ht).trans ((if_pos ⟨ht, rfl, by decide⟩ : zc ci 3 0 t 0 = _).trans (if_neg (by decide))))))
    (fun t ht => (up_ne (by omega)).trans ((up_ne (by omega)).trans ((rc_fai hC ht).trans ((if_pos ⟨ht, rfl, by decide⟩ : zc ci 3 1 t 0 = _).trans (if_neg (by decide))))))
    (fun t ht => (up_ne (by omega)).trans ((up_ne (by omega)).trans ((rc_fno hC ht).trans ((if_pos ⟨ht, rfl, by decide⟩ : zc ci 3 5 t 0 = _).trans (if_neg (by decide))))))
    (fun t ht => (up_ne (by omega)).trans ((up_ne (by omega)).trans ((rc_lat hC ht).trans ((if_pos ⟨ht, rfl, by decide⟩ : zc ci 3 2 t 0 = _).trans (if_neg (by decide))))))
    (fun t ht => (up_ne (by omega)).trans ((up_ne (by omega)).trans ((rc_lpr hC ht).trans ((if_pos ⟨ht, rfl, by decide⟩ : zc ci 3 3 t 0 = _).trans (if_pos (by decide))))))
    (fun t ht => (up_ne (by omega)).trans ((up_ne (by omega)).trans ((rc_lpl hC ht).trans ((if_pos ⟨ht, rfl, by decide⟩ : zc ci 3 4 t 0 = _).trans (if_pos (by decide))))))
    (up_eq ⟨rfl, rfl⟩)
    ((up_ne (by omega)).trans (up_eq ⟨rfl, rfl⟩))
    (fun i hi => (up_ne (by omega)).trans ((up_ne (by omega)).trans ((rc_tix hC hi)))) (rc_nx hC) (rc_sl hC)
set_option maxHeartbeats 4000000 in
theorem Q_clear {ci : Nat → Nat → Nat → Int32} {cn : Nat → Nat → Nat → Nat} {co : Nat → Option Nat} {xj : Nat → Nat → Nat → Int64} {xd : Nat → Nat → Nat → UInt64} {xf : Nat → Nat → Nat → UInt32} {xo : Nat → Nat → Nat → Option Nat} {xi : Nat → Nat → Nat → Int32} {xn : Nat → Nat → Nat → Nat} {K : Nat → Nat} {I : Nat → Nat → Int32} {J : Nat → Nat → Int64} {F : Nat → Nat → UInt32} {D : Nat → Nat → UInt64} {R : Nat → Nat → Option Nat} {nx sl : Nat} {Km : Nat → Nat} {Im : Nat → Nat → Int32} {Jm : Nat → Nat → Int64} {Fm : Nat → Nat → UInt32} {Dm : Nat → Nat → UInt64} {Rm : Nat → Nat → Option Nat} {nxm slm : Nat} (hC : RC ci cn co xj xd xf xo xi xn I J F D R nx sl) (hM : RM ci cn co xj xd xf xo xi xn Im Jm Dm) (hI : IC ci cn) (hW : IW cn co) : Ct Y_MW_clear [vr 10 6] (K, I, J, F, D, R, nx, sl) (fun r μ1 => Ct Y_MM_clear [vr 11 6] (Km, Im, Jm, Fm, Dm, Rm, nxm, slm) (fun r2 μ2 => r = r2 ∧ RELS μ1 μ2)) := by
  refine ct_of h_MW_clear rfl rfl rfl ?_
  refine ev_go [] [] rfl trivial ?_
  refine CL_1 (fun I hC => ?_) 6 0 _ (by omega) (by rw [zp_0]; exact hC)
  refine CL_2 (fun K I J F D R nx sl hC => ?_) 3 0 _ _ _ _ _ _ _ _ (by omega) (by rw [zc_0, zd_0, zw_0, zg_0, zg_0, zg_0, zg_0]; exact hC)
  have ym := rc_mad hC
  refine ev_go [] [] rfl trivial ?_
  refine ev_inV 0 k_MW_246 h_SO_forget rfl rfl rfl rfl rfl ⟨by decide, by decide⟩ rfl ?_
  refine ev_go [] [] rfl trivial ?_
  refine ev_reti rfl ?_
  refine ev_go [] [] rfl trivial ?_
  refine ev_reti rfl ?_
  refine ct_of h_MM_clear rfl rfl rfl ?_
  refine ev_go [] [] rfl trivial ?_
  refine ev_qV 0 k_MM_124 rfl C_begin rfl ⟨by decide, by decide⟩ rfl ?_
  rintro _ _ ⟨rfl, I2, J2, D2, rfl, hB⟩
  refine ev_go [] [] rfl trivial ?_
  refine ev_reti rfl ⟨?_, _, _, _, _, _, _, _, _, _, CL_z hC, RM_zero hB, IC_zero, IW_zero⟩
  show some (vi (mm_up I 13 1 (nI 0) 9 1)) = some (vi (Im 6 0))
  rw [up_ne (by omega), ym, rm_mad hM]
