theorem ev_getR {Y : mm_Y} {μ0 : mm_M} {pc i0 x1 x2 x3 x4 x5 : Nat} {t : List Nat} {e2 : mm_E} {rem : List mm_E} {L : mm_L} {kd a b : Nat} {r0 : List mm_V} {K : Nat → Nat} {I : Nat → Nat → Int32} {J : Nat → Nat → Int64} {F : Nat → Nat → UInt32} {D : Nat → Nat → UInt64} {Rm : Nat → Nat → Option Nat} {nx sl : Nat} {Post : Option mm_V → mm_M → Prop} (h56 : x3 = 5 ∨ x3 = 6) (hkd : (Nat.beq kd (x1 + 1) || Nat.beq kd (x1 + 21)) = true) (hR : Rm a x2 = some b) (k : Ev Y μ0 (e2 :: rem) L (vr x4 b :: r0) (K, I, J, F, D, Rm, nx, sl) Post) : Ev Y μ0 ((pc, .getfield i0, 3, (x1, x2, x3, x4, x5), t) :: e2 :: rem) L (vr kd a :: r0) (K, I, J, F, D, Rm, nx, sl) Post := by
  obtain ⟨r, μ1, h1, h2⟩ := k
  refine ⟨r, μ1, h1, mm_fall ?_ ?_ h2⟩
  · intro Γ l p e s m args below meth c H locs ls R cells slots Q hF hlen hck hd hrm hok hl kk
    obtain ⟨hfl, hft⟩ := mm_k_getf hck
    obtain ⟨q, hq, -, -⟩ := mm_fl_in hfl
    have hkc := (mm_kc_of (show mm_okk K kd a from hok.2.1.h) hkd (mm_cls_lt hq)).1
    refine mm_getf hF hok.2.2.1 hkc hfl hd ?_
    have hv : mm_fv (mm_ad Γ) (K, I, J, F, D, Rm, nx, sl) x1 a x2 = .ref (mm_ad Γ b) := by
      unfold mm_fv
      rw [hft]
      rcases h56 with rfl | rfl
      · show va_rf ((Rm a x2).map _) = _
        rw [hR]; rfl
      · show va_rf ((Rm a x2).map _) = _
        rw [hR]; rfl
    rw [hv]
    exact kk _ hl
  · intro hck hwf hL ho
    exact ⟨hL, mm_okl.c (by
      obtain ⟨hfl, hft⟩ := mm_k_getf hck
      obtain ⟨q, hq, -, -⟩ := mm_fl_in hfl
      exact mm_okk_ref hwf (mm_kc_of (show mm_okk K kd a from ho.h) hkd (mm_cls_lt hq)).1 hft (by omega) (by omega) hR) ho.t⟩
theorem ev_knd {Y : mm_Y} {μ0 : mm_M} {rem : List mm_E} {L L2 : mm_L} {st st2 : List mm_V} {μ : mm_M} {Post : Option mm_V → mm_M → Prop} (hL : ∀ ad, mm_tL ad L = mm_tL ad L2) (hs : ∀ ad, st.map (mm_tr ad) = st2.map (mm_tr ad)) (oL : mm_okL μ.1 L2) (os : mm_okl μ.1 st2) (k : Ev Y μ0 rem L2 st2 μ Post) : Ev Y μ0 rem L st μ Post := by
  obtain ⟨r, μ1, h1, h2⟩ := k
  refine ⟨r, μ1, h1, fun hk hsf hwf hle hLo hst => ?_⟩
  obtain ⟨k1, k2, k4, k3⟩ := h2 hk hsf hwf hle oL os
  refine ⟨k1, k2, k4, fun Γ l p e s m args below meth c H locs ls hF hR hS hl => ?_⟩
  have key := k3 Γ l p e s m args below meth c H locs ls hF hR hS (by rw [← hL]; exact hl)
  unfold mm_WW at key ⊢
  rw [hs]
  exact key
theorem nth_none {α : Type} : ∀ (l : List α) (k : Nat), l.length ≤ k → mm_nth l k = none
  | [], _, _ => rfl
  | a :: l, 0, h => absurd h (by simp)
  | a :: l, k + 1, h => nth_none l k (by simpa using h)
theorem hstr_b {R : Nat → Nat → Option Nat} {a c0 : Nat} {l : List (Nat × Nat × Nat)} (hl : mm_nth mm_fts c0 = some l) (hb : ∀ k, k < l.length → ((mm_ft c0 k).1 = 5 → R a k = some (a + (mm_ft c0 k).2.2)) ∧ ((mm_ft c0 k).1 = 6 → R a k = some (mm_ft c0 k).2.2)) : ∀ k, ((mm_ft c0 k).1 = 5 → R a k = some (a + (mm_ft c0 k).2.2)) ∧ ((mm_ft c0 k).1 = 6 → R a k = some (mm_ft c0 k).2.2) := by
  intro k
  rcases Nat.lt_or_ge k l.length with h | h
  · exact hb k h
  · have e : (mm_ft c0 k).1 = 9 := by
      unfold mm_ft
      rw [hl]
      show ((mm_nth l k).getD (9, 0, 0)).1 = 9
      rw [nth_none l k h]
      rfl
    rw [e]
    exact ⟨fun h => absurd h (by decide), fun h => absurd h (by decide)⟩
def mu_0 : mm_M := (fun _ => 0, fun _ _ => 0, fun _ _ => 0, fun _ _ => 0, fun _ _ => 0, fun _ _ => none, 6, 0)
def mu_n (k s : Nat) : mm_M := (mm_uk (fun _ => 0) 6 k, mm_cl (fun _ _ => 0) 6 0, mm_cl (fun _ _ => 0) 6 0, mm_cl (fun _ _ => 0) 6 0, mm_cl (fun _ _ => 0) 6 0, mm_cl (fun _ _ => none) 6 none, 7, s)
theorem ev_gNW {Y : mm_Y} {μ0 : mm_M} {rem : List mm_E} {L : mm_L} {st : List mm_V} {μ : mm_M} {Post : Option mm_V → mm_M → Prop} (bs : List Bool) (os : List (Option Nat)) {e2 : mm_E} {rem2 : List mm_E} {L2 : mm_L} {st2 : List mm_V} {μ2 : mm_M} {P2 : Prop} (h : mm_go 5000 (mm_co Y) rem L st μ bs os True = some (e2 :: rem2, L2, st2, μ2, P2)) (k : Ev Y μ0 (e2 :: rem2) L2 st2 μ2 Post) (hp : P2 := by (repeat' apply And.intro) <;> first | exact trivial | rfl | decide | (unfold vp_in; decide) | (unfold vf_n64; decide +kernel) | decide +kernel) : Ev Y μ0 rem L st μ Post := ev_go bs os h hp k
set_option maxHeartbeats 16000000 in
set_option maxRecDepth 100000 in
theorem C_newC : Ct Y_MW_init [vr 30 6] (mm_uk (fun _ => 0) 6 30, mm_cl (fun _ _ => 0) 6 0, mm_cl (fun _ _ => 0) 6 0, mm_cl (fun _ _ => 0) 6 0, mm_cl (fun _ _ => 0) 6 0, mm_cl (fun _ _ => none) 6 none, 7, 6) (fun r μ => r = none ∧ μ.1 6 = 10 ∧ mm_nx μ = 56 ∧ mm_sz μ ≤ 3000 ∧ RC z_ci z_cn z_co z_xj z_xd z_xf z_xo z_xi (z_xn 0) μ.2.1 μ.2.2.1 μ.2.2.2.1 μ.2.2.2.2.1 μ.2.2.2.2.2.1 94 0) := by
  refine ct_of h_MW_init rfl rfl rfl ?_
  refine ev_gNW [] [] rfl ?_
  refine ev_inI 0 k_MW_25 h_SO_init rfl rfl rfl rfl ⟨by decide, by decide⟩ rfl ?_
  refine ev_gNW [] [] rfl ?_
  refine ev_fin (a := 9) (c0 := 6) (by decide) rfl (hstr_b rfl (by decide +kernel)) ?_
  refine ev_ret rfl ⟨rfl, rfl, ?_⟩
  refine ev_gNW [] [] rfl ?_
  refine ev_inI 0 k_MW_32 h_RE_init rfl rfl rfl rfl ⟨by decide, by decide⟩ rfl ?_
  refine ev_gNW [false] [] rfl ?_
  refine ev_getR (Or.inr rfl) rfl rfl ?_
  refine ev_gNW [false] [] rfl ?_
  refine ev_getR (Or.inr rfl) rfl rfl ?_
  refine ev_gNW [false] [] rfl ?_
  refine ev_getR (Or.inr rfl) rfl rfl ?_
  refine ev_gNW [false] [] rfl ?_
  refine ev_getR (Or.inr rfl) rfl rfl ?_
  refine ev_gNW [false] [] rfl ?_
  refine ev_getR (Or.inr rfl) rfl rfl ?_
  refine ev_gNW [false] [] rfl ?_
  refine ev_getR (Or.inr rfl) rfl rfl ?_
  refine ev_gNW [false] [] rfl ?_
  refine ev_getR (Or.inr rfl) rfl rfl ?_
  refine ev_gNW [false] [] rfl ?_
  refine ev_getR (Or.inr rfl) rfl rfl ?_
  refine ev_gNW [false] [] rfl ?_
  refine ev_getR (Or.inr rfl) rfl rfl ?_
  refine ev_gNW [false] [] rfl ?_
  refine ev_getR (Or.inr rfl) rfl rfl ?_
  refine ev_gNW [true] [] rfl ?_
  refine ev_fin (a := 11) (c0 := 5) (by decide) rfl (hstr_b rfl (by decide +kernel)) ?_
  refine ev_ret rfl ⟨rfl, rfl, ?_⟩
  refine ev_gNW [] [] rfl ?_
  refine ev_getR (Or.inr rfl) rfl rfl ?_
  refine ev_gNW [] [] rfl ?_
  refine ev_inI 1 k_MW_39 h_OA_init rfl rfl rfl rfl ⟨by decide, by decide⟩ rfl ?_
  refine ev_gNW [] [] rfl ?_
  refine ev_fin (a := 13) (c0 := 3) (by decide) rfl (hstr_b rfl (by decide +kernel)) ?_
  refine ev_ret rfl ⟨rfl, rfl, ?_⟩
  refine ev_gNW [false] [] rfl ?_
  refine ev_getR (Or.inr rfl) rfl rfl ?_
  refine ev_gNW [] [] rfl ?_
  refine ev_inI 1 k_MW_46 h_PR_init rfl rfl rfl rfl ⟨by decide, by decide⟩ rfl ?_
  refine ev_gNW [] [] rfl ?_
  refine ev_fin (a := 14) (c0 := 4) (by decide) rfl (hstr_b rfl (by decide +kernel)) ?_
  refine ev_ret rfl ⟨rfl, rfl, ?_⟩
  refine ev_gNW [false] [] rfl ?_
  refine ev_getR (Or.inr rfl) rfl rfl ?_
  refine ev_gNW [] [] rfl ?_
  refine ev_inI 1 k_MW_46 h_PR_init rfl rfl rfl rfl ⟨by decide, by decide⟩ rfl ?_
  refine ev_gNW [] [] rfl ?_
  refine ev_fin (a := 17) (c0 := 4) (by decide) rfl (hstr_b rfl (by decide +kernel)) ?_
  refine ev_ret rfl ⟨rfl, rfl, ?_⟩
  refine ev_gNW [false] [] rfl ?_
  refine ev_getR (Or.inr rfl) rfl rfl ?_
  refine ev_gNW [] [] rfl ?_
  refine ev_inI 1 k_MW_46 h_PR_init rfl rfl rfl rfl ⟨by decide, by decide⟩ rfl ?_
  refine ev_gNW [] [] rfl ?_
  refine ev_fin (a := 20) (c0 := 4) (by decide) rfl (hstr_b rfl (by decide +kernel)) ?_
  refine ev_ret rfl ⟨rfl, rfl, ?_⟩
  refine ev_gNW [false] [] rfl ?_
  refine ev_getR (Or.inr rfl) rfl rfl ?_
  refine ev_gNW [] [] rfl ?_
  refine ev_inI 1 k_MW_46 h_PR_init rfl rfl rfl rfl ⟨by decide, by decide⟩ rfl ?_
  refine ev_gNW [] [] rfl ?_
  refine ev_fin (a := 23) (c0 := 4) (by decide) rfl (hstr_b rfl (by decide +kernel)) ?_
  refine ev_ret rfl ⟨rfl, rfl, ?_⟩
  refine ev_gNW [false] [] rfl ?_
  refine ev_getR (Or.inr rfl) rfl rfl ?_
  refine ev_gNW [] [] rfl ?_
  refine ev_inI 1 k_MW_46 h_PR_init rfl rfl rfl rfl ⟨by decide, by decide⟩ rfl ?_
  refine ev_gNW [] [] rfl ?_
  refine ev_fin (a := 26) (c0 := 4) (by decide) rfl (hstr_b rfl (by decide +kernel)) ?_
  refine ev_ret rfl ⟨rfl, rfl, ?_⟩
  refine ev_gNW [false] [] rfl ?_
  refine ev_getR (Or.inr rfl) rfl rfl ?_
  refine ev_gNW [] [] rfl ?_
  refine ev_inI 1 k_MW_46 h_PR_init rfl rfl rfl rfl ⟨by decide, by decide⟩ rfl ?_
  refine ev_gNW [] [] rfl ?_
  refine ev_fin (a := 29) (c0 := 4) (by decide) rfl (hstr_b rfl (by decide +kernel)) ?_
  refine ev_ret rfl ⟨rfl, rfl, ?_⟩
  refine ev_gNW [true, false] [] rfl ?_
  refine ev_getR (Or.inr rfl) rfl rfl ?_
  refine ev_gNW [] [] rfl ?_
  refine ev_inI 1 k_MW_49 h_SD_init rfl rfl rfl rfl ⟨by decide, by decide⟩ rfl ?_
  refine ev_gNW [] [] rfl ?_
  refine ev_fin (a := 32) (c0 := 7) (by decide) rfl (hstr_b rfl (by decide +kernel)) ?_
  refine ev_ret rfl ⟨rfl, rfl, ?_⟩
  refine ev_gNW [false] [] rfl ?_
  refine ev_getR (Or.inr rfl) rfl rfl ?_
  refine ev_gNW [] [] rfl ?_
  refine ev_inI 1 k_MW_49 h_SD_init rfl rfl rfl rfl ⟨by decide, by decide⟩ rfl ?_
  refine ev_gNW [] [] rfl ?_
  refine ev_fin (a := 39) (c0 := 7) (by decide) rfl (hstr_b rfl (by decide +kernel)) ?_
  refine ev_ret rfl ⟨rfl, rfl, ?_⟩
  refine ev_gNW [false] [] rfl ?_
  refine ev_getR (Or.inr rfl) rfl rfl ?_
  refine ev_gNW [] [] rfl ?_
  refine ev_inI 1 k_MW_49 h_SD_init rfl rfl rfl rfl ⟨by decide, by decide⟩ rfl ?_
  refine ev_gNW [] [] rfl ?_
  refine ev_fin (a := 46) (c0 := 7) (by decide) rfl (hstr_b rfl (by decide +kernel)) ?_
  refine ev_ret rfl ⟨rfl, rfl, ?_⟩
  refine ev_gNW [true] [] rfl ?_
  refine ev_getR (Or.inr rfl) rfl rfl ?_
  refine ev_gNW [] [] rfl ?_
  refine ev_getR (Or.inr rfl) rfl rfl ?_
  refine ev_gNW [] [] rfl ?_
  refine ev_inI 1 k_MW_54 h_NA_init rfl rfl rfl rfl ⟨by decide, by decide⟩ rfl ?_
  refine ev_gNW [] [] rfl ?_
  refine ev_fin (a := 54) (c0 := 2) (by decide) rfl (hstr_b rfl (by decide +kernel)) ?_
  refine ev_ret rfl ⟨rfl, rfl, ?_⟩
  refine ev_gNW [] [] rfl ?_
  refine ev_getR (Or.inr rfl) rfl rfl ?_
  refine ev_gNW [] [] rfl ?_
  refine ev_inI 1 k_MW_57 h_HA_init rfl rfl rfl rfl ⟨by decide, by decide⟩ rfl ?_
  refine ev_gNW [] [] rfl ?_
  refine ev_fin (a := 55) (c0 := 0) (by decide) rfl (hstr_b rfl (by decide +kernel)) ?_
  refine ev_ret rfl ⟨rfl, rfl, ?_⟩
  refine ev_gNW [] [] rfl ?_
  refine ev_getR (Or.inr rfl) rfl rfl ?_
  refine ev_gNW [] [] rfl ?_
  refine ev_inI 4 k_MW_60 h_MV_init rfl rfl rfl rfl ⟨by decide, by decide⟩ rfl ?_
  refine ev_gNW [] [] rfl ?_
  refine ev_fin (a := 53) (c0 := 1) (by decide) rfl (hstr_b rfl (by decide +kernel)) ?_
  refine ev_ret rfl ⟨rfl, rfl, ?_⟩
  refine ev_gNW [] [] rfl ?_
  refine ev_fin (a := 6) (c0 := 9) (by decide) rfl (hstr_b rfl (by decide +kernel)) ?_
  refine ev_ret rfl ?_
  exact ⟨rfl, rfl, rfl, Nat.le_of_ble_eq_true rfl, RC_zero (al := 0) (by decide) (by decide +kernel) (by decide +kernel) (by decide +kernel) (by decide +kernel) (by decide +kernel) (by decide +kernel) (fun i hi => absurd hi (Nat.not_lt_zero _)) (by decide +kernel) (by decide +kernel) (by decide +kernel) (by decide +kernel) (by decide +kernel) (by decide +kernel) (by decide +kernel) (by decide +kernel) (by decide +kernel) (by decide +kernel) (by decide +kernel) (by decide +kernel) (by decide +kernel) (by decide +kernel) (by decide +kernel) (by decide +kernel) (fun i hi => absurd hi (Nat.not_lt_zero _)) rfl rfl⟩
set_option maxHeartbeats 16000000 in
set_option maxRecDepth 100000 in
theorem C_newM : Ct Y_MM_init [vr 31 6] (mm_uk (fun _ => 0) 6 31, mm_cl (fun _ _ => 0) 6 0, mm_cl (fun _ _ => 0) 6 0, mm_cl (fun _ _ => 0) 6 0, mm_cl (fun _ _ => 0) 6 0, mm_cl (fun _ _ => none) 6 none, 7, 45) (fun r μ => r = none ∧ μ.1 6 = 11 ∧ mm_nx μ = 44 ∧ mm_sz μ ≤ 12000 ∧ BEG μ.2.1 μ.2.2.1 μ.2.2.2.2.1) := by
  refine ct_of h_MM_init rfl rfl rfl ?_
  refine ev_gNW [] [] rfl ?_
  refine ev_fin (a := 6) (c0 := 10) (by decide) rfl (hstr_b rfl (by decide +kernel)) ?_
  refine ev_knd (L2 := [(0, vr 11 6)]) (st2 := [vr 11 6]) (fun _ => rfl) (fun _ => rfl) (fun z hz => by
    rcases List.mem_cons.mp hz with rfl | hz
    · exact Or.inr ⟨by decide, by decide, Or.inl rfl⟩
    · cases hz) ⟨Or.inr ⟨by decide, by decide, Or.inl rfl⟩, trivial⟩ ?_
  refine ev_qV 0 k_MM_124 rfl C_begin rfl ⟨by decide, by decide⟩ rfl ?_
  rintro _ _ ⟨rfl, I2, J2, D2, rfl, hB⟩
  refine ev_go [] [] rfl trivial ?_
  exact ev_ret rfl ⟨rfl, rfl, rfl, Nat.le_of_ble_eq_true rfl, hB⟩
