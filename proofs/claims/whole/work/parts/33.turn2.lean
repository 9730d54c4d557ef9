theorem pp_rdy {t d : Nat} : ∀ (n : Nat) {cn : Nat → Nat → Nat → Nat}, cn 0 t 0 = n → pp t n cn 0 t 0 = d + 1 → pp t n cn 2 t d < pp t n cn 3 (pp t n cn 1 t d) 0
  | 0, cn, hn, h => by
    have h : cn 0 t 0 = d + 1 := h
    omega
  | n + 1, cn, hn, h => by
    by_cases hp : cn 2 t n < cn 3 (cn 1 t n) 0
    · have e : pp t (n + 1) cn = cn := if_pos hp
      rw [e] at h ⊢
      obtain rfl : d = n := by omega
      exact hp
    · have e : pp t (n + 1) cn = pp t n (lv cn t n) := if_neg hp
      rw [e] at h ⊢
      exact pp_rdy n (lv_0 cn t n) h
theorem pp_fix {t d : Nat} {cn : Nat → Nat → Nat → Nat} (hp : cn 2 t d < cn 3 (cn 1 t d) 0) : pp t (d + 1) cn = cn := if_pos hp
theorem u1_id {co : Nat → Option Nat} {t : Nat} (h : co t = none) : u1 co t none = co := by
  funext j
  unfold u1
  split
  · next e => rw [e, h]
  · rfl
theorem tk_ok {ci : Nat → Nat → Nat → Int32} {t : Nat} {f : Int32} (ht : t < 3) {d : Nat} {cn1 : Nat → Nat → Nat → Nat} : ∀ (n : Nat) {cn : Nat → Nat → Nat → Nat}, IC ci cn → cn 0 t 0 = n → tk ci t f n cn = some (d, cn1) → IC ci cn1 ∧ cn1 0 t 0 = d + 1
  | 0, cn, hI, hn, h => by cases h
  | n + 1, cn, hI, hn, h => by
    rw [tk_s] at h
    have i1 := hI.2.1 t ht n (by omega)
    split at h
    · next k hk =>
      cases h
      have hl := hs_lt _ _ hk
      have i5 := hI.2.2.2.2 (cn 1 t d) i1.1 k (by omega)
      exact ⟨IC_pla ht hI hn (by omega), hn⟩
    · exact tk_ok ht n (IC_dep ht hI (by omega)) u3_s h
theorem noteE {α : Type} (f : Nat → Nat → Nat → α) (t : Nat) (a b x y p l : α) : u3 (u3 (u3 (u3 (u3 (u3 f 1 t 0 a) 5 t 0 b) 2 t 0 x) 3 t 0 p) 4 t 0 l) 2 t 0 y = u3 (u3 (u3 (u3 (u3 f 1 t 0 a) 5 t 0 b) 2 t 0 y) 3 t 0 p) 4 t 0 l := by
  funext c i k
  simp only [u3]
  (repeat' split) <;> first | rfl | (exfalso; omega)
def IW (cn : Nat → Nat → Nat → Nat) (co : Nat → Option Nat) : Prop := ∀ u, u < 3 → cn 0 u 0 = 0 → co u = none
def IWo (t : Nat) (cn : Nat → Nat → Nat → Nat) (co : Nat → Option Nat) : Prop := ∀ u, u < 3 → ¬ u = t → cn 0 u 0 = 0 → co u = none
theorem IW_of {t : Nat} {cn : Nat → Nat → Nat → Nat} {co : Nat → Option Nat} (h : IWo t cn co) (hc : co t = none) : IW cn co := by
  intro u hu h0
  by_cases e : u = t
  · rw [e]; exact hc
  · exact h u hu e h0
theorem IW_w {t : Nat} {cn : Nat → Nat → Nat → Nat} {co : Nat → Option Nat} {v : Option Nat} (h : IWo t cn co) (h1 : ¬ cn 0 t 0 = 0) : IW cn (u1 co t v) := by
  intro u hu h0
  by_cases e : u = t
  · rw [e] at h0; exact absurd h0 h1
  · rw [show u1 co t v u = co u from if_neg e]; exact h u hu e h0
theorem IWo_tr {t : Nat} {cn cn2 : Nat → Nat → Nat → Nat} {co : Nat → Option Nat} (f : ∀ u, ¬ u = t → cn2 0 u 0 = cn 0 u 0) (h : IWo t cn co) : IWo t cn2 co := fun u hu e h0 => h u hu e (by rw [← f u e]; exact h0)
theorem u3_o {cn : Nat → Nat → Nat → Nat} {t v u : Nat} (h : ¬ u = t) : u3 cn 0 t 0 v 0 u 0 = cn 0 u 0 := if_neg (fun e => h e.2.1)
theorem pp_o {t u : Nat} (h : ¬ u = t) : ∀ (n : Nat) (cn : Nat → Nat → Nat → Nat), pp t n cn 0 u 0 = cn 0 u 0
  | 0, cn => rfl
  | n + 1, cn => by
    by_cases hp : cn 2 t n < cn 3 (cn 1 t n) 0
    · rw [show pp t (n + 1) cn = cn from if_pos hp]
    · rw [show pp t (n + 1) cn = pp t n (lv cn t n) from if_neg hp, pp_o h n, lv_o h]
theorem IWo_pp {t n : Nat} {cn : Nat → Nat → Nat → Nat} {co : Nat → Option Nat} (h : IWo t cn co) : IWo t (pp t n cn) co := IWo_tr (fun u e => pp_o e n cn) h
theorem tk_o {ci : Nat → Nat → Nat → Int32} {t u : Nat} {f : Int32} (hu : ¬ u = t) {d : Nat} {cn1 : Nat → Nat → Nat → Nat} : ∀ (n : Nat) {cn : Nat → Nat → Nat → Nat}, tk ci t f n cn = some (d, cn1) → cn1 0 u 0 = cn 0 u 0
  | 0, cn, h => by cases h
  | n + 1, cn, h => by
    rw [tk_s] at h
    split at h
    · cases h; rfl
    · exact (tk_o hu n h).trans (u3_o hu)
def RELS (μ1 μ2 : mm_M) : Prop := ∃ (ci : Nat → Nat → Nat → Int32) (cn : Nat → Nat → Nat → Nat) (co : Nat → Option Nat) (xj : Nat → Nat → Nat → Int64) (xd : Nat → Nat → Nat → UInt64) (xf : Nat → Nat → Nat → UInt32) (xo : Nat → Nat → Nat → Option Nat) (xi : Nat → Nat → Nat → Int32) (xn : Nat → Nat → Nat → Nat), RC ci cn co xj xd xf xo xi xn μ1.2.1 μ1.2.2.1 μ1.2.2.2.1 μ1.2.2.2.2.1 μ1.2.2.2.2.2.1 μ1.2.2.2.2.2.2.1 μ1.2.2.2.2.2.2.2 ∧ RM ci cn co xj xd xf xo xi xn μ2.2.1 μ2.2.2.1 μ2.2.2.2.2.1 ∧ IC ci cn ∧ IW cn co
theorem RM_note {ci : Nat → Nat → Nat → Int32} {cn : Nat → Nat → Nat → Nat} {co : Nat → Option Nat} {xj : Nat → Nat → Nat → Int64} {xd : Nat → Nat → Nat → UInt64} {xf : Nat → Nat → Nat → UInt32} {xo : Nat → Nat → Nat → Option Nat} {xi : Nat → Nat → Nat → Int32} {xn : Nat → Nat → Nat → Nat} {Km : Nat → Nat} {Im : Nat → Nat → Int32} {Jm : Nat → Nat → Int64} {Fm : Nat → Nat → UInt32} {Dm : Nat → Nat → UInt64} {Rm : Nat → Nat → Option Nat} {nxm slm : Nat} (hM : RM ci cn co xj xd xf xo xi xn Im Jm Dm) {t d : Nat} {x : Int32} (ht : t < 3) : RM (u3 (u3 (u3 (u3 (u3 ci 1 t 0 (ci 1 t 0 + nI 1)) 5 t 0 (ci 5 t 0 + nI 1)) 2 t 0 x) 3 t 0 (nI (cn 1 t d))) 4 t 0 (nI (cn 2 t d))) cn co xj xd xf xo xi xn (mm_up (mm_up (mm_up (mm_up Im 39 t (Im 39 t + nI 1)) 40 t (x)) 41 t (nI (cn 1 t d))) 42 t (nI (cn 2 t d))) Jm Dm := MU_lpl (MU_lpr (MU_lat (MU_fno (MU_fai hM ht rfl (by rw [rm_fai hM ht]))) ht rfl rfl) ht rfl rfl) ht rfl rfl
theorem C_popEnded0 {ci : Nat → Nat → Nat → Int32} {cn : Nat → Nat → Nat → Nat} {co : Nat → Option Nat} {xj : Nat → Nat → Nat → Int64} {xd : Nat → Nat → Nat → UInt64} {xf : Nat → Nat → Nat → UInt32} {xo : Nat → Nat → Nat → Option Nat} {xi : Nat → Nat → Nat → Int32} {xn : Nat → Nat → Nat → Nat} {Km : Nat → Nat} {Im : Nat → Nat → Int32} {Jm : Nat → Nat → Int64} {Fm : Nat → Nat → UInt32} {Dm : Nat → Nat → UInt64} {Rm : Nat → Nat → Option Nat} {nxm slm : Nat} (hM : RM ci cn co xj xd xf xo xi xn Im Jm Dm) {t : Nat} (ht : t < 3) (h0 : cn 0 t 0 = 0) : mm_Det Y_MM_popEnded [vr 11 6, vi (nI t)] (Km, Im, Jm, Fm, Dm, Rm, nxm, slm) none (Km, Im, Jm, Fm, Dm, Rm, nxm, slm) := by
  refine det_of h_MM_popEnded rfl rfl rfl ?_
  refine ev_go [true] [] rfl ⟨⟨trivial, (v_in (by omega)).mpr ht⟩, by rw [n_cl (by omega), rm_dep hM ht, h0]; decide⟩ ?_
  exact ev_ret rfl ⟨rfl, rfl⟩
set_option maxHeartbeats 4000000 in
theorem T_loop (hR : RR) {t n : Nat} (ht : t < 3) (hn1 : 1 ≤ n) (hn : n ≤ 500) {μ0 μm0 : mm_M} {PostC : Option mm_V → mm_M → Prop} {PostM : Option mm_V → mm_M → Option mm_V → mm_M → Prop} (hE : ∀ rv μ1 μ2, RELS μ1 μ2 → PostM (some (vi rv)) μ1 (some (vi rv)) μ2) : ∀ (m k fl : Nat) (ci : Nat → Nat → Nat → Int32) (cn0 cn : Nat → Nat → Nat → Nat) (co : Nat → Option Nat) (xj : Nat → Nat → Nat → Int64) (xd : Nat → Nat → Nat → UInt64) (xf : Nat → Nat → Nat → UInt32) (xo : Nat → Nat → Nat → Option Nat) (xi : Nat → Nat → Nat → Int32) (xn : Nat → Nat → Nat → Nat) (K : Nat → Nat) (I : Nat → Nat → Int32) (J : Nat → Nat → Int64) (F : Nat → Nat → UInt32) (D : Nat → Nat → UInt64) (R : Nat → Nat → Option Nat) (nx sl : Nat) (Km : Nat → Nat) (Im : Nat → Nat → Int32) (Jm : Nat → Nat → Int64) (Fm : Nat → Nat → UInt32) (Dm : Nat → Nat → UInt64) (Rm : Nat → Nat → Option Nat) (nxm slm : Nat) (L2 : mm_L), k + m = n → RC ci cn0 co xj xd xf xo xi xn I J F D R nx sl → RM ci cn co xj xd xf xo xi xn Im Jm Dm → IC ci cn0 → pp t (cn0 0 t 0) cn0 = cn → (k = 0 ∨ cn0 = cn) → (∃ d, cn 0 t 0 = d + 1 ∧ cn 2 t d < cn 3 (cn 1 t d) 0) → ci 5 t 0 = nI fl → fl ≤ 20 → co t = none → IWo t cn co → (∀ q ∈ [(0, vr 11 6), (1, vi (nI t)), (2, vi (nI n)), (3, vi (nI t)), (4, vi (nI fl)), (5, vi (nI k))], q ∈ L2) → (∀ r μ1, Ev Y_MM_turn μm0 (mm_to (mm_co Y_MM_turn) 61) L2 [vi (nI n), vi (nI k)] (Km, Im, Jm, Fm, Dm, Rm, nxm, slm) (PostM r μ1) → PostC r μ1) → Ev Y_MW_turn μ0 (mm_to (mm_co Y_MW_turn) 47) [(0, vr 10 6), (1, vi (nI t)), (2, vi (nI n)), (3, vr 8 (32 + 7 * t)), (4, vi (nI 1)), (5, vi (nI k))] [vi (nI n), vi (nI k)] (K, I, J, F, D, R, nx, sl) PostC := by
  intro m
  induction m with
  | zero =>
    rintro k fl ci cn0 cn co xj xd xf xo xi xn K I J F D R nx sl Km Im Jm Fm Dm Rm nxm slm L2 hk hC hM hI0 hcn h0 ⟨d, hd, hp⟩ hf hfl hco hW hL hP
    have he : cn0 = cn := by
      rcases h0 with h0 | h0
      · omega
      · exact h0
    subst he
    have h8 := hI0.1 t ht
    refine TC_u1 ht h8 (by omega) hn (by omega) hC (hP _ _ ?_)
    exact TM_x1 ht (decide_eq_true (by omega)) hn (by omega) hM L2 hL (hE _ _ _ ⟨ci, cn0, co, xj, xd, xf, xo, xi, xn, hC, hM, hI0, IW_of hW hco⟩)
  | succ m ih =>
    rintro k fl ci cn0 cn co xj xd xf xo xi xn K I J F D R nx sl Km Im Jm Fm Dm Rm nxm slm L2 hk hC hM hI0 hcn h0 ⟨d, hd, hp⟩ hf hfl hco hW hL hP
    have hI := IC_pp ht _ hI0 rfl
    rw [hcn] at hI
    have h8 := hI.1 t ht
    have hon : decide (0 < cn 0 t 0) = true := decide_eq_true (by omega)
    rcases STEP hR hC hM hI0 ht rfl hcn hd hp hf hfl with ⟨q, xj2, xd2, xf2, xo2, xi2, xn2, ⟨K1, I1, J1, F1, D1, R1, n1, s1⟩, ⟨K2, I2, J2, F2, D2, R2, n2, s2⟩, hq, dc, dd, hC2, hM2⟩ | ⟨cn2, rv, xj2, xd2, xf2, xo2, xi2, xn2, ⟨K1, I1, J1, F1, D1, R1, n1, s1⟩, ⟨K2, I2, J2, F2, D2, R2, n2, s2⟩, hI2, hfr, h43, dc, dd, hrv, hC2, hmm⟩ | ⟨bd, xj2, xd2, xf2, xo2, xi2, xn2, ⟨K1, I1, J1, F1, D1, R1, n1, s1⟩, ⟨K2, I2, J2, F2, D2, R2, n2, s2⟩, r, ⟨nf, hf1, hf2, hb⟩, h43, dd, hM2, dc, hr⟩
    · refine TC_step hn (by omega) dc ?_
      have fin := hP _ _ (TM_w ht hI hd hon hn (by omega) hfl hM L2 hL dd (hE (nI 2) _ _ ⟨ci, cn, _, xj2, xd2, xf2, xo2, xi2, xn2, hC2, hM2, hI, IW_w hW (by omega)⟩))
      by_cases hl : k + 1 = n
      · exact TC_u1 ht h8 (by omega) hn hl hC2 fin
      · exact TC_u0 ht h8 (by omega) hn (by omega) (by decide) hC2 fin
    · have isr : ∀ i, i < xn2 2 0 0 → xn2 1 i 0 ≤ 12 := fun i hi => (rc_isor hC2 hi).2.2.1
      have io : ∀ i, i < xn2 2 0 0 → ∀ q, xo2 4 i 0 = some q → q < 3 := fun i hi => rc_iown hC2 hi
      have yy : xn2 2 0 0 ≤ 160 := by have := rc_imad hC2; omega
      have hI3 : IC (u3 ci 0 t 0 (ci 0 t 0 + nI 1)) cn2 := IC_ci hI2 (fun p k => ⟨rfl, rfl, rfl⟩)
      have hI4 := IC_pp ht _ hI3 rfl
      rcases hrv with ⟨hz, rfl⟩ | ⟨hz, rfl⟩
      · have fin : ∀ μ1 : mm_M, RC (u3 ci 0 t 0 (ci 0 t 0 + nI 1)) (pp t (cn2 0 t 0) cn2) co xj2 xd2 xf2 (rlo xo2 t (xn2 2 0 0)) (rli xo2 xi2 t (xn2 2 0 0)) xn2 μ1.2.1 μ1.2.2.1 μ1.2.2.2.1 μ1.2.2.2.2.1 μ1.2.2.2.2.2.1 μ1.2.2.2.2.2.2.1 μ1.2.2.2.2.2.2.2 → PostC (some (vi (nI 0))) μ1 := by
          intro μ1 hCe
          refine hP _ _ ?_
          have exitM : ∀ (L3 : mm_L) (K3 : Nat → Nat) (I3 : Nat → Nat → Int32) (J3 : Nat → Nat → Int64) (F3 : Nat → Nat → UInt32) (D3 : Nat → Nat → UInt64) (R3 : Nat → Nat → Option Nat) (n3 s3 : Nat), (∀ q ∈ [(0, vr 11 6), (1, vi (nI t)), (2, vi (nI n)), (3, vi (nI t)), (4, vi (nI fl)), (5, vi (nI (k + 1)))], q ∈ L3) → RM (u3 ci 0 t 0 (ci 0 t 0 + nI 1)) (pp t (cn2 0 t 0) cn2) co xj2 xd2 xf2 (rlo xo2 t (xn2 2 0 0)) (rli xo2 xi2 t (xn2 2 0 0)) xn2 I3 J3 D3 → Ev Y_MM_turn μm0 (mm_to (mm_co Y_MM_turn) 61) L3 [vi (nI n), vi (nI (k + 1))] (K3, I3, J3, F3, D3, R3, n3, s3) (PostM (some (vi (nI 0))) μ1) := by
            intro L3 K3 I3 J3 F3 D3 R3 n3 s3 hL3 hM5
            have hoff : decide (0 < pp t (cn2 0 t 0) cn2 0 t 0) = false := decide_eq_false (by omega)
            by_cases hl : k + 1 = n
            · exact TM_x0 ht hoff hn hl hM5 L3 hL3 (hE _ _ _ ⟨_, _, _, _, _, _, _, _, _, hCe, hM5, hI4, IW_of (IWo_pp (IWo_tr hfr hW)) hco⟩)
            · exact TM_y0 ht hoff hn (by omega) hM5 L3 hL3 (hE _ _ _ ⟨_, _, _, _, _, _, _, _, _, hCe, hM5, hI4, IW_of (IWo_pp (IWo_tr hfr hW)) hco⟩)
          rcases hmm with ⟨hpos, hM3⟩ | ⟨hzz, hM3⟩
          · obtain ⟨m2, hm2⟩ : ∃ m2, cn2 0 t 0 = m2 + 1 := ⟨cn2 0 t 0 - 1, by omega⟩
            have e38 : I2 38 t = ci 0 t 0 := rm_don hM3 ht
            have hMd := MU_don (I := I2) (J := J2) (D := D2) (v := ci 0 t 0 + nI 1) (j := t) (z := I2 38 t + nI 1) hM3 ht rfl (by rw [e38])
            obtain ⟨_, ⟨K3, I3, J3, F3, D3, R3, n3, s3⟩, ⟨rfl, hQ⟩, d3⟩ := C_popEnded (Km := K2) (Fm := F2) (Rm := R2) (nxm := n2) (slm := s2) ht isr io yy hMd hI3 hm2
            rw [← hm2] at hQ
            rcases hQ with ⟨hQ, -⟩ | ⟨-, hM4⟩
            · omega
            · rw [u1_id hco] at hM4
              exact TM_o ht hI hd hon hn (by omega) hfl hM L2 hL dd h43 d3 (fun L3 hL3 => exitM L3 _ _ _ _ _ _ _ _ hL3 hM4)
          · rw [u1_id hco] at hM3
            have e38 : I2 38 t = ci 0 t 0 := rm_don hM3 ht
            have hMd := MU_don (I := I2) (J := J2) (D := D2) (v := ci 0 t 0 + nI 1) (j := t) (z := I2 38 t + nI 1) hM3 ht rfl (by rw [e38])
            have d3 := C_popEnded0 (Km := K2) (Fm := F2) (Rm := R2) (nxm := n2) (slm := s2) hMd ht hzz
            refine TM_o ht hI hd hon hn (by omega) hfl hM L2 hL dd h43 d3 (fun L3 hL3 => exitM L3 _ _ _ _ _ _ _ _ hL3 ?_)
            rw [hzz]; exact hMd
        refine TC_step hn (by omega) dc ?_
        by_cases hl : k + 1 = n
        · exact TC_e1 ht (by omega) hz hn hl hC2 fin
        · exact TC_e0 ht (by omega) hz hn (by omega) (by decide) hC2 fin
      · obtain ⟨d2, hd2⟩ : ∃ d2, pp t (cn2 0 t 0) cn2 0 t 0 = d2 + 1 := ⟨pp t (cn2 0 t 0) cn2 0 t 0 - 1, by omega⟩
        have hrd := pp_rdy _ rfl hd2
        rcases hmm with ⟨hpos, hM3⟩ | ⟨hzz, -⟩
        · obtain ⟨m2, hm2⟩ : ∃ m2, cn2 0 t 0 = m2 + 1 := ⟨cn2 0 t 0 - 1, by omega⟩
          have e38 : I2 38 t = ci 0 t 0 := rm_don hM3 ht
          have hMd := MU_don (I := I2) (J := J2) (D := D2) (v := ci 0 t 0 + nI 1) (j := t) (z := I2 38 t + nI 1) hM3 ht rfl (by rw [e38])
          obtain ⟨_, ⟨K3, I3, J3, F3, D3, R3, n3, s3⟩, ⟨rfl, hQ⟩, d3⟩ := C_popEnded (Km := K2) (Fm := F2) (Rm := R2) (nxm := n2) (slm := s2) ht isr io yy hMd hI3 hm2
          rw [← hm2] at hQ
          rcases hQ with ⟨-, hM4⟩ | ⟨hQ, -⟩
          · refine TC_step hn (by omega) dc ?_
            exact ih (k + 1) fl _ _ _ _ _ _ _ _ _ _ _ _ _ _ _ _ _ _ _ _ _ _ _ _ _ _ _ (by omega) hC2 hM4 hI4 (by rw [hd2, pp_fix hrd]) (Or.inr rfl) ⟨d2, hd2, hrd⟩ hf hfl hco (IWo_pp (IWo_tr hfr hW)) (fun q h => h) (fun r μ1 h => hP r μ1 (TM_o ht hI hd hon hn (by omega) hfl hM L2 hL dd h43 d3 (fun L3 hL3 => ev_sub hL3 h)))
          · omega
        · rw [hzz] at hz
          have hz : 0 < cn2 0 t 0 := hz
          omega
    · have hb0 : ¬ bd = 0 := by rw [hb, i_eq0 (by omega)]; omega
      have hrv1 : ¬ -(nI 10) - bd = nI 1 := by rw [hb]; exact (by decide +kernel : ∀ m, m < 100 → ¬ -(nI 10) - nI m = nI 1) nf hf2
      rcases hr with ⟨h20, rfl, hC2⟩ | ⟨h20, hQ⟩
      · rw [noteE] at hC2
        have isr : ∀ i, i < xn2 2 0 0 → xn2 1 i 0 ≤ 12 := fun i hi => (rc_isor hC2 hi).2.2.1
        have io : ∀ i, i < xn2 2 0 0 → ∀ q, xo2 4 i 0 = some q → q < 3 := fun i hi => rc_iown hC2 hi
        have yy : xn2 2 0 0 ≤ 160 := by have := rc_imad hC2; omega
        have hMn := RM_note (x := nI 11) (d := d) (Km := K2) (Fm := F2) (Rm := R2) (nxm := n2) (slm := s2) hM2 ht
        obtain ⟨_, ⟨K3, I3, J3, F3, D3, R3, n3, s3⟩, ⟨rfl, hM4⟩, d2⟩ := C_MM_ends (Km := K2) (Fm := F2) (Rm := R2) (nxm := n2) (slm := s2) ht isr io yy hMn (fun a k g => rfl)
        rw [u1_id hco] at hM4
        have hI3 : IC (u3 (u3 (u3 (u3 (u3 ci 1 t 0 (ci 1 t 0 + nI 1)) 5 t 0 (ci 5 t 0 + nI 1)) 2 t 0 (nI 11)) 3 t 0 (nI (cn 1 t d))) 4 t 0 (nI (cn 2 t d))) (u3 cn 0 t 0 0) := IC_ci (IC_dep ht hI (by omega)) (fun p k => ⟨rfl, rfl, rfl⟩)
        have fin : ∀ μ1 : mm_M, RC (u3 (u3 (u3 (u3 (u3 ci 1 t 0 (ci 1 t 0 + nI 1)) 5 t 0 (ci 5 t 0 + nI 1)) 2 t 0 (nI 11)) 3 t 0 (nI (cn 1 t d))) 4 t 0 (nI (cn 2 t d))) (u3 cn 0 t 0 0) co xj2 xd2 xf2 (rlo xo2 t (xn2 2 0 0)) (rli xo2 xi2 t (xn2 2 0 0)) xn2 μ1.2.1 μ1.2.2.1 μ1.2.2.2.1 μ1.2.2.2.2.1 μ1.2.2.2.2.2.1 μ1.2.2.2.2.2.2.1 μ1.2.2.2.2.2.2.2 → PostC (some (vi (-(nI 21)))) μ1 := fun μ1 hCe => hP _ _ (TM_f21 ht hI hd hon hn (by omega) hfl hM L2 hL hb0 dd h43 h20 d2 (hE _ _ _ ⟨_, _, _, _, _, _, _, _, _, hCe, hM4, hI3, IW_of (IWo_tr (fun u e => u3_o e) hW) hco⟩))
        refine TC_step hn (by omega) dc ?_
        by_cases hl : k + 1 = n
        · exact TC_e1 ht (by rw [u3_s]; omega) u3_s hn hl hC2 fin
        · exact TC_e0 ht (by rw [u3_s]; omega) u3_s hn (by omega) (by decide) hC2 fin
      · have hIn : IC (u3 (u3 (u3 (u3 (u3 ci 1 t 0 (ci 1 t 0 + nI 1)) 5 t 0 (ci 5 t 0 + nI 1)) 2 t 0 bd) 3 t 0 (nI (cn 1 t d))) 4 t 0 (nI (cn 2 t d))) cn := IC_ci hI (fun p k => ⟨rfl, rfl, rfl⟩)
        have hMn := RM_note (x := bd) (d := d) (Km := K2) (Fm := F2) (Rm := R2) (nxm := n2) (slm := s2) hM2 ht
        rcases hQ with ⟨htk, rfl, hC2⟩ | ⟨d2, cn1, htk, hrv, hC2⟩
        · have isr : ∀ i, i < xn2 2 0 0 → xn2 1 i 0 ≤ 12 := fun i hi => (rc_isor hC2 hi).2.2.1
          have io : ∀ i, i < xn2 2 0 0 → ∀ q, xo2 4 i 0 = some q → q < 3 := fun i hi => rc_iown hC2 hi
          have yy : xn2 2 0 0 ≤ 160 := by have := rc_imad hC2; omega
          obtain ⟨r3, ⟨K3, I3, J3, F3, D3, R3, n3, s3⟩, hQT, d3⟩ := C_isTaken (f := bd) (Km := K2) (Fm := F2) (Rm := R2) (nxm := n2) (slm := s2) ht isr io yy hMn hIn hd
          rcases hQT with ⟨-, rfl, hM4⟩ | ⟨d4, cn3, htk3, -⟩
          · rw [u1_id hco] at hM4
            have hI3 : IC (u3 (u3 (u3 (u3 (u3 ci 1 t 0 (ci 1 t 0 + nI 1)) 5 t 0 (ci 5 t 0 + nI 1)) 2 t 0 bd) 3 t 0 (nI (cn 1 t d))) 4 t 0 (nI (cn 2 t d))) (u3 cn 0 t 0 0) := IC_dep ht hIn (by omega)
            have fin : ∀ μ1 : mm_M, RC (u3 (u3 (u3 (u3 (u3 ci 1 t 0 (ci 1 t 0 + nI 1)) 5 t 0 (ci 5 t 0 + nI 1)) 2 t 0 bd) 3 t 0 (nI (cn 1 t d))) 4 t 0 (nI (cn 2 t d))) (u3 cn 0 t 0 0) co xj2 xd2 xf2 (rlo xo2 t (xn2 2 0 0)) (rli xo2 xi2 t (xn2 2 0 0)) xn2 μ1.2.1 μ1.2.2.1 μ1.2.2.2.1 μ1.2.2.2.2.1 μ1.2.2.2.2.2.1 μ1.2.2.2.2.2.2.1 μ1.2.2.2.2.2.2.2 → PostC (some (vi (-(nI 10) - bd))) μ1 := fun μ1 hCe => hP _ _ (TM_n ht hI hd hon hn (by omega) hfl hM L2 hL hb0 dd h43 h20 d3 (hE _ _ _ ⟨_, _, _, _, _, _, _, _, _, hCe, hM4, hI3, IW_of (IWo_tr (fun u e => u3_o e) hW) hco⟩))
            refine TC_step hn (by omega) dc ?_
            by_cases hl : k + 1 = n
            · exact TC_e1 ht (by rw [u3_s]; omega) u3_s hn hl hC2 fin
            · exact TC_e0 ht (by rw [u3_s]; omega) u3_s hn (by omega) hrv1 hC2 fin
          · rw [htk] at htk3; cases htk3
        · have isr : ∀ i, i < xn2 2 0 0 → xn2 1 i 0 ≤ 12 := fun i hi => (rc_isor hC2 hi).2.2.1
          have io : ∀ i, i < xn2 2 0 0 → ∀ q, xo2 4 i 0 = some q → q < 3 := fun i hi => rc_iown hC2 hi
          have yy : xn2 2 0 0 ≤ 160 := by have := rc_imad hC2; omega
          obtain ⟨hI5, hcn1⟩ := tk_ok ht (d + 1) hIn hd htk
          have hI6 := IC_pp ht _ hI5 hcn1
          obtain ⟨r3, ⟨K3, I3, J3, F3, D3, R3, n3, s3⟩, hQT, d3⟩ := C_isTaken (f := bd) (Km := K2) (Fm := F2) (Rm := R2) (nxm := n2) (slm := s2) ht isr io yy hMn hIn hd
          rcases hQT with ⟨htk3, -⟩ | ⟨d4, cn3, htk3, rfl, hM4⟩
          · rw [htk] at htk3; cases htk3
          · rw [htk] at htk3
            cases htk3
            obtain ⟨_, ⟨K4, I4, J4, F4, D4, R4, n4, s4⟩, ⟨rfl, hQP⟩, d5⟩ := C_popEnded (Km := K3) (Fm := F3) (Rm := R3) (nxm := n3) (slm := s3) ht isr io yy hM4 hI5 hcn1
            rcases hrv with ⟨hz, rfl⟩ | ⟨hz, rfl⟩
            · rcases hQP with ⟨hQP, -⟩ | ⟨-, hM5⟩
              · omega
              · rw [u1_id hco] at hM5
                have hoff : decide (0 < pp t (d2 + 1) cn1 0 t 0) = false := decide_eq_false (by omega)
                have fin : ∀ μ1 : mm_M, RC (u3 (u3 (u3 (u3 (u3 ci 1 t 0 (ci 1 t 0 + nI 1)) 5 t 0 (ci 5 t 0 + nI 1)) 2 t 0 bd) 3 t 0 (nI (cn 1 t d))) 4 t 0 (nI (cn 2 t d))) (pp t (d2 + 1) cn1) co (u3 xj2 0 t 7 bd.toInt64) xd2 xf2 (rlo xo2 t (xn2 2 0 0)) (rli xo2 xi2 t (xn2 2 0 0)) xn2 μ1.2.1 μ1.2.2.1 μ1.2.2.2.1 μ1.2.2.2.2.1 μ1.2.2.2.2.2.1 μ1.2.2.2.2.2.2.1 μ1.2.2.2.2.2.2.2 → PostC (some (vi (nI 0))) μ1 := by
                  intro μ1 hCe
                  refine hP _ _ (TM_t ht hI hd hon hn (by omega) hfl hM L2 hL hb0 dd h43 h20 d3 d5 (fun L3 hL3 => ?_))
                  by_cases hl : k + 1 = n
                  · exact TM_x0 (fl := fl + 1) ht hoff hn hl hM5 L3 hL3 (hE _ _ _ ⟨_, _, _, _, _, _, _, _, _, hCe, hM5, hI6, IW_of (IWo_pp (IWo_tr (fun u e => tk_o e _ htk) hW)) hco⟩)
                  · exact TM_y0 (fl := fl + 1) ht hoff hn (by omega) hM5 L3 hL3 (hE _ _ _ ⟨_, _, _, _, _, _, _, _, _, hCe, hM5, hI6, IW_of (IWo_pp (IWo_tr (fun u e => tk_o e _ htk) hW)) hco⟩)
                refine TC_step hn (by omega) dc ?_
                by_cases hl : k + 1 = n
                · exact TC_e1 ht (by omega) hz hn hl hC2 fin
                · exact TC_e0 ht (by omega) hz hn (by omega) (by decide) hC2 fin
            · rcases hQP with ⟨-, hM5⟩ | ⟨hQP, -⟩
              · obtain ⟨d6, hd6⟩ : ∃ d6, pp t (d2 + 1) cn1 0 t 0 = d6 + 1 := ⟨pp t (d2 + 1) cn1 0 t 0 - 1, by omega⟩
                have hrd := pp_rdy _ hcn1 hd6
                refine TC_step hn (by omega) dc ?_
                exact ih (k + 1) (fl + 1) _ _ _ _ _ _ _ _ _ _ _ _ _ _ _ _ _ _ _ _ _ _ _ _ _ _ _ (by omega) hC2 hM5 hI6 (by rw [hd6, pp_fix hrd]) (Or.inr rfl) ⟨d6, hd6, hrd⟩ (by simp [u3]; rw [hf, i_add]) (by omega) hco (IWo_pp (IWo_tr (fun u e => tk_o e _ htk) hW)) (fun q h => h) (fun r μ1 h => hP r μ1 (TM_t ht hI hd hon hn (by omega) hfl hM L2 hL hb0 dd h43 h20 d3 d5 (fun L3 hL3 => ev_sub hL3 h)))
              · omega
