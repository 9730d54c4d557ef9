theorem lv_o {cn : Nat → Nat → Nat → Nat} {t n u : Nat} (h : ¬ u = t) : lv cn t n 0 u 0 = cn 0 u 0 := by
  cases n with
  | zero => exact if_neg (fun e => h e.2.1)
  | succ m => exact (if_neg (fun e => h e.2.1) : u3 cn 0 t 0 (m + 1) 0 u 0 = cn 0 u 0)
theorem IC_psh {ci : Nat → Nat → Nat → Int32} {cn : Nat → Nat → Nat → Nat} {t d a : Nat} (ht : t < 3) (h : IC ci cn) (hd : cn 0 t 0 = d + 1) (h7 : d + 1 < 8) (ha : a < 6) (hp4 : cn 2 t d < 40) : IC ci (u3 (u3 (u3 cn 1 t (d + 1) a) 2 t (d + 1) 0) 0 t 0 (d + 1 + 1)) := by
  obtain ⟨h1, h2, h3, h4, h5⟩ := h
  refine ⟨fun t1 ht1 => ?_, fun t1 ht1 k1 hk1 => ?_, h3, h4, h5⟩
  · by_cases e : t1 = t
    · subst e
      have e0 : u3 (u3 (u3 cn 1 t1 (d + 1) a) 2 t1 (d + 1) 0) 0 t1 0 (d + 1 + 1) 0 t1 0 = d + 1 + 1 := by simp [u3]
      rw [e0]; omega
    · have e0 : u3 (u3 (u3 cn 1 t (d + 1) a) 2 t (d + 1) 0) 0 t 0 (d + 1 + 1) 0 t1 0 = cn 0 t1 0 := by simp [u3, e]
      rw [e0]; exact h1 t1 ht1
  · by_cases e : t1 = t
    · subst e
      have e0 : u3 (u3 (u3 cn 1 t1 (d + 1) a) 2 t1 (d + 1) 0) 0 t1 0 (d + 1 + 1) 0 t1 0 = d + 1 + 1 := by simp [u3]
      rw [e0] at hk1 ⊢
      by_cases ek : k1 = d + 1
      · subst ek
        have e1 : u3 (u3 (u3 cn 1 t1 (d + 1) a) 2 t1 (d + 1) 0) 0 t1 0 (d + 1 + 1) 1 t1 (d + 1) = a := by simp [u3]
        have e2 : u3 (u3 (u3 cn 1 t1 (d + 1) a) 2 t1 (d + 1) 0) 0 t1 0 (d + 1 + 1) 2 t1 (d + 1) = 0 := by simp [u3]
        rw [e1, e2]
        exact ⟨ha, by omega, fun h => by omega⟩
      · have e1 : u3 (u3 (u3 cn 1 t1 (d + 1) a) 2 t1 (d + 1) 0) 0 t1 0 (d + 1 + 1) 1 t1 k1 = cn 1 t1 k1 := by simp [u3, ek]
        have e2 : u3 (u3 (u3 cn 1 t1 (d + 1) a) 2 t1 (d + 1) 0) 0 t1 0 (d + 1 + 1) 2 t1 k1 = cn 2 t1 k1 := by simp [u3, ek]
        rw [e1, e2]
        have hk := h2 t1 ht1 k1 (by omega)
        refine ⟨hk.1, hk.2.1, fun h => ?_⟩
        by_cases ed : k1 = d
        · rw [ed]; exact hp4
        · exact hk.2.2 (by omega)
    · have e0 : u3 (u3 (u3 cn 1 t (d + 1) a) 2 t (d + 1) 0) 0 t 0 (d + 1 + 1) 0 t1 0 = cn 0 t1 0 := by simp [u3, e]
      have e1 : u3 (u3 (u3 cn 1 t (d + 1) a) 2 t (d + 1) 0) 0 t 0 (d + 1 + 1) 1 t1 k1 = cn 1 t1 k1 := by simp [u3, e]
      have e2 : u3 (u3 (u3 cn 1 t (d + 1) a) 2 t (d + 1) 0) 0 t 0 (d + 1 + 1) 2 t1 k1 = cn 2 t1 k1 := by simp [u3, e]
      rw [e0] at hk1 ⊢
      rw [e1, e2]
      exact h2 t1 ht1 k1 hk1
theorem PF (hR : RR) {ci : Nat → Nat → Nat → Int32} {cn : Nat → Nat → Nat → Nat} {co : Nat → Option Nat} {xj : Nat → Nat → Nat → Int64} {xd : Nat → Nat → Nat → UInt64} {xf : Nat → Nat → Nat → UInt32} {xo : Nat → Nat → Nat → Option Nat} {xi : Nat → Nat → Nat → Int32} {xn : Nat → Nat → Nat → Nat} {K : Nat → Nat} {I : Nat → Nat → Int32} {J : Nat → Nat → Int64} {F : Nat → Nat → UInt32} {D : Nat → Nat → UInt64} {R : Nat → Nat → Option Nat} {nx sl : Nat} {Km : Nat → Nat} {Im : Nat → Nat → Int32} {Jm : Nat → Nat → Int64} {Fm : Nat → Nat → UInt32} {Dm : Nat → Nat → UInt64} {Rm : Nat → Nat → Option Nat} {nxm slm : Nat} (hC : RC ci cn co xj xd xf xo xi xn I J F D R nx sl) (hM : RM ci cn co xj xd xf xo xi xn Im Jm Dm) {t op : Nat} {a b c go : Int32} (ht : t < 3) (hok : OKA op a b c) (hop : op < 58) (x1 : Im 6 39 = nI t) (x2 : Im 6 40 = a) (x3 : Im 6 41 = b) (x4 : Im 6 42 = c) (x5 : Im 6 43 = nI 0) (x6 : Im 6 44 = go) : ∃ (bd : Int32) (xj2 : Nat → Nat → Nat → Int64) (xd2 : Nat → Nat → Nat → UInt64) (xf2 : Nat → Nat → Nat → UInt32) (xo2 : Nat → Nat → Nat → Option Nat) (xi2 : Nat → Nat → Nat → Int32) (xn2 : Nat → Nat → Nat → Nat) (K1 : Nat → Nat) (I1 : Nat → Nat → Int32) (J1 : Nat → Nat → Int64) (F1 : Nat → Nat → UInt32) (D1 : Nat → Nat → UInt64) (R1 : Nat → Nat → Option Nat) (n1 s1 : Nat) (K2 : Nat → Nat) (I2 : Nat → Nat → Int32) (J2 : Nat → Nat → Int64) (F2 : Nat → Nat → UInt32) (D2 : Nat → Nat → UInt64) (R2 : Nat → Nat → Option Nat) (n2 s2 : Nat), BD bd ∧ I2 6 43 = bd ∧ I2 6 44 = go ∧ RC ci cn co xj2 xd2 xf2 xo2 xi2 xn2 I1 J1 F1 D1 R1 n1 s1 ∧ RM ci cn co xj2 xd2 xf2 xo2 xi2 xn2 I2 J2 D2 ∧ (∀ (μ0 : mm_M) (Post : Option mm_V → mm_M → Prop) (pl : Int32) (p0 : Nat), Ev Y_MV_step μ0 (mm_to (mm_co Y_MV_step) 181) [(0, vr 2 53), (1, vr 8 (32 + 7 * t)), (2, vr 5 p0), (3, vi pl), (4, vi (nI op)), (5, vi a), (6, vi b), (7, vi c), (8, vi bd)] [vi (-(nI 1)), vi bd] (K1, I1, J1, F1, D1, R1, n1, s1) Post → Ev Y_MV_step μ0 (mm_to (mm_co Y_MV_step) 52) [(0, vr 2 53), (1, vr 8 (32 + 7 * t)), (2, vr 5 p0), (3, vi pl), (4, vi (nI op)), (5, vi a), (6, vi b), (7, vi c)] [vi (nI 58), vi (nI op)] (K, I, J, F, D, R, nx, sl) Post) ∧ (∀ (μ0 : mm_M) (Post : Option mm_V → mm_M → Prop) (t1 top at1 : Int32), Ev Y_MM_does μ0 (mm_to (mm_co Y_MM_does) 298) [(0, vr 11 6), (1, vi t1), (2, vi top), (3, vi at1), (4, vi (nI op))] [vi (I2 6 43), vi top, vr 41 37] (K2, I2, J2, F2, D2, R2, n2, s2) Post → Ev Y_MM_does μ0 (mm_to (mm_co Y_MM_does) 95) [(0, vr 11 6), (1, vi t1), (2, vi top), (3, vi at1), (4, vi (nI op))] [vi (nI 62), vi (nI op)] (Km, Im, Jm, Fm, Dm, Rm, nxm, slm) Post) := by
  rcases (by omega : (op < 12) ∨ (12 ≤ op ∧ op < 19) ∨ (op = 19) ∨ (20 ≤ op ∧ op < 28) ∨ (28 ≤ op ∧ op < 36) ∨ (36 ≤ op ∧ op < 46) ∨ (46 ≤ op ∧ op < 51) ∨ (51 ≤ op ∧ op < 58)) with hr | hr | hr | hr | hr | hr | hr | hr
  · obtain ⟨r, ⟨K1, I1, J1, F1, D1, R1, n1, s1⟩, ⟨r2, ⟨K2, I2, J2, F2, D2, R2, n2, s2⟩, ⟨rfl, xj2, xd2, xf2, xo2, xi2, xn2, bd, rfl, hb, h43, h44, hC2, hM2⟩, d2⟩, d1⟩ := hR.1 hC hM ht hok (by omega) x1 x2 x3 x4 x5 x6
    exact ⟨bd, xj2, xd2, xf2, xo2, xi2, xn2, K1, I1, J1, F1, D1, R1, n1, s1, K2, I2, J2, F2, D2, R2, n2, s2, hb, h43, h44, hC2, hM2, fun μ0 Post pl p0 k => ST_NA (by omega) d1 k, fun μ0 Post t1 top at1 k => DO_reckons (by omega) d2 k⟩
  · obtain ⟨r, ⟨K1, I1, J1, F1, D1, R1, n1, s1⟩, ⟨r2, ⟨K2, I2, J2, F2, D2, R2, n2, s2⟩, ⟨rfl, xj2, xd2, xf2, xo2, xi2, xn2, bd, rfl, hb, h43, h44, hC2, hM2⟩, d2⟩, d1⟩ := hR.2.1 hC hM ht hok (by omega) x1 x2 x3 x4 x5 x6
    exact ⟨bd, xj2, xd2, xf2, xo2, xi2, xn2, K1, I1, J1, F1, D1, R1, n1, s1, K2, I2, J2, F2, D2, R2, n2, s2, hb, h43, h44, hC2, hM2, fun μ0 Post pl p0 k => ST_HA1 (by omega) d1 k, fun μ0 Post t1 top at1 k => DO_makes (by omega) d2 k⟩
  · subst hr; exact hok.elim
  · obtain ⟨r, ⟨K1, I1, J1, F1, D1, R1, n1, s1⟩, ⟨r2, ⟨K2, I2, J2, F2, D2, R2, n2, s2⟩, ⟨rfl, xj2, xd2, xf2, xo2, xi2, xn2, bd, rfl, hb, h43, h44, hC2, hM2⟩, d2⟩, d1⟩ := hR.2.2.1 hC hM ht hok (by omega) x1 x2 x3 x4 x5 x6
    exact ⟨bd, xj2, xd2, xf2, xo2, xi2, xn2, K1, I1, J1, F1, D1, R1, n1, s1, K2, I2, J2, F2, D2, R2, n2, s2, hb, h43, h44, hC2, hM2, fun μ0 Post pl p0 k => ST_IA (by omega) d1 k, fun μ0 Post t1 top at1 k => DO_loads (by omega) d2 k⟩
  · obtain ⟨r, ⟨K1, I1, J1, F1, D1, R1, n1, s1⟩, ⟨r2, ⟨K2, I2, J2, F2, D2, R2, n2, s2⟩, ⟨rfl, xj2, xd2, xf2, xo2, xi2, xn2, bd, rfl, hb, h43, h44, hC2, hM2⟩, d2⟩, d1⟩ := hR.2.2.2.1 hC hM ht hok (by omega) x1 x2 x3 x4 x5 x6
    exact ⟨bd, xj2, xd2, xf2, xo2, xi2, xn2, K1, I1, J1, F1, D1, R1, n1, s1, K2, I2, J2, F2, D2, R2, n2, s2, hb, h43, h44, hC2, hM2, fun μ0 Post pl p0 k => ST_IA (by omega) d1 k, fun μ0 Post t1 top at1 k => DO_stores (by omega) d2 k⟩
  · obtain ⟨r, ⟨K1, I1, J1, F1, D1, R1, n1, s1⟩, ⟨r2, ⟨K2, I2, J2, F2, D2, R2, n2, s2⟩, ⟨rfl, xj2, xd2, xf2, xo2, xi2, xn2, bd, rfl, hb, h43, h44, hC2, hM2⟩, d2⟩, d1⟩ := hR.2.2.2.2.1 hC hM ht hok (by omega) x1 x2 x3 x4 x5 x6
    exact ⟨bd, xj2, xd2, xf2, xo2, xi2, xn2, K1, I1, J1, F1, D1, R1, n1, s1, K2, I2, J2, F2, D2, R2, n2, s2, hb, h43, h44, hC2, hM2, fun μ0 Post pl p0 k => ST_IA (by omega) d1 k, fun μ0 Post t1 top at1 k => DO_handles (by omega) d2 k⟩
  · obtain ⟨r, ⟨K1, I1, J1, F1, D1, R1, n1, s1⟩, ⟨r2, ⟨K2, I2, J2, F2, D2, R2, n2, s2⟩, ⟨rfl, xj2, xd2, xf2, xo2, xi2, xn2, bd, rfl, hb, h43, h44, hC2, hM2⟩, d2⟩, d1⟩ := hR.2.2.2.2.2.1 hC hM ht hok (by omega) x1 x2 x3 x4 x5 x6
    exact ⟨bd, xj2, xd2, xf2, xo2, xi2, xn2, K1, I1, J1, F1, D1, R1, n1, s1, K2, I2, J2, F2, D2, R2, n2, s2, hb, h43, h44, hC2, hM2, fun μ0 Post pl p0 k => ST_HA2 (by omega) d1 k, fun μ0 Post t1 top at1 k => DO_handles (by omega) d2 k⟩
  · obtain ⟨r, ⟨K1, I1, J1, F1, D1, R1, n1, s1⟩, ⟨r2, ⟨K2, I2, J2, F2, D2, R2, n2, s2⟩, ⟨rfl, xj2, xd2, xf2, xo2, xi2, xn2, bd, rfl, hb, h43, h44, hC2, hM2⟩, d2⟩, d1⟩ := hR.2.2.2.2.2.2 hC hM ht hok (by omega) x1 x2 x3 x4 x5 x6
    exact ⟨bd, xj2, xd2, xf2, xo2, xi2, xn2, K1, I1, J1, F1, D1, R1, n1, s1, K2, I2, J2, F2, D2, R2, n2, s2, hb, h43, h44, hC2, hM2, fun μ0 Post pl p0 k => ST_OA (by omega) d1 k, fun μ0 Post t1 top at1 k => DO_meets (by omega) d2 k⟩
theorem PG {ci : Nat → Nat → Nat → Int32} {cn : Nat → Nat → Nat → Nat} {co : Nat → Option Nat} {xj : Nat → Nat → Nat → Int64} {xd : Nat → Nat → Nat → UInt64} {xf : Nat → Nat → Nat → UInt32} {xo : Nat → Nat → Nat → Option Nat} {xi : Nat → Nat → Nat → Int32} {xn : Nat → Nat → Nat → Nat} {K : Nat → Nat} {I : Nat → Nat → Int32} {J : Nat → Nat → Int64} {F : Nat → Nat → UInt32} {D : Nat → Nat → UInt64} {R : Nat → Nat → Option Nat} {nx sl : Nat} {Km : Nat → Nat} {Im : Nat → Nat → Int32} {Jm : Nat → Nat → Int64} {Fm : Nat → Nat → UInt32} {Dm : Nat → Nat → UInt64} {Rm : Nat → Nat → Option Nat} {nxm slm : Nat} (hC : RC ci cn co xj xd xf xo xi xn I J F D R nx sl) (hM : RM ci cn co xj xd xf xo xi xn Im Jm Dm) {t d pl0 op : Nat} {a b c : Int32} (ht : t < 3) (hd : cn 0 t 0 = d + 1) (hd8 : d < 8) (hpl : cn 2 t d = pl0) (hp4 : pl0 < 40) (hok : OKA op a b c) (hop : (58 ≤ op ∧ op < 62) ∨ op = 65) (x1 : Im 6 39 = nI t) (x2 : Im 6 40 = a) (x3 : Im 6 41 = b) (x4 : Im 6 42 = c) (x5 : Im 6 43 = nI 0) (x6 : Im 6 44 = nI (pl0 + 1)) : ∃ (bd : Int32) (gv : Nat) (xj2 : Nat → Nat → Nat → Int64) (xd2 : Nat → Nat → Nat → UInt64) (xf2 : Nat → Nat → Nat → UInt32) (xo2 : Nat → Nat → Nat → Option Nat) (xi2 : Nat → Nat → Nat → Int32) (xn2 : Nat → Nat → Nat → Nat) (K1 : Nat → Nat) (I1 : Nat → Nat → Int32) (J1 : Nat → Nat → Int64) (F1 : Nat → Nat → UInt32) (D1 : Nat → Nat → UInt64) (R1 : Nat → Nat → Option Nat) (n1 s1 : Nat) (K2 : Nat → Nat) (I2 : Nat → Nat → Int32) (J2 : Nat → Nat → Int64) (F2 : Nat → Nat → UInt32) (D2 : Nat → Nat → UInt64) (R2 : Nat → Nat → Option Nat) (n2 s2 : Nat), I2 6 43 = bd ∧ I2 6 44 = nI gv ∧ gv ≤ 40 ∧ ((bd = nI 0 ∧ RC ci (u3 cn 2 t d gv) co xj2 xd2 xf2 xo2 xi2 xn2 I1 J1 F1 D1 R1 n1 s1) ∨ ((∃ nf, 0 < nf ∧ nf < 100 ∧ bd = nI nf) ∧ RC ci cn co xj2 xd2 xf2 xo2 xi2 xn2 I1 J1 F1 D1 R1 n1 s1)) ∧ RM ci cn co xj2 xd2 xf2 xo2 xi2 xn2 I2 J2 D2 ∧ (∀ (μ0 : mm_M) (Post : Option mm_V → mm_M → Prop) (pl : Int32) (p0 : Nat), Ev Y_MV_step μ0 (mm_to (mm_co Y_MV_step) 181) [(0, vr 2 53), (1, vr 8 (32 + 7 * t)), (2, vr 5 p0), (3, vi pl), (4, vi (nI op)), (5, vi a), (6, vi b), (7, vi c), (8, vi bd)] [vi (-(nI 1)), vi bd] (K1, I1, J1, F1, D1, R1, n1, s1) Post → Ev Y_MV_step μ0 (mm_to (mm_co Y_MV_step) 52) [(0, vr 2 53), (1, vr 8 (32 + 7 * t)), (2, vr 5 p0), (3, vi pl), (4, vi (nI op)), (5, vi a), (6, vi b), (7, vi c)] [vi (nI 58), vi (nI op)] (K, I, J, F, D, R, nx, sl) Post) ∧ (∀ (μ0 : mm_M) (Post : Option mm_V → mm_M → Prop) (t1 top at1 : Int32), Ev Y_MM_does μ0 (mm_to (mm_co Y_MM_does) 298) [(0, vr 11 6), (1, vi t1), (2, vi top), (3, vi at1), (4, vi (nI op))] [vi (I2 6 43), vi top, vr 41 37] (K2, I2, J2, F2, D2, R2, n2, s2) Post → Ev Y_MM_does μ0 (mm_to (mm_co Y_MM_does) 95) [(0, vr 11 6), (1, vi t1), (2, vi top), (3, vi at1), (4, vi (nI op))] [vi (nI 62), vi (nI op)] (Km, Im, Jm, Fm, Dm, Rm, nxm, slm) Post) := by
  have key : Ct Y_MV_steer [vr 2 53, vr 8 (32 + 7 * t), vi (nI op), vi a, vi b, vi c] (K, I, J, F, D, R, nx, sl) (fun r μ1 => Ct Y_MM_ways [vr 11 6, vi (nI op)] (Km, Im, Jm, Fm, Dm, Rm, nxm, slm) (fun r2 μ2 => r2 = none ∧ QG ci cn co t d r μ1 μ2)) := by
    rcases (by omega : op = 58 ∨ op = 59 ∨ op = 60 ∨ op = 61 ∨ op = 65) with rfl | rfl | rfl | rfl | rfl
    · rcases hok with rfl | ⟨b1, hb1, hb2, rfl⟩
      · exact A58n hC hM ht hd hd8 hpl hp4 x1 x2 x3 x4 x5 x6
      · exact A58 hC hM ht hd hd8 hpl hp4 ⟨hb1, hb2⟩ x1 x2 x3 x4 x5 x6
    · obtain ⟨a1, ha, rfl⟩ := hok
      exact A59 hC hM ht hd hd8 hpl hp4 ha x1 x2 x3 x4 x5 x6
    · obtain ⟨⟨a1, ha, rfl⟩, ⟨b1, hb, rfl⟩, ⟨c1, hc, rfl⟩⟩ := hok
      rcases (by omega : c1 = 0 ∨ c1 = 1 ∨ c1 = 2 ∨ c1 = 3) with rfl | rfl | rfl | rfl
      · exact A60_0 hC hM ht hd hd8 hpl hp4 ha hb x1 x2 x3 x4 x5 x6
      · exact A60_1 hC hM ht hd hd8 hpl hp4 ha hb x1 x2 x3 x4 x5 x6
      · exact A60_2 hC hM ht hd hd8 hpl hp4 ha hb x1 x2 x3 x4 x5 x6
      · exact A60_3 hC hM ht hd hd8 hpl hp4 ha hb x1 x2 x3 x4 x5 x6
    · obtain ⟨⟨a1, ha, rfl⟩, ⟨b1, hb, rfl⟩⟩ := hok
      exact A61 hC hM ht hd hd8 hpl hp4 ha hb x1 x2 x3 x4 x5 x6
    · obtain ⟨b1, hb, rfl⟩ := hok
      exact A65 hC hM ht hd hd8 hpl hp4 hb x1 x2 x3 x4 x5 x6
  obtain ⟨r, ⟨K1, I1, J1, F1, D1, R1, n1, s1⟩, ⟨r2, ⟨K2, I2, J2, F2, D2, R2, n2, s2⟩, ⟨rfl, xj2, xd2, xf2, xo2, xi2, xn2, bd, gv, rfl, h43, h44, hgv, hC2, hM2⟩, d2⟩, d1⟩ := key
  exact ⟨bd, gv, xj2, xd2, xf2, xo2, xi2, xn2, K1, I1, J1, F1, D1, R1, n1, s1, K2, I2, J2, F2, D2, R2, n2, s2, h43, h44, hgv, hC2, hM2, fun μ0 Post pl p0 k => ST_MV (by omega) d1 k, fun μ0 Post t1 top at1 k => DO_ways hop d2 k⟩
theorem PL64 {ci : Nat → Nat → Nat → Int32} {cn : Nat → Nat → Nat → Nat} {co : Nat → Option Nat} {xj : Nat → Nat → Nat → Int64} {xd : Nat → Nat → Nat → UInt64} {xf : Nat → Nat → Nat → UInt32} {xo : Nat → Nat → Nat → Option Nat} {xi : Nat → Nat → Nat → Int32} {xn : Nat → Nat → Nat → Nat} {K : Nat → Nat} {I : Nat → Nat → Int32} {J : Nat → Nat → Int64} {F : Nat → Nat → UInt32} {D : Nat → Nat → UInt64} {R : Nat → Nat → Option Nat} {nx sl : Nat} {Km : Nat → Nat} {Im : Nat → Nat → Int32} {Jm : Nat → Nat → Int64} {Fm : Nat → Nat → UInt32} {Dm : Nat → Nat → UInt64} {Rm : Nat → Nat → Option Nat} {nxm slm : Nat} (hC : RC ci cn co xj xd xf xo xi xn I J F D R nx sl) (hM : RM ci cn co xj xd xf xo xi xn Im Jm Dm) {t d pl0 op : Nat} {a b c : Int32} (ht : t < 3) (hd : cn 0 t 0 = d + 1) (hd8 : d < 8) (hpl : cn 2 t d = pl0) (hp4 : pl0 < 40) (hok : OKA op a b c) (hop : op = 64) (x1 : Im 6 39 = nI t) (x2 : Im 6 40 = a) (x3 : Im 6 41 = b) (x4 : Im 6 42 = c) (x5 : Im 6 43 = nI 0) (x6 : Im 6 44 = nI (pl0 + 1)) : (∃ (bd : Int32) (gv : Nat) (xj2 : Nat → Nat → Nat → Int64) (xd2 : Nat → Nat → Nat → UInt64) (xf2 : Nat → Nat → Nat → UInt32) (xo2 : Nat → Nat → Nat → Option Nat) (xi2 : Nat → Nat → Nat → Int32) (xn2 : Nat → Nat → Nat → Nat) (K1 : Nat → Nat) (I1 : Nat → Nat → Int32) (J1 : Nat → Nat → Int64) (F1 : Nat → Nat → UInt32) (D1 : Nat → Nat → UInt64) (R1 : Nat → Nat → Option Nat) (n1 s1 : Nat) (K2 : Nat → Nat) (I2 : Nat → Nat → Int32) (J2 : Nat → Nat → Int64) (F2 : Nat → Nat → UInt32) (D2 : Nat → Nat → UInt64) (R2 : Nat → Nat → Option Nat) (n2 s2 : Nat), I2 6 43 = bd ∧ I2 6 44 = nI gv ∧ gv ≤ 40 ∧ ((bd = nI 0 ∧ RC ci (u3 cn 2 t d gv) co xj2 xd2 xf2 xo2 xi2 xn2 I1 J1 F1 D1 R1 n1 s1) ∨ ((∃ nf, 0 < nf ∧ nf < 100 ∧ bd = nI nf) ∧ RC ci cn co xj2 xd2 xf2 xo2 xi2 xn2 I1 J1 F1 D1 R1 n1 s1)) ∧ RM ci cn co xj2 xd2 xf2 xo2 xi2 xn2 I2 J2 D2 ∧ (∀ (μ0 : mm_M) (Post : Option mm_V → mm_M → Prop) (pl : Int32) (p0 : Nat), Ev Y_MV_step μ0 (mm_to (mm_co Y_MV_step) 181) [(0, vr 2 53), (1, vr 8 (32 + 7 * t)), (2, vr 5 p0), (3, vi pl), (4, vi (nI op)), (5, vi a), (6, vi b), (7, vi c), (8, vi bd)] [vi (-(nI 1)), vi bd] (K1, I1, J1, F1, D1, R1, n1, s1) Post → Ev Y_MV_step μ0 (mm_to (mm_co Y_MV_step) 52) [(0, vr 2 53), (1, vr 8 (32 + 7 * t)), (2, vr 5 p0), (3, vi pl), (4, vi (nI op)), (5, vi a), (6, vi b), (7, vi c)] [vi (nI 58), vi (nI op)] (K, I, J, F, D, R, nx, sl) Post) ∧ (∀ (μ0 : mm_M) (Post : Option mm_V → mm_M → Prop) (t1 top at1 : Int32), Ev Y_MM_does μ0 (mm_to (mm_co Y_MM_does) 298) [(0, vr 11 6), (1, vi t1), (2, vi top), (3, vi at1), (4, vi (nI op))] [vi (I2 6 43), vi top, vr 41 37] (K2, I2, J2, F2, D2, R2, n2, s2) Post → Ev Y_MM_does μ0 (mm_to (mm_co Y_MM_does) 95) [(0, vr 11 6), (1, vi t1), (2, vi top), (3, vi at1), (4, vi (nI op))] [vi (nI 62), vi (nI op)] (Km, Im, Jm, Fm, Dm, Rm, nxm, slm) Post)) ∨ (∃ (q : Nat) (xj2 : Nat → Nat → Nat → Int64) (xd2 : Nat → Nat → Nat → UInt64) (xf2 : Nat → Nat → Nat → UInt32) (xo2 : Nat → Nat → Nat → Option Nat) (xi2 : Nat → Nat → Nat → Int32) (xn2 : Nat → Nat → Nat → Nat) (K1 : Nat → Nat) (I1 : Nat → Nat → Int32) (J1 : Nat → Nat → Int64) (F1 : Nat → Nat → UInt32) (D1 : Nat → Nat → UInt64) (R1 : Nat → Nat → Option Nat) (n1 s1 : Nat) (K2 : Nat → Nat) (I2 : Nat → Nat → Int32) (J2 : Nat → Nat → Int64) (F2 : Nat → Nat → UInt32) (D2 : Nat → Nat → UInt64) (R2 : Nat → Nat → Option Nat) (n2 s2 : Nat), q < xn2 2 0 0 ∧ RC ci cn (u1 co t (some q)) xj2 xd2 xf2 xo2 xi2 xn2 I1 J1 F1 D1 R1 n1 s1 ∧ RM ci cn (u1 co t (some q)) xj2 xd2 xf2 xo2 xi2 xn2 I2 J2 D2 ∧ (∀ (μ0 : mm_M) (Post : Option mm_V → mm_M → Prop) (pl : Int32) (p0 : Nat), Ev Y_MV_step μ0 (mm_to (mm_co Y_MV_step) 181) [(0, vr 2 53), (1, vr 8 (32 + 7 * t)), (2, vr 5 p0), (3, vi pl), (4, vi (nI op)), (5, vi a), (6, vi b), (7, vi c), (8, vi (-(nI 1)))] [vi (-(nI 1)), vi (-(nI 1))] (K1, I1, J1, F1, D1, R1, n1, s1) Post → Ev Y_MV_step μ0 (mm_to (mm_co Y_MV_step) 52) [(0, vr 2 53), (1, vr 8 (32 + 7 * t)), (2, vr 5 p0), (3, vi pl), (4, vi (nI op)), (5, vi a), (6, vi b), (7, vi c)] [vi (nI 58), vi (nI op)] (K, I, J, F, D, R, nx, sl) Post) ∧ (∀ (μ0 : mm_M) (Post : Option mm_V → mm_M → Prop) (t1 top at1 : Int32), Post (some (vi (nI 0))) (K2, I2, J2, F2, D2, R2, n2, s2) → Ev Y_MM_does μ0 (mm_to (mm_co Y_MM_does) 95) [(0, vr 11 6), (1, vi t1), (2, vi top), (3, vi at1), (4, vi (nI op))] [vi (nI 62), vi (nI op)] (Km, Im, Jm, Fm, Dm, Rm, nxm, slm) Post)) := by
  subst hop
  obtain ⟨b1, hb, rfl⟩ := hok
  obtain ⟨r, ⟨K1, I1, J1, F1, D1, R1, n1, s1⟩, ⟨r2, ⟨K2, I2, J2, F2, D2, R2, n2, s2⟩, hq, d2⟩, d1⟩ := A64 (a := a) (c := c) hC hM ht hd hd8 hpl hp4 hb x1 x2 x3 x4 x5 x6
  rcases hq with ⟨rfl, xj2, xd2, xf2, xo2, xi2, xn2, bd, gv, rfl, h43, h44, hgv, hC2, hM2⟩ | ⟨rfl, xj2, xd2, xf2, xo2, xi2, xn2, q, hq, rfl, hC2, hM2⟩
  · exact Or.inl ⟨bd, gv, xj2, xd2, xf2, xo2, xi2, xn2, K1, I1, J1, F1, D1, R1, n1, s1, K2, I2, J2, F2, D2, R2, n2, s2, h43, h44, hgv, hC2, hM2, fun μ0 Post pl p0 k => ST_MV (by omega) d1 k, fun μ0 Post t1 top at1 k => DO_locks1 d2 k⟩
  · exact Or.inr ⟨q, xj2, xd2, xf2, xo2, xi2, xn2, K1, I1, J1, F1, D1, R1, n1, s1, K2, I2, J2, F2, D2, R2, n2, s2, hq, hC2, hM2, fun μ0 Post pl p0 k => ST_MV (by omega) d1 k, fun μ0 Post t1 top at1 k => DO_locks0 d2 k⟩
theorem PC62 {ci : Nat → Nat → Nat → Int32} {cn : Nat → Nat → Nat → Nat} {co : Nat → Option Nat} {xj : Nat → Nat → Nat → Int64} {xd : Nat → Nat → Nat → UInt64} {xf : Nat → Nat → Nat → UInt32} {xo : Nat → Nat → Nat → Option Nat} {xi : Nat → Nat → Nat → Int32} {xn : Nat → Nat → Nat → Nat} {K : Nat → Nat} {I : Nat → Nat → Int32} {J : Nat → Nat → Int64} {F : Nat → Nat → UInt32} {D : Nat → Nat → UInt64} {R : Nat → Nat → Option Nat} {nx sl : Nat} {Km : Nat → Nat} {Im : Nat → Nat → Int32} {Jm : Nat → Nat → Int64} {Fm : Nat → Nat → UInt32} {Dm : Nat → Nat → UInt64} {Rm : Nat → Nat → Option Nat} {nxm slm : Nat} (hC : RC ci cn co xj xd xf xo xi xn I J F D R nx sl) (hM : RM ci cn co xj xd xf xo xi xn Im Jm Dm) {t d op : Nat} {a b c : Int32} (ht : t < 3) (hI : IC ci cn) (hd : cn 0 t 0 = d + 1) (hok : OKA op a b c) (hop : op = 62) (hp4 : cn 2 t d < 40) (isr : ∀ i, i < xn 2 0 0 → xn 1 i 0 ≤ 12) (io : ∀ i, i < xn 2 0 0 → ∀ q, xo 4 i 0 = some q → q < 3) (yy : xn 2 0 0 ≤ 160) (x2 : Im 6 40 = a) (x5 : Im 6 43 = nI 0) : (∃ (cn2 : Nat → Nat → Nat → Nat) (K1 : Nat → Nat) (I1 : Nat → Nat → Int32) (J1 : Nat → Nat → Int64) (F1 : Nat → Nat → UInt32) (D1 : Nat → Nat → UInt64) (R1 : Nat → Nat → Option Nat) (n1 s1 : Nat), IC ci cn2 ∧ (∀ u, ¬ u = t → cn2 0 u 0 = cn 0 u 0) ∧ 0 < cn2 0 t 0 ∧ RC ci cn2 co xj xd xf xo xi xn I1 J1 F1 D1 R1 n1 s1 ∧ (∀ (μ0 : mm_M) (Post : Option mm_V → mm_M → Prop) (pl : Int32) (p0 : Nat), Ev Y_MV_step μ0 (mm_to (mm_co Y_MV_step) 181) [(0, vr 2 53), (1, vr 8 (32 + 7 * t)), (2, vr 5 p0), (3, vi pl), (4, vi (nI op)), (5, vi a), (6, vi b), (7, vi c), (8, vi (nI 0))] [vi (-(nI 1)), vi (nI 0)] (K1, I1, J1, F1, D1, R1, n1, s1) Post → Ev Y_MV_step μ0 (mm_to (mm_co Y_MV_step) 52) [(0, vr 2 53), (1, vr 8 (32 + 7 * t)), (2, vr 5 p0), (3, vi pl), (4, vi (nI op)), (5, vi a), (6, vi b), (7, vi c)] [vi (nI 58), vi (nI op)] (K, I, J, F, D, R, nx, sl) Post) ∧ (∀ (μ0 : mm_M) (Post : Option mm_V → mm_M → Prop) (at1 : Int32), (∀ μ2 : mm_M, μ2.2.1 6 43 = nI 0 ∧ RM ci cn2 co xj xd xf xo xi xn μ2.2.1 μ2.2.2.1 μ2.2.2.2.2.1 → Post (some (vi (nI 1))) μ2) → Ev Y_MM_does μ0 (mm_to (mm_co Y_MM_does) 95) [(0, vr 11 6), (1, vi (nI t)), (2, vi (nI (8 * t + d))), (3, vi at1), (4, vi (nI op))] [vi (nI 62), vi (nI op)] (Km, Im, Jm, Fm, Dm, Rm, nxm, slm) Post)) ∨ (∃ (K1 : Nat → Nat) (I1 : Nat → Nat → Int32) (J1 : Nat → Nat → Int64) (F1 : Nat → Nat → UInt32) (D1 : Nat → Nat → UInt64) (R1 : Nat → Nat → Option Nat) (n1 s1 : Nat), RC ci cn co xj xd xf xo xi xn I1 J1 F1 D1 R1 n1 s1 ∧ (∀ (μ0 : mm_M) (Post : Option mm_V → mm_M → Prop) (pl : Int32) (p0 : Nat), Ev Y_MV_step μ0 (mm_to (mm_co Y_MV_step) 181) [(0, vr 2 53), (1, vr 8 (32 + 7 * t)), (2, vr 5 p0), (3, vi pl), (4, vi (nI op)), (5, vi a), (6, vi b), (7, vi c), (8, vi (nI 9))] [vi (-(nI 1)), vi (nI 9)] (K1, I1, J1, F1, D1, R1, n1, s1) Post → Ev Y_MV_step μ0 (mm_to (mm_co Y_MV_step) 52) [(0, vr 2 53), (1, vr 8 (32 + 7 * t)), (2, vr 5 p0), (3, vi pl), (4, vi (nI op)), (5, vi a), (6, vi b), (7, vi c)] [vi (nI 58), vi (nI op)] (K, I, J, F, D, R, nx, sl) Post) ∧ (∀ (μ0 : mm_M) (Post : Option mm_V → mm_M → Prop) (at1 : Int32), (∀ μ2 : mm_M, μ2.2.1 6 43 = nI 9 ∧ RM ci cn co xj xd xf xo xi xn μ2.2.1 μ2.2.2.1 μ2.2.2.2.2.1 → Post (some (vi (nI 1))) μ2) → Ev Y_MM_does μ0 (mm_to (mm_co Y_MM_does) 95) [(0, vr 11 6), (1, vi (nI t)), (2, vi (nI (8 * t + d))), (3, vi at1), (4, vi (nI op))] [vi (nI 62), vi (nI op)] (Km, Im, Jm, Fm, Dm, Rm, nxm, slm) Post)) := by
  subst hop
  obtain ⟨a1, ha, rfl⟩ := hok
  have i0 := hI.1 t ht
  by_cases h7 : d + 1 < 8
  · obtain ⟨r, ⟨K1, I1, J1, F1, D1, R1, n1, s1⟩, ⟨rfl, hC2⟩, d1⟩ := S62a (b := b) (c := c) ht hI hd ha h7 hC
    refine Or.inl ⟨_, K1, I1, J1, F1, D1, R1, n1, s1, IC_psh ht hI hd h7 ha hp4, fun u hu => by simp [u3, hu], by simp [u3], hC2, fun μ0 Post pl p0 k => ST_MV (by omega) d1 k, fun μ0 Post at1 k => D62a (a2 := 0) ht hI hd h7 hM x2 x5 k⟩
  · obtain rfl : d = 7 := by omega
    obtain ⟨r, ⟨K1, I1, J1, F1, D1, R1, n1, s1⟩, ⟨rfl, hC2⟩, d1⟩ := S62b (d := 0) (a := a1) (b := b) (c := c) ht hI hd ha hC
    exact Or.inr ⟨K1, I1, J1, F1, D1, R1, n1, s1, hC2, fun μ0 Post pl p0 k => ST_MV (by omega) d1 k, fun μ0 Post at1 k => D62b (d := 0) (a2 := 0) ht hI hd hM x2 x5 k⟩
theorem PC63 {ci : Nat → Nat → Nat → Int32} {cn : Nat → Nat → Nat → Nat} {co : Nat → Option Nat} {xj : Nat → Nat → Nat → Int64} {xd : Nat → Nat → Nat → UInt64} {xf : Nat → Nat → Nat → UInt32} {xo : Nat → Nat → Nat → Option Nat} {xi : Nat → Nat → Nat → Int32} {xn : Nat → Nat → Nat → Nat} {K : Nat → Nat} {I : Nat → Nat → Int32} {J : Nat → Nat → Int64} {F : Nat → Nat → UInt32} {D : Nat → Nat → UInt64} {R : Nat → Nat → Option Nat} {nx sl : Nat} {Km : Nat → Nat} {Im : Nat → Nat → Int32} {Jm : Nat → Nat → Int64} {Fm : Nat → Nat → UInt32} {Dm : Nat → Nat → UInt64} {Rm : Nat → Nat → Option Nat} {nxm slm : Nat} (hC : RC ci cn co xj xd xf xo xi xn I J F D R nx sl) (hM : RM ci cn co xj xd xf xo xi xn Im Jm Dm) {t d op : Nat} {a b c : Int32} (ht : t < 3) (hI : IC ci cn) (hd : cn 0 t 0 = d + 1) (hok : OKA op a b c) (hop : op = 63) (isr : ∀ i, i < xn 2 0 0 → xn 1 i 0 ≤ 12) (io : ∀ i, i < xn 2 0 0 → ∀ q, xo 4 i 0 = some q → q < 3) (yy : xn 2 0 0 ≤ 160) (x2 : Im 6 40 = a) (x5 : Im 6 43 = nI 0) : ∃ (K1 : Nat → Nat) (I1 : Nat → Nat → Int32) (J1 : Nat → Nat → Int64) (F1 : Nat → Nat → UInt32) (D1 : Nat → Nat → UInt64) (R1 : Nat → Nat → Option Nat) (n1 s1 : Nat), RC ci (lv cn t d) co xj xd xf xo xi xn I1 J1 F1 D1 R1 n1 s1 ∧ (∀ (μ0 : mm_M) (Post : Option mm_V → mm_M → Prop) (pl : Int32) (p0 : Nat), Ev Y_MV_step μ0 (mm_to (mm_co Y_MV_step) 181) [(0, vr 2 53), (1, vr 8 (32 + 7 * t)), (2, vr 5 p0), (3, vi pl), (4, vi (nI op)), (5, vi a), (6, vi b), (7, vi c), (8, vi (nI 0))] [vi (-(nI 1)), vi (nI 0)] (K1, I1, J1, F1, D1, R1, n1, s1) Post → Ev Y_MV_step μ0 (mm_to (mm_co Y_MV_step) 52) [(0, vr 2 53), (1, vr 8 (32 + 7 * t)), (2, vr 5 p0), (3, vi pl), (4, vi (nI op)), (5, vi a), (6, vi b), (7, vi c)] [vi (nI 58), vi (nI op)] (K, I, J, F, D, R, nx, sl) Post) ∧ ((0 < d ∧ (∀ (μ0 : mm_M) (Post : Option mm_V → mm_M → Prop) (at1 : Int32), (∀ μ2 : mm_M, μ2.2.1 6 43 = nI 0 ∧ RM ci (lv cn t d) co xj xd xf xo xi xn μ2.2.1 μ2.2.2.1 μ2.2.2.2.2.1 → Post (some (vi (nI 1))) μ2) → Ev Y_MM_does μ0 (mm_to (mm_co Y_MM_does) 95) [(0, vr 11 6), (1, vi (nI t)), (2, vi (nI (8 * t + d))), (3, vi at1), (4, vi (nI op))] [vi (nI 62), vi (nI op)] (Km, Im, Jm, Fm, Dm, Rm, nxm, slm) Post)) ∨ (d = 0 ∧ (∀ (μ0 : mm_M) (Post : Option mm_V → mm_M → Prop) (at1 : Int32), (∀ μ2 : mm_M, μ2.2.1 6 43 = nI 0 ∧ RM ci (lv cn t d) (u1 co t none) xj xd xf (rlo xo t (xn 2 0 0)) (rli xo xi t (xn 2 0 0)) xn μ2.2.1 μ2.2.2.1 μ2.2.2.2.2.1 → Post (some (vi (nI 1))) μ2) → Ev Y_MM_does μ0 (mm_to (mm_co Y_MM_does) 95) [(0, vr 11 6), (1, vi (nI t)), (2, vi (nI (8 * t + d))), (3, vi at1), (4, vi (nI op))] [vi (nI 62), vi (nI op)] (Km, Im, Jm, Fm, Dm, Rm, nxm, slm) Post))) := by
  subst hop
  have i0 := hI.1 t ht
  cases d with
  | zero =>
    obtain ⟨r, ⟨K1, I1, J1, F1, D1, R1, n1, s1⟩, ⟨rfl, hC2⟩, d1⟩ := S63z (d := 0) (a := a) (b := b) (c := c) ht hI hd hC
    exact ⟨K1, I1, J1, F1, D1, R1, n1, s1, hC2, fun μ0 Post pl p0 k => ST_MV (by omega) d1 k, Or.inr ⟨rfl, fun μ0 Post at1 k => D63z (d := 0) (a := 0) ht hI hd isr io yy hM x2 x5 k⟩⟩
  | succ d =>
    obtain ⟨r, ⟨K1, I1, J1, F1, D1, R1, n1, s1⟩, ⟨rfl, hC2⟩, d1⟩ := S63s (a := a) (b := b) (c := c) ht hI hd hC
    exact ⟨K1, I1, J1, F1, D1, R1, n1, s1, hC2, fun μ0 Post pl p0 k => ST_MV (by omega) d1 k, Or.inl ⟨by omega, fun μ0 Post at1 k => D63s (a := 0) ht hI hd hM x2 x5 k⟩⟩
def SR (ci : Nat → Nat → Nat → Int32) (cn : Nat → Nat → Nat → Nat) (co : Nat → Option Nat) (t d fn : Nat) (μ μm : mm_M) : Prop :=
  (∃ (q : Nat) (xj2 : Nat → Nat → Nat → Int64) (xd2 : Nat → Nat → Nat → UInt64) (xf2 : Nat → Nat → Nat → UInt32) (xo2 : Nat → Nat → Nat → Option Nat) (xi2 : Nat → Nat → Nat → Int32) (xn2 : Nat → Nat → Nat → Nat) (μ1 μ2 : mm_M), q < xn2 2 0 0 ∧ mm_Det Y_MV_step [vr 2 53, vr 8 (32 + 7 * t)] μ (some (vi (nI 2))) μ1 ∧ mm_Det Y_MM_does [vr 11 6, vi (nI t)] μm (some (vi (nI 0))) μ2 ∧ RC ci cn (u1 co t (some q)) xj2 xd2 xf2 xo2 xi2 xn2 μ1.2.1 μ1.2.2.1 μ1.2.2.2.1 μ1.2.2.2.2.1 μ1.2.2.2.2.2.1 μ1.2.2.2.2.2.2.1 μ1.2.2.2.2.2.2.2 ∧ RM ci cn (u1 co t (some q)) xj2 xd2 xf2 xo2 xi2 xn2 μ2.2.1 μ2.2.2.1 μ2.2.2.2.2.1) ∨
  (∃ (cn2 : Nat → Nat → Nat → Nat) (rv : Nat) (xj2 : Nat → Nat → Nat → Int64) (xd2 : Nat → Nat → Nat → UInt64) (xf2 : Nat → Nat → Nat → UInt32) (xo2 : Nat → Nat → Nat → Option Nat) (xi2 : Nat → Nat → Nat → Int32) (xn2 : Nat → Nat → Nat → Nat) (μ1 μ2 : mm_M), IC ci cn2 ∧ (∀ u, ¬ u = t → cn2 0 u 0 = cn 0 u 0) ∧ μ2.2.1 6 43 = nI 0 ∧ mm_Det Y_MV_step [vr 2 53, vr 8 (32 + 7 * t)] μ (some (vi (nI rv))) μ1 ∧ mm_Det Y_MM_does [vr 11 6, vi (nI t)] μm (some (vi (nI 1))) μ2 ∧ ((pp t (cn2 0 t 0) cn2 0 t 0 = 0 ∧ rv = 0) ∨ (0 < pp t (cn2 0 t 0) cn2 0 t 0 ∧ rv = 1)) ∧ RC (u3 ci 0 t 0 (ci 0 t 0 + nI 1)) (pp t (cn2 0 t 0) cn2) co xj2 xd2 xf2 xo2 xi2 xn2 μ1.2.1 μ1.2.2.1 μ1.2.2.2.1 μ1.2.2.2.2.1 μ1.2.2.2.2.2.1 μ1.2.2.2.2.2.2.1 μ1.2.2.2.2.2.2.2 ∧ ((0 < cn2 0 t 0 ∧ RM ci cn2 co xj2 xd2 xf2 xo2 xi2 xn2 μ2.2.1 μ2.2.2.1 μ2.2.2.2.2.1) ∨ (cn2 0 t 0 = 0 ∧ RM ci cn2 (u1 co t none) xj2 xd2 xf2 (rlo xo2 t (xn2 2 0 0)) (rli xo2 xi2 t (xn2 2 0 0)) xn2 μ2.2.1 μ2.2.2.1 μ2.2.2.2.2.1))) ∨
  (∃ (bd : Int32) (xj2 : Nat → Nat → Nat → Int64) (xd2 : Nat → Nat → Nat → UInt64) (xf2 : Nat → Nat → Nat → UInt32) (xo2 : Nat → Nat → Nat → Option Nat) (xi2 : Nat → Nat → Nat → Int32) (xn2 : Nat → Nat → Nat → Nat) (μ1 μ2 : mm_M) (r : Option mm_V), (∃ nf, 0 < nf ∧ nf < 100 ∧ bd = nI nf) ∧ μ2.2.1 6 43 = bd ∧ mm_Det Y_MM_does [vr 11 6, vi (nI t)] μm (some (vi (nI 1))) μ2 ∧ RM ci cn co xj2 xd2 xf2 xo2 xi2 xn2 μ2.2.1 μ2.2.2.1 μ2.2.2.2.2.1 ∧ mm_Det Y_MV_step [vr 2 53, vr 8 (32 + 7 * t)] μ r μ1 ∧ ((fn = 20 ∧ r = some (vi (-(nI 21))) ∧ RC (u3 (u3 (u3 (u3 (u3 (u3 ci 1 t 0 (ci 1 t 0 + nI 1)) 5 t 0 (ci 5 t 0 + nI 1)) 2 t 0 bd) 3 t 0 (nI (cn 1 t d))) 4 t 0 (nI (cn 2 t d))) 2 t 0 (nI 11)) (u3 cn 0 t 0 0) co xj2 xd2 xf2 xo2 xi2 xn2 μ1.2.1 μ1.2.2.1 μ1.2.2.2.1 μ1.2.2.2.2.1 μ1.2.2.2.2.2.1 μ1.2.2.2.2.2.2.1 μ1.2.2.2.2.2.2.2) ∨ (fn < 20 ∧ QF (u3 (u3 (u3 (u3 (u3 ci 1 t 0 (ci 1 t 0 + nI 1)) 5 t 0 (ci 5 t 0 + nI 1)) 2 t 0 bd) 3 t 0 (nI (cn 1 t d))) 4 t 0 (nI (cn 2 t d))) cn co xj2 xd2 xf2 xo2 xi2 xn2 t bd (d + 1) r μ1)))
set_option maxHeartbeats 4000000 in
theorem STEP (hR : RR) {ci : Nat → Nat → Nat → Int32} {cn0 cn : Nat → Nat → Nat → Nat} {co : Nat → Option Nat} {xj : Nat → Nat → Nat → Int64} {xd : Nat → Nat → Nat → UInt64} {xf : Nat → Nat → Nat → UInt32} {xo : Nat → Nat → Nat → Option Nat} {xi : Nat → Nat → Nat → Int32} {xn : Nat → Nat → Nat → Nat} {K : Nat → Nat} {I : Nat → Nat → Int32} {J : Nat → Nat → Int64} {F : Nat → Nat → UInt32} {D : Nat → Nat → UInt64} {R : Nat → Nat → Option Nat} {nx sl : Nat} {Km : Nat → Nat} {Im : Nat → Nat → Int32} {Jm : Nat → Nat → Int64} {Fm : Nat → Nat → UInt32} {Dm : Nat → Nat → UInt64} {Rm : Nat → Nat → Option Nat} {nxm slm : Nat} (hC : RC ci cn0 co xj xd xf xo xi xn I J F D R nx sl) (hM : RM ci cn co xj xd xf xo xi xn Im Jm Dm) (hI0 : IC ci cn0) {t d n0 fn : Nat} (ht : t < 3) (hn0 : cn0 0 t 0 = n0) (hcn : pp t n0 cn0 = cn) (hd : cn 0 t 0 = d + 1) (hp : cn 2 t d < cn 3 (cn 1 t d) 0) (hf : ci 5 t 0 = nI fn) (hfn : fn ≤ 20) : SR ci cn co t d fn (K, I, J, F, D, R, nx, sl) (Km, Im, Jm, Fm, Dm, Rm, nxm, slm) := by
  have hI := IC_pp ht n0 hI0 hn0
  rw [hcn] at hI
  obtain ⟨r0, ⟨Ka, Ia, Ja, Fa, Da, Ra, na, sa⟩, hq, dgo⟩ := C_goingOn (K := K) ht hC hI0 hn0
  obtain ⟨hC1, d1, hz1, -, hr0⟩ := QGO_s (by rw [hcn]; omega) hq
  rw [hcn] at hC1 hz1 hr0
  obtain rfl : d1 = d := by omega
  subst hr0
  have i0 := hI.1 t ht
  have i1 := hI.2.1 t ht d1 (by omega)
  have i2 := hI.2.2.1 (cn 1 t d1) i1.1
  have hok := hI.2.2.2.1 (cn 1 t d1) i1.1 (cn 2 t d1) hp
  have isr : ∀ i, i < xn 2 0 0 → xn 1 i 0 ≤ 12 := fun i hi => (rc_isor hC1 hi).2.2.1
  have io : ∀ i, i < xn 2 0 0 → ∀ q, xo 4 i 0 = some q → q < 3 := fun i hi => rc_iown hC1 hi
  have yy : xn 2 0 0 ≤ 160 := by have := rc_imad hC1; omega
  have hMs : RM ci cn co xj xd xf xo xi xn (mm_up (mm_up (mm_up (mm_up (mm_up (mm_up Im 6 39 (nI t)) 6 40 (ci 6 (cn 1 t d1) (cn 2 t d1))) 6 41 (ci 7 (cn 1 t d1) (cn 2 t d1))) 6 42 (ci 8 (cn 1 t d1) (cn 2 t d1))) 6 43 (nI 0)) 6 44 (nI (cn 2 t d1 + 1))) Jm Dm := MU_scr (MU_scr (MU_scr (MU_scr (MU_scr (MU_scr hM (by decide)) (by decide)) (by decide)) (by decide)) (by decide)) (by decide)
  have cS : ∀ (Post : Option mm_V → mm_M → Prop), Ev Y_MV_step (K, I, J, F, D, R, nx, sl) (mm_to (mm_co Y_MV_step) 52) [(0, vr 2 53), (1, vr 8 (32 + 7 * t)), (2, vr 5 (14 + 3 * (cn 1 t d1))), (3, vi (nI (cn 2 t d1))), (4, vi (nI (cn 5 (cn 1 t d1) (cn 2 t d1)))), (5, vi (ci 6 (cn 1 t d1) (cn 2 t d1))), (6, vi (ci 7 (cn 1 t d1) (cn 2 t d1))), (7, vi (ci 8 (cn 1 t d1) (cn 2 t d1)))] [vi (nI 58), vi (nI (cn 5 (cn 1 t d1) (cn 2 t d1)))] (Ka, Ia, Ja, Fa, Da, Ra, na, sa) Post → Ct Y_MV_step [vr 2 53, vr 8 (32 + 7 * t)] (K, I, J, F, D, R, nx, sl) Post := by
    intro Post k
    refine ct_of h_MV_step rfl rfl rfl ?_
    refine ev_go [] [] rfl trivial ?_
    refine ev_kS 1 k_MV_27 rfl dgo ⟨by decide, by decide⟩ rfl ?_
    exact SB1 ht hI hd hp hC1 k
  have mS : ∀ (Post : Option mm_V → mm_M → Prop), Ev Y_MM_does (Km, Im, Jm, Fm, Dm, Rm, nxm, slm) (mm_to (mm_co Y_MM_does) 95) [(0, vr 11 6), (1, vi (nI t)), (2, vi (nI (8 * t + d1))), (3, vi (nI (40 * cn 1 t d1 + cn 2 t d1))), (4, vi (nI (cn 5 (cn 1 t d1) (cn 2 t d1))))] [vi (nI 62), vi (nI (cn 5 (cn 1 t d1) (cn 2 t d1)))] (Km, (mm_up (mm_up (mm_up (mm_up (mm_up (mm_up Im 6 39 (nI t)) 6 40 (ci 6 (cn 1 t d1) (cn 2 t d1))) 6 41 (ci 7 (cn 1 t d1) (cn 2 t d1))) 6 42 (ci 8 (cn 1 t d1) (cn 2 t d1))) 6 43 (nI 0)) 6 44 (nI (cn 2 t d1 + 1))), Jm, Fm, Dm, Rm, nxm, slm) Post → Ct Y_MM_does [vr 11 6, vi (nI t)] (Km, Im, Jm, Fm, Dm, Rm, nxm, slm) Post := fun Post k => DB ht hI hd hp hM k
  by_cases h58 : (cn 5 (cn 1 t d1) (cn 2 t d1)) < 58
  · obtain ⟨bd, xj2, xd2, xf2, xo2, xi2, xn2, K1, I1, J1, F1, D1, R1, n1, s1, K2, I2, J2, F2, D2, R2, n2, s2, hb, h43, h44, hC2, hM2, cE, mE⟩ := PF hR hC1 hMs ht hok h58 rfl rfl rfl rfl rfl rfl
    rcases hb with hb | ⟨nf, hn1, hn2, hb⟩
    · subst hb
      have hI2 : IC (u3 ci 0 t 0 (ci 0 t 0 + nI 1)) (u3 cn 2 t d1 (cn 2 t d1 + 1)) := IC_ci (IC_pla ht hI hd (by omega)) (fun p k => ⟨rfl, rfl, rfl⟩)
      obtain ⟨r2, μ2, ⟨rfl, h43e, hMe⟩, dd⟩ := mS (fun r μ => r = some (vi (nI 1)) ∧ μ.2.1 6 43 = nI 0 ∧ RM ci (u3 cn 2 t d1 (cn 2 t d1 + 1)) co xj2 xd2 xf2 xo2 xi2 xn2 μ.2.1 μ.2.2.1 μ.2.2.2.2.1) (mE _ _ _ _ _ (by rw [h43]; exact DE0 (gv := cn 2 t d1 + 1) ht hI hd (by omega) hM2 h44 (fun I3 hj h => ⟨rfl, (hj 43).trans h43, h⟩)))
      by_cases hz : pp t (d1 + 1) (u3 cn 2 t d1 (cn 2 t d1 + 1)) 0 t 0 = 0
      · obtain ⟨r1, μ1, ⟨rfl, hCe⟩, dc⟩ := cS (fun r μ1 => r = some (vi (nI 0)) ∧ RC (u3 ci 0 t 0 (ci 0 t 0 + nI 1)) (pp t (d1 + 1) (u3 cn 2 t d1 (cn 2 t d1 + 1))) co xj2 xd2 xf2 xo2 xi2 xn2 μ1.2.1 μ1.2.2.1 μ1.2.2.2.1 μ1.2.2.2.2.1 μ1.2.2.2.2.2.1 μ1.2.2.2.2.2.2.1 μ1.2.2.2.2.2.2.2) (cE _ _ _ _ (SE_z0 ht h58 hd (by omega) (by omega) hI2 hd hz hC2 (fun μ1 h => ⟨rfl, h⟩)))
        exact Or.inr (Or.inl ⟨(u3 cn 2 t d1 (cn 2 t d1 + 1)), 0, xj2, xd2, xf2, xo2, xi2, xn2, μ1, μ2, IC_pla ht hI hd (by omega), fun u hu => rfl, h43e, dc, dd, Or.inl ⟨by rw [show (u3 cn 2 t d1 (cn 2 t d1 + 1)) 0 t 0 = d1 + 1 from hd]; exact hz, rfl⟩, by rw [show (u3 cn 2 t d1 (cn 2 t d1 + 1)) 0 t 0 = d1 + 1 from hd]; exact hCe, Or.inl ⟨by rw [show (u3 cn 2 t d1 (cn 2 t d1 + 1)) 0 t 0 = d1 + 1 from hd]; omega, hMe⟩⟩)
      · obtain ⟨r1, μ1, ⟨rfl, hCe⟩, dc⟩ := cS (fun r μ1 => r = some (vi (nI 1)) ∧ RC (u3 ci 0 t 0 (ci 0 t 0 + nI 1)) (pp t (d1 + 1) (u3 cn 2 t d1 (cn 2 t d1 + 1))) co xj2 xd2 xf2 xo2 xi2 xn2 μ1.2.1 μ1.2.2.1 μ1.2.2.2.1 μ1.2.2.2.2.1 μ1.2.2.2.2.2.1 μ1.2.2.2.2.2.2.1 μ1.2.2.2.2.2.2.2) (cE _ _ _ _ (SE_s0 ht h58 hd (by omega) (by omega) hI2 hd hz hC2 (fun μ1 h => ⟨rfl, h⟩)))
        exact Or.inr (Or.inl ⟨(u3 cn 2 t d1 (cn 2 t d1 + 1)), 1, xj2, xd2, xf2, xo2, xi2, xn2, μ1, μ2, IC_pla ht hI hd (by omega), fun u hu => rfl, h43e, dc, dd, Or.inr ⟨by rw [show (u3 cn 2 t d1 (cn 2 t d1 + 1)) 0 t 0 = d1 + 1 from hd]; omega, rfl⟩, by rw [show (u3 cn 2 t d1 (cn 2 t d1 + 1)) 0 t 0 = d1 + 1 from hd]; exact hCe, Or.inl ⟨by rw [show (u3 cn 2 t d1 (cn 2 t d1 + 1)) 0 t 0 = d1 + 1 from hd]; omega, hMe⟩⟩)
    · have hb0 : ¬ bd = 0 := by rw [hb, i_eq0 (by omega)]; omega
      have hb1 : ¬ bd = -(nI 1) := by rw [hb]; exact fl_ne (by omega)
      obtain ⟨r2, μ2, ⟨rfl, h43e, hMe⟩, dd⟩ := mS (fun r μ => r = some (vi (nI 1)) ∧ μ.2.1 6 43 = bd ∧ RM ci cn co xj2 xd2 xf2 xo2 xi2 xn2 μ.2.1 μ.2.2.1 μ.2.2.2.2.1) (mE _ _ _ _ _ (by rw [h43]; exact DE1 ht hI hd hb0 (by omega) hM2 h44 (fun I3 hj h => ⟨rfl, (hj 43).trans h43, h⟩)))
      by_cases h20 : fn = 20
      · obtain ⟨r1, μ1, ⟨rfl, hCe⟩, df⟩ := C_fail1 (f := bd) (p := cn 1 t d1) ht i1.1 hI hd hf hC2 (by omega)
        obtain ⟨r1, μ1e, ⟨rfl, rfl⟩, dc⟩ := cS (fun r μ => r = some (vi (-(nI 21))) ∧ μ = μ1) (cE _ _ _ _ (SE_f (r := none) hb1 hb0 df ⟨rfl, rfl⟩))
        exact Or.inr (Or.inr ⟨bd, xj2, xd2, xf2, xo2, xi2, xn2, μ1e, μ2, _, ⟨nf, hn1, hn2, hb⟩, h43e, dd, hMe, dc, Or.inl ⟨h20, rfl, hCe⟩⟩)
      · obtain ⟨r1, μ1, hQ, df⟩ := C_fail2 (f := bd) (p := cn 1 t d1) ht i1.1 hI hd hf hC2 (by omega)
        have hrv : ∃ rv, r1 = some (vi rv) := by
          rcases hQ with ⟨-, h, -⟩ | ⟨_, _, -, ⟨-, h⟩ | ⟨-, h⟩, -⟩
          · exact ⟨_, h⟩
          · exact ⟨_, h⟩
          · exact ⟨_, h⟩
        obtain ⟨rv, rfl⟩ := hrv
        obtain ⟨r1, μ1e, ⟨rfl, rfl⟩, dc⟩ := cS (fun r μ => r = some (vi rv) ∧ μ = μ1) (cE _ _ _ _ (SE_f (r := none) hb1 hb0 df ⟨rfl, rfl⟩))
        exact Or.inr (Or.inr ⟨bd, xj2, xd2, xf2, xo2, xi2, xn2, μ1e, μ2, _, ⟨nf, hn1, hn2, hb⟩, h43e, dd, hMe, dc, Or.inr ⟨by omega, hQ⟩⟩)
  · have h66 : (cn 5 (cn 1 t d1) (cn 2 t d1)) < 66 := by
      apply Nat.lt_of_not_le; intro hge
      obtain ⟨k9, hk9⟩ : ∃ k9, (cn 5 (cn 1 t d1) (cn 2 t d1)) = k9 + 66 := ⟨(cn 5 (cn 1 t d1) (cn 2 t d1)) - 66, by omega⟩
      rw [hk9] at hok
      exact hok.elim
    by_cases hg : (58 ≤ (cn 5 (cn 1 t d1) (cn 2 t d1)) ∧ (cn 5 (cn 1 t d1) (cn 2 t d1)) < 62) ∨ (cn 5 (cn 1 t d1) (cn 2 t d1)) = 65
    · obtain ⟨bd, gv, xj2, xd2, xf2, xo2, xi2, xn2, K1, I1, J1, F1, D1, R1, n1, s1, K2, I2, J2, F2, D2, R2, n2, s2, h43, h44, hgv, hCC, hM2, cE, mE⟩ := PG hC1 hMs ht hd (by omega) rfl (by omega) hok hg rfl rfl rfl rfl rfl rfl
      rcases hCC with ⟨hb, hC2⟩ | ⟨⟨nf, hn1, hn2, hb⟩, hC2⟩
      · subst hb
        have hI2 : IC (u3 ci 0 t 0 (ci 0 t 0 + nI 1)) (u3 cn 2 t d1 gv) := IC_ci (IC_pla ht hI hd hgv) (fun p k => ⟨rfl, rfl, rfl⟩)
        obtain ⟨r2, μ2, ⟨rfl, h43e, hMe⟩, dd⟩ := mS (fun r μ => r = some (vi (nI 1)) ∧ μ.2.1 6 43 = nI 0 ∧ RM ci (u3 cn 2 t d1 gv) co xj2 xd2 xf2 xo2 xi2 xn2 μ.2.1 μ.2.2.1 μ.2.2.2.2.1) (mE _ _ _ _ _ (by rw [h43]; exact DE0 (gv := gv) ht hI hd hgv hM2 h44 (fun I3 hj h => ⟨rfl, (hj 43).trans h43, h⟩)))
        by_cases hz : pp t ((u3 cn 2 t d1 gv) 0 t 0) (u3 cn 2 t d1 gv) 0 t 0 = 0
        · obtain ⟨r1, μ1, ⟨rfl, hCe⟩, dc⟩ := cS (fun r μ1 => r = some (vi (nI 0)) ∧ RC (u3 ci 0 t 0 (ci 0 t 0 + nI 1)) (pp t ((u3 cn 2 t d1 gv) 0 t 0) (u3 cn 2 t d1 gv)) co xj2 xd2 xf2 xo2 xi2 xn2 μ1.2.1 μ1.2.2.1 μ1.2.2.2.1 μ1.2.2.2.2.1 μ1.2.2.2.2.2.1 μ1.2.2.2.2.2.2.1 μ1.2.2.2.2.2.2.2) (cE _ _ _ _ (SE_z1 (d := 0) ht ⟨by omega, by omega⟩ (by omega) hI2 rfl hz hC2 (fun μ1 h => ⟨rfl, h⟩)))
          exact Or.inr (Or.inl ⟨(u3 cn 2 t d1 gv), 0, xj2, xd2, xf2, xo2, xi2, xn2, μ1, μ2, IC_pla ht hI hd hgv, fun u hu => rfl, h43e, dc, dd, Or.inl ⟨hz, rfl⟩, hCe, Or.inl ⟨by rw [show (u3 cn 2 t d1 gv) 0 t 0 = d1 + 1 from hd]; omega, hMe⟩⟩)
        · obtain ⟨r1, μ1, ⟨rfl, hCe⟩, dc⟩ := cS (fun r μ1 => r = some (vi (nI 1)) ∧ RC (u3 ci 0 t 0 (ci 0 t 0 + nI 1)) (pp t ((u3 cn 2 t d1 gv) 0 t 0) (u3 cn 2 t d1 gv)) co xj2 xd2 xf2 xo2 xi2 xn2 μ1.2.1 μ1.2.2.1 μ1.2.2.2.1 μ1.2.2.2.2.1 μ1.2.2.2.2.2.1 μ1.2.2.2.2.2.2.1 μ1.2.2.2.2.2.2.2) (cE _ _ _ _ (SE_s1 (d := 0) ht ⟨by omega, by omega⟩ (by omega) hI2 rfl hz hC2 (fun μ1 h => ⟨rfl, h⟩)))
          exact Or.inr (Or.inl ⟨(u3 cn 2 t d1 gv), 1, xj2, xd2, xf2, xo2, xi2, xn2, μ1, μ2, IC_pla ht hI hd hgv, fun u hu => rfl, h43e, dc, dd, Or.inr ⟨by omega, rfl⟩, hCe, Or.inl ⟨by rw [show (u3 cn 2 t d1 gv) 0 t 0 = d1 + 1 from hd]; omega, hMe⟩⟩)
      · have hb0 : ¬ bd = 0 := by rw [hb, i_eq0 (by omega)]; omega
        have hb1 : ¬ bd = -(nI 1) := by rw [hb]; exact fl_ne (by omega)
        obtain ⟨r2, μ2, ⟨rfl, h43e, hMe⟩, dd⟩ := mS (fun r μ => r = some (vi (nI 1)) ∧ μ.2.1 6 43 = bd ∧ RM ci cn co xj2 xd2 xf2 xo2 xi2 xn2 μ.2.1 μ.2.2.1 μ.2.2.2.2.1) (mE _ _ _ _ _ (by rw [h43]; exact DE1 ht hI hd hb0 (by omega) hM2 h44 (fun I3 hj h => ⟨rfl, (hj 43).trans h43, h⟩)))
        by_cases h20 : fn = 20
        · obtain ⟨r1, μ1, ⟨rfl, hCe⟩, df⟩ := C_fail1 (f := bd) (p := cn 1 t d1) ht i1.1 hI hd hf hC2 (by omega)
          obtain ⟨r1, μ1e, ⟨rfl, rfl⟩, dc⟩ := cS (fun r μ => r = some (vi (-(nI 21))) ∧ μ = μ1) (cE _ _ _ _ (SE_f (r := none) hb1 hb0 df ⟨rfl, rfl⟩))
          exact Or.inr (Or.inr ⟨bd, xj2, xd2, xf2, xo2, xi2, xn2, μ1e, μ2, _, ⟨nf, hn1, hn2, hb⟩, h43e, dd, hMe, dc, Or.inl ⟨h20, rfl, hCe⟩⟩)
        · obtain ⟨r1, μ1, hQ, df⟩ := C_fail2 (f := bd) (p := cn 1 t d1) ht i1.1 hI hd hf hC2 (by omega)
          have hrv : ∃ rv, r1 = some (vi rv) := by
            rcases hQ with ⟨-, h, -⟩ | ⟨_, _, -, ⟨-, h⟩ | ⟨-, h⟩, -⟩
            · exact ⟨_, h⟩
            · exact ⟨_, h⟩
            · exact ⟨_, h⟩
          obtain ⟨rv, rfl⟩ := hrv
          obtain ⟨r1, μ1e, ⟨rfl, rfl⟩, dc⟩ := cS (fun r μ => r = some (vi rv) ∧ μ = μ1) (cE _ _ _ _ (SE_f (r := none) hb1 hb0 df ⟨rfl, rfl⟩))
          exact Or.inr (Or.inr ⟨bd, xj2, xd2, xf2, xo2, xi2, xn2, μ1e, μ2, _, ⟨nf, hn1, hn2, hb⟩, h43e, dd, hMe, dc, Or.inr ⟨by omega, hQ⟩⟩)
    · by_cases h64 : (cn 5 (cn 1 t d1) (cn 2 t d1)) = 64
      · rcases PL64 hC1 hMs ht hd (by omega) rfl (by omega) hok h64 rfl rfl rfl rfl rfl rfl with ⟨bd, gv, xj2, xd2, xf2, xo2, xi2, xn2, K1, I1, J1, F1, D1, R1, n1, s1, K2, I2, J2, F2, D2, R2, n2, s2, h43, h44, hgv, hCC, hM2, cE, mE⟩ | ⟨q, xj2, xd2, xf2, xo2, xi2, xn2, K1, I1, J1, F1, D1, R1, n1, s1, K2, I2, J2, F2, D2, R2, n2, s2, hq, hC2, hM2, cE, mE⟩
        · skip
          rcases hCC with ⟨hb, hC2⟩ | ⟨⟨nf, hn1, hn2, hb⟩, hC2⟩
          · subst hb
            have hI2 : IC (u3 ci 0 t 0 (ci 0 t 0 + nI 1)) (u3 cn 2 t d1 gv) := IC_ci (IC_pla ht hI hd hgv) (fun p k => ⟨rfl, rfl, rfl⟩)
            obtain ⟨r2, μ2, ⟨rfl, h43e, hMe⟩, dd⟩ := mS (fun r μ => r = some (vi (nI 1)) ∧ μ.2.1 6 43 = nI 0 ∧ RM ci (u3 cn 2 t d1 gv) co xj2 xd2 xf2 xo2 xi2 xn2 μ.2.1 μ.2.2.1 μ.2.2.2.2.1) (mE _ _ _ _ _ (by rw [h43]; exact DE0 (gv := gv) ht hI hd hgv hM2 h44 (fun I3 hj h => ⟨rfl, (hj 43).trans h43, h⟩)))
            by_cases hz : pp t ((u3 cn 2 t d1 gv) 0 t 0) (u3 cn 2 t d1 gv) 0 t 0 = 0
            · obtain ⟨r1, μ1, ⟨rfl, hCe⟩, dc⟩ := cS (fun r μ1 => r = some (vi (nI 0)) ∧ RC (u3 ci 0 t 0 (ci 0 t 0 + nI 1)) (pp t ((u3 cn 2 t d1 gv) 0 t 0) (u3 cn 2 t d1 gv)) co xj2 xd2 xf2 xo2 xi2 xn2 μ1.2.1 μ1.2.2.1 μ1.2.2.2.1 μ1.2.2.2.2.1 μ1.2.2.2.2.2.1 μ1.2.2.2.2.2.2.1 μ1.2.2.2.2.2.2.2) (cE _ _ _ _ (SE_z1 (d := 0) ht ⟨by omega, by omega⟩ (by omega) hI2 rfl hz hC2 (fun μ1 h => ⟨rfl, h⟩)))
              exact Or.inr (Or.inl ⟨(u3 cn 2 t d1 gv), 0, xj2, xd2, xf2, xo2, xi2, xn2, μ1, μ2, IC_pla ht hI hd hgv, fun u hu => rfl, h43e, dc, dd, Or.inl ⟨hz, rfl⟩, hCe, Or.inl ⟨by rw [show (u3 cn 2 t d1 gv) 0 t 0 = d1 + 1 from hd]; omega, hMe⟩⟩)
            · obtain ⟨r1, μ1, ⟨rfl, hCe⟩, dc⟩ := cS (fun r μ1 => r = some (vi (nI 1)) ∧ RC (u3 ci 0 t 0 (ci 0 t 0 + nI 1)) (pp t ((u3 cn 2 t d1 gv) 0 t 0) (u3 cn 2 t d1 gv)) co xj2 xd2 xf2 xo2 xi2 xn2 μ1.2.1 μ1.2.2.1 μ1.2.2.2.1 μ1.2.2.2.2.1 μ1.2.2.2.2.2.1 μ1.2.2.2.2.2.2.1 μ1.2.2.2.2.2.2.2) (cE _ _ _ _ (SE_s1 (d := 0) ht ⟨by omega, by omega⟩ (by omega) hI2 rfl hz hC2 (fun μ1 h => ⟨rfl, h⟩)))
              exact Or.inr (Or.inl ⟨(u3 cn 2 t d1 gv), 1, xj2, xd2, xf2, xo2, xi2, xn2, μ1, μ2, IC_pla ht hI hd hgv, fun u hu => rfl, h43e, dc, dd, Or.inr ⟨by omega, rfl⟩, hCe, Or.inl ⟨by rw [show (u3 cn 2 t d1 gv) 0 t 0 = d1 + 1 from hd]; omega, hMe⟩⟩)
          · have hb0 : ¬ bd = 0 := by rw [hb, i_eq0 (by omega)]; omega
            have hb1 : ¬ bd = -(nI 1) := by rw [hb]; exact fl_ne (by omega)
            obtain ⟨r2, μ2, ⟨rfl, h43e, hMe⟩, dd⟩ := mS (fun r μ => r = some (vi (nI 1)) ∧ μ.2.1 6 43 = bd ∧ RM ci cn co xj2 xd2 xf2 xo2 xi2 xn2 μ.2.1 μ.2.2.1 μ.2.2.2.2.1) (mE _ _ _ _ _ (by rw [h43]; exact DE1 ht hI hd hb0 (by omega) hM2 h44 (fun I3 hj h => ⟨rfl, (hj 43).trans h43, h⟩)))
            by_cases h20 : fn = 20
            · obtain ⟨r1, μ1, ⟨rfl, hCe⟩, df⟩ := C_fail1 (f := bd) (p := cn 1 t d1) ht i1.1 hI hd hf hC2 (by omega)
              obtain ⟨r1, μ1e, ⟨rfl, rfl⟩, dc⟩ := cS (fun r μ => r = some (vi (-(nI 21))) ∧ μ = μ1) (cE _ _ _ _ (SE_f (r := none) hb1 hb0 df ⟨rfl, rfl⟩))
              exact Or.inr (Or.inr ⟨bd, xj2, xd2, xf2, xo2, xi2, xn2, μ1e, μ2, _, ⟨nf, hn1, hn2, hb⟩, h43e, dd, hMe, dc, Or.inl ⟨h20, rfl, hCe⟩⟩)
            · obtain ⟨r1, μ1, hQ, df⟩ := C_fail2 (f := bd) (p := cn 1 t d1) ht i1.1 hI hd hf hC2 (by omega)
              have hrv : ∃ rv, r1 = some (vi rv) := by
                rcases hQ with ⟨-, h, -⟩ | ⟨_, _, -, ⟨-, h⟩ | ⟨-, h⟩, -⟩
                · exact ⟨_, h⟩
                · exact ⟨_, h⟩
                · exact ⟨_, h⟩
              obtain ⟨rv, rfl⟩ := hrv
              obtain ⟨r1, μ1e, ⟨rfl, rfl⟩, dc⟩ := cS (fun r μ => r = some (vi rv) ∧ μ = μ1) (cE _ _ _ _ (SE_f (r := none) hb1 hb0 df ⟨rfl, rfl⟩))
              exact Or.inr (Or.inr ⟨bd, xj2, xd2, xf2, xo2, xi2, xn2, μ1e, μ2, _, ⟨nf, hn1, hn2, hb⟩, h43e, dd, hMe, dc, Or.inr ⟨by omega, hQ⟩⟩)
        · obtain ⟨r2, μ2, ⟨rfl, rfl⟩, dd⟩ := mS (fun r μ => r = some (vi (nI 0)) ∧ μ = (K2, I2, J2, F2, D2, R2, n2, s2)) (mE _ _ _ _ _ ⟨rfl, rfl⟩)
          obtain ⟨r1, μ1, ⟨rfl, rfl⟩, dc⟩ := cS (fun r μ => r = some (vi (nI 2)) ∧ μ = (K1, I1, J1, F1, D1, R1, n1, s1)) (cE _ _ _ _ (SE_w ⟨rfl, rfl⟩))
          exact Or.inl ⟨q, xj2, xd2, xf2, xo2, xi2, xn2, _, _, hq, dc, dd, hC2, hM2⟩
      · by_cases h62 : (cn 5 (cn 1 t d1) (cn 2 t d1)) = 62
        · rcases PC62 hC1 hMs ht hI hd hok h62 (by omega) isr io yy rfl rfl with ⟨cn2, K1, I1, J1, F1, D1, R1, n1, s1, hI3, hfr, hpos, hC2, cE, mE⟩ | ⟨K1, I1, J1, F1, D1, R1, n1, s1, hC2, cE, mE⟩
          · skip
            have hI2 : IC (u3 ci 0 t 0 (ci 0 t 0 + nI 1)) cn2 := IC_ci (hI3) (fun p k => ⟨rfl, rfl, rfl⟩)
            obtain ⟨r2, μ2, ⟨rfl, h43e, hMe⟩, dd⟩ := mS (fun r μ => r = some (vi (nI 1)) ∧ μ.2.1 6 43 = nI 0 ∧ RM ci cn2 co xj xd xf xo xi xn μ.2.1 μ.2.2.1 μ.2.2.2.2.1) (mE _ _ _ (fun μ2 h => ⟨rfl, h.1, h.2⟩))
            by_cases hz : pp t (cn2 0 t 0) cn2 0 t 0 = 0
            · obtain ⟨r1, μ1, ⟨rfl, hCe⟩, dc⟩ := cS (fun r μ1 => r = some (vi (nI 0)) ∧ RC (u3 ci 0 t 0 (ci 0 t 0 + nI 1)) (pp t (cn2 0 t 0) cn2) co xj xd xf xo xi xn μ1.2.1 μ1.2.2.1 μ1.2.2.2.1 μ1.2.2.2.2.1 μ1.2.2.2.2.2.1 μ1.2.2.2.2.2.2.1 μ1.2.2.2.2.2.2.2) (cE _ _ _ _ (SE_z1 (d := 0) ht ⟨by omega, by omega⟩ (by omega) hI2 rfl hz hC2 (fun μ1 h => ⟨rfl, h⟩)))
              exact Or.inr (Or.inl ⟨cn2, 0, xj, xd, xf, xo, xi, xn, μ1, μ2, hI3, hfr, h43e, dc, dd, Or.inl ⟨hz, rfl⟩, hCe, Or.inl ⟨hpos, hMe⟩⟩)
            · obtain ⟨r1, μ1, ⟨rfl, hCe⟩, dc⟩ := cS (fun r μ1 => r = some (vi (nI 1)) ∧ RC (u3 ci 0 t 0 (ci 0 t 0 + nI 1)) (pp t (cn2 0 t 0) cn2) co xj xd xf xo xi xn μ1.2.1 μ1.2.2.1 μ1.2.2.2.1 μ1.2.2.2.2.1 μ1.2.2.2.2.2.1 μ1.2.2.2.2.2.2.1 μ1.2.2.2.2.2.2.2) (cE _ _ _ _ (SE_s1 (d := 0) ht ⟨by omega, by omega⟩ (by omega) hI2 rfl hz hC2 (fun μ1 h => ⟨rfl, h⟩)))
              exact Or.inr (Or.inl ⟨cn2, 1, xj, xd, xf, xo, xi, xn, μ1, μ2, hI3, hfr, h43e, dc, dd, Or.inr ⟨by omega, rfl⟩, hCe, Or.inl ⟨hpos, hMe⟩⟩)
          · have hb0 : ¬ nI 9 = 0 := by decide
            have hb1 : ¬ nI 9 = -(nI 1) := by decide
            obtain ⟨r2, μ2, ⟨rfl, h43e, hMe⟩, dd⟩ := mS (fun r μ => r = some (vi (nI 1)) ∧ μ.2.1 6 43 = nI 9 ∧ RM ci cn co xj xd xf xo xi xn μ.2.1 μ.2.2.1 μ.2.2.2.2.1) (mE _ _ _ (fun μ2 h => ⟨rfl, h.1, h.2⟩))
            by_cases h20 : fn = 20
            · obtain ⟨r1, μ1, ⟨rfl, hCe⟩, df⟩ := C_fail1 (f := nI 9) (p := cn 1 t d1) ht i1.1 hI hd hf hC2 (by omega)
              obtain ⟨r1, μ1e, ⟨rfl, rfl⟩, dc⟩ := cS (fun r μ => r = some (vi (-(nI 21))) ∧ μ = μ1) (cE _ _ _ _ (SE_f (r := none) hb1 hb0 df ⟨rfl, rfl⟩))
              exact Or.inr (Or.inr ⟨nI 9, xj, xd, xf, xo, xi, xn, μ1e, μ2, _, ⟨9, by omega, by omega, rfl⟩, h43e, dd, hMe, dc, Or.inl ⟨h20, rfl, hCe⟩⟩)
            · obtain ⟨r1, μ1, hQ, df⟩ := C_fail2 (f := nI 9) (p := cn 1 t d1) ht i1.1 hI hd hf hC2 (by omega)
              have hrv : ∃ rv, r1 = some (vi rv) := by
                rcases hQ with ⟨-, h, -⟩ | ⟨_, _, -, ⟨-, h⟩ | ⟨-, h⟩, -⟩
                · exact ⟨_, h⟩
                · exact ⟨_, h⟩
                · exact ⟨_, h⟩
              obtain ⟨rv, rfl⟩ := hrv
              obtain ⟨r1, μ1e, ⟨rfl, rfl⟩, dc⟩ := cS (fun r μ => r = some (vi rv) ∧ μ = μ1) (cE _ _ _ _ (SE_f (r := none) hb1 hb0 df ⟨rfl, rfl⟩))
              exact Or.inr (Or.inr ⟨nI 9, xj, xd, xf, xo, xi, xn, μ1e, μ2, _, ⟨9, by omega, by omega, rfl⟩, h43e, dd, hMe, dc, Or.inr ⟨by omega, hQ⟩⟩)
        · have h63 : (cn 5 (cn 1 t d1) (cn 2 t d1)) = 63 := by omega
          obtain ⟨K1, I1, J1, F1, D1, R1, n1, s1, hC2, cE, hmm⟩ := PC63 hC1 hMs ht hI hd hok h63 isr io yy rfl rfl
          rcases hmm with ⟨hd0, mE⟩ | ⟨hd0, mE⟩
          · skip
            have hI2 : IC (u3 ci 0 t 0 (ci 0 t 0 + nI 1)) (lv cn t d1) := IC_ci (IC_lv ht hI hd) (fun p k => ⟨rfl, rfl, rfl⟩)
            obtain ⟨r2, μ2, ⟨rfl, h43e, hMe⟩, dd⟩ := mS (fun r μ => r = some (vi (nI 1)) ∧ μ.2.1 6 43 = nI 0 ∧ RM ci (lv cn t d1) co xj xd xf xo xi xn μ.2.1 μ.2.2.1 μ.2.2.2.2.1) (mE _ _ _ (fun μ2 h => ⟨rfl, h.1, h.2⟩))
            by_cases hz : pp t ((lv cn t d1) 0 t 0) (lv cn t d1) 0 t 0 = 0
            · obtain ⟨r1, μ1, ⟨rfl, hCe⟩, dc⟩ := cS (fun r μ1 => r = some (vi (nI 0)) ∧ RC (u3 ci 0 t 0 (ci 0 t 0 + nI 1)) (pp t ((lv cn t d1) 0 t 0) (lv cn t d1)) co xj xd xf xo xi xn μ1.2.1 μ1.2.2.1 μ1.2.2.2.1 μ1.2.2.2.2.1 μ1.2.2.2.2.2.1 μ1.2.2.2.2.2.2.1 μ1.2.2.2.2.2.2.2) (cE _ _ _ _ (SE_z1 (d := 0) ht ⟨by omega, by omega⟩ (by omega) hI2 rfl hz hC2 (fun μ1 h => ⟨rfl, h⟩)))
              exact Or.inr (Or.inl ⟨(lv cn t d1), 0, xj, xd, xf, xo, xi, xn, μ1, μ2, IC_lv ht hI hd, fun u hu => lv_o hu, h43e, dc, dd, Or.inl ⟨hz, rfl⟩, hCe, Or.inl ⟨by rw [lv_0]; exact hd0, hMe⟩⟩)
            · obtain ⟨r1, μ1, ⟨rfl, hCe⟩, dc⟩ := cS (fun r μ1 => r = some (vi (nI 1)) ∧ RC (u3 ci 0 t 0 (ci 0 t 0 + nI 1)) (pp t ((lv cn t d1) 0 t 0) (lv cn t d1)) co xj xd xf xo xi xn μ1.2.1 μ1.2.2.1 μ1.2.2.2.1 μ1.2.2.2.2.1 μ1.2.2.2.2.2.1 μ1.2.2.2.2.2.2.1 μ1.2.2.2.2.2.2.2) (cE _ _ _ _ (SE_s1 (d := 0) ht ⟨by omega, by omega⟩ (by omega) hI2 rfl hz hC2 (fun μ1 h => ⟨rfl, h⟩)))
              exact Or.inr (Or.inl ⟨(lv cn t d1), 1, xj, xd, xf, xo, xi, xn, μ1, μ2, IC_lv ht hI hd, fun u hu => lv_o hu, h43e, dc, dd, Or.inr ⟨by omega, rfl⟩, hCe, Or.inl ⟨by rw [lv_0]; exact hd0, hMe⟩⟩)
          · skip
            have hI2 : IC (u3 ci 0 t 0 (ci 0 t 0 + nI 1)) (lv cn t d1) := IC_ci (IC_lv ht hI hd) (fun p k => ⟨rfl, rfl, rfl⟩)
            obtain ⟨r2, μ2, ⟨rfl, h43e, hMe⟩, dd⟩ := mS (fun r μ => r = some (vi (nI 1)) ∧ μ.2.1 6 43 = nI 0 ∧ RM ci (lv cn t d1) (u1 co t none) xj xd xf (rlo xo t (xn 2 0 0)) (rli xo xi t (xn 2 0 0)) xn μ.2.1 μ.2.2.1 μ.2.2.2.2.1) (mE _ _ _ (fun μ2 h => ⟨rfl, h.1, h.2⟩))
            by_cases hz : pp t ((lv cn t d1) 0 t 0) (lv cn t d1) 0 t 0 = 0
            · obtain ⟨r1, μ1, ⟨rfl, hCe⟩, dc⟩ := cS (fun r μ1 => r = some (vi (nI 0)) ∧ RC (u3 ci 0 t 0 (ci 0 t 0 + nI 1)) (pp t ((lv cn t d1) 0 t 0) (lv cn t d1)) co xj xd xf xo xi xn μ1.2.1 μ1.2.2.1 μ1.2.2.2.1 μ1.2.2.2.2.1 μ1.2.2.2.2.2.1 μ1.2.2.2.2.2.2.1 μ1.2.2.2.2.2.2.2) (cE _ _ _ _ (SE_z1 (d := 0) ht ⟨by omega, by omega⟩ (by omega) hI2 rfl hz hC2 (fun μ1 h => ⟨rfl, h⟩)))
              exact Or.inr (Or.inl ⟨(lv cn t d1), 0, xj, xd, xf, xo, xi, xn, μ1, μ2, IC_lv ht hI hd, fun u hu => lv_o hu, h43e, dc, dd, Or.inl ⟨hz, rfl⟩, hCe, Or.inr ⟨by rw [lv_0]; exact hd0, hMe⟩⟩)
            · obtain ⟨r1, μ1, ⟨rfl, hCe⟩, dc⟩ := cS (fun r μ1 => r = some (vi (nI 1)) ∧ RC (u3 ci 0 t 0 (ci 0 t 0 + nI 1)) (pp t ((lv cn t d1) 0 t 0) (lv cn t d1)) co xj xd xf xo xi xn μ1.2.1 μ1.2.2.1 μ1.2.2.2.1 μ1.2.2.2.2.1 μ1.2.2.2.2.2.1 μ1.2.2.2.2.2.2.1 μ1.2.2.2.2.2.2.2) (cE _ _ _ _ (SE_s1 (d := 0) ht ⟨by omega, by omega⟩ (by omega) hI2 rfl hz hC2 (fun μ1 h => ⟨rfl, h⟩)))
              exact Or.inr (Or.inl ⟨(lv cn t d1), 1, xj, xd, xf, xo, xi, xn, μ1, μ2, IC_lv ht hI hd, fun u hu => lv_o hu, h43e, dc, dd, Or.inr ⟨by omega, rfl⟩, hCe, Or.inr ⟨by rw [lv_0]; exact hd0, hMe⟩⟩)
