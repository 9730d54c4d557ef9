def mkj (xj : Nat → Nat → Nat → Int64) (m : Nat) : Nat → Nat → Nat → Int64 := fun c i k => if (c = 1 ∨ c = 2) ∧ i = m then lN 0 else xj c i k
def mkd (xd : Nat → Nat → Nat → UInt64) (m : Nat) : Nat → Nat → Nat → UInt64 := fun c i k => if (c = 1 ∨ c = 2) ∧ i = m then FP.dconst0 else xd c i k
def mkf (xf : Nat → Nat → Nat → UInt32) (m : Nat) : Nat → Nat → Nat → UInt32 := fun c i k => if c = 1 ∧ i = m then FP.fconst0 else xf c i k
def mko (xo : Nat → Nat → Nat → Option Nat) (m : Nat) : Nat → Nat → Nat → Option Nat := fun c i k => if (c = 1 ∨ c = 2 ∨ c = 3 ∨ c = 4) ∧ i = m then none else xo c i k
def mki (xi : Nat → Nat → Nat → Int32) (m : Nat) : Nat → Nat → Nat → Int32 := fun c i k => if (c = 0 ∨ c = 1 ∨ c = 2) ∧ i = m then nI 0 else xi c i k
def mkn (xn : Nat → Nat → Nat → Nat) (m s l : Nat) : Nat → Nat → Nat → Nat := u3 (u3 (u3 xn 0 m 0 s) 1 m 0 l) 2 0 0 (m + 1)
def mm_fill {α : Type} (f : Nat → Nat → α) (a n : Nat) (v : α) : Nat → Nat → α := fun b k => if b = a ∧ k < n then v else f b k
def mm_filr {α : Type} (f : Nat → Nat → α) (a s n : Nat) (v : α) : Nat → Nat → α := fun b k => if b = a ∧ s ≤ k ∧ k < s + n then v else f b k
theorem fil_eq {α : Type} {f : Nat → Nat → α} {a n : Nat} {v : α} {b k : Nat} (h : b = a ∧ k < n) : mm_fill f a n v b k = v := if_pos h
theorem fil_ne {α : Type} {f : Nat → Nat → α} {a n : Nat} {v : α} {b k : Nat} (h : ¬ (b = a ∧ k < n)) : mm_fill f a n v b k = f b k := if_neg h
theorem flr_eq {α : Type} {f : Nat → Nat → α} {a s n : Nat} {v : α} {b k : Nat} (h : b = a ∧ s ≤ k ∧ k < s + n) : mm_filr f a s n v b k = v := if_pos h
theorem flr_ne {α : Type} {f : Nat → Nat → α} {a s n : Nat} {v : α} {b k : Nat} (h : ¬ (b = a ∧ s ≤ k ∧ k < s + n)) : mm_filr f a s n v b k = f b k := if_neg h
theorem mkj_e {xj : Nat → Nat → Nat → Int64} {m c i k : Nat} (h : ¬ i = m) : mkj xj m c i k = xj c i k := if_neg (fun g => h g.2)
theorem mkj_1 {xj : Nat → Nat → Nat → Int64} {m k : Nat} : mkj xj m 1 m k = lN 0 := if_pos ⟨by decide, rfl⟩
theorem mkj_2 {xj : Nat → Nat → Nat → Int64} {m k : Nat} : mkj xj m 2 m k = lN 0 := if_pos ⟨by decide, rfl⟩
theorem mkj_0 {xj : Nat → Nat → Nat → Int64} {m i k : Nat} : mkj xj m 0 i k = xj 0 i k := if_neg (fun g => absurd g.1 (by decide))
theorem mkd_e {xd : Nat → Nat → Nat → UInt64} {m c i k : Nat} (h : ¬ i = m) : mkd xd m c i k = xd c i k := if_neg (fun g => h g.2)
theorem mkd_1 {xd : Nat → Nat → Nat → UInt64} {m k : Nat} : mkd xd m 1 m k = FP.dconst0 := if_pos ⟨by decide, rfl⟩
theorem mkd_2 {xd : Nat → Nat → Nat → UInt64} {m k : Nat} : mkd xd m 2 m k = FP.dconst0 := if_pos ⟨by decide, rfl⟩
theorem mkd_0 {xd : Nat → Nat → Nat → UInt64} {m i k : Nat} : mkd xd m 0 i k = xd 0 i k := if_neg (fun g => absurd g.1 (by decide))
theorem mkf_e {xf : Nat → Nat → Nat → UInt32} {m c i k : Nat} (h : ¬ i = m) : mkf xf m c i k = xf c i k := if_neg (fun g => h g.2)
theorem mkf_1 {xf : Nat → Nat → Nat → UInt32} {m k : Nat} : mkf xf m 1 m k = FP.fconst0 := if_pos ⟨by decide, rfl⟩
theorem mkf_0 {xf : Nat → Nat → Nat → UInt32} {m i k : Nat} : mkf xf m 0 i k = xf 0 i k := if_neg (fun g => absurd g.1 (by decide))
theorem mko_e {xo : Nat → Nat → Nat → Option Nat} {m c i k : Nat} (h : ¬ i = m) : mko xo m c i k = xo c i k := if_neg (fun g => h g.2)
theorem mko_1 {xo : Nat → Nat → Nat → Option Nat} {m k : Nat} : mko xo m 1 m k = none := if_pos ⟨by decide, rfl⟩
theorem mko_2 {xo : Nat → Nat → Nat → Option Nat} {m k : Nat} : mko xo m 2 m k = none := if_pos ⟨by decide, rfl⟩
theorem mko_3 {xo : Nat → Nat → Nat → Option Nat} {m k : Nat} : mko xo m 3 m k = none := if_pos ⟨by decide, rfl⟩
theorem mko_4 {xo : Nat → Nat → Nat → Option Nat} {m k : Nat} : mko xo m 4 m k = none := if_pos ⟨by decide, rfl⟩
theorem mko_0 {xo : Nat → Nat → Nat → Option Nat} {m i k : Nat} : mko xo m 0 i k = xo 0 i k := if_neg (fun g => absurd g.1 (by decide))
theorem mki_e {xi : Nat → Nat → Nat → Int32} {m c i k : Nat} (h : ¬ i = m) : mki xi m c i k = xi c i k := if_neg (fun g => h g.2)
theorem mki_0 {xi : Nat → Nat → Nat → Int32} {m k : Nat} : mki xi m 0 m k = nI 0 := if_pos ⟨by decide, rfl⟩
theorem mki_1 {xi : Nat → Nat → Nat → Int32} {m k : Nat} : mki xi m 1 m k = nI 0 := if_pos ⟨by decide, rfl⟩
theorem mki_2 {xi : Nat → Nat → Nat → Int32} {m k : Nat} : mki xi m 2 m k = nI 0 := if_pos ⟨by decide, rfl⟩
theorem mki_3 {xi : Nat → Nat → Nat → Int32} {m i k : Nat} : mki xi m 3 i k = xi 3 i k := if_neg (fun g => absurd g.1 (by decide))
theorem mkn_2 {xn : Nat → Nat → Nat → Nat} {m s l : Nat} : mkn xn m s l 2 0 0 = m + 1 := by simp [mkn, u3]
theorem mkn_3 {xn : Nat → Nat → Nat → Nat} {m s l : Nat} : mkn xn m s l 3 0 0 = xn 3 0 0 := by simp [mkn, u3]
theorem mkn_4 {xn : Nat → Nat → Nat → Nat} {m s l : Nat} : mkn xn m s l 4 0 0 = xn 4 0 0 := by simp [mkn, u3]
theorem mkn_0n {xn : Nat → Nat → Nat → Nat} {m s l : Nat} : mkn xn m s l 0 m 0 = s := by simp [mkn, u3]
theorem mkn_1n {xn : Nat → Nat → Nat → Nat} {m s l : Nat} : mkn xn m s l 1 m 0 = l := by simp [mkn, u3]
theorem mkn_0 {xn : Nat → Nat → Nat → Nat} {m s l i : Nat} (h : ¬ i = m) : mkn xn m s l 0 i 0 = xn 0 i 0 := by simp [mkn, u3, h]
theorem mkn_1 {xn : Nat → Nat → Nat → Nat} {m s l i : Nat} (h : ¬ i = m) : mkn xn m s l 1 i 0 = xn 1 i 0 := by simp [mkn, u3, h]
theorem row12 {α : Type} (f : Nat → Nat → α) (a : Nat) (v : α) : mm_up (mm_up (mm_up (mm_up (mm_up (mm_up (mm_up (mm_up (mm_up (mm_up (mm_up (mm_up (f) a (0) v) a (1) v) a (2) v) a (3) v) a (4) v) a (5) v) a (6) v) a (7) v) a (8) v) a (9) v) a (10) v) a (11) v = mm_fill f a 12 v := by
  funext b k
  simp only [mm_up, mm_fill]
  (repeat' split) <;> first | rfl | (exfalso; omega)
theorem row12c {α : Type} (f : Nat → Nat → α) (a : Nat) (v : α) : mm_up (mm_up (mm_up (mm_up (mm_up (mm_up (mm_up (mm_up (mm_up (mm_up (mm_up (mm_up (f) a (0) v) a (1) v) a (1 + 1) v) a (1 + 1 + 1) v) a (1 + 1 + 1 + 1) v) a (1 + 1 + 1 + 1 + 1) v) a (1 + 1 + 1 + 1 + 1 + 1) v) a (1 + 1 + 1 + 1 + 1 + 1 + 1) v) a (1 + 1 + 1 + 1 + 1 + 1 + 1 + 1) v) a (1 + 1 + 1 + 1 + 1 + 1 + 1 + 1 + 1) v) a (1 + 1 + 1 + 1 + 1 + 1 + 1 + 1 + 1 + 1) v) a (1 + 1 + 1 + 1 + 1 + 1 + 1 + 1 + 1 + 1 + 1) v = mm_fill f a 12 v := by
  funext b k
  simp only [mm_up, mm_fill]
  (repeat' split) <;> first | rfl | (exfalso; omega)
theorem filr_0 {α : Type} (f : Nat → Nat → α) (a s : Nat) (v : α) : mm_filr f a s 0 v = f := by
  funext b k
  exact if_neg (by omega)
theorem filr_s {α : Type} (f : Nat → Nat → α) (a s n : Nat) (v : α) : mm_up (mm_filr f a s n v) a (s + n) v = mm_filr f a s (n + 1) v := by
  funext b k
  simp only [mm_up, mm_filr]
  (repeat' split) <;> first | rfl | (exfalso; omega)
theorem row12r {α : Type} (f : Nat → Nat → α) (a s : Nat) (v : α) : mm_up (mm_up (mm_up (mm_up (mm_up (mm_up (mm_up (mm_up (mm_up (mm_up (mm_up (mm_up (f) a (s) v) a (s + 1) v) a (s + 2) v) a (s + 3) v) a (s + 4) v) a (s + 5) v) a (s + 6) v) a (s + 7) v) a (s + 8) v) a (s + 9) v) a (s + 10) v) a (s + 11) v = mm_filr f a s 12 v := by
  funext b k
  simp only [mm_up, mm_filr]
  (repeat' split) <;> first | rfl | (exfalso; omega)
set_option maxHeartbeats 2000000 in
theorem RC_make {ci : Nat → Nat → Nat → Int32} {cn : Nat → Nat → Nat → Nat} {co : Nat → Option Nat} {xj : Nat → Nat → Nat → Int64} {xd : Nat → Nat → Nat → UInt64} {xf : Nat → Nat → Nat → UInt32} {xo : Nat → Nat → Nat → Option Nat} {xi : Nat → Nat → Nat → Int32} {xn : Nat → Nat → Nat → Nat} {I : Nat → Nat → Int32} {J : Nat → Nat → Int64} {F : Nat → Nat → UInt32} {D : Nat → Nat → UInt64} {R : Nat → Nat → Option Nat} {nx sl : Nat} {m s l : Nat} (h : RC ci cn co xj xd xf xo xi xn I J F D R nx sl) (hmm : xn 2 0 0 = m) (hal : m < xn 3 0 0) (hs : s ≤ 20 ∧ s ≠ 15 ∧ l ≤ 12 ∧ (16 ≤ s → l = 0)) : RC ci cn co (mkj xj m) (mkd xd m) (mkf xf m) (mko xo m) (mki xi m) (mkn xn m s l) (mm_up (mm_up (mm_up (mm_up (mm_up (mm_up (mm_up (mm_up (mm_up I (9) 1 (nI (m + 1))) (94 + 4 * m) 1 (nI s)) (94 + 4 * m) 2 (nI l)) (94 + 4 * m) 3 (-(nI 1))) (94 + 4 * m) 4 (nI 0)) (94 + 4 * m) 13 (nI 0)) (94 + 4 * m) 14 (nI 0)) (94 + 4 * m) 15 (nI 0)) (94 + 4 * m) 16 (nI 0)) (mm_up (mm_fill J (94 + 4 * m + 1) 12 (lN 0)) (94 + 4 * m) 8 (lN 0)) (mm_up F (94 + 4 * m) 10 FP.fconst0) (mm_up (mm_fill D (94 + 4 * m + 2) 12 FP.dconst0) (94 + 4 * m) 9 FP.dconst0) (mm_up (mm_up (mm_fill R (94 + 4 * m + 3) 12 none) (94 + 4 * m) 11 none) (94 + 4 * m) 12 none) nx sl := by
  have isr := fun i hi => rc_isor h (i := i) hi
  have ial := (rc_imad h).2
  have nz0 : vf_n64 FP.dconst0 := nc_0
  have nz1 : vf_n32 FP.fconst0 := by unfold vf_n32; decide
  obtain ⟨hJ, hD, hF, hR, hI, hX, hN, hS⟩ := h
  exact ⟨⟨fun t1 ht1 k1 hk1 => by
      have g0 := hJ.1 t1 ht1 k1 hk1
      simp (disch := first | omega | assumption | decide) only [up_eq, up_ne, fil_eq, fil_ne, flr_eq, flr_ne, mkn_0n, mkn_1n, mkn_2, mkn_3, mkn_4, mkj_e, mkj_1, mkj_2, mkj_0, mkd_e, mkd_1, mkd_2, mkd_0, mkf_e, mkf_1, mkf_0, mko_e, mko_1, mko_2, mko_3, mko_4, mko_0, mki_e, mki_0, mki_1, mki_2, mki_3] <;> first | exact g0 | rfl | omega | assumption | (intro q hq; cases hq) | (intro q hq; have := g0 q hq; omega) | (simp_all; done),
    fun i1 hi1 k1 hk1 e0 => by
      rw [mkn_2] at hi1
      by_cases hm : i1 = m
      · subst hm; rw [mkn_1n] at hk1; rw [mkn_0n] at e0
        have g0 := trivial
        simp (disch := first | omega | assumption | decide) only [up_eq, up_ne, fil_eq, fil_ne, flr_eq, flr_ne, mkn_0n, mkn_1n, mkn_2, mkn_3, mkn_4, mkj_e, mkj_1, mkj_2, mkj_0, mkd_e, mkd_1, mkd_2, mkd_0, mkf_e, mkf_1, mkf_0, mko_e, mko_1, mko_2, mko_3, mko_4, mko_0, mki_e, mki_0, mki_1, mki_2, mki_3] <;> first | exact g0 | rfl | omega | assumption | (intro q hq; cases hq) | (intro q hq; have := g0 q hq; omega) | (simp_all; done)
      · have hl0 : i1 < xn 2 0 0 := (by omega)
        have z1 := isr i1 hl0; rw [mkn_1 hm] at hk1; rw [mkn_0 hm] at e0
        have g0 := hJ.2.1 i1 hl0 k1 hk1 e0
        simp (disch := first | omega | assumption | decide) only [mkn_0 hm, mkn_1 hm, up_eq, up_ne, fil_eq, fil_ne, flr_eq, flr_ne, mkn_0n, mkn_1n, mkn_2, mkn_3, mkn_4, mkj_e, mkj_1, mkj_2, mkj_0, mkd_e, mkd_1, mkd_2, mkd_0, mkf_e, mkf_1, mkf_0, mko_e, mko_1, mko_2, mko_3, mko_4, mko_0, mki_e, mki_0, mki_1, mki_2, mki_3] <;> first | exact g0 | rfl | omega | assumption | (intro q hq; cases hq) | (intro q hq; have := g0 q hq; omega) | (simp_all; done),
    fun i1 hi1 => by
      rw [mkn_2] at hi1
      by_cases hm : i1 = m
      · subst hm
        have g0 := trivial
        simp (disch := first | omega | assumption | decide) only [up_eq, up_ne, fil_eq, fil_ne, flr_eq, flr_ne, mkn_0n, mkn_1n, mkn_2, mkn_3, mkn_4, mkj_e, mkj_1, mkj_2, mkj_0, mkd_e, mkd_1, mkd_2, mkd_0, mkf_e, mkf_1, mkf_0, mko_e, mko_1, mko_2, mko_3, mko_4, mko_0, mki_e, mki_0, mki_1, mki_2, mki_3] <;> first | exact g0 | rfl | omega | assumption | (intro q hq; cases hq) | (intro q hq; have := g0 q hq; omega) | (simp_all; done)
      · have hl0 : i1 < xn 2 0 0 := (by omega)
        have z1 := isr i1 hl0
        have g0 := hJ.2.2 i1 hl0
        simp (disch := first | omega | assumption | decide) only [mkn_0 hm, mkn_1 hm, up_eq, up_ne, fil_eq, fil_ne, flr_eq, flr_ne, mkn_0n, mkn_1n, mkn_2, mkn_3, mkn_4, mkj_e, mkj_1, mkj_2, mkj_0, mkd_e, mkd_1, mkd_2, mkd_0, mkf_e, mkf_1, mkf_0, mko_e, mko_1, mko_2, mko_3, mko_4, mko_0, mki_e, mki_0, mki_1, mki_2, mki_3] <;> first | exact g0 | rfl | omega | assumption | (intro q hq; cases hq) | (intro q hq; have := g0 q hq; omega) | (simp_all; done)⟩,
   ⟨fun t1 ht1 k1 hk1 => by
      have g0 := hD.1 t1 ht1 k1 hk1
      simp (disch := first | omega | assumption | decide) only [up_eq, up_ne, fil_eq, fil_ne, flr_eq, flr_ne, mkn_0n, mkn_1n, mkn_2, mkn_3, mkn_4, mkj_e, mkj_1, mkj_2, mkj_0, mkd_e, mkd_1, mkd_2, mkd_0, mkf_e, mkf_1, mkf_0, mko_e, mko_1, mko_2, mko_3, mko_4, mko_0, mki_e, mki_0, mki_1, mki_2, mki_3] <;> first | exact g0 | rfl | omega | assumption | (intro q hq; cases hq) | (intro q hq; have := g0 q hq; omega) | (simp_all; done),
    fun i1 hi1 k1 hk1 e0 e1 => by
      rw [mkn_2] at hi1
      by_cases hm : i1 = m
      · subst hm; rw [mkn_1n] at hk1; rw [mkn_0n] at e0; rw [mkn_0n] at e1
        have g0 := trivial
        simp (disch := first | omega | assumption | decide) only [up_eq, up_ne, fil_eq, fil_ne, flr_eq, flr_ne, mkn_0n, mkn_1n, mkn_2, mkn_3, mkn_4, mkj_e, mkj_1, mkj_2, mkj_0, mkd_e, mkd_1, mkd_2, mkd_0, mkf_e, mkf_1, mkf_0, mko_e, mko_1, mko_2, mko_3, mko_4, mko_0, mki_e, mki_0, mki_1, mki_2, mki_3] <;> first | exact g0 | rfl | omega | assumption | (intro q hq; cases hq) | (intro q hq; have := g0 q hq; omega) | (simp_all; done)
      · have hl0 : i1 < xn 2 0 0 := (by omega)
        have z1 := isr i1 hl0; rw [mkn_1 hm] at hk1; rw [mkn_0 hm] at e0; rw [mkn_0 hm] at e1
        have g0 := hD.2.1 i1 hl0 k1 hk1 e0 e1
        simp (disch := first | omega | assumption | decide) only [mkn_0 hm, mkn_1 hm, up_eq, up_ne, fil_eq, fil_ne, flr_eq, flr_ne, mkn_0n, mkn_1n, mkn_2, mkn_3, mkn_4, mkj_e, mkj_1, mkj_2, mkj_0, mkd_e, mkd_1, mkd_2, mkd_0, mkf_e, mkf_1, mkf_0, mko_e, mko_1, mko_2, mko_3, mko_4, mko_0, mki_e, mki_0, mki_1, mki_2, mki_3] <;> first | exact g0 | rfl | omega | assumption | (intro q hq; cases hq) | (intro q hq; have := g0 q hq; omega) | (simp_all; done),
    fun i1 hi1 => by
      rw [mkn_2] at hi1
      by_cases hm : i1 = m
      · subst hm
        have g0 := trivial
        simp (disch := first | omega | assumption | decide) only [up_eq, up_ne, fil_eq, fil_ne, flr_eq, flr_ne, mkn_0n, mkn_1n, mkn_2, mkn_3, mkn_4, mkj_e, mkj_1, mkj_2, mkj_0, mkd_e, mkd_1, mkd_2, mkd_0, mkf_e, mkf_1, mkf_0, mko_e, mko_1, mko_2, mko_3, mko_4, mko_0, mki_e, mki_0, mki_1, mki_2, mki_3] <;> first | exact g0 | rfl | omega | assumption | (intro q hq; cases hq) | (intro q hq; have := g0 q hq; omega) | (simp_all; done)
      · have hl0 : i1 < xn 2 0 0 := (by omega)
        have z1 := isr i1 hl0
        have g0 := hD.2.2.1 i1 hl0
        simp (disch := first | omega | assumption | decide) only [mkn_0 hm, mkn_1 hm, up_eq, up_ne, fil_eq, fil_ne, flr_eq, flr_ne, mkn_0n, mkn_1n, mkn_2, mkn_3, mkn_4, mkj_e, mkj_1, mkj_2, mkj_0, mkd_e, mkd_1, mkd_2, mkd_0, mkf_e, mkf_1, mkf_0, mko_e, mko_1, mko_2, mko_3, mko_4, mko_0, mki_e, mki_0, mki_1, mki_2, mki_3] <;> first | exact g0 | rfl | omega | assumption | (intro q hq; cases hq) | (intro q hq; have := g0 q hq; omega) | (simp_all; done),
    fun j1 hj1 => by
      have g0 := hD.2.2.2 j1 hj1
      simp (disch := first | omega | assumption | decide) only [up_eq, up_ne, fil_eq, fil_ne, flr_eq, flr_ne, mkn_0n, mkn_1n, mkn_2, mkn_3, mkn_4, mkj_e, mkj_1, mkj_2, mkj_0, mkd_e, mkd_1, mkd_2, mkd_0, mkf_e, mkf_1, mkf_0, mko_e, mko_1, mko_2, mko_3, mko_4, mko_0, mki_e, mki_0, mki_1, mki_2, mki_3] <;> first | exact g0 | rfl | omega | assumption | (intro q hq; cases hq) | (intro q hq; have := g0 q hq; omega) | (simp_all; done)⟩,
   ⟨fun t1 ht1 k1 hk1 => by
      have g0 := hF.1 t1 ht1 k1 hk1
      simp (disch := first | omega | assumption | decide) only [up_eq, up_ne, fil_eq, fil_ne, flr_eq, flr_ne, mkn_0n, mkn_1n, mkn_2, mkn_3, mkn_4, mkj_e, mkj_1, mkj_2, mkj_0, mkd_e, mkd_1, mkd_2, mkd_0, mkf_e, mkf_1, mkf_0, mko_e, mko_1, mko_2, mko_3, mko_4, mko_0, mki_e, mki_0, mki_1, mki_2, mki_3] <;> first | exact g0 | rfl | omega | assumption | (intro q hq; cases hq) | (intro q hq; have := g0 q hq; omega) | (simp_all; done),
    fun i1 hi1 => by
      rw [mkn_2] at hi1
      by_cases hm : i1 = m
      · subst hm
        have g0 := trivial
        simp (disch := first | omega | assumption | decide) only [up_eq, up_ne, fil_eq, fil_ne, flr_eq, flr_ne, mkn_0n, mkn_1n, mkn_2, mkn_3, mkn_4, mkj_e, mkj_1, mkj_2, mkj_0, mkd_e, mkd_1, mkd_2, mkd_0, mkf_e, mkf_1, mkf_0, mko_e, mko_1, mko_2, mko_3, mko_4, mko_0, mki_e, mki_0, mki_1, mki_2, mki_3] <;> first | exact g0 | rfl | omega | assumption | (intro q hq; cases hq) | (intro q hq; have := g0 q hq; omega) | (simp_all; done)
      · have hl0 : i1 < xn 2 0 0 := (by omega)
        have z1 := isr i1 hl0
        have g0 := hF.2 i1 hl0
        simp (disch := first | omega | assumption | decide) only [mkn_0 hm, mkn_1 hm, up_eq, up_ne, fil_eq, fil_ne, flr_eq, flr_ne, mkn_0n, mkn_1n, mkn_2, mkn_3, mkn_4, mkj_e, mkj_1, mkj_2, mkj_0, mkd_e, mkd_1, mkd_2, mkd_0, mkf_e, mkf_1, mkf_0, mko_e, mko_1, mko_2, mko_3, mko_4, mko_0, mki_e, mki_0, mki_1, mki_2, mki_3] <;> first | exact g0 | rfl | omega | assumption | (intro q hq; cases hq) | (intro q hq; have := g0 q hq; omega) | (simp_all; done)⟩,
   ⟨fun t1 ht1 k1 hk1 => by
      have g0 := hR.1 t1 ht1 k1 hk1
      simp (disch := first | omega | assumption | decide) only [up_eq, up_ne, fil_eq, fil_ne, flr_eq, flr_ne, mkn_0n, mkn_1n, mkn_2, mkn_3, mkn_4, mkj_e, mkj_1, mkj_2, mkj_0, mkd_e, mkd_1, mkd_2, mkd_0, mkf_e, mkf_1, mkf_0, mko_e, mko_1, mko_2, mko_3, mko_4, mko_0, mki_e, mki_0, mki_1, mki_2, mki_3] <;> first | exact g0 | rfl | omega | assumption | (intro q hq; cases hq) | (intro q hq; have := g0 q hq; omega) | (simp_all; done),
    fun i1 hi1 k1 hk1 e0 => by
      rw [mkn_2] at hi1
      by_cases hm : i1 = m
      · subst hm; rw [mkn_1n] at hk1; rw [mkn_0n] at e0
        have g0 := trivial
        simp (disch := first | omega | assumption | decide) only [up_eq, up_ne, fil_eq, fil_ne, flr_eq, flr_ne, mkn_0n, mkn_1n, mkn_2, mkn_3, mkn_4, mkj_e, mkj_1, mkj_2, mkj_0, mkd_e, mkd_1, mkd_2, mkd_0, mkf_e, mkf_1, mkf_0, mko_e, mko_1, mko_2, mko_3, mko_4, mko_0, mki_e, mki_0, mki_1, mki_2, mki_3] <;> first | exact g0 | rfl | omega | assumption | (intro q hq; cases hq) | (intro q hq; have := g0 q hq; omega) | (simp_all; done)
      · have hl0 : i1 < xn 2 0 0 := (by omega)
        have z1 := isr i1 hl0; rw [mkn_1 hm] at hk1; rw [mkn_0 hm] at e0
        have g0 := hR.2.1 i1 hl0 k1 hk1 e0
        simp (disch := first | omega | assumption | decide) only [mkn_0 hm, mkn_1 hm, up_eq, up_ne, fil_eq, fil_ne, flr_eq, flr_ne, mkn_0n, mkn_1n, mkn_2, mkn_3, mkn_4, mkj_e, mkj_1, mkj_2, mkj_0, mkd_e, mkd_1, mkd_2, mkd_0, mkf_e, mkf_1, mkf_0, mko_e, mko_1, mko_2, mko_3, mko_4, mko_0, mki_e, mki_0, mki_1, mki_2, mki_3] <;> first | exact g0 | rfl | omega | assumption | (intro q hq; cases hq) | (intro q hq; have := g0 q hq; omega) | (simp_all; done),
    fun i1 hi1 => by
      rw [mkn_2] at hi1
      by_cases hm : i1 = m
      · subst hm
        have g0 := trivial
        simp (disch := first | omega | assumption | decide) only [up_eq, up_ne, fil_eq, fil_ne, flr_eq, flr_ne, mkn_0n, mkn_1n, mkn_2, mkn_3, mkn_4, mkj_e, mkj_1, mkj_2, mkj_0, mkd_e, mkd_1, mkd_2, mkd_0, mkf_e, mkf_1, mkf_0, mko_e, mko_1, mko_2, mko_3, mko_4, mko_0, mki_e, mki_0, mki_1, mki_2, mki_3] <;> first | exact g0 | rfl | omega | assumption | (intro q hq; cases hq) | (intro q hq; have := g0 q hq; omega) | (simp_all; done)
      · have hl0 : i1 < xn 2 0 0 := (by omega)
        have z1 := isr i1 hl0
        have g0 := hR.2.2.1 i1 hl0
        simp (disch := first | omega | assumption | decide) only [mkn_0 hm, mkn_1 hm, up_eq, up_ne, fil_eq, fil_ne, flr_eq, flr_ne, mkn_0n, mkn_1n, mkn_2, mkn_3, mkn_4, mkj_e, mkj_1, mkj_2, mkj_0, mkd_e, mkd_1, mkd_2, mkd_0, mkf_e, mkf_1, mkf_0, mko_e, mko_1, mko_2, mko_3, mko_4, mko_0, mki_e, mki_0, mki_1, mki_2, mki_3] <;> first | exact g0 | rfl | omega | assumption | (intro q hq; cases hq) | (intro q hq; have := g0 q hq; omega) | (simp_all; done),
    fun i1 hi1 => by
      rw [mkn_2] at hi1
      by_cases hm : i1 = m
      · subst hm
        have g0 := trivial
        simp (disch := first | omega | assumption | decide) only [up_eq, up_ne, fil_eq, fil_ne, flr_eq, flr_ne, mkn_0n, mkn_1n, mkn_2, mkn_3, mkn_4, mkj_e, mkj_1, mkj_2, mkj_0, mkd_e, mkd_1, mkd_2, mkd_0, mkf_e, mkf_1, mkf_0, mko_e, mko_1, mko_2, mko_3, mko_4, mko_0, mki_e, mki_0, mki_1, mki_2, mki_3] <;> first | exact g0 | rfl | omega | assumption | (intro q hq; cases hq) | (intro q hq; have := g0 q hq; omega) | (simp_all; done)
      · have hl0 : i1 < xn 2 0 0 := (by omega)
        have z1 := isr i1 hl0
        have g0 := hR.2.2.2.1 i1 hl0
        simp (disch := first | omega | assumption | decide) only [mkn_0 hm, mkn_1 hm, up_eq, up_ne, fil_eq, fil_ne, flr_eq, flr_ne, mkn_0n, mkn_1n, mkn_2, mkn_3, mkn_4, mkj_e, mkj_1, mkj_2, mkj_0, mkd_e, mkd_1, mkd_2, mkd_0, mkf_e, mkf_1, mkf_0, mko_e, mko_1, mko_2, mko_3, mko_4, mko_0, mki_e, mki_0, mki_1, mki_2, mki_3] <;> first | exact g0 | rfl | omega | assumption | (intro q hq; cases hq) | (intro q hq; have := g0 q hq; omega) | (simp_all; done),
    fun t1 ht1 => by
      have g0 := hR.2.2.2.2.1 t1 ht1
      simp (disch := first | omega | assumption | decide) only [up_eq, up_ne, fil_eq, fil_ne, flr_eq, flr_ne, mkn_0n, mkn_1n, mkn_2, mkn_3, mkn_4, mkj_e, mkj_1, mkj_2, mkj_0, mkd_e, mkd_1, mkd_2, mkd_0, mkf_e, mkf_1, mkf_0, mko_e, mko_1, mko_2, mko_3, mko_4, mko_0, mki_e, mki_0, mki_1, mki_2, mki_3] <;> first | exact g0 | rfl | omega | assumption | (intro q hq; cases hq) | (intro q hq; have := g0 q hq; omega) | (simp_all; done),
    fun t1 ht1 k1 hk1 => by
      have g0 := hR.2.2.2.2.2.1 t1 ht1 k1 hk1
      simp (disch := first | omega | assumption | decide) only [up_eq, up_ne, fil_eq, fil_ne, flr_eq, flr_ne, mkn_0n, mkn_1n, mkn_2, mkn_3, mkn_4, mkj_e, mkj_1, mkj_2, mkj_0, mkd_e, mkd_1, mkd_2, mkd_0, mkf_e, mkf_1, mkf_0, mko_e, mko_1, mko_2, mko_3, mko_4, mko_0, mki_e, mki_0, mki_1, mki_2, mki_3] <;> first | exact g0 | rfl | omega | assumption | (intro q hq; cases hq) | (intro q hq; have := g0 q hq; omega) | (simp_all; done),
    fun i1 hi1 => by
      rw [mkn_3] at hi1
      have g0 := hR.2.2.2.2.2.2.1 i1 hi1
      simp (disch := first | omega | assumption | decide) only [up_eq, up_ne, fil_eq, fil_ne, flr_eq, flr_ne, mkn_0n, mkn_1n, mkn_2, mkn_3, mkn_4, mkj_e, mkj_1, mkj_2, mkj_0, mkd_e, mkd_1, mkd_2, mkd_0, mkf_e, mkf_1, mkf_0, mko_e, mko_1, mko_2, mko_3, mko_4, mko_0, mki_e, mki_0, mki_1, mki_2, mki_3] <;> first | exact g0 | rfl | omega | assumption | (intro q hq; cases hq) | (intro q hq; have := g0 q hq; omega) | (simp_all; done),
    fun i1 hi1 e0 => by
      rw [mkn_3] at e0
      have g0 := hR.2.2.2.2.2.2.2.1 i1 hi1 e0
      simp (disch := first | omega | assumption | decide) only [up_eq, up_ne, fil_eq, fil_ne, flr_eq, flr_ne, mkn_0n, mkn_1n, mkn_2, mkn_3, mkn_4, mkj_e, mkj_1, mkj_2, mkj_0, mkd_e, mkd_1, mkd_2, mkd_0, mkf_e, mkf_1, mkf_0, mko_e, mko_1, mko_2, mko_3, mko_4, mko_0, mki_e, mki_0, mki_1, mki_2, mki_3] <;> first | exact g0 | rfl | omega | assumption | (intro q hq; cases hq) | (intro q hq; have := g0 q hq; omega) | (simp_all; done),
    fun p1 hp1 => by
      have g0 := hR.2.2.2.2.2.2.2.2.1 p1 hp1
      simp (disch := first | omega | assumption | decide) only [up_eq, up_ne, fil_eq, fil_ne, flr_eq, flr_ne, mkn_0n, mkn_1n, mkn_2, mkn_3, mkn_4, mkj_e, mkj_1, mkj_2, mkj_0, mkd_e, mkd_1, mkd_2, mkd_0, mkf_e, mkf_1, mkf_0, mko_e, mko_1, mko_2, mko_3, mko_4, mko_0, mki_e, mki_0, mki_1, mki_2, mki_3] <;> first | exact g0 | rfl | omega | assumption | (intro q hq; cases hq) | (intro q hq; have := g0 q hq; omega) | (simp_all; done),
    fun t1 ht1 => by
      have g0 := hR.2.2.2.2.2.2.2.2.2 t1 ht1
      simp (disch := first | omega | assumption | decide) only [up_eq, up_ne, fil_eq, fil_ne, flr_eq, flr_ne, mkn_0n, mkn_1n, mkn_2, mkn_3, mkn_4, mkj_e, mkj_1, mkj_2, mkj_0, mkd_e, mkd_1, mkd_2, mkd_0, mkf_e, mkf_1, mkf_0, mko_e, mko_1, mko_2, mko_3, mko_4, mko_0, mki_e, mki_0, mki_1, mki_2, mki_3] <;> first | exact g0 | rfl | omega | assumption | (intro q hq; cases hq) | (intro q hq; have := g0 q hq; omega) | (simp_all; done)⟩,
   ⟨fun p1 hp1 => by
      have g0 := hI.1 p1 hp1
      simp (disch := first | omega | assumption | decide) only [up_eq, up_ne, fil_eq, fil_ne, flr_eq, flr_ne, mkn_0n, mkn_1n, mkn_2, mkn_3, mkn_4, mkj_e, mkj_1, mkj_2, mkj_0, mkd_e, mkd_1, mkd_2, mkd_0, mkf_e, mkf_1, mkf_0, mko_e, mko_1, mko_2, mko_3, mko_4, mko_0, mki_e, mki_0, mki_1, mki_2, mki_3] <;> first | exact g0 | rfl | omega | assumption | (intro q hq; cases hq) | (intro q hq; have := g0 q hq; omega) | (simp_all; done),
    fun p1 hp1 => by
      have g0 := hI.2.1 p1 hp1
      simp (disch := first | omega | assumption | decide) only [up_eq, up_ne, fil_eq, fil_ne, flr_eq, flr_ne, mkn_0n, mkn_1n, mkn_2, mkn_3, mkn_4, mkj_e, mkj_1, mkj_2, mkj_0, mkd_e, mkd_1, mkd_2, mkd_0, mkf_e, mkf_1, mkf_0, mko_e, mko_1, mko_2, mko_3, mko_4, mko_0, mki_e, mki_0, mki_1, mki_2, mki_3] <;> first | exact g0 | rfl | omega | assumption | (intro q hq; cases hq) | (intro q hq; have := g0 q hq; omega) | (simp_all; done),
    fun p1 hp1 => by
      have g0 := hI.2.2.1 p1 hp1
      simp (disch := first | omega | assumption | decide) only [up_eq, up_ne, fil_eq, fil_ne, flr_eq, flr_ne, mkn_0n, mkn_1n, mkn_2, mkn_3, mkn_4, mkj_e, mkj_1, mkj_2, mkj_0, mkd_e, mkd_1, mkd_2, mkd_0, mkf_e, mkf_1, mkf_0, mko_e, mko_1, mko_2, mko_3, mko_4, mko_0, mki_e, mki_0, mki_1, mki_2, mki_3] <;> first | exact g0 | rfl | omega | assumption | (intro q hq; cases hq) | (intro q hq; have := g0 q hq; omega) | (simp_all; done),
    fun p1 hp1 k1 hk1 => by
      have g0 := hI.2.2.2.1 p1 hp1 k1 hk1
      simp (disch := first | omega | assumption | decide) only [up_eq, up_ne, fil_eq, fil_ne, flr_eq, flr_ne, mkn_0n, mkn_1n, mkn_2, mkn_3, mkn_4, mkj_e, mkj_1, mkj_2, mkj_0, mkd_e, mkd_1, mkd_2, mkd_0, mkf_e, mkf_1, mkf_0, mko_e, mko_1, mko_2, mko_3, mko_4, mko_0, mki_e, mki_0, mki_1, mki_2, mki_3] <;> first | exact g0 | rfl | omega | assumption | (intro q hq; cases hq) | (intro q hq; have := g0 q hq; omega) | (simp_all; done),
    fun p1 hp1 k1 hk1 => by
      have g0 := hI.2.2.2.2.1 p1 hp1 k1 hk1
      simp (disch := first | omega | assumption | decide) only [up_eq, up_ne, fil_eq, fil_ne, flr_eq, flr_ne, mkn_0n, mkn_1n, mkn_2, mkn_3, mkn_4, mkj_e, mkj_1, mkj_2, mkj_0, mkd_e, mkd_1, mkd_2, mkd_0, mkf_e, mkf_1, mkf_0, mko_e, mko_1, mko_2, mko_3, mko_4, mko_0, mki_e, mki_0, mki_1, mki_2, mki_3] <;> first | exact g0 | rfl | omega | assumption | (intro q hq; cases hq) | (intro q hq; have := g0 q hq; omega) | (simp_all; done),
    fun p1 hp1 k1 hk1 => by
      have g0 := hI.2.2.2.2.2.1 p1 hp1 k1 hk1
      simp (disch := first | omega | assumption | decide) only [up_eq, up_ne, fil_eq, fil_ne, flr_eq, flr_ne, mkn_0n, mkn_1n, mkn_2, mkn_3, mkn_4, mkj_e, mkj_1, mkj_2, mkj_0, mkd_e, mkd_1, mkd_2, mkd_0, mkf_e, mkf_1, mkf_0, mko_e, mko_1, mko_2, mko_3, mko_4, mko_0, mki_e, mki_0, mki_1, mki_2, mki_3] <;> first | exact g0 | rfl | omega | assumption | (intro q hq; cases hq) | (intro q hq; have := g0 q hq; omega) | (simp_all; done),
    fun p1 hp1 k1 hk1 => by
      have g0 := hI.2.2.2.2.2.2.1 p1 hp1 k1 hk1
      simp (disch := first | omega | assumption | decide) only [up_eq, up_ne, fil_eq, fil_ne, flr_eq, flr_ne, mkn_0n, mkn_1n, mkn_2, mkn_3, mkn_4, mkj_e, mkj_1, mkj_2, mkj_0, mkd_e, mkd_1, mkd_2, mkd_0, mkf_e, mkf_1, mkf_0, mko_e, mko_1, mko_2, mko_3, mko_4, mko_0, mki_e, mki_0, mki_1, mki_2, mki_3] <;> first | exact g0 | rfl | omega | assumption | (intro q hq; cases hq) | (intro q hq; have := g0 q hq; omega) | (simp_all; done),
    fun p1 hp1 k1 hk1 => by
      have g0 := hI.2.2.2.2.2.2.2.1 p1 hp1 k1 hk1
      simp (disch := first | omega | assumption | decide) only [up_eq, up_ne, fil_eq, fil_ne, flr_eq, flr_ne, mkn_0n, mkn_1n, mkn_2, mkn_3, mkn_4, mkj_e, mkj_1, mkj_2, mkj_0, mkd_e, mkd_1, mkd_2, mkd_0, mkf_e, mkf_1, mkf_0, mko_e, mko_1, mko_2, mko_3, mko_4, mko_0, mki_e, mki_0, mki_1, mki_2, mki_3] <;> first | exact g0 | rfl | omega | assumption | (intro q hq; cases hq) | (intro q hq; have := g0 q hq; omega) | (simp_all; done),
    fun p1 hp1 k1 hk1 => by
      have g0 := hI.2.2.2.2.2.2.2.2.1 p1 hp1 k1 hk1
      simp (disch := first | omega | assumption | decide) only [up_eq, up_ne, fil_eq, fil_ne, flr_eq, flr_ne, mkn_0n, mkn_1n, mkn_2, mkn_3, mkn_4, mkj_e, mkj_1, mkj_2, mkj_0, mkd_e, mkd_1, mkd_2, mkd_0, mkf_e, mkf_1, mkf_0, mko_e, mko_1, mko_2, mko_3, mko_4, mko_0, mki_e, mki_0, mki_1, mki_2, mki_3] <;> first | exact g0 | rfl | omega | assumption | (intro q hq; cases hq) | (intro q hq; have := g0 q hq; omega) | (simp_all; done),
    fun p1 hp1 k1 hk1 => by
      have g0 := hI.2.2.2.2.2.2.2.2.2.1 p1 hp1 k1 hk1
      simp (disch := first | omega | assumption | decide) only [up_eq, up_ne, fil_eq, fil_ne, flr_eq, flr_ne, mkn_0n, mkn_1n, mkn_2, mkn_3, mkn_4, mkj_e, mkj_1, mkj_2, mkj_0, mkd_e, mkd_1, mkd_2, mkd_0, mkf_e, mkf_1, mkf_0, mko_e, mko_1, mko_2, mko_3, mko_4, mko_0, mki_e, mki_0, mki_1, mki_2, mki_3] <;> first | exact g0 | rfl | omega | assumption | (intro q hq; cases hq) | (intro q hq; have := g0 q hq; omega) | (simp_all; done),
    fun p1 hp1 k1 hk1 => by
      have g0 := hI.2.2.2.2.2.2.2.2.2.2.1 p1 hp1 k1 hk1
      simp (disch := first | omega | assumption | decide) only [up_eq, up_ne, fil_eq, fil_ne, flr_eq, flr_ne, mkn_0n, mkn_1n, mkn_2, mkn_3, mkn_4, mkj_e, mkj_1, mkj_2, mkj_0, mkd_e, mkd_1, mkd_2, mkd_0, mkf_e, mkf_1, mkf_0, mko_e, mko_1, mko_2, mko_3, mko_4, mko_0, mki_e, mki_0, mki_1, mki_2, mki_3] <;> first | exact g0 | rfl | omega | assumption | (intro q hq; cases hq) | (intro q hq; have := g0 q hq; omega) | (simp_all; done),
    fun t1 ht1 => by
      have g0 := hI.2.2.2.2.2.2.2.2.2.2.2.1 t1 ht1
      simp (disch := first | omega | assumption | decide) only [up_eq, up_ne, fil_eq, fil_ne, flr_eq, flr_ne, mkn_0n, mkn_1n, mkn_2, mkn_3, mkn_4, mkj_e, mkj_1, mkj_2, mkj_0, mkd_e, mkd_1, mkd_2, mkd_0, mkf_e, mkf_1, mkf_0, mko_e, mko_1, mko_2, mko_3, mko_4, mko_0, mki_e, mki_0, mki_1, mki_2, mki_3] <;> first | exact g0 | rfl | omega | assumption | (intro q hq; cases hq) | (intro q hq; have := g0 q hq; omega) | (simp_all; done),
    fun t1 ht1 => by
      have g0 := hI.2.2.2.2.2.2.2.2.2.2.2.2.1 t1 ht1
      simp (disch := first | omega | assumption | decide) only [up_eq, up_ne, fil_eq, fil_ne, flr_eq, flr_ne, mkn_0n, mkn_1n, mkn_2, mkn_3, mkn_4, mkj_e, mkj_1, mkj_2, mkj_0, mkd_e, mkd_1, mkd_2, mkd_0, mkf_e, mkf_1, mkf_0, mko_e, mko_1, mko_2, mko_3, mko_4, mko_0, mki_e, mki_0, mki_1, mki_2, mki_3] <;> first | exact g0 | rfl | omega | assumption | (intro q hq; cases hq) | (intro q hq; have := g0 q hq; omega) | (simp_all; done),
    fun t1 ht1 k1 hk1 => by
      have g0 := hI.2.2.2.2.2.2.2.2.2.2.2.2.2.1 t1 ht1 k1 hk1
      simp (disch := first | omega | assumption | decide) only [up_eq, up_ne, fil_eq, fil_ne, flr_eq, flr_ne, mkn_0n, mkn_1n, mkn_2, mkn_3, mkn_4, mkj_e, mkj_1, mkj_2, mkj_0, mkd_e, mkd_1, mkd_2, mkd_0, mkf_e, mkf_1, mkf_0, mko_e, mko_1, mko_2, mko_3, mko_4, mko_0, mki_e, mki_0, mki_1, mki_2, mki_3] <;> first | exact g0 | rfl | omega | assumption | (intro q hq; cases hq) | (intro q hq; have := g0 q hq; omega) | (simp_all; done),
    fun t1 ht1 => by
      have g0 := hI.2.2.2.2.2.2.2.2.2.2.2.2.2.2.1 t1 ht1
      simp (disch := first | omega | assumption | decide) only [up_eq, up_ne, fil_eq, fil_ne, flr_eq, flr_ne, mkn_0n, mkn_1n, mkn_2, mkn_3, mkn_4, mkj_e, mkj_1, mkj_2, mkj_0, mkd_e, mkd_1, mkd_2, mkd_0, mkf_e, mkf_1, mkf_0, mko_e, mko_1, mko_2, mko_3, mko_4, mko_0, mki_e, mki_0, mki_1, mki_2, mki_3] <;> first | exact g0 | rfl | omega | assumption | (intro q hq; cases hq) | (intro q hq; have := g0 q hq; omega) | (simp_all; done),
    fun t1 ht1 => by
      have g0 := hI.2.2.2.2.2.2.2.2.2.2.2.2.2.2.2.1 t1 ht1
      simp (disch := first | omega | assumption | decide) only [up_eq, up_ne, fil_eq, fil_ne, flr_eq, flr_ne, mkn_0n, mkn_1n, mkn_2, mkn_3, mkn_4, mkj_e, mkj_1, mkj_2, mkj_0, mkd_e, mkd_1, mkd_2, mkd_0, mkf_e, mkf_1, mkf_0, mko_e, mko_1, mko_2, mko_3, mko_4, mko_0, mki_e, mki_0, mki_1, mki_2, mki_3] <;> first | exact g0 | rfl | omega | assumption | (intro q hq; cases hq) | (intro q hq; have := g0 q hq; omega) | (simp_all; done),
    fun t1 ht1 => by
      have g0 := hI.2.2.2.2.2.2.2.2.2.2.2.2.2.2.2.2.1 t1 ht1
      simp (disch := first | omega | assumption | decide) only [up_eq, up_ne, fil_eq, fil_ne, flr_eq, flr_ne, mkn_0n, mkn_1n, mkn_2, mkn_3, mkn_4, mkj_e, mkj_1, mkj_2, mkj_0, mkd_e, mkd_1, mkd_2, mkd_0, mkf_e, mkf_1, mkf_0, mko_e, mko_1, mko_2, mko_3, mko_4, mko_0, mki_e, mki_0, mki_1, mki_2, mki_3] <;> first | exact g0 | rfl | omega | assumption | (intro q hq; cases hq) | (intro q hq; have := g0 q hq; omega) | (simp_all; done),
    fun t1 ht1 => by
      have g0 := hI.2.2.2.2.2.2.2.2.2.2.2.2.2.2.2.2.2.1 t1 ht1
      simp (disch := first | omega | assumption | decide) only [up_eq, up_ne, fil_eq, fil_ne, flr_eq, flr_ne, mkn_0n, mkn_1n, mkn_2, mkn_3, mkn_4, mkj_e, mkj_1, mkj_2, mkj_0, mkd_e, mkd_1, mkd_2, mkd_0, mkf_e, mkf_1, mkf_0, mko_e, mko_1, mko_2, mko_3, mko_4, mko_0, mki_e, mki_0, mki_1, mki_2, mki_3] <;> first | exact g0 | rfl | omega | assumption | (intro q hq; cases hq) | (intro q hq; have := g0 q hq; omega) | (simp_all; done),
    fun t1 ht1 => by
      have g0 := hI.2.2.2.2.2.2.2.2.2.2.2.2.2.2.2.2.2.2.1 t1 ht1
      simp (disch := first | omega | assumption | decide) only [up_eq, up_ne, fil_eq, fil_ne, flr_eq, flr_ne, mkn_0n, mkn_1n, mkn_2, mkn_3, mkn_4, mkj_e, mkj_1, mkj_2, mkj_0, mkd_e, mkd_1, mkd_2, mkd_0, mkf_e, mkf_1, mkf_0, mko_e, mko_1, mko_2, mko_3, mko_4, mko_0, mki_e, mki_0, mki_1, mki_2, mki_3] <;> first | exact g0 | rfl | omega | assumption | (intro q hq; cases hq) | (intro q hq; have := g0 q hq; omega) | (simp_all; done),
    fun t1 ht1 => by
      have g0 := hI.2.2.2.2.2.2.2.2.2.2.2.2.2.2.2.2.2.2.2.1 t1 ht1
      simp (disch := first | omega | assumption | decide) only [up_eq, up_ne, fil_eq, fil_ne, flr_eq, flr_ne, mkn_0n, mkn_1n, mkn_2, mkn_3, mkn_4, mkj_e, mkj_1, mkj_2, mkj_0, mkd_e, mkd_1, mkd_2, mkd_0, mkf_e, mkf_1, mkf_0, mko_e, mko_1, mko_2, mko_3, mko_4, mko_0, mki_e, mki_0, mki_1, mki_2, mki_3] <;> first | exact g0 | rfl | omega | assumption | (intro q hq; cases hq) | (intro q hq; have := g0 q hq; omega) | (simp_all; done),
    by
      have g0 := hI.2.2.2.2.2.2.2.2.2.2.2.2.2.2.2.2.2.2.2.2.1
      simp (disch := first | omega | assumption | decide) only [up_eq, up_ne, fil_eq, fil_ne, flr_eq, flr_ne, mkn_0n, mkn_1n, mkn_2, mkn_3, mkn_4, mkj_e, mkj_1, mkj_2, mkj_0, mkd_e, mkd_1, mkd_2, mkd_0, mkf_e, mkf_1, mkf_0, mko_e, mko_1, mko_2, mko_3, mko_4, mko_0, mki_e, mki_0, mki_1, mki_2, mki_3] <;> first | exact g0 | rfl | omega | assumption | (intro q hq; cases hq) | (intro q hq; have := g0 q hq; omega) | (simp_all; done),
    by
      have g0 := hI.2.2.2.2.2.2.2.2.2.2.2.2.2.2.2.2.2.2.2.2.2.1
      simp (disch := first | omega | assumption | decide) only [up_eq, up_ne, fil_eq, fil_ne, flr_eq, flr_ne, mkn_0n, mkn_1n, mkn_2, mkn_3, mkn_4, mkj_e, mkj_1, mkj_2, mkj_0, mkd_e, mkd_1, mkd_2, mkd_0, mkf_e, mkf_1, mkf_0, mko_e, mko_1, mko_2, mko_3, mko_4, mko_0, mki_e, mki_0, mki_1, mki_2, mki_3] <;> first | exact g0 | rfl | omega | assumption | (intro q hq; cases hq) | (intro q hq; have := g0 q hq; omega) | (simp_all; done),
    fun i1 hi1 => by
      rw [mkn_3] at hi1
      have g0 := hI.2.2.2.2.2.2.2.2.2.2.2.2.2.2.2.2.2.2.2.2.2.2.1 i1 hi1
      simp (disch := first | omega | assumption | decide) only [up_eq, up_ne, fil_eq, fil_ne, flr_eq, flr_ne, mkn_0n, mkn_1n, mkn_2, mkn_3, mkn_4, mkj_e, mkj_1, mkj_2, mkj_0, mkd_e, mkd_1, mkd_2, mkd_0, mkf_e, mkf_1, mkf_0, mko_e, mko_1, mko_2, mko_3, mko_4, mko_0, mki_e, mki_0, mki_1, mki_2, mki_3] <;> first | exact g0 | rfl | omega | assumption | (intro q hq; cases hq) | (intro q hq; have := g0 q hq; omega) | (simp_all; done),
    fun i1 hi1 => by
      rw [mkn_2] at hi1
      by_cases hm : i1 = m
      · subst hm
        have g0 := trivial
        simp (disch := first | omega | assumption | decide) only [up_eq, up_ne, fil_eq, fil_ne, flr_eq, flr_ne, mkn_0n, mkn_1n, mkn_2, mkn_3, mkn_4, mkj_e, mkj_1, mkj_2, mkj_0, mkd_e, mkd_1, mkd_2, mkd_0, mkf_e, mkf_1, mkf_0, mko_e, mko_1, mko_2, mko_3, mko_4, mko_0, mki_e, mki_0, mki_1, mki_2, mki_3] <;> first | exact g0 | rfl | omega | assumption | (intro q hq; cases hq) | (intro q hq; have := g0 q hq; omega) | (simp_all; done)
      · have hl0 : i1 < xn 2 0 0 := (by omega)
        have z1 := isr i1 hl0
        have g0 := hI.2.2.2.2.2.2.2.2.2.2.2.2.2.2.2.2.2.2.2.2.2.2.2.1 i1 hl0
        simp (disch := first | omega | assumption | decide) only [mkn_0 hm, mkn_1 hm, up_eq, up_ne, fil_eq, fil_ne, flr_eq, flr_ne, mkn_0n, mkn_1n, mkn_2, mkn_3, mkn_4, mkj_e, mkj_1, mkj_2, mkj_0, mkd_e, mkd_1, mkd_2, mkd_0, mkf_e, mkf_1, mkf_0, mko_e, mko_1, mko_2, mko_3, mko_4, mko_0, mki_e, mki_0, mki_1, mki_2, mki_3] <;> first | exact g0 | rfl | omega | assumption | (intro q hq; cases hq) | (intro q hq; have := g0 q hq; omega) | (simp_all; done),
    fun i1 hi1 => by
      rw [mkn_2] at hi1
      by_cases hm : i1 = m
      · subst hm
        have g0 := trivial
        simp (disch := first | omega | assumption | decide) only [up_eq, up_ne, fil_eq, fil_ne, flr_eq, flr_ne, mkn_0n, mkn_1n, mkn_2, mkn_3, mkn_4, mkj_e, mkj_1, mkj_2, mkj_0, mkd_e, mkd_1, mkd_2, mkd_0, mkf_e, mkf_1, mkf_0, mko_e, mko_1, mko_2, mko_3, mko_4, mko_0, mki_e, mki_0, mki_1, mki_2, mki_3] <;> first | exact g0 | rfl | omega | assumption | (intro q hq; cases hq) | (intro q hq; have := g0 q hq; omega) | (simp_all; done)
      · have hl0 : i1 < xn 2 0 0 := (by omega)
        have z1 := isr i1 hl0
        have g0 := hI.2.2.2.2.2.2.2.2.2.2.2.2.2.2.2.2.2.2.2.2.2.2.2.2.1 i1 hl0
        simp (disch := first | omega | assumption | decide) only [mkn_0 hm, mkn_1 hm, up_eq, up_ne, fil_eq, fil_ne, flr_eq, flr_ne, mkn_0n, mkn_1n, mkn_2, mkn_3, mkn_4, mkj_e, mkj_1, mkj_2, mkj_0, mkd_e, mkd_1, mkd_2, mkd_0, mkf_e, mkf_1, mkf_0, mko_e, mko_1, mko_2, mko_3, mko_4, mko_0, mki_e, mki_0, mki_1, mki_2, mki_3] <;> first | exact g0 | rfl | omega | assumption | (intro q hq; cases hq) | (intro q hq; have := g0 q hq; omega) | (simp_all; done),
    fun i1 hi1 => by
      rw [mkn_2] at hi1
      by_cases hm : i1 = m
      · subst hm
        have g0 := trivial
        simp (disch := first | omega | assumption | decide) only [up_eq, up_ne, fil_eq, fil_ne, flr_eq, flr_ne, mkn_0n, mkn_1n, mkn_2, mkn_3, mkn_4, mkj_e, mkj_1, mkj_2, mkj_0, mkd_e, mkd_1, mkd_2, mkd_0, mkf_e, mkf_1, mkf_0, mko_e, mko_1, mko_2, mko_3, mko_4, mko_0, mki_e, mki_0, mki_1, mki_2, mki_3] <;> first | exact g0 | rfl | omega | assumption | (intro q hq; cases hq) | (intro q hq; have := g0 q hq; omega) | (simp_all; done)
      · have hl0 : i1 < xn 2 0 0 := (by omega)
        have z1 := isr i1 hl0
        have g0 := hI.2.2.2.2.2.2.2.2.2.2.2.2.2.2.2.2.2.2.2.2.2.2.2.2.2.1 i1 hl0
        simp (disch := first | omega | assumption | decide) only [mkn_0 hm, mkn_1 hm, up_eq, up_ne, fil_eq, fil_ne, flr_eq, flr_ne, mkn_0n, mkn_1n, mkn_2, mkn_3, mkn_4, mkj_e, mkj_1, mkj_2, mkj_0, mkd_e, mkd_1, mkd_2, mkd_0, mkf_e, mkf_1, mkf_0, mko_e, mko_1, mko_2, mko_3, mko_4, mko_0, mki_e, mki_0, mki_1, mki_2, mki_3] <;> first | exact g0 | rfl | omega | assumption | (intro q hq; cases hq) | (intro q hq; have := g0 q hq; omega) | (simp_all; done),
    fun i1 hi1 => by
      rw [mkn_2] at hi1
      by_cases hm : i1 = m
      · subst hm
        have g0 := trivial
        simp (disch := first | omega | assumption | decide) only [up_eq, up_ne, fil_eq, fil_ne, flr_eq, flr_ne, mkn_0n, mkn_1n, mkn_2, mkn_3, mkn_4, mkj_e, mkj_1, mkj_2, mkj_0, mkd_e, mkd_1, mkd_2, mkd_0, mkf_e, mkf_1, mkf_0, mko_e, mko_1, mko_2, mko_3, mko_4, mko_0, mki_e, mki_0, mki_1, mki_2, mki_3] <;> first | exact g0 | rfl | omega | assumption | (intro q hq; cases hq) | (intro q hq; have := g0 q hq; omega) | (simp_all; done)
      · have hl0 : i1 < xn 2 0 0 := (by omega)
        have z1 := isr i1 hl0
        have g0 := hI.2.2.2.2.2.2.2.2.2.2.2.2.2.2.2.2.2.2.2.2.2.2.2.2.2.2.1 i1 hl0
        simp (disch := first | omega | assumption | decide) only [mkn_0 hm, mkn_1 hm, up_eq, up_ne, fil_eq, fil_ne, flr_eq, flr_ne, mkn_0n, mkn_1n, mkn_2, mkn_3, mkn_4, mkj_e, mkj_1, mkj_2, mkj_0, mkd_e, mkd_1, mkd_2, mkd_0, mkf_e, mkf_1, mkf_0, mko_e, mko_1, mko_2, mko_3, mko_4, mko_0, mki_e, mki_0, mki_1, mki_2, mki_3] <;> first | exact g0 | rfl | omega | assumption | (intro q hq; cases hq) | (intro q hq; have := g0 q hq; omega) | (simp_all; done),
    fun i1 hi1 => by
      rw [mkn_2] at hi1
      by_cases hm : i1 = m
      · subst hm
        have g0 := trivial
        simp (disch := first | omega | assumption | decide) only [up_eq, up_ne, fil_eq, fil_ne, flr_eq, flr_ne, mkn_0n, mkn_1n, mkn_2, mkn_3, mkn_4, mkj_e, mkj_1, mkj_2, mkj_0, mkd_e, mkd_1, mkd_2, mkd_0, mkf_e, mkf_1, mkf_0, mko_e, mko_1, mko_2, mko_3, mko_4, mko_0, mki_e, mki_0, mki_1, mki_2, mki_3] <;> first | exact g0 | rfl | omega | assumption | (intro q hq; cases hq) | (intro q hq; have := g0 q hq; omega) | (simp_all; done)
      · have hl0 : i1 < xn 2 0 0 := (by omega)
        have z1 := isr i1 hl0
        have g0 := hI.2.2.2.2.2.2.2.2.2.2.2.2.2.2.2.2.2.2.2.2.2.2.2.2.2.2.2.1 i1 hl0
        simp (disch := first | omega | assumption | decide) only [mkn_0 hm, mkn_1 hm, up_eq, up_ne, fil_eq, fil_ne, flr_eq, flr_ne, mkn_0n, mkn_1n, mkn_2, mkn_3, mkn_4, mkj_e, mkj_1, mkj_2, mkj_0, mkd_e, mkd_1, mkd_2, mkd_0, mkf_e, mkf_1, mkf_0, mko_e, mko_1, mko_2, mko_3, mko_4, mko_0, mki_e, mki_0, mki_1, mki_2, mki_3] <;> first | exact g0 | rfl | omega | assumption | (intro q hq; cases hq) | (intro q hq; have := g0 q hq; omega) | (simp_all; done),
    fun i1 hi1 => by
      rw [mkn_2] at hi1
      by_cases hm : i1 = m
      · subst hm
        have g0 := trivial
        simp (disch := first | omega | assumption | decide) only [up_eq, up_ne, fil_eq, fil_ne, flr_eq, flr_ne, mkn_0n, mkn_1n, mkn_2, mkn_3, mkn_4, mkj_e, mkj_1, mkj_2, mkj_0, mkd_e, mkd_1, mkd_2, mkd_0, mkf_e, mkf_1, mkf_0, mko_e, mko_1, mko_2, mko_3, mko_4, mko_0, mki_e, mki_0, mki_1, mki_2, mki_3] <;> first | exact g0 | rfl | omega | assumption | (intro q hq; cases hq) | (intro q hq; have := g0 q hq; omega) | (simp_all; done)
      · have hl0 : i1 < xn 2 0 0 := (by omega)
        have z1 := isr i1 hl0
        have g0 := hI.2.2.2.2.2.2.2.2.2.2.2.2.2.2.2.2.2.2.2.2.2.2.2.2.2.2.2.2.1 i1 hl0
        simp (disch := first | omega | assumption | decide) only [mkn_0 hm, mkn_1 hm, up_eq, up_ne, fil_eq, fil_ne, flr_eq, flr_ne, mkn_0n, mkn_1n, mkn_2, mkn_3, mkn_4, mkj_e, mkj_1, mkj_2, mkj_0, mkd_e, mkd_1, mkd_2, mkd_0, mkf_e, mkf_1, mkf_0, mko_e, mko_1, mko_2, mko_3, mko_4, mko_0, mki_e, mki_0, mki_1, mki_2, mki_3] <;> first | exact g0 | rfl | omega | assumption | (intro q hq; cases hq) | (intro q hq; have := g0 q hq; omega) | (simp_all; done),
    fun i1 hi1 => by
      rw [mkn_2] at hi1
      by_cases hm : i1 = m
      · subst hm
        have g0 := trivial
        simp (disch := first | omega | assumption | decide) only [up_eq, up_ne, fil_eq, fil_ne, flr_eq, flr_ne, mkn_0n, mkn_1n, mkn_2, mkn_3, mkn_4, mkj_e, mkj_1, mkj_2, mkj_0, mkd_e, mkd_1, mkd_2, mkd_0, mkf_e, mkf_1, mkf_0, mko_e, mko_1, mko_2, mko_3, mko_4, mko_0, mki_e, mki_0, mki_1, mki_2, mki_3] <;> first | exact g0 | rfl | omega | assumption | (intro q hq; cases hq) | (intro q hq; have := g0 q hq; omega) | (simp_all; done)
      · have hl0 : i1 < xn 2 0 0 := (by omega)
        have z1 := isr i1 hl0
        have g0 := hI.2.2.2.2.2.2.2.2.2.2.2.2.2.2.2.2.2.2.2.2.2.2.2.2.2.2.2.2.2.1 i1 hl0
        simp (disch := first | omega | assumption | decide) only [mkn_0 hm, mkn_1 hm, up_eq, up_ne, fil_eq, fil_ne, flr_eq, flr_ne, mkn_0n, mkn_1n, mkn_2, mkn_3, mkn_4, mkj_e, mkj_1, mkj_2, mkj_0, mkd_e, mkd_1, mkd_2, mkd_0, mkf_e, mkf_1, mkf_0, mko_e, mko_1, mko_2, mko_3, mko_4, mko_0, mki_e, mki_0, mki_1, mki_2, mki_3] <;> first | exact g0 | rfl | omega | assumption | (intro q hq; cases hq) | (intro q hq; have := g0 q hq; omega) | (simp_all; done),
    fun i1 hi1 => by
      rw [mkn_2] at hi1
      by_cases hm : i1 = m
      · subst hm
        have g0 := trivial
        simp (disch := first | omega | assumption | decide) only [up_eq, up_ne, fil_eq, fil_ne, flr_eq, flr_ne, mkn_0n, mkn_1n, mkn_2, mkn_3, mkn_4, mkj_e, mkj_1, mkj_2, mkj_0, mkd_e, mkd_1, mkd_2, mkd_0, mkf_e, mkf_1, mkf_0, mko_e, mko_1, mko_2, mko_3, mko_4, mko_0, mki_e, mki_0, mki_1, mki_2, mki_3] <;> first | exact g0 | rfl | omega | assumption | (intro q hq; cases hq) | (intro q hq; have := g0 q hq; omega) | (simp_all; done)
      · have hl0 : i1 < xn 2 0 0 := (by omega)
        have z1 := isr i1 hl0
        have g0 := hI.2.2.2.2.2.2.2.2.2.2.2.2.2.2.2.2.2.2.2.2.2.2.2.2.2.2.2.2.2.2 i1 hl0
        simp (disch := first | omega | assumption | decide) only [mkn_0 hm, mkn_1 hm, up_eq, up_ne, fil_eq, fil_ne, flr_eq, flr_ne, mkn_0n, mkn_1n, mkn_2, mkn_3, mkn_4, mkj_e, mkj_1, mkj_2, mkj_0, mkd_e, mkd_1, mkd_2, mkd_0, mkf_e, mkf_1, mkf_0, mko_e, mko_1, mko_2, mko_3, mko_4, mko_0, mki_e, mki_0, mki_1, mki_2, mki_3] <;> first | exact g0 | rfl | omega | assumption | (intro q hq; cases hq) | (intro q hq; have := g0 q hq; omega) | (simp_all; done)⟩,
   ⟨fun t1 ht1 k1 hk1 => by
      have g0 := hX.1 t1 ht1 k1 hk1
      simp (disch := first | omega | assumption | decide) only [up_eq, up_ne, fil_eq, fil_ne, flr_eq, flr_ne, mkn_0n, mkn_1n, mkn_2, mkn_3, mkn_4, mkj_e, mkj_1, mkj_2, mkj_0, mkd_e, mkd_1, mkd_2, mkd_0, mkf_e, mkf_1, mkf_0, mko_e, mko_1, mko_2, mko_3, mko_4, mko_0, mki_e, mki_0, mki_1, mki_2, mki_3] <;> first | exact g0 | rfl | omega | assumption | (intro q hq; cases hq) | (intro q hq; have := g0 q hq; omega) | (simp_all; done),
    fun i1 hi1 k1 hk1 e0 => by
      rw [mkn_2] at hi1
      by_cases hm : i1 = m
      · subst hm; rw [mkn_1n] at hk1; rw [mkn_0n] at e0
        have g0 := trivial
        simp (disch := first | omega | assumption | decide) only [up_eq, up_ne, fil_eq, fil_ne, flr_eq, flr_ne, mkn_0n, mkn_1n, mkn_2, mkn_3, mkn_4, mkj_e, mkj_1, mkj_2, mkj_0, mkd_e, mkd_1, mkd_2, mkd_0, mkf_e, mkf_1, mkf_0, mko_e, mko_1, mko_2, mko_3, mko_4, mko_0, mki_e, mki_0, mki_1, mki_2, mki_3] <;> first | exact g0 | rfl | omega | assumption | (intro q hq; cases hq) | (intro q hq; have := g0 q hq; omega) | (simp_all; done)
      · have hl0 : i1 < xn 2 0 0 := (by omega)
        have z1 := isr i1 hl0; rw [mkn_1 hm] at hk1; rw [mkn_0 hm] at e0
        have g0 := hX.2.1 i1 hl0 k1 hk1 e0
        simp (disch := first | omega | assumption | decide) only [mkn_0 hm, mkn_1 hm, up_eq, up_ne, fil_eq, fil_ne, flr_eq, flr_ne, mkn_0n, mkn_1n, mkn_2, mkn_3, mkn_4, mkj_e, mkj_1, mkj_2, mkj_0, mkd_e, mkd_1, mkd_2, mkd_0, mkf_e, mkf_1, mkf_0, mko_e, mko_1, mko_2, mko_3, mko_4, mko_0, mki_e, mki_0, mki_1, mki_2, mki_3] <;> first | exact g0 | rfl | omega | assumption | (intro q hq; cases hq) | (intro q hq; have := g0 q hq; omega) | (simp_all; done),
    fun i1 hi1 => by
      rw [mkn_2] at hi1
      by_cases hm : i1 = m
      · subst hm
        have g0 := trivial
        simp (disch := first | omega | assumption | decide) only [up_eq, up_ne, fil_eq, fil_ne, flr_eq, flr_ne, mkn_0n, mkn_1n, mkn_2, mkn_3, mkn_4, mkj_e, mkj_1, mkj_2, mkj_0, mkd_e, mkd_1, mkd_2, mkd_0, mkf_e, mkf_1, mkf_0, mko_e, mko_1, mko_2, mko_3, mko_4, mko_0, mki_e, mki_0, mki_1, mki_2, mki_3] <;> first | exact g0 | rfl | omega | assumption | (intro q hq; cases hq) | (intro q hq; have := g0 q hq; omega) | (simp_all; done)
      · have hl0 : i1 < xn 2 0 0 := (by omega)
        have z1 := isr i1 hl0
        have g0 := hX.2.2.1 i1 hl0
        simp (disch := first | omega | assumption | decide) only [mkn_0 hm, mkn_1 hm, up_eq, up_ne, fil_eq, fil_ne, flr_eq, flr_ne, mkn_0n, mkn_1n, mkn_2, mkn_3, mkn_4, mkj_e, mkj_1, mkj_2, mkj_0, mkd_e, mkd_1, mkd_2, mkd_0, mkf_e, mkf_1, mkf_0, mko_e, mko_1, mko_2, mko_3, mko_4, mko_0, mki_e, mki_0, mki_1, mki_2, mki_3] <;> first | exact g0 | rfl | omega | assumption | (intro q hq; cases hq) | (intro q hq; have := g0 q hq; omega) | (simp_all; done),
    fun i1 hi1 => by
      rw [mkn_2] at hi1
      by_cases hm : i1 = m
      · subst hm
        have g0 := trivial
        simp (disch := first | omega | assumption | decide) only [up_eq, up_ne, fil_eq, fil_ne, flr_eq, flr_ne, mkn_0n, mkn_1n, mkn_2, mkn_3, mkn_4, mkj_e, mkj_1, mkj_2, mkj_0, mkd_e, mkd_1, mkd_2, mkd_0, mkf_e, mkf_1, mkf_0, mko_e, mko_1, mko_2, mko_3, mko_4, mko_0, mki_e, mki_0, mki_1, mki_2, mki_3] <;> first | exact g0 | rfl | omega | assumption | (intro q hq; cases hq) | (intro q hq; have := g0 q hq; omega) | (simp_all; done)
      · have hl0 : i1 < xn 2 0 0 := (by omega)
        have z1 := isr i1 hl0
        have g0 := hX.2.2.2.1 i1 hl0
        simp (disch := first | omega | assumption | decide) only [mkn_0 hm, mkn_1 hm, up_eq, up_ne, fil_eq, fil_ne, flr_eq, flr_ne, mkn_0n, mkn_1n, mkn_2, mkn_3, mkn_4, mkj_e, mkj_1, mkj_2, mkj_0, mkd_e, mkd_1, mkd_2, mkd_0, mkf_e, mkf_1, mkf_0, mko_e, mko_1, mko_2, mko_3, mko_4, mko_0, mki_e, mki_0, mki_1, mki_2, mki_3] <;> first | exact g0 | rfl | omega | assumption | (intro q hq; cases hq) | (intro q hq; have := g0 q hq; omega) | (simp_all; done),
    fun i1 hi1 => by
      rw [mkn_2] at hi1
      by_cases hm : i1 = m
      · subst hm
        have g0 := trivial
        simp (disch := first | omega | assumption | decide) only [up_eq, up_ne, fil_eq, fil_ne, flr_eq, flr_ne, mkn_0n, mkn_1n, mkn_2, mkn_3, mkn_4, mkj_e, mkj_1, mkj_2, mkj_0, mkd_e, mkd_1, mkd_2, mkd_0, mkf_e, mkf_1, mkf_0, mko_e, mko_1, mko_2, mko_3, mko_4, mko_0, mki_e, mki_0, mki_1, mki_2, mki_3] <;> first | exact g0 | rfl | omega | assumption | (intro q hq; cases hq) | (intro q hq; have := g0 q hq; omega) | (simp_all; done)
      · have hl0 : i1 < xn 2 0 0 := (by omega)
        have z1 := isr i1 hl0
        have g0 := hX.2.2.2.2.1 i1 hl0
        simp (disch := first | omega | assumption | decide) only [mkn_0 hm, mkn_1 hm, up_eq, up_ne, fil_eq, fil_ne, flr_eq, flr_ne, mkn_0n, mkn_1n, mkn_2, mkn_3, mkn_4, mkj_e, mkj_1, mkj_2, mkj_0, mkd_e, mkd_1, mkd_2, mkd_0, mkf_e, mkf_1, mkf_0, mko_e, mko_1, mko_2, mko_3, mko_4, mko_0, mki_e, mki_0, mki_1, mki_2, mki_3] <;> first | exact g0 | rfl | omega | assumption | (intro q hq; cases hq) | (intro q hq; have := g0 q hq; omega) | (simp_all; done),
    fun i1 hi1 => by
      rw [mkn_2] at hi1
      by_cases hm : i1 = m
      · subst hm
        have g0 := trivial
        simp (disch := first | omega | assumption | decide) only [up_eq, up_ne, fil_eq, fil_ne, flr_eq, flr_ne, mkn_0n, mkn_1n, mkn_2, mkn_3, mkn_4, mkj_e, mkj_1, mkj_2, mkj_0, mkd_e, mkd_1, mkd_2, mkd_0, mkf_e, mkf_1, mkf_0, mko_e, mko_1, mko_2, mko_3, mko_4, mko_0, mki_e, mki_0, mki_1, mki_2, mki_3] <;> first | exact g0 | rfl | omega | assumption | (intro q hq; cases hq) | (intro q hq; have := g0 q hq; omega) | (simp_all; done)
      · have hl0 : i1 < xn 2 0 0 := (by omega)
        have z1 := isr i1 hl0
        have g0 := hX.2.2.2.2.2.1 i1 hl0
        simp (disch := first | omega | assumption | decide) only [mkn_0 hm, mkn_1 hm, up_eq, up_ne, fil_eq, fil_ne, flr_eq, flr_ne, mkn_0n, mkn_1n, mkn_2, mkn_3, mkn_4, mkj_e, mkj_1, mkj_2, mkj_0, mkd_e, mkd_1, mkd_2, mkd_0, mkf_e, mkf_1, mkf_0, mko_e, mko_1, mko_2, mko_3, mko_4, mko_0, mki_e, mki_0, mki_1, mki_2, mki_3] <;> first | exact g0 | rfl | omega | assumption | (intro q hq; cases hq) | (intro q hq; have := g0 q hq; omega) | (simp_all; done),
    fun t1 ht1 k1 hk1 => by
      have g0 := hX.2.2.2.2.2.2.1 t1 ht1 k1 hk1
      simp (disch := first | omega | assumption | decide) only [up_eq, up_ne, fil_eq, fil_ne, flr_eq, flr_ne, mkn_0n, mkn_1n, mkn_2, mkn_3, mkn_4, mkj_e, mkj_1, mkj_2, mkj_0, mkd_e, mkd_1, mkd_2, mkd_0, mkf_e, mkf_1, mkf_0, mko_e, mko_1, mko_2, mko_3, mko_4, mko_0, mki_e, mki_0, mki_1, mki_2, mki_3] <;> first | exact g0 | rfl | omega | assumption | (intro q hq; cases hq) | (intro q hq; have := g0 q hq; omega) | (simp_all; done),
    fun i1 hi1 k1 hk1 e0 e1 => by
      rw [mkn_2] at hi1
      by_cases hm : i1 = m
      · subst hm; rw [mkn_1n] at hk1; rw [mkn_0n] at e0; rw [mkn_0n] at e1
        have g0 := trivial
        simp (disch := first | omega | assumption | decide) only [up_eq, up_ne, fil_eq, fil_ne, flr_eq, flr_ne, mkn_0n, mkn_1n, mkn_2, mkn_3, mkn_4, mkj_e, mkj_1, mkj_2, mkj_0, mkd_e, mkd_1, mkd_2, mkd_0, mkf_e, mkf_1, mkf_0, mko_e, mko_1, mko_2, mko_3, mko_4, mko_0, mki_e, mki_0, mki_1, mki_2, mki_3] <;> first | exact g0 | rfl | omega | assumption | (intro q hq; cases hq) | (intro q hq; have := g0 q hq; omega) | (simp_all; done)
      · have hl0 : i1 < xn 2 0 0 := (by omega)
        have z1 := isr i1 hl0; rw [mkn_1 hm] at hk1; rw [mkn_0 hm] at e0; rw [mkn_0 hm] at e1
        have g0 := hX.2.2.2.2.2.2.2.1 i1 hl0 k1 hk1 e0 e1
        simp (disch := first | omega | assumption | decide) only [mkn_0 hm, mkn_1 hm, up_eq, up_ne, fil_eq, fil_ne, flr_eq, flr_ne, mkn_0n, mkn_1n, mkn_2, mkn_3, mkn_4, mkj_e, mkj_1, mkj_2, mkj_0, mkd_e, mkd_1, mkd_2, mkd_0, mkf_e, mkf_1, mkf_0, mko_e, mko_1, mko_2, mko_3, mko_4, mko_0, mki_e, mki_0, mki_1, mki_2, mki_3] <;> first | exact g0 | rfl | omega | assumption | (intro q hq; cases hq) | (intro q hq; have := g0 q hq; omega) | (simp_all; done),
    fun i1 hi1 => by
      rw [mkn_2] at hi1
      by_cases hm : i1 = m
      · subst hm
        have g0 := trivial
        simp (disch := first | omega | assumption | decide) only [up_eq, up_ne, fil_eq, fil_ne, flr_eq, flr_ne, mkn_0n, mkn_1n, mkn_2, mkn_3, mkn_4, mkj_e, mkj_1, mkj_2, mkj_0, mkd_e, mkd_1, mkd_2, mkd_0, mkf_e, mkf_1, mkf_0, mko_e, mko_1, mko_2, mko_3, mko_4, mko_0, mki_e, mki_0, mki_1, mki_2, mki_3] <;> first | exact g0 | rfl | omega | assumption | (intro q hq; cases hq) | (intro q hq; have := g0 q hq; omega) | (simp_all; done)
      · have hl0 : i1 < xn 2 0 0 := (by omega)
        have z1 := isr i1 hl0
        have g0 := hX.2.2.2.2.2.2.2.2.1 i1 hl0
        simp (disch := first | omega | assumption | decide) only [mkn_0 hm, mkn_1 hm, up_eq, up_ne, fil_eq, fil_ne, flr_eq, flr_ne, mkn_0n, mkn_1n, mkn_2, mkn_3, mkn_4, mkj_e, mkj_1, mkj_2, mkj_0, mkd_e, mkd_1, mkd_2, mkd_0, mkf_e, mkf_1, mkf_0, mko_e, mko_1, mko_2, mko_3, mko_4, mko_0, mki_e, mki_0, mki_1, mki_2, mki_3] <;> first | exact g0 | rfl | omega | assumption | (intro q hq; cases hq) | (intro q hq; have := g0 q hq; omega) | (simp_all; done),
    fun t1 ht1 k1 hk1 => by
      have g0 := hX.2.2.2.2.2.2.2.2.2.1 t1 ht1 k1 hk1
      simp (disch := first | omega | assumption | decide) only [up_eq, up_ne, fil_eq, fil_ne, flr_eq, flr_ne, mkn_0n, mkn_1n, mkn_2, mkn_3, mkn_4, mkj_e, mkj_1, mkj_2, mkj_0, mkd_e, mkd_1, mkd_2, mkd_0, mkf_e, mkf_1, mkf_0, mko_e, mko_1, mko_2, mko_3, mko_4, mko_0, mki_e, mki_0, mki_1, mki_2, mki_3] <;> first | exact g0 | rfl | omega | assumption | (intro q hq; cases hq) | (intro q hq; have := g0 q hq; omega) | (simp_all; done),
    fun i1 hi1 => by
      rw [mkn_2] at hi1
      by_cases hm : i1 = m
      · subst hm
        have g0 := trivial
        simp (disch := first | omega | assumption | decide) only [up_eq, up_ne, fil_eq, fil_ne, flr_eq, flr_ne, mkn_0n, mkn_1n, mkn_2, mkn_3, mkn_4, mkj_e, mkj_1, mkj_2, mkj_0, mkd_e, mkd_1, mkd_2, mkd_0, mkf_e, mkf_1, mkf_0, mko_e, mko_1, mko_2, mko_3, mko_4, mko_0, mki_e, mki_0, mki_1, mki_2, mki_3] <;> first | exact g0 | rfl | omega | assumption | (intro q hq; cases hq) | (intro q hq; have := g0 q hq; omega) | (simp_all; done)
      · have hl0 : i1 < xn 2 0 0 := (by omega)
        have z1 := isr i1 hl0
        have g0 := hX.2.2.2.2.2.2.2.2.2.2.1 i1 hl0
        simp (disch := first | omega | assumption | decide) only [mkn_0 hm, mkn_1 hm, up_eq, up_ne, fil_eq, fil_ne, flr_eq, flr_ne, mkn_0n, mkn_1n, mkn_2, mkn_3, mkn_4, mkj_e, mkj_1, mkj_2, mkj_0, mkd_e, mkd_1, mkd_2, mkd_0, mkf_e, mkf_1, mkf_0, mko_e, mko_1, mko_2, mko_3, mko_4, mko_0, mki_e, mki_0, mki_1, mki_2, mki_3] <;> first | exact g0 | rfl | omega | assumption | (intro q hq; cases hq) | (intro q hq; have := g0 q hq; omega) | (simp_all; done),
    by
      have g0 := hX.2.2.2.2.2.2.2.2.2.2.2.1
      simp (disch := first | omega | assumption | decide) only [up_eq, up_ne, fil_eq, fil_ne, flr_eq, flr_ne, mkn_0n, mkn_1n, mkn_2, mkn_3, mkn_4, mkj_e, mkj_1, mkj_2, mkj_0, mkd_e, mkd_1, mkd_2, mkd_0, mkf_e, mkf_1, mkf_0, mko_e, mko_1, mko_2, mko_3, mko_4, mko_0, mki_e, mki_0, mki_1, mki_2, mki_3] <;> first | exact g0 | rfl | omega | assumption | (intro q hq; cases hq) | (intro q hq; have := g0 q hq; omega) | (simp_all; done),
    fun t1 ht1 => by
      have g0 := hX.2.2.2.2.2.2.2.2.2.2.2.2 t1 ht1
      simp (disch := first | omega | assumption | decide) only [up_eq, up_ne, fil_eq, fil_ne, flr_eq, flr_ne, mkn_0n, mkn_1n, mkn_2, mkn_3, mkn_4, mkj_e, mkj_1, mkj_2, mkj_0, mkd_e, mkd_1, mkd_2, mkd_0, mkf_e, mkf_1, mkf_0, mko_e, mko_1, mko_2, mko_3, mko_4, mko_0, mki_e, mki_0, mki_1, mki_2, mki_3] <;> first | exact g0 | rfl | omega | assumption | (intro q hq; cases hq) | (intro q hq; have := g0 q hq; omega) | (simp_all; done)⟩,
   by rw [mkn_3]; exact hN,
   by rw [mkn_3]; exact hS⟩
set_option maxHeartbeats 2000000 in
theorem RC_alloc {ci : Nat → Nat → Nat → Int32} {cn : Nat → Nat → Nat → Nat} {co : Nat → Option Nat} {xj : Nat → Nat → Nat → Int64} {xd : Nat → Nat → Nat → UInt64} {xf : Nat → Nat → Nat → UInt32} {xo : Nat → Nat → Nat → Option Nat} {xi : Nat → Nat → Nat → Int32} {xn : Nat → Nat → Nat → Nat} {I : Nat → Nat → Int32} {J : Nat → Nat → Int64} {F : Nat → Nat → UInt32} {D : Nat → Nat → UInt64} {R : Nat → Nat → Option Nat} {nx sl : Nat} (h : RC ci cn co xj xd xf xo xi xn I J F D R nx sl) (hal : xn 3 0 0 < 160) : RC ci cn co xj xd xf xo xi (u3 xn 3 0 0 (xn 3 0 0 + 1)) (mm_up (mm_up (mm_cl I nx 0) nx 3 (-(nI 1))) nx 0 (nI (xn 3 0 0))) (mm_cl (mm_cl J nx 0) (nx + 1) 0) (mm_cl F nx 0) (mm_cl (mm_cl D nx 0) (nx + 1 + 1) 0) (mm_up (mm_up (mm_cl (mm_up (mm_up (mm_cl R nx none) nx 5 (some (nx + 1))) nx 6 (some (nx + 1 + 1))) (nx + 1 + 1 + 1) none) nx 7 (some (nx + 1 + 1 + 1))) 10 (xn 3 0 0) (some nx)) (nx + 1 + 1 + 1 + 1) (sl + 17 + 12 + 12 + 12) := by
  have isr := fun i hi => rc_isor h (i := i) hi
  have ial := rc_imad h
  have hnx := rc_nx h
  subst hnx
  obtain ⟨hJ, hD, hF, hR, hI, hX, hN, hS⟩ := h
  exact ⟨⟨fun t1 ht1 k1 hk1 => by
      have g0 := hJ.1 t1 ht1 k1 hk1
      first | exact g0 | (simp only [u3, mm_up, mm_fill, mm_filr, mm_cl, mkj, mkd, mkf, mko, mki, or_false, false_or, true_or, or_true, true_and, and_true, false_and, and_false, if_true, if_false] <;> (repeat' split) <;> first | exact g0 | rfl | omega | assumption | (exfalso; omega) | (simp_all; done)),
    fun i1 hi1 k1 hk1 e0 => by
      have hb1 : i1 < xn 2 0 0 := hi1; have g0 := hJ.2.1 i1 hi1 k1 hk1 e0
      first | exact g0 | (simp only [u3, mm_up, mm_fill, mm_filr, mm_cl, mkj, mkd, mkf, mko, mki, or_false, false_or, true_or, or_true, true_and, and_true, false_and, and_false, if_true, if_false] <;> (repeat' split) <;> first | exact g0 | rfl | omega | assumption | (exfalso; omega) | (simp_all; done)),
    fun i1 hi1 => by
      have hb1 : i1 < xn 2 0 0 := hi1; have g0 := hJ.2.2 i1 hi1
      first | exact g0 | (simp only [u3, mm_up, mm_fill, mm_filr, mm_cl, mkj, mkd, mkf, mko, mki, or_false, false_or, true_or, or_true, true_and, and_true, false_and, and_false, if_true, if_false] <;> (repeat' split) <;> first | exact g0 | rfl | omega | assumption | (exfalso; omega) | (simp_all; done))⟩,
   ⟨fun t1 ht1 k1 hk1 => by
      have g0 := hD.1 t1 ht1 k1 hk1
      first | exact g0 | (simp only [u3, mm_up, mm_fill, mm_filr, mm_cl, mkj, mkd, mkf, mko, mki, or_false, false_or, true_or, or_true, true_and, and_true, false_and, and_false, if_true, if_false] <;> (repeat' split) <;> first | exact g0 | rfl | omega | assumption | (exfalso; omega) | (simp_all; done)),
    fun i1 hi1 k1 hk1 e0 e1 => by
      have hb1 : i1 < xn 2 0 0 := hi1; have g0 := hD.2.1 i1 hi1 k1 hk1 e0 e1
      first | exact g0 | (simp only [u3, mm_up, mm_fill, mm_filr, mm_cl, mkj, mkd, mkf, mko, mki, or_false, false_or, true_or, or_true, true_and, and_true, false_and, and_false, if_true, if_false] <;> (repeat' split) <;> first | exact g0 | rfl | omega | assumption | (exfalso; omega) | (simp_all; done)),
    fun i1 hi1 => by
      have hb1 : i1 < xn 2 0 0 := hi1; have g0 := hD.2.2.1 i1 hi1
      first | exact g0 | (simp only [u3, mm_up, mm_fill, mm_filr, mm_cl, mkj, mkd, mkf, mko, mki, or_false, false_or, true_or, or_true, true_and, and_true, false_and, and_false, if_true, if_false] <;> (repeat' split) <;> first | exact g0 | rfl | omega | assumption | (exfalso; omega) | (simp_all; done)),
    fun j1 hj1 => by
      have g0 := hD.2.2.2 j1 hj1
      first | exact g0 | (simp only [u3, mm_up, mm_fill, mm_filr, mm_cl, mkj, mkd, mkf, mko, mki, or_false, false_or, true_or, or_true, true_and, and_true, false_and, and_false, if_true, if_false] <;> (repeat' split) <;> first | exact g0 | rfl | omega | assumption | (exfalso; omega) | (simp_all; done))⟩,
   ⟨fun t1 ht1 k1 hk1 => by
      have g0 := hF.1 t1 ht1 k1 hk1
      first | exact g0 | (simp only [u3, mm_up, mm_fill, mm_filr, mm_cl, mkj, mkd, mkf, mko, mki, or_false, false_or, true_or, or_true, true_and, and_true, false_and, and_false, if_true, if_false] <;> (repeat' split) <;> first | exact g0 | rfl | omega | assumption | (exfalso; omega) | (simp_all; done)),
    fun i1 hi1 => by
      have hb1 : i1 < xn 2 0 0 := hi1; have g0 := hF.2 i1 hi1
      first | exact g0 | (simp only [u3, mm_up, mm_fill, mm_filr, mm_cl, mkj, mkd, mkf, mko, mki, or_false, false_or, true_or, or_true, true_and, and_true, false_and, and_false, if_true, if_false] <;> (repeat' split) <;> first | exact g0 | rfl | omega | assumption | (exfalso; omega) | (simp_all; done))⟩,
   ⟨fun t1 ht1 k1 hk1 => by
      have g0 := hR.1 t1 ht1 k1 hk1
      first | exact g0 | (simp only [u3, mm_up, mm_fill, mm_filr, mm_cl, mkj, mkd, mkf, mko, mki, or_false, false_or, true_or, or_true, true_and, and_true, false_and, and_false, if_true, if_false] <;> (repeat' split) <;> first | exact g0 | rfl | omega | assumption | (exfalso; omega) | (simp_all; done)),
    fun i1 hi1 k1 hk1 e0 => by
      have hb1 : i1 < xn 2 0 0 := hi1; have g0 := hR.2.1 i1 hi1 k1 hk1 e0
      first | exact g0 | (simp only [u3, mm_up, mm_fill, mm_filr, mm_cl, mkj, mkd, mkf, mko, mki, or_false, false_or, true_or, or_true, true_and, and_true, false_and, and_false, if_true, if_false] <;> (repeat' split) <;> first | exact g0 | rfl | omega | assumption | (exfalso; omega) | (simp_all; done)),
    fun i1 hi1 => by
      have hb1 : i1 < xn 2 0 0 := hi1; have g0 := hR.2.2.1 i1 hi1
      first | exact g0 | (simp only [u3, mm_up, mm_fill, mm_filr, mm_cl, mkj, mkd, mkf, mko, mki, or_false, false_or, true_or, or_true, true_and, and_true, false_and, and_false, if_true, if_false] <;> (repeat' split) <;> first | exact g0 | rfl | omega | assumption | (exfalso; omega) | (simp_all; done)),
    fun i1 hi1 => by
      have hb1 : i1 < xn 2 0 0 := hi1; have g0 := hR.2.2.2.1 i1 hi1
      first | exact g0 | (simp only [u3, mm_up, mm_fill, mm_filr, mm_cl, mkj, mkd, mkf, mko, mki, or_false, false_or, true_or, or_true, true_and, and_true, false_and, and_false, if_true, if_false] <;> (repeat' split) <;> first | exact g0 | rfl | omega | assumption | (exfalso; omega) | (simp_all; done)),
    fun t1 ht1 => by
      have g0 := hR.2.2.2.2.1 t1 ht1
      first | exact g0 | (simp only [u3, mm_up, mm_fill, mm_filr, mm_cl, mkj, mkd, mkf, mko, mki, or_false, false_or, true_or, or_true, true_and, and_true, false_and, and_false, if_true, if_false] <;> (repeat' split) <;> first | exact g0 | rfl | omega | assumption | (exfalso; omega) | (simp_all; done)),
    fun t1 ht1 k1 hk1 => by
      have g0 := hR.2.2.2.2.2.1 t1 ht1 k1 hk1
      first | exact g0 | (simp only [u3, mm_up, mm_fill, mm_filr, mm_cl, mkj, mkd, mkf, mko, mki, or_false, false_or, true_or, or_true, true_and, and_true, false_and, and_false, if_true, if_false] <;> (repeat' split) <;> first | exact g0 | rfl | omega | assumption | (exfalso; omega) | (simp_all; done)),
    fun i1 hi1 => by
      have hi2 : i1 < xn 3 0 0 + 1 := by simpa [u3] using hi1
      by_cases hm : i1 = xn 3 0 0
      · subst hm; have g0 := trivial; simp only [u3, mm_up, mm_fill, mm_filr, mm_cl, mkj, mkd, mkf, mko, mki, or_false, false_or, true_or, or_true, true_and, and_true, false_and, and_false, if_true, if_false] <;> (repeat' split) <;> first | exact g0 | rfl | omega | assumption | (exfalso; omega) | (simp_all; done)
      · have g0 := hR.2.2.2.2.2.2.1 i1 (by omega)
        simp only [u3, mm_up, mm_fill, mm_filr, mm_cl, mkj, mkd, mkf, mko, mki, or_false, false_or, true_or, or_true, true_and, and_true, false_and, and_false, if_true, if_false] <;> (repeat' split) <;> first | exact g0 | rfl | omega | assumption | (exfalso; omega) | (simp_all; done),
    fun i1 hi1 e0 => by
      have hi2 : xn 3 0 0 + 1 ≤ i1 := by simpa [u3] using e0
      have g0 := hR.2.2.2.2.2.2.2.1 i1 hi1 (by omega)
      simp only [u3, mm_up, mm_fill, mm_filr, mm_cl, mkj, mkd, mkf, mko, mki, or_false, false_or, true_or, or_true, true_and, and_true, false_and, and_false, if_true, if_false] <;> (repeat' split) <;> first | exact g0 | rfl | omega | assumption | (exfalso; omega) | (simp_all; done),
    fun p1 hp1 => by
      have g0 := hR.2.2.2.2.2.2.2.2.1 p1 hp1
      first | exact g0 | (simp only [u3, mm_up, mm_fill, mm_filr, mm_cl, mkj, mkd, mkf, mko, mki, or_false, false_or, true_or, or_true, true_and, and_true, false_and, and_false, if_true, if_false] <;> (repeat' split) <;> first | exact g0 | rfl | omega | assumption | (exfalso; omega) | (simp_all; done)),
    fun t1 ht1 => by
      have g0 := hR.2.2.2.2.2.2.2.2.2 t1 ht1
      first | exact g0 | (simp only [u3, mm_up, mm_fill, mm_filr, mm_cl, mkj, mkd, mkf, mko, mki, or_false, false_or, true_or, or_true, true_and, and_true, false_and, and_false, if_true, if_false] <;> (repeat' split) <;> first | exact g0 | rfl | omega | assumption | (exfalso; omega) | (simp_all; done))⟩,
   ⟨fun p1 hp1 => by
      have g0 := hI.1 p1 hp1
      first | exact g0 | (simp only [u3, mm_up, mm_fill, mm_filr, mm_cl, mkj, mkd, mkf, mko, mki, or_false, false_or, true_or, or_true, true_and, and_true, false_and, and_false, if_true, if_false] <;> (repeat' split) <;> first | exact g0 | rfl | omega | assumption | (exfalso; omega) | (simp_all; done)),
    fun p1 hp1 => by
      have g0 := hI.2.1 p1 hp1
      first | exact g0 | (simp only [u3, mm_up, mm_fill, mm_filr, mm_cl, mkj, mkd, mkf, mko, mki, or_false, false_or, true_or, or_true, true_and, and_true, false_and, and_false, if_true, if_false] <;> (repeat' split) <;> first | exact g0 | rfl | omega | assumption | (exfalso; omega) | (simp_all; done)),
    fun p1 hp1 => by
      have g0 := hI.2.2.1 p1 hp1
      first | exact g0 | (simp only [u3, mm_up, mm_fill, mm_filr, mm_cl, mkj, mkd, mkf, mko, mki, or_false, false_or, true_or, or_true, true_and, and_true, false_and, and_false, if_true, if_false] <;> (repeat' split) <;> first | exact g0 | rfl | omega | assumption | (exfalso; omega) | (simp_all; done)),
    fun p1 hp1 k1 hk1 => by
      have g0 := hI.2.2.2.1 p1 hp1 k1 hk1
      first | exact g0 | (simp only [u3, mm_up, mm_fill, mm_filr, mm_cl, mkj, mkd, mkf, mko, mki, or_false, false_or, true_or, or_true, true_and, and_true, false_and, and_false, if_true, if_false] <;> (repeat' split) <;> first | exact g0 | rfl | omega | assumption | (exfalso; omega) | (simp_all; done)),
    fun p1 hp1 k1 hk1 => by
      have g0 := hI.2.2.2.2.1 p1 hp1 k1 hk1
      first | exact g0 | (simp only [u3, mm_up, mm_fill, mm_filr, mm_cl, mkj, mkd, mkf, mko, mki, or_false, false_or, true_or, or_true, true_and, and_true, false_and, and_false, if_true, if_false] <;> (repeat' split) <;> first | exact g0 | rfl | omega | assumption | (exfalso; omega) | (simp_all; done)),
    fun p1 hp1 k1 hk1 => by
      have g0 := hI.2.2.2.2.2.1 p1 hp1 k1 hk1
      first | exact g0 | (simp only [u3, mm_up, mm_fill, mm_filr, mm_cl, mkj, mkd, mkf, mko, mki, or_false, false_or, true_or, or_true, true_and, and_true, false_and, and_false, if_true, if_false] <;> (repeat' split) <;> first | exact g0 | rfl | omega | assumption | (exfalso; omega) | (simp_all; done)),
    fun p1 hp1 k1 hk1 => by
      have g0 := hI.2.2.2.2.2.2.1 p1 hp1 k1 hk1
      first | exact g0 | (simp only [u3, mm_up, mm_fill, mm_filr, mm_cl, mkj, mkd, mkf, mko, mki, or_false, false_or, true_or, or_true, true_and, and_true, false_and, and_false, if_true, if_false] <;> (repeat' split) <;> first | exact g0 | rfl | omega | assumption | (exfalso; omega) | (simp_all; done)),
    fun p1 hp1 k1 hk1 => by
      have g0 := hI.2.2.2.2.2.2.2.1 p1 hp1 k1 hk1
      first | exact g0 | (simp only [u3, mm_up, mm_fill, mm_filr, mm_cl, mkj, mkd, mkf, mko, mki, or_false, false_or, true_or, or_true, true_and, and_true, false_and, and_false, if_true, if_false] <;> (repeat' split) <;> first | exact g0 | rfl | omega | assumption | (exfalso; omega) | (simp_all; done)),
    fun p1 hp1 k1 hk1 => by
      have g0 := hI.2.2.2.2.2.2.2.2.1 p1 hp1 k1 hk1
      first | exact g0 | (simp only [u3, mm_up, mm_fill, mm_filr, mm_cl, mkj, mkd, mkf, mko, mki, or_false, false_or, true_or, or_true, true_and, and_true, false_and, and_false, if_true, if_false] <;> (repeat' split) <;> first | exact g0 | rfl | omega | assumption | (exfalso; omega) | (simp_all; done)),
    fun p1 hp1 k1 hk1 => by
      have g0 := hI.2.2.2.2.2.2.2.2.2.1 p1 hp1 k1 hk1
      first | exact g0 | (simp only [u3, mm_up, mm_fill, mm_filr, mm_cl, mkj, mkd, mkf, mko, mki, or_false, false_or, true_or, or_true, true_and, and_true, false_and, and_false, if_true, if_false] <;> (repeat' split) <;> first | exact g0 | rfl | omega | assumption | (exfalso; omega) | (simp_all; done)),
    fun p1 hp1 k1 hk1 => by
      have g0 := hI.2.2.2.2.2.2.2.2.2.2.1 p1 hp1 k1 hk1
      first | exact g0 | (simp only [u3, mm_up, mm_fill, mm_filr, mm_cl, mkj, mkd, mkf, mko, mki, or_false, false_or, true_or, or_true, true_and, and_true, false_and, and_false, if_true, if_false] <;> (repeat' split) <;> first | exact g0 | rfl | omega | assumption | (exfalso; omega) | (simp_all; done)),
    fun t1 ht1 => by
      have g0 := hI.2.2.2.2.2.2.2.2.2.2.2.1 t1 ht1
      first | exact g0 | (simp only [u3, mm_up, mm_fill, mm_filr, mm_cl, mkj, mkd, mkf, mko, mki, or_false, false_or, true_or, or_true, true_and, and_true, false_and, and_false, if_true, if_false] <;> (repeat' split) <;> first | exact g0 | rfl | omega | assumption | (exfalso; omega) | (simp_all; done)),
    fun t1 ht1 => by
      have g0 := hI.2.2.2.2.2.2.2.2.2.2.2.2.1 t1 ht1
      first | exact g0 | (simp only [u3, mm_up, mm_fill, mm_filr, mm_cl, mkj, mkd, mkf, mko, mki, or_false, false_or, true_or, or_true, true_and, and_true, false_and, and_false, if_true, if_false] <;> (repeat' split) <;> first | exact g0 | rfl | omega | assumption | (exfalso; omega) | (simp_all; done)),
    fun t1 ht1 k1 hk1 => by
      have g0 := hI.2.2.2.2.2.2.2.2.2.2.2.2.2.1 t1 ht1 k1 hk1
      first | exact g0 | (simp only [u3, mm_up, mm_fill, mm_filr, mm_cl, mkj, mkd, mkf, mko, mki, or_false, false_or, true_or, or_true, true_and, and_true, false_and, and_false, if_true, if_false] <;> (repeat' split) <;> first | exact g0 | rfl | omega | assumption | (exfalso; omega) | (simp_all; done)),
    fun t1 ht1 => by
      have g0 := hI.2.2.2.2.2.2.2.2.2.2.2.2.2.2.1 t1 ht1
      first | exact g0 | (simp only [u3, mm_up, mm_fill, mm_filr, mm_cl, mkj, mkd, mkf, mko, mki, or_false, false_or, true_or, or_true, true_and, and_true, false_and, and_false, if_true, if_false] <;> (repeat' split) <;> first | exact g0 | rfl | omega | assumption | (exfalso; omega) | (simp_all; done)),
    fun t1 ht1 => by
      have g0 := hI.2.2.2.2.2.2.2.2.2.2.2.2.2.2.2.1 t1 ht1
      first | exact g0 | (simp only [u3, mm_up, mm_fill, mm_filr, mm_cl, mkj, mkd, mkf, mko, mki, or_false, false_or, true_or, or_true, true_and, and_true, false_and, and_false, if_true, if_false] <;> (repeat' split) <;> first | exact g0 | rfl | omega | assumption | (exfalso; omega) | (simp_all; done)),
    fun t1 ht1 => by
      have g0 := hI.2.2.2.2.2.2.2.2.2.2.2.2.2.2.2.2.1 t1 ht1
      first | exact g0 | (simp only [u3, mm_up, mm_fill, mm_filr, mm_cl, mkj, mkd, mkf, mko, mki, or_false, false_or, true_or, or_true, true_and, and_true, false_and, and_false, if_true, if_false] <;> (repeat' split) <;> first | exact g0 | rfl | omega | assumption | (exfalso; omega) | (simp_all; done)),
    fun t1 ht1 => by
      have g0 := hI.2.2.2.2.2.2.2.2.2.2.2.2.2.2.2.2.2.1 t1 ht1
      first | exact g0 | (simp only [u3, mm_up, mm_fill, mm_filr, mm_cl, mkj, mkd, mkf, mko, mki, or_false, false_or, true_or, or_true, true_and, and_true, false_and, and_false, if_true, if_false] <;> (repeat' split) <;> first | exact g0 | rfl | omega | assumption | (exfalso; omega) | (simp_all; done)),
    fun t1 ht1 => by
      have g0 := hI.2.2.2.2.2.2.2.2.2.2.2.2.2.2.2.2.2.2.1 t1 ht1
      first | exact g0 | (simp only [u3, mm_up, mm_fill, mm_filr, mm_cl, mkj, mkd, mkf, mko, mki, or_false, false_or, true_or, or_true, true_and, and_true, false_and, and_false, if_true, if_false] <;> (repeat' split) <;> first | exact g0 | rfl | omega | assumption | (exfalso; omega) | (simp_all; done)),
    fun t1 ht1 => by
      have g0 := hI.2.2.2.2.2.2.2.2.2.2.2.2.2.2.2.2.2.2.2.1 t1 ht1
      first | exact g0 | (simp only [u3, mm_up, mm_fill, mm_filr, mm_cl, mkj, mkd, mkf, mko, mki, or_false, false_or, true_or, or_true, true_and, and_true, false_and, and_false, if_true, if_false] <;> (repeat' split) <;> first | exact g0 | rfl | omega | assumption | (exfalso; omega) | (simp_all; done)),
    by
      have g0 := hI.2.2.2.2.2.2.2.2.2.2.2.2.2.2.2.2.2.2.2.2.1
      first | exact g0 | (simp only [u3, mm_up, mm_fill, mm_filr, mm_cl, mkj, mkd, mkf, mko, mki, or_false, false_or, true_or, or_true, true_and, and_true, false_and, and_false, if_true, if_false] <;> (repeat' split) <;> first | exact g0 | rfl | omega | assumption | (exfalso; omega) | (simp_all; done)),
    by
      have g0 := hI.2.2.2.2.2.2.2.2.2.2.2.2.2.2.2.2.2.2.2.2.2.1
      first | exact g0 | (simp only [u3, mm_up, mm_fill, mm_filr, mm_cl, mkj, mkd, mkf, mko, mki, or_false, false_or, true_or, or_true, true_and, and_true, false_and, and_false, if_true, if_false] <;> (repeat' split) <;> first | exact g0 | rfl | omega | assumption | (exfalso; omega) | (simp_all; done)),
    fun i1 hi1 => by
      have hi2 : i1 < xn 3 0 0 + 1 := by simpa [u3] using hi1
      by_cases hm : i1 = xn 3 0 0
      · subst hm; have g0 := trivial; simp only [u3, mm_up, mm_fill, mm_filr, mm_cl, mkj, mkd, mkf, mko, mki, or_false, false_or, true_or, or_true, true_and, and_true, false_and, and_false, if_true, if_false] <;> (repeat' split) <;> first | exact g0 | rfl | omega | assumption | (exfalso; omega) | (simp_all; done)
      · have g0 := hI.2.2.2.2.2.2.2.2.2.2.2.2.2.2.2.2.2.2.2.2.2.2.1 i1 (by omega)
        simp only [u3, mm_up, mm_fill, mm_filr, mm_cl, mkj, mkd, mkf, mko, mki, or_false, false_or, true_or, or_true, true_and, and_true, false_and, and_false, if_true, if_false] <;> (repeat' split) <;> first | exact g0 | rfl | omega | assumption | (exfalso; omega) | (simp_all; done),
    fun i1 hi1 => by
      have hb1 : i1 < xn 2 0 0 := hi1; have g0 := hI.2.2.2.2.2.2.2.2.2.2.2.2.2.2.2.2.2.2.2.2.2.2.2.1 i1 hi1
      first | exact g0 | (simp only [u3, mm_up, mm_fill, mm_filr, mm_cl, mkj, mkd, mkf, mko, mki, or_false, false_or, true_or, or_true, true_and, and_true, false_and, and_false, if_true, if_false] <;> (repeat' split) <;> first | exact g0 | rfl | omega | assumption | (exfalso; omega) | (simp_all; done)),
    fun i1 hi1 => by
      have hb1 : i1 < xn 2 0 0 := hi1; have g0 := hI.2.2.2.2.2.2.2.2.2.2.2.2.2.2.2.2.2.2.2.2.2.2.2.2.1 i1 hi1
      first | exact g0 | (simp only [u3, mm_up, mm_fill, mm_filr, mm_cl, mkj, mkd, mkf, mko, mki, or_false, false_or, true_or, or_true, true_and, and_true, false_and, and_false, if_true, if_false] <;> (repeat' split) <;> first | exact g0 | rfl | omega | assumption | (exfalso; omega) | (simp_all; done)),
    fun i1 hi1 => by
      have hb1 : i1 < xn 2 0 0 := hi1; have g0 := hI.2.2.2.2.2.2.2.2.2.2.2.2.2.2.2.2.2.2.2.2.2.2.2.2.2.1 i1 hi1
      first | exact g0 | (simp only [u3, mm_up, mm_fill, mm_filr, mm_cl, mkj, mkd, mkf, mko, mki, or_false, false_or, true_or, or_true, true_and, and_true, false_and, and_false, if_true, if_false] <;> (repeat' split) <;> first | exact g0 | rfl | omega | assumption | (exfalso; omega) | (simp_all; done)),
    fun i1 hi1 => by
      have hb1 : i1 < xn 2 0 0 := hi1; have g0 := hI.2.2.2.2.2.2.2.2.2.2.2.2.2.2.2.2.2.2.2.2.2.2.2.2.2.2.1 i1 hi1
      first | exact g0 | (simp only [u3, mm_up, mm_fill, mm_filr, mm_cl, mkj, mkd, mkf, mko, mki, or_false, false_or, true_or, or_true, true_and, and_true, false_and, and_false, if_true, if_false] <;> (repeat' split) <;> first | exact g0 | rfl | omega | assumption | (exfalso; omega) | (simp_all; done)),
    fun i1 hi1 => by
      have hb1 : i1 < xn 2 0 0 := hi1; have g0 := hI.2.2.2.2.2.2.2.2.2.2.2.2.2.2.2.2.2.2.2.2.2.2.2.2.2.2.2.1 i1 hi1
      first | exact g0 | (simp only [u3, mm_up, mm_fill, mm_filr, mm_cl, mkj, mkd, mkf, mko, mki, or_false, false_or, true_or, or_true, true_and, and_true, false_and, and_false, if_true, if_false] <;> (repeat' split) <;> first | exact g0 | rfl | omega | assumption | (exfalso; omega) | (simp_all; done)),
    fun i1 hi1 => by
      have hb1 : i1 < xn 2 0 0 := hi1; have g0 := hI.2.2.2.2.2.2.2.2.2.2.2.2.2.2.2.2.2.2.2.2.2.2.2.2.2.2.2.2.1 i1 hi1
      first | exact g0 | (simp only [u3, mm_up, mm_fill, mm_filr, mm_cl, mkj, mkd, mkf, mko, mki, or_false, false_or, true_or, or_true, true_and, and_true, false_and, and_false, if_true, if_false] <;> (repeat' split) <;> first | exact g0 | rfl | omega | assumption | (exfalso; omega) | (simp_all; done)),
    fun i1 hi1 => by
      have hb1 : i1 < xn 2 0 0 := hi1; have g0 := hI.2.2.2.2.2.2.2.2.2.2.2.2.2.2.2.2.2.2.2.2.2.2.2.2.2.2.2.2.2.1 i1 hi1
      first | exact g0 | (simp only [u3, mm_up, mm_fill, mm_filr, mm_cl, mkj, mkd, mkf, mko, mki, or_false, false_or, true_or, or_true, true_and, and_true, false_and, and_false, if_true, if_false] <;> (repeat' split) <;> first | exact g0 | rfl | omega | assumption | (exfalso; omega) | (simp_all; done)),
    fun i1 hi1 => by
      have hb1 : i1 < xn 2 0 0 := hi1; have g0 := hI.2.2.2.2.2.2.2.2.2.2.2.2.2.2.2.2.2.2.2.2.2.2.2.2.2.2.2.2.2.2 i1 hi1
      first | exact g0 | (simp only [u3, mm_up, mm_fill, mm_filr, mm_cl, mkj, mkd, mkf, mko, mki, or_false, false_or, true_or, or_true, true_and, and_true, false_and, and_false, if_true, if_false] <;> (repeat' split) <;> first | exact g0 | rfl | omega | assumption | (exfalso; omega) | (simp_all; done))⟩,
   ⟨fun t1 ht1 k1 hk1 => by
      have g0 := hX.1 t1 ht1 k1 hk1
      first | exact g0 | (simp only [u3, mm_up, mm_fill, mm_filr, mm_cl, mkj, mkd, mkf, mko, mki, or_false, false_or, true_or, or_true, true_and, and_true, false_and, and_false, if_true, if_false] <;> (repeat' split) <;> first | exact g0 | rfl | omega | assumption | (exfalso; omega) | (simp_all; done)),
    fun i1 hi1 k1 hk1 e0 => by
      have hb1 : i1 < xn 2 0 0 := hi1; have g0 := hX.2.1 i1 hi1 k1 hk1 e0
      first | exact g0 | (simp only [u3, mm_up, mm_fill, mm_filr, mm_cl, mkj, mkd, mkf, mko, mki, or_false, false_or, true_or, or_true, true_and, and_true, false_and, and_false, if_true, if_false] <;> (repeat' split) <;> first | exact g0 | rfl | omega | assumption | (exfalso; omega) | (simp_all; done)),
    fun i1 hi1 => by
      have hb1 : i1 < xn 2 0 0 := hi1; have g0 := hX.2.2.1 i1 hi1
      first | exact g0 | (simp only [u3, mm_up, mm_fill, mm_filr, mm_cl, mkj, mkd, mkf, mko, mki, or_false, false_or, true_or, or_true, true_and, and_true, false_and, and_false, if_true, if_false] <;> (repeat' split) <;> first | exact g0 | rfl | omega | assumption | (exfalso; omega) | (simp_all; done)),
    fun i1 hi1 => by
      have hb1 : i1 < xn 2 0 0 := hi1; have g0 := hX.2.2.2.1 i1 hi1
      first | exact g0 | (simp only [u3, mm_up, mm_fill, mm_filr, mm_cl, mkj, mkd, mkf, mko, mki, or_false, false_or, true_or, or_true, true_and, and_true, false_and, and_false, if_true, if_false] <;> (repeat' split) <;> first | exact g0 | rfl | omega | assumption | (exfalso; omega) | (simp_all; done)),
    fun i1 hi1 => by
      have hb1 : i1 < xn 2 0 0 := hi1; have g0 := hX.2.2.2.2.1 i1 hi1
      first | exact g0 | (simp only [u3, mm_up, mm_fill, mm_filr, mm_cl, mkj, mkd, mkf, mko, mki, or_false, false_or, true_or, or_true, true_and, and_true, false_and, and_false, if_true, if_false] <;> (repeat' split) <;> first | exact g0 | rfl | omega | assumption | (exfalso; omega) | (simp_all; done)),
    fun i1 hi1 => by
      have hb1 : i1 < xn 2 0 0 := hi1; have g0 := hX.2.2.2.2.2.1 i1 hi1
      first | exact g0 | (simp only [u3, mm_up, mm_fill, mm_filr, mm_cl, mkj, mkd, mkf, mko, mki, or_false, false_or, true_or, or_true, true_and, and_true, false_and, and_false, if_true, if_false] <;> (repeat' split) <;> first | exact g0 | rfl | omega | assumption | (exfalso; omega) | (simp_all; done)),
    fun t1 ht1 k1 hk1 => by
      have g0 := hX.2.2.2.2.2.2.1 t1 ht1 k1 hk1
      first | exact g0 | (simp only [u3, mm_up, mm_fill, mm_filr, mm_cl, mkj, mkd, mkf, mko, mki, or_false, false_or, true_or, or_true, true_and, and_true, false_and, and_false, if_true, if_false] <;> (repeat' split) <;> first | exact g0 | rfl | omega | assumption | (exfalso; omega) | (simp_all; done)),
    fun i1 hi1 k1 hk1 e0 e1 => by
      have hb1 : i1 < xn 2 0 0 := hi1; have g0 := hX.2.2.2.2.2.2.2.1 i1 hi1 k1 hk1 e0 e1
      first | exact g0 | (simp only [u3, mm_up, mm_fill, mm_filr, mm_cl, mkj, mkd, mkf, mko, mki, or_false, false_or, true_or, or_true, true_and, and_true, false_and, and_false, if_true, if_false] <;> (repeat' split) <;> first | exact g0 | rfl | omega | assumption | (exfalso; omega) | (simp_all; done)),
    fun i1 hi1 => by
      have hb1 : i1 < xn 2 0 0 := hi1; have g0 := hX.2.2.2.2.2.2.2.2.1 i1 hi1
      first | exact g0 | (simp only [u3, mm_up, mm_fill, mm_filr, mm_cl, mkj, mkd, mkf, mko, mki, or_false, false_or, true_or, or_true, true_and, and_true, false_and, and_false, if_true, if_false] <;> (repeat' split) <;> first | exact g0 | rfl | omega | assumption | (exfalso; omega) | (simp_all; done)),
    fun t1 ht1 k1 hk1 => by
      have g0 := hX.2.2.2.2.2.2.2.2.2.1 t1 ht1 k1 hk1
      first | exact g0 | (simp only [u3, mm_up, mm_fill, mm_filr, mm_cl, mkj, mkd, mkf, mko, mki, or_false, false_or, true_or, or_true, true_and, and_true, false_and, and_false, if_true, if_false] <;> (repeat' split) <;> first | exact g0 | rfl | omega | assumption | (exfalso; omega) | (simp_all; done)),
    fun i1 hi1 => by
      have hb1 : i1 < xn 2 0 0 := hi1; have g0 := hX.2.2.2.2.2.2.2.2.2.2.1 i1 hi1
      first | exact g0 | (simp only [u3, mm_up, mm_fill, mm_filr, mm_cl, mkj, mkd, mkf, mko, mki, or_false, false_or, true_or, or_true, true_and, and_true, false_and, and_false, if_true, if_false] <;> (repeat' split) <;> first | exact g0 | rfl | omega | assumption | (exfalso; omega) | (simp_all; done)),
    by
      have g0 := hX.2.2.2.2.2.2.2.2.2.2.2.1
      first | exact g0 | (simp only [u3, mm_up, mm_fill, mm_filr, mm_cl, mkj, mkd, mkf, mko, mki, or_false, false_or, true_or, or_true, true_and, and_true, false_and, and_false, if_true, if_false] <;> (repeat' split) <;> first | exact g0 | rfl | omega | assumption | (exfalso; omega) | (simp_all; done)),
    fun t1 ht1 => by
      have g0 := hX.2.2.2.2.2.2.2.2.2.2.2.2 t1 ht1
      first | exact g0 | (simp only [u3, mm_up, mm_fill, mm_filr, mm_cl, mkj, mkd, mkf, mko, mki, or_false, false_or, true_or, or_true, true_and, and_true, false_and, and_false, if_true, if_false] <;> (repeat' split) <;> first | exact g0 | rfl | omega | assumption | (exfalso; omega) | (simp_all; done))⟩,
   by simp only [u3, and_self, if_true] <;> omega,
   by rw [hS]; simp [u3]; omega⟩
set_option maxHeartbeats 2000000 in
theorem RM_make {ci : Nat → Nat → Nat → Int32} {cn : Nat → Nat → Nat → Nat} {co : Nat → Option Nat} {xj : Nat → Nat → Nat → Int64} {xd : Nat → Nat → Nat → UInt64} {xf : Nat → Nat → Nat → UInt32} {xo : Nat → Nat → Nat → Option Nat} {xi : Nat → Nat → Nat → Int32} {xn : Nat → Nat → Nat → Nat} {Im : Nat → Nat → Int32} {Jm : Nat → Nat → Int64} {Dm : Nat → Nat → UInt64} {m s l : Nat} {z : Int64} (h : RM ci cn co xj xd xf xo xi xn Im Jm Dm) (hmm : xn 2 0 0 = m) (hal : m < 160) (hs : s ≤ 20 ∧ s ≠ 15 ∧ l ≤ 12 ∧ (16 ≤ s → l = 0)) (hz1 : s < 6 → z = lN 0) (hz2 : 8 ≤ s → z = (-(nI 1)).toInt64) (isr : ∀ i, i < xn 2 0 0 → xn 1 i 0 ≤ 12) : RM ci cn co (mkj xj m) (mkd xd m) (mkf xf m) (mko xo m) (mki xi m) (mkn xn m s l) (mm_up (mm_up (mm_up (mm_up (mm_up (mm_up (mm_up (mm_up (mm_up (mm_up (mm_up Im 7 m (nI s)) 8 m (nI l)) 14 m (-(nI 1))) 15 m (-(nI 1))) 16 m (nI 0)) 17 (3 * m) (nI 0)) 17 (3 * m + 1) (nI 0)) 17 (3 * m + 2) (nI 0)) 18 m (-(nI 1))) 19 m (nI 0)) 6 0 (nI (m + 1))) (mm_up (mm_filr Jm 9 (12 * m) 12 z) 11 m (lN 0)) (mm_up (mm_up (mm_filr Dm 10 (12 * m) 12 FP.dconst0) 12 m FP.dconst0) 13 m FP.dconst0) := by
  have hzf : FP.f2d FP.fconst0 = FP.dconst0 := by decide +kernel
  have hzn : eL none = (-(nI 1)).toInt64 := rfl
  have hzi : eI none = -(nI 1) := rfl
  obtain ⟨hJ, hD, hI⟩ := h
  exact ⟨⟨fun t1 ht1 k1 hk1 => by
      have g0 := hJ.1 t1 ht1 k1 hk1
      simp (disch := first | omega | assumption | decide) only [up_eq, up_ne, fil_eq, fil_ne, flr_eq, flr_ne, mkn_0n, mkn_1n, mkn_2, mkn_3, mkn_4, mkj_e, mkj_1, mkj_2, mkj_0, mkd_e, mkd_1, mkd_2, mkd_0, mkf_e, mkf_1, mkf_0, mko_e, mko_1, mko_2, mko_3, mko_4, mko_0, mki_e, mki_0, mki_1, mki_2, mki_3] <;> first | exact g0 | rfl | omega | assumption | (intro q hq; cases hq) | (intro q hq; have := g0 q hq; omega) | (simp_all; done),
    fun i1 hi1 k1 hk1 e0 => by
      rw [mkn_2] at hi1
      by_cases hm : i1 = m
      · subst hm; rw [mkn_1n] at hk1; rw [mkn_0n] at e0
        have g0 := trivial
        simp (disch := first | omega | assumption | decide) only [up_eq, up_ne, fil_eq, fil_ne, flr_eq, flr_ne, mkn_0n, mkn_1n, mkn_2, mkn_3, mkn_4, mkj_e, mkj_1, mkj_2, mkj_0, mkd_e, mkd_1, mkd_2, mkd_0, mkf_e, mkf_1, mkf_0, mko_e, mko_1, mko_2, mko_3, mko_4, mko_0, mki_e, mki_0, mki_1, mki_2, mki_3] <;> first | exact g0 | rfl | omega | assumption | (intro q hq; cases hq) | (intro q hq; have := g0 q hq; omega) | (simp_all; done)
      · have hl0 : i1 < xn 2 0 0 := (by omega)
        have z1 := isr i1 hl0; rw [mkn_1 hm] at hk1; rw [mkn_0 hm] at e0
        have g0 := hJ.2.1 i1 hl0 k1 hk1 e0
        simp (disch := first | omega | assumption | decide) only [mkn_0 hm, mkn_1 hm, up_eq, up_ne, fil_eq, fil_ne, flr_eq, flr_ne, mkn_0n, mkn_1n, mkn_2, mkn_3, mkn_4, mkj_e, mkj_1, mkj_2, mkj_0, mkd_e, mkd_1, mkd_2, mkd_0, mkf_e, mkf_1, mkf_0, mko_e, mko_1, mko_2, mko_3, mko_4, mko_0, mki_e, mki_0, mki_1, mki_2, mki_3] <;> first | exact g0 | rfl | omega | assumption | (intro q hq; cases hq) | (intro q hq; have := g0 q hq; omega) | (simp_all; done),
    fun i1 hi1 k1 hk1 e0 => by
      rw [mkn_2] at hi1
      by_cases hm : i1 = m
      · subst hm; rw [mkn_1n] at hk1; rw [mkn_0n] at e0
        have g0 := trivial
        simp (disch := first | omega | assumption | decide) only [up_eq, up_ne, fil_eq, fil_ne, flr_eq, flr_ne, mkn_0n, mkn_1n, mkn_2, mkn_3, mkn_4, mkj_e, mkj_1, mkj_2, mkj_0, mkd_e, mkd_1, mkd_2, mkd_0, mkf_e, mkf_1, mkf_0, mko_e, mko_1, mko_2, mko_3, mko_4, mko_0, mki_e, mki_0, mki_1, mki_2, mki_3] <;> first | exact g0 | rfl | omega | assumption | (intro q hq; cases hq) | (intro q hq; have := g0 q hq; omega) | (simp_all; done)
      · have hl0 : i1 < xn 2 0 0 := (by omega)
        have z1 := isr i1 hl0; rw [mkn_1 hm] at hk1; rw [mkn_0 hm] at e0
        have g0 := hJ.2.2.1 i1 hl0 k1 hk1 e0
        simp (disch := first | omega | assumption | decide) only [mkn_0 hm, mkn_1 hm, up_eq, up_ne, fil_eq, fil_ne, flr_eq, flr_ne, mkn_0n, mkn_1n, mkn_2, mkn_3, mkn_4, mkj_e, mkj_1, mkj_2, mkj_0, mkd_e, mkd_1, mkd_2, mkd_0, mkf_e, mkf_1, mkf_0, mko_e, mko_1, mko_2, mko_3, mko_4, mko_0, mki_e, mki_0, mki_1, mki_2, mki_3] <;> first | exact g0 | rfl | omega | assumption | (intro q hq; cases hq) | (intro q hq; have := g0 q hq; omega) | (simp_all; done),
    fun i1 hi1 => by
      rw [mkn_2] at hi1
      by_cases hm : i1 = m
      · subst hm
        have g0 := trivial
        simp (disch := first | omega | assumption | decide) only [up_eq, up_ne, fil_eq, fil_ne, flr_eq, flr_ne, mkn_0n, mkn_1n, mkn_2, mkn_3, mkn_4, mkj_e, mkj_1, mkj_2, mkj_0, mkd_e, mkd_1, mkd_2, mkd_0, mkf_e, mkf_1, mkf_0, mko_e, mko_1, mko_2, mko_3, mko_4, mko_0, mki_e, mki_0, mki_1, mki_2, mki_3] <;> first | exact g0 | rfl | omega | assumption | (intro q hq; cases hq) | (intro q hq; have := g0 q hq; omega) | (simp_all; done)
      · have hl0 : i1 < xn 2 0 0 := (by omega)
        have z1 := isr i1 hl0
        have g0 := hJ.2.2.2 i1 hl0
        simp (disch := first | omega | assumption | decide) only [mkn_0 hm, mkn_1 hm, up_eq, up_ne, fil_eq, fil_ne, flr_eq, flr_ne, mkn_0n, mkn_1n, mkn_2, mkn_3, mkn_4, mkj_e, mkj_1, mkj_2, mkj_0, mkd_e, mkd_1, mkd_2, mkd_0, mkf_e, mkf_1, mkf_0, mko_e, mko_1, mko_2, mko_3, mko_4, mko_0, mki_e, mki_0, mki_1, mki_2, mki_3] <;> first | exact g0 | rfl | omega | assumption | (intro q hq; cases hq) | (intro q hq; have := g0 q hq; omega) | (simp_all; done)⟩,
   ⟨fun t1 ht1 k1 hk1 => by
      have g0 := hD.1 t1 ht1 k1 hk1
      simp (disch := first | omega | assumption | decide) only [up_eq, up_ne, fil_eq, fil_ne, flr_eq, flr_ne, mkn_0n, mkn_1n, mkn_2, mkn_3, mkn_4, mkj_e, mkj_1, mkj_2, mkj_0, mkd_e, mkd_1, mkd_2, mkd_0, mkf_e, mkf_1, mkf_0, mko_e, mko_1, mko_2, mko_3, mko_4, mko_0, mki_e, mki_0, mki_1, mki_2, mki_3] <;> first | exact g0 | rfl | omega | assumption | (intro q hq; cases hq) | (intro q hq; have := g0 q hq; omega) | (simp_all; done),
    fun t1 ht1 k1 hk1 => by
      have g0 := hD.2.1 t1 ht1 k1 hk1
      simp (disch := first | omega | assumption | decide) only [up_eq, up_ne, fil_eq, fil_ne, flr_eq, flr_ne, mkn_0n, mkn_1n, mkn_2, mkn_3, mkn_4, mkj_e, mkj_1, mkj_2, mkj_0, mkd_e, mkd_1, mkd_2, mkd_0, mkf_e, mkf_1, mkf_0, mko_e, mko_1, mko_2, mko_3, mko_4, mko_0, mki_e, mki_0, mki_1, mki_2, mki_3] <;> first | exact g0 | rfl | omega | assumption | (intro q hq; cases hq) | (intro q hq; have := g0 q hq; omega) | (simp_all; done),
    fun i1 hi1 k1 hk1 e0 e1 => by
      rw [mkn_2] at hi1
      by_cases hm : i1 = m
      · subst hm; rw [mkn_1n] at hk1; rw [mkn_0n] at e0; rw [mkn_0n] at e1
        have g0 := trivial
        simp (disch := first | omega | assumption | decide) only [up_eq, up_ne, fil_eq, fil_ne, flr_eq, flr_ne, mkn_0n, mkn_1n, mkn_2, mkn_3, mkn_4, mkj_e, mkj_1, mkj_2, mkj_0, mkd_e, mkd_1, mkd_2, mkd_0, mkf_e, mkf_1, mkf_0, mko_e, mko_1, mko_2, mko_3, mko_4, mko_0, mki_e, mki_0, mki_1, mki_2, mki_3] <;> first | exact g0 | rfl | omega | assumption | (intro q hq; cases hq) | (intro q hq; have := g0 q hq; omega) | (simp_all; done)
      · have hl0 : i1 < xn 2 0 0 := (by omega)
        have z1 := isr i1 hl0; rw [mkn_1 hm] at hk1; rw [mkn_0 hm] at e0; rw [mkn_0 hm] at e1
        have g0 := hD.2.2.1 i1 hl0 k1 hk1 e0 e1
        simp (disch := first | omega | assumption | decide) only [mkn_0 hm, mkn_1 hm, up_eq, up_ne, fil_eq, fil_ne, flr_eq, flr_ne, mkn_0n, mkn_1n, mkn_2, mkn_3, mkn_4, mkj_e, mkj_1, mkj_2, mkj_0, mkd_e, mkd_1, mkd_2, mkd_0, mkf_e, mkf_1, mkf_0, mko_e, mko_1, mko_2, mko_3, mko_4, mko_0, mki_e, mki_0, mki_1, mki_2, mki_3] <;> first | exact g0 | rfl | omega | assumption | (intro q hq; cases hq) | (intro q hq; have := g0 q hq; omega) | (simp_all; done),
    fun i1 hi1 => by
      rw [mkn_2] at hi1
      by_cases hm : i1 = m
      · subst hm
        have g0 := trivial
        simp (disch := first | omega | assumption | decide) only [up_eq, up_ne, fil_eq, fil_ne, flr_eq, flr_ne, mkn_0n, mkn_1n, mkn_2, mkn_3, mkn_4, mkj_e, mkj_1, mkj_2, mkj_0, mkd_e, mkd_1, mkd_2, mkd_0, mkf_e, mkf_1, mkf_0, mko_e, mko_1, mko_2, mko_3, mko_4, mko_0, mki_e, mki_0, mki_1, mki_2, mki_3] <;> first | exact g0 | rfl | omega | assumption | (intro q hq; cases hq) | (intro q hq; have := g0 q hq; omega) | (simp_all; done)
      · have hl0 : i1 < xn 2 0 0 := (by omega)
        have z1 := isr i1 hl0
        have g0 := hD.2.2.2.1 i1 hl0
        simp (disch := first | omega | assumption | decide) only [mkn_0 hm, mkn_1 hm, up_eq, up_ne, fil_eq, fil_ne, flr_eq, flr_ne, mkn_0n, mkn_1n, mkn_2, mkn_3, mkn_4, mkj_e, mkj_1, mkj_2, mkj_0, mkd_e, mkd_1, mkd_2, mkd_0, mkf_e, mkf_1, mkf_0, mko_e, mko_1, mko_2, mko_3, mko_4, mko_0, mki_e, mki_0, mki_1, mki_2, mki_3] <;> first | exact g0 | rfl | omega | assumption | (intro q hq; cases hq) | (intro q hq; have := g0 q hq; omega) | (simp_all; done),
    fun i1 hi1 => by
      rw [mkn_2] at hi1
      by_cases hm : i1 = m
      · subst hm
        have g0 := trivial
        simp (disch := first | omega | assumption | decide) only [up_eq, up_ne, fil_eq, fil_ne, flr_eq, flr_ne, mkn_0n, mkn_1n, mkn_2, mkn_3, mkn_4, mkj_e, mkj_1, mkj_2, mkj_0, mkd_e, mkd_1, mkd_2, mkd_0, mkf_e, mkf_1, mkf_0, mko_e, mko_1, mko_2, mko_3, mko_4, mko_0, mki_e, mki_0, mki_1, mki_2, mki_3] <;> first | exact g0 | rfl | omega | assumption | (intro q hq; cases hq) | (intro q hq; have := g0 q hq; omega) | (simp_all; done)
      · have hl0 : i1 < xn 2 0 0 := (by omega)
        have z1 := isr i1 hl0
        have g0 := hD.2.2.2.2 i1 hl0
        simp (disch := first | omega | assumption | decide) only [mkn_0 hm, mkn_1 hm, up_eq, up_ne, fil_eq, fil_ne, flr_eq, flr_ne, mkn_0n, mkn_1n, mkn_2, mkn_3, mkn_4, mkj_e, mkj_1, mkj_2, mkj_0, mkd_e, mkd_1, mkd_2, mkd_0, mkf_e, mkf_1, mkf_0, mko_e, mko_1, mko_2, mko_3, mko_4, mko_0, mki_e, mki_0, mki_1, mki_2, mki_3] <;> first | exact g0 | rfl | omega | assumption | (intro q hq; cases hq) | (intro q hq; have := g0 q hq; omega) | (simp_all; done)⟩,
   ⟨by
      have g0 := hI.1
      simp (disch := first | omega | assumption | decide) only [up_eq, up_ne, fil_eq, fil_ne, flr_eq, flr_ne, mkn_0n, mkn_1n, mkn_2, mkn_3, mkn_4, mkj_e, mkj_1, mkj_2, mkj_0, mkd_e, mkd_1, mkd_2, mkd_0, mkf_e, mkf_1, mkf_0, mko_e, mko_1, mko_2, mko_3, mko_4, mko_0, mki_e, mki_0, mki_1, mki_2, mki_3] <;> first | exact g0 | rfl | omega | assumption | (intro q hq; cases hq) | (intro q hq; have := g0 q hq; omega) | (simp_all; done),
    by
      have g0 := hI.2.1
      simp (disch := first | omega | assumption | decide) only [up_eq, up_ne, fil_eq, fil_ne, flr_eq, flr_ne, mkn_0n, mkn_1n, mkn_2, mkn_3, mkn_4, mkj_e, mkj_1, mkj_2, mkj_0, mkd_e, mkd_1, mkd_2, mkd_0, mkf_e, mkf_1, mkf_0, mko_e, mko_1, mko_2, mko_3, mko_4, mko_0, mki_e, mki_0, mki_1, mki_2, mki_3] <;> first | exact g0 | rfl | omega | assumption | (intro q hq; cases hq) | (intro q hq; have := g0 q hq; omega) | (simp_all; done),
    fun i1 hi1 => by
      rw [mkn_2] at hi1
      by_cases hm : i1 = m
      · subst hm
        have g0 := trivial
        simp (disch := first | omega | assumption | decide) only [up_eq, up_ne, fil_eq, fil_ne, flr_eq, flr_ne, mkn_0n, mkn_1n, mkn_2, mkn_3, mkn_4, mkj_e, mkj_1, mkj_2, mkj_0, mkd_e, mkd_1, mkd_2, mkd_0, mkf_e, mkf_1, mkf_0, mko_e, mko_1, mko_2, mko_3, mko_4, mko_0, mki_e, mki_0, mki_1, mki_2, mki_3] <;> first | exact g0 | rfl | omega | assumption | (intro q hq; cases hq) | (intro q hq; have := g0 q hq; omega) | (simp_all; done)
      · have hl0 : i1 < xn 2 0 0 := (by omega)
        have z1 := isr i1 hl0
        have g0 := hI.2.2.1 i1 hl0
        simp (disch := first | omega | assumption | decide) only [mkn_0 hm, mkn_1 hm, up_eq, up_ne, fil_eq, fil_ne, flr_eq, flr_ne, mkn_0n, mkn_1n, mkn_2, mkn_3, mkn_4, mkj_e, mkj_1, mkj_2, mkj_0, mkd_e, mkd_1, mkd_2, mkd_0, mkf_e, mkf_1, mkf_0, mko_e, mko_1, mko_2, mko_3, mko_4, mko_0, mki_e, mki_0, mki_1, mki_2, mki_3] <;> first | exact g0 | rfl | omega | assumption | (intro q hq; cases hq) | (intro q hq; have := g0 q hq; omega) | (simp_all; done),
    fun i1 hi1 => by
      rw [mkn_2] at hi1
      by_cases hm : i1 = m
      · subst hm
        have g0 := trivial
        simp (disch := first | omega | assumption | decide) only [up_eq, up_ne, fil_eq, fil_ne, flr_eq, flr_ne, mkn_0n, mkn_1n, mkn_2, mkn_3, mkn_4, mkj_e, mkj_1, mkj_2, mkj_0, mkd_e, mkd_1, mkd_2, mkd_0, mkf_e, mkf_1, mkf_0, mko_e, mko_1, mko_2, mko_3, mko_4, mko_0, mki_e, mki_0, mki_1, mki_2, mki_3] <;> first | exact g0 | rfl | omega | assumption | (intro q hq; cases hq) | (intro q hq; have := g0 q hq; omega) | (simp_all; done)
      · have hl0 : i1 < xn 2 0 0 := (by omega)
        have z1 := isr i1 hl0
        have g0 := hI.2.2.2.1 i1 hl0
        simp (disch := first | omega | assumption | decide) only [mkn_0 hm, mkn_1 hm, up_eq, up_ne, fil_eq, fil_ne, flr_eq, flr_ne, mkn_0n, mkn_1n, mkn_2, mkn_3, mkn_4, mkj_e, mkj_1, mkj_2, mkj_0, mkd_e, mkd_1, mkd_2, mkd_0, mkf_e, mkf_1, mkf_0, mko_e, mko_1, mko_2, mko_3, mko_4, mko_0, mki_e, mki_0, mki_1, mki_2, mki_3] <;> first | exact g0 | rfl | omega | assumption | (intro q hq; cases hq) | (intro q hq; have := g0 q hq; omega) | (simp_all; done),
    fun i1 hi1 => by
      rw [mkn_2] at hi1
      by_cases hm : i1 = m
      · subst hm
        have g0 := trivial
        simp (disch := first | omega | assumption | decide) only [up_eq, up_ne, fil_eq, fil_ne, flr_eq, flr_ne, mkn_0n, mkn_1n, mkn_2, mkn_3, mkn_4, mkj_e, mkj_1, mkj_2, mkj_0, mkd_e, mkd_1, mkd_2, mkd_0, mkf_e, mkf_1, mkf_0, mko_e, mko_1, mko_2, mko_3, mko_4, mko_0, mki_e, mki_0, mki_1, mki_2, mki_3] <;> first | exact g0 | rfl | omega | assumption | (intro q hq; cases hq) | (intro q hq; have := g0 q hq; omega) | (simp_all; done)
      · have hl0 : i1 < xn 2 0 0 := (by omega)
        have z1 := isr i1 hl0
        have g0 := hI.2.2.2.2.1 i1 hl0
        simp (disch := first | omega | assumption | decide) only [mkn_0 hm, mkn_1 hm, up_eq, up_ne, fil_eq, fil_ne, flr_eq, flr_ne, mkn_0n, mkn_1n, mkn_2, mkn_3, mkn_4, mkj_e, mkj_1, mkj_2, mkj_0, mkd_e, mkd_1, mkd_2, mkd_0, mkf_e, mkf_1, mkf_0, mko_e, mko_1, mko_2, mko_3, mko_4, mko_0, mki_e, mki_0, mki_1, mki_2, mki_3] <;> first | exact g0 | rfl | omega | assumption | (intro q hq; cases hq) | (intro q hq; have := g0 q hq; omega) | (simp_all; done),
    fun i1 hi1 => by
      rw [mkn_2] at hi1
      by_cases hm : i1 = m
      · subst hm
        have g0 := trivial
        simp (disch := first | omega | assumption | decide) only [up_eq, up_ne, fil_eq, fil_ne, flr_eq, flr_ne, mkn_0n, mkn_1n, mkn_2, mkn_3, mkn_4, mkj_e, mkj_1, mkj_2, mkj_0, mkd_e, mkd_1, mkd_2, mkd_0, mkf_e, mkf_1, mkf_0, mko_e, mko_1, mko_2, mko_3, mko_4, mko_0, mki_e, mki_0, mki_1, mki_2, mki_3] <;> first | exact g0 | rfl | omega | assumption | (intro q hq; cases hq) | (intro q hq; have := g0 q hq; omega) | (simp_all; done)
      · have hl0 : i1 < xn 2 0 0 := (by omega)
        have z1 := isr i1 hl0
        have g0 := hI.2.2.2.2.2.1 i1 hl0
        simp (disch := first | omega | assumption | decide) only [mkn_0 hm, mkn_1 hm, up_eq, up_ne, fil_eq, fil_ne, flr_eq, flr_ne, mkn_0n, mkn_1n, mkn_2, mkn_3, mkn_4, mkj_e, mkj_1, mkj_2, mkj_0, mkd_e, mkd_1, mkd_2, mkd_0, mkf_e, mkf_1, mkf_0, mko_e, mko_1, mko_2, mko_3, mko_4, mko_0, mki_e, mki_0, mki_1, mki_2, mki_3] <;> first | exact g0 | rfl | omega | assumption | (intro q hq; cases hq) | (intro q hq; have := g0 q hq; omega) | (simp_all; done),
    fun i1 hi1 => by
      rw [mkn_2] at hi1
      by_cases hm : i1 = m
      · subst hm
        have g0 := trivial
        simp (disch := first | omega | assumption | decide) only [up_eq, up_ne, fil_eq, fil_ne, flr_eq, flr_ne, mkn_0n, mkn_1n, mkn_2, mkn_3, mkn_4, mkj_e, mkj_1, mkj_2, mkj_0, mkd_e, mkd_1, mkd_2, mkd_0, mkf_e, mkf_1, mkf_0, mko_e, mko_1, mko_2, mko_3, mko_4, mko_0, mki_e, mki_0, mki_1, mki_2, mki_3] <;> first | exact g0 | rfl | omega | assumption | (intro q hq; cases hq) | (intro q hq; have := g0 q hq; omega) | (simp_all; done)
      · have hl0 : i1 < xn 2 0 0 := (by omega)
        have z1 := isr i1 hl0
        have g0 := hI.2.2.2.2.2.2.1 i1 hl0
        simp (disch := first | omega | assumption | decide) only [mkn_0 hm, mkn_1 hm, up_eq, up_ne, fil_eq, fil_ne, flr_eq, flr_ne, mkn_0n, mkn_1n, mkn_2, mkn_3, mkn_4, mkj_e, mkj_1, mkj_2, mkj_0, mkd_e, mkd_1, mkd_2, mkd_0, mkf_e, mkf_1, mkf_0, mko_e, mko_1, mko_2, mko_3, mko_4, mko_0, mki_e, mki_0, mki_1, mki_2, mki_3] <;> first | exact g0 | rfl | omega | assumption | (intro q hq; cases hq) | (intro q hq; have := g0 q hq; omega) | (simp_all; done),
    fun i1 hi1 k1 hk1 => by
      rw [mkn_2] at hi1
      by_cases hm : i1 = m
      · subst hm
        have g0 := trivial
        rcases (by omega : k1 = 0 ∨ k1 = 1 ∨ k1 = 2) with rfl | rfl | rfl <;> simp (disch := first | omega | assumption | decide) only [up_eq, up_ne, fil_eq, fil_ne, flr_eq, flr_ne, mkn_0n, mkn_1n, mkn_2, mkn_3, mkn_4, mkj_e, mkj_1, mkj_2, mkj_0, mkd_e, mkd_1, mkd_2, mkd_0, mkf_e, mkf_1, mkf_0, mko_e, mko_1, mko_2, mko_3, mko_4, mko_0, mki_e, mki_0, mki_1, mki_2, mki_3] <;> first | exact g0 | rfl | omega | assumption | (intro q hq; cases hq) | (intro q hq; have := g0 q hq; omega) | (simp_all; done)
      · have hl0 : i1 < xn 2 0 0 := (by omega)
        have z1 := isr i1 hl0
        have g0 := hI.2.2.2.2.2.2.2.1 i1 hl0 k1 hk1
        simp (disch := first | omega | assumption | decide) only [mkn_0 hm, mkn_1 hm, up_eq, up_ne, fil_eq, fil_ne, flr_eq, flr_ne, mkn_0n, mkn_1n, mkn_2, mkn_3, mkn_4, mkj_e, mkj_1, mkj_2, mkj_0, mkd_e, mkd_1, mkd_2, mkd_0, mkf_e, mkf_1, mkf_0, mko_e, mko_1, mko_2, mko_3, mko_4, mko_0, mki_e, mki_0, mki_1, mki_2, mki_3] <;> first | exact g0 | rfl | omega | assumption | (intro q hq; cases hq) | (intro q hq; have := g0 q hq; omega) | (simp_all; done),
    fun i1 hi1 => by
      rw [mkn_2] at hi1
      by_cases hm : i1 = m
      · subst hm
        have g0 := trivial
        simp (disch := first | omega | assumption | decide) only [up_eq, up_ne, fil_eq, fil_ne, flr_eq, flr_ne, mkn_0n, mkn_1n, mkn_2, mkn_3, mkn_4, mkj_e, mkj_1, mkj_2, mkj_0, mkd_e, mkd_1, mkd_2, mkd_0, mkf_e, mkf_1, mkf_0, mko_e, mko_1, mko_2, mko_3, mko_4, mko_0, mki_e, mki_0, mki_1, mki_2, mki_3] <;> first | exact g0 | rfl | omega | assumption | (intro q hq; cases hq) | (intro q hq; have := g0 q hq; omega) | (simp_all; done)
      · have hl0 : i1 < xn 2 0 0 := (by omega)
        have z1 := isr i1 hl0
        have g0 := hI.2.2.2.2.2.2.2.2.1 i1 hl0
        simp (disch := first | omega | assumption | decide) only [mkn_0 hm, mkn_1 hm, up_eq, up_ne, fil_eq, fil_ne, flr_eq, flr_ne, mkn_0n, mkn_1n, mkn_2, mkn_3, mkn_4, mkj_e, mkj_1, mkj_2, mkj_0, mkd_e, mkd_1, mkd_2, mkd_0, mkf_e, mkf_1, mkf_0, mko_e, mko_1, mko_2, mko_3, mko_4, mko_0, mki_e, mki_0, mki_1, mki_2, mki_3] <;> first | exact g0 | rfl | omega | assumption | (intro q hq; cases hq) | (intro q hq; have := g0 q hq; omega) | (simp_all; done),
    fun i1 hi1 => by
      rw [mkn_2] at hi1
      by_cases hm : i1 = m
      · subst hm
        have g0 := trivial
        simp (disch := first | omega | assumption | decide) only [up_eq, up_ne, fil_eq, fil_ne, flr_eq, flr_ne, mkn_0n, mkn_1n, mkn_2, mkn_3, mkn_4, mkj_e, mkj_1, mkj_2, mkj_0, mkd_e, mkd_1, mkd_2, mkd_0, mkf_e, mkf_1, mkf_0, mko_e, mko_1, mko_2, mko_3, mko_4, mko_0, mki_e, mki_0, mki_1, mki_2, mki_3] <;> first | exact g0 | rfl | omega | assumption | (intro q hq; cases hq) | (intro q hq; have := g0 q hq; omega) | (simp_all; done)
      · have hl0 : i1 < xn 2 0 0 := (by omega)
        have z1 := isr i1 hl0
        have g0 := hI.2.2.2.2.2.2.2.2.2.1 i1 hl0
        simp (disch := first | omega | assumption | decide) only [mkn_0 hm, mkn_1 hm, up_eq, up_ne, fil_eq, fil_ne, flr_eq, flr_ne, mkn_0n, mkn_1n, mkn_2, mkn_3, mkn_4, mkj_e, mkj_1, mkj_2, mkj_0, mkd_e, mkd_1, mkd_2, mkd_0, mkf_e, mkf_1, mkf_0, mko_e, mko_1, mko_2, mko_3, mko_4, mko_0, mki_e, mki_0, mki_1, mki_2, mki_3] <;> first | exact g0 | rfl | omega | assumption | (intro q hq; cases hq) | (intro q hq; have := g0 q hq; omega) | (simp_all; done),
    fun p1 hp1 => by
      have g0 := hI.2.2.2.2.2.2.2.2.2.2.1 p1 hp1
      simp (disch := first | omega | assumption | decide) only [up_eq, up_ne, fil_eq, fil_ne, flr_eq, flr_ne, mkn_0n, mkn_1n, mkn_2, mkn_3, mkn_4, mkj_e, mkj_1, mkj_2, mkj_0, mkd_e, mkd_1, mkd_2, mkd_0, mkf_e, mkf_1, mkf_0, mko_e, mko_1, mko_2, mko_3, mko_4, mko_0, mki_e, mki_0, mki_1, mki_2, mki_3] <;> first | exact g0 | rfl | omega | assumption | (intro q hq; cases hq) | (intro q hq; have := g0 q hq; omega) | (simp_all; done),
    fun p1 hp1 k1 hk1 => by
      have g0 := hI.2.2.2.2.2.2.2.2.2.2.2.1 p1 hp1 k1 hk1
      simp (disch := first | omega | assumption | decide) only [up_eq, up_ne, fil_eq, fil_ne, flr_eq, flr_ne, mkn_0n, mkn_1n, mkn_2, mkn_3, mkn_4, mkj_e, mkj_1, mkj_2, mkj_0, mkd_e, mkd_1, mkd_2, mkd_0, mkf_e, mkf_1, mkf_0, mko_e, mko_1, mko_2, mko_3, mko_4, mko_0, mki_e, mki_0, mki_1, mki_2, mki_3] <;> first | exact g0 | rfl | omega | assumption | (intro q hq; cases hq) | (intro q hq; have := g0 q hq; omega) | (simp_all; done),
    fun p1 hp1 k1 hk1 => by
      have g0 := hI.2.2.2.2.2.2.2.2.2.2.2.2.1 p1 hp1 k1 hk1
      simp (disch := first | omega | assumption | decide) only [up_eq, up_ne, fil_eq, fil_ne, flr_eq, flr_ne, mkn_0n, mkn_1n, mkn_2, mkn_3, mkn_4, mkj_e, mkj_1, mkj_2, mkj_0, mkd_e, mkd_1, mkd_2, mkd_0, mkf_e, mkf_1, mkf_0, mko_e, mko_1, mko_2, mko_3, mko_4, mko_0, mki_e, mki_0, mki_1, mki_2, mki_3] <;> first | exact g0 | rfl | omega | assumption | (intro q hq; cases hq) | (intro q hq; have := g0 q hq; omega) | (simp_all; done),
    fun p1 hp1 k1 hk1 => by
      have g0 := hI.2.2.2.2.2.2.2.2.2.2.2.2.2.1 p1 hp1 k1 hk1
      simp (disch := first | omega | assumption | decide) only [up_eq, up_ne, fil_eq, fil_ne, flr_eq, flr_ne, mkn_0n, mkn_1n, mkn_2, mkn_3, mkn_4, mkj_e, mkj_1, mkj_2, mkj_0, mkd_e, mkd_1, mkd_2, mkd_0, mkf_e, mkf_1, mkf_0, mko_e, mko_1, mko_2, mko_3, mko_4, mko_0, mki_e, mki_0, mki_1, mki_2, mki_3] <;> first | exact g0 | rfl | omega | assumption | (intro q hq; cases hq) | (intro q hq; have := g0 q hq; omega) | (simp_all; done),
    fun p1 hp1 k1 hk1 => by
      have g0 := hI.2.2.2.2.2.2.2.2.2.2.2.2.2.2.1 p1 hp1 k1 hk1
      simp (disch := first | omega | assumption | decide) only [up_eq, up_ne, fil_eq, fil_ne, flr_eq, flr_ne, mkn_0n, mkn_1n, mkn_2, mkn_3, mkn_4, mkj_e, mkj_1, mkj_2, mkj_0, mkd_e, mkd_1, mkd_2, mkd_0, mkf_e, mkf_1, mkf_0, mko_e, mko_1, mko_2, mko_3, mko_4, mko_0, mki_e, mki_0, mki_1, mki_2, mki_3] <;> first | exact g0 | rfl | omega | assumption | (intro q hq; cases hq) | (intro q hq; have := g0 q hq; omega) | (simp_all; done),
    fun p1 hp1 => by
      have g0 := hI.2.2.2.2.2.2.2.2.2.2.2.2.2.2.2.1 p1 hp1
      simp (disch := first | omega | assumption | decide) only [up_eq, up_ne, fil_eq, fil_ne, flr_eq, flr_ne, mkn_0n, mkn_1n, mkn_2, mkn_3, mkn_4, mkj_e, mkj_1, mkj_2, mkj_0, mkd_e, mkd_1, mkd_2, mkd_0, mkf_e, mkf_1, mkf_0, mko_e, mko_1, mko_2, mko_3, mko_4, mko_0, mki_e, mki_0, mki_1, mki_2, mki_3] <;> first | exact g0 | rfl | omega | assumption | (intro q hq; cases hq) | (intro q hq; have := g0 q hq; omega) | (simp_all; done),
    fun p1 hp1 k1 hk1 => by
      have g0 := hI.2.2.2.2.2.2.2.2.2.2.2.2.2.2.2.2.1 p1 hp1 k1 hk1
      simp (disch := first | omega | assumption | decide) only [up_eq, up_ne, fil_eq, fil_ne, flr_eq, flr_ne, mkn_0n, mkn_1n, mkn_2, mkn_3, mkn_4, mkj_e, mkj_1, mkj_2, mkj_0, mkd_e, mkd_1, mkd_2, mkd_0, mkf_e, mkf_1, mkf_0, mko_e, mko_1, mko_2, mko_3, mko_4, mko_0, mki_e, mki_0, mki_1, mki_2, mki_3] <;> first | exact g0 | rfl | omega | assumption | (intro q hq; cases hq) | (intro q hq; have := g0 q hq; omega) | (simp_all; done),
    fun p1 hp1 k1 hk1 => by
      have g0 := hI.2.2.2.2.2.2.2.2.2.2.2.2.2.2.2.2.2.1 p1 hp1 k1 hk1
      simp (disch := first | omega | assumption | decide) only [up_eq, up_ne, fil_eq, fil_ne, flr_eq, flr_ne, mkn_0n, mkn_1n, mkn_2, mkn_3, mkn_4, mkj_e, mkj_1, mkj_2, mkj_0, mkd_e, mkd_1, mkd_2, mkd_0, mkf_e, mkf_1, mkf_0, mko_e, mko_1, mko_2, mko_3, mko_4, mko_0, mki_e, mki_0, mki_1, mki_2, mki_3] <;> first | exact g0 | rfl | omega | assumption | (intro q hq; cases hq) | (intro q hq; have := g0 q hq; omega) | (simp_all; done),
    fun p1 hp1 k1 hk1 => by
      have g0 := hI.2.2.2.2.2.2.2.2.2.2.2.2.2.2.2.2.2.2.1 p1 hp1 k1 hk1
      simp (disch := first | omega | assumption | decide) only [up_eq, up_ne, fil_eq, fil_ne, flr_eq, flr_ne, mkn_0n, mkn_1n, mkn_2, mkn_3, mkn_4, mkj_e, mkj_1, mkj_2, mkj_0, mkd_e, mkd_1, mkd_2, mkd_0, mkf_e, mkf_1, mkf_0, mko_e, mko_1, mko_2, mko_3, mko_4, mko_0, mki_e, mki_0, mki_1, mki_2, mki_3] <;> first | exact g0 | rfl | omega | assumption | (intro q hq; cases hq) | (intro q hq; have := g0 q hq; omega) | (simp_all; done),
    fun p1 hp1 k1 hk1 => by
      have g0 := hI.2.2.2.2.2.2.2.2.2.2.2.2.2.2.2.2.2.2.2.1 p1 hp1 k1 hk1
      simp (disch := first | omega | assumption | decide) only [up_eq, up_ne, fil_eq, fil_ne, flr_eq, flr_ne, mkn_0n, mkn_1n, mkn_2, mkn_3, mkn_4, mkj_e, mkj_1, mkj_2, mkj_0, mkd_e, mkd_1, mkd_2, mkd_0, mkf_e, mkf_1, mkf_0, mko_e, mko_1, mko_2, mko_3, mko_4, mko_0, mki_e, mki_0, mki_1, mki_2, mki_3] <;> first | exact g0 | rfl | omega | assumption | (intro q hq; cases hq) | (intro q hq; have := g0 q hq; omega) | (simp_all; done),
    fun t1 ht1 k1 hk1 => by
      have g0 := hI.2.2.2.2.2.2.2.2.2.2.2.2.2.2.2.2.2.2.2.2.1 t1 ht1 k1 hk1
      simp (disch := first | omega | assumption | decide) only [up_eq, up_ne, fil_eq, fil_ne, flr_eq, flr_ne, mkn_0n, mkn_1n, mkn_2, mkn_3, mkn_4, mkj_e, mkj_1, mkj_2, mkj_0, mkd_e, mkd_1, mkd_2, mkd_0, mkf_e, mkf_1, mkf_0, mko_e, mko_1, mko_2, mko_3, mko_4, mko_0, mki_e, mki_0, mki_1, mki_2, mki_3] <;> first | exact g0 | rfl | omega | assumption | (intro q hq; cases hq) | (intro q hq; have := g0 q hq; omega) | (simp_all; done),
    fun t1 ht1 => by
      have g0 := hI.2.2.2.2.2.2.2.2.2.2.2.2.2.2.2.2.2.2.2.2.2.1 t1 ht1
      simp (disch := first | omega | assumption | decide) only [up_eq, up_ne, fil_eq, fil_ne, flr_eq, flr_ne, mkn_0n, mkn_1n, mkn_2, mkn_3, mkn_4, mkj_e, mkj_1, mkj_2, mkj_0, mkd_e, mkd_1, mkd_2, mkd_0, mkf_e, mkf_1, mkf_0, mko_e, mko_1, mko_2, mko_3, mko_4, mko_0, mki_e, mki_0, mki_1, mki_2, mki_3] <;> first | exact g0 | rfl | omega | assumption | (intro q hq; cases hq) | (intro q hq; have := g0 q hq; omega) | (simp_all; done),
    fun t1 ht1 => by
      have g0 := hI.2.2.2.2.2.2.2.2.2.2.2.2.2.2.2.2.2.2.2.2.2.2.1 t1 ht1
      simp (disch := first | omega | assumption | decide) only [up_eq, up_ne, fil_eq, fil_ne, flr_eq, flr_ne, mkn_0n, mkn_1n, mkn_2, mkn_3, mkn_4, mkj_e, mkj_1, mkj_2, mkj_0, mkd_e, mkd_1, mkd_2, mkd_0, mkf_e, mkf_1, mkf_0, mko_e, mko_1, mko_2, mko_3, mko_4, mko_0, mki_e, mki_0, mki_1, mki_2, mki_3] <;> first | exact g0 | rfl | omega | assumption | (intro q hq; cases hq) | (intro q hq; have := g0 q hq; omega) | (simp_all; done),
    fun t1 ht1 k1 hk1 => by
      have g0 := hI.2.2.2.2.2.2.2.2.2.2.2.2.2.2.2.2.2.2.2.2.2.2.2.1 t1 ht1 k1 hk1
      simp (disch := first | omega | assumption | decide) only [up_eq, up_ne, fil_eq, fil_ne, flr_eq, flr_ne, mkn_0n, mkn_1n, mkn_2, mkn_3, mkn_4, mkj_e, mkj_1, mkj_2, mkj_0, mkd_e, mkd_1, mkd_2, mkd_0, mkf_e, mkf_1, mkf_0, mko_e, mko_1, mko_2, mko_3, mko_4, mko_0, mki_e, mki_0, mki_1, mki_2, mki_3] <;> first | exact g0 | rfl | omega | assumption | (intro q hq; cases hq) | (intro q hq; have := g0 q hq; omega) | (simp_all; done),
    fun t1 ht1 k1 hk1 => by
      have g0 := hI.2.2.2.2.2.2.2.2.2.2.2.2.2.2.2.2.2.2.2.2.2.2.2.2.1 t1 ht1 k1 hk1
      simp (disch := first | omega | assumption | decide) only [up_eq, up_ne, fil_eq, fil_ne, flr_eq, flr_ne, mkn_0n, mkn_1n, mkn_2, mkn_3, mkn_4, mkj_e, mkj_1, mkj_2, mkj_0, mkd_e, mkd_1, mkd_2, mkd_0, mkf_e, mkf_1, mkf_0, mko_e, mko_1, mko_2, mko_3, mko_4, mko_0, mki_e, mki_0, mki_1, mki_2, mki_3] <;> first | exact g0 | rfl | omega | assumption | (intro q hq; cases hq) | (intro q hq; have := g0 q hq; omega) | (simp_all; done),
    fun t1 ht1 => by
      have g0 := hI.2.2.2.2.2.2.2.2.2.2.2.2.2.2.2.2.2.2.2.2.2.2.2.2.2.1 t1 ht1
      simp (disch := first | omega | assumption | decide) only [up_eq, up_ne, fil_eq, fil_ne, flr_eq, flr_ne, mkn_0n, mkn_1n, mkn_2, mkn_3, mkn_4, mkj_e, mkj_1, mkj_2, mkj_0, mkd_e, mkd_1, mkd_2, mkd_0, mkf_e, mkf_1, mkf_0, mko_e, mko_1, mko_2, mko_3, mko_4, mko_0, mki_e, mki_0, mki_1, mki_2, mki_3] <;> first | exact g0 | rfl | omega | assumption | (intro q hq; cases hq) | (intro q hq; have := g0 q hq; omega) | (simp_all; done),
    fun t1 ht1 => by
      have g0 := hI.2.2.2.2.2.2.2.2.2.2.2.2.2.2.2.2.2.2.2.2.2.2.2.2.2.2.1 t1 ht1
      simp (disch := first | omega | assumption | decide) only [up_eq, up_ne, fil_eq, fil_ne, flr_eq, flr_ne, mkn_0n, mkn_1n, mkn_2, mkn_3, mkn_4, mkj_e, mkj_1, mkj_2, mkj_0, mkd_e, mkd_1, mkd_2, mkd_0, mkf_e, mkf_1, mkf_0, mko_e, mko_1, mko_2, mko_3, mko_4, mko_0, mki_e, mki_0, mki_1, mki_2, mki_3] <;> first | exact g0 | rfl | omega | assumption | (intro q hq; cases hq) | (intro q hq; have := g0 q hq; omega) | (simp_all; done),
    fun t1 ht1 => by
      have g0 := hI.2.2.2.2.2.2.2.2.2.2.2.2.2.2.2.2.2.2.2.2.2.2.2.2.2.2.2.1 t1 ht1
      simp (disch := first | omega | assumption | decide) only [up_eq, up_ne, fil_eq, fil_ne, flr_eq, flr_ne, mkn_0n, mkn_1n, mkn_2, mkn_3, mkn_4, mkj_e, mkj_1, mkj_2, mkj_0, mkd_e, mkd_1, mkd_2, mkd_0, mkf_e, mkf_1, mkf_0, mko_e, mko_1, mko_2, mko_3, mko_4, mko_0, mki_e, mki_0, mki_1, mki_2, mki_3] <;> first | exact g0 | rfl | omega | assumption | (intro q hq; cases hq) | (intro q hq; have := g0 q hq; omega) | (simp_all; done),
    fun t1 ht1 => by
      have g0 := hI.2.2.2.2.2.2.2.2.2.2.2.2.2.2.2.2.2.2.2.2.2.2.2.2.2.2.2.2.1 t1 ht1
      simp (disch := first | omega | assumption | decide) only [up_eq, up_ne, fil_eq, fil_ne, flr_eq, flr_ne, mkn_0n, mkn_1n, mkn_2, mkn_3, mkn_4, mkj_e, mkj_1, mkj_2, mkj_0, mkd_e, mkd_1, mkd_2, mkd_0, mkf_e, mkf_1, mkf_0, mko_e, mko_1, mko_2, mko_3, mko_4, mko_0, mki_e, mki_0, mki_1, mki_2, mki_3] <;> first | exact g0 | rfl | omega | assumption | (intro q hq; cases hq) | (intro q hq; have := g0 q hq; omega) | (simp_all; done),
    fun t1 ht1 => by
      have g0 := hI.2.2.2.2.2.2.2.2.2.2.2.2.2.2.2.2.2.2.2.2.2.2.2.2.2.2.2.2.2.1 t1 ht1
      simp (disch := first | omega | assumption | decide) only [up_eq, up_ne, fil_eq, fil_ne, flr_eq, flr_ne, mkn_0n, mkn_1n, mkn_2, mkn_3, mkn_4, mkj_e, mkj_1, mkj_2, mkj_0, mkd_e, mkd_1, mkd_2, mkd_0, mkf_e, mkf_1, mkf_0, mko_e, mko_1, mko_2, mko_3, mko_4, mko_0, mki_e, mki_0, mki_1, mki_2, mki_3] <;> first | exact g0 | rfl | omega | assumption | (intro q hq; cases hq) | (intro q hq; have := g0 q hq; omega) | (simp_all; done),
    fun t1 ht1 => by
      have g0 := hI.2.2.2.2.2.2.2.2.2.2.2.2.2.2.2.2.2.2.2.2.2.2.2.2.2.2.2.2.2.2 t1 ht1
      simp (disch := first | omega | assumption | decide) only [up_eq, up_ne, fil_eq, fil_ne, flr_eq, flr_ne, mkn_0n, mkn_1n, mkn_2, mkn_3, mkn_4, mkj_e, mkj_1, mkj_2, mkj_0, mkd_e, mkd_1, mkd_2, mkd_0, mkf_e, mkf_1, mkf_0, mko_e, mko_1, mko_2, mko_3, mko_4, mko_0, mki_e, mki_0, mki_1, mki_2, mki_3] <;> first | exact g0 | rfl | omega | assumption | (intro q hq; cases hq) | (intro q hq; have := g0 q hq; omega) | (simp_all; done)⟩⟩
theorem hstr8 {R : Nat → Nat → Option Nat} {a : Nat} (h5 : R a 5 = some (a + 1)) (h6 : R a 6 = some (a + 2)) (h7 : R a 7 = some (a + 3)) (k : Nat) : ((mm_ft 8 k).1 = 5 → R a k = some (a + (mm_ft 8 k).2.2)) ∧ ((mm_ft 8 k).1 = 6 → R a k = some (mm_ft 8 k).2.2) := by
  match k with
  | 5 => exact ⟨fun _ => h5, fun h => absurd h (by decide)⟩
  | 6 => exact ⟨fun _ => h6, fun h => absurd h (by decide)⟩
  | 7 => exact ⟨fun _ => h7, fun h => absurd h (by decide)⟩
  | 0 => exact ⟨fun h => absurd h (by decide), fun h => absurd h (by decide)⟩
  | 1 => exact ⟨fun h => absurd h (by decide), fun h => absurd h (by decide)⟩
  | 2 => exact ⟨fun h => absurd h (by decide), fun h => absurd h (by decide)⟩
  | 3 => exact ⟨fun h => absurd h (by decide), fun h => absurd h (by decide)⟩
  | 4 => exact ⟨fun h => absurd h (by decide), fun h => absurd h (by decide)⟩
  | 8 => exact ⟨fun h => absurd h (by decide), fun h => absurd h (by decide)⟩
  | 9 => exact ⟨fun h => absurd h (by decide), fun h => absurd h (by decide)⟩
  | 10 => exact ⟨fun h => absurd h (by decide), fun h => absurd h (by decide)⟩
  | 11 => exact ⟨fun h => absurd h (by decide), fun h => absurd h (by decide)⟩
  | 12 => exact ⟨fun h => absurd h (by decide), fun h => absurd h (by decide)⟩
  | 13 => exact ⟨fun h => absurd h (by decide), fun h => absurd h (by decide)⟩
  | 14 => exact ⟨fun h => absurd h (by decide), fun h => absurd h (by decide)⟩
  | 15 => exact ⟨fun h => absurd h (by decide), fun h => absurd h (by decide)⟩
  | 16 => exact ⟨fun h => absurd h (by decide), fun h => absurd h (by decide)⟩
  | k + 17 => exact ⟨fun h => absurd (show (9 : Nat) = 5 from h) (by decide), fun h => absurd (show (9 : Nat) = 6 from h) (by decide)⟩
theorem ev_gC {Y : mm_Y} {μ0 : mm_M} {rem : List mm_E} {L : mm_L} {st : List mm_V} {μ : mm_M} {Post : Option mm_V → mm_M → Prop} (bs : List Bool) (os : List (Option Nat)) {e2 : mm_E} {rem2 : List mm_E} {L2 : mm_L} {st2 : List mm_V} {μ2 : mm_M} {P2 : Prop} (h : mm_go 5000 (mm_co Y) rem L st μ bs os True = some (e2 :: rem2, L2, st2, μ2, P2)) (k : Ev Y μ0 (e2 :: rem2) L2 st2 μ2 Post) (hp : P2 := by (repeat' apply And.intro) <;> first | exact trivial | assumption | rfl | decide | omega | (simp (disch := first | assumption | omega | decide) only [i_add, i_mul, n_cl, nI_and7, nI_and3, v_in, i_eq, i_lt, i_le, i_eq0, i_lt0, i_ge0, i_gt0, i_le0, lg_cmp_eq, lg_cmp_ge, lg_cmp_gt, lg_cmp_le, lg_cmp_lt, zb_e0, zb_n0, Classical.not_not, up_ne, Nat.zero_add, Nat.add_zero, rc_num hC, rc_dbl hC, rc_rea hC, rc_xx hC, rc_pow hC, rc_flt hC, rc_ff hC, rc_hol hC, rc_par hC, rc_nxt hC, rc_lin hC, rc_wan hC, rc_cal hC, rc_thg hC, rc_thn hC, rc_prg hC, rc_str hC, rc_pix hC, rc_psz hC, rc_phn hC, rc_six hC, rc_dep hC, rc_mad hC, rc_trc hC, rc_tix hC, rc_sor hC, rc_len hC, rc_own hC, rc_tim hC, rc_tal hC, rc_mk0 hC, rc_mk1 hC, rc_mk2 hC, rc_who hC, rc_nn hC, cl_ne, tR_s, tR_n, eI_s, eI_n, e_nm, e_mm, lN_i, l_lt, l_le, l_eq, l_z, lN_t, nI_tl, n_s1, i_sub, eLi, eL_s, eL_n, up_eq, mkz, i_l1, i_l2, i_l3, n_ti, i_tl2, e_mn, *] <;> first | assumption | omega | decide)) : Ev Y μ0 rem L st μ Post := ev_go bs os h hp k
theorem ev_bC {Y : mm_Y} {μ0 : mm_M} {rem : List mm_E} {L : mm_L} {st : List mm_V} {μ : mm_M} {Post : Option mm_V → mm_M → Prop} {e2 e3 : mm_E} {rem2 rem3 : List mm_E} {L2 L3 : mm_L} {st2 st3 : List mm_V} {μ2 μ3 : mm_M} {c c2 d d2 : Prop} (hT : mm_go 1 (mm_co Y) rem L st μ [true] [] True = some (e2 :: rem2, L2, st2, μ2, True ∧ c)) (hF : mm_go 1 (mm_co Y) rem L st μ [false] [] True = some (e3 :: rem3, L3, st3, μ3, True ∧ c2)) (kt : d → Ev Y μ0 (e2 :: rem2) L2 st2 μ2 Post) (kf : d2 → Ev Y μ0 (e3 :: rem3) L3 st3 μ3 Post) (hc : ¬ c → c2 := by first | exact id | exact Classical.not_not.mp) (g1 : c → d := by intro hh; (try simp (disch := first | assumption | omega | decide) only [i_add, i_mul, n_cl, nI_and7, nI_and3, v_in, i_eq, i_lt, i_le, i_eq0, i_lt0, i_ge0, i_gt0, i_le0, lg_cmp_eq, lg_cmp_ge, lg_cmp_gt, lg_cmp_le, lg_cmp_lt, zb_e0, zb_n0, Classical.not_not, up_ne, Nat.zero_add, Nat.add_zero, rc_num hC, rc_dbl hC, rc_rea hC, rc_xx hC, rc_pow hC, rc_flt hC, rc_ff hC, rc_hol hC, rc_par hC, rc_nxt hC, rc_lin hC, rc_wan hC, rc_cal hC, rc_thg hC, rc_thn hC, rc_prg hC, rc_str hC, rc_pix hC, rc_psz hC, rc_phn hC, rc_six hC, rc_dep hC, rc_mad hC, rc_trc hC, rc_tix hC, rc_sor hC, rc_len hC, rc_own hC, rc_tim hC, rc_tal hC, rc_mk0 hC, rc_mk1 hC, rc_mk2 hC, rc_who hC, rc_nn hC, cl_ne, tR_s, tR_n, eI_s, eI_n, e_nm, e_mm, lN_i, l_lt, l_le, l_eq, l_z, lN_t, nI_tl, n_s1, i_sub, eLi, eL_s, eL_n, up_eq, mkz, i_l1, i_l2, i_l3, n_ti, i_tl2, e_mn, *] at hh); exact hh) (g2 : c2 → d2 := by intro hh; (try simp (disch := first | assumption | omega | decide) only [i_add, i_mul, n_cl, nI_and7, nI_and3, v_in, i_eq, i_lt, i_le, i_eq0, i_lt0, i_ge0, i_gt0, i_le0, lg_cmp_eq, lg_cmp_ge, lg_cmp_gt, lg_cmp_le, lg_cmp_lt, zb_e0, zb_n0, Classical.not_not, up_ne, Nat.zero_add, Nat.add_zero, rc_num hC, rc_dbl hC, rc_rea hC, rc_xx hC, rc_pow hC, rc_flt hC, rc_ff hC, rc_hol hC, rc_par hC, rc_nxt hC, rc_lin hC, rc_wan hC, rc_cal hC, rc_thg hC, rc_thn hC, rc_prg hC, rc_str hC, rc_pix hC, rc_psz hC, rc_phn hC, rc_six hC, rc_dep hC, rc_mad hC, rc_trc hC, rc_tix hC, rc_sor hC, rc_len hC, rc_own hC, rc_tim hC, rc_tal hC, rc_mk0 hC, rc_mk1 hC, rc_mk2 hC, rc_who hC, rc_nn hC, cl_ne, tR_s, tR_n, eI_s, eI_n, e_nm, e_mm, lN_i, l_lt, l_le, l_eq, l_z, lN_t, nI_tl, n_s1, i_sub, eLi, eL_s, eL_n, up_eq, mkz, i_l1, i_l2, i_l3, n_ti, i_tl2, e_mn, *] at hh); exact hh) : Ev Y μ0 rem L st μ Post := ev_br hT hF hc (fun h => kt (g1 h)) (fun h => kf (g2 h))
theorem lf_C {p : Prop} (h : p := by first | rfl | assumption | (simp (disch := first | assumption | omega | decide) only [i_add, i_mul, n_cl, nI_and7, nI_and3, v_in, i_eq, i_lt, i_le, i_eq0, i_lt0, i_ge0, i_gt0, i_le0, lg_cmp_eq, lg_cmp_ge, lg_cmp_gt, lg_cmp_le, lg_cmp_lt, zb_e0, zb_n0, Classical.not_not, up_ne, Nat.zero_add, Nat.add_zero, rc_num hC, rc_dbl hC, rc_rea hC, rc_xx hC, rc_pow hC, rc_flt hC, rc_ff hC, rc_hol hC, rc_par hC, rc_nxt hC, rc_lin hC, rc_wan hC, rc_cal hC, rc_thg hC, rc_thn hC, rc_prg hC, rc_str hC, rc_pix hC, rc_psz hC, rc_phn hC, rc_six hC, rc_dep hC, rc_mad hC, rc_trc hC, rc_tix hC, rc_sor hC, rc_len hC, rc_own hC, rc_tim hC, rc_tal hC, rc_mk0 hC, rc_mk1 hC, rc_mk2 hC, rc_who hC, rc_nn hC, cl_ne, tR_s, tR_n, eI_s, eI_n, e_nm, e_mm, lN_i, l_lt, l_le, l_eq, l_z, lN_t, nI_tl, n_s1, i_sub, eLi, eL_s, eL_n, up_eq, mkz, i_l1, i_l2, i_l3, n_ti, i_tl2, e_mn, *] <;> first | rfl | assumption | omega | decide)) : p := h
theorem ev_gM {Y : mm_Y} {μ0 : mm_M} {rem : List mm_E} {L : mm_L} {st : List mm_V} {μ : mm_M} {Post : Option mm_V → mm_M → Prop} (bs : List Bool) (os : List (Option Nat)) {e2 : mm_E} {rem2 : List mm_E} {L2 : mm_L} {st2 : List mm_V} {μ2 : mm_M} {P2 : Prop} (h : mm_go 5000 (mm_co Y) rem L st μ bs os True = some (e2 :: rem2, L2, st2, μ2, P2)) (k : Ev Y μ0 (e2 :: rem2) L2 st2 μ2 Post) (hp : P2 := by (repeat' apply And.intro) <;> first | exact trivial | assumption | rfl | decide | omega | (simp (disch := first | assumption | omega | decide) only [i_add, i_mul, n_cl, nI_and7, nI_and3, v_in, i_eq, i_lt, i_le, i_eq0, i_lt0, i_ge0, i_gt0, i_le0, lg_cmp_eq, lg_cmp_ge, lg_cmp_gt, lg_cmp_le, lg_cmp_lt, zb_e0, zb_n0, Classical.not_not, up_ne, Nat.zero_add, Nat.add_zero, rm_num hM, rm_who hM, rm_par hM, rm_nn hM, rm_dbl hM, rm_flt hM, rm_rea hM, rm_xx hM, rm_ff hM, rm_mad hM, rm_trc hM, rm_sor hM, rm_len hM, rm_nxt hM, rm_lin hM, rm_tal hM, rm_mk hM, rm_own hM, rm_tim hM, rm_psz hM, rm_hol hM, cl_ne, tR_s, tR_n, eI_s, eI_n, e_nm, e_mm, lN_i, l_lt, l_le, l_eq, l_z, lN_t, nI_tl, n_s1, i_sub, eLi, eL_s, eL_n, up_eq, mkz, i_l1, i_l2, i_l3, n_ti, i_tl2, e_mn, rm_mk0 hM, rm_mk1 hM, rm_mk2 hM, *] <;> first | assumption | omega | decide)) : Ev Y μ0 rem L st μ Post := ev_go bs os h hp k
theorem ev_bM {Y : mm_Y} {μ0 : mm_M} {rem : List mm_E} {L : mm_L} {st : List mm_V} {μ : mm_M} {Post : Option mm_V → mm_M → Prop} {e2 e3 : mm_E} {rem2 rem3 : List mm_E} {L2 L3 : mm_L} {st2 st3 : List mm_V} {μ2 μ3 : mm_M} {c c2 d d2 : Prop} (hT : mm_go 1 (mm_co Y) rem L st μ [true] [] True = some (e2 :: rem2, L2, st2, μ2, True ∧ c)) (hF : mm_go 1 (mm_co Y) rem L st μ [false] [] True = some (e3 :: rem3, L3, st3, μ3, True ∧ c2)) (kt : d → Ev Y μ0 (e2 :: rem2) L2 st2 μ2 Post) (kf : d2 → Ev Y μ0 (e3 :: rem3) L3 st3 μ3 Post) (hc : ¬ c → c2 := by first | exact id | exact Classical.not_not.mp) (g1 : c → d := by intro hh; (try simp (disch := first | assumption | omega | decide) only [i_add, i_mul, n_cl, nI_and7, nI_and3, v_in, i_eq, i_lt, i_le, i_eq0, i_lt0, i_ge0, i_gt0, i_le0, lg_cmp_eq, lg_cmp_ge, lg_cmp_gt, lg_cmp_le, lg_cmp_lt, zb_e0, zb_n0, Classical.not_not, up_ne, Nat.zero_add, Nat.add_zero, rm_num hM, rm_who hM, rm_par hM, rm_nn hM, rm_dbl hM, rm_flt hM, rm_rea hM, rm_xx hM, rm_ff hM, rm_mad hM, rm_trc hM, rm_sor hM, rm_len hM, rm_nxt hM, rm_lin hM, rm_tal hM, rm_mk hM, rm_own hM, rm_tim hM, rm_psz hM, rm_hol hM, cl_ne, tR_s, tR_n, eI_s, eI_n, e_nm, e_mm, lN_i, l_lt, l_le, l_eq, l_z, lN_t, nI_tl, n_s1, i_sub, eLi, eL_s, eL_n, up_eq, mkz, i_l1, i_l2, i_l3, n_ti, i_tl2, e_mn, rm_mk0 hM, rm_mk1 hM, rm_mk2 hM, *] at hh); exact hh) (g2 : c2 → d2 := by intro hh; (try simp (disch := first | assumption | omega | decide) only [i_add, i_mul, n_cl, nI_and7, nI_and3, v_in, i_eq, i_lt, i_le, i_eq0, i_lt0, i_ge0, i_gt0, i_le0, lg_cmp_eq, lg_cmp_ge, lg_cmp_gt, lg_cmp_le, lg_cmp_lt, zb_e0, zb_n0, Classical.not_not, up_ne, Nat.zero_add, Nat.add_zero, rm_num hM, rm_who hM, rm_par hM, rm_nn hM, rm_dbl hM, rm_flt hM, rm_rea hM, rm_xx hM, rm_ff hM, rm_mad hM, rm_trc hM, rm_sor hM, rm_len hM, rm_nxt hM, rm_lin hM, rm_tal hM, rm_mk hM, rm_own hM, rm_tim hM, rm_psz hM, rm_hol hM, cl_ne, tR_s, tR_n, eI_s, eI_n, e_nm, e_mm, lN_i, l_lt, l_le, l_eq, l_z, lN_t, nI_tl, n_s1, i_sub, eLi, eL_s, eL_n, up_eq, mkz, i_l1, i_l2, i_l3, n_ti, i_tl2, e_mn, rm_mk0 hM, rm_mk1 hM, rm_mk2 hM, *] at hh); exact hh) : Ev Y μ0 rem L st μ Post := ev_br hT hF hc (fun h => kt (g1 h)) (fun h => kf (g2 h))
theorem lf_M {p : Prop} (h : p := by first | rfl | assumption | (simp (disch := first | assumption | omega | decide) only [i_add, i_mul, n_cl, nI_and7, nI_and3, v_in, i_eq, i_lt, i_le, i_eq0, i_lt0, i_ge0, i_gt0, i_le0, lg_cmp_eq, lg_cmp_ge, lg_cmp_gt, lg_cmp_le, lg_cmp_lt, zb_e0, zb_n0, Classical.not_not, up_ne, Nat.zero_add, Nat.add_zero, rm_num hM, rm_who hM, rm_par hM, rm_nn hM, rm_dbl hM, rm_flt hM, rm_rea hM, rm_xx hM, rm_ff hM, rm_mad hM, rm_trc hM, rm_sor hM, rm_len hM, rm_nxt hM, rm_lin hM, rm_tal hM, rm_mk hM, rm_own hM, rm_tim hM, rm_psz hM, rm_hol hM, cl_ne, tR_s, tR_n, eI_s, eI_n, e_nm, e_mm, lN_i, l_lt, l_le, l_eq, l_z, lN_t, nI_tl, n_s1, i_sub, eLi, eL_s, eL_n, up_eq, mkz, i_l1, i_l2, i_l3, n_ti, i_tl2, e_mn, rm_mk0 hM, rm_mk1 hM, rm_mk2 hM, *] <;> first | rfl | assumption | omega | decide)) : p := h
set_option maxHeartbeats 2000000 in
set_option maxRecDepth 100000 in
theorem C_SO_make {ci : Nat → Nat → Nat → Int32} {cn : Nat → Nat → Nat → Nat} {co : Nat → Option Nat} {xj : Nat → Nat → Nat → Int64} {xd : Nat → Nat → Nat → UInt64} {xf : Nat → Nat → Nat → UInt32} {xo : Nat → Nat → Nat → Option Nat} {xi : Nat → Nat → Nat → Int32} {xn : Nat → Nat → Nat → Nat} {K : Nat → Nat} {I : Nat → Nat → Int32} {J : Nat → Nat → Int64} {F : Nat → Nat → UInt32} {D : Nat → Nat → UInt64} {R : Nat → Nat → Option Nat} {nx sl : Nat} {s l : Nat} (hC : RC ci cn co xj xd xf xo xi xn I J F D R nx sl) (hm : xn 2 0 0 < 160) (hs : s ≤ 20 ∧ s ≠ 15 ∧ l ≤ 12 ∧ (16 ≤ s → l = 0)) : Ct Y_SO_make [vr 7 9, vi (nI s), vi (nI l)] (K, I, J, F, D, R, nx, sl) (fun r μ1 => ∃ xa, (xa = xn ∨ xa = u3 xn 3 0 0 (xn 3 0 0 + 1)) ∧ xa 2 0 0 = xn 2 0 0 ∧ r = some (vr 9 (94 + 4 * xa 2 0 0)) ∧ RC ci cn co (mkj xj (xa 2 0 0)) (mkd xd (xa 2 0 0)) (mkf xf (xa 2 0 0)) (mko xo (xa 2 0 0)) (mki xi (xa 2 0 0)) (mkn xa (xa 2 0 0) s l) μ1.2.1 μ1.2.2.1 μ1.2.2.2.1 μ1.2.2.2.2.1 μ1.2.2.2.2.2.1 μ1.2.2.2.2.2.2.1 μ1.2.2.2.2.2.2.2) := by
  have ial := rc_imad hC
  by_cases hal : xn 2 0 0 < xn 3 0 0
  · skip
    refine ct_of h_SO_make rfl rfl rfl ?_
    refine ev_g0 rfl ?_
    refine ev_inV 1 k_SO_19 h_SO_hasRoomFor rfl rfl rfl rfl rfl ⟨by decide, by decide⟩ rfl ?_
    refine ev_gC [false] [] rfl ?_
    refine ev_retz rfl (by first | decide | exact zb_01 _) ?_
    refine ev_gC [true] [some (94 + 4 * xn 2 0 0)] rfl ?_
    refine ev_inV 2 k_SO_26 h_TH_begin rfl rfl rfl rfl rfl ⟨by decide, by decide⟩ rfl ?_
    refine ev_g0 rfl ?_
    refine ev_inV 0 k_TH_36 h_TH_letGo rfl rfl rfl rfl rfl ⟨by decide, by decide⟩ rfl ?_
    refine ev_g0 rfl ?_
    refine ev_ret rfl ?_
    refine ev_gC [false, false, false, false, false, false, false, false, false, false, false, false, true] [] rfl ?_
    refine ev_ret rfl ?_
    refine ev_g0 rfl ?_
    refine ev_reta rfl ?_
    exact ⟨xn, Or.inl rfl, rfl, rfl, by
      show RC _ _ _ _ _ _ _ _ _ _ _ _ _ _ _ _
      (simp (disch := first | assumption | omega | decide) only [row12c, cl_ne, i_add, n_cl, rc_mad hC, Nat.zero_add, up_ne, up_eq])
      exact RC_make hC rfl hal hs⟩
  · skip
    have hme : xn 3 0 0 = xn 2 0 0 := by omega
    have hnx := rc_nx hC
    rw [hme] at hnx
    subst hnx
    refine ct_of h_SO_make rfl rfl rfl ?_
    refine ev_g0 rfl ?_
    refine ev_inV 1 k_SO_19 h_SO_hasRoomFor rfl rfl rfl rfl rfl ⟨by decide, by decide⟩ rfl ?_
    refine ev_gC [false] [] rfl ?_
    refine ev_retz rfl (by first | decide | exact zb_01 _) ?_
    refine ev_gC [true] [none] rfl ?_
    refine ev_inI 1 k_SO_23 h_TH_init rfl rfl rfl rfl ⟨by decide, by decide⟩ rfl ?_
    refine ev_go [] [] rfl ?_ ?_
    · (repeat' apply And.intro) <;> first | exact trivial | rfl | omega | (repeat (first | rw [mm_uk_eq] | rw [mm_uk_ne (by omega)]))
    refine ev_fin (a := 94 + 4 * xn 2 0 0) (c0 := 8) (by decide) (by repeat (first | rw [mm_uk_eq] | rw [mm_uk_ne (by omega)])) (hstr8 (by repeat (first | rw [up_eq ⟨rfl, rfl⟩] | rw [up_ne (by omega)] | rw [cl_ne (by omega)])) (by repeat (first | rw [up_eq ⟨rfl, rfl⟩] | rw [up_ne (by omega)] | rw [cl_ne (by omega)])) (by repeat (first | rw [up_eq ⟨rfl, rfl⟩] | rw [up_ne (by omega)] | rw [cl_ne (by omega)]))) ?_
    refine ev_ret rfl ⟨rfl, mm_uk_eq, ?_⟩
    refine ev_gC [] [] rfl ?_
    refine ev_inV 2 k_SO_26 h_TH_begin rfl rfl rfl rfl rfl ⟨by decide, by decide⟩ rfl ?_
    refine ev_g0 rfl ?_
    refine ev_inV 0 k_TH_36 h_TH_letGo rfl rfl rfl rfl rfl ⟨by decide, by decide⟩ rfl ?_
    refine ev_g0 rfl ?_
    refine ev_ret rfl ?_
    refine ev_gC [false, false, false, false, false, false, false, false, false, false, false, false, true] [] rfl ?_
    refine ev_ret rfl ?_
    refine ev_g0 rfl ?_
    refine ev_reta rfl ?_
    exact ⟨_, Or.inr rfl, by rfl, by rfl, by
      show RC _ _ _ _ _ _ _ _ _ _ _ _ _ _ _ _
      (simp (disch := first | assumption | omega | decide) only [row12c, cl_ne, i_add, n_cl, rc_mad hC, Nat.zero_add, up_ne, up_eq])
      have hC2 := RC_alloc hC (by omega)
      rw [hme] at hC2 ⊢
      exact RC_make hC2 (m := xn 2 0 0) rfl (by simp [u3] <;> omega) hs⟩
theorem ev_gM2 {Y : mm_Y} {μ0 : mm_M} {rem : List mm_E} {L : mm_L} {st : List mm_V} {μ : mm_M} {Post : Option mm_V → mm_M → Prop} (bs : List Bool) (os : List (Option Nat)) {e2 : mm_E} {rem2 : List mm_E} {L2 : mm_L} {st2 : List mm_V} {μ2 : mm_M} {P2 : Prop} (h : mm_go 5000 (mm_co Y) rem L st μ bs os True = some (e2 :: rem2, L2, st2, μ2, P2)) (k : Ev Y μ0 (e2 :: rem2) L2 st2 μ2 Post) (hp : P2 := by (repeat' apply And.intro) <;> first | exact trivial | assumption | rfl | decide | omega | (simp (disch := first | assumption | omega | decide) only [i_add, i_mul, n_cl, nI_and7, nI_and3, v_in, i_eq, i_lt, i_le, i_eq0, i_lt0, i_ge0, i_gt0, i_le0, lg_cmp_eq, lg_cmp_ge, lg_cmp_gt, lg_cmp_le, lg_cmp_lt, zb_e0, zb_n0, Classical.not_not, up_ne, Nat.zero_add, Nat.add_zero, *] <;> first | assumption | omega | decide)) : Ev Y μ0 rem L st μ Post := ev_go bs os h hp k
theorem ev_bM2 {Y : mm_Y} {μ0 : mm_M} {rem : List mm_E} {L : mm_L} {st : List mm_V} {μ : mm_M} {Post : Option mm_V → mm_M → Prop} {e2 e3 : mm_E} {rem2 rem3 : List mm_E} {L2 L3 : mm_L} {st2 st3 : List mm_V} {μ2 μ3 : mm_M} {c c2 d d2 : Prop} (hT : mm_go 1 (mm_co Y) rem L st μ [true] [] True = some (e2 :: rem2, L2, st2, μ2, True ∧ c)) (hF : mm_go 1 (mm_co Y) rem L st μ [false] [] True = some (e3 :: rem3, L3, st3, μ3, True ∧ c2)) (kt : d → Ev Y μ0 (e2 :: rem2) L2 st2 μ2 Post) (kf : d2 → Ev Y μ0 (e3 :: rem3) L3 st3 μ3 Post) (hc : ¬ c → c2 := by first | exact id | exact Classical.not_not.mp) (g1 : c → d := by intro hh; (try simp (disch := first | assumption | omega | decide) only [i_add, i_mul, n_cl, nI_and7, nI_and3, v_in, i_eq, i_lt, i_le, i_eq0, i_lt0, i_ge0, i_gt0, i_le0, lg_cmp_eq, lg_cmp_ge, lg_cmp_gt, lg_cmp_le, lg_cmp_lt, zb_e0, zb_n0, Classical.not_not, up_ne, Nat.zero_add, Nat.add_zero, *] at hh); exact hh) (g2 : c2 → d2 := by intro hh; (try simp (disch := first | assumption | omega | decide) only [i_add, i_mul, n_cl, nI_and7, nI_and3, v_in, i_eq, i_lt, i_le, i_eq0, i_lt0, i_ge0, i_gt0, i_le0, lg_cmp_eq, lg_cmp_ge, lg_cmp_gt, lg_cmp_le, lg_cmp_lt, zb_e0, zb_n0, Classical.not_not, up_ne, Nat.zero_add, Nat.add_zero, *] at hh); exact hh) : Ev Y μ0 rem L st μ Post := ev_br hT hF hc (fun h => kt (g1 h)) (fun h => kf (g2 h))
theorem lf_M2 {p : Prop} (h : p := by first | rfl | assumption | (simp (disch := first | assumption | omega | decide) only [i_add, i_mul, n_cl, nI_and7, nI_and3, v_in, i_eq, i_lt, i_le, i_eq0, i_lt0, i_ge0, i_gt0, i_le0, lg_cmp_eq, lg_cmp_ge, lg_cmp_gt, lg_cmp_le, lg_cmp_lt, zb_e0, zb_n0, Classical.not_not, up_ne, Nat.zero_add, Nat.add_zero, *] <;> first | rfl | assumption | omega | decide)) : p := h
set_option maxHeartbeats 2000000 in
theorem FR_loop1 {m s l : Nat} (hm : m < 160) (hs : s ≤ 20) (hb : 8 ≤ s) {K : Nat → Nat} {I : Nat → Nat → Int32} {J : Nat → Nat → Int64} {F : Nat → Nat → UInt32} {D : Nat → Nat → UInt64} {R : Nat → Nat → Option Nat} {nx sl : Nat} {μ0 : mm_M} {Post : Option mm_V → mm_M → Prop} (hX : Ev Y_MM_fresh μ0 (mm_to (mm_co Y_MM_fresh) 34) [(0, vr 11 6), (1, vi (nI s)), (2, vi (nI l)), (3, vi (nI m)), (4, vi (nI (12 * m + (12))))] [vi (nI (12 * m + 12)), vi (nI (12 * m + (12)))] (K, I, mm_filr J 9 (12 * m) (12) (lN 18446744073709551615), F, mm_filr D 10 (12 * m) (12) FP.dconst0, R, nx, sl) Post) : ∀ n j : Nat, j + n = 12 → Ev Y_MM_fresh μ0 (mm_to (mm_co Y_MM_fresh) 34) [(0, vr 11 6), (1, vi (nI s)), (2, vi (nI l)), (3, vi (nI m)), (4, vi (nI (12 * m + (j))))] [vi (nI (12 * m + 12)), vi (nI (12 * m + (j)))] (K, I, mm_filr J 9 (12 * m) (j) (lN 18446744073709551615), F, mm_filr D 10 (12 * m) (j) FP.dconst0, R, nx, sl) Post := by
  intro n
  induction n with
  | zero =>
    intro j hj
    obtain rfl : j = 12 := by omega
    exact hX
  | succ n ih =>
    intro j hj
    have c4 : (nI (12 * m + j)).toNatClampNeg = 12 * m + j := n_cl (by omega)
    refine ev_gM2 [false, false] [] rfl ?_
    refine ev_cg2 (L2 := [(0, vr 11 6), (1, vi (nI s)), (2, vi (nI l)), (3, vi (nI m)), (4, vi (nI (12 * m + (j + 1))))]) (st2 := [vi (nI (12 * m + 12)), vi (nI (12 * m + (j + 1)))]) ?_ ?_ ?_ (ih (j + 1) (by omega))
    · rw [i_add, Nat.add_assoc] <;> rfl
    · rw [i_mul, i_add, i_add, Nat.add_assoc] <;> rfl
    · show (K, I, mm_up _ 9 _ _, F, mm_up _ 10 _ _, R, nx, sl) = _
      rw [c4, filr_s, filr_s]
set_option maxHeartbeats 2000000 in
theorem FR_loop0 {m s l : Nat} (hm : m < 160) (hs : s ≤ 20) (hb : s < 8) {K : Nat → Nat} {I : Nat → Nat → Int32} {J : Nat → Nat → Int64} {F : Nat → Nat → UInt32} {D : Nat → Nat → UInt64} {R : Nat → Nat → Option Nat} {nx sl : Nat} {μ0 : mm_M} {Post : Option mm_V → mm_M → Prop} (hX : Ev Y_MM_fresh μ0 (mm_to (mm_co Y_MM_fresh) 34) [(0, vr 11 6), (1, vi (nI s)), (2, vi (nI l)), (3, vi (nI m)), (4, vi (nI (12 * m + (12))))] [vi (nI (12 * m + 12)), vi (nI (12 * m + (12)))] (K, I, mm_filr J 9 (12 * m) (12) (lN 0), F, mm_filr D 10 (12 * m) (12) FP.dconst0, R, nx, sl) Post) : ∀ n j : Nat, j + n = 12 → Ev Y_MM_fresh μ0 (mm_to (mm_co Y_MM_fresh) 34) [(0, vr 11 6), (1, vi (nI s)), (2, vi (nI l)), (3, vi (nI m)), (4, vi (nI (12 * m + (j))))] [vi (nI (12 * m + 12)), vi (nI (12 * m + (j)))] (K, I, mm_filr J 9 (12 * m) (j) (lN 0), F, mm_filr D 10 (12 * m) (j) FP.dconst0, R, nx, sl) Post := by
  intro n
  induction n with
  | zero =>
    intro j hj
    obtain rfl : j = 12 := by omega
    exact hX
  | succ n ih =>
    intro j hj
    have c4 : (nI (12 * m + j)).toNatClampNeg = 12 * m + j := n_cl (by omega)
    refine ev_gM2 [false, true] [] rfl ?_
    refine ev_cg2 (L2 := [(0, vr 11 6), (1, vi (nI s)), (2, vi (nI l)), (3, vi (nI m)), (4, vi (nI (12 * m + (j + 1))))]) (st2 := [vi (nI (12 * m + 12)), vi (nI (12 * m + (j + 1)))]) ?_ ?_ ?_ (ih (j + 1) (by omega))
    · rw [i_add, Nat.add_assoc] <;> rfl
    · rw [i_mul, i_add, i_add, Nat.add_assoc] <;> rfl
    · show (K, I, mm_up _ 9 _ _, F, mm_up _ 10 _ _, R, nx, sl) = _
      rw [c4, filr_s, filr_s]
set_option maxHeartbeats 4000000 in
theorem C_MM_fresh {ci : Nat → Nat → Nat → Int32} {cn : Nat → Nat → Nat → Nat} {co : Nat → Option Nat} {xj : Nat → Nat → Nat → Int64} {xd : Nat → Nat → Nat → UInt64} {xf : Nat → Nat → Nat → UInt32} {xo : Nat → Nat → Nat → Option Nat} {xi : Nat → Nat → Nat → Int32} {xn : Nat → Nat → Nat → Nat} {Km : Nat → Nat} {Im : Nat → Nat → Int32} {Jm : Nat → Nat → Int64} {Fm : Nat → Nat → UInt32} {Dm : Nat → Nat → UInt64} {Rm : Nat → Nat → Option Nat} {nxm slm : Nat} {s l : Nat} (hM : RM ci cn co xj xd xf xo xi xn Im Jm Dm) (hm : xn 2 0 0 < 160) (hs : s ≤ 20 ∧ s ≠ 15 ∧ l ≤ 12 ∧ (16 ≤ s → l = 0)) (isr : ∀ i, i < xn 2 0 0 → xn 1 i 0 ≤ 12) : Ct Y_MM_fresh [vr 11 6, vi (nI s), vi (nI l)] (Km, Im, Jm, Fm, Dm, Rm, nxm, slm) (fun r μ2 => r = some (vi (nI (xn 2 0 0))) ∧ RM ci cn co (mkj xj (xn 2 0 0)) (mkd xd (xn 2 0 0)) (mkf xf (xn 2 0 0)) (mko xo (xn 2 0 0)) (mki xi (xn 2 0 0)) (mkn xn (xn 2 0 0) s l) μ2.2.1 μ2.2.2.1 μ2.2.2.2.2.1 ∧ μ2.2.1 6 39 = Im 6 39 ∧ μ2.2.1 6 40 = Im 6 40 ∧ μ2.2.1 6 41 = Im 6 41 ∧ μ2.2.1 6 42 = Im 6 42 ∧ μ2.2.1 6 43 = Im 6 43 ∧ μ2.2.1 6 44 = Im 6 44) := by
  have em : Im 6 0 = nI (xn 2 0 0) := rm_mad hM
  generalize hmm : xn 2 0 0 = m at *
  have cm : (nI m).toNatClampNeg = m := n_cl (by omega)
  refine ct_of h_MM_fresh rfl rfl rfl ?_
  by_cases h8 : 8 ≤ s
  · skip
    refine ev_gM [] [] rfl ?_
    refine ev_cg2 (L2 := [(0, vr 11 6), (1, vi (nI s)), (2, vi (nI l)), (3, vi (nI m)), (4, vi (nI (12 * m + (0))))]) (st2 := [vi (nI (12 * m + 12)), vi (nI (12 * m + (0)))]) (μ2 := (Km, mm_up (mm_up Im 7 m (nI s)) 8 m (nI l), Jm, Fm, Dm, Rm, nxm, slm)) ?_ ?_ ?_ ?_
    · rw [em, i_mul]; rfl
    · rw [em, i_mul, i_add]; rfl
    · rw [em, cm]
    refine ev_cg2 rfl rfl ?_ (FR_loop1 (l := l) (K := Km) (I := mm_up (mm_up Im 7 m (nI s)) 8 m (nI l)) (J := Jm) (F := Fm) (D := Dm) (R := Rm) (nx := nxm) (sl := slm) hm hs.1 (by omega) ?_ 12 0 rfl)
    · rw [filr_0, filr_0]
    refine ev_gM [true] [] rfl ?_
    refine ev_reti rfl ?_
    refine ⟨rfl, ?_, lf_M, lf_M, lf_M, lf_M, lf_M, lf_M⟩
    show RM _ _ _ _ _ _ _ _ _ _ _ _
    (simp (disch := first | assumption | omega | decide) only [cm, n_cl, i_mul, i_add, up_ne, up_eq, em])
    exact RM_make hM hmm (by omega) hs (fun h => by omega) (fun _ => by decide) (fun i hi => isr i (by omega))
  · skip
    refine ev_gM [] [] rfl ?_
    refine ev_cg2 (L2 := [(0, vr 11 6), (1, vi (nI s)), (2, vi (nI l)), (3, vi (nI m)), (4, vi (nI (12 * m + (0))))]) (st2 := [vi (nI (12 * m + 12)), vi (nI (12 * m + (0)))]) (μ2 := (Km, mm_up (mm_up Im 7 m (nI s)) 8 m (nI l), Jm, Fm, Dm, Rm, nxm, slm)) ?_ ?_ ?_ ?_
    · rw [em, i_mul]; rfl
    · rw [em, i_mul, i_add]; rfl
    · rw [em, cm]
    refine ev_cg2 rfl rfl ?_ (FR_loop0 (l := l) (K := Km) (I := mm_up (mm_up Im 7 m (nI s)) 8 m (nI l)) (J := Jm) (F := Fm) (D := Dm) (R := Rm) (nx := nxm) (sl := slm) hm hs.1 (by omega) ?_ 12 0 rfl)
    · rw [filr_0, filr_0]
    refine ev_gM [true] [] rfl ?_
    refine ev_reti rfl ?_
    refine ⟨rfl, ?_, lf_M, lf_M, lf_M, lf_M, lf_M, lf_M⟩
    show RM _ _ _ _ _ _ _ _ _ _ _ _
    (simp (disch := first | assumption | omega | decide) only [cm, n_cl, i_mul, i_add, up_ne, up_eq, em])
    exact RM_make hM hmm (by omega) hs (fun _ => rfl) (fun h => by omega) (fun i hi => isr i (by omega))
