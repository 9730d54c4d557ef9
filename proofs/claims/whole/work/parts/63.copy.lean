def cpj {α : Type} (f : Nat → Nat → Nat → α) (u q sz n : Nat) : Nat → Nat → Nat → α := fun c a k => if c = 1 ∧ a = u ∧ k < n ∧ k < sz then f 1 q k else f c a k
theorem cpj_e {α : Type} {f : Nat → Nat → Nat → α} {u q sz n c a k : Nat} (h : ¬ a = u) : cpj f u q sz n c a k = f c a k := if_neg (fun g => h g.2.1)
theorem cpj_u {α : Type} {f : Nat → Nat → Nat → α} {u q sz n k : Nat} (h : k < n ∧ k < sz) : cpj f u q sz n 1 u k = f 1 q k := if_pos ⟨rfl, rfl, h.1, h.2⟩
theorem cpj_v {α : Type} {f : Nat → Nat → Nat → α} {u q sz n k : Nat} (h : ¬ (k < n ∧ k < sz)) : cpj f u q sz n 1 u k = f 1 u k := if_neg (fun g => h ⟨g.2.2.1, g.2.2.2⟩)
theorem cpj_s {α : Type} {f : Nat → Nat → Nat → α} {u q sz n k : Nat} (h : ¬ k = n) : cpj f u q sz (n + 1) 1 u k = cpj f u q sz n 1 u k := by
  by_cases g : k < n ∧ k < sz
  · rw [cpj_u g, cpj_u ⟨by omega, g.2⟩]
  · rw [cpj_v g, cpj_v (by omega)]
theorem cpj_0 {α : Type} (f : Nat → Nat → Nat → α) (u q sz : Nat) : cpj f u q sz 0 = f := by
  funext c a k
  exact if_neg (fun g => absurd g.2.2.1 (Nat.not_lt_zero _))
theorem cpj_12 {α : Type} (f : Nat → Nat → Nat → α) (u q : Nat) {sz : Nat} (h : sz ≤ 12) : cpj f u q sz 12 = cpj f u q sz sz := by
  funext c a k
  unfold cpj
  by_cases g : c = 1 ∧ a = u ∧ k < 12 ∧ k < sz
  · rw [if_pos g, if_pos ⟨g.1, g.2.1, g.2.2.2, g.2.2.2⟩]
  · rw [if_neg g, if_neg (fun e => g ⟨e.1, e.2.1, by omega, e.2.2.2⟩)]
set_option maxHeartbeats 4000000 in
theorem RC_cp {ci : Nat → Nat → Nat → Int32} {cn : Nat → Nat → Nat → Nat} {co : Nat → Option Nat} {xj : Nat → Nat → Nat → Int64} {xd : Nat → Nat → Nat → UInt64} {xf : Nat → Nat → Nat → UInt32} {xo : Nat → Nat → Nat → Option Nat} {xi : Nat → Nat → Nat → Int32} {xn : Nat → Nat → Nat → Nat} {I : Nat → Nat → Int32} {J : Nat → Nat → Int64} {F : Nat → Nat → UInt32} {D : Nat → Nat → UInt64} {R : Nat → Nat → Option Nat} {nx sl : Nat} {u q sz i : Nat} (h : RC ci cn co (cpj xj u q sz i) (cpj xd u q sz i) xf (cpj xo u q sz i) xi xn I J F D R nx sl) (hu : u < xn 2 0 0) (hq : q < xn 2 0 0) (huq : ¬ q = u) (hsz : xn 1 q 0 = sz) (hszu : xn 1 u 0 = sz) (hso : xn 0 u 0 = xn 0 q 0) : RC ci cn co (cpj xj u q sz (i + 1)) (cpj xd u q sz (i + 1)) xf (cpj xo u q sz (i + 1)) xi xn I (mm_up J (94 + 4 * u + 1) i (J (94 + 4 * q + 1) i)) F (mm_up D (94 + 4 * u + 2) i (D (94 + 4 * q + 2) i)) (mm_up R (94 + 4 * u + 3) i (R (94 + 4 * q + 3) i)) nx sl := by
  have isr := fun i hi => (rc_isor h (i := i) hi).2.2.1
  obtain ⟨hJ, hD, hF, hR, hI, hX, hN, hS⟩ := h
  exact ⟨⟨fun t1 ht1 k1 hk1 => by
      have g0 := hJ.1 t1 ht1 k1 hk1
      first | exact g0 | (simp (disch := first | omega | assumption) only [up_ne] <;> exact g0),
    fun i1 hi1 k1 hk1 e0 => by
      have z1 := isr i1 hi1
      have g0 := hJ.2.1 i1 hi1 k1 hk1 e0
      by_cases hiu : i1 = u
      · subst hiu
        by_cases hki : k1 = i
        · subst hki
          have g1 := hJ.2.1 q hq k1 (by omega) (by rw [← hso]; exact e0)
          rw [cpj_e huq] at g1
          (try simp (disch := first | omega | assumption) only [up_eq, up_ne, cpj_u]) <;> first | exact g1 | exact g0 | (intro w hw; exact g1 w hw) | (intro w hw; exact g0 w hw)
        · rw [cpj_s hki]
          (try simp (disch := first | omega | assumption) only [up_ne]) <;> first | exact g1 | exact g0 | (intro w hw; exact g1 w hw) | (intro w hw; exact g0 w hw)
      · rw [cpj_e hiu] at g0 ⊢
        (try simp (disch := first | omega | assumption) only [up_ne]) <;> first | exact g1 | exact g0 | (intro w hw; exact g1 w hw) | (intro w hw; exact g0 w hw),
    fun i1 hi1 => by
      have g0 := hJ.2.2 i1 hi1
      first | exact g0 | (simp (disch := first | omega | assumption) only [up_ne] <;> exact g0)⟩,
   ⟨fun t1 ht1 k1 hk1 => by
      have g0 := hD.1 t1 ht1 k1 hk1
      first | exact g0 | (simp (disch := first | omega | assumption) only [up_ne] <;> exact g0),
    fun i1 hi1 k1 hk1 e0 e1 => by
      have z1 := isr i1 hi1
      have g0 := hD.2.1 i1 hi1 k1 hk1 e0 e1
      by_cases hiu : i1 = u
      · subst hiu
        by_cases hki : k1 = i
        · subst hki
          have g1 := hD.2.1 q hq k1 (by omega) (by rw [← hso]; exact e0) (by rw [← hso]; exact e1)
          rw [cpj_e huq] at g1
          (try simp (disch := first | omega | assumption) only [up_eq, up_ne, cpj_u]) <;> first | exact g1 | exact g0 | (intro w hw; exact g1 w hw) | (intro w hw; exact g0 w hw)
        · rw [cpj_s hki]
          (try simp (disch := first | omega | assumption) only [up_ne]) <;> first | exact g1 | exact g0 | (intro w hw; exact g1 w hw) | (intro w hw; exact g0 w hw)
      · rw [cpj_e hiu] at g0 ⊢
        (try simp (disch := first | omega | assumption) only [up_ne]) <;> first | exact g1 | exact g0 | (intro w hw; exact g1 w hw) | (intro w hw; exact g0 w hw),
    fun i1 hi1 => by
      have g0 := hD.2.2.1 i1 hi1
      first | exact g0 | (simp (disch := first | omega | assumption) only [up_ne] <;> exact g0),
    fun j1 hj1 => by
      have g0 := hD.2.2.2 j1 hj1
      first | exact g0 | (simp (disch := first | omega | assumption) only [up_ne] <;> exact g0)⟩,
   hF,
   ⟨fun t1 ht1 k1 hk1 => by
      have g0 := hR.1 t1 ht1 k1 hk1
      first | exact g0 | (simp (disch := first | omega | assumption) only [up_ne] <;> exact g0),
    fun i1 hi1 k1 hk1 e0 => by
      have z1 := isr i1 hi1
      have g0 := hR.2.1 i1 hi1 k1 hk1 e0
      by_cases hiu : i1 = u
      · subst hiu
        by_cases hki : k1 = i
        · subst hki
          have g1 := hR.2.1 q hq k1 (by omega) (by rw [← hso]; exact e0)
          rw [cpj_e huq] at g1
          (try simp (disch := first | omega | assumption) only [up_eq, up_ne, cpj_u]) <;> first | exact g1 | exact g0 | (intro w hw; exact g1 w hw) | (intro w hw; exact g0 w hw)
        · rw [cpj_s hki]
          (try simp (disch := first | omega | assumption) only [up_ne]) <;> first | exact g1 | exact g0 | (intro w hw; exact g1 w hw) | (intro w hw; exact g0 w hw)
      · rw [cpj_e hiu] at g0 ⊢
        (try simp (disch := first | omega | assumption) only [up_ne]) <;> first | exact g1 | exact g0 | (intro w hw; exact g1 w hw) | (intro w hw; exact g0 w hw),
    fun i1 hi1 => by
      have g0 := hR.2.2.1 i1 hi1
      first | exact g0 | (simp (disch := first | omega | assumption) only [up_ne] <;> exact g0),
    fun i1 hi1 => by
      have g0 := hR.2.2.2.1 i1 hi1
      first | exact g0 | (simp (disch := first | omega | assumption) only [up_ne] <;> exact g0),
    fun t1 ht1 => by
      have g0 := hR.2.2.2.2.1 t1 ht1
      first | exact g0 | (simp (disch := first | omega | assumption) only [up_ne] <;> exact g0),
    fun t1 ht1 k1 hk1 => by
      have g0 := hR.2.2.2.2.2.1 t1 ht1 k1 hk1
      first | exact g0 | (simp (disch := first | omega | assumption) only [up_ne] <;> exact g0),
    fun i1 hi1 => by
      have g0 := hR.2.2.2.2.2.2.1 i1 hi1
      first | exact g0 | (simp (disch := first | omega | assumption) only [up_ne] <;> exact g0),
    fun i1 hi1 e0 => by
      have g0 := hR.2.2.2.2.2.2.2.1 i1 hi1 e0
      first | exact g0 | (simp (disch := first | omega | assumption) only [up_ne] <;> exact g0),
    fun p1 hp1 => by
      have g0 := hR.2.2.2.2.2.2.2.2.1 p1 hp1
      first | exact g0 | (simp (disch := first | omega | assumption) only [up_ne] <;> exact g0),
    fun t1 ht1 => by
      have g0 := hR.2.2.2.2.2.2.2.2.2 t1 ht1
      first | exact g0 | (simp (disch := first | omega | assumption) only [up_ne] <;> exact g0)⟩,
   ⟨fun p1 hp1 => by
      have g0 := hI.1 p1 hp1
      first | exact g0 | (simp (disch := first | omega | assumption) only [up_ne] <;> exact g0),
    fun p1 hp1 => by
      have g0 := hI.2.1 p1 hp1
      first | exact g0 | (simp (disch := first | omega | assumption) only [up_ne] <;> exact g0),
    fun p1 hp1 => by
      have g0 := hI.2.2.1 p1 hp1
      first | exact g0 | (simp (disch := first | omega | assumption) only [up_ne] <;> exact g0),
    fun p1 hp1 k1 hk1 => by
      have g0 := hI.2.2.2.1 p1 hp1 k1 hk1
      first | exact g0 | (simp (disch := first | omega | assumption) only [up_ne] <;> exact g0),
    fun p1 hp1 k1 hk1 => by
      have g0 := hI.2.2.2.2.1 p1 hp1 k1 hk1
      first | exact g0 | (simp (disch := first | omega | assumption) only [up_ne] <;> exact g0),
    fun p1 hp1 k1 hk1 => by
      have g0 := hI.2.2.2.2.2.1 p1 hp1 k1 hk1
      first | exact g0 | (simp (disch := first | omega | assumption) only [up_ne] <;> exact g0),
    fun p1 hp1 k1 hk1 => by
      have g0 := hI.2.2.2.2.2.2.1 p1 hp1 k1 hk1
      first | exact g0 | (simp (disch := first | omega | assumption) only [up_ne] <;> exact g0),
    fun p1 hp1 k1 hk1 => by
      have g0 := hI.2.2.2.2.2.2.2.1 p1 hp1 k1 hk1
      first | exact g0 | (simp (disch := first | omega | assumption) only [up_ne] <;> exact g0),
    fun p1 hp1 k1 hk1 => by
      have g0 := hI.2.2.2.2.2.2.2.2.1 p1 hp1 k1 hk1
      first | exact g0 | (simp (disch := first | omega | assumption) only [up_ne] <;> exact g0),
    fun p1 hp1 k1 hk1 => by
      have g0 := hI.2.2.2.2.2.2.2.2.2.1 p1 hp1 k1 hk1
      first | exact g0 | (simp (disch := first | omega | assumption) only [up_ne] <;> exact g0),
    fun p1 hp1 k1 hk1 => by
      have g0 := hI.2.2.2.2.2.2.2.2.2.2.1 p1 hp1 k1 hk1
      first | exact g0 | (simp (disch := first | omega | assumption) only [up_ne] <;> exact g0),
    fun t1 ht1 => by
      have g0 := hI.2.2.2.2.2.2.2.2.2.2.2.1 t1 ht1
      first | exact g0 | (simp (disch := first | omega | assumption) only [up_ne] <;> exact g0),
    fun t1 ht1 => by
      have g0 := hI.2.2.2.2.2.2.2.2.2.2.2.2.1 t1 ht1
      first | exact g0 | (simp (disch := first | omega | assumption) only [up_ne] <;> exact g0),
    fun t1 ht1 k1 hk1 => by
      have g0 := hI.2.2.2.2.2.2.2.2.2.2.2.2.2.1 t1 ht1 k1 hk1
      first | exact g0 | (simp (disch := first | omega | assumption) only [up_ne] <;> exact g0),
    fun t1 ht1 => by
      have g0 := hI.2.2.2.2.2.2.2.2.2.2.2.2.2.2.1 t1 ht1
      first | exact g0 | (simp (disch := first | omega | assumption) only [up_ne] <;> exact g0),
    fun t1 ht1 => by
      have g0 := hI.2.2.2.2.2.2.2.2.2.2.2.2.2.2.2.1 t1 ht1
      first | exact g0 | (simp (disch := first | omega | assumption) only [up_ne] <;> exact g0),
    fun t1 ht1 => by
      have g0 := hI.2.2.2.2.2.2.2.2.2.2.2.2.2.2.2.2.1 t1 ht1
      first | exact g0 | (simp (disch := first | omega | assumption) only [up_ne] <;> exact g0),
    fun t1 ht1 => by
      have g0 := hI.2.2.2.2.2.2.2.2.2.2.2.2.2.2.2.2.2.1 t1 ht1
      first | exact g0 | (simp (disch := first | omega | assumption) only [up_ne] <;> exact g0),
    fun t1 ht1 => by
      have g0 := hI.2.2.2.2.2.2.2.2.2.2.2.2.2.2.2.2.2.2.1 t1 ht1
      first | exact g0 | (simp (disch := first | omega | assumption) only [up_ne] <;> exact g0),
    fun t1 ht1 => by
      have g0 := hI.2.2.2.2.2.2.2.2.2.2.2.2.2.2.2.2.2.2.2.1 t1 ht1
      first | exact g0 | (simp (disch := first | omega | assumption) only [up_ne] <;> exact g0),
    by
      have g0 := hI.2.2.2.2.2.2.2.2.2.2.2.2.2.2.2.2.2.2.2.2.1
      first | exact g0 | (simp (disch := first | omega | assumption) only [up_ne] <;> exact g0),
    by
      have g0 := hI.2.2.2.2.2.2.2.2.2.2.2.2.2.2.2.2.2.2.2.2.2.1
      first | exact g0 | (simp (disch := first | omega | assumption) only [up_ne] <;> exact g0),
    fun i1 hi1 => by
      have g0 := hI.2.2.2.2.2.2.2.2.2.2.2.2.2.2.2.2.2.2.2.2.2.2.1 i1 hi1
      first | exact g0 | (simp (disch := first | omega | assumption) only [up_ne] <;> exact g0),
    fun i1 hi1 => by
      have g0 := hI.2.2.2.2.2.2.2.2.2.2.2.2.2.2.2.2.2.2.2.2.2.2.2.1 i1 hi1
      first | exact g0 | (simp (disch := first | omega | assumption) only [up_ne] <;> exact g0),
    fun i1 hi1 => by
      have g0 := hI.2.2.2.2.2.2.2.2.2.2.2.2.2.2.2.2.2.2.2.2.2.2.2.2.1 i1 hi1
      first | exact g0 | (simp (disch := first | omega | assumption) only [up_ne] <;> exact g0),
    fun i1 hi1 => by
      have g0 := hI.2.2.2.2.2.2.2.2.2.2.2.2.2.2.2.2.2.2.2.2.2.2.2.2.2.1 i1 hi1
      first | exact g0 | (simp (disch := first | omega | assumption) only [up_ne] <;> exact g0),
    fun i1 hi1 => by
      have g0 := hI.2.2.2.2.2.2.2.2.2.2.2.2.2.2.2.2.2.2.2.2.2.2.2.2.2.2.1 i1 hi1
      first | exact g0 | (simp (disch := first | omega | assumption) only [up_ne] <;> exact g0),
    fun i1 hi1 => by
      have g0 := hI.2.2.2.2.2.2.2.2.2.2.2.2.2.2.2.2.2.2.2.2.2.2.2.2.2.2.2.1 i1 hi1
      first | exact g0 | (simp (disch := first | omega | assumption) only [up_ne] <;> exact g0),
    fun i1 hi1 => by
      have g0 := hI.2.2.2.2.2.2.2.2.2.2.2.2.2.2.2.2.2.2.2.2.2.2.2.2.2.2.2.2.1 i1 hi1
      first | exact g0 | (simp (disch := first | omega | assumption) only [up_ne] <;> exact g0),
    fun i1 hi1 => by
      have g0 := hI.2.2.2.2.2.2.2.2.2.2.2.2.2.2.2.2.2.2.2.2.2.2.2.2.2.2.2.2.2.1 i1 hi1
      first | exact g0 | (simp (disch := first | omega | assumption) only [up_ne] <;> exact g0),
    fun i1 hi1 => by
      have g0 := hI.2.2.2.2.2.2.2.2.2.2.2.2.2.2.2.2.2.2.2.2.2.2.2.2.2.2.2.2.2.2 i1 hi1
      first | exact g0 | (simp (disch := first | omega | assumption) only [up_ne] <;> exact g0)⟩,
   ⟨fun t1 ht1 k1 hk1 => by
      have g0 := hX.1 t1 ht1 k1 hk1
      first | exact g0 | (simp (disch := first | omega | assumption) only [up_ne] <;> exact g0),
    fun i1 hi1 k1 hk1 e0 => by
      have z1 := isr i1 hi1
      have g0 := hX.2.1 i1 hi1 k1 hk1 e0
      by_cases hiu : i1 = u
      · subst hiu
        by_cases hki : k1 = i
        · subst hki
          have g1 := hX.2.1 q hq k1 (by omega) (by rw [← hso]; exact e0)
          rw [cpj_e huq] at g1
          (try simp (disch := first | omega | assumption) only [up_eq, up_ne, cpj_u]) <;> first | exact g1 | exact g0 | (intro w hw; exact g1 w hw) | (intro w hw; exact g0 w hw)
        · rw [cpj_s hki]
          (try simp (disch := first | omega | assumption) only [up_ne]) <;> first | exact g1 | exact g0 | (intro w hw; exact g1 w hw) | (intro w hw; exact g0 w hw)
      · rw [cpj_e hiu] at g0 ⊢
        (try simp (disch := first | omega | assumption) only [up_ne]) <;> first | exact g1 | exact g0 | (intro w hw; exact g1 w hw) | (intro w hw; exact g0 w hw),
    fun i1 hi1 => by
      have g0 := hX.2.2.1 i1 hi1
      first | exact g0 | (simp (disch := first | omega | assumption) only [up_ne] <;> exact g0),
    fun i1 hi1 => by
      have g0 := hX.2.2.2.1 i1 hi1
      first | exact g0 | (simp (disch := first | omega | assumption) only [up_ne] <;> exact g0),
    fun i1 hi1 => by
      have g0 := hX.2.2.2.2.1 i1 hi1
      first | exact g0 | (simp (disch := first | omega | assumption) only [up_ne] <;> exact g0),
    fun i1 hi1 => by
      have g0 := hX.2.2.2.2.2.1 i1 hi1
      first | exact g0 | (simp (disch := first | omega | assumption) only [up_ne] <;> exact g0),
    fun t1 ht1 k1 hk1 => by
      have g0 := hX.2.2.2.2.2.2.1 t1 ht1 k1 hk1
      first | exact g0 | (simp (disch := first | omega | assumption) only [up_ne] <;> exact g0),
    fun i1 hi1 k1 hk1 e0 e1 => by
      have z1 := isr i1 hi1
      have g0 := hX.2.2.2.2.2.2.2.1 i1 hi1 k1 hk1 e0 e1
      by_cases hiu : i1 = u
      · subst hiu
        by_cases hki : k1 = i
        · subst hki
          have g1 := hX.2.2.2.2.2.2.2.1 q hq k1 (by omega) (by rw [← hso]; exact e0) (by rw [← hso]; exact e1)
          rw [cpj_e huq] at g1
          (try simp (disch := first | omega | assumption) only [up_eq, up_ne, cpj_u]) <;> first | exact g1 | exact g0 | (intro w hw; exact g1 w hw) | (intro w hw; exact g0 w hw)
        · rw [cpj_s hki]
          (try simp (disch := first | omega | assumption) only [up_ne]) <;> first | exact g1 | exact g0 | (intro w hw; exact g1 w hw) | (intro w hw; exact g0 w hw)
      · rw [cpj_e hiu] at g0 ⊢
        (try simp (disch := first | omega | assumption) only [up_ne]) <;> first | exact g1 | exact g0 | (intro w hw; exact g1 w hw) | (intro w hw; exact g0 w hw),
    fun i1 hi1 => by
      have g0 := hX.2.2.2.2.2.2.2.2.1 i1 hi1
      first | exact g0 | (simp (disch := first | omega | assumption) only [up_ne] <;> exact g0),
    fun t1 ht1 k1 hk1 => by
      have g0 := hX.2.2.2.2.2.2.2.2.2.1 t1 ht1 k1 hk1
      first | exact g0 | (simp (disch := first | omega | assumption) only [up_ne] <;> exact g0),
    fun i1 hi1 => by
      have g0 := hX.2.2.2.2.2.2.2.2.2.2.1 i1 hi1
      first | exact g0 | (simp (disch := first | omega | assumption) only [up_ne] <;> exact g0),
    by
      have g0 := hX.2.2.2.2.2.2.2.2.2.2.2.1
      first | exact g0 | (simp (disch := first | omega | assumption) only [up_ne] <;> exact g0),
    fun t1 ht1 => by
      have g0 := hX.2.2.2.2.2.2.2.2.2.2.2.2 t1 ht1
      first | exact g0 | (simp (disch := first | omega | assumption) only [up_ne] <;> exact g0)⟩,
   hN,
   hS⟩
set_option maxHeartbeats 4000000 in
theorem RM_cp {ci : Nat → Nat → Nat → Int32} {cn : Nat → Nat → Nat → Nat} {co : Nat → Option Nat} {xj : Nat → Nat → Nat → Int64} {xd : Nat → Nat → Nat → UInt64} {xf : Nat → Nat → Nat → UInt32} {xo : Nat → Nat → Nat → Option Nat} {xi : Nat → Nat → Nat → Int32} {xn : Nat → Nat → Nat → Nat} {I : Nat → Nat → Int32} {J : Nat → Nat → Int64} {D : Nat → Nat → UInt64} {u q sz i : Nat} (h : RM ci cn co (cpj xj u q sz i) (cpj xd u q sz i) xf (cpj xo u q sz i) xi xn I J D) (isr : ∀ i, i < xn 2 0 0 → xn 1 i 0 ≤ 12) (his : i < sz) (hu : u < xn 2 0 0) (hq : q < xn 2 0 0) (huq : ¬ q = u) (hsz : xn 1 q 0 = sz) (hszu : xn 1 u 0 = sz) (hso : xn 0 u 0 = xn 0 q 0) : RM ci cn co (cpj xj u q sz (i + 1)) (cpj xd u q sz (i + 1)) xf (cpj xo u q sz (i + 1)) xi xn I (mm_up J 9 (12 * u + i) (J 9 (12 * q + i))) (mm_up D 10 (12 * u + i) (D 10 (12 * q + i))) := by
  have z2 := isr u hu
  have z3 := isr q hq
  obtain ⟨hJ, hD, hI⟩ := h
  exact ⟨⟨fun t1 ht1 k1 hk1 => by
      have g0 := hJ.1 t1 ht1 k1 hk1
      first | exact g0 | (simp (disch := first | omega | assumption) only [up_ne] <;> exact g0),
    fun i1 hi1 k1 hk1 e0 => by
      have z1 := isr i1 hi1
      have g0 := hJ.2.1 i1 hi1 k1 hk1 e0
      by_cases hiu : i1 = u
      · subst hiu
        by_cases hki : k1 = i
        · subst hki
          have g1 := hJ.2.1 q hq k1 (by omega) (by rw [← hso]; exact e0)
          rw [cpj_e huq] at g1
          (try simp (disch := first | omega | assumption) only [up_eq, up_ne, cpj_u]) <;> first | exact g1 | exact g0 | (intro w hw; exact g1 w hw) | (intro w hw; exact g0 w hw)
        · rw [cpj_s hki]
          (try simp (disch := first | omega | assumption) only [up_ne]) <;> first | exact g1 | exact g0 | (intro w hw; exact g1 w hw) | (intro w hw; exact g0 w hw)
      · rw [cpj_e hiu] at g0 ⊢
        (try simp (disch := first | omega | assumption) only [up_ne]) <;> first | exact g1 | exact g0 | (intro w hw; exact g1 w hw) | (intro w hw; exact g0 w hw),
    fun i1 hi1 k1 hk1 e0 => by
      have z1 := isr i1 hi1
      have g0 := hJ.2.2.1 i1 hi1 k1 hk1 e0
      by_cases hiu : i1 = u
      · subst hiu
        by_cases hki : k1 = i
        · subst hki
          have g1 := hJ.2.2.1 q hq k1 (by omega) (by rw [← hso]; exact e0)
          rw [cpj_e huq] at g1
          (try simp (disch := first | omega | assumption) only [up_eq, up_ne, cpj_u]) <;> first | exact g1 | exact g0 | (intro w hw; exact g1 w hw) | (intro w hw; exact g0 w hw)
        · rw [cpj_s hki]
          (try simp (disch := first | omega | assumption) only [up_ne]) <;> first | exact g1 | exact g0 | (intro w hw; exact g1 w hw) | (intro w hw; exact g0 w hw)
      · rw [cpj_e hiu] at g0 ⊢
        (try simp (disch := first | omega | assumption) only [up_ne]) <;> first | exact g1 | exact g0 | (intro w hw; exact g1 w hw) | (intro w hw; exact g0 w hw),
    fun i1 hi1 => by
      have g0 := hJ.2.2.2 i1 hi1
      first | exact g0 | (simp (disch := first | omega | assumption) only [up_ne] <;> exact g0)⟩,
   ⟨fun t1 ht1 k1 hk1 => by
      have g0 := hD.1 t1 ht1 k1 hk1
      first | exact g0 | (simp (disch := first | omega | assumption) only [up_ne] <;> exact g0),
    fun t1 ht1 k1 hk1 => by
      have g0 := hD.2.1 t1 ht1 k1 hk1
      first | exact g0 | (simp (disch := first | omega | assumption) only [up_ne] <;> exact g0),
    fun i1 hi1 k1 hk1 e0 e1 => by
      have z1 := isr i1 hi1
      have g0 := hD.2.2.1 i1 hi1 k1 hk1 e0 e1
      by_cases hiu : i1 = u
      · subst hiu
        by_cases hki : k1 = i
        · subst hki
          have g1 := hD.2.2.1 q hq k1 (by omega) (by rw [← hso]; exact e0) (by rw [← hso]; exact e1)
          rw [cpj_e huq] at g1
          (try simp (disch := first | omega | assumption) only [up_eq, up_ne, cpj_u]) <;> first | exact g1 | exact g0 | (intro w hw; exact g1 w hw) | (intro w hw; exact g0 w hw)
        · rw [cpj_s hki]
          (try simp (disch := first | omega | assumption) only [up_ne]) <;> first | exact g1 | exact g0 | (intro w hw; exact g1 w hw) | (intro w hw; exact g0 w hw)
      · rw [cpj_e hiu] at g0 ⊢
        (try simp (disch := first | omega | assumption) only [up_ne]) <;> first | exact g1 | exact g0 | (intro w hw; exact g1 w hw) | (intro w hw; exact g0 w hw),
    fun i1 hi1 => by
      have g0 := hD.2.2.2.1 i1 hi1
      first | exact g0 | (simp (disch := first | omega | assumption) only [up_ne] <;> exact g0),
    fun i1 hi1 => by
      have g0 := hD.2.2.2.2 i1 hi1
      first | exact g0 | (simp (disch := first | omega | assumption) only [up_ne] <;> exact g0)⟩,
   ⟨by
      have g0 := hI.1
      first | exact g0 | (simp (disch := first | omega | assumption) only [up_ne] <;> exact g0),
    by
      have g0 := hI.2.1
      first | exact g0 | (simp (disch := first | omega | assumption) only [up_ne] <;> exact g0),
    fun i1 hi1 => by
      have g0 := hI.2.2.1 i1 hi1
      first | exact g0 | (simp (disch := first | omega | assumption) only [up_ne] <;> exact g0),
    fun i1 hi1 => by
      have g0 := hI.2.2.2.1 i1 hi1
      first | exact g0 | (simp (disch := first | omega | assumption) only [up_ne] <;> exact g0),
    fun i1 hi1 => by
      have g0 := hI.2.2.2.2.1 i1 hi1
      first | exact g0 | (simp (disch := first | omega | assumption) only [up_ne] <;> exact g0),
    fun i1 hi1 => by
      have g0 := hI.2.2.2.2.2.1 i1 hi1
      first | exact g0 | (simp (disch := first | omega | assumption) only [up_ne] <;> exact g0),
    fun i1 hi1 => by
      have g0 := hI.2.2.2.2.2.2.1 i1 hi1
      first | exact g0 | (simp (disch := first | omega | assumption) only [up_ne] <;> exact g0),
    fun i1 hi1 k1 hk1 => by
      have g0 := hI.2.2.2.2.2.2.2.1 i1 hi1 k1 hk1
      first | exact g0 | (simp (disch := first | omega | assumption) only [up_ne] <;> exact g0),
    fun i1 hi1 => by
      have g0 := hI.2.2.2.2.2.2.2.2.1 i1 hi1
      first | exact g0 | (simp (disch := first | omega | assumption) only [up_ne] <;> exact g0),
    fun i1 hi1 => by
      have g0 := hI.2.2.2.2.2.2.2.2.2.1 i1 hi1
      first | exact g0 | (simp (disch := first | omega | assumption) only [up_ne] <;> exact g0),
    fun p1 hp1 => by
      have g0 := hI.2.2.2.2.2.2.2.2.2.2.1 p1 hp1
      first | exact g0 | (simp (disch := first | omega | assumption) only [up_ne] <;> exact g0),
    fun p1 hp1 k1 hk1 => by
      have g0 := hI.2.2.2.2.2.2.2.2.2.2.2.1 p1 hp1 k1 hk1
      first | exact g0 | (simp (disch := first | omega | assumption) only [up_ne] <;> exact g0),
    fun p1 hp1 k1 hk1 => by
      have g0 := hI.2.2.2.2.2.2.2.2.2.2.2.2.1 p1 hp1 k1 hk1
      first | exact g0 | (simp (disch := first | omega | assumption) only [up_ne] <;> exact g0),
    fun p1 hp1 k1 hk1 => by
      have g0 := hI.2.2.2.2.2.2.2.2.2.2.2.2.2.1 p1 hp1 k1 hk1
      first | exact g0 | (simp (disch := first | omega | assumption) only [up_ne] <;> exact g0),
    fun p1 hp1 k1 hk1 => by
      have g0 := hI.2.2.2.2.2.2.2.2.2.2.2.2.2.2.1 p1 hp1 k1 hk1
      first | exact g0 | (simp (disch := first | omega | assumption) only [up_ne] <;> exact g0),
    fun p1 hp1 => by
      have g0 := hI.2.2.2.2.2.2.2.2.2.2.2.2.2.2.2.1 p1 hp1
      first | exact g0 | (simp (disch := first | omega | assumption) only [up_ne] <;> exact g0),
    fun p1 hp1 k1 hk1 => by
      have g0 := hI.2.2.2.2.2.2.2.2.2.2.2.2.2.2.2.2.1 p1 hp1 k1 hk1
      first | exact g0 | (simp (disch := first | omega | assumption) only [up_ne] <;> exact g0),
    fun p1 hp1 k1 hk1 => by
      have g0 := hI.2.2.2.2.2.2.2.2.2.2.2.2.2.2.2.2.2.1 p1 hp1 k1 hk1
      first | exact g0 | (simp (disch := first | omega | assumption) only [up_ne] <;> exact g0),
    fun p1 hp1 k1 hk1 => by
      have g0 := hI.2.2.2.2.2.2.2.2.2.2.2.2.2.2.2.2.2.2.1 p1 hp1 k1 hk1
      first | exact g0 | (simp (disch := first | omega | assumption) only [up_ne] <;> exact g0),
    fun p1 hp1 k1 hk1 => by
      have g0 := hI.2.2.2.2.2.2.2.2.2.2.2.2.2.2.2.2.2.2.2.1 p1 hp1 k1 hk1
      first | exact g0 | (simp (disch := first | omega | assumption) only [up_ne] <;> exact g0),
    fun t1 ht1 k1 hk1 => by
      have g0 := hI.2.2.2.2.2.2.2.2.2.2.2.2.2.2.2.2.2.2.2.2.1 t1 ht1 k1 hk1
      first | exact g0 | (simp (disch := first | omega | assumption) only [up_ne] <;> exact g0),
    fun t1 ht1 => by
      have g0 := hI.2.2.2.2.2.2.2.2.2.2.2.2.2.2.2.2.2.2.2.2.2.1 t1 ht1
      first | exact g0 | (simp (disch := first | omega | assumption) only [up_ne] <;> exact g0),
    fun t1 ht1 => by
      have g0 := hI.2.2.2.2.2.2.2.2.2.2.2.2.2.2.2.2.2.2.2.2.2.2.1 t1 ht1
      first | exact g0 | (simp (disch := first | omega | assumption) only [up_ne] <;> exact g0),
    fun t1 ht1 k1 hk1 => by
      have g0 := hI.2.2.2.2.2.2.2.2.2.2.2.2.2.2.2.2.2.2.2.2.2.2.2.1 t1 ht1 k1 hk1
      first | exact g0 | (simp (disch := first | omega | assumption) only [up_ne] <;> exact g0),
    fun t1 ht1 k1 hk1 => by
      have g0 := hI.2.2.2.2.2.2.2.2.2.2.2.2.2.2.2.2.2.2.2.2.2.2.2.2.1 t1 ht1 k1 hk1
      first | exact g0 | (simp (disch := first | omega | assumption) only [up_ne] <;> exact g0),
    fun t1 ht1 => by
      have g0 := hI.2.2.2.2.2.2.2.2.2.2.2.2.2.2.2.2.2.2.2.2.2.2.2.2.2.1 t1 ht1
      first | exact g0 | (simp (disch := first | omega | assumption) only [up_ne] <;> exact g0),
    fun t1 ht1 => by
      have g0 := hI.2.2.2.2.2.2.2.2.2.2.2.2.2.2.2.2.2.2.2.2.2.2.2.2.2.2.1 t1 ht1
      first | exact g0 | (simp (disch := first | omega | assumption) only [up_ne] <;> exact g0),
    fun t1 ht1 => by
      have g0 := hI.2.2.2.2.2.2.2.2.2.2.2.2.2.2.2.2.2.2.2.2.2.2.2.2.2.2.2.1 t1 ht1
      first | exact g0 | (simp (disch := first | omega | assumption) only [up_ne] <;> exact g0),
    fun t1 ht1 => by
      have g0 := hI.2.2.2.2.2.2.2.2.2.2.2.2.2.2.2.2.2.2.2.2.2.2.2.2.2.2.2.2.1 t1 ht1
      first | exact g0 | (simp (disch := first | omega | assumption) only [up_ne] <;> exact g0),
    fun t1 ht1 => by
      have g0 := hI.2.2.2.2.2.2.2.2.2.2.2.2.2.2.2.2.2.2.2.2.2.2.2.2.2.2.2.2.2.1 t1 ht1
      first | exact g0 | (simp (disch := first | omega | assumption) only [up_ne] <;> exact g0),
    fun t1 ht1 => by
      have g0 := hI.2.2.2.2.2.2.2.2.2.2.2.2.2.2.2.2.2.2.2.2.2.2.2.2.2.2.2.2.2.2 t1 ht1
      first | exact g0 | (simp (disch := first | omega | assumption) only [up_ne] <;> exact g0)⟩⟩
theorem ev_gO3 {Y : mm_Y} {μ0 : mm_M} {rem : List mm_E} {L : mm_L} {st : List mm_V} {μ : mm_M} {Post : Option mm_V → mm_M → Prop} (bs : List Bool) (os : List (Option Nat)) {e2 : mm_E} {rem2 : List mm_E} {L2 : mm_L} {st2 : List mm_V} {μ2 : mm_M} {P2 : Prop} (h : mm_go 5000 (mm_co Y) rem L st μ bs os True = some (e2 :: rem2, L2, st2, μ2, P2)) (k : Ev Y μ0 (e2 :: rem2) L2 st2 μ2 Post) (hp : P2 := by (repeat' apply And.intro) <;> first | exact trivial | assumption | rfl | decide | omega | (simp (disch := first | assumption | omega | decide) only [i_add, i_mul, n_cl, nI_and7, nI_and3, v_in, i_eq, i_lt, i_le, i_eq0, i_lt0, i_ge0, i_gt0, i_le0, lg_cmp_eq, lg_cmp_ge, lg_cmp_gt, lg_cmp_le, lg_cmp_lt, zb_e0, zb_n0, Classical.not_not, up_ne, Nat.zero_add, Nat.add_zero, rc_num hC, rc_hol hC, rc_who hC, rc_rea hC, rc_par hC, rc_nn hC, rc_xx hC, rc_ff hC, rc_nxt hC, rc_lin hC, rc_sor hC, rc_len hC, rc_own hC, rc_tim hC, rc_tal hC, rc_dbl hC, rc_flt hC, rc_mad hC, rc_trc hC, rc_mk0 hC, rc_mk1 hC, rc_mk2 hC, rc_tix hC, rc_thg hC, rm_num hM, rm_hol hM, rm_who hM, rm_rea hM, rm_par hM, rm_nn hM, rm_xx hM, rm_ff hM, rm_nxt hM, rm_lin hM, rm_sor hM, rm_len hM, rm_own hM, rm_tim hM, rm_tal hM, rm_dbl hM, rm_flt hM, rm_mad hM, rm_trc hM, rm_mk hM, tR_s, tR_n, eI_s, eI_n, e_nm, e_mm, lN_i, l_lt, l_le, l_eq, l_z, lN_t, nI_tl, n_s1, i_sub, eLi, eL_s, eL_n, up_eq, mkz, i_l1, i_l2, i_l3, n_ti, i_tl2, e_mn, lN_i, Nat.add_sub_cancel, *] <;> first | assumption | omega | decide)) : Ev Y μ0 rem L st μ Post := ev_go bs os h hp k
theorem ev_bO3 {Y : mm_Y} {μ0 : mm_M} {rem : List mm_E} {L : mm_L} {st : List mm_V} {μ : mm_M} {Post : Option mm_V → mm_M → Prop} {e2 e3 : mm_E} {rem2 rem3 : List mm_E} {L2 L3 : mm_L} {st2 st3 : List mm_V} {μ2 μ3 : mm_M} {c c2 d d2 : Prop} (hT : mm_go 1 (mm_co Y) rem L st μ [true] [] True = some (e2 :: rem2, L2, st2, μ2, True ∧ c)) (hF : mm_go 1 (mm_co Y) rem L st μ [false] [] True = some (e3 :: rem3, L3, st3, μ3, True ∧ c2)) (kt : d → Ev Y μ0 (e2 :: rem2) L2 st2 μ2 Post) (kf : d2 → Ev Y μ0 (e3 :: rem3) L3 st3 μ3 Post) (hc : ¬ c → c2 := by first | exact id | exact Classical.not_not.mp) (g1 : c → d := by intro hh; (try simp (disch := first | assumption | omega | decide) only [i_add, i_mul, n_cl, nI_and7, nI_and3, v_in, i_eq, i_lt, i_le, i_eq0, i_lt0, i_ge0, i_gt0, i_le0, lg_cmp_eq, lg_cmp_ge, lg_cmp_gt, lg_cmp_le, lg_cmp_lt, zb_e0, zb_n0, Classical.not_not, up_ne, Nat.zero_add, Nat.add_zero, rc_num hC, rc_hol hC, rc_who hC, rc_rea hC, rc_par hC, rc_nn hC, rc_xx hC, rc_ff hC, rc_nxt hC, rc_lin hC, rc_sor hC, rc_len hC, rc_own hC, rc_tim hC, rc_tal hC, rc_dbl hC, rc_flt hC, rc_mad hC, rc_trc hC, rc_mk0 hC, rc_mk1 hC, rc_mk2 hC, rc_tix hC, rc_thg hC, rm_num hM, rm_hol hM, rm_who hM, rm_rea hM, rm_par hM, rm_nn hM, rm_xx hM, rm_ff hM, rm_nxt hM, rm_lin hM, rm_sor hM, rm_len hM, rm_own hM, rm_tim hM, rm_tal hM, rm_dbl hM, rm_flt hM, rm_mad hM, rm_trc hM, rm_mk hM, tR_s, tR_n, eI_s, eI_n, e_nm, e_mm, lN_i, l_lt, l_le, l_eq, l_z, lN_t, nI_tl, n_s1, i_sub, eLi, eL_s, eL_n, up_eq, mkz, i_l1, i_l2, i_l3, n_ti, i_tl2, e_mn, lN_i, Nat.add_sub_cancel, *] at hh); exact hh) (g2 : c2 → d2 := by intro hh; (try simp (disch := first | assumption | omega | decide) only [i_add, i_mul, n_cl, nI_and7, nI_and3, v_in, i_eq, i_lt, i_le, i_eq0, i_lt0, i_ge0, i_gt0, i_le0, lg_cmp_eq, lg_cmp_ge, lg_cmp_gt, lg_cmp_le, lg_cmp_lt, zb_e0, zb_n0, Classical.not_not, up_ne, Nat.zero_add, Nat.add_zero, rc_num hC, rc_hol hC, rc_who hC, rc_rea hC, rc_par hC, rc_nn hC, rc_xx hC, rc_ff hC, rc_nxt hC, rc_lin hC, rc_sor hC, rc_len hC, rc_own hC, rc_tim hC, rc_tal hC, rc_dbl hC, rc_flt hC, rc_mad hC, rc_trc hC, rc_mk0 hC, rc_mk1 hC, rc_mk2 hC, rc_tix hC, rc_thg hC, rm_num hM, rm_hol hM, rm_who hM, rm_rea hM, rm_par hM, rm_nn hM, rm_xx hM, rm_ff hM, rm_nxt hM, rm_lin hM, rm_sor hM, rm_len hM, rm_own hM, rm_tim hM, rm_tal hM, rm_dbl hM, rm_flt hM, rm_mad hM, rm_trc hM, rm_mk hM, tR_s, tR_n, eI_s, eI_n, e_nm, e_mm, lN_i, l_lt, l_le, l_eq, l_z, lN_t, nI_tl, n_s1, i_sub, eLi, eL_s, eL_n, up_eq, mkz, i_l1, i_l2, i_l3, n_ti, i_tl2, e_mn, lN_i, Nat.add_sub_cancel, *] at hh); exact hh) : Ev Y μ0 rem L st μ Post := ev_br hT hF hc (fun h => kt (g1 h)) (fun h => kf (g2 h))
theorem lf_O3 {p : Prop} (h : p := by first | rfl | assumption | (simp (disch := first | assumption | omega | decide) only [i_add, i_mul, n_cl, nI_and7, nI_and3, v_in, i_eq, i_lt, i_le, i_eq0, i_lt0, i_ge0, i_gt0, i_le0, lg_cmp_eq, lg_cmp_ge, lg_cmp_gt, lg_cmp_le, lg_cmp_lt, zb_e0, zb_n0, Classical.not_not, up_ne, Nat.zero_add, Nat.add_zero, rc_num hC, rc_hol hC, rc_who hC, rc_rea hC, rc_par hC, rc_nn hC, rc_xx hC, rc_ff hC, rc_nxt hC, rc_lin hC, rc_sor hC, rc_len hC, rc_own hC, rc_tim hC, rc_tal hC, rc_dbl hC, rc_flt hC, rc_mad hC, rc_trc hC, rc_mk0 hC, rc_mk1 hC, rc_mk2 hC, rc_tix hC, rc_thg hC, rm_num hM, rm_hol hM, rm_who hM, rm_rea hM, rm_par hM, rm_nn hM, rm_xx hM, rm_ff hM, rm_nxt hM, rm_lin hM, rm_sor hM, rm_len hM, rm_own hM, rm_tim hM, rm_tal hM, rm_dbl hM, rm_flt hM, rm_mad hM, rm_trc hM, rm_mk hM, tR_s, tR_n, eI_s, eI_n, e_nm, e_mm, lN_i, l_lt, l_le, l_eq, l_z, lN_t, nI_tl, n_s1, i_sub, eLi, eL_s, eL_n, up_eq, mkz, i_l1, i_l2, i_l3, n_ti, i_tl2, e_mn, lN_i, Nat.add_sub_cancel, *] <;> first | rfl | assumption | omega | decide)) : p := h
theorem ev_gO4 {Y : mm_Y} {μ0 : mm_M} {rem : List mm_E} {L : mm_L} {st : List mm_V} {μ : mm_M} {Post : Option mm_V → mm_M → Prop} (bs : List Bool) (os : List (Option Nat)) {e2 : mm_E} {rem2 : List mm_E} {L2 : mm_L} {st2 : List mm_V} {μ2 : mm_M} {P2 : Prop} (h : mm_go 5000 (mm_co Y) rem L st μ bs os True = some (e2 :: rem2, L2, st2, μ2, P2)) (k : Ev Y μ0 (e2 :: rem2) L2 st2 μ2 Post) (hp : P2 := by (repeat' apply And.intro) <;> first | exact trivial | assumption | rfl | decide | omega | (simp (disch := first | assumption | omega | decide) only [i_add, i_mul, n_cl, nI_and7, nI_and3, v_in, i_eq, i_lt, i_le, i_eq0, i_lt0, i_ge0, i_gt0, i_le0, lg_cmp_eq, lg_cmp_ge, lg_cmp_gt, lg_cmp_le, lg_cmp_lt, zb_e0, zb_n0, Classical.not_not, up_ne, Nat.zero_add, Nat.add_zero, rc_num hC, rc_hol hC, rc_who hC, rc_nn hC, rc_dbl hC, rc_flt hC, rc_rea hC, rc_xx hC, rc_ff hC, rc_par hC, rc_nxt hC, rc_lin hC, rc_thg hC, rc_prg hC, rc_str hC, rc_pix hC, rc_six hC, rc_own hC, rc_tim hC, rc_mad hC, rc_psz hC, rc_phn hC, rc_pop hC, rc_paa hC, rc_pbb hC, rc_pcc hC, rc_hfr hC, rc_hto hC, rc_hfl hC, rc_hpl hC, rc_dep hC, rc_pla hC, rc_don hC, rc_fai hC, rc_fno hC, rc_lat hC, rc_lpr hC, rc_lpl hC, rc_wan hC, rc_cal hC, cl_ne, tR_s, tR_n, eI_s, eI_n, e_nm, e_mm, lN_i, l_lt, l_le, l_eq, l_z, lN_t, nI_tl, n_s1, i_sub, eLi, eL_s, eL_n, up_eq, mkz, i_l1, i_l2, i_l3, n_ti, i_tl2, e_mn, Nat.add_sub_cancel, mx0, s11, sa1, if1, ite_self, *] <;> first | assumption | omega | decide)) : Ev Y μ0 rem L st μ Post := ev_go bs os h hp k
theorem ev_bO4 {Y : mm_Y} {μ0 : mm_M} {rem : List mm_E} {L : mm_L} {st : List mm_V} {μ : mm_M} {Post : Option mm_V → mm_M → Prop} {e2 e3 : mm_E} {rem2 rem3 : List mm_E} {L2 L3 : mm_L} {st2 st3 : List mm_V} {μ2 μ3 : mm_M} {c c2 d d2 : Prop} (hT : mm_go 1 (mm_co Y) rem L st μ [true] [] True = some (e2 :: rem2, L2, st2, μ2, True ∧ c)) (hF : mm_go 1 (mm_co Y) rem L st μ [false] [] True = some (e3 :: rem3, L3, st3, μ3, True ∧ c2)) (kt : d → Ev Y μ0 (e2 :: rem2) L2 st2 μ2 Post) (kf : d2 → Ev Y μ0 (e3 :: rem3) L3 st3 μ3 Post) (hc : ¬ c → c2 := by first | exact id | exact Classical.not_not.mp) (g1 : c → d := by intro hh; (try simp (disch := first | assumption | omega | decide) only [i_add, i_mul, n_cl, nI_and7, nI_and3, v_in, i_eq, i_lt, i_le, i_eq0, i_lt0, i_ge0, i_gt0, i_le0, lg_cmp_eq, lg_cmp_ge, lg_cmp_gt, lg_cmp_le, lg_cmp_lt, zb_e0, zb_n0, Classical.not_not, up_ne, Nat.zero_add, Nat.add_zero, rc_num hC, rc_hol hC, rc_who hC, rc_nn hC, rc_dbl hC, rc_flt hC, rc_rea hC, rc_xx hC, rc_ff hC, rc_par hC, rc_nxt hC, rc_lin hC, rc_thg hC, rc_prg hC, rc_str hC, rc_pix hC, rc_six hC, rc_own hC, rc_tim hC, rc_mad hC, rc_psz hC, rc_phn hC, rc_pop hC, rc_paa hC, rc_pbb hC, rc_pcc hC, rc_hfr hC, rc_hto hC, rc_hfl hC, rc_hpl hC, rc_dep hC, rc_pla hC, rc_don hC, rc_fai hC, rc_fno hC, rc_lat hC, rc_lpr hC, rc_lpl hC, rc_wan hC, rc_cal hC, cl_ne, tR_s, tR_n, eI_s, eI_n, e_nm, e_mm, lN_i, l_lt, l_le, l_eq, l_z, lN_t, nI_tl, n_s1, i_sub, eLi, eL_s, eL_n, up_eq, mkz, i_l1, i_l2, i_l3, n_ti, i_tl2, e_mn, Nat.add_sub_cancel, mx0, s11, sa1, if1, ite_self, *] at hh); exact hh) (g2 : c2 → d2 := by intro hh; (try simp (disch := first | assumption | omega | decide) only [i_add, i_mul, n_cl, nI_and7, nI_and3, v_in, i_eq, i_lt, i_le, i_eq0, i_lt0, i_ge0, i_gt0, i_le0, lg_cmp_eq, lg_cmp_ge, lg_cmp_gt, lg_cmp_le, lg_cmp_lt, zb_e0, zb_n0, Classical.not_not, up_ne, Nat.zero_add, Nat.add_zero, rc_num hC, rc_hol hC, rc_who hC, rc_nn hC, rc_dbl hC, rc_flt hC, rc_rea hC, rc_xx hC, rc_ff hC, rc_par hC, rc_nxt hC, rc_lin hC, rc_thg hC, rc_prg hC, rc_str hC, rc_pix hC, rc_six hC, rc_own hC, rc_tim hC, rc_mad hC, rc_psz hC, rc_phn hC, rc_pop hC, rc_paa hC, rc_pbb hC, rc_pcc hC, rc_hfr hC, rc_hto hC, rc_hfl hC, rc_hpl hC, rc_dep hC, rc_pla hC, rc_don hC, rc_fai hC, rc_fno hC, rc_lat hC, rc_lpr hC, rc_lpl hC, rc_wan hC, rc_cal hC, cl_ne, tR_s, tR_n, eI_s, eI_n, e_nm, e_mm, lN_i, l_lt, l_le, l_eq, l_z, lN_t, nI_tl, n_s1, i_sub, eLi, eL_s, eL_n, up_eq, mkz, i_l1, i_l2, i_l3, n_ti, i_tl2, e_mn, Nat.add_sub_cancel, mx0, s11, sa1, if1, ite_self, *] at hh); exact hh) : Ev Y μ0 rem L st μ Post := ev_br hT hF hc (fun h => kt (g1 h)) (fun h => kf (g2 h))
theorem lf_O4 {p : Prop} (h : p := by first | rfl | assumption | (simp (disch := first | assumption | omega | decide) only [i_add, i_mul, n_cl, nI_and7, nI_and3, v_in, i_eq, i_lt, i_le, i_eq0, i_lt0, i_ge0, i_gt0, i_le0, lg_cmp_eq, lg_cmp_ge, lg_cmp_gt, lg_cmp_le, lg_cmp_lt, zb_e0, zb_n0, Classical.not_not, up_ne, Nat.zero_add, Nat.add_zero, rc_num hC, rc_hol hC, rc_who hC, rc_nn hC, rc_dbl hC, rc_flt hC, rc_rea hC, rc_xx hC, rc_ff hC, rc_par hC, rc_nxt hC, rc_lin hC, rc_thg hC, rc_prg hC, rc_str hC, rc_pix hC, rc_six hC, rc_own hC, rc_tim hC, rc_mad hC, rc_psz hC, rc_phn hC, rc_pop hC, rc_paa hC, rc_pbb hC, rc_pcc hC, rc_hfr hC, rc_hto hC, rc_hfl hC, rc_hpl hC, rc_dep hC, rc_pla hC, rc_don hC, rc_fai hC, rc_fno hC, rc_lat hC, rc_lpr hC, rc_lpl hC, rc_wan hC, rc_cal hC, cl_ne, tR_s, tR_n, eI_s, eI_n, e_nm, e_mm, lN_i, l_lt, l_le, l_eq, l_z, lN_t, nI_tl, n_s1, i_sub, eLi, eL_s, eL_n, up_eq, mkz, i_l1, i_l2, i_l3, n_ti, i_tl2, e_mn, Nat.add_sub_cancel, mx0, s11, sa1, if1, ite_self, *] <;> first | rfl | assumption | omega | decide)) : p := h
set_option maxHeartbeats 4000000 in
theorem CR_loop {ci : Nat → Nat → Nat → Int32} {cn : Nat → Nat → Nat → Nat} {co : Nat → Option Nat} {xj : Nat → Nat → Nat → Int64} {xd : Nat → Nat → Nat → UInt64} {xf : Nat → Nat → Nat → UInt32} {xo : Nat → Nat → Nat → Option Nat} {xi : Nat → Nat → Nat → Int32} {xn : Nat → Nat → Nat → Nat} {t a u q sz : Nat} (hu : u < xn 2 0 0) (hq : q < xn 2 0 0) (huq : ¬ q = u) (hsz : xn 1 q 0 = sz) (hszu : xn 1 u 0 = sz) (hso : xn 0 u 0 = xn 0 q 0) {μ0 : mm_M} {Post : Option mm_V → mm_M → Prop} (hX : ∀ (K : Nat → Nat) (I : Nat → Nat → Int32) (J : Nat → Nat → Int64) (F : Nat → Nat → UInt32) (D : Nat → Nat → UInt64) (R : Nat → Nat → Option Nat) (nx sl : Nat), RC ci cn co (cpj xj u q sz 12) (cpj xd u q sz 12) xf (cpj xo u q sz 12) xi xn I J F D R nx sl → Ev Y_HA_copyRow μ0 (mm_to (mm_co Y_HA_copyRow) 47) [(0, vr 1 55), (1, vr 8 (32 + 7 * t)), (2, vi (nI a)), (3, vr 9 (94 + 4 * q)), (4, vr 9 (94 + 4 * u)), (5, vi (nI (12)))] [vi (nI 12), vi (nI 12)] (K, I, J, F, D, R, nx, sl) Post) : ∀ (n i : Nat) (K : Nat → Nat) (I : Nat → Nat → Int32) (J : Nat → Nat → Int64) (F : Nat → Nat → UInt32) (D : Nat → Nat → UInt64) (R : Nat → Nat → Option Nat) (nx sl : Nat), i + n = 12 → RC ci cn co (cpj xj u q sz i) (cpj xd u q sz i) xf (cpj xo u q sz i) xi xn I J F D R nx sl → Ev Y_HA_copyRow μ0 (mm_to (mm_co Y_HA_copyRow) 47) [(0, vr 1 55), (1, vr 8 (32 + 7 * t)), (2, vi (nI a)), (3, vr 9 (94 + 4 * q)), (4, vr 9 (94 + 4 * u)), (5, vi (nI (i)))] [vi (nI 12), vi (nI i)] (K, I, J, F, D, R, nx, sl) Post := by
  intro n
  induction n with
  | zero =>
    intro i K I J F D R nx sl hi hC
    obtain rfl : i = 12 := by omega
    exact hX _ _ _ _ _ _ _ _ hC
  | succ n ih =>
    intro i K I J F D R nx sl hi hC
    have hi12 : i < 12 := by omega
    rcases hr : R (94 + 4 * q + 3) i with _ | z
    · skip
      refine ev_gO4 [false] [none] rfl ?_
      refine ev_cg2 (L2 := [(0, vr 1 55), (1, vr 8 (32 + 7 * t)), (2, vi (nI a)), (3, vr 9 (94 + 4 * q)), (4, vr 9 (94 + 4 * u)), (5, vi (nI (i + 1)))]) (st2 := [vi (nI 12), vi (nI (i + 1))]) lf_O4 lf_O4 ?_ (ih (i + 1) K I _ F _ _ nx sl (by omega) (RC_cp hC hu hq huq hsz hszu hso))
      show (K, I, _, F, _, _, nx, sl) = (K, I, _, F, _, _, nx, sl)
      rw [show (nI i).toNatClampNeg = i from n_cl (by omega), hr]
    · skip
      refine ev_gO4 [false] [some (z)] rfl ?_
      refine ev_cg2 (L2 := [(0, vr 1 55), (1, vr 8 (32 + 7 * t)), (2, vi (nI a)), (3, vr 9 (94 + 4 * q)), (4, vr 9 (94 + 4 * u)), (5, vi (nI (i + 1)))]) (st2 := [vi (nI 12), vi (nI (i + 1))]) lf_O4 lf_O4 ?_ (ih (i + 1) K I _ F _ _ nx sl (by omega) (RC_cp hC hu hq huq hsz hszu hso))
      show (K, I, _, F, _, _, nx, sl) = (K, I, _, F, _, _, nx, sl)
      rw [show (nI i).toNatClampNeg = i from n_cl (by omega), hr]
theorem ev_gO5 {Y : mm_Y} {μ0 : mm_M} {rem : List mm_E} {L : mm_L} {st : List mm_V} {μ : mm_M} {Post : Option mm_V → mm_M → Prop} (bs : List Bool) (os : List (Option Nat)) {e2 : mm_E} {rem2 : List mm_E} {L2 : mm_L} {st2 : List mm_V} {μ2 : mm_M} {P2 : Prop} (h : mm_go 5000 (mm_co Y) rem L st μ bs os True = some (e2 :: rem2, L2, st2, μ2, P2)) (k : Ev Y μ0 (e2 :: rem2) L2 st2 μ2 Post) (hp : P2 := by (repeat' apply And.intro) <;> first | exact trivial | assumption | rfl | decide | omega | (simp (disch := first | assumption | omega | decide) only [i_add, i_mul, n_cl, nI_and7, nI_and3, v_in, i_eq, i_lt, i_le, i_eq0, i_lt0, i_ge0, i_gt0, i_le0, lg_cmp_eq, lg_cmp_ge, lg_cmp_gt, lg_cmp_le, lg_cmp_lt, zb_e0, zb_n0, Classical.not_not, up_ne, Nat.zero_add, Nat.add_zero, rm_num hM, rm_who hM, rm_par hM, rm_nn hM, rm_dbl hM, rm_flt hM, rm_rea hM, rm_xx hM, rm_ff hM, rm_mad hM, rm_trc hM, rm_sor hM, rm_len hM, rm_nxt hM, rm_lin hM, rm_tal hM, rm_mk hM, rm_own hM, rm_tim hM, rm_psz hM, rm_hol hM, cl_ne, tR_s, tR_n, eI_s, eI_n, e_nm, e_mm, lN_i, l_lt, l_le, l_eq, l_z, lN_t, nI_tl, n_s1, i_sub, eLi, eL_s, eL_n, up_eq, mkz, i_l1, i_l2, i_l3, n_ti, i_tl2, e_mn, rm_mk0 hM, rm_mk1 hM, rm_mk2 hM, Nat.add_sub_cancel, *] <;> first | assumption | omega | decide)) : Ev Y μ0 rem L st μ Post := ev_go bs os h hp k
theorem ev_bO5 {Y : mm_Y} {μ0 : mm_M} {rem : List mm_E} {L : mm_L} {st : List mm_V} {μ : mm_M} {Post : Option mm_V → mm_M → Prop} {e2 e3 : mm_E} {rem2 rem3 : List mm_E} {L2 L3 : mm_L} {st2 st3 : List mm_V} {μ2 μ3 : mm_M} {c c2 d d2 : Prop} (hT : mm_go 1 (mm_co Y) rem L st μ [true] [] True = some (e2 :: rem2, L2, st2, μ2, True ∧ c)) (hF : mm_go 1 (mm_co Y) rem L st μ [false] [] True = some (e3 :: rem3, L3, st3, μ3, True ∧ c2)) (kt : d → Ev Y μ0 (e2 :: rem2) L2 st2 μ2 Post) (kf : d2 → Ev Y μ0 (e3 :: rem3) L3 st3 μ3 Post) (hc : ¬ c → c2 := by first | exact id | exact Classical.not_not.mp) (g1 : c → d := by intro hh; (try simp (disch := first | assumption | omega | decide) only [i_add, i_mul, n_cl, nI_and7, nI_and3, v_in, i_eq, i_lt, i_le, i_eq0, i_lt0, i_ge0, i_gt0, i_le0, lg_cmp_eq, lg_cmp_ge, lg_cmp_gt, lg_cmp_le, lg_cmp_lt, zb_e0, zb_n0, Classical.not_not, up_ne, Nat.zero_add, Nat.add_zero, rm_num hM, rm_who hM, rm_par hM, rm_nn hM, rm_dbl hM, rm_flt hM, rm_rea hM, rm_xx hM, rm_ff hM, rm_mad hM, rm_trc hM, rm_sor hM, rm_len hM, rm_nxt hM, rm_lin hM, rm_tal hM, rm_mk hM, rm_own hM, rm_tim hM, rm_psz hM, rm_hol hM, cl_ne, tR_s, tR_n, eI_s, eI_n, e_nm, e_mm, lN_i, l_lt, l_le, l_eq, l_z, lN_t, nI_tl, n_s1, i_sub, eLi, eL_s, eL_n, up_eq, mkz, i_l1, i_l2, i_l3, n_ti, i_tl2, e_mn, rm_mk0 hM, rm_mk1 hM, rm_mk2 hM, Nat.add_sub_cancel, *] at hh); exact hh) (g2 : c2 → d2 := by intro hh; (try simp (disch := first | assumption | omega | decide) only [i_add, i_mul, n_cl, nI_and7, nI_and3, v_in, i_eq, i_lt, i_le, i_eq0, i_lt0, i_ge0, i_gt0, i_le0, lg_cmp_eq, lg_cmp_ge, lg_cmp_gt, lg_cmp_le, lg_cmp_lt, zb_e0, zb_n0, Classical.not_not, up_ne, Nat.zero_add, Nat.add_zero, rm_num hM, rm_who hM, rm_par hM, rm_nn hM, rm_dbl hM, rm_flt hM, rm_rea hM, rm_xx hM, rm_ff hM, rm_mad hM, rm_trc hM, rm_sor hM, rm_len hM, rm_nxt hM, rm_lin hM, rm_tal hM, rm_mk hM, rm_own hM, rm_tim hM, rm_psz hM, rm_hol hM, cl_ne, tR_s, tR_n, eI_s, eI_n, e_nm, e_mm, lN_i, l_lt, l_le, l_eq, l_z, lN_t, nI_tl, n_s1, i_sub, eLi, eL_s, eL_n, up_eq, mkz, i_l1, i_l2, i_l3, n_ti, i_tl2, e_mn, rm_mk0 hM, rm_mk1 hM, rm_mk2 hM, Nat.add_sub_cancel, *] at hh); exact hh) : Ev Y μ0 rem L st μ Post := ev_br hT hF hc (fun h => kt (g1 h)) (fun h => kf (g2 h))
theorem lf_O5 {p : Prop} (h : p := by first | rfl | assumption | (simp (disch := first | assumption | omega | decide) only [i_add, i_mul, n_cl, nI_and7, nI_and3, v_in, i_eq, i_lt, i_le, i_eq0, i_lt0, i_ge0, i_gt0, i_le0, lg_cmp_eq, lg_cmp_ge, lg_cmp_gt, lg_cmp_le, lg_cmp_lt, zb_e0, zb_n0, Classical.not_not, up_ne, Nat.zero_add, Nat.add_zero, rm_num hM, rm_who hM, rm_par hM, rm_nn hM, rm_dbl hM, rm_flt hM, rm_rea hM, rm_xx hM, rm_ff hM, rm_mad hM, rm_trc hM, rm_sor hM, rm_len hM, rm_nxt hM, rm_lin hM, rm_tal hM, rm_mk hM, rm_own hM, rm_tim hM, rm_psz hM, rm_hol hM, cl_ne, tR_s, tR_n, eI_s, eI_n, e_nm, e_mm, lN_i, l_lt, l_le, l_eq, l_z, lN_t, nI_tl, n_s1, i_sub, eLi, eL_s, eL_n, up_eq, mkz, i_l1, i_l2, i_l3, n_ti, i_tl2, e_mn, rm_mk0 hM, rm_mk1 hM, rm_mk2 hM, Nat.add_sub_cancel, *] <;> first | rfl | assumption | omega | decide)) : p := h
set_option maxHeartbeats 4000000 in
theorem CM_loop {ci : Nat → Nat → Nat → Int32} {cn : Nat → Nat → Nat → Nat} {co : Nat → Option Nat} {xj : Nat → Nat → Nat → Int64} {xd : Nat → Nat → Nat → UInt64} {xf : Nat → Nat → Nat → UInt32} {xo : Nat → Nat → Nat → Option Nat} {xi : Nat → Nat → Nat → Int32} {xn : Nat → Nat → Nat → Nat} {u q sz : Nat} (hu : u < xn 2 0 0) (hq : q < xn 2 0 0) (huq : ¬ q = u) (hsz : xn 1 q 0 = sz) (hszu : xn 1 u 0 = sz) (hso : xn 0 u 0 = xn 0 q 0) (isr : ∀ i, i < xn 2 0 0 → xn 1 i 0 ≤ 12) (yy : xn 2 0 0 ≤ 160) {y1 y2 y5 y6 : Int32} {μ0 : mm_M} {Post : Option mm_V → mm_M → Prop} (hX : ∀ (Km : Nat → Nat) (Im : Nat → Nat → Int32) (Jm : Nat → Nat → Int64) (Fm : Nat → Nat → UInt32) (Dm : Nat → Nat → UInt64) (Rm : Nat → Nat → Option Nat) (nxm slm : Nat), RM ci cn co (cpj xj u q sz sz) (cpj xd u q sz sz) xf (cpj xo u q sz sz) xi xn Im Jm Dm → Im 6 39 = y1 → Im 6 40 = y2 → Im 6 43 = y5 → Im 6 44 = y6 → Ev Y_MM_copies μ0 (mm_to (mm_co Y_MM_copies) 82) [(0, vr 11 6), (1, vi (nI q)), (2, vi (nI u)), (3, vi (nI (sz)))] [vi (nI sz), vi (nI sz)] (Km, Im, Jm, Fm, Dm, Rm, nxm, slm) Post) : ∀ (n i : Nat) (Km : Nat → Nat) (Im : Nat → Nat → Int32) (Jm : Nat → Nat → Int64) (Fm : Nat → Nat → UInt32) (Dm : Nat → Nat → UInt64) (Rm : Nat → Nat → Option Nat) (nxm slm : Nat), i + n = sz → RM ci cn co (cpj xj u q sz i) (cpj xd u q sz i) xf (cpj xo u q sz i) xi xn Im Jm Dm → Im 6 39 = y1 → Im 6 40 = y2 → Im 6 43 = y5 → Im 6 44 = y6 → Ev Y_MM_copies μ0 (mm_to (mm_co Y_MM_copies) 82) [(0, vr 11 6), (1, vi (nI q)), (2, vi (nI u)), (3, vi (nI (i)))] [vi (nI sz), vi (nI i)] (Km, Im, Jm, Fm, Dm, Rm, nxm, slm) Post := by
  intro n
  induction n with
  | zero =>
    intro i Km Im Jm Fm Dm Rm nxm slm hi hM x1 x2 x5 x6
    obtain rfl : i = sz := by omega
    exact hX _ _ _ _ _ _ _ _ hM x1 x2 x5 x6
  | succ n ih =>
    intro i Km Im Jm Fm Dm Rm nxm slm hi hM x1 x2 x5 x6
    have z2 := isr u hu
    have z3 := isr q hq
    refine ev_gO5 [false] [] rfl ?_
    refine ev_cg2 (L2 := [(0, vr 11 6), (1, vi (nI q)), (2, vi (nI u)), (3, vi (nI (i + 1)))]) (st2 := [vi (nI sz), vi (nI (i + 1))]) lf_O5 lf_O5 ?_ (ih (i + 1) Km Im _ Fm _ Rm nxm slm (by omega) (RM_cp hM isr (by omega) hu hq huq hsz hszu hso) x1 x2 x5 x6)
    show (Km, Im, _, Fm, _, Rm, nxm, slm) = (Km, Im, _, Fm, _, Rm, nxm, slm)
    simp (disch := first | assumption | omega | decide) only [i_add, i_mul, n_cl]
theorem C_SO_full {ci : Nat → Nat → Nat → Int32} {cn : Nat → Nat → Nat → Nat} {co : Nat → Option Nat} {xj : Nat → Nat → Nat → Int64} {xd : Nat → Nat → Nat → UInt64} {xf : Nat → Nat → Nat → UInt32} {xo : Nat → Nat → Nat → Option Nat} {xi : Nat → Nat → Nat → Int32} {xn : Nat → Nat → Nat → Nat} {K : Nat → Nat} {I : Nat → Nat → Int32} {J : Nat → Nat → Int64} {F : Nat → Nat → UInt32} {D : Nat → Nat → UInt64} {R : Nat → Nat → Option Nat} {nx sl : Nat} {s l : Int32} (hC : RC ci cn co xj xd xf xo xi xn I J F D R nx sl) (hm : xn 2 0 0 = 160) : mm_Det Y_SO_make [vr 7 9, vi s, vi l] (K, I, J, F, D, R, nx, sl) (some vn) (K, I, J, F, D, R, nx, sl) := by
  refine det_of h_SO_make rfl rfl rfl ?_
  refine ev_go [] [] rfl trivial ?_
  refine ev_inV 1 k_SO_19 h_SO_hasRoomFor rfl rfl rfl rfl rfl ⟨by decide, by decide⟩ rfl ?_
  refine ev_go [true] [] rfl ⟨trivial, ?_⟩ ?_
  · rw [rc_mad hC, hm]; decide
  refine ev_retz rfl (Or.inl rfl) ?_
  refine ev_go [false] [] rfl ⟨trivial, by decide⟩ ?_
  exact ev_retn rfl ⟨rfl, rfl⟩
set_option maxHeartbeats 4000000 in
theorem A47 {ci : Nat → Nat → Nat → Int32} {cn : Nat → Nat → Nat → Nat} {co : Nat → Option Nat} {xj : Nat → Nat → Nat → Int64} {xd : Nat → Nat → Nat → UInt64} {xf : Nat → Nat → Nat → UInt32} {xo : Nat → Nat → Nat → Option Nat} {xi : Nat → Nat → Nat → Int32} {xn : Nat → Nat → Nat → Nat} {K : Nat → Nat} {I : Nat → Nat → Int32} {J : Nat → Nat → Int64} {F : Nat → Nat → UInt32} {D : Nat → Nat → UInt64} {R : Nat → Nat → Option Nat} {nx sl : Nat} {Km : Nat → Nat} {Im : Nat → Nat → Int32} {Jm : Nat → Nat → Int64} {Fm : Nat → Nat → UInt32} {Dm : Nat → Nat → UInt64} {Rm : Nat → Nat → Option Nat} {nxm slm : Nat} (hC : RC ci cn co xj xd xf xo xi xn I J F D R nx sl) (hM : RM ci cn co xj xd xf xo xi xn Im Jm Dm) {t a b : Nat} {c go : Int32} (ht : t < 3) (ha : a < 8) (hb : b < 8) (x1 : Im 6 39 = nI t) (x2 : Im 6 40 = nI a) (x3 : Im 6 41 = nI b) (x4 : Im 6 42 = c) (x5 : Im 6 43 = nI 0) (x6 : Im 6 44 = go) : Ct Y_HA_perform [vr 1 55, vr 8 (32 + 7 * t), vi (nI 47), vi (nI a), vi (nI b), vi c] (K, I, J, F, D, R, nx, sl) (fun r μ1 => Ct Y_MM_handles [vr 11 6, vi (nI 47)] (Km, Im, Jm, Fm, Dm, Rm, nxm, slm) (fun r2 μ2 => r2 = none ∧ QA ci cn co go r μ1 μ2)) := by
  have ym := rc_imad hC
  rcases ho : xo 0 t b with _ | q
  · skip
    refine ct_of h_HA_perform rfl rfl rfl ?_
    refine ev_gO3 [] [some 35] rfl ?_
    refine ev_inV 1 k_HA_15 h_SD_t rfl rfl rfl rfl rfl ⟨by decide, by decide⟩ rfl ?_
    refine ev_gO3 [] [none] rfl ?_
    refine ev_retn rfl ?_
    refine ev_g0 rfl ?_
    refine ev_inV 3 k_HA_45 h_HA_copyRow rfl rfl rfl rfl rfl ⟨by decide, by decide⟩ rfl ?_
    refine ev_g0 rfl ?_
    refine ev_reti rfl ?_
    refine ev_g0 rfl ?_
    refine ev_reti rfl ?_
    refine ct_of h_MM_handles rfl rfl rfl ?_
    refine ev_g0 rfl ?_
    refine ev_inV 1 k_MM_344 h_MM_hold rfl rfl rfl rfl rfl ⟨by decide, by decide⟩ rfl ?_
    refine ev_gO3 [] [] rfl ?_
    refine ev_reti rfl ?_
    refine ev_gO3 [] [some 11] rfl ?_
    refine ev_inV 0 k_MM_383 h_MM_copies rfl rfl rfl rfl rfl ⟨by decide, by decide⟩ rfl ?_
    refine ev_g0 rfl ?_
    refine ev_inV 1 k_MM_344 h_MM_hold rfl rfl rfl rfl rfl ⟨by decide, by decide⟩ rfl ?_
    refine ev_gO3 [] [] rfl ?_
    refine ev_reti rfl ?_
    refine ev_g0 rfl ?_
    refine ev_inV 1 k_MM_357 h_MM_is rfl rfl rfl rfl rfl ⟨by decide, by decide⟩ rfl ?_
    refine ev_gO3 [false, true] [] rfl ?_
    refine ev_retz rfl (by first | decide | exact zb_01 _) ?_
    refine ev_gO3 [false] [] rfl ?_
    refine ev_ret rfl ?_
    refine ev_g0 rfl ?_
    refine ev_ret rfl ?_
    exact ⟨rfl, xj, xd, xf, xo, xi, xn, nI 1, rfl, bdd, lf_O3, lf_O3, hC, hM⟩
  · have hq := rc_ihol hC ht hb _ ho
    have zq := rc_isor hC hq
    by_cases hrow : xn 0 q 0 < 16
    · by_cases hroom : xn 2 0 0 < 160
      · skip
        obtain ⟨xa, K1, I1, J1, F1, D1, R1, n1, s1, K2, I2, J2, F2, D2, R2, n2, s2, d1, d2, hC1, hM1, ⟨y1, y2, y3, y4, y5, y6⟩, hxa⟩ := MK (K := K) (Km := Km) (Fm := Fm) (Rm := Rm) (nxm := nxm) (slm := slm) (s := xn 0 q 0) (l := xn 1 q 0) hC hM hroom (by omega)
        rw [x1] at y1
        rw [x2] at y2
        rw [x3] at y3
        rw [x4] at y4
        rw [x5] at y5
        rw [x6] at y6
        have huq : ¬ q = xn 2 0 0 := by omega
        have e2 : mkn xa (xn 2 0 0) (xn 0 q 0) (xn 1 q 0) 2 0 0 = xn 2 0 0 + 1 := mkn_2
        have eu : xn 2 0 0 < mkn xa (xn 2 0 0) (xn 0 q 0) (xn 1 q 0) 2 0 0 := by rw [e2]; omega
        have eq : q < mkn xa (xn 2 0 0) (xn 0 q 0) (xn 1 q 0) 2 0 0 := by rw [e2]; omega
        have es : mkn xa (xn 2 0 0) (xn 0 q 0) (xn 1 q 0) 1 q 0 = xn 1 q 0 := by rw [mkn_1 huq, hxa 1 q 0 (by decide)]
        have eo : mkn xa (xn 2 0 0) (xn 0 q 0) (xn 1 q 0) 0 q 0 = xn 0 q 0 := by rw [mkn_0 huq, hxa 0 q 0 (by decide)]
        have isr1 : ∀ i, i < mkn xa (xn 2 0 0) (xn 0 q 0) (xn 1 q 0) 2 0 0 → mkn xa (xn 2 0 0) (xn 0 q 0) (xn 1 q 0) 1 i 0 ≤ 12 := fun i hi => (rc_isor hC1 hi).2.2.1
        have yy1 : mkn xa (xn 2 0 0) (xn 0 q 0) (xn 1 q 0) 2 0 0 ≤ 160 := by rw [e2]; omega
        have hs12 : xn 1 q 0 ≤ 12 := zq.2.2.1
        have hlen : I2 8 q = nI (xn 1 q 0) := (rm_len hM1 eq).trans (by rw [es])
        refine ct_of h_HA_perform rfl rfl rfl ?_
        refine ev_gO3 [] [some 35] rfl ?_
        refine ev_inV 1 k_HA_15 h_SD_t rfl rfl rfl rfl rfl ⟨by decide, by decide⟩ rfl ?_
        refine ev_gO3 [] [some (94 + 4 * q)] rfl ?_
        refine ev_reta rfl ?_
        refine ev_g0 rfl ?_
        refine ev_inV 3 k_HA_45 h_HA_copyRow rfl rfl rfl rfl rfl ⟨by decide, by decide⟩ rfl ?_
        refine ev_g0 rfl ?_
        refine ev_inV 0 k_HA_111 h_TH_isRow rfl rfl rfl rfl rfl ⟨by decide, by decide⟩ rfl ?_
        refine ev_gO3 [false] [] rfl ?_
        refine ev_retz rfl (by first | decide | exact zb_01 _) ?_
        refine ev_gO3 [true] [] rfl ?_
        refine ev_top2 (a2 := vi (nI (xn 1 q 0))) (b2 := vi (nI (xn 0 q 0))) lf_O3 lf_O3 ?_
        refine ev_kV 2 k_HA_73 rfl d1 rfl ⟨by decide, by decide⟩ rfl ?_
        refine ev_g0 rfl ?_
        refine CR_loop (t := t) (a := a) (u := xn 2 0 0) (q := q) (sz := xn 1 q 0) eu eq huq es mkn_1n (mkn_0n.trans eo.symm) ?_ 12 0 _ _ _ _ _ _ _ _ rfl (by rw [cpj_0, cpj_0, cpj_0]; exact hC1)
        intro K3 I3 J3 F3 D3 R3 n3 s3 hC3
        rw [cpj_12 _ _ _ hs12, cpj_12 _ _ _ hs12, cpj_12 _ _ _ hs12] at hC3
        refine ev_gO3 [true] [] rfl ?_
        refine ev_inV 2 k_HA_21 h_SD_setT rfl rfl rfl rfl rfl ⟨by decide, by decide⟩ rfl ?_
        refine ev_gO3 [] [] rfl ?_
        refine ev_ret rfl ?_
        refine ev_g0 rfl ?_
        refine ev_reti rfl ?_
        refine ev_g0 rfl ?_
        refine ev_reti rfl ?_
        refine ct_of h_MM_handles rfl rfl rfl ?_
        refine ev_g0 rfl ?_
        refine ev_inV 1 k_MM_344 h_MM_hold rfl rfl rfl rfl rfl ⟨by decide, by decide⟩ rfl ?_
        refine ev_gO3 [] [] rfl ?_
        refine ev_reti rfl ?_
        refine ev_gO3 [] [some 11] rfl ?_
        refine ev_inV 0 k_MM_383 h_MM_copies rfl rfl rfl rfl rfl ⟨by decide, by decide⟩ rfl ?_
        refine ev_g0 rfl ?_
        refine ev_inV 1 k_MM_344 h_MM_hold rfl rfl rfl rfl rfl ⟨by decide, by decide⟩ rfl ?_
        refine ev_gO3 [] [] rfl ?_
        refine ev_reti rfl ?_
        refine ev_g0 rfl ?_
        refine ev_inV 1 k_MM_357 h_MM_is rfl rfl rfl rfl rfl ⟨by decide, by decide⟩ rfl ?_
        refine ev_gO3 [true, false] [] rfl ?_
        refine ev_retz rfl (by first | decide | exact zb_01 _) ?_
        refine ev_gO3 [true, true, true] [] rfl ?_
        refine ev_top2 (a2 := vi (nI (xn 1 q 0))) (b2 := vi (nI (xn 0 q 0))) lf_O3 lf_O3 ?_
        refine ev_kV 2 k_MM_332 rfl d2 rfl ⟨by decide, by decide⟩ rfl ?_
        refine ev_gO3 [] [] rfl ?_
        refine ev_cg2 (L2 := [(0, vr 11 6), (1, vi (nI q)), (2, vi (nI (xn 2 0 0))), (3, vi (nI 0))]) (st2 := [vi (nI (xn 1 q 0)), vi (nI 0)]) lf_O3 lf_O3 rfl ?_
        refine CM_loop (u := xn 2 0 0) (q := q) (sz := xn 1 q 0) eu eq huq es mkn_1n (mkn_0n.trans eo.symm) isr1 yy1 (y1 := nI t) (y2 := nI a) (y5 := nI 0) (y6 := go) ?_ (xn 1 q 0) 0 _ _ _ _ _ _ _ _ (by omega) (by rw [cpj_0, cpj_0, cpj_0]; exact hM1) y1 y2 y5 y6
        intro K4 I4 J4 F4 D4 R4 n4 s4 hM4 w1 w2 w5 w6
        refine ev_gO3 [true] [] rfl ?_
        refine ev_inV 2 k_MM_336 h_MM_keep rfl rfl rfl rfl rfl ⟨by decide, by decide⟩ rfl ?_
        refine ev_gO3 [] [] rfl ?_
        refine ev_ret rfl ?_
        refine ev_g0 rfl ?_
        refine ev_ret rfl ?_
        refine ev_g0 rfl ?_
        refine ev_ret rfl ?_
        exact ⟨rfl, _, _, _, _, _, _, nI 0, rfl, bdd, lf_O3, lf_O3, CU_hol (v := some (xn 2 0 0)) hC3 ht ha (fun q h => by cases h; exact eu) lf_O3 lf_O3, MU_hol hM4 ht ha lf_O3 lf_O3 isr1⟩
      · have hfull : xn 2 0 0 = 160 := by omega
        refine ct_of h_HA_perform rfl rfl rfl ?_
        refine ev_gO3 [] [some 35] rfl ?_
        refine ev_inV 1 k_HA_15 h_SD_t rfl rfl rfl rfl rfl ⟨by decide, by decide⟩ rfl ?_
        refine ev_gO3 [] [some (94 + 4 * q)] rfl ?_
        refine ev_reta rfl ?_
        refine ev_g0 rfl ?_
        refine ev_inV 3 k_HA_45 h_HA_copyRow rfl rfl rfl rfl rfl ⟨by decide, by decide⟩ rfl ?_
        refine ev_g0 rfl ?_
        refine ev_inV 0 k_HA_111 h_TH_isRow rfl rfl rfl rfl rfl ⟨by decide, by decide⟩ rfl ?_
        refine ev_gO3 [false] [] rfl ?_
        refine ev_retz rfl (by first | decide | exact zb_01 _) ?_
        refine ev_gO3 [true] [] rfl ?_
        refine ev_kV 2 k_HA_73 rfl (C_SO_full hC hfull) rfl ⟨by decide, by decide⟩ rfl ?_
        refine ev_g0 rfl ?_
        refine ev_reti rfl ?_
        refine ev_g0 rfl ?_
        refine ev_reti rfl ?_
        refine ct_of h_MM_handles rfl rfl rfl ?_
        refine ev_g0 rfl ?_
        refine ev_inV 1 k_MM_344 h_MM_hold rfl rfl rfl rfl rfl ⟨by decide, by decide⟩ rfl ?_
        refine ev_gO3 [] [] rfl ?_
        refine ev_reti rfl ?_
        refine ev_gO3 [] [some 11] rfl ?_
        refine ev_inV 0 k_MM_383 h_MM_copies rfl rfl rfl rfl rfl ⟨by decide, by decide⟩ rfl ?_
        refine ev_g0 rfl ?_
        refine ev_inV 1 k_MM_344 h_MM_hold rfl rfl rfl rfl rfl ⟨by decide, by decide⟩ rfl ?_
        refine ev_gO3 [] [] rfl ?_
        refine ev_reti rfl ?_
        refine ev_g0 rfl ?_
        refine ev_inV 1 k_MM_357 h_MM_is rfl rfl rfl rfl rfl ⟨by decide, by decide⟩ rfl ?_
        refine ev_gO3 [true, false] [] rfl ?_
        refine ev_retz rfl (by first | decide | exact zb_01 _) ?_
        refine ev_gO3 [true, true, false] [] rfl ?_
        refine ev_inV 1 k_MM_301 h_MM_fails rfl rfl rfl rfl rfl ⟨by decide, by decide⟩ rfl ?_
        refine ev_g0 rfl ?_
        refine ev_ret rfl ?_
        refine ev_g0 rfl ?_
        refine ev_ret rfl ?_
        refine ev_g0 rfl ?_
        refine ev_ret rfl ?_
        exact ⟨rfl, xj, xd, xf, xo, xi, xn, nI 9, rfl, bdd, lf_O3, lf_O3, hC, hM⟩
    · skip
      refine ct_of h_HA_perform rfl rfl rfl ?_
      refine ev_gO3 [] [some 35] rfl ?_
      refine ev_inV 1 k_HA_15 h_SD_t rfl rfl rfl rfl rfl ⟨by decide, by decide⟩ rfl ?_
      refine ev_gO3 [] [some (94 + 4 * q)] rfl ?_
      refine ev_reta rfl ?_
      refine ev_g0 rfl ?_
      refine ev_inV 3 k_HA_45 h_HA_copyRow rfl rfl rfl rfl rfl ⟨by decide, by decide⟩ rfl ?_
      refine ev_g0 rfl ?_
      refine ev_inV 0 k_HA_111 h_TH_isRow rfl rfl rfl rfl rfl ⟨by decide, by decide⟩ rfl ?_
      refine ev_gO3 [true] [] rfl ?_
      refine ev_retz rfl (by first | decide | exact zb_01 _) ?_
      refine ev_gO3 [false] [] rfl ?_
      refine ev_reti rfl ?_
      refine ev_g0 rfl ?_
      refine ev_reti rfl ?_
      refine ct_of h_MM_handles rfl rfl rfl ?_
      refine ev_g0 rfl ?_
      refine ev_inV 1 k_MM_344 h_MM_hold rfl rfl rfl rfl rfl ⟨by decide, by decide⟩ rfl ?_
      refine ev_gO3 [] [] rfl ?_
      refine ev_reti rfl ?_
      refine ev_gO3 [] [some 11] rfl ?_
      refine ev_inV 0 k_MM_383 h_MM_copies rfl rfl rfl rfl rfl ⟨by decide, by decide⟩ rfl ?_
      refine ev_g0 rfl ?_
      refine ev_inV 1 k_MM_344 h_MM_hold rfl rfl rfl rfl rfl ⟨by decide, by decide⟩ rfl ?_
      refine ev_gO3 [] [] rfl ?_
      refine ev_reti rfl ?_
      refine ev_g0 rfl ?_
      refine ev_inV 1 k_MM_357 h_MM_is rfl rfl rfl rfl rfl ⟨by decide, by decide⟩ rfl ?_
      refine ev_gO3 [true, false] [] rfl ?_
      refine ev_retz rfl (by first | decide | exact zb_01 _) ?_
      refine ev_gO3 [true, false] [] rfl ?_
      refine ev_inV 1 k_MM_301 h_MM_fails rfl rfl rfl rfl rfl ⟨by decide, by decide⟩ rfl ?_
      refine ev_g0 rfl ?_
      refine ev_ret rfl ?_
      refine ev_g0 rfl ?_
      refine ev_ret rfl ?_
      refine ev_g0 rfl ?_
      refine ev_ret rfl ?_
      exact ⟨rfl, xj, xd, xf, xo, xi, xn, nI 3, rfl, bdd, lf_O3, lf_O3, hC, hM⟩
