def mv {α : Type} (f : Nat → Nat → Nat → α) (u q g p lo hi : Nat) : Nat → Nat → Nat → α := fun c a k => if c = 1 ∧ a = u ∧ g + lo ≤ k ∧ k < g + hi then f 1 q (p + (k - g)) else f c a k
theorem mv_ne {α : Type} {f : Nat → Nat → Nat → α} {u q g p lo hi c a k : Nat} (h : ¬ a = u) : mv f u q g p lo hi c a k = f c a k := if_neg (fun x => h x.2.1)
theorem mv_in {α : Type} {f : Nat → Nat → Nat → α} {u q g p lo hi k : Nat} (h : g + lo ≤ k ∧ k < g + hi) : mv f u q g p lo hi 1 u k = f 1 q (p + (k - g)) := if_pos ⟨rfl, rfl, h.1, h.2⟩
theorem mv_out {α : Type} {f : Nat → Nat → Nat → α} {u q g p lo hi c a k : Nat} (h : ¬ (a = u ∧ g + lo ≤ k ∧ k < g + hi)) : mv f u q g p lo hi c a k = f c a k := if_neg (fun x => h x.2)
theorem mv_0 {α : Type} (f : Nat → Nat → Nat → α) (u q g p lo : Nat) : mv f u q g p lo lo = f := by
  funext c a k
  exact if_neg (fun x => absurd (Nat.lt_of_le_of_lt x.2.2.1 x.2.2.2) (Nat.lt_irrefl _))
theorem mv_st {α : Type} {f : Nat → Nat → Nat → α} {u q g p lo hi lo2 hi2 e a k : Nat} (hE : (lo2 = lo ∧ hi2 = hi + 1 ∧ e = hi) ∨ (hi2 = hi ∧ lo = lo2 + 1 ∧ e = lo2)) (hl : lo ≤ hi) (h : ¬ (a = u ∧ k = g + e)) : mv f u q g p lo2 hi2 1 a k = mv f u q g p lo hi 1 a k := by
  by_cases ha : a = u
  · subst ha
    have hk : ¬ k = g + e := fun x => h ⟨rfl, x⟩
    by_cases h1 : g + lo ≤ k ∧ k < g + hi
    · rw [mv_in h1, mv_in (by omega)]
    · rw [mv_out (fun x => h1 x.2), mv_out (by intro x; exact h1 (by omega))]
  · rw [mv_ne ha, mv_ne ha]
theorem cp_in {α : Type} {f : Nat → Nat → α} {a0 a sp dp n k : Nat} (h : dp ≤ k ∧ k < dp + n) : mm_cp f a0 a sp dp n a k = f a0 (sp + (k - dp)) := (if_pos rfl).trans (if_pos h)
theorem cp_out {α : Type} {f : Nat → Nat → α} {a0 a sp dp n k : Nat} (h : ¬ (dp ≤ k ∧ k < dp + n)) : mm_cp f a0 a sp dp n a k = f a k := (if_pos rfl).trans (if_neg h)
theorem cp_ne {α : Type} {f : Nat → Nat → α} {a0 a sp dp n c k : Nat} (h : ¬ c = a) : mm_cp f a0 a sp dp n c k = f c k := if_neg h
theorem l_sb {n m : Nat} (hn : n < 10000) (hm : m < 10000) : ((nI n).toInt64 - lN m).toInt = (n : Int) - (m : Int) := by
  have e1 : ((nI n).toInt64).toInt = (n : Int) := nI_tl hn
  have e2 : (lN m).toInt = (m : Int) := lN_t hm
  rw [Int64.toInt_sub, e1, e2]
  exact Int.bmod_eq_of_le (by omega) (by omega)
theorem lNi2 {n : Nat} (h : n < 10000) : (lN n).toInt32 = nI n := lN_i32 h
set_option maxHeartbeats 4000000 in
theorem RC_mv6 {ci : Nat → Nat → Nat → Int32} {cn : Nat → Nat → Nat → Nat} {co : Nat → Option Nat} {xj : Nat → Nat → Nat → Int64} {xd : Nat → Nat → Nat → UInt64} {xf : Nat → Nat → Nat → UInt32} {xo : Nat → Nat → Nat → Option Nat} {xi : Nat → Nat → Nat → Int32} {xn : Nat → Nat → Nat → Nat} {I : Nat → Nat → Int32} {J : Nat → Nat → Int64} {F : Nat → Nat → UInt32} {D : Nat → Nat → UInt64} {R : Nat → Nat → Option Nat} {nx sl : Nat} {u q g p m : Nat} (h : RC ci cn co xj xd xf xo xi xn I J F D R nx sl) (hu : u < xn 2 0 0) (hq : q < xn 2 0 0) (hso : xn 0 u 0 = xn 0 q 0) (hs8 : xn 0 q 0 < 8) (hgm : g + m ≤ xn 1 u 0) (hpm : p + m ≤ xn 1 q 0) (hs6 : xn 0 q 0 < 6) : RC ci cn co (mv xj u q g p 0 m) (mv xd u q g p 0 m) xf xo xi xn I (mm_cp J (94 + 4 * q + 1) (94 + 4 * u + 1) p g m) F D R nx sl := by
  obtain ⟨hJ, hD, hF, hR, hI, hX, hN, hS⟩ := h
  exact ⟨⟨fun t1 ht1 k1 hk1 => by
      have g0 := hJ.1 t1 ht1 k1 hk1
      first | exact g0 | (rw [cp_ne (by omega)]; exact g0),
    fun i1 hi1 k1 hk1 e0 => by
      have g0 := hJ.2.1 i1 hi1 k1 hk1 e0
      by_cases hiu : i1 = u
      · by_cases hr : g ≤ k1 ∧ k1 < g + m
        · have g1 := hJ.2.1 q hq (p + (k1 - g)) (by omega) (by have e9 := e0; rw [hiu] at e9; omega)
          rw [hiu, mv_in (by omega), cp_in hr]
          exact g1
        · rw [hiu] at g0 ⊢
          rw [mv_out (by omega), cp_out hr]
          exact g0
      · rw [mv_ne hiu, cp_ne (by omega)]
        exact g0,
    fun i1 hi1 => by
      have g0 := hJ.2.2 i1 hi1
      first | exact g0 | (rw [cp_ne (by omega)]; exact g0)⟩,
   ⟨fun t1 ht1 k1 hk1 => by
      have g0 := hD.1 t1 ht1 k1 hk1
      first | exact g0 | (rw [cp_ne (by omega)]; exact g0),
    fun i1 hi1 k1 hk1 e0 e1 => by
      have hiu : ¬ i1 = u := fun h => by subst h; omega
      rw [mv_ne hiu]
      exact hD.2.1 i1 hi1 k1 hk1 e0 e1,
    fun i1 hi1 => by
      have g0 := hD.2.2.1 i1 hi1
      first | exact g0 | (rw [cp_ne (by omega)]; exact g0),
    fun j1 hj1 => by
      have g0 := hD.2.2.2 j1 hj1
      first | exact g0 | (rw [cp_ne (by omega)]; exact g0)⟩,
   hF,
   ⟨fun t1 ht1 k1 hk1 => by
      have g0 := hR.1 t1 ht1 k1 hk1
      first | exact g0 | (rw [cp_ne (by omega)]; exact g0),
    fun i1 hi1 k1 hk1 e0 => by
      have g0 := hR.2.1 i1 hi1 k1 hk1 e0
      first | exact g0 | (rw [cp_ne (by omega)]; exact g0),
    fun i1 hi1 => by
      have g0 := hR.2.2.1 i1 hi1
      first | exact g0 | (rw [cp_ne (by omega)]; exact g0),
    fun i1 hi1 => by
      have g0 := hR.2.2.2.1 i1 hi1
      first | exact g0 | (rw [cp_ne (by omega)]; exact g0),
    fun t1 ht1 => by
      have g0 := hR.2.2.2.2.1 t1 ht1
      first | exact g0 | (rw [cp_ne (by omega)]; exact g0),
    fun t1 ht1 k1 hk1 => by
      have g0 := hR.2.2.2.2.2.1 t1 ht1 k1 hk1
      first | exact g0 | (rw [cp_ne (by omega)]; exact g0),
    fun i1 hi1 => by
      have g0 := hR.2.2.2.2.2.2.1 i1 hi1
      first | exact g0 | (rw [cp_ne (by omega)]; exact g0),
    fun i1 hi1 e0 => by
      have g0 := hR.2.2.2.2.2.2.2.1 i1 hi1 e0
      first | exact g0 | (rw [cp_ne (by omega)]; exact g0),
    fun p1 hp1 => by
      have g0 := hR.2.2.2.2.2.2.2.2.1 p1 hp1
      first | exact g0 | (rw [cp_ne (by omega)]; exact g0),
    fun t1 ht1 => by
      have g0 := hR.2.2.2.2.2.2.2.2.2 t1 ht1
      first | exact g0 | (rw [cp_ne (by omega)]; exact g0)⟩,
   ⟨fun p1 hp1 => by
      have g0 := hI.1 p1 hp1
      first | exact g0 | (rw [cp_ne (by omega)]; exact g0),
    fun p1 hp1 => by
      have g0 := hI.2.1 p1 hp1
      first | exact g0 | (rw [cp_ne (by omega)]; exact g0),
    fun p1 hp1 => by
      have g0 := hI.2.2.1 p1 hp1
      first | exact g0 | (rw [cp_ne (by omega)]; exact g0),
    fun p1 hp1 k1 hk1 => by
      have g0 := hI.2.2.2.1 p1 hp1 k1 hk1
      first | exact g0 | (rw [cp_ne (by omega)]; exact g0),
    fun p1 hp1 k1 hk1 => by
      have g0 := hI.2.2.2.2.1 p1 hp1 k1 hk1
      first | exact g0 | (rw [cp_ne (by omega)]; exact g0),
    fun p1 hp1 k1 hk1 => by
      have g0 := hI.2.2.2.2.2.1 p1 hp1 k1 hk1
      first | exact g0 | (rw [cp_ne (by omega)]; exact g0),
    fun p1 hp1 k1 hk1 => by
      have g0 := hI.2.2.2.2.2.2.1 p1 hp1 k1 hk1
      first | exact g0 | (rw [cp_ne (by omega)]; exact g0),
    fun p1 hp1 k1 hk1 => by
      have g0 := hI.2.2.2.2.2.2.2.1 p1 hp1 k1 hk1
      first | exact g0 | (rw [cp_ne (by omega)]; exact g0),
    fun p1 hp1 k1 hk1 => by
      have g0 := hI.2.2.2.2.2.2.2.2.1 p1 hp1 k1 hk1
      first | exact g0 | (rw [cp_ne (by omega)]; exact g0),
    fun p1 hp1 k1 hk1 => by
      have g0 := hI.2.2.2.2.2.2.2.2.2.1 p1 hp1 k1 hk1
      first | exact g0 | (rw [cp_ne (by omega)]; exact g0),
    fun p1 hp1 k1 hk1 => by
      have g0 := hI.2.2.2.2.2.2.2.2.2.2.1 p1 hp1 k1 hk1
      first | exact g0 | (rw [cp_ne (by omega)]; exact g0),
    fun t1 ht1 => by
      have g0 := hI.2.2.2.2.2.2.2.2.2.2.2.1 t1 ht1
      first | exact g0 | (rw [cp_ne (by omega)]; exact g0),
    fun t1 ht1 => by
      have g0 := hI.2.2.2.2.2.2.2.2.2.2.2.2.1 t1 ht1
      first | exact g0 | (rw [cp_ne (by omega)]; exact g0),
    fun t1 ht1 k1 hk1 => by
      have g0 := hI.2.2.2.2.2.2.2.2.2.2.2.2.2.1 t1 ht1 k1 hk1
      first | exact g0 | (rw [cp_ne (by omega)]; exact g0),
    fun t1 ht1 => by
      have g0 := hI.2.2.2.2.2.2.2.2.2.2.2.2.2.2.1 t1 ht1
      first | exact g0 | (rw [cp_ne (by omega)]; exact g0),
    fun t1 ht1 => by
      have g0 := hI.2.2.2.2.2.2.2.2.2.2.2.2.2.2.2.1 t1 ht1
      first | exact g0 | (rw [cp_ne (by omega)]; exact g0),
    fun t1 ht1 => by
      have g0 := hI.2.2.2.2.2.2.2.2.2.2.2.2.2.2.2.2.1 t1 ht1
      first | exact g0 | (rw [cp_ne (by omega)]; exact g0),
    fun t1 ht1 => by
      have g0 := hI.2.2.2.2.2.2.2.2.2.2.2.2.2.2.2.2.2.1 t1 ht1
      first | exact g0 | (rw [cp_ne (by omega)]; exact g0),
    fun t1 ht1 => by
      have g0 := hI.2.2.2.2.2.2.2.2.2.2.2.2.2.2.2.2.2.2.1 t1 ht1
      first | exact g0 | (rw [cp_ne (by omega)]; exact g0),
    fun t1 ht1 => by
      have g0 := hI.2.2.2.2.2.2.2.2.2.2.2.2.2.2.2.2.2.2.2.1 t1 ht1
      first | exact g0 | (rw [cp_ne (by omega)]; exact g0),
    by
      have g0 := hI.2.2.2.2.2.2.2.2.2.2.2.2.2.2.2.2.2.2.2.2.1
      first | exact g0 | (rw [cp_ne (by omega)]; exact g0),
    by
      have g0 := hI.2.2.2.2.2.2.2.2.2.2.2.2.2.2.2.2.2.2.2.2.2.1
      first | exact g0 | (rw [cp_ne (by omega)]; exact g0),
    fun i1 hi1 => by
      have g0 := hI.2.2.2.2.2.2.2.2.2.2.2.2.2.2.2.2.2.2.2.2.2.2.1 i1 hi1
      first | exact g0 | (rw [cp_ne (by omega)]; exact g0),
    fun i1 hi1 => by
      have g0 := hI.2.2.2.2.2.2.2.2.2.2.2.2.2.2.2.2.2.2.2.2.2.2.2.1 i1 hi1
      first | exact g0 | (rw [cp_ne (by omega)]; exact g0),
    fun i1 hi1 => by
      have g0 := hI.2.2.2.2.2.2.2.2.2.2.2.2.2.2.2.2.2.2.2.2.2.2.2.2.1 i1 hi1
      first | exact g0 | (rw [cp_ne (by omega)]; exact g0),
    fun i1 hi1 => by
      have g0 := hI.2.2.2.2.2.2.2.2.2.2.2.2.2.2.2.2.2.2.2.2.2.2.2.2.2.1 i1 hi1
      first | exact g0 | (rw [cp_ne (by omega)]; exact g0),
    fun i1 hi1 => by
      have g0 := hI.2.2.2.2.2.2.2.2.2.2.2.2.2.2.2.2.2.2.2.2.2.2.2.2.2.2.1 i1 hi1
      first | exact g0 | (rw [cp_ne (by omega)]; exact g0),
    fun i1 hi1 => by
      have g0 := hI.2.2.2.2.2.2.2.2.2.2.2.2.2.2.2.2.2.2.2.2.2.2.2.2.2.2.2.1 i1 hi1
      first | exact g0 | (rw [cp_ne (by omega)]; exact g0),
    fun i1 hi1 => by
      have g0 := hI.2.2.2.2.2.2.2.2.2.2.2.2.2.2.2.2.2.2.2.2.2.2.2.2.2.2.2.2.1 i1 hi1
      first | exact g0 | (rw [cp_ne (by omega)]; exact g0),
    fun i1 hi1 => by
      have g0 := hI.2.2.2.2.2.2.2.2.2.2.2.2.2.2.2.2.2.2.2.2.2.2.2.2.2.2.2.2.2.1 i1 hi1
      first | exact g0 | (rw [cp_ne (by omega)]; exact g0),
    fun i1 hi1 => by
      have g0 := hI.2.2.2.2.2.2.2.2.2.2.2.2.2.2.2.2.2.2.2.2.2.2.2.2.2.2.2.2.2.2 i1 hi1
      first | exact g0 | (rw [cp_ne (by omega)]; exact g0)⟩,
   ⟨fun t1 ht1 k1 hk1 => by
      have g0 := hX.1 t1 ht1 k1 hk1
      first | exact g0 | (rw [cp_ne (by omega)]; exact g0),
    fun i1 hi1 k1 hk1 e0 => by
      have g0 := hX.2.1 i1 hi1 k1 hk1 e0
      first | exact g0 | (rw [cp_ne (by omega)]; exact g0),
    fun i1 hi1 => by
      have g0 := hX.2.2.1 i1 hi1
      first | exact g0 | (rw [cp_ne (by omega)]; exact g0),
    fun i1 hi1 => by
      have g0 := hX.2.2.2.1 i1 hi1
      first | exact g0 | (rw [cp_ne (by omega)]; exact g0),
    fun i1 hi1 => by
      have g0 := hX.2.2.2.2.1 i1 hi1
      first | exact g0 | (rw [cp_ne (by omega)]; exact g0),
    fun i1 hi1 => by
      have g0 := hX.2.2.2.2.2.1 i1 hi1
      first | exact g0 | (rw [cp_ne (by omega)]; exact g0),
    fun t1 ht1 k1 hk1 => by
      have g0 := hX.2.2.2.2.2.2.1 t1 ht1 k1 hk1
      first | exact g0 | (rw [cp_ne (by omega)]; exact g0),
    fun i1 hi1 k1 hk1 e0 e1 => by
      have hiu : ¬ i1 = u := fun h => by subst h; omega
      rw [mv_ne hiu]
      exact hX.2.2.2.2.2.2.2.1 i1 hi1 k1 hk1 e0 e1,
    fun i1 hi1 => by
      have g0 := hX.2.2.2.2.2.2.2.2.1 i1 hi1
      first | exact g0 | (rw [cp_ne (by omega)]; exact g0),
    fun t1 ht1 k1 hk1 => by
      have g0 := hX.2.2.2.2.2.2.2.2.2.1 t1 ht1 k1 hk1
      first | exact g0 | (rw [cp_ne (by omega)]; exact g0),
    fun i1 hi1 => by
      have g0 := hX.2.2.2.2.2.2.2.2.2.2.1 i1 hi1
      first | exact g0 | (rw [cp_ne (by omega)]; exact g0),
    by
      have g0 := hX.2.2.2.2.2.2.2.2.2.2.2.1
      first | exact g0 | (rw [cp_ne (by omega)]; exact g0),
    fun t1 ht1 => by
      have g0 := hX.2.2.2.2.2.2.2.2.2.2.2.2 t1 ht1
      first | exact g0 | (rw [cp_ne (by omega)]; exact g0)⟩,
   hN,
   hS⟩
set_option maxHeartbeats 4000000 in
theorem RC_mv8 {ci : Nat → Nat → Nat → Int32} {cn : Nat → Nat → Nat → Nat} {co : Nat → Option Nat} {xj : Nat → Nat → Nat → Int64} {xd : Nat → Nat → Nat → UInt64} {xf : Nat → Nat → Nat → UInt32} {xo : Nat → Nat → Nat → Option Nat} {xi : Nat → Nat → Nat → Int32} {xn : Nat → Nat → Nat → Nat} {I : Nat → Nat → Int32} {J : Nat → Nat → Int64} {F : Nat → Nat → UInt32} {D : Nat → Nat → UInt64} {R : Nat → Nat → Option Nat} {nx sl : Nat} {u q g p m : Nat} (h : RC ci cn co xj xd xf xo xi xn I J F D R nx sl) (hu : u < xn 2 0 0) (hq : q < xn 2 0 0) (hso : xn 0 u 0 = xn 0 q 0) (hs8 : xn 0 q 0 < 8) (hgm : g + m ≤ xn 1 u 0) (hpm : p + m ≤ xn 1 q 0) (hs6 : 6 ≤ xn 0 q 0) : RC ci cn co (mv xj u q g p 0 m) (mv xd u q g p 0 m) xf xo xi xn I J F (mm_cp D (94 + 4 * q + 2) (94 + 4 * u + 2) p g m) R nx sl := by
  obtain ⟨hJ, hD, hF, hR, hI, hX, hN, hS⟩ := h
  exact ⟨⟨fun t1 ht1 k1 hk1 => by
      have g0 := hJ.1 t1 ht1 k1 hk1
      first | exact g0 | (rw [cp_ne (by omega)]; exact g0),
    fun i1 hi1 k1 hk1 e0 => by
      have hiu : ¬ i1 = u := fun h => by subst h; omega
      rw [mv_ne hiu]
      exact hJ.2.1 i1 hi1 k1 hk1 e0,
    fun i1 hi1 => by
      have g0 := hJ.2.2 i1 hi1
      first | exact g0 | (rw [cp_ne (by omega)]; exact g0)⟩,
   ⟨fun t1 ht1 k1 hk1 => by
      have g0 := hD.1 t1 ht1 k1 hk1
      first | exact g0 | (rw [cp_ne (by omega)]; exact g0),
    fun i1 hi1 k1 hk1 e0 e1 => by
      have g0 := hD.2.1 i1 hi1 k1 hk1 e0 e1
      by_cases hiu : i1 = u
      · by_cases hr : g ≤ k1 ∧ k1 < g + m
        · have g1 := hD.2.1 q hq (p + (k1 - g)) (by omega) (by have e9 := e0; rw [hiu] at e9; omega) (by have e9 := e1; rw [hiu] at e9; omega)
          rw [hiu, mv_in (by omega), cp_in hr]
          exact g1
        · rw [hiu] at g0 ⊢
          rw [mv_out (by omega), cp_out hr]
          exact g0
      · rw [mv_ne hiu, cp_ne (by omega)]
        exact g0,
    fun i1 hi1 => by
      have g0 := hD.2.2.1 i1 hi1
      first | exact g0 | (rw [cp_ne (by omega)]; exact g0),
    fun j1 hj1 => by
      have g0 := hD.2.2.2 j1 hj1
      first | exact g0 | (rw [cp_ne (by omega)]; exact g0)⟩,
   hF,
   ⟨fun t1 ht1 k1 hk1 => by
      have g0 := hR.1 t1 ht1 k1 hk1
      first | exact g0 | (rw [cp_ne (by omega)]; exact g0),
    fun i1 hi1 k1 hk1 e0 => by
      have g0 := hR.2.1 i1 hi1 k1 hk1 e0
      first | exact g0 | (rw [cp_ne (by omega)]; exact g0),
    fun i1 hi1 => by
      have g0 := hR.2.2.1 i1 hi1
      first | exact g0 | (rw [cp_ne (by omega)]; exact g0),
    fun i1 hi1 => by
      have g0 := hR.2.2.2.1 i1 hi1
      first | exact g0 | (rw [cp_ne (by omega)]; exact g0),
    fun t1 ht1 => by
      have g0 := hR.2.2.2.2.1 t1 ht1
      first | exact g0 | (rw [cp_ne (by omega)]; exact g0),
    fun t1 ht1 k1 hk1 => by
      have g0 := hR.2.2.2.2.2.1 t1 ht1 k1 hk1
      first | exact g0 | (rw [cp_ne (by omega)]; exact g0),
    fun i1 hi1 => by
      have g0 := hR.2.2.2.2.2.2.1 i1 hi1
      first | exact g0 | (rw [cp_ne (by omega)]; exact g0),
    fun i1 hi1 e0 => by
      have g0 := hR.2.2.2.2.2.2.2.1 i1 hi1 e0
      first | exact g0 | (rw [cp_ne (by omega)]; exact g0),
    fun p1 hp1 => by
      have g0 := hR.2.2.2.2.2.2.2.2.1 p1 hp1
      first | exact g0 | (rw [cp_ne (by omega)]; exact g0),
    fun t1 ht1 => by
      have g0 := hR.2.2.2.2.2.2.2.2.2 t1 ht1
      first | exact g0 | (rw [cp_ne (by omega)]; exact g0)⟩,
   ⟨fun p1 hp1 => by
      have g0 := hI.1 p1 hp1
      first | exact g0 | (rw [cp_ne (by omega)]; exact g0),
    fun p1 hp1 => by
      have g0 := hI.2.1 p1 hp1
      first | exact g0 | (rw [cp_ne (by omega)]; exact g0),
    fun p1 hp1 => by
      have g0 := hI.2.2.1 p1 hp1
      first | exact g0 | (rw [cp_ne (by omega)]; exact g0),
    fun p1 hp1 k1 hk1 => by
      have g0 := hI.2.2.2.1 p1 hp1 k1 hk1
      first | exact g0 | (rw [cp_ne (by omega)]; exact g0),
    fun p1 hp1 k1 hk1 => by
      have g0 := hI.2.2.2.2.1 p1 hp1 k1 hk1
      first | exact g0 | (rw [cp_ne (by omega)]; exact g0),
    fun p1 hp1 k1 hk1 => by
      have g0 := hI.2.2.2.2.2.1 p1 hp1 k1 hk1
      first | exact g0 | (rw [cp_ne (by omega)]; exact g0),
    fun p1 hp1 k1 hk1 => by
      have g0 := hI.2.2.2.2.2.2.1 p1 hp1 k1 hk1
      first | exact g0 | (rw [cp_ne (by omega)]; exact g0),
    fun p1 hp1 k1 hk1 => by
      have g0 := hI.2.2.2.2.2.2.2.1 p1 hp1 k1 hk1
      first | exact g0 | (rw [cp_ne (by omega)]; exact g0),
    fun p1 hp1 k1 hk1 => by
      have g0 := hI.2.2.2.2.2.2.2.2.1 p1 hp1 k1 hk1
      first | exact g0 | (rw [cp_ne (by omega)]; exact g0),
    fun p1 hp1 k1 hk1 => by
      have g0 := hI.2.2.2.2.2.2.2.2.2.1 p1 hp1 k1 hk1
      first | exact g0 | (rw [cp_ne (by omega)]; exact g0),
    fun p1 hp1 k1 hk1 => by
      have g0 := hI.2.2.2.2.2.2.2.2.2.2.1 p1 hp1 k1 hk1
      first | exact g0 | (rw [cp_ne (by omega)]; exact g0),
    fun t1 ht1 => by
      have g0 := hI.2.2.2.2.2.2.2.2.2.2.2.1 t1 ht1
      first | exact g0 | (rw [cp_ne (by omega)]; exact g0),
    fun t1 ht1 => by
      have g0 := hI.2.2.2.2.2.2.2.2.2.2.2.2.1 t1 ht1
      first | exact g0 | (rw [cp_ne (by omega)]; exact g0),
    fun t1 ht1 k1 hk1 => by
      have g0 := hI.2.2.2.2.2.2.2.2.2.2.2.2.2.1 t1 ht1 k1 hk1
      first | exact g0 | (rw [cp_ne (by omega)]; exact g0),
    fun t1 ht1 => by
      have g0 := hI.2.2.2.2.2.2.2.2.2.2.2.2.2.2.1 t1 ht1
      first | exact g0 | (rw [cp_ne (by omega)]; exact g0),
    fun t1 ht1 => by
      have g0 := hI.2.2.2.2.2.2.2.2.2.2.2.2.2.2.2.1 t1 ht1
      first | exact g0 | (rw [cp_ne (by omega)]; exact g0),
    fun t1 ht1 => by
      have g0 := hI.2.2.2.2.2.2.2.2.2.2.2.2.2.2.2.2.1 t1 ht1
      first | exact g0 | (rw [cp_ne (by omega)]; exact g0),
    fun t1 ht1 => by
      have g0 := hI.2.2.2.2.2.2.2.2.2.2.2.2.2.2.2.2.2.1 t1 ht1
      first | exact g0 | (rw [cp_ne (by omega)]; exact g0),
    fun t1 ht1 => by
      have g0 := hI.2.2.2.2.2.2.2.2.2.2.2.2.2.2.2.2.2.2.1 t1 ht1
      first | exact g0 | (rw [cp_ne (by omega)]; exact g0),
    fun t1 ht1 => by
      have g0 := hI.2.2.2.2.2.2.2.2.2.2.2.2.2.2.2.2.2.2.2.1 t1 ht1
      first | exact g0 | (rw [cp_ne (by omega)]; exact g0),
    by
      have g0 := hI.2.2.2.2.2.2.2.2.2.2.2.2.2.2.2.2.2.2.2.2.1
      first | exact g0 | (rw [cp_ne (by omega)]; exact g0),
    by
      have g0 := hI.2.2.2.2.2.2.2.2.2.2.2.2.2.2.2.2.2.2.2.2.2.1
      first | exact g0 | (rw [cp_ne (by omega)]; exact g0),
    fun i1 hi1 => by
      have g0 := hI.2.2.2.2.2.2.2.2.2.2.2.2.2.2.2.2.2.2.2.2.2.2.1 i1 hi1
      first | exact g0 | (rw [cp_ne (by omega)]; exact g0),
    fun i1 hi1 => by
      have g0 := hI.2.2.2.2.2.2.2.2.2.2.2.2.2.2.2.2.2.2.2.2.2.2.2.1 i1 hi1
      first | exact g0 | (rw [cp_ne (by omega)]; exact g0),
    fun i1 hi1 => by
      have g0 := hI.2.2.2.2.2.2.2.2.2.2.2.2.2.2.2.2.2.2.2.2.2.2.2.2.1 i1 hi1
      first | exact g0 | (rw [cp_ne (by omega)]; exact g0),
    fun i1 hi1 => by
      have g0 := hI.2.2.2.2.2.2.2.2.2.2.2.2.2.2.2.2.2.2.2.2.2.2.2.2.2.1 i1 hi1
      first | exact g0 | (rw [cp_ne (by omega)]; exact g0),
    fun i1 hi1 => by
      have g0 := hI.2.2.2.2.2.2.2.2.2.2.2.2.2.2.2.2.2.2.2.2.2.2.2.2.2.2.1 i1 hi1
      first | exact g0 | (rw [cp_ne (by omega)]; exact g0),
    fun i1 hi1 => by
      have g0 := hI.2.2.2.2.2.2.2.2.2.2.2.2.2.2.2.2.2.2.2.2.2.2.2.2.2.2.2.1 i1 hi1
      first | exact g0 | (rw [cp_ne (by omega)]; exact g0),
    fun i1 hi1 => by
      have g0 := hI.2.2.2.2.2.2.2.2.2.2.2.2.2.2.2.2.2.2.2.2.2.2.2.2.2.2.2.2.1 i1 hi1
      first | exact g0 | (rw [cp_ne (by omega)]; exact g0),
    fun i1 hi1 => by
      have g0 := hI.2.2.2.2.2.2.2.2.2.2.2.2.2.2.2.2.2.2.2.2.2.2.2.2.2.2.2.2.2.1 i1 hi1
      first | exact g0 | (rw [cp_ne (by omega)]; exact g0),
    fun i1 hi1 => by
      have g0 := hI.2.2.2.2.2.2.2.2.2.2.2.2.2.2.2.2.2.2.2.2.2.2.2.2.2.2.2.2.2.2 i1 hi1
      first | exact g0 | (rw [cp_ne (by omega)]; exact g0)⟩,
   ⟨fun t1 ht1 k1 hk1 => by
      have g0 := hX.1 t1 ht1 k1 hk1
      first | exact g0 | (rw [cp_ne (by omega)]; exact g0),
    fun i1 hi1 k1 hk1 e0 => by
      have g0 := hX.2.1 i1 hi1 k1 hk1 e0
      first | exact g0 | (rw [cp_ne (by omega)]; exact g0),
    fun i1 hi1 => by
      have g0 := hX.2.2.1 i1 hi1
      first | exact g0 | (rw [cp_ne (by omega)]; exact g0),
    fun i1 hi1 => by
      have g0 := hX.2.2.2.1 i1 hi1
      first | exact g0 | (rw [cp_ne (by omega)]; exact g0),
    fun i1 hi1 => by
      have g0 := hX.2.2.2.2.1 i1 hi1
      first | exact g0 | (rw [cp_ne (by omega)]; exact g0),
    fun i1 hi1 => by
      have g0 := hX.2.2.2.2.2.1 i1 hi1
      first | exact g0 | (rw [cp_ne (by omega)]; exact g0),
    fun t1 ht1 k1 hk1 => by
      have g0 := hX.2.2.2.2.2.2.1 t1 ht1 k1 hk1
      first | exact g0 | (rw [cp_ne (by omega)]; exact g0),
    fun i1 hi1 k1 hk1 e0 e1 => by
      have g0 := hX.2.2.2.2.2.2.2.1 i1 hi1 k1 hk1 e0 e1
      by_cases hiu : i1 = u
      · by_cases hr : g ≤ k1 ∧ k1 < g + m
        · have g1 := hX.2.2.2.2.2.2.2.1 q hq (p + (k1 - g)) (by omega) (by have e9 := e0; rw [hiu] at e9; omega) (by have e9 := e1; rw [hiu] at e9; omega)
          rw [hiu, mv_in (by omega)]
          exact g1
        · rw [hiu] at g0 ⊢
          rw [mv_out (by omega)]
          exact g0
      · rw [mv_ne hiu]
        exact g0,
    fun i1 hi1 => by
      have g0 := hX.2.2.2.2.2.2.2.2.1 i1 hi1
      first | exact g0 | (rw [cp_ne (by omega)]; exact g0),
    fun t1 ht1 k1 hk1 => by
      have g0 := hX.2.2.2.2.2.2.2.2.2.1 t1 ht1 k1 hk1
      first | exact g0 | (rw [cp_ne (by omega)]; exact g0),
    fun i1 hi1 => by
      have g0 := hX.2.2.2.2.2.2.2.2.2.2.1 i1 hi1
      first | exact g0 | (rw [cp_ne (by omega)]; exact g0),
    by
      have g0 := hX.2.2.2.2.2.2.2.2.2.2.2.1
      first | exact g0 | (rw [cp_ne (by omega)]; exact g0),
    fun t1 ht1 => by
      have g0 := hX.2.2.2.2.2.2.2.2.2.2.2.2 t1 ht1
      first | exact g0 | (rw [cp_ne (by omega)]; exact g0)⟩,
   hN,
   hS⟩
set_option maxHeartbeats 4000000 in
theorem RM_mv {ci : Nat → Nat → Nat → Int32} {cn : Nat → Nat → Nat → Nat} {co : Nat → Option Nat} {xj : Nat → Nat → Nat → Int64} {xd : Nat → Nat → Nat → UInt64} {xf : Nat → Nat → Nat → UInt32} {xo : Nat → Nat → Nat → Option Nat} {xi : Nat → Nat → Nat → Int32} {xn : Nat → Nat → Nat → Nat} {I : Nat → Nat → Int32} {J : Nat → Nat → Int64} {D : Nat → Nat → UInt64} {u q g p m lo hi lo2 hi2 e : Nat} (h : RM ci cn co (mv xj u q g p lo hi) (mv xd u q g p lo hi) xf xo xi xn I J D) (isr : ∀ i, i < xn 2 0 0 → xn 1 i 0 ≤ 12) (hu : u < xn 2 0 0) (hq : q < xn 2 0 0) (hso : xn 0 u 0 = xn 0 q 0) (hs8 : xn 0 q 0 < 8) (hgm : g + m ≤ xn 1 u 0) (hpm : p + m ≤ xn 1 q 0) (hE : (lo2 = lo ∧ hi2 = hi + 1 ∧ e = hi) ∨ (hi2 = hi ∧ lo = lo2 + 1 ∧ e = lo2)) (hlh : lo ≤ hi ∧ e < m) (hns : q = u → ¬ (g + lo ≤ p + e ∧ p + e < g + hi)) : RM ci cn co (mv xj u q g p lo2 hi2) (mv xd u q g p lo2 hi2) xf xo xi xn I (mm_up J 9 (12 * u + g + e) (J 9 (12 * q + p + e))) (mm_up D 10 (12 * u + g + e) (D 10 (12 * q + p + e))) := by
  have z2 := isr u hu
  have z3 := isr q hq
  obtain ⟨hJ, hD, hI⟩ := h
  exact ⟨⟨fun t1 ht1 k1 hk1 => by
      have g0 := hJ.1 t1 ht1 k1 hk1
      first | exact g0 | (simp (disch := first | omega | assumption) only [up_ne] <;> exact g0),
    fun i1 hi1 k1 hk1 e0 => by
      have z1 := isr i1 hi1
      have g0 := hJ.2.1 i1 hi1 k1 hk1 e0
      by_cases hh : i1 = u ∧ k1 = g + e
      · have g1 := hJ.2.1 q hq (p + e) (by omega) (by have e9 := e0; rw [hh.1] at e9; omega)
        rw [mv_out (fun x => hns x.1 x.2)] at g1
        rw [hh.1, hh.2, mv_in (by omega), show 12 * u + (g + e) = 12 * u + g + e from by omega, up_eq ⟨rfl, rfl⟩, show p + (g + e - g) = p + e from by omega, ← g1]
        exact congrArg (J 9) (by omega)
      · rw [mv_st hE hlh.1 hh, ← g0]
        exact up_ne (fun h => by have h2 := h.2; omega),
    fun i1 hi1 k1 hk1 e0 => by
      have z1 := isr i1 hi1
      have g0 := hJ.2.2.1 i1 hi1 k1 hk1 e0
      have hiu : ¬ i1 = u := fun h => by rw [h] at e0; omega
      rw [← g0]
      exact up_ne (fun h => by have h2 := h.2; omega),
    fun i1 hi1 => by
      have g0 := hJ.2.2.2 i1 hi1
      first | exact g0 | (simp (disch := first | omega | assumption) only [up_ne] <;> exact g0)⟩,
   ⟨fun t1 ht1 k1 hk1 => by
      have g0 := hD.1 t1 ht1 k1 hk1
      first | exact g0 | (simp (disch := first | omega | assumption) only [up_ne] <;> exact g0),
    fun t1 ht1 k1 hk1 => by
      have g0 := hD.2.1 t1 ht1 k1 hk1
      first | exact g0 | (simp (disch := first | omega | assumption) only [up_ne] <;> exact g0),
    fun i1 hi1 k1 hk1 e0 e1 => by
      have z1 := isr i1 hi1
      have g0 := hD.2.2.1 i1 hi1 k1 hk1 e0 e1
      by_cases hh : i1 = u ∧ k1 = g + e
      · have g1 := hD.2.2.1 q hq (p + e) (by omega) (by have e9 := e0; rw [hh.1] at e9; omega) (by have e9 := e1; rw [hh.1] at e9; omega)
        rw [mv_out (fun x => hns x.1 x.2)] at g1
        rw [hh.1, hh.2, mv_in (by omega), show 12 * u + (g + e) = 12 * u + g + e from by omega, up_eq ⟨rfl, rfl⟩, show p + (g + e - g) = p + e from by omega, ← g1]
        exact congrArg (D 10) (by omega)
      · rw [mv_st hE hlh.1 hh, ← g0]
        exact up_ne (fun h => by have h2 := h.2; omega),
    fun i1 hi1 => by
      have g0 := hD.2.2.2.1 i1 hi1
      first | exact g0 | (simp (disch := first | omega | assumption) only [up_ne] <;> exact g0),
    fun i1 hi1 => by
      have g0 := hD.2.2.2.2 i1 hi1
      first | exact g0 | (simp (disch := first | omega | assumption) only [up_ne] <;> exact g0)⟩,
   ⟨by
      have g0 := hI.1
      first | exact g0 | (simp (disch := first | omega | assumption) only [up_ne] <;> exact g0),
    by
      have g0 := hI.2.1
      first | exact g0 | (simp (disch := first | omega | assumption) only [up_ne] <;> exact g0),
    fun i1 hi1 => by
      have g0 := hI.2.2.1 i1 hi1
      first | exact g0 | (simp (disch := first | omega | assumption) only [up_ne] <;> exact g0),
    fun i1 hi1 => by
      have g0 := hI.2.2.2.1 i1 hi1
      first | exact g0 | (simp (disch := first | omega | assumption) only [up_ne] <;> exact g0),
    fun i1 hi1 => by
      have g0 := hI.2.2.2.2.1 i1 hi1
      first | exact g0 | (simp (disch := first | omega | assumption) only [up_ne] <;> exact g0),
    fun i1 hi1 => by
      have g0 := hI.2.2.2.2.2.1 i1 hi1
      first | exact g0 | (simp (disch := first | omega | assumption) only [up_ne] <;> exact g0),
    fun i1 hi1 => by
      have g0 := hI.2.2.2.2.2.2.1 i1 hi1
      first | exact g0 | (simp (disch := first | omega | assumption) only [up_ne] <;> exact g0),
    fun i1 hi1 k1 hk1 => by
      have g0 := hI.2.2.2.2.2.2.2.1 i1 hi1 k1 hk1
      first | exact g0 | (simp (disch := first | omega | assumption) only [up_ne] <;> exact g0),
    fun i1 hi1 => by
      have g0 := hI.2.2.2.2.2.2.2.2.1 i1 hi1
      first | exact g0 | (simp (disch := first | omega | assumption) only [up_ne] <;> exact g0),
    fun i1 hi1 => by
      have g0 := hI.2.2.2.2.2.2.2.2.2.1 i1 hi1
      first | exact g0 | (simp (disch := first | omega | assumption) only [up_ne] <;> exact g0),
    fun p1 hp1 => by
      have g0 := hI.2.2.2.2.2.2.2.2.2.2.1 p1 hp1
      first | exact g0 | (simp (disch := first | omega | assumption) only [up_ne] <;> exact g0),
    fun p1 hp1 k1 hk1 => by
      have g0 := hI.2.2.2.2.2.2.2.2.2.2.2.1 p1 hp1 k1 hk1
      first | exact g0 | (simp (disch := first | omega | assumption) only [up_ne] <;> exact g0),
    fun p1 hp1 k1 hk1 => by
      have g0 := hI.2.2.2.2.2.2.2.2.2.2.2.2.1 p1 hp1 k1 hk1
      first | exact g0 | (simp (disch := first | omega | assumption) only [up_ne] <;> exact g0),
    fun p1 hp1 k1 hk1 => by
      have g0 := hI.2.2.2.2.2.2.2.2.2.2.2.2.2.1 p1 hp1 k1 hk1
      first | exact g0 | (simp (disch := first | omega | assumption) only [up_ne] <;> exact g0),
    fun p1 hp1 k1 hk1 => by
      have g0 := hI.2.2.2.2.2.2.2.2.2.2.2.2.2.2.1 p1 hp1 k1 hk1
      first | exact g0 | (simp (disch := first | omega | assumption) only [up_ne] <;> exact g0),
    fun p1 hp1 => by
      have g0 := hI.2.2.2.2.2.2.2.2.2.2.2.2.2.2.2.1 p1 hp1
      first | exact g0 | (simp (disch := first | omega | assumption) only [up_ne] <;> exact g0),
    fun p1 hp1 k1 hk1 => by
      have g0 := hI.2.2.2.2.2.2.2.2.2.2.2.2.2.2.2.2.1 p1 hp1 k1 hk1
      first | exact g0 | (simp (disch := first | omega | assumption) only [up_ne] <;> exact g0),
    fun p1 hp1 k1 hk1 => by
      have g0 := hI.2.2.2.2.2.2.2.2.2.2.2.2.2.2.2.2.2.1 p1 hp1 k1 hk1
      first | exact g0 | (simp (disch := first | omega | assumption) only [up_ne] <;> exact g0),
    fun p1 hp1 k1 hk1 => by
      have g0 := hI.2.2.2.2.2.2.2.2.2.2.2.2.2.2.2.2.2.2.1 p1 hp1 k1 hk1
      first | exact g0 | (simp (disch := first | omega | assumption) only [up_ne] <;> exact g0),
    fun p1 hp1 k1 hk1 => by
      have g0 := hI.2.2.2.2.2.2.2.2.2.2.2.2.2.2.2.2.2.2.2.1 p1 hp1 k1 hk1
      first | exact g0 | (simp (disch := first | omega | assumption) only [up_ne] <;> exact g0),
    fun t1 ht1 k1 hk1 => by
      have g0 := hI.2.2.2.2.2.2.2.2.2.2.2.2.2.2.2.2.2.2.2.2.1 t1 ht1 k1 hk1
      first | exact g0 | (simp (disch := first | omega | assumption) only [up_ne] <;> exact g0),
    fun t1 ht1 => by
      have g0 := hI.2.2.2.2.2.2.2.2.2.2.2.2.2.2.2.2.2.2.2.2.2.1 t1 ht1
      first | exact g0 | (simp (disch := first | omega | assumption) only [up_ne] <;> exact g0),
    fun t1 ht1 => by
      have g0 := hI.2.2.2.2.2.2.2.2.2.2.2.2.2.2.2.2.2.2.2.2.2.2.1 t1 ht1
      first | exact g0 | (simp (disch := first | omega | assumption) only [up_ne] <;> exact g0),
    fun t1 ht1 k1 hk1 => by
      have g0 := hI.2.2.2.2.2.2.2.2.2.2.2.2.2.2.2.2.2.2.2.2.2.2.2.1 t1 ht1 k1 hk1
      first | exact g0 | (simp (disch := first | omega | assumption) only [up_ne] <;> exact g0),
    fun t1 ht1 k1 hk1 => by
      have g0 := hI.2.2.2.2.2.2.2.2.2.2.2.2.2.2.2.2.2.2.2.2.2.2.2.2.1 t1 ht1 k1 hk1
      first | exact g0 | (simp (disch := first | omega | assumption) only [up_ne] <;> exact g0),
    fun t1 ht1 => by
      have g0 := hI.2.2.2.2.2.2.2.2.2.2.2.2.2.2.2.2.2.2.2.2.2.2.2.2.2.1 t1 ht1
      first | exact g0 | (simp (disch := first | omega | assumption) only [up_ne] <;> exact g0),
    fun t1 ht1 => by
      have g0 := hI.2.2.2.2.2.2.2.2.2.2.2.2.2.2.2.2.2.2.2.2.2.2.2.2.2.2.1 t1 ht1
      first | exact g0 | (simp (disch := first | omega | assumption) only [up_ne] <;> exact g0),
    fun t1 ht1 => by
      have g0 := hI.2.2.2.2.2.2.2.2.2.2.2.2.2.2.2.2.2.2.2.2.2.2.2.2.2.2.2.1 t1 ht1
      first | exact g0 | (simp (disch := first | omega | assumption) only [up_ne] <;> exact g0),
    fun t1 ht1 => by
      have g0 := hI.2.2.2.2.2.2.2.2.2.2.2.2.2.2.2.2.2.2.2.2.2.2.2.2.2.2.2.2.1 t1 ht1
      first | exact g0 | (simp (disch := first | omega | assumption) only [up_ne] <;> exact g0),
    fun t1 ht1 => by
      have g0 := hI.2.2.2.2.2.2.2.2.2.2.2.2.2.2.2.2.2.2.2.2.2.2.2.2.2.2.2.2.2.1 t1 ht1
      first | exact g0 | (simp (disch := first | omega | assumption) only [up_ne] <;> exact g0),
    fun t1 ht1 => by
      have g0 := hI.2.2.2.2.2.2.2.2.2.2.2.2.2.2.2.2.2.2.2.2.2.2.2.2.2.2.2.2.2.2 t1 ht1
      first | exact g0 | (simp (disch := first | omega | assumption) only [up_ne] <;> exact g0)⟩⟩
theorem ev_gV5 {Y : mm_Y} {μ0 : mm_M} {rem : List mm_E} {L : mm_L} {st : List mm_V} {μ : mm_M} {Post : Option mm_V → mm_M → Prop} (bs : List Bool) (os : List (Option Nat)) {e2 : mm_E} {rem2 : List mm_E} {L2 : mm_L} {st2 : List mm_V} {μ2 : mm_M} {P2 : Prop} (h : mm_go 5000 (mm_co Y) rem L st μ bs os True = some (e2 :: rem2, L2, st2, μ2, P2)) (k : Ev Y μ0 (e2 :: rem2) L2 st2 μ2 Post) (hp : P2 := by (repeat' apply And.intro) <;> first | exact trivial | assumption | rfl | decide | omega | (simp (disch := first | assumption | omega | decide) only [i_add, i_mul, n_cl, nI_and7, nI_and3, v_in, i_eq, i_lt, i_le, i_eq0, i_lt0, i_ge0, i_gt0, i_le0, lg_cmp_eq, lg_cmp_ge, lg_cmp_gt, lg_cmp_le, lg_cmp_lt, zb_e0, zb_n0, Classical.not_not, up_ne, Nat.zero_add, Nat.add_zero, rm_num hM, rm_who hM, rm_par hM, rm_nn hM, rm_dbl hM, rm_flt hM, rm_rea hM, rm_xx hM, rm_ff hM, rm_mad hM, rm_trc hM, rm_sor hM, rm_len hM, rm_nxt hM, rm_lin hM, rm_tal hM, rm_mk hM, rm_own hM, rm_tim hM, rm_psz hM, rm_hol hM, cl_ne, tR_s, tR_n, eI_s, eI_n, e_nm, e_mm, lN_i, l_lt, l_le, l_eq, l_z, lN_t, nI_tl, n_s1, i_sub, eLi, eL_s, eL_n, up_eq, mkz, i_l1, i_l2, i_l3, n_ti, i_tl2, e_mn, rm_mk0 hM, rm_mk1 hM, rm_mk2 hM, l_lt, l_le, lN_t, lN_i, lNi2, i_sub, nI_tl, Nat.add_sub_cancel, *] <;> first | assumption | omega | decide)) : Ev Y μ0 rem L st μ Post := ev_go bs os h hp k
theorem ev_bV5 {Y : mm_Y} {μ0 : mm_M} {rem : List mm_E} {L : mm_L} {st : List mm_V} {μ : mm_M} {Post : Option mm_V → mm_M → Prop} {e2 e3 : mm_E} {rem2 rem3 : List mm_E} {L2 L3 : mm_L} {st2 st3 : List mm_V} {μ2 μ3 : mm_M} {c c2 d d2 : Prop} (hT : mm_go 1 (mm_co Y) rem L st μ [true] [] True = some (e2 :: rem2, L2, st2, μ2, True ∧ c)) (hF : mm_go 1 (mm_co Y) rem L st μ [false] [] True = some (e3 :: rem3, L3, st3, μ3, True ∧ c2)) (kt : d → Ev Y μ0 (e2 :: rem2) L2 st2 μ2 Post) (kf : d2 → Ev Y μ0 (e3 :: rem3) L3 st3 μ3 Post) (hc : ¬ c → c2 := by first | exact id | exact Classical.not_not.mp) (g1 : c → d := by intro hh; (try simp (disch := first | assumption | omega | decide) only [i_add, i_mul, n_cl, nI_and7, nI_and3, v_in, i_eq, i_lt, i_le, i_eq0, i_lt0, i_ge0, i_gt0, i_le0, lg_cmp_eq, lg_cmp_ge, lg_cmp_gt, lg_cmp_le, lg_cmp_lt, zb_e0, zb_n0, Classical.not_not, up_ne, Nat.zero_add, Nat.add_zero, rm_num hM, rm_who hM, rm_par hM, rm_nn hM, rm_dbl hM, rm_flt hM, rm_rea hM, rm_xx hM, rm_ff hM, rm_mad hM, rm_trc hM, rm_sor hM, rm_len hM, rm_nxt hM, rm_lin hM, rm_tal hM, rm_mk hM, rm_own hM, rm_tim hM, rm_psz hM, rm_hol hM, cl_ne, tR_s, tR_n, eI_s, eI_n, e_nm, e_mm, lN_i, l_lt, l_le, l_eq, l_z, lN_t, nI_tl, n_s1, i_sub, eLi, eL_s, eL_n, up_eq, mkz, i_l1, i_l2, i_l3, n_ti, i_tl2, e_mn, rm_mk0 hM, rm_mk1 hM, rm_mk2 hM, l_lt, l_le, lN_t, lN_i, lNi2, i_sub, nI_tl, Nat.add_sub_cancel, *] at hh); exact hh) (g2 : c2 → d2 := by intro hh; (try simp (disch := first | assumption | omega | decide) only [i_add, i_mul, n_cl, nI_and7, nI_and3, v_in, i_eq, i_lt, i_le, i_eq0, i_lt0, i_ge0, i_gt0, i_le0, lg_cmp_eq, lg_cmp_ge, lg_cmp_gt, lg_cmp_le, lg_cmp_lt, zb_e0, zb_n0, Classical.not_not, up_ne, Nat.zero_add, Nat.add_zero, rm_num hM, rm_who hM, rm_par hM, rm_nn hM, rm_dbl hM, rm_flt hM, rm_rea hM, rm_xx hM, rm_ff hM, rm_mad hM, rm_trc hM, rm_sor hM, rm_len hM, rm_nxt hM, rm_lin hM, rm_tal hM, rm_mk hM, rm_own hM, rm_tim hM, rm_psz hM, rm_hol hM, cl_ne, tR_s, tR_n, eI_s, eI_n, e_nm, e_mm, lN_i, l_lt, l_le, l_eq, l_z, lN_t, nI_tl, n_s1, i_sub, eLi, eL_s, eL_n, up_eq, mkz, i_l1, i_l2, i_l3, n_ti, i_tl2, e_mn, rm_mk0 hM, rm_mk1 hM, rm_mk2 hM, l_lt, l_le, lN_t, lN_i, lNi2, i_sub, nI_tl, Nat.add_sub_cancel, *] at hh); exact hh) : Ev Y μ0 rem L st μ Post := ev_br hT hF hc (fun h => kt (g1 h)) (fun h => kf (g2 h))
theorem lf_V5 {p : Prop} (h : p := by first | rfl | assumption | (simp (disch := first | assumption | omega | decide) only [i_add, i_mul, n_cl, nI_and7, nI_and3, v_in, i_eq, i_lt, i_le, i_eq0, i_lt0, i_ge0, i_gt0, i_le0, lg_cmp_eq, lg_cmp_ge, lg_cmp_gt, lg_cmp_le, lg_cmp_lt, zb_e0, zb_n0, Classical.not_not, up_ne, Nat.zero_add, Nat.add_zero, rm_num hM, rm_who hM, rm_par hM, rm_nn hM, rm_dbl hM, rm_flt hM, rm_rea hM, rm_xx hM, rm_ff hM, rm_mad hM, rm_trc hM, rm_sor hM, rm_len hM, rm_nxt hM, rm_lin hM, rm_tal hM, rm_mk hM, rm_own hM, rm_tim hM, rm_psz hM, rm_hol hM, cl_ne, tR_s, tR_n, eI_s, eI_n, e_nm, e_mm, lN_i, l_lt, l_le, l_eq, l_z, lN_t, nI_tl, n_s1, i_sub, eLi, eL_s, eL_n, up_eq, mkz, i_l1, i_l2, i_l3, n_ti, i_tl2, e_mn, rm_mk0 hM, rm_mk1 hM, rm_mk2 hM, l_lt, l_le, lN_t, lN_i, lNi2, i_sub, nI_tl, Nat.add_sub_cancel, *] <;> first | rfl | assumption | omega | decide)) : p := h
set_option maxHeartbeats 4000000 in
theorem MV_a {ci : Nat → Nat → Nat → Int32} {cn : Nat → Nat → Nat → Nat} {co : Nat → Option Nat} {xj : Nat → Nat → Nat → Int64} {xd : Nat → Nat → Nat → UInt64} {xf : Nat → Nat → Nat → UInt32} {xo : Nat → Nat → Nat → Option Nat} {xi : Nat → Nat → Nat → Int32} {xn : Nat → Nat → Nat → Nat} {u q p g m : Nat} (hu : u < xn 2 0 0) (hq : q < xn 2 0 0) (hso : xn 0 u 0 = xn 0 q 0) (hs8 : xn 0 q 0 < 8) (hgm : g + m ≤ xn 1 u 0) (hpm : p + m ≤ xn 1 q 0) (hgp : ¬ p < g) (isr : ∀ i, i < xn 2 0 0 → xn 1 i 0 ≤ 12) (yy : xn 2 0 0 ≤ 160) {y1 y5 y6 : Int32} {μ0 : mm_M} {Post : Option mm_V → mm_M → Prop} (hX : ∀ (Km : Nat → Nat) (Im : Nat → Nat → Int32) (Jm : Nat → Nat → Int64) (Fm : Nat → Nat → UInt32) (Dm : Nat → Nat → UInt64) (Rm : Nat → Nat → Option Nat) (nxm slm : Nat), RM ci cn co (mv xj u q g p 0 m) (mv xd u q g p 0 m) xf xo xi xn Im Jm Dm → Im 6 39 = y1 → Im 6 43 = y5 → Im 6 44 = y6 → Post none (Km, Im, Jm, Fm, Dm, Rm, nxm, slm)) : ∀ (n i : Nat) (z : mm_L) (Km : Nat → Nat) (Im : Nat → Nat → Int32) (Jm : Nat → Nat → Int64) (Fm : Nat → Nat → UInt32) (Dm : Nat → Nat → UInt64) (Rm : Nat → Nat → Option Nat) (nxm slm : Nat), i + n = m → (z = [] ∨ ∃ w, z = [(10, vi w)]) → RM ci cn co (mv xj u q g p 0 i) (mv xd u q g p 0 i) xf xo xi xn Im Jm Dm → Im 6 39 = y1 → Im 6 43 = y5 → Im 6 44 = y6 → Ev Y_MM_moves μ0 (mm_to (mm_co Y_MM_moves) 157) ((0, vr 11 6) :: (1, vi (nI q)) :: (2, vi (nI u)) :: (3, vl (lN p)) :: (5, vl (lN g)) :: (7, vl (lN m)) :: (9, vi (nI (i))) :: z) [vi (lg_cmp (nI (i)).toInt64 (lN m))] (Km, Im, Jm, Fm, Dm, Rm, nxm, slm) Post := by
  have bu := isr u hu
  have bq := isr q hq
  intro n
  induction n with
  | zero =>
    intro i z Km Im Jm Fm Dm Rm nxm slm hi hz hM x1 x5 x6
    obtain rfl : i = m := by omega
    rcases hz with rfl | ⟨w, rfl⟩
    · skip
      refine ev_gV5 [true] [] rfl ?_
      refine ev_ret rfl ?_
      exact hX _ _ _ _ _ _ _ _ hM x1 x5 x6
    · skip
      refine ev_gV5 [true] [] rfl ?_
      refine ev_ret rfl ?_
      exact hX _ _ _ _ _ _ _ _ hM x1 x5 x6
  | succ n ih =>
    intro i z Km Im Jm Fm Dm Rm nxm slm hi hz hM x1 x5 x6
    have z2 := isr u hu
    have z3 := isr q hq
    have him : i < m := by omega
    rcases hz with rfl | ⟨w, rfl⟩
    · skip
      refine ev_gV5 [false, true] [] rfl ?_
      refine ev_cg2 (L2 := (0, vr 11 6) :: (1, vi (nI q)) :: (2, vi (nI u)) :: (3, vl (lN p)) :: (5, vl (lN g)) :: (7, vl (lN m)) :: (9, vi (nI (i + 1))) :: [(10, vi (nI (i)))]) (st2 := [vi (lg_cmp (nI (i + 1)).toInt64 (lN m))]) lf_V5 lf_V5 ?_ (ih (i + 1) [(10, vi (nI (i)))] Km Im _ Fm _ Rm nxm slm (by omega) (Or.inr ⟨_, rfl⟩) (RM_mv (lo2 := 0) (hi2 := (i + 1)) (e := i) hM isr hu hq hso hs8 hgm hpm (Or.inl ⟨rfl, rfl, rfl⟩) ⟨by omega, by omega⟩ (by omega)) x1 x5 x6)
      show (Km, Im, _, Fm, _, Rm, nxm, slm) = (Km, Im, _, Fm, _, Rm, nxm, slm)
      simp (disch := first | assumption | omega | decide) only [i_add, i_mul, n_cl, i_sub, lNi2]
    · skip
      refine ev_gV5 [false, true] [] rfl ?_
      refine ev_cg2 (L2 := (0, vr 11 6) :: (1, vi (nI q)) :: (2, vi (nI u)) :: (3, vl (lN p)) :: (5, vl (lN g)) :: (7, vl (lN m)) :: (9, vi (nI (i + 1))) :: [(10, vi (nI (i)))]) (st2 := [vi (lg_cmp (nI (i + 1)).toInt64 (lN m))]) lf_V5 lf_V5 ?_ (ih (i + 1) [(10, vi (nI (i)))] Km Im _ Fm _ Rm nxm slm (by omega) (Or.inr ⟨_, rfl⟩) (RM_mv (lo2 := 0) (hi2 := (i + 1)) (e := i) hM isr hu hq hso hs8 hgm hpm (Or.inl ⟨rfl, rfl, rfl⟩) ⟨by omega, by omega⟩ (by omega)) x1 x5 x6)
      show (Km, Im, _, Fm, _, Rm, nxm, slm) = (Km, Im, _, Fm, _, Rm, nxm, slm)
      simp (disch := first | assumption | omega | decide) only [i_add, i_mul, n_cl, i_sub, lNi2]
set_option maxHeartbeats 4000000 in
theorem MV_d {ci : Nat → Nat → Nat → Int32} {cn : Nat → Nat → Nat → Nat} {co : Nat → Option Nat} {xj : Nat → Nat → Nat → Int64} {xd : Nat → Nat → Nat → UInt64} {xf : Nat → Nat → Nat → UInt32} {xo : Nat → Nat → Nat → Option Nat} {xi : Nat → Nat → Nat → Int32} {xn : Nat → Nat → Nat → Nat} {u q p g m : Nat} (hu : u < xn 2 0 0) (hq : q < xn 2 0 0) (hso : xn 0 u 0 = xn 0 q 0) (hs8 : xn 0 q 0 < 8) (hgm : g + m ≤ xn 1 u 0) (hpm : p + m ≤ xn 1 q 0) (hgp : p < g) (isr : ∀ i, i < xn 2 0 0 → xn 1 i 0 ≤ 12) (yy : xn 2 0 0 ≤ 160) {y1 y5 y6 : Int32} {μ0 : mm_M} {Post : Option mm_V → mm_M → Prop} (hX : ∀ (Km : Nat → Nat) (Im : Nat → Nat → Int32) (Jm : Nat → Nat → Int64) (Fm : Nat → Nat → UInt32) (Dm : Nat → Nat → UInt64) (Rm : Nat → Nat → Option Nat) (nxm slm : Nat), RM ci cn co (mv xj u q g p 0 m) (mv xd u q g p 0 m) xf xo xi xn Im Jm Dm → Im 6 39 = y1 → Im 6 43 = y5 → Im 6 44 = y6 → Post none (Km, Im, Jm, Fm, Dm, Rm, nxm, slm)) : ∀ (n i : Nat) (z : mm_L) (Km : Nat → Nat) (Im : Nat → Nat → Int32) (Jm : Nat → Nat → Int64) (Fm : Nat → Nat → UInt32) (Dm : Nat → Nat → UInt64) (Rm : Nat → Nat → Option Nat) (nxm slm : Nat), i + n = m → (z = [] ∨ ∃ w, z = [(10, vi w)]) → RM ci cn co (mv xj u q g p (m - i) m) (mv xd u q g p (m - i) m) xf xo xi xn Im Jm Dm → Im 6 39 = y1 → Im 6 43 = y5 → Im 6 44 = y6 → Ev Y_MM_moves μ0 (mm_to (mm_co Y_MM_moves) 157) ((0, vr 11 6) :: (1, vi (nI q)) :: (2, vi (nI u)) :: (3, vl (lN p)) :: (5, vl (lN g)) :: (7, vl (lN m)) :: (9, vi (nI (i))) :: z) [vi (lg_cmp (nI (i)).toInt64 (lN m))] (Km, Im, Jm, Fm, Dm, Rm, nxm, slm) Post := by
  have bu := isr u hu
  have bq := isr q hq
  intro n
  induction n with
  | zero =>
    intro i z Km Im Jm Fm Dm Rm nxm slm hi hz hM x1 x5 x6
    obtain rfl : i = m := by omega
    rw [Nat.sub_self] at hM
    rcases hz with rfl | ⟨w, rfl⟩
    · skip
      refine ev_gV5 [true] [] rfl ?_
      refine ev_ret rfl ?_
      exact hX _ _ _ _ _ _ _ _ hM x1 x5 x6
    · skip
      refine ev_gV5 [true] [] rfl ?_
      refine ev_ret rfl ?_
      exact hX _ _ _ _ _ _ _ _ hM x1 x5 x6
  | succ n ih =>
    intro i z Km Im Jm Fm Dm Rm nxm slm hi hz hM x1 x5 x6
    have z2 := isr u hu
    have z3 := isr q hq
    have him : i < m := by omega
    rcases hz with rfl | ⟨w, rfl⟩
    · skip
      refine ev_gV5 [false, false] [] rfl ?_
      refine ev_cg2 (L2 := (0, vr 11 6) :: (1, vi (nI q)) :: (2, vi (nI u)) :: (3, vl (lN p)) :: (5, vl (lN g)) :: (7, vl (lN m)) :: (9, vi (nI (i + 1))) :: [(10, vi (nI (m - 1 - i)))]) (st2 := [vi (lg_cmp (nI (i + 1)).toInt64 (lN m))]) lf_V5 lf_V5 ?_ (ih (i + 1) [(10, vi (nI (m - 1 - i)))] Km Im _ Fm _ Rm nxm slm (by omega) (Or.inr ⟨_, rfl⟩) (RM_mv (lo2 := (m - (i + 1))) (hi2 := m) (e := m - 1 - i) hM isr hu hq hso hs8 hgm hpm (Or.inr ⟨rfl, by omega, by omega⟩) ⟨by omega, by omega⟩ (by omega)) x1 x5 x6)
      show (Km, Im, _, Fm, _, Rm, nxm, slm) = (Km, Im, _, Fm, _, Rm, nxm, slm)
      simp (disch := first | assumption | omega | decide) only [i_add, i_mul, n_cl, i_sub, lNi2]
    · skip
      refine ev_gV5 [false, false] [] rfl ?_
      refine ev_cg2 (L2 := (0, vr 11 6) :: (1, vi (nI q)) :: (2, vi (nI u)) :: (3, vl (lN p)) :: (5, vl (lN g)) :: (7, vl (lN m)) :: (9, vi (nI (i + 1))) :: [(10, vi (nI (m - 1 - i)))]) (st2 := [vi (lg_cmp (nI (i + 1)).toInt64 (lN m))]) lf_V5 lf_V5 ?_ (ih (i + 1) [(10, vi (nI (m - 1 - i)))] Km Im _ Fm _ Rm nxm slm (by omega) (Or.inr ⟨_, rfl⟩) (RM_mv (lo2 := (m - (i + 1))) (hi2 := m) (e := m - 1 - i) hM isr hu hq hso hs8 hgm hpm (Or.inr ⟨rfl, by omega, by omega⟩) ⟨by omega, by omega⟩ (by omega)) x1 x5 x6)
      show (Km, Im, _, Fm, _, Rm, nxm, slm) = (Km, Im, _, Fm, _, Rm, nxm, slm)
      simp (disch := first | assumption | omega | decide) only [i_add, i_mul, n_cl, i_sub, lNi2]
theorem ev_gV6 {Y : mm_Y} {μ0 : mm_M} {rem : List mm_E} {L : mm_L} {st : List mm_V} {μ : mm_M} {Post : Option mm_V → mm_M → Prop} (bs : List Bool) (os : List (Option Nat)) {e2 : mm_E} {rem2 : List mm_E} {L2 : mm_L} {st2 : List mm_V} {μ2 : mm_M} {P2 : Prop} (h : mm_go 5000 (mm_co Y) rem L st μ bs os True = some (e2 :: rem2, L2, st2, μ2, P2)) (k : Ev Y μ0 (e2 :: rem2) L2 st2 μ2 Post) (hp : P2 := by (repeat' apply And.intro) <;> first | exact trivial | assumption | rfl | decide | omega | (simp (disch := first | assumption | omega | decide) only [i_add, i_mul, n_cl, nI_and7, nI_and3, v_in, i_eq, i_lt, i_le, i_eq0, i_lt0, i_ge0, i_gt0, i_le0, lg_cmp_eq, lg_cmp_ge, lg_cmp_gt, lg_cmp_le, lg_cmp_lt, zb_e0, zb_n0, Classical.not_not, up_ne, Nat.zero_add, Nat.add_zero, rc_num hC, rc_hol hC, rc_who hC, rc_rea hC, rc_par hC, rc_nn hC, rc_xx hC, rc_ff hC, rc_nxt hC, rc_lin hC, rc_sor hC, rc_len hC, rc_own hC, rc_tim hC, rc_tal hC, rc_dbl hC, rc_flt hC, rc_mad hC, rc_trc hC, rc_mk0 hC, rc_mk1 hC, rc_mk2 hC, rc_tix hC, rc_thg hC, rm_num hM, rm_hol hM, rm_who hM, rm_rea hM, rm_par hM, rm_nn hM, rm_xx hM, rm_ff hM, rm_nxt hM, rm_lin hM, rm_sor hM, rm_len hM, rm_own hM, rm_tim hM, rm_tal hM, rm_dbl hM, rm_flt hM, rm_mad hM, rm_trc hM, rm_mk hM, tR_s, tR_n, eI_s, eI_n, e_nm, e_mm, lN_i, l_lt, l_le, l_eq, l_z, lN_t, nI_tl, n_s1, i_sub, eLi, eL_s, eL_n, up_eq, mkz, i_l1, i_l2, i_l3, n_ti, i_tl2, e_mn, lN_i, l_sb, lNi2, Nat.add_sub_cancel, *] <;> first | assumption | omega | decide)) : Ev Y μ0 rem L st μ Post := ev_go bs os h hp k
theorem ev_bV6 {Y : mm_Y} {μ0 : mm_M} {rem : List mm_E} {L : mm_L} {st : List mm_V} {μ : mm_M} {Post : Option mm_V → mm_M → Prop} {e2 e3 : mm_E} {rem2 rem3 : List mm_E} {L2 L3 : mm_L} {st2 st3 : List mm_V} {μ2 μ3 : mm_M} {c c2 d d2 : Prop} (hT : mm_go 1 (mm_co Y) rem L st μ [true] [] True = some (e2 :: rem2, L2, st2, μ2, True ∧ c)) (hF : mm_go 1 (mm_co Y) rem L st μ [false] [] True = some (e3 :: rem3, L3, st3, μ3, True ∧ c2)) (kt : d → Ev Y μ0 (e2 :: rem2) L2 st2 μ2 Post) (kf : d2 → Ev Y μ0 (e3 :: rem3) L3 st3 μ3 Post) (hc : ¬ c → c2 := by first | exact id | exact Classical.not_not.mp) (g1 : c → d := by intro hh; (try simp (disch := first | assumption | omega | decide) only [i_add, i_mul, n_cl, nI_and7, nI_and3, v_in, i_eq, i_lt, i_le, i_eq0, i_lt0, i_ge0, i_gt0, i_le0, lg_cmp_eq, lg_cmp_ge, lg_cmp_gt, lg_cmp_le, lg_cmp_lt, zb_e0, zb_n0, Classical.not_not, up_ne, Nat.zero_add, Nat.add_zero, rc_num hC, rc_hol hC, rc_who hC, rc_rea hC, rc_par hC, rc_nn hC, rc_xx hC, rc_ff hC, rc_nxt hC, rc_lin hC, rc_sor hC, rc_len hC, rc_own hC, rc_tim hC, rc_tal hC, rc_dbl hC, rc_flt hC, rc_mad hC, rc_trc hC, rc_mk0 hC, rc_mk1 hC, rc_mk2 hC, rc_tix hC, rc_thg hC, rm_num hM, rm_hol hM, rm_who hM, rm_rea hM, rm_par hM, rm_nn hM, rm_xx hM, rm_ff hM, rm_nxt hM, rm_lin hM, rm_sor hM, rm_len hM, rm_own hM, rm_tim hM, rm_tal hM, rm_dbl hM, rm_flt hM, rm_mad hM, rm_trc hM, rm_mk hM, tR_s, tR_n, eI_s, eI_n, e_nm, e_mm, lN_i, l_lt, l_le, l_eq, l_z, lN_t, nI_tl, n_s1, i_sub, eLi, eL_s, eL_n, up_eq, mkz, i_l1, i_l2, i_l3, n_ti, i_tl2, e_mn, lN_i, l_sb, lNi2, Nat.add_sub_cancel, *] at hh); exact hh) (g2 : c2 → d2 := by intro hh; (try simp (disch := first | assumption | omega | decide) only [i_add, i_mul, n_cl, nI_and7, nI_and3, v_in, i_eq, i_lt, i_le, i_eq0, i_lt0, i_ge0, i_gt0, i_le0, lg_cmp_eq, lg_cmp_ge, lg_cmp_gt, lg_cmp_le, lg_cmp_lt, zb_e0, zb_n0, Classical.not_not, up_ne, Nat.zero_add, Nat.add_zero, rc_num hC, rc_hol hC, rc_who hC, rc_rea hC, rc_par hC, rc_nn hC, rc_xx hC, rc_ff hC, rc_nxt hC, rc_lin hC, rc_sor hC, rc_len hC, rc_own hC, rc_tim hC, rc_tal hC, rc_dbl hC, rc_flt hC, rc_mad hC, rc_trc hC, rc_mk0 hC, rc_mk1 hC, rc_mk2 hC, rc_tix hC, rc_thg hC, rm_num hM, rm_hol hM, rm_who hM, rm_rea hM, rm_par hM, rm_nn hM, rm_xx hM, rm_ff hM, rm_nxt hM, rm_lin hM, rm_sor hM, rm_len hM, rm_own hM, rm_tim hM, rm_tal hM, rm_dbl hM, rm_flt hM, rm_mad hM, rm_trc hM, rm_mk hM, tR_s, tR_n, eI_s, eI_n, e_nm, e_mm, lN_i, l_lt, l_le, l_eq, l_z, lN_t, nI_tl, n_s1, i_sub, eLi, eL_s, eL_n, up_eq, mkz, i_l1, i_l2, i_l3, n_ti, i_tl2, e_mn, lN_i, l_sb, lNi2, Nat.add_sub_cancel, *] at hh); exact hh) : Ev Y μ0 rem L st μ Post := ev_br hT hF hc (fun h => kt (g1 h)) (fun h => kf (g2 h))
theorem lf_V6 {p : Prop} (h : p := by first | rfl | assumption | (simp (disch := first | assumption | omega | decide) only [i_add, i_mul, n_cl, nI_and7, nI_and3, v_in, i_eq, i_lt, i_le, i_eq0, i_lt0, i_ge0, i_gt0, i_le0, lg_cmp_eq, lg_cmp_ge, lg_cmp_gt, lg_cmp_le, lg_cmp_lt, zb_e0, zb_n0, Classical.not_not, up_ne, Nat.zero_add, Nat.add_zero, rc_num hC, rc_hol hC, rc_who hC, rc_rea hC, rc_par hC, rc_nn hC, rc_xx hC, rc_ff hC, rc_nxt hC, rc_lin hC, rc_sor hC, rc_len hC, rc_own hC, rc_tim hC, rc_tal hC, rc_dbl hC, rc_flt hC, rc_mad hC, rc_trc hC, rc_mk0 hC, rc_mk1 hC, rc_mk2 hC, rc_tix hC, rc_thg hC, rm_num hM, rm_hol hM, rm_who hM, rm_rea hM, rm_par hM, rm_nn hM, rm_xx hM, rm_ff hM, rm_nxt hM, rm_lin hM, rm_sor hM, rm_len hM, rm_own hM, rm_tim hM, rm_tal hM, rm_dbl hM, rm_flt hM, rm_mad hM, rm_trc hM, rm_mk hM, tR_s, tR_n, eI_s, eI_n, e_nm, e_mm, lN_i, l_lt, l_le, l_eq, l_z, lN_t, nI_tl, n_s1, i_sub, eLi, eL_s, eL_n, up_eq, mkz, i_l1, i_l2, i_l3, n_ti, i_tl2, e_mn, lN_i, l_sb, lNi2, Nat.add_sub_cancel, *] <;> first | rfl | assumption | omega | decide)) : p := h
