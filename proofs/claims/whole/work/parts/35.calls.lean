set_option maxHeartbeats 4000000 in
theorem CU_act {ci : Nat → Nat → Nat → Int32} {cn : Nat → Nat → Nat → Nat} {co : Nat → Option Nat} {xj : Nat → Nat → Nat → Int64} {xd : Nat → Nat → Nat → UInt64} {xf : Nat → Nat → Nat → UInt32} {xo : Nat → Nat → Nat → Option Nat} {xi : Nat → Nat → Nat → Int32} {xn : Nat → Nat → Nat → Nat} {I : Nat → Nat → Int32} {J : Nat → Nat → Int64} {F : Nat → Nat → UInt32} {D : Nat → Nat → UInt64} {R : Nat → Nat → Option Nat} {nx sl : Nat} (h : RC ci cn co xj xd xf xo xi xn I J F D R nx sl) {p k op : Nat} {a b c : Int32} (hp : p < 6) (hk : cn 3 p 0 = k) : RC (u3 (u3 (u3 ci 6 p k a) 7 p k b) 8 p k c) (u3 (u3 cn 5 p k op) 3 p 0 (k + 1)) co xj xd xf xo xi xn (mm_up (mm_up (mm_up (mm_up (mm_up I (14 + 3 * p + 1) (4 * k) (nI op)) (14 + 3 * p + 1) (4 * k + 1) a) (14 + 3 * p + 1) (4 * k + 2) b) (14 + 3 * p + 1) (4 * k + 3) c) (14 + 3 * p) 1 (nI (k + 1))) J F D R nx sl := by
  obtain ⟨hJ, hD, hF, hR, hI, hX, hN, hS⟩ := h
  exact ⟨hJ,
   hD,
   hF,
   ⟨hR.1,
    hR.2.1,
    hR.2.2.1,
    hR.2.2.2.1,
    hR.2.2.2.2.1,
    fun t1 ht1 k1 hk1 => by
      have g0 := hR.2.2.2.2.2.1 t1 ht1 k1 hk1
      simp only [mm_up, u3, u1, true_and, and_true, false_and, and_false, and_self, if_true, if_false] <;> (repeat' split) <;> first | exact g0 | rfl | (exfalso; omega) | assumption | (congr 1; omega) | (simp_all; done),
    hR.2.2.2.2.2.2.1,
    hR.2.2.2.2.2.2.2.1,
    hR.2.2.2.2.2.2.2.2.1,
    hR.2.2.2.2.2.2.2.2.2⟩,
   ⟨fun p1 hp1 => by
      have g0 := hI.1 p1 hp1
      simp only [mm_up, u3, u1, true_and, and_true, false_and, and_false, and_self, if_true, if_false] <;> (repeat' split) <;> first | exact g0 | rfl | (exfalso; omega) | assumption | (congr 1; omega) | (simp_all; done),
    fun p1 hp1 => by
      have g0 := hI.2.1 p1 hp1
      simp only [mm_up, u3, u1, true_and, and_true, false_and, and_false, and_self, if_true, if_false] <;> (repeat' split) <;> first | exact g0 | rfl | (exfalso; omega) | assumption | (congr 1; omega) | (simp_all; done),
    fun p1 hp1 => by
      have g0 := hI.2.2.1 p1 hp1
      simp only [mm_up, u3, u1, true_and, and_true, false_and, and_false, and_self, if_true, if_false] <;> (repeat' split) <;> first | exact g0 | rfl | (exfalso; omega) | assumption | (congr 1; omega) | (simp_all; done),
    fun p1 hp1 k1 hk1 => by
      by_cases q9 : p1 = p
      · subst q9
        have hk2 : k1 < k + 1 := by simpa [u3] using hk1
        by_cases q8 : k1 = k
        · subst q8; have g0 := trivial
          simp only [mm_up, u3, u1, true_and, and_true, false_and, and_false, and_self, if_true, if_false] <;> (repeat' split) <;> first | exact g0 | rfl | (exfalso; omega) | assumption | (congr 1; omega) | (simp_all; done)
        · have hk3 : k1 < cn 3 p1 0 := (by omega)
          have g0 := hI.2.2.2.1 p1 hp1 k1 hk3
          simp only [mm_up, u3, u1, true_and, and_true, false_and, and_false, and_self, if_true, if_false] <;> (repeat' split) <;> first | exact g0 | rfl | (exfalso; omega) | assumption | (congr 1; omega) | (simp_all; done)
      · have hk2 : k1 < cn 3 p1 0 := by simpa [u3, q9] using hk1
        have g0 := hI.2.2.2.1 p1 hp1 k1 hk2
        simp only [mm_up, u3, u1, true_and, and_true, false_and, and_false, and_self, if_true, if_false] <;> (repeat' split) <;> first | exact g0 | rfl | (exfalso; omega) | assumption | (congr 1; omega) | (simp_all; done),
    fun p1 hp1 k1 hk1 => by
      by_cases q9 : p1 = p
      · subst q9
        have hk2 : k1 < k + 1 := by simpa [u3] using hk1
        by_cases q8 : k1 = k
        · subst q8; have g0 := trivial
          simp only [mm_up, u3, u1, true_and, and_true, false_and, and_false, and_self, if_true, if_false] <;> (repeat' split) <;> first | exact g0 | rfl | (exfalso; omega) | assumption | (congr 1; omega) | (simp_all; done)
        · have hk3 : k1 < cn 3 p1 0 := (by omega)
          have g0 := hI.2.2.2.2.1 p1 hp1 k1 hk3
          simp only [mm_up, u3, u1, true_and, and_true, false_and, and_false, and_self, if_true, if_false] <;> (repeat' split) <;> first | exact g0 | rfl | (exfalso; omega) | assumption | (congr 1; omega) | (simp_all; done)
      · have hk2 : k1 < cn 3 p1 0 := by simpa [u3, q9] using hk1
        have g0 := hI.2.2.2.2.1 p1 hp1 k1 hk2
        simp only [mm_up, u3, u1, true_and, and_true, false_and, and_false, and_self, if_true, if_false] <;> (repeat' split) <;> first | exact g0 | rfl | (exfalso; omega) | assumption | (congr 1; omega) | (simp_all; done),
    fun p1 hp1 k1 hk1 => by
      by_cases q9 : p1 = p
      · subst q9
        have hk2 : k1 < k + 1 := by simpa [u3] using hk1
        by_cases q8 : k1 = k
        · subst q8; have g0 := trivial
          simp only [mm_up, u3, u1, true_and, and_true, false_and, and_false, and_self, if_true, if_false] <;> (repeat' split) <;> first | exact g0 | rfl | (exfalso; omega) | assumption | (congr 1; omega) | (simp_all; done)
        · have hk3 : k1 < cn 3 p1 0 := (by omega)
          have g0 := hI.2.2.2.2.2.1 p1 hp1 k1 hk3
          simp only [mm_up, u3, u1, true_and, and_true, false_and, and_false, and_self, if_true, if_false] <;> (repeat' split) <;> first | exact g0 | rfl | (exfalso; omega) | assumption | (congr 1; omega) | (simp_all; done)
      · have hk2 : k1 < cn 3 p1 0 := by simpa [u3, q9] using hk1
        have g0 := hI.2.2.2.2.2.1 p1 hp1 k1 hk2
        simp only [mm_up, u3, u1, true_and, and_true, false_and, and_false, and_self, if_true, if_false] <;> (repeat' split) <;> first | exact g0 | rfl | (exfalso; omega) | assumption | (congr 1; omega) | (simp_all; done),
    fun p1 hp1 k1 hk1 => by
      by_cases q9 : p1 = p
      · subst q9
        have hk2 : k1 < k + 1 := by simpa [u3] using hk1
        by_cases q8 : k1 = k
        · subst q8; have g0 := trivial
          simp only [mm_up, u3, u1, true_and, and_true, false_and, and_false, and_self, if_true, if_false] <;> (repeat' split) <;> first | exact g0 | rfl | (exfalso; omega) | assumption | (congr 1; omega) | (simp_all; done)
        · have hk3 : k1 < cn 3 p1 0 := (by omega)
          have g0 := hI.2.2.2.2.2.2.1 p1 hp1 k1 hk3
          simp only [mm_up, u3, u1, true_and, and_true, false_and, and_false, and_self, if_true, if_false] <;> (repeat' split) <;> first | exact g0 | rfl | (exfalso; omega) | assumption | (congr 1; omega) | (simp_all; done)
      · have hk2 : k1 < cn 3 p1 0 := by simpa [u3, q9] using hk1
        have g0 := hI.2.2.2.2.2.2.1 p1 hp1 k1 hk2
        simp only [mm_up, u3, u1, true_and, and_true, false_and, and_false, and_self, if_true, if_false] <;> (repeat' split) <;> first | exact g0 | rfl | (exfalso; omega) | assumption | (congr 1; omega) | (simp_all; done),
    fun p1 hp1 k1 hk1 => by
      have g0 := hI.2.2.2.2.2.2.2.1 p1 hp1 k1 hk1
      simp only [mm_up, u3, u1, true_and, and_true, false_and, and_false, and_self, if_true, if_false] <;> (repeat' split) <;> first | exact g0 | rfl | (exfalso; omega) | assumption | (congr 1; omega) | (simp_all; done),
    fun p1 hp1 k1 hk1 => by
      have g0 := hI.2.2.2.2.2.2.2.2.1 p1 hp1 k1 hk1
      simp only [mm_up, u3, u1, true_and, and_true, false_and, and_false, and_self, if_true, if_false] <;> (repeat' split) <;> first | exact g0 | rfl | (exfalso; omega) | assumption | (congr 1; omega) | (simp_all; done),
    fun p1 hp1 k1 hk1 => by
      have g0 := hI.2.2.2.2.2.2.2.2.2.1 p1 hp1 k1 hk1
      simp only [mm_up, u3, u1, true_and, and_true, false_and, and_false, and_self, if_true, if_false] <;> (repeat' split) <;> first | exact g0 | rfl | (exfalso; omega) | assumption | (congr 1; omega) | (simp_all; done),
    fun p1 hp1 k1 hk1 => by
      have g0 := hI.2.2.2.2.2.2.2.2.2.2.1 p1 hp1 k1 hk1
      simp only [mm_up, u3, u1, true_and, and_true, false_and, and_false, and_self, if_true, if_false] <;> (repeat' split) <;> first | exact g0 | rfl | (exfalso; omega) | assumption | (congr 1; omega) | (simp_all; done),
    fun t1 ht1 => by
      have g0 := hI.2.2.2.2.2.2.2.2.2.2.2.1 t1 ht1
      simp only [mm_up, u3, u1, true_and, and_true, false_and, and_false, and_self, if_true, if_false] <;> (repeat' split) <;> first | exact g0 | rfl | (exfalso; omega) | assumption | (congr 1; omega) | (simp_all; done),
    fun t1 ht1 => by
      have g0 := hI.2.2.2.2.2.2.2.2.2.2.2.2.1 t1 ht1
      simp only [mm_up, u3, u1, true_and, and_true, false_and, and_false, and_self, if_true, if_false] <;> (repeat' split) <;> first | exact g0 | rfl | (exfalso; omega) | assumption | (congr 1; omega) | (simp_all; done),
    fun t1 ht1 k1 hk1 => by
      have g0 := hI.2.2.2.2.2.2.2.2.2.2.2.2.2.1 t1 ht1 k1 hk1
      simp only [mm_up, u3, u1, true_and, and_true, false_and, and_false, and_self, if_true, if_false] <;> (repeat' split) <;> first | exact g0 | rfl | (exfalso; omega) | assumption | (congr 1; omega) | (simp_all; done),
    fun t1 ht1 => by
      have g0 := hI.2.2.2.2.2.2.2.2.2.2.2.2.2.2.1 t1 ht1
      simp only [mm_up, u3, u1, true_and, and_true, false_and, and_false, and_self, if_true, if_false] <;> (repeat' split) <;> first | exact g0 | rfl | (exfalso; omega) | assumption | (congr 1; omega) | (simp_all; done),
    fun t1 ht1 => by
      have g0 := hI.2.2.2.2.2.2.2.2.2.2.2.2.2.2.2.1 t1 ht1
      simp only [mm_up, u3, u1, true_and, and_true, false_and, and_false, and_self, if_true, if_false] <;> (repeat' split) <;> first | exact g0 | rfl | (exfalso; omega) | assumption | (congr 1; omega) | (simp_all; done),
    fun t1 ht1 => by
      have g0 := hI.2.2.2.2.2.2.2.2.2.2.2.2.2.2.2.2.1 t1 ht1
      simp only [mm_up, u3, u1, true_and, and_true, false_and, and_false, and_self, if_true, if_false] <;> (repeat' split) <;> first | exact g0 | rfl | (exfalso; omega) | assumption | (congr 1; omega) | (simp_all; done),
    fun t1 ht1 => by
      have g0 := hI.2.2.2.2.2.2.2.2.2.2.2.2.2.2.2.2.2.1 t1 ht1
      simp only [mm_up, u3, u1, true_and, and_true, false_and, and_false, and_self, if_true, if_false] <;> (repeat' split) <;> first | exact g0 | rfl | (exfalso; omega) | assumption | (congr 1; omega) | (simp_all; done),
    fun t1 ht1 => by
      have g0 := hI.2.2.2.2.2.2.2.2.2.2.2.2.2.2.2.2.2.2.1 t1 ht1
      simp only [mm_up, u3, u1, true_and, and_true, false_and, and_false, and_self, if_true, if_false] <;> (repeat' split) <;> first | exact g0 | rfl | (exfalso; omega) | assumption | (congr 1; omega) | (simp_all; done),
    fun t1 ht1 => by
      have g0 := hI.2.2.2.2.2.2.2.2.2.2.2.2.2.2.2.2.2.2.2.1 t1 ht1
      simp only [mm_up, u3, u1, true_and, and_true, false_and, and_false, and_self, if_true, if_false] <;> (repeat' split) <;> first | exact g0 | rfl | (exfalso; omega) | assumption | (congr 1; omega) | (simp_all; done),
    by
      have g0 := hI.2.2.2.2.2.2.2.2.2.2.2.2.2.2.2.2.2.2.2.2.1
      simp only [mm_up, u3, u1, true_and, and_true, false_and, and_false, and_self, if_true, if_false] <;> (repeat' split) <;> first | exact g0 | rfl | (exfalso; omega) | assumption | (congr 1; omega) | (simp_all; done),
    by
      have g0 := hI.2.2.2.2.2.2.2.2.2.2.2.2.2.2.2.2.2.2.2.2.2.1
      simp only [mm_up, u3, u1, true_and, and_true, false_and, and_false, and_self, if_true, if_false] <;> (repeat' split) <;> first | exact g0 | rfl | (exfalso; omega) | assumption | (congr 1; omega) | (simp_all; done),
    fun i1 hi1 => by
      have g0 := hI.2.2.2.2.2.2.2.2.2.2.2.2.2.2.2.2.2.2.2.2.2.2.1 i1 hi1
      simp only [mm_up, u3, u1, true_and, and_true, false_and, and_false, and_self, if_true, if_false] <;> (repeat' split) <;> first | exact g0 | rfl | (exfalso; omega) | assumption | (congr 1; omega) | (simp_all; done),
    fun i1 hi1 => by
      have g0 := hI.2.2.2.2.2.2.2.2.2.2.2.2.2.2.2.2.2.2.2.2.2.2.2.1 i1 hi1
      simp only [mm_up, u3, u1, true_and, and_true, false_and, and_false, and_self, if_true, if_false] <;> (repeat' split) <;> first | exact g0 | rfl | (exfalso; omega) | assumption | (congr 1; omega) | (simp_all; done),
    fun i1 hi1 => by
      have g0 := hI.2.2.2.2.2.2.2.2.2.2.2.2.2.2.2.2.2.2.2.2.2.2.2.2.1 i1 hi1
      simp only [mm_up, u3, u1, true_and, and_true, false_and, and_false, and_self, if_true, if_false] <;> (repeat' split) <;> first | exact g0 | rfl | (exfalso; omega) | assumption | (congr 1; omega) | (simp_all; done),
    fun i1 hi1 => by
      have g0 := hI.2.2.2.2.2.2.2.2.2.2.2.2.2.2.2.2.2.2.2.2.2.2.2.2.2.1 i1 hi1
      simp only [mm_up, u3, u1, true_and, and_true, false_and, and_false, and_self, if_true, if_false] <;> (repeat' split) <;> first | exact g0 | rfl | (exfalso; omega) | assumption | (congr 1; omega) | (simp_all; done),
    fun i1 hi1 => by
      have g0 := hI.2.2.2.2.2.2.2.2.2.2.2.2.2.2.2.2.2.2.2.2.2.2.2.2.2.2.1 i1 hi1
      simp only [mm_up, u3, u1, true_and, and_true, false_and, and_false, and_self, if_true, if_false] <;> (repeat' split) <;> first | exact g0 | rfl | (exfalso; omega) | assumption | (congr 1; omega) | (simp_all; done),
    fun i1 hi1 => by
      have g0 := hI.2.2.2.2.2.2.2.2.2.2.2.2.2.2.2.2.2.2.2.2.2.2.2.2.2.2.2.1 i1 hi1
      simp only [mm_up, u3, u1, true_and, and_true, false_and, and_false, and_self, if_true, if_false] <;> (repeat' split) <;> first | exact g0 | rfl | (exfalso; omega) | assumption | (congr 1; omega) | (simp_all; done),
    fun i1 hi1 => by
      have g0 := hI.2.2.2.2.2.2.2.2.2.2.2.2.2.2.2.2.2.2.2.2.2.2.2.2.2.2.2.2.1 i1 hi1
      simp only [mm_up, u3, u1, true_and, and_true, false_and, and_false, and_self, if_true, if_false] <;> (repeat' split) <;> first | exact g0 | rfl | (exfalso; omega) | assumption | (congr 1; omega) | (simp_all; done),
    fun i1 hi1 => by
      have g0 := hI.2.2.2.2.2.2.2.2.2.2.2.2.2.2.2.2.2.2.2.2.2.2.2.2.2.2.2.2.2.1 i1 hi1
      simp only [mm_up, u3, u1, true_and, and_true, false_and, and_false, and_self, if_true, if_false] <;> (repeat' split) <;> first | exact g0 | rfl | (exfalso; omega) | assumption | (congr 1; omega) | (simp_all; done),
    fun i1 hi1 => by
      have g0 := hI.2.2.2.2.2.2.2.2.2.2.2.2.2.2.2.2.2.2.2.2.2.2.2.2.2.2.2.2.2.2 i1 hi1
      simp only [mm_up, u3, u1, true_and, and_true, false_and, and_false, and_self, if_true, if_false] <;> (repeat' split) <;> first | exact g0 | rfl | (exfalso; omega) | assumption | (congr 1; omega) | (simp_all; done)⟩,
   hX,
   hN,
   hS⟩
set_option maxHeartbeats 4000000 in
theorem MU_act {ci : Nat → Nat → Nat → Int32} {cn : Nat → Nat → Nat → Nat} {co : Nat → Option Nat} {xj : Nat → Nat → Nat → Int64} {xd : Nat → Nat → Nat → UInt64} {xf : Nat → Nat → Nat → UInt32} {xo : Nat → Nat → Nat → Option Nat} {xi : Nat → Nat → Nat → Int32} {xn : Nat → Nat → Nat → Nat} {I : Nat → Nat → Int32} {J : Nat → Nat → Int64} {D : Nat → Nat → UInt64} (h : RM ci cn co xj xd xf xo xi xn I J D) {p k op : Nat} {a b c : Int32} (hp : p < 6) (hk : cn 3 p 0 = k) (hk4 : k < 40) (h40 : ∀ p, p < 6 → cn 3 p 0 ≤ 40 ∧ cn 4 p 0 ≤ 6) : RM (u3 (u3 (u3 ci 6 p k a) 7 p k b) 8 p k c) (u3 (u3 cn 5 p k op) 3 p 0 (k + 1)) co xj xd xf xo xi xn (mm_up (mm_up (mm_up (mm_up (mm_up I 21 (40 * p + k) (nI op)) 22 (40 * p + k) a) 23 (40 * p + k) b) 24 (40 * p + k) c) 20 p (nI (k + 1))) J D := by
  have b0 := h40 0 (by decide)
  have b1 := h40 1 (by decide)
  have b2 := h40 2 (by decide)
  have b3 := h40 3 (by decide)
  have b4 := h40 4 (by decide)
  have b5 := h40 5 (by decide)
  obtain ⟨hJ, hD, hI⟩ := h
  exact ⟨hJ,
   hD,
   ⟨by
      have g0 := hI.1
      simp only [mm_up, u3, u1, true_and, and_true, false_and, and_false, and_self, if_true, if_false] <;> (repeat' split) <;> first | exact g0 | rfl | (exfalso; omega) | assumption | (congr 1; omega) | (simp_all; done),
    by
      have g0 := hI.2.1
      simp only [mm_up, u3, u1, true_and, and_true, false_and, and_false, and_self, if_true, if_false] <;> (repeat' split) <;> first | exact g0 | rfl | (exfalso; omega) | assumption | (congr 1; omega) | (simp_all; done),
    fun i1 hi1 => by
      have g0 := hI.2.2.1 i1 hi1
      simp only [mm_up, u3, u1, true_and, and_true, false_and, and_false, and_self, if_true, if_false] <;> (repeat' split) <;> first | exact g0 | rfl | (exfalso; omega) | assumption | (congr 1; omega) | (simp_all; done),
    fun i1 hi1 => by
      have g0 := hI.2.2.2.1 i1 hi1
      simp only [mm_up, u3, u1, true_and, and_true, false_and, and_false, and_self, if_true, if_false] <;> (repeat' split) <;> first | exact g0 | rfl | (exfalso; omega) | assumption | (congr 1; omega) | (simp_all; done),
    fun i1 hi1 => by
      have g0 := hI.2.2.2.2.1 i1 hi1
      simp only [mm_up, u3, u1, true_and, and_true, false_and, and_false, and_self, if_true, if_false] <;> (repeat' split) <;> first | exact g0 | rfl | (exfalso; omega) | assumption | (congr 1; omega) | (simp_all; done),
    fun i1 hi1 => by
      have g0 := hI.2.2.2.2.2.1 i1 hi1
      simp only [mm_up, u3, u1, true_and, and_true, false_and, and_false, and_self, if_true, if_false] <;> (repeat' split) <;> first | exact g0 | rfl | (exfalso; omega) | assumption | (congr 1; omega) | (simp_all; done),
    fun i1 hi1 => by
      have g0 := hI.2.2.2.2.2.2.1 i1 hi1
      simp only [mm_up, u3, u1, true_and, and_true, false_and, and_false, and_self, if_true, if_false] <;> (repeat' split) <;> first | exact g0 | rfl | (exfalso; omega) | assumption | (congr 1; omega) | (simp_all; done),
    fun i1 hi1 k1 hk1 => by
      have g0 := hI.2.2.2.2.2.2.2.1 i1 hi1 k1 hk1
      simp only [mm_up, u3, u1, true_and, and_true, false_and, and_false, and_self, if_true, if_false] <;> (repeat' split) <;> first | exact g0 | rfl | (exfalso; omega) | assumption | (congr 1; omega) | (simp_all; done),
    fun i1 hi1 => by
      have g0 := hI.2.2.2.2.2.2.2.2.1 i1 hi1
      simp only [mm_up, u3, u1, true_and, and_true, false_and, and_false, and_self, if_true, if_false] <;> (repeat' split) <;> first | exact g0 | rfl | (exfalso; omega) | assumption | (congr 1; omega) | (simp_all; done),
    fun i1 hi1 => by
      have g0 := hI.2.2.2.2.2.2.2.2.2.1 i1 hi1
      simp only [mm_up, u3, u1, true_and, and_true, false_and, and_false, and_self, if_true, if_false] <;> (repeat' split) <;> first | exact g0 | rfl | (exfalso; omega) | assumption | (congr 1; omega) | (simp_all; done),
    fun p1 hp1 => by
      have e8 := h40 p1 hp1
      have g0 := hI.2.2.2.2.2.2.2.2.2.2.1 p1 hp1
      simp only [mm_up, u3, u1, true_and, and_true, false_and, and_false, and_self, if_true, if_false] <;> (repeat' split) <;> first | exact g0 | rfl | (exfalso; omega) | assumption | (congr 1; omega) | (simp_all; done),
    fun p1 hp1 k1 hk1 => by
      have e8 := h40 p1 hp1
      by_cases q9 : p1 = p
      · subst q9
        have hk2 : k1 < k + 1 := by simpa [u3] using hk1
        by_cases q8 : k1 = k
        · subst q8; have g0 := trivial
          simp only [mm_up, u3, u1, true_and, and_true, false_and, and_false, and_self, if_true, if_false] <;> (repeat' split) <;> first | exact g0 | rfl | (exfalso; omega) | assumption | (congr 1; omega) | (simp_all; done)
        · have hk3 : k1 < cn 3 p1 0 := (by omega)
          have g0 := hI.2.2.2.2.2.2.2.2.2.2.2.1 p1 hp1 k1 hk3
          simp only [mm_up, u3, u1, true_and, and_true, false_and, and_false, and_self, if_true, if_false] <;> (repeat' split) <;> first | exact g0 | rfl | (exfalso; omega) | assumption | (congr 1; omega) | (simp_all; done)
      · have hk2 : k1 < cn 3 p1 0 := by simpa [u3, q9] using hk1
        have g0 := hI.2.2.2.2.2.2.2.2.2.2.2.1 p1 hp1 k1 hk2
        simp only [mm_up, u3, u1, true_and, and_true, false_and, and_false, and_self, if_true, if_false] <;> (repeat' split) <;> first | exact g0 | rfl | (exfalso; omega) | assumption | (congr 1; omega) | (simp_all; done),
    fun p1 hp1 k1 hk1 => by
      have e8 := h40 p1 hp1
      by_cases q9 : p1 = p
      · subst q9
        have hk2 : k1 < k + 1 := by simpa [u3] using hk1
        by_cases q8 : k1 = k
        · subst q8; have g0 := trivial
          simp only [mm_up, u3, u1, true_and, and_true, false_and, and_false, and_self, if_true, if_false] <;> (repeat' split) <;> first | exact g0 | rfl | (exfalso; omega) | assumption | (congr 1; omega) | (simp_all; done)
        · have hk3 : k1 < cn 3 p1 0 := (by omega)
          have g0 := hI.2.2.2.2.2.2.2.2.2.2.2.2.1 p1 hp1 k1 hk3
          simp only [mm_up, u3, u1, true_and, and_true, false_and, and_false, and_self, if_true, if_false] <;> (repeat' split) <;> first | exact g0 | rfl | (exfalso; omega) | assumption | (congr 1; omega) | (simp_all; done)
      · have hk2 : k1 < cn 3 p1 0 := by simpa [u3, q9] using hk1
        have g0 := hI.2.2.2.2.2.2.2.2.2.2.2.2.1 p1 hp1 k1 hk2
        simp only [mm_up, u3, u1, true_and, and_true, false_and, and_false, and_self, if_true, if_false] <;> (repeat' split) <;> first | exact g0 | rfl | (exfalso; omega) | assumption | (congr 1; omega) | (simp_all; done),
    fun p1 hp1 k1 hk1 => by
      have e8 := h40 p1 hp1
      by_cases q9 : p1 = p
      · subst q9
        have hk2 : k1 < k + 1 := by simpa [u3] using hk1
        by_cases q8 : k1 = k
        · subst q8; have g0 := trivial
          simp only [mm_up, u3, u1, true_and, and_true, false_and, and_false, and_self, if_true, if_false] <;> (repeat' split) <;> first | exact g0 | rfl | (exfalso; omega) | assumption | (congr 1; omega) | (simp_all; done)
        · have hk3 : k1 < cn 3 p1 0 := (by omega)
          have g0 := hI.2.2.2.2.2.2.2.2.2.2.2.2.2.1 p1 hp1 k1 hk3
          simp only [mm_up, u3, u1, true_and, and_true, false_and, and_false, and_self, if_true, if_false] <;> (repeat' split) <;> first | exact g0 | rfl | (exfalso; omega) | assumption | (congr 1; omega) | (simp_all; done)
      · have hk2 : k1 < cn 3 p1 0 := by simpa [u3, q9] using hk1
        have g0 := hI.2.2.2.2.2.2.2.2.2.2.2.2.2.1 p1 hp1 k1 hk2
        simp only [mm_up, u3, u1, true_and, and_true, false_and, and_false, and_self, if_true, if_false] <;> (repeat' split) <;> first | exact g0 | rfl | (exfalso; omega) | assumption | (congr 1; omega) | (simp_all; done),
    fun p1 hp1 k1 hk1 => by
      have e8 := h40 p1 hp1
      by_cases q9 : p1 = p
      · subst q9
        have hk2 : k1 < k + 1 := by simpa [u3] using hk1
        by_cases q8 : k1 = k
        · subst q8; have g0 := trivial
          simp only [mm_up, u3, u1, true_and, and_true, false_and, and_false, and_self, if_true, if_false] <;> (repeat' split) <;> first | exact g0 | rfl | (exfalso; omega) | assumption | (congr 1; omega) | (simp_all; done)
        · have hk3 : k1 < cn 3 p1 0 := (by omega)
          have g0 := hI.2.2.2.2.2.2.2.2.2.2.2.2.2.2.1 p1 hp1 k1 hk3
          simp only [mm_up, u3, u1, true_and, and_true, false_and, and_false, and_self, if_true, if_false] <;> (repeat' split) <;> first | exact g0 | rfl | (exfalso; omega) | assumption | (congr 1; omega) | (simp_all; done)
      · have hk2 : k1 < cn 3 p1 0 := by simpa [u3, q9] using hk1
        have g0 := hI.2.2.2.2.2.2.2.2.2.2.2.2.2.2.1 p1 hp1 k1 hk2
        simp only [mm_up, u3, u1, true_and, and_true, false_and, and_false, and_self, if_true, if_false] <;> (repeat' split) <;> first | exact g0 | rfl | (exfalso; omega) | assumption | (congr 1; omega) | (simp_all; done),
    fun p1 hp1 => by
      have e8 := h40 p1 hp1
      have g0 := hI.2.2.2.2.2.2.2.2.2.2.2.2.2.2.2.1 p1 hp1
      simp only [mm_up, u3, u1, true_and, and_true, false_and, and_false, and_self, if_true, if_false] <;> (repeat' split) <;> first | exact g0 | rfl | (exfalso; omega) | assumption | (congr 1; omega) | (simp_all; done),
    fun p1 hp1 k1 hk1 => by
      have e8 := h40 p1 hp1
      have g0 := hI.2.2.2.2.2.2.2.2.2.2.2.2.2.2.2.2.1 p1 hp1 k1 hk1
      simp only [mm_up, u3, u1, true_and, and_true, false_and, and_false, and_self, if_true, if_false] <;> (repeat' split) <;> first | exact g0 | rfl | (exfalso; omega) | assumption | (congr 1; omega) | (simp_all; done),
    fun p1 hp1 k1 hk1 => by
      have e8 := h40 p1 hp1
      have g0 := hI.2.2.2.2.2.2.2.2.2.2.2.2.2.2.2.2.2.1 p1 hp1 k1 hk1
      simp only [mm_up, u3, u1, true_and, and_true, false_and, and_false, and_self, if_true, if_false] <;> (repeat' split) <;> first | exact g0 | rfl | (exfalso; omega) | assumption | (congr 1; omega) | (simp_all; done),
    fun p1 hp1 k1 hk1 => by
      have e8 := h40 p1 hp1
      have g0 := hI.2.2.2.2.2.2.2.2.2.2.2.2.2.2.2.2.2.2.1 p1 hp1 k1 hk1
      simp only [mm_up, u3, u1, true_and, and_true, false_and, and_false, and_self, if_true, if_false] <;> (repeat' split) <;> first | exact g0 | rfl | (exfalso; omega) | assumption | (congr 1; omega) | (simp_all; done),
    fun p1 hp1 k1 hk1 => by
      have e8 := h40 p1 hp1
      have g0 := hI.2.2.2.2.2.2.2.2.2.2.2.2.2.2.2.2.2.2.2.1 p1 hp1 k1 hk1
      simp only [mm_up, u3, u1, true_and, and_true, false_and, and_false, and_self, if_true, if_false] <;> (repeat' split) <;> first | exact g0 | rfl | (exfalso; omega) | assumption | (congr 1; omega) | (simp_all; done),
    fun t1 ht1 k1 hk1 => by
      have g0 := hI.2.2.2.2.2.2.2.2.2.2.2.2.2.2.2.2.2.2.2.2.1 t1 ht1 k1 hk1
      simp only [mm_up, u3, u1, true_and, and_true, false_and, and_false, and_self, if_true, if_false] <;> (repeat' split) <;> first | exact g0 | rfl | (exfalso; omega) | assumption | (congr 1; omega) | (simp_all; done),
    fun t1 ht1 => by
      have g0 := hI.2.2.2.2.2.2.2.2.2.2.2.2.2.2.2.2.2.2.2.2.2.1 t1 ht1
      simp only [mm_up, u3, u1, true_and, and_true, false_and, and_false, and_self, if_true, if_false] <;> (repeat' split) <;> first | exact g0 | rfl | (exfalso; omega) | assumption | (congr 1; omega) | (simp_all; done),
    fun t1 ht1 => by
      have g0 := hI.2.2.2.2.2.2.2.2.2.2.2.2.2.2.2.2.2.2.2.2.2.2.1 t1 ht1
      simp only [mm_up, u3, u1, true_and, and_true, false_and, and_false, and_self, if_true, if_false] <;> (repeat' split) <;> first | exact g0 | rfl | (exfalso; omega) | assumption | (congr 1; omega) | (simp_all; done),
    fun t1 ht1 k1 hk1 => by
      have g0 := hI.2.2.2.2.2.2.2.2.2.2.2.2.2.2.2.2.2.2.2.2.2.2.2.1 t1 ht1 k1 hk1
      simp only [mm_up, u3, u1, true_and, and_true, false_and, and_false, and_self, if_true, if_false] <;> (repeat' split) <;> first | exact g0 | rfl | (exfalso; omega) | assumption | (congr 1; omega) | (simp_all; done),
    fun t1 ht1 k1 hk1 => by
      have g0 := hI.2.2.2.2.2.2.2.2.2.2.2.2.2.2.2.2.2.2.2.2.2.2.2.2.1 t1 ht1 k1 hk1
      simp only [mm_up, u3, u1, true_and, and_true, false_and, and_false, and_self, if_true, if_false] <;> (repeat' split) <;> first | exact g0 | rfl | (exfalso; omega) | assumption | (congr 1; omega) | (simp_all; done),
    fun t1 ht1 => by
      have g0 := hI.2.2.2.2.2.2.2.2.2.2.2.2.2.2.2.2.2.2.2.2.2.2.2.2.2.1 t1 ht1
      simp only [mm_up, u3, u1, true_and, and_true, false_and, and_false, and_self, if_true, if_false] <;> (repeat' split) <;> first | exact g0 | rfl | (exfalso; omega) | assumption | (congr 1; omega) | (simp_all; done),
    fun t1 ht1 => by
      have g0 := hI.2.2.2.2.2.2.2.2.2.2.2.2.2.2.2.2.2.2.2.2.2.2.2.2.2.2.1 t1 ht1
      simp only [mm_up, u3, u1, true_and, and_true, false_and, and_false, and_self, if_true, if_false] <;> (repeat' split) <;> first | exact g0 | rfl | (exfalso; omega) | assumption | (congr 1; omega) | (simp_all; done),
    fun t1 ht1 => by
      have g0 := hI.2.2.2.2.2.2.2.2.2.2.2.2.2.2.2.2.2.2.2.2.2.2.2.2.2.2.2.1 t1 ht1
      simp only [mm_up, u3, u1, true_and, and_true, false_and, and_false, and_self, if_true, if_false] <;> (repeat' split) <;> first | exact g0 | rfl | (exfalso; omega) | assumption | (congr 1; omega) | (simp_all; done),
    fun t1 ht1 => by
      have g0 := hI.2.2.2.2.2.2.2.2.2.2.2.2.2.2.2.2.2.2.2.2.2.2.2.2.2.2.2.2.1 t1 ht1
      simp only [mm_up, u3, u1, true_and, and_true, false_and, and_false, and_self, if_true, if_false] <;> (repeat' split) <;> first | exact g0 | rfl | (exfalso; omega) | assumption | (congr 1; omega) | (simp_all; done),
    fun t1 ht1 => by
      have g0 := hI.2.2.2.2.2.2.2.2.2.2.2.2.2.2.2.2.2.2.2.2.2.2.2.2.2.2.2.2.2.1 t1 ht1
      simp only [mm_up, u3, u1, true_and, and_true, false_and, and_false, and_self, if_true, if_false] <;> (repeat' split) <;> first | exact g0 | rfl | (exfalso; omega) | assumption | (congr 1; omega) | (simp_all; done),
    fun t1 ht1 => by
      have g0 := hI.2.2.2.2.2.2.2.2.2.2.2.2.2.2.2.2.2.2.2.2.2.2.2.2.2.2.2.2.2.2 t1 ht1
      simp only [mm_up, u3, u1, true_and, and_true, false_and, and_false, and_self, if_true, if_false] <;> (repeat' split) <;> first | exact g0 | rfl | (exfalso; omega) | assumption | (congr 1; omega) | (simp_all; done)⟩⟩
set_option maxHeartbeats 4000000 in
theorem CU_han {ci : Nat → Nat → Nat → Int32} {cn : Nat → Nat → Nat → Nat} {co : Nat → Option Nat} {xj : Nat → Nat → Nat → Int64} {xd : Nat → Nat → Nat → UInt64} {xf : Nat → Nat → Nat → UInt32} {xo : Nat → Nat → Nat → Option Nat} {xi : Nat → Nat → Nat → Int32} {xn : Nat → Nat → Nat → Nat} {I : Nat → Nat → Int32} {J : Nat → Nat → Int64} {F : Nat → Nat → UInt32} {D : Nat → Nat → UInt64} {R : Nat → Nat → Option Nat} {nx sl : Nat} (h : RC ci cn co xj xd xf xo xi xn I J F D R nx sl) {p k f e l : Nat} {v : Int32} (hp : p < 6) (hk : cn 4 p 0 = k) : RC (u3 ci 9 p k v) (u3 (u3 (u3 (u3 cn 6 p k f) 7 p k e) 8 p k l) 4 p 0 (k + 1)) co xj xd xf xo xi xn (mm_up (mm_up (mm_up (mm_up (mm_up I (14 + 3 * p + 2) (4 * k) (nI f)) (14 + 3 * p + 2) (4 * k + 1) (nI e)) (14 + 3 * p + 2) (4 * k + 2) v) (14 + 3 * p + 2) (4 * k + 3) (nI l)) (14 + 3 * p) 2 (nI (k + 1))) J F D R nx sl := by
  obtain ⟨hJ, hD, hF, hR, hI, hX, hN, hS⟩ := h
  exact ⟨hJ,
   hD,
   hF,
   ⟨hR.1,
    hR.2.1,
    hR.2.2.1,
    hR.2.2.2.1,
    hR.2.2.2.2.1,
    fun t1 ht1 k1 hk1 => by
      have g0 := hR.2.2.2.2.2.1 t1 ht1 k1 hk1
      simp only [mm_up, u3, u1, true_and, and_true, false_and, and_false, and_self, if_true, if_false] <;> (repeat' split) <;> first | exact g0 | rfl | (exfalso; omega) | assumption | (congr 1; omega) | (simp_all; done),
    hR.2.2.2.2.2.2.1,
    hR.2.2.2.2.2.2.2.1,
    hR.2.2.2.2.2.2.2.2.1,
    hR.2.2.2.2.2.2.2.2.2⟩,
   ⟨fun p1 hp1 => by
      have g0 := hI.1 p1 hp1
      simp only [mm_up, u3, u1, true_and, and_true, false_and, and_false, and_self, if_true, if_false] <;> (repeat' split) <;> first | exact g0 | rfl | (exfalso; omega) | assumption | (congr 1; omega) | (simp_all; done),
    fun p1 hp1 => by
      have g0 := hI.2.1 p1 hp1
      simp only [mm_up, u3, u1, true_and, and_true, false_and, and_false, and_self, if_true, if_false] <;> (repeat' split) <;> first | exact g0 | rfl | (exfalso; omega) | assumption | (congr 1; omega) | (simp_all; done),
    fun p1 hp1 => by
      have g0 := hI.2.2.1 p1 hp1
      simp only [mm_up, u3, u1, true_and, and_true, false_and, and_false, and_self, if_true, if_false] <;> (repeat' split) <;> first | exact g0 | rfl | (exfalso; omega) | assumption | (congr 1; omega) | (simp_all; done),
    fun p1 hp1 k1 hk1 => by
      have g0 := hI.2.2.2.1 p1 hp1 k1 hk1
      simp only [mm_up, u3, u1, true_and, and_true, false_and, and_false, and_self, if_true, if_false] <;> (repeat' split) <;> first | exact g0 | rfl | (exfalso; omega) | assumption | (congr 1; omega) | (simp_all; done),
    fun p1 hp1 k1 hk1 => by
      have g0 := hI.2.2.2.2.1 p1 hp1 k1 hk1
      simp only [mm_up, u3, u1, true_and, and_true, false_and, and_false, and_self, if_true, if_false] <;> (repeat' split) <;> first | exact g0 | rfl | (exfalso; omega) | assumption | (congr 1; omega) | (simp_all; done),
    fun p1 hp1 k1 hk1 => by
      have g0 := hI.2.2.2.2.2.1 p1 hp1 k1 hk1
      simp only [mm_up, u3, u1, true_and, and_true, false_and, and_false, and_self, if_true, if_false] <;> (repeat' split) <;> first | exact g0 | rfl | (exfalso; omega) | assumption | (congr 1; omega) | (simp_all; done),
    fun p1 hp1 k1 hk1 => by
      have g0 := hI.2.2.2.2.2.2.1 p1 hp1 k1 hk1
      simp only [mm_up, u3, u1, true_and, and_true, false_and, and_false, and_self, if_true, if_false] <;> (repeat' split) <;> first | exact g0 | rfl | (exfalso; omega) | assumption | (congr 1; omega) | (simp_all; done),
    fun p1 hp1 k1 hk1 => by
      by_cases q9 : p1 = p
      · subst q9
        have hk2 : k1 < k + 1 := by simpa [u3] using hk1
        by_cases q8 : k1 = k
        · subst q8; have g0 := trivial
          simp only [mm_up, u3, u1, true_and, and_true, false_and, and_false, and_self, if_true, if_false] <;> (repeat' split) <;> first | exact g0 | rfl | (exfalso; omega) | assumption | (congr 1; omega) | (simp_all; done)
        · have hk3 : k1 < cn 4 p1 0 := (by omega)
          have g0 := hI.2.2.2.2.2.2.2.1 p1 hp1 k1 hk3
          simp only [mm_up, u3, u1, true_and, and_true, false_and, and_false, and_self, if_true, if_false] <;> (repeat' split) <;> first | exact g0 | rfl | (exfalso; omega) | assumption | (congr 1; omega) | (simp_all; done)
      · have hk2 : k1 < cn 4 p1 0 := by simpa [u3, q9] using hk1
        have g0 := hI.2.2.2.2.2.2.2.1 p1 hp1 k1 hk2
        simp only [mm_up, u3, u1, true_and, and_true, false_and, and_false, and_self, if_true, if_false] <;> (repeat' split) <;> first | exact g0 | rfl | (exfalso; omega) | assumption | (congr 1; omega) | (simp_all; done),
    fun p1 hp1 k1 hk1 => by
      by_cases q9 : p1 = p
      · subst q9
        have hk2 : k1 < k + 1 := by simpa [u3] using hk1
        by_cases q8 : k1 = k
        · subst q8; have g0 := trivial
          simp only [mm_up, u3, u1, true_and, and_true, false_and, and_false, and_self, if_true, if_false] <;> (repeat' split) <;> first | exact g0 | rfl | (exfalso; omega) | assumption | (congr 1; omega) | (simp_all; done)
        · have hk3 : k1 < cn 4 p1 0 := (by omega)
          have g0 := hI.2.2.2.2.2.2.2.2.1 p1 hp1 k1 hk3
          simp only [mm_up, u3, u1, true_and, and_true, false_and, and_false, and_self, if_true, if_false] <;> (repeat' split) <;> first | exact g0 | rfl | (exfalso; omega) | assumption | (congr 1; omega) | (simp_all; done)
      · have hk2 : k1 < cn 4 p1 0 := by simpa [u3, q9] using hk1
        have g0 := hI.2.2.2.2.2.2.2.2.1 p1 hp1 k1 hk2
        simp only [mm_up, u3, u1, true_and, and_true, false_and, and_false, and_self, if_true, if_false] <;> (repeat' split) <;> first | exact g0 | rfl | (exfalso; omega) | assumption | (congr 1; omega) | (simp_all; done),
    fun p1 hp1 k1 hk1 => by
      by_cases q9 : p1 = p
      · subst q9
        have hk2 : k1 < k + 1 := by simpa [u3] using hk1
        by_cases q8 : k1 = k
        · subst q8; have g0 := trivial
          simp only [mm_up, u3, u1, true_and, and_true, false_and, and_false, and_self, if_true, if_false] <;> (repeat' split) <;> first | exact g0 | rfl | (exfalso; omega) | assumption | (congr 1; omega) | (simp_all; done)
        · have hk3 : k1 < cn 4 p1 0 := (by omega)
          have g0 := hI.2.2.2.2.2.2.2.2.2.1 p1 hp1 k1 hk3
          simp only [mm_up, u3, u1, true_and, and_true, false_and, and_false, and_self, if_true, if_false] <;> (repeat' split) <;> first | exact g0 | rfl | (exfalso; omega) | assumption | (congr 1; omega) | (simp_all; done)
      · have hk2 : k1 < cn 4 p1 0 := by simpa [u3, q9] using hk1
        have g0 := hI.2.2.2.2.2.2.2.2.2.1 p1 hp1 k1 hk2
        simp only [mm_up, u3, u1, true_and, and_true, false_and, and_false, and_self, if_true, if_false] <;> (repeat' split) <;> first | exact g0 | rfl | (exfalso; omega) | assumption | (congr 1; omega) | (simp_all; done),
    fun p1 hp1 k1 hk1 => by
      by_cases q9 : p1 = p
      · subst q9
        have hk2 : k1 < k + 1 := by simpa [u3] using hk1
        by_cases q8 : k1 = k
        · subst q8; have g0 := trivial
          simp only [mm_up, u3, u1, true_and, and_true, false_and, and_false, and_self, if_true, if_false] <;> (repeat' split) <;> first | exact g0 | rfl | (exfalso; omega) | assumption | (congr 1; omega) | (simp_all; done)
        · have hk3 : k1 < cn 4 p1 0 := (by omega)
          have g0 := hI.2.2.2.2.2.2.2.2.2.2.1 p1 hp1 k1 hk3
          simp only [mm_up, u3, u1, true_and, and_true, false_and, and_false, and_self, if_true, if_false] <;> (repeat' split) <;> first | exact g0 | rfl | (exfalso; omega) | assumption | (congr 1; omega) | (simp_all; done)
      · have hk2 : k1 < cn 4 p1 0 := by simpa [u3, q9] using hk1
        have g0 := hI.2.2.2.2.2.2.2.2.2.2.1 p1 hp1 k1 hk2
        simp only [mm_up, u3, u1, true_and, and_true, false_and, and_false, and_self, if_true, if_false] <;> (repeat' split) <;> first | exact g0 | rfl | (exfalso; omega) | assumption | (congr 1; omega) | (simp_all; done),
    fun t1 ht1 => by
      have g0 := hI.2.2.2.2.2.2.2.2.2.2.2.1 t1 ht1
      simp only [mm_up, u3, u1, true_and, and_true, false_and, and_false, and_self, if_true, if_false] <;> (repeat' split) <;> first | exact g0 | rfl | (exfalso; omega) | assumption | (congr 1; omega) | (simp_all; done),
    fun t1 ht1 => by
      have g0 := hI.2.2.2.2.2.2.2.2.2.2.2.2.1 t1 ht1
      simp only [mm_up, u3, u1, true_and, and_true, false_and, and_false, and_self, if_true, if_false] <;> (repeat' split) <;> first | exact g0 | rfl | (exfalso; omega) | assumption | (congr 1; omega) | (simp_all; done),
    fun t1 ht1 k1 hk1 => by
      have g0 := hI.2.2.2.2.2.2.2.2.2.2.2.2.2.1 t1 ht1 k1 hk1
      simp only [mm_up, u3, u1, true_and, and_true, false_and, and_false, and_self, if_true, if_false] <;> (repeat' split) <;> first | exact g0 | rfl | (exfalso; omega) | assumption | (congr 1; omega) | (simp_all; done),
    fun t1 ht1 => by
      have g0 := hI.2.2.2.2.2.2.2.2.2.2.2.2.2.2.1 t1 ht1
      simp only [mm_up, u3, u1, true_and, and_true, false_and, and_false, and_self, if_true, if_false] <;> (repeat' split) <;> first | exact g0 | rfl | (exfalso; omega) | assumption | (congr 1; omega) | (simp_all; done),
    fun t1 ht1 => by
      have g0 := hI.2.2.2.2.2.2.2.2.2.2.2.2.2.2.2.1 t1 ht1
      simp only [mm_up, u3, u1, true_and, and_true, false_and, and_false, and_self, if_true, if_false] <;> (repeat' split) <;> first | exact g0 | rfl | (exfalso; omega) | assumption | (congr 1; omega) | (simp_all; done),
    fun t1 ht1 => by
      have g0 := hI.2.2.2.2.2.2.2.2.2.2.2.2.2.2.2.2.1 t1 ht1
      simp only [mm_up, u3, u1, true_and, and_true, false_and, and_false, and_self, if_true, if_false] <;> (repeat' split) <;> first | exact g0 | rfl | (exfalso; omega) | assumption | (congr 1; omega) | (simp_all; done),
    fun t1 ht1 => by
      have g0 := hI.2.2.2.2.2.2.2.2.2.2.2.2.2.2.2.2.2.1 t1 ht1
      simp only [mm_up, u3, u1, true_and, and_true, false_and, and_false, and_self, if_true, if_false] <;> (repeat' split) <;> first | exact g0 | rfl | (exfalso; omega) | assumption | (congr 1; omega) | (simp_all; done),
    fun t1 ht1 => by
      have g0 := hI.2.2.2.2.2.2.2.2.2.2.2.2.2.2.2.2.2.2.1 t1 ht1
      simp only [mm_up, u3, u1, true_and, and_true, false_and, and_false, and_self, if_true, if_false] <;> (repeat' split) <;> first | exact g0 | rfl | (exfalso; omega) | assumption | (congr 1; omega) | (simp_all; done),
    fun t1 ht1 => by
      have g0 := hI.2.2.2.2.2.2.2.2.2.2.2.2.2.2.2.2.2.2.2.1 t1 ht1
      simp only [mm_up, u3, u1, true_and, and_true, false_and, and_false, and_self, if_true, if_false] <;> (repeat' split) <;> first | exact g0 | rfl | (exfalso; omega) | assumption | (congr 1; omega) | (simp_all; done),
    by
      have g0 := hI.2.2.2.2.2.2.2.2.2.2.2.2.2.2.2.2.2.2.2.2.1
      simp only [mm_up, u3, u1, true_and, and_true, false_and, and_false, and_self, if_true, if_false] <;> (repeat' split) <;> first | exact g0 | rfl | (exfalso; omega) | assumption | (congr 1; omega) | (simp_all; done),
    by
      have g0 := hI.2.2.2.2.2.2.2.2.2.2.2.2.2.2.2.2.2.2.2.2.2.1
      simp only [mm_up, u3, u1, true_and, and_true, false_and, and_false, and_self, if_true, if_false] <;> (repeat' split) <;> first | exact g0 | rfl | (exfalso; omega) | assumption | (congr 1; omega) | (simp_all; done),
    fun i1 hi1 => by
      have g0 := hI.2.2.2.2.2.2.2.2.2.2.2.2.2.2.2.2.2.2.2.2.2.2.1 i1 hi1
      simp only [mm_up, u3, u1, true_and, and_true, false_and, and_false, and_self, if_true, if_false] <;> (repeat' split) <;> first | exact g0 | rfl | (exfalso; omega) | assumption | (congr 1; omega) | (simp_all; done),
    fun i1 hi1 => by
      have g0 := hI.2.2.2.2.2.2.2.2.2.2.2.2.2.2.2.2.2.2.2.2.2.2.2.1 i1 hi1
      simp only [mm_up, u3, u1, true_and, and_true, false_and, and_false, and_self, if_true, if_false] <;> (repeat' split) <;> first | exact g0 | rfl | (exfalso; omega) | assumption | (congr 1; omega) | (simp_all; done),
    fun i1 hi1 => by
      have g0 := hI.2.2.2.2.2.2.2.2.2.2.2.2.2.2.2.2.2.2.2.2.2.2.2.2.1 i1 hi1
      simp only [mm_up, u3, u1, true_and, and_true, false_and, and_false, and_self, if_true, if_false] <;> (repeat' split) <;> first | exact g0 | rfl | (exfalso; omega) | assumption | (congr 1; omega) | (simp_all; done),
    fun i1 hi1 => by
      have g0 := hI.2.2.2.2.2.2.2.2.2.2.2.2.2.2.2.2.2.2.2.2.2.2.2.2.2.1 i1 hi1
      simp only [mm_up, u3, u1, true_and, and_true, false_and, and_false, and_self, if_true, if_false] <;> (repeat' split) <;> first | exact g0 | rfl | (exfalso; omega) | assumption | (congr 1; omega) | (simp_all; done),
    fun i1 hi1 => by
      have g0 := hI.2.2.2.2.2.2.2.2.2.2.2.2.2.2.2.2.2.2.2.2.2.2.2.2.2.2.1 i1 hi1
      simp only [mm_up, u3, u1, true_and, and_true, false_and, and_false, and_self, if_true, if_false] <;> (repeat' split) <;> first | exact g0 | rfl | (exfalso; omega) | assumption | (congr 1; omega) | (simp_all; done),
    fun i1 hi1 => by
      have g0 := hI.2.2.2.2.2.2.2.2.2.2.2.2.2.2.2.2.2.2.2.2.2.2.2.2.2.2.2.1 i1 hi1
      simp only [mm_up, u3, u1, true_and, and_true, false_and, and_false, and_self, if_true, if_false] <;> (repeat' split) <;> first | exact g0 | rfl | (exfalso; omega) | assumption | (congr 1; omega) | (simp_all; done),
    fun i1 hi1 => by
      have g0 := hI.2.2.2.2.2.2.2.2.2.2.2.2.2.2.2.2.2.2.2.2.2.2.2.2.2.2.2.2.1 i1 hi1
      simp only [mm_up, u3, u1, true_and, and_true, false_and, and_false, and_self, if_true, if_false] <;> (repeat' split) <;> first | exact g0 | rfl | (exfalso; omega) | assumption | (congr 1; omega) | (simp_all; done),
    fun i1 hi1 => by
      have g0 := hI.2.2.2.2.2.2.2.2.2.2.2.2.2.2.2.2.2.2.2.2.2.2.2.2.2.2.2.2.2.1 i1 hi1
      simp only [mm_up, u3, u1, true_and, and_true, false_and, and_false, and_self, if_true, if_false] <;> (repeat' split) <;> first | exact g0 | rfl | (exfalso; omega) | assumption | (congr 1; omega) | (simp_all; done),
    fun i1 hi1 => by
      have g0 := hI.2.2.2.2.2.2.2.2.2.2.2.2.2.2.2.2.2.2.2.2.2.2.2.2.2.2.2.2.2.2 i1 hi1
      simp only [mm_up, u3, u1, true_and, and_true, false_and, and_false, and_self, if_true, if_false] <;> (repeat' split) <;> first | exact g0 | rfl | (exfalso; omega) | assumption | (congr 1; omega) | (simp_all; done)⟩,
   hX,
   hN,
   hS⟩
set_option maxHeartbeats 4000000 in
theorem MU_han {ci : Nat → Nat → Nat → Int32} {cn : Nat → Nat → Nat → Nat} {co : Nat → Option Nat} {xj : Nat → Nat → Nat → Int64} {xd : Nat → Nat → Nat → UInt64} {xf : Nat → Nat → Nat → UInt32} {xo : Nat → Nat → Nat → Option Nat} {xi : Nat → Nat → Nat → Int32} {xn : Nat → Nat → Nat → Nat} {I : Nat → Nat → Int32} {J : Nat → Nat → Int64} {D : Nat → Nat → UInt64} (h : RM ci cn co xj xd xf xo xi xn I J D) {p k f e l : Nat} {v : Int32} (hp : p < 6) (hk : cn 4 p 0 = k) (hk4 : k < 6) (h40 : ∀ p, p < 6 → cn 3 p 0 ≤ 40 ∧ cn 4 p 0 ≤ 6) : RM (u3 ci 9 p k v) (u3 (u3 (u3 (u3 cn 6 p k f) 7 p k e) 8 p k l) 4 p 0 (k + 1)) co xj xd xf xo xi xn (mm_up (mm_up (mm_up (mm_up (mm_up I 26 (6 * p + k) (nI f)) 27 (6 * p + k) (nI e)) 28 (6 * p + k) v) 29 (6 * p + k) (nI l)) 25 p (nI (k + 1))) J D := by
  have b0 := h40 0 (by decide)
  have b1 := h40 1 (by decide)
  have b2 := h40 2 (by decide)
  have b3 := h40 3 (by decide)
  have b4 := h40 4 (by decide)
  have b5 := h40 5 (by decide)
  obtain ⟨hJ, hD, hI⟩ := h
  exact ⟨hJ,
   hD,
   ⟨by
      have g0 := hI.1
      simp only [mm_up, u3, u1, true_and, and_true, false_and, and_false, and_self, if_true, if_false] <;> (repeat' split) <;> first | exact g0 | rfl | (exfalso; omega) | assumption | (congr 1; omega) | (simp_all; done),
    by
      have g0 := hI.2.1
      simp only [mm_up, u3, u1, true_and, and_true, false_and, and_false, and_self, if_true, if_false] <;> (repeat' split) <;> first | exact g0 | rfl | (exfalso; omega) | assumption | (congr 1; omega) | (simp_all; done),
    fun i1 hi1 => by
      have g0 := hI.2.2.1 i1 hi1
      simp only [mm_up, u3, u1, true_and, and_true, false_and, and_false, and_self, if_true, if_false] <;> (repeat' split) <;> first | exact g0 | rfl | (exfalso; omega) | assumption | (congr 1; omega) | (simp_all; done),
    fun i1 hi1 => by
      have g0 := hI.2.2.2.1 i1 hi1
      simp only [mm_up, u3, u1, true_and, and_true, false_and, and_false, and_self, if_true, if_false] <;> (repeat' split) <;> first | exact g0 | rfl | (exfalso; omega) | assumption | (congr 1; omega) | (simp_all; done),
    fun i1 hi1 => by
      have g0 := hI.2.2.2.2.1 i1 hi1
      simp only [mm_up, u3, u1, true_and, and_true, false_and, and_false, and_self, if_true, if_false] <;> (repeat' split) <;> first | exact g0 | rfl | (exfalso; omega) | assumption | (congr 1; omega) | (simp_all; done),
    fun i1 hi1 => by
      have g0 := hI.2.2.2.2.2.1 i1 hi1
      simp only [mm_up, u3, u1, true_and, and_true, false_and, and_false, and_self, if_true, if_false] <;> (repeat' split) <;> first | exact g0 | rfl | (exfalso; omega) | assumption | (congr 1; omega) | (simp_all; done),
    fun i1 hi1 => by
      have g0 := hI.2.2.2.2.2.2.1 i1 hi1
      simp only [mm_up, u3, u1, true_and, and_true, false_and, and_false, and_self, if_true, if_false] <;> (repeat' split) <;> first | exact g0 | rfl | (exfalso; omega) | assumption | (congr 1; omega) | (simp_all; done),
    fun i1 hi1 k1 hk1 => by
      have g0 := hI.2.2.2.2.2.2.2.1 i1 hi1 k1 hk1
      simp only [mm_up, u3, u1, true_and, and_true, false_and, and_false, and_self, if_true, if_false] <;> (repeat' split) <;> first | exact g0 | rfl | (exfalso; omega) | assumption | (congr 1; omega) | (simp_all; done),
    fun i1 hi1 => by
      have g0 := hI.2.2.2.2.2.2.2.2.1 i1 hi1
      simp only [mm_up, u3, u1, true_and, and_true, false_and, and_false, and_self, if_true, if_false] <;> (repeat' split) <;> first | exact g0 | rfl | (exfalso; omega) | assumption | (congr 1; omega) | (simp_all; done),
    fun i1 hi1 => by
      have g0 := hI.2.2.2.2.2.2.2.2.2.1 i1 hi1
      simp only [mm_up, u3, u1, true_and, and_true, false_and, and_false, and_self, if_true, if_false] <;> (repeat' split) <;> first | exact g0 | rfl | (exfalso; omega) | assumption | (congr 1; omega) | (simp_all; done),
    fun p1 hp1 => by
      have e8 := h40 p1 hp1
      have g0 := hI.2.2.2.2.2.2.2.2.2.2.1 p1 hp1
      simp only [mm_up, u3, u1, true_and, and_true, false_and, and_false, and_self, if_true, if_false] <;> (repeat' split) <;> first | exact g0 | rfl | (exfalso; omega) | assumption | (congr 1; omega) | (simp_all; done),
    fun p1 hp1 k1 hk1 => by
      have e8 := h40 p1 hp1
      have g0 := hI.2.2.2.2.2.2.2.2.2.2.2.1 p1 hp1 k1 hk1
      simp only [mm_up, u3, u1, true_and, and_true, false_and, and_false, and_self, if_true, if_false] <;> (repeat' split) <;> first | exact g0 | rfl | (exfalso; omega) | assumption | (congr 1; omega) | (simp_all; done),
    fun p1 hp1 k1 hk1 => by
      have e8 := h40 p1 hp1
      have g0 := hI.2.2.2.2.2.2.2.2.2.2.2.2.1 p1 hp1 k1 hk1
      simp only [mm_up, u3, u1, true_and, and_true, false_and, and_false, and_self, if_true, if_false] <;> (repeat' split) <;> first | exact g0 | rfl | (exfalso; omega) | assumption | (congr 1; omega) | (simp_all; done),
    fun p1 hp1 k1 hk1 => by
      have e8 := h40 p1 hp1
      have g0 := hI.2.2.2.2.2.2.2.2.2.2.2.2.2.1 p1 hp1 k1 hk1
      simp only [mm_up, u3, u1, true_and, and_true, false_and, and_false, and_self, if_true, if_false] <;> (repeat' split) <;> first | exact g0 | rfl | (exfalso; omega) | assumption | (congr 1; omega) | (simp_all; done),
    fun p1 hp1 k1 hk1 => by
      have e8 := h40 p1 hp1
      have g0 := hI.2.2.2.2.2.2.2.2.2.2.2.2.2.2.1 p1 hp1 k1 hk1
      simp only [mm_up, u3, u1, true_and, and_true, false_and, and_false, and_self, if_true, if_false] <;> (repeat' split) <;> first | exact g0 | rfl | (exfalso; omega) | assumption | (congr 1; omega) | (simp_all; done),
    fun p1 hp1 => by
      have e8 := h40 p1 hp1
      have g0 := hI.2.2.2.2.2.2.2.2.2.2.2.2.2.2.2.1 p1 hp1
      simp only [mm_up, u3, u1, true_and, and_true, false_and, and_false, and_self, if_true, if_false] <;> (repeat' split) <;> first | exact g0 | rfl | (exfalso; omega) | assumption | (congr 1; omega) | (simp_all; done),
    fun p1 hp1 k1 hk1 => by
      have e8 := h40 p1 hp1
      by_cases q9 : p1 = p
      · subst q9
        have hk2 : k1 < k + 1 := by simpa [u3] using hk1
        by_cases q8 : k1 = k
        · subst q8; have g0 := trivial
          simp only [mm_up, u3, u1, true_and, and_true, false_and, and_false, and_self, if_true, if_false] <;> (repeat' split) <;> first | exact g0 | rfl | (exfalso; omega) | assumption | (congr 1; omega) | (simp_all; done)
        · have hk3 : k1 < cn 4 p1 0 := (by omega)
          have g0 := hI.2.2.2.2.2.2.2.2.2.2.2.2.2.2.2.2.1 p1 hp1 k1 hk3
          simp only [mm_up, u3, u1, true_and, and_true, false_and, and_false, and_self, if_true, if_false] <;> (repeat' split) <;> first | exact g0 | rfl | (exfalso; omega) | assumption | (congr 1; omega) | (simp_all; done)
      · have hk2 : k1 < cn 4 p1 0 := by simpa [u3, q9] using hk1
        have g0 := hI.2.2.2.2.2.2.2.2.2.2.2.2.2.2.2.2.1 p1 hp1 k1 hk2
        simp only [mm_up, u3, u1, true_and, and_true, false_and, and_false, and_self, if_true, if_false] <;> (repeat' split) <;> first | exact g0 | rfl | (exfalso; omega) | assumption | (congr 1; omega) | (simp_all; done),
    fun p1 hp1 k1 hk1 => by
      have e8 := h40 p1 hp1
      by_cases q9 : p1 = p
      · subst q9
        have hk2 : k1 < k + 1 := by simpa [u3] using hk1
        by_cases q8 : k1 = k
        · subst q8; have g0 := trivial
          simp only [mm_up, u3, u1, true_and, and_true, false_and, and_false, and_self, if_true, if_false] <;> (repeat' split) <;> first | exact g0 | rfl | (exfalso; omega) | assumption | (congr 1; omega) | (simp_all; done)
        · have hk3 : k1 < cn 4 p1 0 := (by omega)
          have g0 := hI.2.2.2.2.2.2.2.2.2.2.2.2.2.2.2.2.2.1 p1 hp1 k1 hk3
          simp only [mm_up, u3, u1, true_and, and_true, false_and, and_false, and_self, if_true, if_false] <;> (repeat' split) <;> first | exact g0 | rfl | (exfalso; omega) | assumption | (congr 1; omega) | (simp_all; done)
      · have hk2 : k1 < cn 4 p1 0 := by simpa [u3, q9] using hk1
        have g0 := hI.2.2.2.2.2.2.2.2.2.2.2.2.2.2.2.2.2.1 p1 hp1 k1 hk2
        simp only [mm_up, u3, u1, true_and, and_true, false_and, and_false, and_self, if_true, if_false] <;> (repeat' split) <;> first | exact g0 | rfl | (exfalso; omega) | assumption | (congr 1; omega) | (simp_all; done),
    fun p1 hp1 k1 hk1 => by
      have e8 := h40 p1 hp1
      by_cases q9 : p1 = p
      · subst q9
        have hk2 : k1 < k + 1 := by simpa [u3] using hk1
        by_cases q8 : k1 = k
        · subst q8; have g0 := trivial
          simp only [mm_up, u3, u1, true_and, and_true, false_and, and_false, and_self, if_true, if_false] <;> (repeat' split) <;> first | exact g0 | rfl | (exfalso; omega) | assumption | (congr 1; omega) | (simp_all; done)
        · have hk3 : k1 < cn 4 p1 0 := (by omega)
          have g0 := hI.2.2.2.2.2.2.2.2.2.2.2.2.2.2.2.2.2.2.1 p1 hp1 k1 hk3
          simp only [mm_up, u3, u1, true_and, and_true, false_and, and_false, and_self, if_true, if_false] <;> (repeat' split) <;> first | exact g0 | rfl | (exfalso; omega) | assumption | (congr 1; omega) | (simp_all; done)
      · have hk2 : k1 < cn 4 p1 0 := by simpa [u3, q9] using hk1
        have g0 := hI.2.2.2.2.2.2.2.2.2.2.2.2.2.2.2.2.2.2.1 p1 hp1 k1 hk2
        simp only [mm_up, u3, u1, true_and, and_true, false_and, and_false, and_self, if_true, if_false] <;> (repeat' split) <;> first | exact g0 | rfl | (exfalso; omega) | assumption | (congr 1; omega) | (simp_all; done),
    fun p1 hp1 k1 hk1 => by
      have e8 := h40 p1 hp1
      by_cases q9 : p1 = p
      · subst q9
        have hk2 : k1 < k + 1 := by simpa [u3] using hk1
        by_cases q8 : k1 = k
        · subst q8; have g0 := trivial
          simp only [mm_up, u3, u1, true_and, and_true, false_and, and_false, and_self, if_true, if_false] <;> (repeat' split) <;> first | exact g0 | rfl | (exfalso; omega) | assumption | (congr 1; omega) | (simp_all; done)
        · have hk3 : k1 < cn 4 p1 0 := (by omega)
          have g0 := hI.2.2.2.2.2.2.2.2.2.2.2.2.2.2.2.2.2.2.2.1 p1 hp1 k1 hk3
          simp only [mm_up, u3, u1, true_and, and_true, false_and, and_false, and_self, if_true, if_false] <;> (repeat' split) <;> first | exact g0 | rfl | (exfalso; omega) | assumption | (congr 1; omega) | (simp_all; done)
      · have hk2 : k1 < cn 4 p1 0 := by simpa [u3, q9] using hk1
        have g0 := hI.2.2.2.2.2.2.2.2.2.2.2.2.2.2.2.2.2.2.2.1 p1 hp1 k1 hk2
        simp only [mm_up, u3, u1, true_and, and_true, false_and, and_false, and_self, if_true, if_false] <;> (repeat' split) <;> first | exact g0 | rfl | (exfalso; omega) | assumption | (congr 1; omega) | (simp_all; done),
    fun t1 ht1 k1 hk1 => by
      have g0 := hI.2.2.2.2.2.2.2.2.2.2.2.2.2.2.2.2.2.2.2.2.1 t1 ht1 k1 hk1
      simp only [mm_up, u3, u1, true_and, and_true, false_and, and_false, and_self, if_true, if_false] <;> (repeat' split) <;> first | exact g0 | rfl | (exfalso; omega) | assumption | (congr 1; omega) | (simp_all; done),
    fun t1 ht1 => by
      have g0 := hI.2.2.2.2.2.2.2.2.2.2.2.2.2.2.2.2.2.2.2.2.2.1 t1 ht1
      simp only [mm_up, u3, u1, true_and, and_true, false_and, and_false, and_self, if_true, if_false] <;> (repeat' split) <;> first | exact g0 | rfl | (exfalso; omega) | assumption | (congr 1; omega) | (simp_all; done),
    fun t1 ht1 => by
      have g0 := hI.2.2.2.2.2.2.2.2.2.2.2.2.2.2.2.2.2.2.2.2.2.2.1 t1 ht1
      simp only [mm_up, u3, u1, true_and, and_true, false_and, and_false, and_self, if_true, if_false] <;> (repeat' split) <;> first | exact g0 | rfl | (exfalso; omega) | assumption | (congr 1; omega) | (simp_all; done),
    fun t1 ht1 k1 hk1 => by
      have g0 := hI.2.2.2.2.2.2.2.2.2.2.2.2.2.2.2.2.2.2.2.2.2.2.2.1 t1 ht1 k1 hk1
      simp only [mm_up, u3, u1, true_and, and_true, false_and, and_false, and_self, if_true, if_false] <;> (repeat' split) <;> first | exact g0 | rfl | (exfalso; omega) | assumption | (congr 1; omega) | (simp_all; done),
    fun t1 ht1 k1 hk1 => by
      have g0 := hI.2.2.2.2.2.2.2.2.2.2.2.2.2.2.2.2.2.2.2.2.2.2.2.2.1 t1 ht1 k1 hk1
      simp only [mm_up, u3, u1, true_and, and_true, false_and, and_false, and_self, if_true, if_false] <;> (repeat' split) <;> first | exact g0 | rfl | (exfalso; omega) | assumption | (congr 1; omega) | (simp_all; done),
    fun t1 ht1 => by
      have g0 := hI.2.2.2.2.2.2.2.2.2.2.2.2.2.2.2.2.2.2.2.2.2.2.2.2.2.1 t1 ht1
      simp only [mm_up, u3, u1, true_and, and_true, false_and, and_false, and_self, if_true, if_false] <;> (repeat' split) <;> first | exact g0 | rfl | (exfalso; omega) | assumption | (congr 1; omega) | (simp_all; done),
    fun t1 ht1 => by
      have g0 := hI.2.2.2.2.2.2.2.2.2.2.2.2.2.2.2.2.2.2.2.2.2.2.2.2.2.2.1 t1 ht1
      simp only [mm_up, u3, u1, true_and, and_true, false_and, and_false, and_self, if_true, if_false] <;> (repeat' split) <;> first | exact g0 | rfl | (exfalso; omega) | assumption | (congr 1; omega) | (simp_all; done),
    fun t1 ht1 => by
      have g0 := hI.2.2.2.2.2.2.2.2.2.2.2.2.2.2.2.2.2.2.2.2.2.2.2.2.2.2.2.1 t1 ht1
      simp only [mm_up, u3, u1, true_and, and_true, false_and, and_false, and_self, if_true, if_false] <;> (repeat' split) <;> first | exact g0 | rfl | (exfalso; omega) | assumption | (congr 1; omega) | (simp_all; done),
    fun t1 ht1 => by
      have g0 := hI.2.2.2.2.2.2.2.2.2.2.2.2.2.2.2.2.2.2.2.2.2.2.2.2.2.2.2.2.1 t1 ht1
      simp only [mm_up, u3, u1, true_and, and_true, false_and, and_false, and_self, if_true, if_false] <;> (repeat' split) <;> first | exact g0 | rfl | (exfalso; omega) | assumption | (congr 1; omega) | (simp_all; done),
    fun t1 ht1 => by
      have g0 := hI.2.2.2.2.2.2.2.2.2.2.2.2.2.2.2.2.2.2.2.2.2.2.2.2.2.2.2.2.2.1 t1 ht1
      simp only [mm_up, u3, u1, true_and, and_true, false_and, and_false, and_self, if_true, if_false] <;> (repeat' split) <;> first | exact g0 | rfl | (exfalso; omega) | assumption | (congr 1; omega) | (simp_all; done),
    fun t1 ht1 => by
      have g0 := hI.2.2.2.2.2.2.2.2.2.2.2.2.2.2.2.2.2.2.2.2.2.2.2.2.2.2.2.2.2.2 t1 ht1
      simp only [mm_up, u3, u1, true_and, and_true, false_and, and_false, and_self, if_true, if_false] <;> (repeat' split) <;> first | exact g0 | rfl | (exfalso; omega) | assumption | (congr 1; omega) | (simp_all; done)⟩⟩
set_option maxHeartbeats 4000000 in
theorem CU_emp {ci : Nat → Nat → Nat → Int32} {cn : Nat → Nat → Nat → Nat} {co : Nat → Option Nat} {xj : Nat → Nat → Nat → Int64} {xd : Nat → Nat → Nat → UInt64} {xf : Nat → Nat → Nat → UInt32} {xo : Nat → Nat → Nat → Option Nat} {xi : Nat → Nat → Nat → Int32} {xn : Nat → Nat → Nat → Nat} {I : Nat → Nat → Int32} {J : Nat → Nat → Int64} {F : Nat → Nat → UInt32} {D : Nat → Nat → UInt64} {R : Nat → Nat → Option Nat} {nx sl : Nat} (h : RC ci cn co xj xd xf xo xi xn I J F D R nx sl) {p : Nat} (hp : p < 6) : RC ci (u3 (u3 cn 3 p 0 0) 4 p 0 0) co xj xd xf xo xi xn (mm_up (mm_up I (14 + 3 * p) 1 (nI 0)) (14 + 3 * p) 2 (nI 0)) J F D R nx sl := by
  obtain ⟨hJ, hD, hF, hR, hI, hX, hN, hS⟩ := h
  exact ⟨hJ,
   hD,
   hF,
   ⟨hR.1,
    hR.2.1,
    hR.2.2.1,
    hR.2.2.2.1,
    hR.2.2.2.2.1,
    fun t1 ht1 k1 hk1 => by
      have g0 := hR.2.2.2.2.2.1 t1 ht1 k1 hk1
      simp only [mm_up, u3, u1, true_and, and_true, false_and, and_false, and_self, if_true, if_false] <;> (repeat' split) <;> first | exact g0 | rfl | (exfalso; omega) | assumption | (congr 1; omega) | (simp_all; done),
    hR.2.2.2.2.2.2.1,
    hR.2.2.2.2.2.2.2.1,
    hR.2.2.2.2.2.2.2.2.1,
    hR.2.2.2.2.2.2.2.2.2⟩,
   ⟨fun p1 hp1 => by
      have g0 := hI.1 p1 hp1
      simp only [mm_up, u3, u1, true_and, and_true, false_and, and_false, and_self, if_true, if_false] <;> (repeat' split) <;> first | exact g0 | rfl | (exfalso; omega) | assumption | (congr 1; omega) | (simp_all; done),
    fun p1 hp1 => by
      have g0 := hI.2.1 p1 hp1
      simp only [mm_up, u3, u1, true_and, and_true, false_and, and_false, and_self, if_true, if_false] <;> (repeat' split) <;> first | exact g0 | rfl | (exfalso; omega) | assumption | (congr 1; omega) | (simp_all; done),
    fun p1 hp1 => by
      have g0 := hI.2.2.1 p1 hp1
      simp only [mm_up, u3, u1, true_and, and_true, false_and, and_false, and_self, if_true, if_false] <;> (repeat' split) <;> first | exact g0 | rfl | (exfalso; omega) | assumption | (congr 1; omega) | (simp_all; done),
    fun p1 hp1 k1 hk1 => by
      by_cases q9 : p1 = p
      · subst q9
        have hk2 : k1 < 0 := by simpa [u3] using hk1
        have hk3 : k1 < cn 3 p1 0 := (by omega)
        have g0 := hI.2.2.2.1 p1 hp1 k1 hk3
        simp only [mm_up, u3, u1, true_and, and_true, false_and, and_false, and_self, if_true, if_false] <;> (repeat' split) <;> first | exact g0 | rfl | (exfalso; omega) | assumption | (congr 1; omega) | (simp_all; done)
      · have hk2 : k1 < cn 3 p1 0 := by simpa [u3, q9] using hk1
        have g0 := hI.2.2.2.1 p1 hp1 k1 hk2
        simp only [mm_up, u3, u1, true_and, and_true, false_and, and_false, and_self, if_true, if_false] <;> (repeat' split) <;> first | exact g0 | rfl | (exfalso; omega) | assumption | (congr 1; omega) | (simp_all; done),
    fun p1 hp1 k1 hk1 => by
      by_cases q9 : p1 = p
      · subst q9
        have hk2 : k1 < 0 := by simpa [u3] using hk1
        have hk3 : k1 < cn 3 p1 0 := (by omega)
        have g0 := hI.2.2.2.2.1 p1 hp1 k1 hk3
        simp only [mm_up, u3, u1, true_and, and_true, false_and, and_false, and_self, if_true, if_false] <;> (repeat' split) <;> first | exact g0 | rfl | (exfalso; omega) | assumption | (congr 1; omega) | (simp_all; done)
      · have hk2 : k1 < cn 3 p1 0 := by simpa [u3, q9] using hk1
        have g0 := hI.2.2.2.2.1 p1 hp1 k1 hk2
        simp only [mm_up, u3, u1, true_and, and_true, false_and, and_false, and_self, if_true, if_false] <;> (repeat' split) <;> first | exact g0 | rfl | (exfalso; omega) | assumption | (congr 1; omega) | (simp_all; done),
    fun p1 hp1 k1 hk1 => by
      by_cases q9 : p1 = p
      · subst q9
        have hk2 : k1 < 0 := by simpa [u3] using hk1
        have hk3 : k1 < cn 3 p1 0 := (by omega)
        have g0 := hI.2.2.2.2.2.1 p1 hp1 k1 hk3
        simp only [mm_up, u3, u1, true_and, and_true, false_and, and_false, and_self, if_true, if_false] <;> (repeat' split) <;> first | exact g0 | rfl | (exfalso; omega) | assumption | (congr 1; omega) | (simp_all; done)
      · have hk2 : k1 < cn 3 p1 0 := by simpa [u3, q9] using hk1
        have g0 := hI.2.2.2.2.2.1 p1 hp1 k1 hk2
        simp only [mm_up, u3, u1, true_and, and_true, false_and, and_false, and_self, if_true, if_false] <;> (repeat' split) <;> first | exact g0 | rfl | (exfalso; omega) | assumption | (congr 1; omega) | (simp_all; done),
    fun p1 hp1 k1 hk1 => by
      by_cases q9 : p1 = p
      · subst q9
        have hk2 : k1 < 0 := by simpa [u3] using hk1
        have hk3 : k1 < cn 3 p1 0 := (by omega)
        have g0 := hI.2.2.2.2.2.2.1 p1 hp1 k1 hk3
        simp only [mm_up, u3, u1, true_and, and_true, false_and, and_false, and_self, if_true, if_false] <;> (repeat' split) <;> first | exact g0 | rfl | (exfalso; omega) | assumption | (congr 1; omega) | (simp_all; done)
      · have hk2 : k1 < cn 3 p1 0 := by simpa [u3, q9] using hk1
        have g0 := hI.2.2.2.2.2.2.1 p1 hp1 k1 hk2
        simp only [mm_up, u3, u1, true_and, and_true, false_and, and_false, and_self, if_true, if_false] <;> (repeat' split) <;> first | exact g0 | rfl | (exfalso; omega) | assumption | (congr 1; omega) | (simp_all; done),
    fun p1 hp1 k1 hk1 => by
      by_cases q9 : p1 = p
      · subst q9
        have hk2 : k1 < 0 := by simpa [u3] using hk1
        have hk3 : k1 < cn 4 p1 0 := (by omega)
        have g0 := hI.2.2.2.2.2.2.2.1 p1 hp1 k1 hk3
        simp only [mm_up, u3, u1, true_and, and_true, false_and, and_false, and_self, if_true, if_false] <;> (repeat' split) <;> first | exact g0 | rfl | (exfalso; omega) | assumption | (congr 1; omega) | (simp_all; done)
      · have hk2 : k1 < cn 4 p1 0 := by simpa [u3, q9] using hk1
        have g0 := hI.2.2.2.2.2.2.2.1 p1 hp1 k1 hk2
        simp only [mm_up, u3, u1, true_and, and_true, false_and, and_false, and_self, if_true, if_false] <;> (repeat' split) <;> first | exact g0 | rfl | (exfalso; omega) | assumption | (congr 1; omega) | (simp_all; done),
    fun p1 hp1 k1 hk1 => by
      by_cases q9 : p1 = p
      · subst q9
        have hk2 : k1 < 0 := by simpa [u3] using hk1
        have hk3 : k1 < cn 4 p1 0 := (by omega)
        have g0 := hI.2.2.2.2.2.2.2.2.1 p1 hp1 k1 hk3
        simp only [mm_up, u3, u1, true_and, and_true, false_and, and_false, and_self, if_true, if_false] <;> (repeat' split) <;> first | exact g0 | rfl | (exfalso; omega) | assumption | (congr 1; omega) | (simp_all; done)
      · have hk2 : k1 < cn 4 p1 0 := by simpa [u3, q9] using hk1
        have g0 := hI.2.2.2.2.2.2.2.2.1 p1 hp1 k1 hk2
        simp only [mm_up, u3, u1, true_and, and_true, false_and, and_false, and_self, if_true, if_false] <;> (repeat' split) <;> first | exact g0 | rfl | (exfalso; omega) | assumption | (congr 1; omega) | (simp_all; done),
    fun p1 hp1 k1 hk1 => by
      by_cases q9 : p1 = p
      · subst q9
        have hk2 : k1 < 0 := by simpa [u3] using hk1
        have hk3 : k1 < cn 4 p1 0 := (by omega)
        have g0 := hI.2.2.2.2.2.2.2.2.2.1 p1 hp1 k1 hk3
        simp only [mm_up, u3, u1, true_and, and_true, false_and, and_false, and_self, if_true, if_false] <;> (repeat' split) <;> first | exact g0 | rfl | (exfalso; omega) | assumption | (congr 1; omega) | (simp_all; done)
      · have hk2 : k1 < cn 4 p1 0 := by simpa [u3, q9] using hk1
        have g0 := hI.2.2.2.2.2.2.2.2.2.1 p1 hp1 k1 hk2
        simp only [mm_up, u3, u1, true_and, and_true, false_and, and_false, and_self, if_true, if_false] <;> (repeat' split) <;> first | exact g0 | rfl | (exfalso; omega) | assumption | (congr 1; omega) | (simp_all; done),
    fun p1 hp1 k1 hk1 => by
      by_cases q9 : p1 = p
      · subst q9
        have hk2 : k1 < 0 := by simpa [u3] using hk1
        have hk3 : k1 < cn 4 p1 0 := (by omega)
        have g0 := hI.2.2.2.2.2.2.2.2.2.2.1 p1 hp1 k1 hk3
        simp only [mm_up, u3, u1, true_and, and_true, false_and, and_false, and_self, if_true, if_false] <;> (repeat' split) <;> first | exact g0 | rfl | (exfalso; omega) | assumption | (congr 1; omega) | (simp_all; done)
      · have hk2 : k1 < cn 4 p1 0 := by simpa [u3, q9] using hk1
        have g0 := hI.2.2.2.2.2.2.2.2.2.2.1 p1 hp1 k1 hk2
        simp only [mm_up, u3, u1, true_and, and_true, false_and, and_false, and_self, if_true, if_false] <;> (repeat' split) <;> first | exact g0 | rfl | (exfalso; omega) | assumption | (congr 1; omega) | (simp_all; done),
    fun t1 ht1 => by
      have g0 := hI.2.2.2.2.2.2.2.2.2.2.2.1 t1 ht1
      simp only [mm_up, u3, u1, true_and, and_true, false_and, and_false, and_self, if_true, if_false] <;> (repeat' split) <;> first | exact g0 | rfl | (exfalso; omega) | assumption | (congr 1; omega) | (simp_all; done),
    fun t1 ht1 => by
      have g0 := hI.2.2.2.2.2.2.2.2.2.2.2.2.1 t1 ht1
      simp only [mm_up, u3, u1, true_and, and_true, false_and, and_false, and_self, if_true, if_false] <;> (repeat' split) <;> first | exact g0 | rfl | (exfalso; omega) | assumption | (congr 1; omega) | (simp_all; done),
    fun t1 ht1 k1 hk1 => by
      have g0 := hI.2.2.2.2.2.2.2.2.2.2.2.2.2.1 t1 ht1 k1 hk1
      simp only [mm_up, u3, u1, true_and, and_true, false_and, and_false, and_self, if_true, if_false] <;> (repeat' split) <;> first | exact g0 | rfl | (exfalso; omega) | assumption | (congr 1; omega) | (simp_all; done),
    fun t1 ht1 => by
      have g0 := hI.2.2.2.2.2.2.2.2.2.2.2.2.2.2.1 t1 ht1
      simp only [mm_up, u3, u1, true_and, and_true, false_and, and_false, and_self, if_true, if_false] <;> (repeat' split) <;> first | exact g0 | rfl | (exfalso; omega) | assumption | (congr 1; omega) | (simp_all; done),
    fun t1 ht1 => by
      have g0 := hI.2.2.2.2.2.2.2.2.2.2.2.2.2.2.2.1 t1 ht1
      simp only [mm_up, u3, u1, true_and, and_true, false_and, and_false, and_self, if_true, if_false] <;> (repeat' split) <;> first | exact g0 | rfl | (exfalso; omega) | assumption | (congr 1; omega) | (simp_all; done),
    fun t1 ht1 => by
      have g0 := hI.2.2.2.2.2.2.2.2.2.2.2.2.2.2.2.2.1 t1 ht1
      simp only [mm_up, u3, u1, true_and, and_true, false_and, and_false, and_self, if_true, if_false] <;> (repeat' split) <;> first | exact g0 | rfl | (exfalso; omega) | assumption | (congr 1; omega) | (simp_all; done),
    fun t1 ht1 => by
      have g0 := hI.2.2.2.2.2.2.2.2.2.2.2.2.2.2.2.2.2.1 t1 ht1
      simp only [mm_up, u3, u1, true_and, and_true, false_and, and_false, and_self, if_true, if_false] <;> (repeat' split) <;> first | exact g0 | rfl | (exfalso; omega) | assumption | (congr 1; omega) | (simp_all; done),
    fun t1 ht1 => by
      have g0 := hI.2.2.2.2.2.2.2.2.2.2.2.2.2.2.2.2.2.2.1 t1 ht1
      simp only [mm_up, u3, u1, true_and, and_true, false_and, and_false, and_self, if_true, if_false] <;> (repeat' split) <;> first | exact g0 | rfl | (exfalso; omega) | assumption | (congr 1; omega) | (simp_all; done),
    fun t1 ht1 => by
      have g0 := hI.2.2.2.2.2.2.2.2.2.2.2.2.2.2.2.2.2.2.2.1 t1 ht1
      simp only [mm_up, u3, u1, true_and, and_true, false_and, and_false, and_self, if_true, if_false] <;> (repeat' split) <;> first | exact g0 | rfl | (exfalso; omega) | assumption | (congr 1; omega) | (simp_all; done),
    by
      have g0 := hI.2.2.2.2.2.2.2.2.2.2.2.2.2.2.2.2.2.2.2.2.1
      simp only [mm_up, u3, u1, true_and, and_true, false_and, and_false, and_self, if_true, if_false] <;> (repeat' split) <;> first | exact g0 | rfl | (exfalso; omega) | assumption | (congr 1; omega) | (simp_all; done),
    by
      have g0 := hI.2.2.2.2.2.2.2.2.2.2.2.2.2.2.2.2.2.2.2.2.2.1
      simp only [mm_up, u3, u1, true_and, and_true, false_and, and_false, and_self, if_true, if_false] <;> (repeat' split) <;> first | exact g0 | rfl | (exfalso; omega) | assumption | (congr 1; omega) | (simp_all; done),
    fun i1 hi1 => by
      have g0 := hI.2.2.2.2.2.2.2.2.2.2.2.2.2.2.2.2.2.2.2.2.2.2.1 i1 hi1
      simp only [mm_up, u3, u1, true_and, and_true, false_and, and_false, and_self, if_true, if_false] <;> (repeat' split) <;> first | exact g0 | rfl | (exfalso; omega) | assumption | (congr 1; omega) | (simp_all; done),
    fun i1 hi1 => by
      have g0 := hI.2.2.2.2.2.2.2.2.2.2.2.2.2.2.2.2.2.2.2.2.2.2.2.1 i1 hi1
      simp only [mm_up, u3, u1, true_and, and_true, false_and, and_false, and_self, if_true, if_false] <;> (repeat' split) <;> first | exact g0 | rfl | (exfalso; omega) | assumption | (congr 1; omega) | (simp_all; done),
    fun i1 hi1 => by
      have g0 := hI.2.2.2.2.2.2.2.2.2.2.2.2.2.2.2.2.2.2.2.2.2.2.2.2.1 i1 hi1
      simp only [mm_up, u3, u1, true_and, and_true, false_and, and_false, and_self, if_true, if_false] <;> (repeat' split) <;> first | exact g0 | rfl | (exfalso; omega) | assumption | (congr 1; omega) | (simp_all; done),
    fun i1 hi1 => by
      have g0 := hI.2.2.2.2.2.2.2.2.2.2.2.2.2.2.2.2.2.2.2.2.2.2.2.2.2.1 i1 hi1
      simp only [mm_up, u3, u1, true_and, and_true, false_and, and_false, and_self, if_true, if_false] <;> (repeat' split) <;> first | exact g0 | rfl | (exfalso; omega) | assumption | (congr 1; omega) | (simp_all; done),
    fun i1 hi1 => by
      have g0 := hI.2.2.2.2.2.2.2.2.2.2.2.2.2.2.2.2.2.2.2.2.2.2.2.2.2.2.1 i1 hi1
      simp only [mm_up, u3, u1, true_and, and_true, false_and, and_false, and_self, if_true, if_false] <;> (repeat' split) <;> first | exact g0 | rfl | (exfalso; omega) | assumption | (congr 1; omega) | (simp_all; done),
    fun i1 hi1 => by
      have g0 := hI.2.2.2.2.2.2.2.2.2.2.2.2.2.2.2.2.2.2.2.2.2.2.2.2.2.2.2.1 i1 hi1
      simp only [mm_up, u3, u1, true_and, and_true, false_and, and_false, and_self, if_true, if_false] <;> (repeat' split) <;> first | exact g0 | rfl | (exfalso; omega) | assumption | (congr 1; omega) | (simp_all; done),
    fun i1 hi1 => by
      have g0 := hI.2.2.2.2.2.2.2.2.2.2.2.2.2.2.2.2.2.2.2.2.2.2.2.2.2.2.2.2.1 i1 hi1
      simp only [mm_up, u3, u1, true_and, and_true, false_and, and_false, and_self, if_true, if_false] <;> (repeat' split) <;> first | exact g0 | rfl | (exfalso; omega) | assumption | (congr 1; omega) | (simp_all; done),
    fun i1 hi1 => by
      have g0 := hI.2.2.2.2.2.2.2.2.2.2.2.2.2.2.2.2.2.2.2.2.2.2.2.2.2.2.2.2.2.1 i1 hi1
      simp only [mm_up, u3, u1, true_and, and_true, false_and, and_false, and_self, if_true, if_false] <;> (repeat' split) <;> first | exact g0 | rfl | (exfalso; omega) | assumption | (congr 1; omega) | (simp_all; done),
    fun i1 hi1 => by
      have g0 := hI.2.2.2.2.2.2.2.2.2.2.2.2.2.2.2.2.2.2.2.2.2.2.2.2.2.2.2.2.2.2 i1 hi1
      simp only [mm_up, u3, u1, true_and, and_true, false_and, and_false, and_self, if_true, if_false] <;> (repeat' split) <;> first | exact g0 | rfl | (exfalso; omega) | assumption | (congr 1; omega) | (simp_all; done)⟩,
   hX,
   hN,
   hS⟩
set_option maxHeartbeats 4000000 in
theorem MU_emp {ci : Nat → Nat → Nat → Int32} {cn : Nat → Nat → Nat → Nat} {co : Nat → Option Nat} {xj : Nat → Nat → Nat → Int64} {xd : Nat → Nat → Nat → UInt64} {xf : Nat → Nat → Nat → UInt32} {xo : Nat → Nat → Nat → Option Nat} {xi : Nat → Nat → Nat → Int32} {xn : Nat → Nat → Nat → Nat} {I : Nat → Nat → Int32} {J : Nat → Nat → Int64} {D : Nat → Nat → UInt64} (h : RM ci cn co xj xd xf xo xi xn I J D) {p : Nat} (hp : p < 6) : RM ci (u3 (u3 cn 3 p 0 0) 4 p 0 0) co xj xd xf xo xi xn (mm_up (mm_up I 20 p (nI 0)) 25 p (nI 0)) J D := by
  obtain ⟨hJ, hD, hI⟩ := h
  exact ⟨hJ,
   hD,
   ⟨by
      have g0 := hI.1
      simp only [mm_up, u3, u1, true_and, and_true, false_and, and_false, and_self, if_true, if_false] <;> (repeat' split) <;> first | exact g0 | rfl | (exfalso; omega) | assumption | (congr 1; omega) | (simp_all; done),
    by
      have g0 := hI.2.1
      simp only [mm_up, u3, u1, true_and, and_true, false_and, and_false, and_self, if_true, if_false] <;> (repeat' split) <;> first | exact g0 | rfl | (exfalso; omega) | assumption | (congr 1; omega) | (simp_all; done),
    fun i1 hi1 => by
      have g0 := hI.2.2.1 i1 hi1
      simp only [mm_up, u3, u1, true_and, and_true, false_and, and_false, and_self, if_true, if_false] <;> (repeat' split) <;> first | exact g0 | rfl | (exfalso; omega) | assumption | (congr 1; omega) | (simp_all; done),
    fun i1 hi1 => by
      have g0 := hI.2.2.2.1 i1 hi1
      simp only [mm_up, u3, u1, true_and, and_true, false_and, and_false, and_self, if_true, if_false] <;> (repeat' split) <;> first | exact g0 | rfl | (exfalso; omega) | assumption | (congr 1; omega) | (simp_all; done),
    fun i1 hi1 => by
      have g0 := hI.2.2.2.2.1 i1 hi1
      simp only [mm_up, u3, u1, true_and, and_true, false_and, and_false, and_self, if_true, if_false] <;> (repeat' split) <;> first | exact g0 | rfl | (exfalso; omega) | assumption | (congr 1; omega) | (simp_all; done),
    fun i1 hi1 => by
      have g0 := hI.2.2.2.2.2.1 i1 hi1
      simp only [mm_up, u3, u1, true_and, and_true, false_and, and_false, and_self, if_true, if_false] <;> (repeat' split) <;> first | exact g0 | rfl | (exfalso; omega) | assumption | (congr 1; omega) | (simp_all; done),
    fun i1 hi1 => by
      have g0 := hI.2.2.2.2.2.2.1 i1 hi1
      simp only [mm_up, u3, u1, true_and, and_true, false_and, and_false, and_self, if_true, if_false] <;> (repeat' split) <;> first | exact g0 | rfl | (exfalso; omega) | assumption | (congr 1; omega) | (simp_all; done),
    fun i1 hi1 k1 hk1 => by
      have g0 := hI.2.2.2.2.2.2.2.1 i1 hi1 k1 hk1
      simp only [mm_up, u3, u1, true_and, and_true, false_and, and_false, and_self, if_true, if_false] <;> (repeat' split) <;> first | exact g0 | rfl | (exfalso; omega) | assumption | (congr 1; omega) | (simp_all; done),
    fun i1 hi1 => by
      have g0 := hI.2.2.2.2.2.2.2.2.1 i1 hi1
      simp only [mm_up, u3, u1, true_and, and_true, false_and, and_false, and_self, if_true, if_false] <;> (repeat' split) <;> first | exact g0 | rfl | (exfalso; omega) | assumption | (congr 1; omega) | (simp_all; done),
    fun i1 hi1 => by
      have g0 := hI.2.2.2.2.2.2.2.2.2.1 i1 hi1
      simp only [mm_up, u3, u1, true_and, and_true, false_and, and_false, and_self, if_true, if_false] <;> (repeat' split) <;> first | exact g0 | rfl | (exfalso; omega) | assumption | (congr 1; omega) | (simp_all; done),
    fun p1 hp1 => by
      have g0 := hI.2.2.2.2.2.2.2.2.2.2.1 p1 hp1
      simp only [mm_up, u3, u1, true_and, and_true, false_and, and_false, and_self, if_true, if_false] <;> (repeat' split) <;> first | exact g0 | rfl | (exfalso; omega) | assumption | (congr 1; omega) | (simp_all; done),
    fun p1 hp1 k1 hk1 => by
      by_cases q9 : p1 = p
      · subst q9
        have hk2 : k1 < 0 := by simpa [u3] using hk1
        have hk3 : k1 < cn 3 p1 0 := (by omega)
        have g0 := hI.2.2.2.2.2.2.2.2.2.2.2.1 p1 hp1 k1 hk3
        simp only [mm_up, u3, u1, true_and, and_true, false_and, and_false, and_self, if_true, if_false] <;> (repeat' split) <;> first | exact g0 | rfl | (exfalso; omega) | assumption | (congr 1; omega) | (simp_all; done)
      · have hk2 : k1 < cn 3 p1 0 := by simpa [u3, q9] using hk1
        have g0 := hI.2.2.2.2.2.2.2.2.2.2.2.1 p1 hp1 k1 hk2
        simp only [mm_up, u3, u1, true_and, and_true, false_and, and_false, and_self, if_true, if_false] <;> (repeat' split) <;> first | exact g0 | rfl | (exfalso; omega) | assumption | (congr 1; omega) | (simp_all; done),
    fun p1 hp1 k1 hk1 => by
      by_cases q9 : p1 = p
      · subst q9
        have hk2 : k1 < 0 := by simpa [u3] using hk1
        have hk3 : k1 < cn 3 p1 0 := (by omega)
        have g0 := hI.2.2.2.2.2.2.2.2.2.2.2.2.1 p1 hp1 k1 hk3
        simp only [mm_up, u3, u1, true_and, and_true, false_and, and_false, and_self, if_true, if_false] <;> (repeat' split) <;> first | exact g0 | rfl | (exfalso; omega) | assumption | (congr 1; omega) | (simp_all; done)
      · have hk2 : k1 < cn 3 p1 0 := by simpa [u3, q9] using hk1
        have g0 := hI.2.2.2.2.2.2.2.2.2.2.2.2.1 p1 hp1 k1 hk2
        simp only [mm_up, u3, u1, true_and, and_true, false_and, and_false, and_self, if_true, if_false] <;> (repeat' split) <;> first | exact g0 | rfl | (exfalso; omega) | assumption | (congr 1; omega) | (simp_all; done),
    fun p1 hp1 k1 hk1 => by
      by_cases q9 : p1 = p
      · subst q9
        have hk2 : k1 < 0 := by simpa [u3] using hk1
        have hk3 : k1 < cn 3 p1 0 := (by omega)
        have g0 := hI.2.2.2.2.2.2.2.2.2.2.2.2.2.1 p1 hp1 k1 hk3
        simp only [mm_up, u3, u1, true_and, and_true, false_and, and_false, and_self, if_true, if_false] <;> (repeat' split) <;> first | exact g0 | rfl | (exfalso; omega) | assumption | (congr 1; omega) | (simp_all; done)
      · have hk2 : k1 < cn 3 p1 0 := by simpa [u3, q9] using hk1
        have g0 := hI.2.2.2.2.2.2.2.2.2.2.2.2.2.1 p1 hp1 k1 hk2
        simp only [mm_up, u3, u1, true_and, and_true, false_and, and_false, and_self, if_true, if_false] <;> (repeat' split) <;> first | exact g0 | rfl | (exfalso; omega) | assumption | (congr 1; omega) | (simp_all; done),
    fun p1 hp1 k1 hk1 => by
      by_cases q9 : p1 = p
      · subst q9
        have hk2 : k1 < 0 := by simpa [u3] using hk1
        have hk3 : k1 < cn 3 p1 0 := (by omega)
        have g0 := hI.2.2.2.2.2.2.2.2.2.2.2.2.2.2.1 p1 hp1 k1 hk3
        simp only [mm_up, u3, u1, true_and, and_true, false_and, and_false, and_self, if_true, if_false] <;> (repeat' split) <;> first | exact g0 | rfl | (exfalso; omega) | assumption | (congr 1; omega) | (simp_all; done)
      · have hk2 : k1 < cn 3 p1 0 := by simpa [u3, q9] using hk1
        have g0 := hI.2.2.2.2.2.2.2.2.2.2.2.2.2.2.1 p1 hp1 k1 hk2
        simp only [mm_up, u3, u1, true_and, and_true, false_and, and_false, and_self, if_true, if_false] <;> (repeat' split) <;> first | exact g0 | rfl | (exfalso; omega) | assumption | (congr 1; omega) | (simp_all; done),
    fun p1 hp1 => by
      have g0 := hI.2.2.2.2.2.2.2.2.2.2.2.2.2.2.2.1 p1 hp1
      simp only [mm_up, u3, u1, true_and, and_true, false_and, and_false, and_self, if_true, if_false] <;> (repeat' split) <;> first | exact g0 | rfl | (exfalso; omega) | assumption | (congr 1; omega) | (simp_all; done),
    fun p1 hp1 k1 hk1 => by
      by_cases q9 : p1 = p
      · subst q9
        have hk2 : k1 < 0 := by simpa [u3] using hk1
        have hk3 : k1 < cn 4 p1 0 := (by omega)
        have g0 := hI.2.2.2.2.2.2.2.2.2.2.2.2.2.2.2.2.1 p1 hp1 k1 hk3
        simp only [mm_up, u3, u1, true_and, and_true, false_and, and_false, and_self, if_true, if_false] <;> (repeat' split) <;> first | exact g0 | rfl | (exfalso; omega) | assumption | (congr 1; omega) | (simp_all; done)
      · have hk2 : k1 < cn 4 p1 0 := by simpa [u3, q9] using hk1
        have g0 := hI.2.2.2.2.2.2.2.2.2.2.2.2.2.2.2.2.1 p1 hp1 k1 hk2
        simp only [mm_up, u3, u1, true_and, and_true, false_and, and_false, and_self, if_true, if_false] <;> (repeat' split) <;> first | exact g0 | rfl | (exfalso; omega) | assumption | (congr 1; omega) | (simp_all; done),
    fun p1 hp1 k1 hk1 => by
      by_cases q9 : p1 = p
      · subst q9
        have hk2 : k1 < 0 := by simpa [u3] using hk1
        have hk3 : k1 < cn 4 p1 0 := (by omega)
        have g0 := hI.2.2.2.2.2.2.2.2.2.2.2.2.2.2.2.2.2.1 p1 hp1 k1 hk3
        simp only [mm_up, u3, u1, true_and, and_true, false_and, and_false, and_self, if_true, if_false] <;> (repeat' split) <;> first | exact g0 | rfl | (exfalso; omega) | assumption | (congr 1; omega) | (simp_all; done)
      · have hk2 : k1 < cn 4 p1 0 := by simpa [u3, q9] using hk1
        have g0 := hI.2.2.2.2.2.2.2.2.2.2.2.2.2.2.2.2.2.1 p1 hp1 k1 hk2
        simp only [mm_up, u3, u1, true_and, and_true, false_and, and_false, and_self, if_true, if_false] <;> (repeat' split) <;> first | exact g0 | rfl | (exfalso; omega) | assumption | (congr 1; omega) | (simp_all; done),
    fun p1 hp1 k1 hk1 => by
      by_cases q9 : p1 = p
      · subst q9
        have hk2 : k1 < 0 := by simpa [u3] using hk1
        have hk3 : k1 < cn 4 p1 0 := (by omega)
        have g0 := hI.2.2.2.2.2.2.2.2.2.2.2.2.2.2.2.2.2.2.1 p1 hp1 k1 hk3
        simp only [mm_up, u3, u1, true_and, and_true, false_and, and_false, and_self, if_true, if_false] <;> (repeat' split) <;> first | exact g0 | rfl | (exfalso; omega) | assumption | (congr 1; omega) | (simp_all; done)
      · have hk2 : k1 < cn 4 p1 0 := by simpa [u3, q9] using hk1
        have g0 := hI.2.2.2.2.2.2.2.2.2.2.2.2.2.2.2.2.2.2.1 p1 hp1 k1 hk2
        simp only [mm_up, u3, u1, true_and, and_true, false_and, and_false, and_self, if_true, if_false] <;> (repeat' split) <;> first | exact g0 | rfl | (exfalso; omega) | assumption | (congr 1; omega) | (simp_all; done),
    fun p1 hp1 k1 hk1 => by
      by_cases q9 : p1 = p
      · subst q9
        have hk2 : k1 < 0 := by simpa [u3] using hk1
        have hk3 : k1 < cn 4 p1 0 := (by omega)
        have g0 := hI.2.2.2.2.2.2.2.2.2.2.2.2.2.2.2.2.2.2.2.1 p1 hp1 k1 hk3
        simp only [mm_up, u3, u1, true_and, and_true, false_and, and_false, and_self, if_true, if_false] <;> (repeat' split) <;> first | exact g0 | rfl | (exfalso; omega) | assumption | (congr 1; omega) | (simp_all; done)
      · have hk2 : k1 < cn 4 p1 0 := by simpa [u3, q9] using hk1
        have g0 := hI.2.2.2.2.2.2.2.2.2.2.2.2.2.2.2.2.2.2.2.1 p1 hp1 k1 hk2
        simp only [mm_up, u3, u1, true_and, and_true, false_and, and_false, and_self, if_true, if_false] <;> (repeat' split) <;> first | exact g0 | rfl | (exfalso; omega) | assumption | (congr 1; omega) | (simp_all; done),
    fun t1 ht1 k1 hk1 => by
      have g0 := hI.2.2.2.2.2.2.2.2.2.2.2.2.2.2.2.2.2.2.2.2.1 t1 ht1 k1 hk1
      simp only [mm_up, u3, u1, true_and, and_true, false_and, and_false, and_self, if_true, if_false] <;> (repeat' split) <;> first | exact g0 | rfl | (exfalso; omega) | assumption | (congr 1; omega) | (simp_all; done),
    fun t1 ht1 => by
      have g0 := hI.2.2.2.2.2.2.2.2.2.2.2.2.2.2.2.2.2.2.2.2.2.1 t1 ht1
      simp only [mm_up, u3, u1, true_and, and_true, false_and, and_false, and_self, if_true, if_false] <;> (repeat' split) <;> first | exact g0 | rfl | (exfalso; omega) | assumption | (congr 1; omega) | (simp_all; done),
    fun t1 ht1 => by
      have g0 := hI.2.2.2.2.2.2.2.2.2.2.2.2.2.2.2.2.2.2.2.2.2.2.1 t1 ht1
      simp only [mm_up, u3, u1, true_and, and_true, false_and, and_false, and_self, if_true, if_false] <;> (repeat' split) <;> first | exact g0 | rfl | (exfalso; omega) | assumption | (congr 1; omega) | (simp_all; done),
    fun t1 ht1 k1 hk1 => by
      have g0 := hI.2.2.2.2.2.2.2.2.2.2.2.2.2.2.2.2.2.2.2.2.2.2.2.1 t1 ht1 k1 hk1
      simp only [mm_up, u3, u1, true_and, and_true, false_and, and_false, and_self, if_true, if_false] <;> (repeat' split) <;> first | exact g0 | rfl | (exfalso; omega) | assumption | (congr 1; omega) | (simp_all; done),
    fun t1 ht1 k1 hk1 => by
      have g0 := hI.2.2.2.2.2.2.2.2.2.2.2.2.2.2.2.2.2.2.2.2.2.2.2.2.1 t1 ht1 k1 hk1
      simp only [mm_up, u3, u1, true_and, and_true, false_and, and_false, and_self, if_true, if_false] <;> (repeat' split) <;> first | exact g0 | rfl | (exfalso; omega) | assumption | (congr 1; omega) | (simp_all; done),
    fun t1 ht1 => by
      have g0 := hI.2.2.2.2.2.2.2.2.2.2.2.2.2.2.2.2.2.2.2.2.2.2.2.2.2.1 t1 ht1
      simp only [mm_up, u3, u1, true_and, and_true, false_and, and_false, and_self, if_true, if_false] <;> (repeat' split) <;> first | exact g0 | rfl | (exfalso; omega) | assumption | (congr 1; omega) | (simp_all; done),
    fun t1 ht1 => by
      have g0 := hI.2.2.2.2.2.2.2.2.2.2.2.2.2.2.2.2.2.2.2.2.2.2.2.2.2.2.1 t1 ht1
      simp only [mm_up, u3, u1, true_and, and_true, false_and, and_false, and_self, if_true, if_false] <;> (repeat' split) <;> first | exact g0 | rfl | (exfalso; omega) | assumption | (congr 1; omega) | (simp_all; done),
    fun t1 ht1 => by
      have g0 := hI.2.2.2.2.2.2.2.2.2.2.2.2.2.2.2.2.2.2.2.2.2.2.2.2.2.2.2.1 t1 ht1
      simp only [mm_up, u3, u1, true_and, and_true, false_and, and_false, and_self, if_true, if_false] <;> (repeat' split) <;> first | exact g0 | rfl | (exfalso; omega) | assumption | (congr 1; omega) | (simp_all; done),
    fun t1 ht1 => by
      have g0 := hI.2.2.2.2.2.2.2.2.2.2.2.2.2.2.2.2.2.2.2.2.2.2.2.2.2.2.2.2.1 t1 ht1
      simp only [mm_up, u3, u1, true_and, and_true, false_and, and_false, and_self, if_true, if_false] <;> (repeat' split) <;> first | exact g0 | rfl | (exfalso; omega) | assumption | (congr 1; omega) | (simp_all; done),
    fun t1 ht1 => by
      have g0 := hI.2.2.2.2.2.2.2.2.2.2.2.2.2.2.2.2.2.2.2.2.2.2.2.2.2.2.2.2.2.1 t1 ht1
      simp only [mm_up, u3, u1, true_and, and_true, false_and, and_false, and_self, if_true, if_false] <;> (repeat' split) <;> first | exact g0 | rfl | (exfalso; omega) | assumption | (congr 1; omega) | (simp_all; done),
    fun t1 ht1 => by
      have g0 := hI.2.2.2.2.2.2.2.2.2.2.2.2.2.2.2.2.2.2.2.2.2.2.2.2.2.2.2.2.2.2 t1 ht1
      simp only [mm_up, u3, u1, true_and, and_true, false_and, and_false, and_self, if_true, if_false] <;> (repeat' split) <;> first | exact g0 | rfl | (exfalso; omega) | assumption | (congr 1; omega) | (simp_all; done)⟩⟩
theorem IC_act {ci : Nat → Nat → Nat → Int32} {cn : Nat → Nat → Nat → Nat} {p k op : Nat} {a b c : Int32} (h : IC ci cn) (hk : cn 3 p 0 = k) (hk4 : k < 40) (hok : OKA op a b c) : IC (u3 (u3 (u3 ci 6 p k a) 7 p k b) 8 p k c) (u3 (u3 cn 5 p k op) 3 p 0 (k + 1)) := by
  obtain ⟨h1, h2, h3, h4, h5⟩ := h
  refine ⟨h1, h2, fun p1 hp1 => ?_, fun p1 hp1 k1 hk1 => ?_, fun p1 hp1 k1 hk1 => h5 p1 hp1 k1 hk1⟩
  · have h9 := h3 p1 hp1
    by_cases e : p1 = p
    · subst e
      rw [show u3 (u3 cn 5 p1 k op) 3 p1 0 (k + 1) 3 p1 0 = k + 1 from u3_s]
      exact ⟨by omega, h9.2⟩
    · rw [show u3 (u3 cn 5 p k op) 3 p 0 (k + 1) 3 p1 0 = cn 3 p1 0 from if_neg (fun x => e x.2.1)]
      exact h9
  · by_cases e : p1 = p
    · subst e
      rw [show u3 (u3 cn 5 p1 k op) 3 p1 0 (k + 1) 3 p1 0 = k + 1 from u3_s] at hk1
      by_cases e2 : k1 = k
      · subst e2
        simpa [u3] using hok
      · have h9 := h4 p1 hp1 k1 (by omega)
        simpa [u3, e2] using h9
    · rw [show u3 (u3 cn 5 p k op) 3 p 0 (k + 1) 3 p1 0 = cn 3 p1 0 from if_neg (fun x => e x.2.1)] at hk1
      have h9 := h4 p1 hp1 k1 hk1
      simpa [u3, e] using h9
theorem IC_han {ci : Nat → Nat → Nat → Int32} {cn : Nat → Nat → Nat → Nat} {p k f e l : Nat} {v : Int32} (h : IC ci cn) (hk : cn 4 p 0 = k) (hk4 : k < 6) (hf : f < 40) (he : 1 ≤ e ∧ e ≤ 40) (hl : l < 40) : IC (u3 ci 9 p k v) (u3 (u3 (u3 (u3 cn 6 p k f) 7 p k e) 8 p k l) 4 p 0 (k + 1)) := by
  obtain ⟨h1, h2, h3, h4, h5⟩ := h
  refine ⟨h1, h2, fun p1 hp1 => ?_, fun p1 hp1 k1 hk1 => h4 p1 hp1 k1 hk1, fun p1 hp1 k1 hk1 => ?_⟩
  · have h9 := h3 p1 hp1
    by_cases q : p1 = p
    · subst q
      rw [show u3 (u3 (u3 (u3 cn 6 p1 k f) 7 p1 k e) 8 p1 k l) 4 p1 0 (k + 1) 4 p1 0 = k + 1 from u3_s]
      exact ⟨h9.1, by omega⟩
    · rw [show u3 (u3 (u3 (u3 cn 6 p k f) 7 p k e) 8 p k l) 4 p 0 (k + 1) 4 p1 0 = cn 4 p1 0 from if_neg (fun x => q x.2.1)]
      exact h9
  · by_cases q : p1 = p
    · subst q
      rw [show u3 (u3 (u3 (u3 cn 6 p1 k f) 7 p1 k e) 8 p1 k l) 4 p1 0 (k + 1) 4 p1 0 = k + 1 from u3_s] at hk1
      by_cases e2 : k1 = k
      · subst e2
        have h9 : f < 40 ∧ 1 ≤ e ∧ e ≤ 40 ∧ l < 40 := ⟨hf, he.1, he.2, hl⟩
        simpa [u3] using h9
      · have h9 := h5 p1 hp1 k1 (by omega)
        simpa [u3, e2] using h9
    · rw [show u3 (u3 (u3 (u3 cn 6 p k f) 7 p k e) 8 p k l) 4 p 0 (k + 1) 4 p1 0 = cn 4 p1 0 from if_neg (fun x => q x.2.1)] at hk1
      have h9 := h5 p1 hp1 k1 hk1
      simpa [u3, q] using h9
theorem IC_emp {ci : Nat → Nat → Nat → Int32} {cn : Nat → Nat → Nat → Nat} {p : Nat} (h : IC ci cn) : IC ci (u3 (u3 cn 3 p 0 0) 4 p 0 0) := by
  obtain ⟨h1, h2, h3, h4, h5⟩ := h
  refine ⟨h1, h2, fun p1 hp1 => ?_, fun p1 hp1 k1 hk1 => ?_, fun p1 hp1 k1 hk1 => ?_⟩
  · have h9 := h3 p1 hp1
    by_cases q : p1 = p
    · subst q; simp [u3]
    · simpa [u3, q] using h9
  · by_cases q : p1 = p
    · subst q; simp [u3] at hk1
    · exact h4 p1 hp1 k1 (by simpa [u3, q] using hk1)
  · by_cases q : p1 = p
    · subst q; simp [u3] at hk1
    · exact h5 p1 hp1 k1 (by simpa [u3, q] using hk1)
theorem IC_ps1 {ci : Nat → Nat → Nat → Int32} {cn : Nat → Nat → Nat → Nat} {t p : Nat} (h : IC ci cn) (hp : p < 6) : IC ci (u3 (u3 (u3 cn 1 t 0 p) 2 t 0 0) 0 t 0 (0 + 1)) := by
  obtain ⟨h1, h2, h3, h4, h5⟩ := h
  refine ⟨fun t1 ht1 => ?_, fun t1 ht1 k1 hk1 => ?_, h3, h4, h5⟩
  · by_cases q : t1 = t
    · subst q; simp [u3]
    · simpa [u3, q] using h1 t1 ht1
  · by_cases q : t1 = t
    · subst q
      have e0 : k1 = 0 := by
        have : k1 < 1 := by simpa [u3] using hk1
        omega
      subst e0
      simpa [u3] using hp
    · have h9 := h2 t1 ht1 k1 (by simpa [u3, q] using hk1)
      simpa [u3, q] using h9
theorem i_m1q : (-(nI 1)).toInt = -1 := by decide
theorem w_s1 {v : Int32} (h : 0 ≤ v.toInt) : (v - nI 1).toInt = v.toInt - 1 := by
  have h1 := v.toInt_lt
  rw [Int32.toInt_sub, show (nI 1).toInt = 1 from by decide]
  exact Int.bmod_eq_of_le (by omega) (by omega)
theorem ev_gB {Y : mm_Y} {μ0 : mm_M} {rem : List mm_E} {L : mm_L} {st : List mm_V} {μ : mm_M} {Post : Option mm_V → mm_M → Prop} (bs : List Bool) (os : List (Option Nat)) {e2 : mm_E} {rem2 : List mm_E} {L2 : mm_L} {st2 : List mm_V} {μ2 : mm_M} {P2 : Prop} (h : mm_go 5000 (mm_co Y) rem L st μ bs os True = some (e2 :: rem2, L2, st2, μ2, P2)) (k : Ev Y μ0 (e2 :: rem2) L2 st2 μ2 Post) (hp : P2 := by (repeat' apply And.intro) <;> first | exact trivial | assumption | rfl | decide | omega | (simp (disch := first | assumption | omega | decide) only [i_add, i_mul, n_cl, nI_and7, nI_and3, v_in, i_eq, i_lt, i_le, i_eq0, i_lt0, i_ge0, i_gt0, i_le0, ↓lg_cmp_eq, ↓lg_cmp_ge, ↓lg_cmp_gt, ↓lg_cmp_le, ↓lg_cmp_lt, zb_e0, zb_n0, Classical.not_not, up_ne, Nat.zero_add, Nat.add_zero, rc_num hC, rc_hol hC, rc_who hC, rc_rea hC, rc_par hC, rc_nn hC, rc_xx hC, rc_ff hC, rc_nxt hC, rc_lin hC, rc_sor hC, rc_len hC, rc_own hC, rc_tim hC, rc_tal hC, rc_dbl hC, rc_flt hC, rc_mad hC, rc_trc hC, rc_mk0 hC, rc_mk1 hC, rc_mk2 hC, rc_tix hC, rc_thg hC, rm_num hM, rm_hol hM, rm_who hM, rm_rea hM, rm_par hM, rm_nn hM, rm_xx hM, rm_ff hM, rm_nxt hM, rm_lin hM, rm_sor hM, rm_len hM, rm_own hM, rm_tim hM, rm_tal hM, rm_dbl hM, rm_flt hM, rm_mad hM, rm_trc hM, rm_mk hM, tR_s, tR_n, eI_s, eI_n, e_nm, e_mm, lN_i, l_lt, l_le, l_eq, l_z, lN_t, nI_tl, n_s1, i_sub, eLi, eL_s, eL_n, up_eq, mkz, i_l1, i_l2, i_l3, n_ti, i_tl2, e_mn, rc_wan hC, rc_cal hC, rc_prg hC, rc_str hC, rc_pix hC, rc_psz hC, rc_phn hC, rc_pop hC, rc_paa hC, rc_pbb hC, rc_pcc hC, rc_hfr hC, rc_hto hC, rc_hfl hC, rc_hpl hC, rc_six hC, rc_dep hC, rc_pla hC, rc_don hC, rc_fai hC, rc_fno hC, rc_lat hC, rc_lpr hC, rc_lpl hC, rm_psz hM, rm_pop hM, rm_paa hM, rm_pbb hM, rm_pcc hM, rm_phn hM, rm_hfr hM, rm_hto hM, rm_hfl hM, rm_hpl hM, rm_isn hM, rm_dep hM, rm_cal hM, rm_pla hM, rm_don hM, rm_fai hM, rm_lat hM, rm_lpr hM, rm_lpl hM, rm_wan hM, Nat.add_sub_cancel, rm_mk0 hM, rm_mk1 hM, rm_mk2 hM, mks0, mks1, mks2, jl, n_s1j, j_lt, j_le, j_eq, j_z, i_m1q, u3_s, w_s1, *] <;> first | assumption | omega | decide)) : Ev Y μ0 rem L st μ Post := ev_go bs os h hp k
theorem ev_bB {Y : mm_Y} {μ0 : mm_M} {rem : List mm_E} {L : mm_L} {st : List mm_V} {μ : mm_M} {Post : Option mm_V → mm_M → Prop} {e2 e3 : mm_E} {rem2 rem3 : List mm_E} {L2 L3 : mm_L} {st2 st3 : List mm_V} {μ2 μ3 : mm_M} {c c2 d d2 : Prop} (hT : mm_go 1 (mm_co Y) rem L st μ [true] [] True = some (e2 :: rem2, L2, st2, μ2, True ∧ c)) (hF : mm_go 1 (mm_co Y) rem L st μ [false] [] True = some (e3 :: rem3, L3, st3, μ3, True ∧ c2)) (kt : d → Ev Y μ0 (e2 :: rem2) L2 st2 μ2 Post) (kf : d2 → Ev Y μ0 (e3 :: rem3) L3 st3 μ3 Post) (hc : ¬ c → c2 := by first | exact id | exact Classical.not_not.mp) (g1 : c → d := by intro hh; (try simp (disch := first | assumption | omega | decide) only [i_add, i_mul, n_cl, nI_and7, nI_and3, v_in, i_eq, i_lt, i_le, i_eq0, i_lt0, i_ge0, i_gt0, i_le0, ↓lg_cmp_eq, ↓lg_cmp_ge, ↓lg_cmp_gt, ↓lg_cmp_le, ↓lg_cmp_lt, zb_e0, zb_n0, Classical.not_not, up_ne, Nat.zero_add, Nat.add_zero, rc_num hC, rc_hol hC, rc_who hC, rc_rea hC, rc_par hC, rc_nn hC, rc_xx hC, rc_ff hC, rc_nxt hC, rc_lin hC, rc_sor hC, rc_len hC, rc_own hC, rc_tim hC, rc_tal hC, rc_dbl hC, rc_flt hC, rc_mad hC, rc_trc hC, rc_mk0 hC, rc_mk1 hC, rc_mk2 hC, rc_tix hC, rc_thg hC, rm_num hM, rm_hol hM, rm_who hM, rm_rea hM, rm_par hM, rm_nn hM, rm_xx hM, rm_ff hM, rm_nxt hM, rm_lin hM, rm_sor hM, rm_len hM, rm_own hM, rm_tim hM, rm_tal hM, rm_dbl hM, rm_flt hM, rm_mad hM, rm_trc hM, rm_mk hM, tR_s, tR_n, eI_s, eI_n, e_nm, e_mm, lN_i, l_lt, l_le, l_eq, l_z, lN_t, nI_tl, n_s1, i_sub, eLi, eL_s, eL_n, up_eq, mkz, i_l1, i_l2, i_l3, n_ti, i_tl2, e_mn, rc_wan hC, rc_cal hC, rc_prg hC, rc_str hC, rc_pix hC, rc_psz hC, rc_phn hC, rc_pop hC, rc_paa hC, rc_pbb hC, rc_pcc hC, rc_hfr hC, rc_hto hC, rc_hfl hC, rc_hpl hC, rc_six hC, rc_dep hC, rc_pla hC, rc_don hC, rc_fai hC, rc_fno hC, rc_lat hC, rc_lpr hC, rc_lpl hC, rm_psz hM, rm_pop hM, rm_paa hM, rm_pbb hM, rm_pcc hM, rm_phn hM, rm_hfr hM, rm_hto hM, rm_hfl hM, rm_hpl hM, rm_isn hM, rm_dep hM, rm_cal hM, rm_pla hM, rm_don hM, rm_fai hM, rm_lat hM, rm_lpr hM, rm_lpl hM, rm_wan hM, Nat.add_sub_cancel, rm_mk0 hM, rm_mk1 hM, rm_mk2 hM, mks0, mks1, mks2, jl, n_s1j, j_lt, j_le, j_eq, j_z, i_m1q, u3_s, w_s1, *] at hh); exact hh) (g2 : c2 → d2 := by intro hh; (try simp (disch := first | assumption | omega | decide) only [i_add, i_mul, n_cl, nI_and7, nI_and3, v_in, i_eq, i_lt, i_le, i_eq0, i_lt0, i_ge0, i_gt0, i_le0, ↓lg_cmp_eq, ↓lg_cmp_ge, ↓lg_cmp_gt, ↓lg_cmp_le, ↓lg_cmp_lt, zb_e0, zb_n0, Classical.not_not, up_ne, Nat.zero_add, Nat.add_zero, rc_num hC, rc_hol hC, rc_who hC, rc_rea hC, rc_par hC, rc_nn hC, rc_xx hC, rc_ff hC, rc_nxt hC, rc_lin hC, rc_sor hC, rc_len hC, rc_own hC, rc_tim hC, rc_tal hC, rc_dbl hC, rc_flt hC, rc_mad hC, rc_trc hC, rc_mk0 hC, rc_mk1 hC, rc_mk2 hC, rc_tix hC, rc_thg hC, rm_num hM, rm_hol hM, rm_who hM, rm_rea hM, rm_par hM, rm_nn hM, rm_xx hM, rm_ff hM, rm_nxt hM, rm_lin hM, rm_sor hM, rm_len hM, rm_own hM, rm_tim hM, rm_tal hM, rm_dbl hM, rm_flt hM, rm_mad hM, rm_trc hM, rm_mk hM, tR_s, tR_n, eI_s, eI_n, e_nm, e_mm, lN_i, l_lt, l_le, l_eq, l_z, lN_t, nI_tl, n_s1, i_sub, eLi, eL_s, eL_n, up_eq, mkz, i_l1, i_l2, i_l3, n_ti, i_tl2, e_mn, rc_wan hC, rc_cal hC, rc_prg hC, rc_str hC, rc_pix hC, rc_psz hC, rc_phn hC, rc_pop hC, rc_paa hC, rc_pbb hC, rc_pcc hC, rc_hfr hC, rc_hto hC, rc_hfl hC, rc_hpl hC, rc_six hC, rc_dep hC, rc_pla hC, rc_don hC, rc_fai hC, rc_fno hC, rc_lat hC, rc_lpr hC, rc_lpl hC, rm_psz hM, rm_pop hM, rm_paa hM, rm_pbb hM, rm_pcc hM, rm_phn hM, rm_hfr hM, rm_hto hM, rm_hfl hM, rm_hpl hM, rm_isn hM, rm_dep hM, rm_cal hM, rm_pla hM, rm_don hM, rm_fai hM, rm_lat hM, rm_lpr hM, rm_lpl hM, rm_wan hM, Nat.add_sub_cancel, rm_mk0 hM, rm_mk1 hM, rm_mk2 hM, mks0, mks1, mks2, jl, n_s1j, j_lt, j_le, j_eq, j_z, i_m1q, u3_s, w_s1, *] at hh); exact hh) : Ev Y μ0 rem L st μ Post := ev_br hT hF hc (fun h => kt (g1 h)) (fun h => kf (g2 h))
theorem lf_B {p : Prop} (h : p := by first | rfl | assumption | (simp (disch := first | assumption | omega | decide) only [i_add, i_mul, n_cl, nI_and7, nI_and3, v_in, i_eq, i_lt, i_le, i_eq0, i_lt0, i_ge0, i_gt0, i_le0, ↓lg_cmp_eq, ↓lg_cmp_ge, ↓lg_cmp_gt, ↓lg_cmp_le, ↓lg_cmp_lt, zb_e0, zb_n0, Classical.not_not, up_ne, Nat.zero_add, Nat.add_zero, rc_num hC, rc_hol hC, rc_who hC, rc_rea hC, rc_par hC, rc_nn hC, rc_xx hC, rc_ff hC, rc_nxt hC, rc_lin hC, rc_sor hC, rc_len hC, rc_own hC, rc_tim hC, rc_tal hC, rc_dbl hC, rc_flt hC, rc_mad hC, rc_trc hC, rc_mk0 hC, rc_mk1 hC, rc_mk2 hC, rc_tix hC, rc_thg hC, rm_num hM, rm_hol hM, rm_who hM, rm_rea hM, rm_par hM, rm_nn hM, rm_xx hM, rm_ff hM, rm_nxt hM, rm_lin hM, rm_sor hM, rm_len hM, rm_own hM, rm_tim hM, rm_tal hM, rm_dbl hM, rm_flt hM, rm_mad hM, rm_trc hM, rm_mk hM, tR_s, tR_n, eI_s, eI_n, e_nm, e_mm, lN_i, l_lt, l_le, l_eq, l_z, lN_t, nI_tl, n_s1, i_sub, eLi, eL_s, eL_n, up_eq, mkz, i_l1, i_l2, i_l3, n_ti, i_tl2, e_mn, rc_wan hC, rc_cal hC, rc_prg hC, rc_str hC, rc_pix hC, rc_psz hC, rc_phn hC, rc_pop hC, rc_paa hC, rc_pbb hC, rc_pcc hC, rc_hfr hC, rc_hto hC, rc_hfl hC, rc_hpl hC, rc_six hC, rc_dep hC, rc_pla hC, rc_don hC, rc_fai hC, rc_fno hC, rc_lat hC, rc_lpr hC, rc_lpl hC, rm_psz hM, rm_pop hM, rm_paa hM, rm_pbb hM, rm_pcc hM, rm_phn hM, rm_hfr hM, rm_hto hM, rm_hfl hM, rm_hpl hM, rm_isn hM, rm_dep hM, rm_cal hM, rm_pla hM, rm_don hM, rm_fai hM, rm_lat hM, rm_lpr hM, rm_lpl hM, rm_wan hM, Nat.add_sub_cancel, rm_mk0 hM, rm_mk1 hM, rm_mk2 hM, mks0, mks1, mks2, jl, n_s1j, j_lt, j_le, j_eq, j_z, i_m1q, u3_s, w_s1, *] <;> first | rfl | assumption | omega | decide)) : p := h
theorem Q_start {ci : Nat → Nat → Nat → Int32} {cn : Nat → Nat → Nat → Nat} {co : Nat → Option Nat} {xj : Nat → Nat → Nat → Int64} {xd : Nat → Nat → Nat → UInt64} {xf : Nat → Nat → Nat → UInt32} {xo : Nat → Nat → Nat → Option Nat} {xi : Nat → Nat → Nat → Int32} {xn : Nat → Nat → Nat → Nat} {K : Nat → Nat} {I : Nat → Nat → Int32} {J : Nat → Nat → Int64} {F : Nat → Nat → UInt32} {D : Nat → Nat → UInt64} {R : Nat → Nat → Option Nat} {nx sl : Nat} {Km : Nat → Nat} {Im : Nat → Nat → Int32} {Jm : Nat → Nat → Int64} {Fm : Nat → Nat → UInt32} {Dm : Nat → Nat → UInt64} {Rm : Nat → Nat → Option Nat} {nxm slm : Nat} (hC : RC ci cn co xj xd xf xo xi xn I J F D R nx sl) (hM : RM ci cn co xj xd xf xo xi xn Im Jm Dm) (hI : IC ci cn) (hW : IW cn co) {th pr : Int32} : Ct Y_MW_start [vr 10 6, vi th, vi pr] (K, I, J, F, D, R, nx, sl) (fun r μ1 => Ct Y_MM_start [vr 11 6, vi th, vi pr] (Km, Im, Jm, Fm, Dm, Rm, nxm, slm) (fun r2 μ2 => r = r2 ∧ RELS μ1 μ2)) := by
  rcases icc th 3 (by decide) with ⟨t, ht, rfl⟩ | hth
  · skip
    rcases icc pr 6 (by decide) with ⟨p, hp, rfl⟩ | hpr
    · skip
      have hd8 := hI.1 t ht
      by_cases hd : cn 0 t 0 = 0
      · skip
        have hu2 : decide (0 < cn 0 t 0) = false := decide_eq_false (by omega)
        refine ct_of h_MW_start rfl rfl rfl ?_
        refine ev_g0 rfl ?_
        refine ev_inV 1 k_MW_95 h_MW_strandAt rfl rfl rfl rfl rfl ⟨by decide, by decide⟩ rfl ?_
        refine ev_gB [false, false] [some (32 + 7 * t)] rfl ?_
        refine ev_reta rfl ?_
        refine ev_g0 rfl ?_
        refine ev_inV 1 k_MW_67 h_MW_programAt rfl rfl rfl rfl rfl ⟨by decide, by decide⟩ rfl ?_
        refine ev_gB [false, false] [some (14 + 3 * p)] rfl ?_
        refine ev_reta rfl ?_
        refine ev_g0 rfl ?_
        refine ev_inV 0 k_MW_99 h_SD_isUnderWay rfl rfl rfl rfl rfl ⟨by decide, by decide⟩ rfl ?_
        refine ev_gB [true] [] rfl ?_
        refine ev_retz rfl (by first | decide | exact zb_01 _) ?_
        refine ev_gB [true] [] rfl ?_
        refine ev_inV 1 k_MW_103 h_SD_enter rfl rfl rfl rfl rfl ⟨by decide, by decide⟩ rfl ?_
        refine ev_gB [false, true] [] rfl ?_
        refine ev_retz rfl (by first | decide | exact zb_01 _) ?_
        refine ev_g0 rfl ?_
        refine ev_reti rfl ?_
        refine ct_of h_MM_start rfl rfl rfl ?_
        refine ev_g0 rfl ?_
        refine ev_inS 3 k_MM_188 h_MM_in rfl rfl rfl rfl ⟨by decide, by decide⟩ rfl ?_
        refine ev_gB [false, false] [] rfl ?_
        refine ev_retz rfl (by first | decide | exact zb_01 _) ?_
        refine ev_gB [false] [] rfl ?_
        refine ev_inS 3 k_MM_188 h_MM_in rfl rfl rfl rfl ⟨by decide, by decide⟩ rfl ?_
        refine ev_gB [false, false] [] rfl ?_
        refine ev_retz rfl (by first | decide | exact zb_01 _) ?_
        refine ev_gB [true, true] [] rfl ?_
        refine ev_reti rfl ?_
        refine ⟨lf_B, ci, (u3 (u3 (u3 cn 1 t 0 p) 2 t 0 0) 0 t 0 (0 + 1)), co, xj, xd, xf, xo, xi, xn, ?_, ?_, ?_, ?_⟩
        · have h9 := CU_psh (p := p) hC ht hd (by decide)
          show RC _ _ _ _ _ _ _ _ _ _ _ _ _ _ _ _
          simp (disch := first | assumption | omega | decide) only [up_ne, i_add, n_cl, rc_dep hC, hd, Nat.zero_add]
          exact h9
        · have h9 := MU_wan (v := none) (j := t) (z := eI none) (MU_ps1 (p := p) hM ht hd hI.1) ht rfl rfl
          rw [u1_id (hW t ht hd)] at h9
          show RM _ _ _ _ _ _ _ _ _ _ _ _
          simp (disch := first | assumption | omega | decide) only [n_cl, i_add, i_mul, Nat.add_zero]
          exact h9
        · exact IC_ps1 hI hp
        · intro u hu h0
          by_cases q : u = t
          · subst q; simp [u3] at h0
          · exact hW u hu (by simpa [u3, q] using h0)
      · skip
        have hu2 : decide (0 < cn 0 t 0) = true := decide_eq_true (by omega)
        refine ct_of h_MW_start rfl rfl rfl ?_
        refine ev_g0 rfl ?_
        refine ev_inV 1 k_MW_95 h_MW_strandAt rfl rfl rfl rfl rfl ⟨by decide, by decide⟩ rfl ?_
        refine ev_gB [false, false] [some (32 + 7 * t)] rfl ?_
        refine ev_reta rfl ?_
        refine ev_g0 rfl ?_
        refine ev_inV 1 k_MW_67 h_MW_programAt rfl rfl rfl rfl rfl ⟨by decide, by decide⟩ rfl ?_
        refine ev_gB [false, false] [some (14 + 3 * p)] rfl ?_
        refine ev_reta rfl ?_
        refine ev_g0 rfl ?_
        refine ev_inV 0 k_MW_99 h_SD_isUnderWay rfl rfl rfl rfl rfl ⟨by decide, by decide⟩ rfl ?_
        refine ev_gB [false] [] rfl ?_
        refine ev_retz rfl (by first | decide | exact zb_01 _) ?_
        refine ev_gB [false] [] rfl ?_
        refine ev_reti rfl ?_
        refine ct_of h_MM_start rfl rfl rfl ?_
        refine ev_g0 rfl ?_
        refine ev_inS 3 k_MM_188 h_MM_in rfl rfl rfl rfl ⟨by decide, by decide⟩ rfl ?_
        refine ev_gB [false, false] [] rfl ?_
        refine ev_retz rfl (by first | decide | exact zb_01 _) ?_
        refine ev_gB [false] [] rfl ?_
        refine ev_inS 3 k_MM_188 h_MM_in rfl rfl rfl rfl ⟨by decide, by decide⟩ rfl ?_
        refine ev_gB [false, false] [] rfl ?_
        refine ev_retz rfl (by first | decide | exact zb_01 _) ?_
        refine ev_gB [true, false] [] rfl ?_
        refine ev_reti rfl ?_
        exact ⟨lf_B, ci, cn, co, xj, xd, xf, xo, xi, xn, hC, hM, hI, hW⟩
    · skip
      refine ct_of h_MW_start rfl rfl rfl ?_
      refine ev_g0 rfl ?_
      refine ev_inV 1 k_MW_95 h_MW_strandAt rfl rfl rfl rfl rfl ⟨by decide, by decide⟩ rfl ?_
      refine ev_gB [false, false] [some (32 + 7 * t)] rfl ?_
      refine ev_reta rfl ?_
      refine ev_g0 rfl ?_
      refine ev_inV 1 k_MW_67 h_MW_programAt rfl rfl rfl rfl rfl ⟨by decide, by decide⟩ rfl ?_
      refine ev_g0 rfl ?_
      refine ev_bB rfl rfl (fun h_1 => ?_) (fun h_1 => ?_)
      · skip
        refine ev_g0 rfl ?_
        refine ev_retn rfl ?_
        refine ev_g0 rfl ?_
        refine ev_reti rfl ?_
        refine ct_of h_MM_start rfl rfl rfl ?_
        refine ev_g0 rfl ?_
        refine ev_inS 3 k_MM_188 h_MM_in rfl rfl rfl rfl ⟨by decide, by decide⟩ rfl ?_
        refine ev_gB [false, false] [] rfl ?_
        refine ev_retz rfl (by first | decide | exact zb_01 _) ?_
        refine ev_gB [false] [] rfl ?_
        refine ev_inS 3 k_MM_188 h_MM_in rfl rfl rfl rfl ⟨by decide, by decide⟩ rfl ?_
        refine ev_gB [true] [] rfl ?_
        refine ev_retz rfl (by first | decide | exact zb_01 _) ?_
        refine ev_gB [false] [] rfl ?_
        refine ev_reti rfl ?_
        exact ⟨lf_B, ci, cn, co, xj, xd, xf, xo, xi, xn, hC, hM, hI, hW⟩
      · skip
        refine ev_gB [true] [] rfl ?_
        refine ev_retn rfl ?_
        refine ev_g0 rfl ?_
        refine ev_reti rfl ?_
        refine ct_of h_MM_start rfl rfl rfl ?_
        refine ev_g0 rfl ?_
        refine ev_inS 3 k_MM_188 h_MM_in rfl rfl rfl rfl ⟨by decide, by decide⟩ rfl ?_
        refine ev_gB [false, false] [] rfl ?_
        refine ev_retz rfl (by first | decide | exact zb_01 _) ?_
        refine ev_gB [false] [] rfl ?_
        refine ev_inS 3 k_MM_188 h_MM_in rfl rfl rfl rfl ⟨by decide, by decide⟩ rfl ?_
        refine ev_gB [false, true] [] rfl ?_
        refine ev_retz rfl (by first | decide | exact zb_01 _) ?_
        refine ev_gB [false] [] rfl ?_
        refine ev_reti rfl ?_
        exact ⟨lf_B, ci, cn, co, xj, xd, xf, xo, xi, xn, hC, hM, hI, hW⟩
  · skip
    rcases icc pr 6 (by decide) with ⟨p, hp, rfl⟩ | hpr
    · skip
      refine ct_of h_MW_start rfl rfl rfl ?_
      refine ev_g0 rfl ?_
      refine ev_inV 1 k_MW_95 h_MW_strandAt rfl rfl rfl rfl rfl ⟨by decide, by decide⟩ rfl ?_
      refine ev_g0 rfl ?_
      refine ev_bB rfl rfl (fun h_2 => ?_) (fun h_2 => ?_)
      · skip
        refine ev_g0 rfl ?_
        refine ev_retn rfl ?_
        refine ev_g0 rfl ?_
        refine ev_inV 1 k_MW_67 h_MW_programAt rfl rfl rfl rfl rfl ⟨by decide, by decide⟩ rfl ?_
        refine ev_gB [false, false] [some (14 + 3 * p)] rfl ?_
        refine ev_reta rfl ?_
        refine ev_g0 rfl ?_
        refine ev_reti rfl ?_
        refine ct_of h_MM_start rfl rfl rfl ?_
        refine ev_g0 rfl ?_
        refine ev_inS 3 k_MM_188 h_MM_in rfl rfl rfl rfl ⟨by decide, by decide⟩ rfl ?_
        refine ev_gB [true] [] rfl ?_
        refine ev_retz rfl (by first | decide | exact zb_01 _) ?_
        refine ev_gB [true] [] rfl ?_
        refine ev_reti rfl ?_
        exact ⟨lf_B, ci, cn, co, xj, xd, xf, xo, xi, xn, hC, hM, hI, hW⟩
      · skip
        refine ev_gB [true] [] rfl ?_
        refine ev_retn rfl ?_
        refine ev_g0 rfl ?_
        refine ev_inV 1 k_MW_67 h_MW_programAt rfl rfl rfl rfl rfl ⟨by decide, by decide⟩ rfl ?_
        refine ev_gB [false, false] [some (14 + 3 * p)] rfl ?_
        refine ev_reta rfl ?_
        refine ev_g0 rfl ?_
        refine ev_reti rfl ?_
        refine ct_of h_MM_start rfl rfl rfl ?_
        refine ev_g0 rfl ?_
        refine ev_inS 3 k_MM_188 h_MM_in rfl rfl rfl rfl ⟨by decide, by decide⟩ rfl ?_
        refine ev_gB [false, true] [] rfl ?_
        refine ev_retz rfl (by first | decide | exact zb_01 _) ?_
        refine ev_gB [true] [] rfl ?_
        refine ev_reti rfl ?_
        exact ⟨lf_B, ci, cn, co, xj, xd, xf, xo, xi, xn, hC, hM, hI, hW⟩
    · skip
      refine ct_of h_MW_start rfl rfl rfl ?_
      refine ev_g0 rfl ?_
      refine ev_inV 1 k_MW_95 h_MW_strandAt rfl rfl rfl rfl rfl ⟨by decide, by decide⟩ rfl ?_
      refine ev_g0 rfl ?_
      refine ev_bB rfl rfl (fun h_3 => ?_) (fun h_3 => ?_)
      · skip
        refine ev_g0 rfl ?_
        refine ev_retn rfl ?_
        refine ev_g0 rfl ?_
        refine ev_inV 1 k_MW_67 h_MW_programAt rfl rfl rfl rfl rfl ⟨by decide, by decide⟩ rfl ?_
        refine ev_g0 rfl ?_
        refine ev_bB rfl rfl (fun h_4 => ?_) (fun h_4 => ?_)
        · skip
          refine ev_g0 rfl ?_
          refine ev_retn rfl ?_
          refine ev_g0 rfl ?_
          refine ev_reti rfl ?_
          refine ct_of h_MM_start rfl rfl rfl ?_
          refine ev_g0 rfl ?_
          refine ev_inS 3 k_MM_188 h_MM_in rfl rfl rfl rfl ⟨by decide, by decide⟩ rfl ?_
          refine ev_gB [true] [] rfl ?_
          refine ev_retz rfl (by first | decide | exact zb_01 _) ?_
          refine ev_gB [true] [] rfl ?_
          refine ev_reti rfl ?_
          exact ⟨lf_B, ci, cn, co, xj, xd, xf, xo, xi, xn, hC, hM, hI, hW⟩
        · skip
          refine ev_gB [true] [] rfl ?_
          refine ev_retn rfl ?_
          refine ev_g0 rfl ?_
          refine ev_reti rfl ?_
          refine ct_of h_MM_start rfl rfl rfl ?_
          refine ev_g0 rfl ?_
          refine ev_inS 3 k_MM_188 h_MM_in rfl rfl rfl rfl ⟨by decide, by decide⟩ rfl ?_
          refine ev_gB [true] [] rfl ?_
          refine ev_retz rfl (by first | decide | exact zb_01 _) ?_
          refine ev_gB [true] [] rfl ?_
          refine ev_reti rfl ?_
          exact ⟨lf_B, ci, cn, co, xj, xd, xf, xo, xi, xn, hC, hM, hI, hW⟩
      · skip
        refine ev_gB [true] [] rfl ?_
        refine ev_retn rfl ?_
        refine ev_g0 rfl ?_
        refine ev_inV 1 k_MW_67 h_MW_programAt rfl rfl rfl rfl rfl ⟨by decide, by decide⟩ rfl ?_
        refine ev_g0 rfl ?_
        refine ev_bB rfl rfl (fun h_5 => ?_) (fun h_5 => ?_)
        · skip
          refine ev_g0 rfl ?_
          refine ev_retn rfl ?_
          refine ev_g0 rfl ?_
          refine ev_reti rfl ?_
          refine ct_of h_MM_start rfl rfl rfl ?_
          refine ev_g0 rfl ?_
          refine ev_inS 3 k_MM_188 h_MM_in rfl rfl rfl rfl ⟨by decide, by decide⟩ rfl ?_
          refine ev_gB [false, true] [] rfl ?_
          refine ev_retz rfl (by first | decide | exact zb_01 _) ?_
          refine ev_gB [true] [] rfl ?_
          refine ev_reti rfl ?_
          exact ⟨lf_B, ci, cn, co, xj, xd, xf, xo, xi, xn, hC, hM, hI, hW⟩
        · skip
          refine ev_gB [true] [] rfl ?_
          refine ev_retn rfl ?_
          refine ev_g0 rfl ?_
          refine ev_reti rfl ?_
          refine ct_of h_MM_start rfl rfl rfl ?_
          refine ev_g0 rfl ?_
          refine ev_inS 3 k_MM_188 h_MM_in rfl rfl rfl rfl ⟨by decide, by decide⟩ rfl ?_
          refine ev_gB [false, true] [] rfl ?_
          refine ev_retz rfl (by first | decide | exact zb_01 _) ?_
          refine ev_gB [true] [] rfl ?_
          refine ev_reti rfl ?_
          exact ⟨lf_B, ci, cn, co, xj, xd, xf, xo, xi, xn, hC, hM, hI, hW⟩
theorem Q_empty {ci : Nat → Nat → Nat → Int32} {cn : Nat → Nat → Nat → Nat} {co : Nat → Option Nat} {xj : Nat → Nat → Nat → Int64} {xd : Nat → Nat → Nat → UInt64} {xf : Nat → Nat → Nat → UInt32} {xo : Nat → Nat → Nat → Option Nat} {xi : Nat → Nat → Nat → Int32} {xn : Nat → Nat → Nat → Nat} {K : Nat → Nat} {I : Nat → Nat → Int32} {J : Nat → Nat → Int64} {F : Nat → Nat → UInt32} {D : Nat → Nat → UInt64} {R : Nat → Nat → Option Nat} {nx sl : Nat} {Km : Nat → Nat} {Im : Nat → Nat → Int32} {Jm : Nat → Nat → Int64} {Fm : Nat → Nat → UInt32} {Dm : Nat → Nat → UInt64} {Rm : Nat → Nat → Option Nat} {nxm slm : Nat} (hC : RC ci cn co xj xd xf xo xi xn I J F D R nx sl) (hM : RM ci cn co xj xd xf xo xi xn Im Jm Dm) (hI : IC ci cn) (hW : IW cn co) {pr : Int32} : Ct Y_MW_empty [vr 10 6, vi pr] (K, I, J, F, D, R, nx, sl) (fun r μ1 => Ct Y_MM_empty [vr 11 6, vi pr] (Km, Im, Jm, Fm, Dm, Rm, nxm, slm) (fun r2 μ2 => r = r2 ∧ RELS μ1 μ2)) := by
  rcases icc pr 6 (by decide) with ⟨p, hp, rfl⟩ | hpr
  · skip
    have d0 := hI.1 0 (by decide)
    have d1 := hI.1 1 (by decide)
    have d2 := hI.1 2 (by decide)
    by_cases hu0 : 0 < cn 0 0 0
    · skip
      have hv0 : decide (0 < cn 0 0 0) = true := decide_eq_true hu0
      by_cases hu1 : 0 < cn 0 1 0
      · skip
        have hv1 : decide (0 < cn 0 1 0) = true := decide_eq_true hu1
        by_cases hu2 : 0 < cn 0 2 0
        · skip
          have hv2 : decide (0 < cn 0 2 0) = true := decide_eq_true hu2
          refine ct_of h_MW_empty rfl rfl rfl ?_
          refine ev_g0 rfl ?_
          refine ev_inV 1 k_MW_67 h_MW_programAt rfl rfl rfl rfl rfl ⟨by decide, by decide⟩ rfl ?_
          refine ev_gB [false, false] [some (14 + 3 * p)] rfl ?_
          refine ev_reta rfl ?_
          refine ev_g0 rfl ?_
          refine ev_inV 0 k_MW_88 h_MW_underWay rfl rfl rfl rfl rfl ⟨by decide, by decide⟩ rfl ?_
          refine ev_gB [false] [some (32 + 7 * 0)] rfl ?_
          refine ev_inV 0 k_MW_99 h_SD_isUnderWay rfl rfl rfl rfl rfl ⟨by decide, by decide⟩ rfl ?_
          refine ev_gB [false] [] rfl ?_
          refine ev_retz rfl (by first | decide | exact zb_01 _) ?_
          refine ev_gB [false, false] [some (32 + 7 * 1)] rfl ?_
          refine ev_inV 0 k_MW_99 h_SD_isUnderWay rfl rfl rfl rfl rfl ⟨by decide, by decide⟩ rfl ?_
          refine ev_gB [false] [] rfl ?_
          refine ev_retz rfl (by first | decide | exact zb_01 _) ?_
          refine ev_gB [false, false] [some (32 + 7 * 2)] rfl ?_
          refine ev_inV 0 k_MW_99 h_SD_isUnderWay rfl rfl rfl rfl rfl ⟨by decide, by decide⟩ rfl ?_
          refine ev_gB [false] [] rfl ?_
          refine ev_retz rfl (by first | decide | exact zb_01 _) ?_
          refine ev_gB [false, true] [] rfl ?_
          refine ev_reti rfl ?_
          refine ev_gB [false] [] rfl ?_
          refine ev_reti rfl ?_
          refine ct_of h_MM_empty rfl rfl rfl ?_
          refine ev_g0 rfl ?_
          refine ev_inS 3 k_MM_188 h_MM_in rfl rfl rfl rfl ⟨by decide, by decide⟩ rfl ?_
          refine ev_gB [false, false] [] rfl ?_
          refine ev_retz rfl (by first | decide | exact zb_01 _) ?_
          refine ev_gB [true] [] rfl ?_
          refine ev_inV 0 k_MM_262 h_MM_underWay rfl rfl rfl rfl rfl ⟨by decide, by decide⟩ rfl ?_
          refine ev_gB [false, false, false, false, false, false, true] [] rfl ?_
          refine ev_reti rfl ?_
          refine ev_gB [false] [] rfl ?_
          refine ev_reti rfl ?_
          exact ⟨lf_B, ci, cn, co, xj, xd, xf, xo, xi, xn, hC, hM, hI, hW⟩
        · skip
          have hv2 : decide (0 < cn 0 2 0) = false := decide_eq_false hu2
          refine ct_of h_MW_empty rfl rfl rfl ?_
          refine ev_g0 rfl ?_
          refine ev_inV 1 k_MW_67 h_MW_programAt rfl rfl rfl rfl rfl ⟨by decide, by decide⟩ rfl ?_
          refine ev_gB [false, false] [some (14 + 3 * p)] rfl ?_
          refine ev_reta rfl ?_
          refine ev_g0 rfl ?_
          refine ev_inV 0 k_MW_88 h_MW_underWay rfl rfl rfl rfl rfl ⟨by decide, by decide⟩ rfl ?_
          refine ev_gB [false] [some (32 + 7 * 0)] rfl ?_
          refine ev_inV 0 k_MW_99 h_SD_isUnderWay rfl rfl rfl rfl rfl ⟨by decide, by decide⟩ rfl ?_
          refine ev_gB [false] [] rfl ?_
          refine ev_retz rfl (by first | decide | exact zb_01 _) ?_
          refine ev_gB [false, false] [some (32 + 7 * 1)] rfl ?_
          refine ev_inV 0 k_MW_99 h_SD_isUnderWay rfl rfl rfl rfl rfl ⟨by decide, by decide⟩ rfl ?_
          refine ev_gB [false] [] rfl ?_
          refine ev_retz rfl (by first | decide | exact zb_01 _) ?_
          refine ev_gB [false, false] [some (32 + 7 * 2)] rfl ?_
          refine ev_inV 0 k_MW_99 h_SD_isUnderWay rfl rfl rfl rfl rfl ⟨by decide, by decide⟩ rfl ?_
          refine ev_gB [true] [] rfl ?_
          refine ev_retz rfl (by first | decide | exact zb_01 _) ?_
          refine ev_gB [true, true] [] rfl ?_
          refine ev_reti rfl ?_
          refine ev_gB [false] [] rfl ?_
          refine ev_reti rfl ?_
          refine ct_of h_MM_empty rfl rfl rfl ?_
          refine ev_g0 rfl ?_
          refine ev_inS 3 k_MM_188 h_MM_in rfl rfl rfl rfl ⟨by decide, by decide⟩ rfl ?_
          refine ev_gB [false, false] [] rfl ?_
          refine ev_retz rfl (by first | decide | exact zb_01 _) ?_
          refine ev_gB [true] [] rfl ?_
          refine ev_inV 0 k_MM_262 h_MM_underWay rfl rfl rfl rfl rfl ⟨by decide, by decide⟩ rfl ?_
          refine ev_gB [false, false, false, false, false, true, true] [] rfl ?_
          refine ev_reti rfl ?_
          refine ev_gB [false] [] rfl ?_
          refine ev_reti rfl ?_
          exact ⟨lf_B, ci, cn, co, xj, xd, xf, xo, xi, xn, hC, hM, hI, hW⟩
      · skip
        have hv1 : decide (0 < cn 0 1 0) = false := decide_eq_false hu1
        by_cases hu2 : 0 < cn 0 2 0
        · skip
          have hv2 : decide (0 < cn 0 2 0) = true := decide_eq_true hu2
          refine ct_of h_MW_empty rfl rfl rfl ?_
          refine ev_g0 rfl ?_
          refine ev_inV 1 k_MW_67 h_MW_programAt rfl rfl rfl rfl rfl ⟨by decide, by decide⟩ rfl ?_
          refine ev_gB [false, false] [some (14 + 3 * p)] rfl ?_
          refine ev_reta rfl ?_
          refine ev_g0 rfl ?_
          refine ev_inV 0 k_MW_88 h_MW_underWay rfl rfl rfl rfl rfl ⟨by decide, by decide⟩ rfl ?_
          refine ev_gB [false] [some (32 + 7 * 0)] rfl ?_
          refine ev_inV 0 k_MW_99 h_SD_isUnderWay rfl rfl rfl rfl rfl ⟨by decide, by decide⟩ rfl ?_
          refine ev_gB [false] [] rfl ?_
          refine ev_retz rfl (by first | decide | exact zb_01 _) ?_
          refine ev_gB [false, false] [some (32 + 7 * 1)] rfl ?_
          refine ev_inV 0 k_MW_99 h_SD_isUnderWay rfl rfl rfl rfl rfl ⟨by decide, by decide⟩ rfl ?_
          refine ev_gB [true] [] rfl ?_
          refine ev_retz rfl (by first | decide | exact zb_01 _) ?_
          refine ev_gB [true, false] [some (32 + 7 * 2)] rfl ?_
          refine ev_inV 0 k_MW_99 h_SD_isUnderWay rfl rfl rfl rfl rfl ⟨by decide, by decide⟩ rfl ?_
          refine ev_gB [false] [] rfl ?_
          refine ev_retz rfl (by first | decide | exact zb_01 _) ?_
          refine ev_gB [false, true] [] rfl ?_
          refine ev_reti rfl ?_
          refine ev_gB [false] [] rfl ?_
          refine ev_reti rfl ?_
          refine ct_of h_MM_empty rfl rfl rfl ?_
          refine ev_g0 rfl ?_
          refine ev_inS 3 k_MM_188 h_MM_in rfl rfl rfl rfl ⟨by decide, by decide⟩ rfl ?_
          refine ev_gB [false, false] [] rfl ?_
          refine ev_retz rfl (by first | decide | exact zb_01 _) ?_
          refine ev_gB [true] [] rfl ?_
          refine ev_inV 0 k_MM_262 h_MM_underWay rfl rfl rfl rfl rfl ⟨by decide, by decide⟩ rfl ?_
          refine ev_gB [false, false, false, true, false, false, true] [] rfl ?_
          refine ev_reti rfl ?_
          refine ev_gB [false] [] rfl ?_
          refine ev_reti rfl ?_
          exact ⟨lf_B, ci, cn, co, xj, xd, xf, xo, xi, xn, hC, hM, hI, hW⟩
        · skip
          have hv2 : decide (0 < cn 0 2 0) = false := decide_eq_false hu2
          refine ct_of h_MW_empty rfl rfl rfl ?_
          refine ev_g0 rfl ?_
          refine ev_inV 1 k_MW_67 h_MW_programAt rfl rfl rfl rfl rfl ⟨by decide, by decide⟩ rfl ?_
          refine ev_gB [false, false] [some (14 + 3 * p)] rfl ?_
          refine ev_reta rfl ?_
          refine ev_g0 rfl ?_
          refine ev_inV 0 k_MW_88 h_MW_underWay rfl rfl rfl rfl rfl ⟨by decide, by decide⟩ rfl ?_
          refine ev_gB [false] [some (32 + 7 * 0)] rfl ?_
          refine ev_inV 0 k_MW_99 h_SD_isUnderWay rfl rfl rfl rfl rfl ⟨by decide, by decide⟩ rfl ?_
          refine ev_gB [false] [] rfl ?_
          refine ev_retz rfl (by first | decide | exact zb_01 _) ?_
          refine ev_gB [false, false] [some (32 + 7 * 1)] rfl ?_
          refine ev_inV 0 k_MW_99 h_SD_isUnderWay rfl rfl rfl rfl rfl ⟨by decide, by decide⟩ rfl ?_
          refine ev_gB [true] [] rfl ?_
          refine ev_retz rfl (by first | decide | exact zb_01 _) ?_
          refine ev_gB [true, false] [some (32 + 7 * 2)] rfl ?_
          refine ev_inV 0 k_MW_99 h_SD_isUnderWay rfl rfl rfl rfl rfl ⟨by decide, by decide⟩ rfl ?_
          refine ev_gB [true] [] rfl ?_
          refine ev_retz rfl (by first | decide | exact zb_01 _) ?_
          refine ev_gB [true, true] [] rfl ?_
          refine ev_reti rfl ?_
          refine ev_gB [false] [] rfl ?_
          refine ev_reti rfl ?_
          refine ct_of h_MM_empty rfl rfl rfl ?_
          refine ev_g0 rfl ?_
          refine ev_inS 3 k_MM_188 h_MM_in rfl rfl rfl rfl ⟨by decide, by decide⟩ rfl ?_
          refine ev_gB [false, false] [] rfl ?_
          refine ev_retz rfl (by first | decide | exact zb_01 _) ?_
          refine ev_gB [true] [] rfl ?_
          refine ev_inV 0 k_MM_262 h_MM_underWay rfl rfl rfl rfl rfl ⟨by decide, by decide⟩ rfl ?_
          refine ev_gB [false, false, false, true, false, true, true] [] rfl ?_
          refine ev_reti rfl ?_
          refine ev_gB [false] [] rfl ?_
          refine ev_reti rfl ?_
          exact ⟨lf_B, ci, cn, co, xj, xd, xf, xo, xi, xn, hC, hM, hI, hW⟩
    · skip
      have hv0 : decide (0 < cn 0 0 0) = false := decide_eq_false hu0
      by_cases hu1 : 0 < cn 0 1 0
      · skip
        have hv1 : decide (0 < cn 0 1 0) = true := decide_eq_true hu1
        by_cases hu2 : 0 < cn 0 2 0
        · skip
          have hv2 : decide (0 < cn 0 2 0) = true := decide_eq_true hu2
          refine ct_of h_MW_empty rfl rfl rfl ?_
          refine ev_g0 rfl ?_
          refine ev_inV 1 k_MW_67 h_MW_programAt rfl rfl rfl rfl rfl ⟨by decide, by decide⟩ rfl ?_
          refine ev_gB [false, false] [some (14 + 3 * p)] rfl ?_
          refine ev_reta rfl ?_
          refine ev_g0 rfl ?_
          refine ev_inV 0 k_MW_88 h_MW_underWay rfl rfl rfl rfl rfl ⟨by decide, by decide⟩ rfl ?_
          refine ev_gB [false] [some (32 + 7 * 0)] rfl ?_
          refine ev_inV 0 k_MW_99 h_SD_isUnderWay rfl rfl rfl rfl rfl ⟨by decide, by decide⟩ rfl ?_
          refine ev_gB [true] [] rfl ?_
          refine ev_retz rfl (by first | decide | exact zb_01 _) ?_
          refine ev_gB [true, false] [some (32 + 7 * 1)] rfl ?_
          refine ev_inV 0 k_MW_99 h_SD_isUnderWay rfl rfl rfl rfl rfl ⟨by decide, by decide⟩ rfl ?_
          refine ev_gB [false] [] rfl ?_
          refine ev_retz rfl (by first | decide | exact zb_01 _) ?_
          refine ev_gB [false, false] [some (32 + 7 * 2)] rfl ?_
          refine ev_inV 0 k_MW_99 h_SD_isUnderWay rfl rfl rfl rfl rfl ⟨by decide, by decide⟩ rfl ?_
          refine ev_gB [false] [] rfl ?_
          refine ev_retz rfl (by first | decide | exact zb_01 _) ?_
          refine ev_gB [false, true] [] rfl ?_
          refine ev_reti rfl ?_
          refine ev_gB [false] [] rfl ?_
          refine ev_reti rfl ?_
          refine ct_of h_MM_empty rfl rfl rfl ?_
          refine ev_g0 rfl ?_
          refine ev_inS 3 k_MM_188 h_MM_in rfl rfl rfl rfl ⟨by decide, by decide⟩ rfl ?_
          refine ev_gB [false, false] [] rfl ?_
          refine ev_retz rfl (by first | decide | exact zb_01 _) ?_
          refine ev_gB [true] [] rfl ?_
          refine ev_inV 0 k_MM_262 h_MM_underWay rfl rfl rfl rfl rfl ⟨by decide, by decide⟩ rfl ?_
          refine ev_gB [false, true, false, false, false, false, true] [] rfl ?_
          refine ev_reti rfl ?_
          refine ev_gB [false] [] rfl ?_
          refine ev_reti rfl ?_
          exact ⟨lf_B, ci, cn, co, xj, xd, xf, xo, xi, xn, hC, hM, hI, hW⟩
        · skip
          have hv2 : decide (0 < cn 0 2 0) = false := decide_eq_false hu2
          refine ct_of h_MW_empty rfl rfl rfl ?_
          refine ev_g0 rfl ?_
          refine ev_inV 1 k_MW_67 h_MW_programAt rfl rfl rfl rfl rfl ⟨by decide, by decide⟩ rfl ?_
          refine ev_gB [false, false] [some (14 + 3 * p)] rfl ?_
          refine ev_reta rfl ?_
          refine ev_g0 rfl ?_
          refine ev_inV 0 k_MW_88 h_MW_underWay rfl rfl rfl rfl rfl ⟨by decide, by decide⟩ rfl ?_
          refine ev_gB [false] [some (32 + 7 * 0)] rfl ?_
          refine ev_inV 0 k_MW_99 h_SD_isUnderWay rfl rfl rfl rfl rfl ⟨by decide, by decide⟩ rfl ?_
          refine ev_gB [true] [] rfl ?_
          refine ev_retz rfl (by first | decide | exact zb_01 _) ?_
          refine ev_gB [true, false] [some (32 + 7 * 1)] rfl ?_
          refine ev_inV 0 k_MW_99 h_SD_isUnderWay rfl rfl rfl rfl rfl ⟨by decide, by decide⟩ rfl ?_
          refine ev_gB [false] [] rfl ?_
          refine ev_retz rfl (by first | decide | exact zb_01 _) ?_
          refine ev_gB [false, false] [some (32 + 7 * 2)] rfl ?_
          refine ev_inV 0 k_MW_99 h_SD_isUnderWay rfl rfl rfl rfl rfl ⟨by decide, by decide⟩ rfl ?_
          refine ev_gB [true] [] rfl ?_
          refine ev_retz rfl (by first | decide | exact zb_01 _) ?_
          refine ev_gB [true, true] [] rfl ?_
          refine ev_reti rfl ?_
          refine ev_gB [false] [] rfl ?_
          refine ev_reti rfl ?_
          refine ct_of h_MM_empty rfl rfl rfl ?_
          refine ev_g0 rfl ?_
          refine ev_inS 3 k_MM_188 h_MM_in rfl rfl rfl rfl ⟨by decide, by decide⟩ rfl ?_
          refine ev_gB [false, false] [] rfl ?_
          refine ev_retz rfl (by first | decide | exact zb_01 _) ?_
          refine ev_gB [true] [] rfl ?_
          refine ev_inV 0 k_MM_262 h_MM_underWay rfl rfl rfl rfl rfl ⟨by decide, by decide⟩ rfl ?_
          refine ev_gB [false, true, false, false, false, true, true] [] rfl ?_
          refine ev_reti rfl ?_
          refine ev_gB [false] [] rfl ?_
          refine ev_reti rfl ?_
          exact ⟨lf_B, ci, cn, co, xj, xd, xf, xo, xi, xn, hC, hM, hI, hW⟩
      · skip
        have hv1 : decide (0 < cn 0 1 0) = false := decide_eq_false hu1
        by_cases hu2 : 0 < cn 0 2 0
        · skip
          have hv2 : decide (0 < cn 0 2 0) = true := decide_eq_true hu2
          refine ct_of h_MW_empty rfl rfl rfl ?_
          refine ev_g0 rfl ?_
          refine ev_inV 1 k_MW_67 h_MW_programAt rfl rfl rfl rfl rfl ⟨by decide, by decide⟩ rfl ?_
          refine ev_gB [false, false] [some (14 + 3 * p)] rfl ?_
          refine ev_reta rfl ?_
          refine ev_g0 rfl ?_
          refine ev_inV 0 k_MW_88 h_MW_underWay rfl rfl rfl rfl rfl ⟨by decide, by decide⟩ rfl ?_
          refine ev_gB [false] [some (32 + 7 * 0)] rfl ?_
          refine ev_inV 0 k_MW_99 h_SD_isUnderWay rfl rfl rfl rfl rfl ⟨by decide, by decide⟩ rfl ?_
          refine ev_gB [true] [] rfl ?_
          refine ev_retz rfl (by first | decide | exact zb_01 _) ?_
          refine ev_gB [true, false] [some (32 + 7 * 1)] rfl ?_
          refine ev_inV 0 k_MW_99 h_SD_isUnderWay rfl rfl rfl rfl rfl ⟨by decide, by decide⟩ rfl ?_
          refine ev_gB [true] [] rfl ?_
          refine ev_retz rfl (by first | decide | exact zb_01 _) ?_
          refine ev_gB [true, false] [some (32 + 7 * 2)] rfl ?_
          refine ev_inV 0 k_MW_99 h_SD_isUnderWay rfl rfl rfl rfl rfl ⟨by decide, by decide⟩ rfl ?_
          refine ev_gB [false] [] rfl ?_
          refine ev_retz rfl (by first | decide | exact zb_01 _) ?_
          refine ev_gB [false, true] [] rfl ?_
          refine ev_reti rfl ?_
          refine ev_gB [false] [] rfl ?_
          refine ev_reti rfl ?_
          refine ct_of h_MM_empty rfl rfl rfl ?_
          refine ev_g0 rfl ?_
          refine ev_inS 3 k_MM_188 h_MM_in rfl rfl rfl rfl ⟨by decide, by decide⟩ rfl ?_
          refine ev_gB [false, false] [] rfl ?_
          refine ev_retz rfl (by first | decide | exact zb_01 _) ?_
          refine ev_gB [true] [] rfl ?_
          refine ev_inV 0 k_MM_262 h_MM_underWay rfl rfl rfl rfl rfl ⟨by decide, by decide⟩ rfl ?_
          refine ev_gB [false, true, false, true, false, false, true] [] rfl ?_
          refine ev_reti rfl ?_
          refine ev_gB [false] [] rfl ?_
          refine ev_reti rfl ?_
          exact ⟨lf_B, ci, cn, co, xj, xd, xf, xo, xi, xn, hC, hM, hI, hW⟩
        · skip
          have hv2 : decide (0 < cn 0 2 0) = false := decide_eq_false hu2
          refine ct_of h_MW_empty rfl rfl rfl ?_
          refine ev_g0 rfl ?_
          refine ev_inV 1 k_MW_67 h_MW_programAt rfl rfl rfl rfl rfl ⟨by decide, by decide⟩ rfl ?_
          refine ev_gB [false, false] [some (14 + 3 * p)] rfl ?_
          refine ev_reta rfl ?_
          refine ev_g0 rfl ?_
          refine ev_inV 0 k_MW_88 h_MW_underWay rfl rfl rfl rfl rfl ⟨by decide, by decide⟩ rfl ?_
          refine ev_gB [false] [some (32 + 7 * 0)] rfl ?_
          refine ev_inV 0 k_MW_99 h_SD_isUnderWay rfl rfl rfl rfl rfl ⟨by decide, by decide⟩ rfl ?_
          refine ev_gB [true] [] rfl ?_
          refine ev_retz rfl (by first | decide | exact zb_01 _) ?_
          refine ev_gB [true, false] [some (32 + 7 * 1)] rfl ?_
          refine ev_inV 0 k_MW_99 h_SD_isUnderWay rfl rfl rfl rfl rfl ⟨by decide, by decide⟩ rfl ?_
          refine ev_gB [true] [] rfl ?_
          refine ev_retz rfl (by first | decide | exact zb_01 _) ?_
          refine ev_gB [true, false] [some (32 + 7 * 2)] rfl ?_
          refine ev_inV 0 k_MW_99 h_SD_isUnderWay rfl rfl rfl rfl rfl ⟨by decide, by decide⟩ rfl ?_
          refine ev_gB [true] [] rfl ?_
          refine ev_retz rfl (by first | decide | exact zb_01 _) ?_
          refine ev_gB [true, true] [] rfl ?_
          refine ev_reti rfl ?_
          refine ev_gB [true] [] rfl ?_
          refine ev_inV 0 k_MW_92 h_PR_forget rfl rfl rfl rfl rfl ⟨by decide, by decide⟩ rfl ?_
          refine ev_g0 rfl ?_
          refine ev_reti rfl ?_
          refine ev_g0 rfl ?_
          refine ev_reti rfl ?_
          refine ct_of h_MM_empty rfl rfl rfl ?_
          refine ev_g0 rfl ?_
          refine ev_inS 3 k_MM_188 h_MM_in rfl rfl rfl rfl ⟨by decide, by decide⟩ rfl ?_
          refine ev_gB [false, false] [] rfl ?_
          refine ev_retz rfl (by first | decide | exact zb_01 _) ?_
          refine ev_gB [true] [] rfl ?_
          refine ev_inV 0 k_MM_262 h_MM_underWay rfl rfl rfl rfl rfl ⟨by decide, by decide⟩ rfl ?_
          refine ev_gB [false, true, false, true, false, true, true] [] rfl ?_
          refine ev_reti rfl ?_
          refine ev_gB [true] [] rfl ?_
          refine ev_reti rfl ?_
          refine ⟨lf_B, ci, (u3 (u3 cn 3 p 0 0) 4 p 0 0), co, xj, xd, xf, xo, xi, xn, ?_, ?_, ?_, ?_⟩
          · have h9 := CU_emp hC hp
            show RC _ _ _ _ _ _ _ _ _ _ _ _ _ _ _ _
            exact h9
          · have h9 := MU_emp hM hp
            show RM _ _ _ _ _ _ _ _ _ _ _ _
            simp (disch := first | assumption | omega | decide) only [n_cl]
            exact h9
          · exact IC_emp hI
          · exact hW
  · skip
    refine ct_of h_MW_empty rfl rfl rfl ?_
    refine ev_g0 rfl ?_
    refine ev_inV 1 k_MW_67 h_MW_programAt rfl rfl rfl rfl rfl ⟨by decide, by decide⟩ rfl ?_
    refine ev_g0 rfl ?_
    refine ev_bB rfl rfl (fun h_1 => ?_) (fun h_1 => ?_)
    · skip
      refine ev_g0 rfl ?_
      refine ev_retn rfl ?_
      refine ev_g0 rfl ?_
      refine ev_reti rfl ?_
      refine ct_of h_MM_empty rfl rfl rfl ?_
      refine ev_g0 rfl ?_
      refine ev_inS 3 k_MM_188 h_MM_in rfl rfl rfl rfl ⟨by decide, by decide⟩ rfl ?_
      refine ev_gB [true] [] rfl ?_
      refine ev_retz rfl (by first | decide | exact zb_01 _) ?_
      refine ev_gB [false] [] rfl ?_
      refine ev_reti rfl ?_
      exact ⟨lf_B, ci, cn, co, xj, xd, xf, xo, xi, xn, hC, hM, hI, hW⟩
    · skip
      refine ev_gB [true] [] rfl ?_
      refine ev_retn rfl ?_
      refine ev_g0 rfl ?_
      refine ev_reti rfl ?_
      refine ct_of h_MM_empty rfl rfl rfl ?_
      refine ev_g0 rfl ?_
      refine ev_inS 3 k_MM_188 h_MM_in rfl rfl rfl rfl ⟨by decide, by decide⟩ rfl ?_
      refine ev_gB [false, true] [] rfl ?_
      refine ev_retz rfl (by first | decide | exact zb_01 _) ?_
      refine ev_gB [false] [] rfl ?_
      refine ev_reti rfl ?_
      exact ⟨lf_B, ci, cn, co, xj, xd, xf, xo, xi, xn, hC, hM, hI, hW⟩
theorem Q_count {ci : Nat → Nat → Nat → Int32} {cn : Nat → Nat → Nat → Nat} {co : Nat → Option Nat} {xj : Nat → Nat → Nat → Int64} {xd : Nat → Nat → Nat → UInt64} {xf : Nat → Nat → Nat → UInt32} {xo : Nat → Nat → Nat → Option Nat} {xi : Nat → Nat → Nat → Int32} {xn : Nat → Nat → Nat → Nat} {K : Nat → Nat} {I : Nat → Nat → Int32} {J : Nat → Nat → Int64} {F : Nat → Nat → UInt32} {D : Nat → Nat → UInt64} {R : Nat → Nat → Option Nat} {nx sl : Nat} {Km : Nat → Nat} {Im : Nat → Nat → Int32} {Jm : Nat → Nat → Int64} {Fm : Nat → Nat → UInt32} {Dm : Nat → Nat → UInt64} {Rm : Nat → Nat → Option Nat} {nxm slm : Nat} (hC : RC ci cn co xj xd xf xo xi xn I J F D R nx sl) (hM : RM ci cn co xj xd xf xo xi xn Im Jm Dm) (hI : IC ci cn) (hW : IW cn co) {wh : Int32} : Ct Y_MW_count [vr 10 6, vi wh] (K, I, J, F, D, R, nx, sl) (fun r μ1 => Ct Y_MM_count [vr 11 6, vi wh] (Km, Im, Jm, Fm, Dm, Rm, nxm, slm) (fun r2 μ2 => r = r2 ∧ RELS μ1 μ2)) := by
  rcases icc wh 8 (by decide) with ⟨w, hw, rfl⟩ | hwh
  · skip
    have ym := rc_imad hC
    rcases (by
        by_cases w0 : w = 0
        · exact Or.inl w0
        · by_cases w7 : w = 7
          · exact Or.inr (Or.inr w7)
          · exact Or.inr (Or.inl ⟨w - 1, by omega, by omega⟩) : w = 0 ∨ (∃ p, p < 6 ∧ w = p + 1) ∨ w = 7) with rfl | ⟨p, hp, rfl⟩ | rfl
    · skip
      refine ct_of h_MW_count rfl rfl rfl ?_
      refine ev_gB [false] [] rfl ?_
      refine ev_reti rfl ?_
      refine ct_of h_MM_count rfl rfl rfl ?_
      refine ev_gB [false] [] rfl ?_
      refine ev_reti rfl ?_
      exact ⟨lf_B, ci, cn, co, xj, xd, xf, xo, xi, xn, hC, hM, hI, hW⟩
    · skip
      have i2 := hI.2.2.1 p hp
      refine ct_of h_MW_count rfl rfl rfl ?_
      refine ev_gB [true, true, true] [] rfl ?_
      refine ev_inV 1 k_MW_67 h_MW_programAt rfl rfl rfl rfl rfl ⟨by decide, by decide⟩ rfl ?_
      refine ev_gB [false, false] [some (14 + 3 * p)] rfl ?_
      refine ev_reta rfl ?_
      refine ev_g0 rfl ?_
      refine ev_reti rfl ?_
      refine ct_of h_MM_count rfl rfl rfl ?_
      refine ev_gB [true] [] rfl ?_
      refine ev_inS 3 k_MM_188 h_MM_in rfl rfl rfl rfl ⟨by decide, by decide⟩ rfl ?_
      refine ev_gB [false, false] [] rfl ?_
      refine ev_retz rfl (by first | decide | exact zb_01 _) ?_
      refine ev_gB [false] [] rfl ?_
      refine ev_reti rfl ?_
      exact ⟨lf_B, ci, cn, co, xj, xd, xf, xo, xi, xn, hC, hM, hI, hW⟩
    · skip
      have d0 := hI.1 0 (by decide)
      have d1 := hI.1 1 (by decide)
      have d2 := hI.1 2 (by decide)
      by_cases hu0 : 0 < cn 0 0 0
      · skip
        have hv0 : decide (0 < cn 0 0 0) = true := decide_eq_true hu0
        by_cases hu1 : 0 < cn 0 1 0
        · skip
          have hv1 : decide (0 < cn 0 1 0) = true := decide_eq_true hu1
          by_cases hu2 : 0 < cn 0 2 0
          · skip
            have hv2 : decide (0 < cn 0 2 0) = true := decide_eq_true hu2
            refine ct_of h_MW_count rfl rfl rfl ?_
            refine ev_gB [true, false] [] rfl ?_
            refine ev_inV 0 k_MW_88 h_MW_underWay rfl rfl rfl rfl rfl ⟨by decide, by decide⟩ rfl ?_
            refine ev_gB [false] [some (32 + 7 * 0)] rfl ?_
            refine ev_inV 0 k_MW_99 h_SD_isUnderWay rfl rfl rfl rfl rfl ⟨by decide, by decide⟩ rfl ?_
            refine ev_gB [false] [] rfl ?_
            refine ev_retz rfl (by first | decide | exact zb_01 _) ?_
            refine ev_gB [false, false] [some (32 + 7 * 1)] rfl ?_
            refine ev_inV 0 k_MW_99 h_SD_isUnderWay rfl rfl rfl rfl rfl ⟨by decide, by decide⟩ rfl ?_
            refine ev_gB [false] [] rfl ?_
            refine ev_retz rfl (by first | decide | exact zb_01 _) ?_
            refine ev_gB [false, false] [some (32 + 7 * 2)] rfl ?_
            refine ev_inV 0 k_MW_99 h_SD_isUnderWay rfl rfl rfl rfl rfl ⟨by decide, by decide⟩ rfl ?_
            refine ev_gB [false] [] rfl ?_
            refine ev_retz rfl (by first | decide | exact zb_01 _) ?_
            refine ev_gB [false, true] [] rfl ?_
            refine ev_reti rfl ?_
            refine ev_g0 rfl ?_
            refine ev_reti rfl ?_
            refine ct_of h_MM_count rfl rfl rfl ?_
            refine ev_gB [true] [] rfl ?_
            refine ev_inS 3 k_MM_188 h_MM_in rfl rfl rfl rfl ⟨by decide, by decide⟩ rfl ?_
            refine ev_gB [false, true] [] rfl ?_
            refine ev_retz rfl (by first | decide | exact zb_01 _) ?_
            refine ev_gB [true, false] [] rfl ?_
            refine ev_inV 0 k_MM_262 h_MM_underWay rfl rfl rfl rfl rfl ⟨by decide, by decide⟩ rfl ?_
            refine ev_gB [false, false, false, false, false, false, true] [] rfl ?_
            refine ev_reti rfl ?_
            refine ev_g0 rfl ?_
            refine ev_reti rfl ?_
            exact ⟨lf_B, ci, cn, co, xj, xd, xf, xo, xi, xn, hC, hM, hI, hW⟩
          · skip
            have hv2 : decide (0 < cn 0 2 0) = false := decide_eq_false hu2
            refine ct_of h_MW_count rfl rfl rfl ?_
            refine ev_gB [true, false] [] rfl ?_
            refine ev_inV 0 k_MW_88 h_MW_underWay rfl rfl rfl rfl rfl ⟨by decide, by decide⟩ rfl ?_
            refine ev_gB [false] [some (32 + 7 * 0)] rfl ?_
            refine ev_inV 0 k_MW_99 h_SD_isUnderWay rfl rfl rfl rfl rfl ⟨by decide, by decide⟩ rfl ?_
            refine ev_gB [false] [] rfl ?_
            refine ev_retz rfl (by first | decide | exact zb_01 _) ?_
            refine ev_gB [false, false] [some (32 + 7 * 1)] rfl ?_
            refine ev_inV 0 k_MW_99 h_SD_isUnderWay rfl rfl rfl rfl rfl ⟨by decide, by decide⟩ rfl ?_
            refine ev_gB [false] [] rfl ?_
            refine ev_retz rfl (by first | decide | exact zb_01 _) ?_
            refine ev_gB [false, false] [some (32 + 7 * 2)] rfl ?_
            refine ev_inV 0 k_MW_99 h_SD_isUnderWay rfl rfl rfl rfl rfl ⟨by decide, by decide⟩ rfl ?_
            refine ev_gB [true] [] rfl ?_
            refine ev_retz rfl (by first | decide | exact zb_01 _) ?_
            refine ev_gB [true, true] [] rfl ?_
            refine ev_reti rfl ?_
            refine ev_g0 rfl ?_
            refine ev_reti rfl ?_
            refine ct_of h_MM_count rfl rfl rfl ?_
            refine ev_gB [true] [] rfl ?_
            refine ev_inS 3 k_MM_188 h_MM_in rfl rfl rfl rfl ⟨by decide, by decide⟩ rfl ?_
            refine ev_gB [false, true] [] rfl ?_
            refine ev_retz rfl (by first | decide | exact zb_01 _) ?_
            refine ev_gB [true, false] [] rfl ?_
            refine ev_inV 0 k_MM_262 h_MM_underWay rfl rfl rfl rfl rfl ⟨by decide, by decide⟩ rfl ?_
            refine ev_gB [false, false, false, false, false, true, true] [] rfl ?_
            refine ev_reti rfl ?_
            refine ev_g0 rfl ?_
            refine ev_reti rfl ?_
            exact ⟨lf_B, ci, cn, co, xj, xd, xf, xo, xi, xn, hC, hM, hI, hW⟩
        · skip
          have hv1 : decide (0 < cn 0 1 0) = false := decide_eq_false hu1
          by_cases hu2 : 0 < cn 0 2 0
          · skip
            have hv2 : decide (0 < cn 0 2 0) = true := decide_eq_true hu2
            refine ct_of h_MW_count rfl rfl rfl ?_
            refine ev_gB [true, false] [] rfl ?_
            refine ev_inV 0 k_MW_88 h_MW_underWay rfl rfl rfl rfl rfl ⟨by decide, by decide⟩ rfl ?_
            refine ev_gB [false] [some (32 + 7 * 0)] rfl ?_
            refine ev_inV 0 k_MW_99 h_SD_isUnderWay rfl rfl rfl rfl rfl ⟨by decide, by decide⟩ rfl ?_
            refine ev_gB [false] [] rfl ?_
            refine ev_retz rfl (by first | decide | exact zb_01 _) ?_
            refine ev_gB [false, false] [some (32 + 7 * 1)] rfl ?_
            refine ev_inV 0 k_MW_99 h_SD_isUnderWay rfl rfl rfl rfl rfl ⟨by decide, by decide⟩ rfl ?_
            refine ev_gB [true] [] rfl ?_
            refine ev_retz rfl (by first | decide | exact zb_01 _) ?_
            refine ev_gB [true, false] [some (32 + 7 * 2)] rfl ?_
            refine ev_inV 0 k_MW_99 h_SD_isUnderWay rfl rfl rfl rfl rfl ⟨by decide, by decide⟩ rfl ?_
            refine ev_gB [false] [] rfl ?_
            refine ev_retz rfl (by first | decide | exact zb_01 _) ?_
            refine ev_gB [false, true] [] rfl ?_
            refine ev_reti rfl ?_
            refine ev_g0 rfl ?_
            refine ev_reti rfl ?_
            refine ct_of h_MM_count rfl rfl rfl ?_
            refine ev_gB [true] [] rfl ?_
            refine ev_inS 3 k_MM_188 h_MM_in rfl rfl rfl rfl ⟨by decide, by decide⟩ rfl ?_
            refine ev_gB [false, true] [] rfl ?_
            refine ev_retz rfl (by first | decide | exact zb_01 _) ?_
            refine ev_gB [true, false] [] rfl ?_
            refine ev_inV 0 k_MM_262 h_MM_underWay rfl rfl rfl rfl rfl ⟨by decide, by decide⟩ rfl ?_
            refine ev_gB [false, false, false, true, false, false, true] [] rfl ?_
            refine ev_reti rfl ?_
            refine ev_g0 rfl ?_
            refine ev_reti rfl ?_
            exact ⟨lf_B, ci, cn, co, xj, xd, xf, xo, xi, xn, hC, hM, hI, hW⟩
          · skip
            have hv2 : decide (0 < cn 0 2 0) = false := decide_eq_false hu2
            refine ct_of h_MW_count rfl rfl rfl ?_
            refine ev_gB [true, false] [] rfl ?_
            refine ev_inV 0 k_MW_88 h_MW_underWay rfl rfl rfl rfl rfl ⟨by decide, by decide⟩ rfl ?_
            refine ev_gB [false] [some (32 + 7 * 0)] rfl ?_
            refine ev_inV 0 k_MW_99 h_SD_isUnderWay rfl rfl rfl rfl rfl ⟨by decide, by decide⟩ rfl ?_
            refine ev_gB [false] [] rfl ?_
            refine ev_retz rfl (by first | decide | exact zb_01 _) ?_
            refine ev_gB [false, false] [some (32 + 7 * 1)] rfl ?_
            refine ev_inV 0 k_MW_99 h_SD_isUnderWay rfl rfl rfl rfl rfl ⟨by decide, by decide⟩ rfl ?_
            refine ev_gB [true] [] rfl ?_
            refine ev_retz rfl (by first | decide | exact zb_01 _) ?_
            refine ev_gB [true, false] [some (32 + 7 * 2)] rfl ?_
            refine ev_inV 0 k_MW_99 h_SD_isUnderWay rfl rfl rfl rfl rfl ⟨by decide, by decide⟩ rfl ?_
            refine ev_gB [true] [] rfl ?_
            refine ev_retz rfl (by first | decide | exact zb_01 _) ?_
            refine ev_gB [true, true] [] rfl ?_
            refine ev_reti rfl ?_
            refine ev_g0 rfl ?_
            refine ev_reti rfl ?_
            refine ct_of h_MM_count rfl rfl rfl ?_
            refine ev_gB [true] [] rfl ?_
            refine ev_inS 3 k_MM_188 h_MM_in rfl rfl rfl rfl ⟨by decide, by decide⟩ rfl ?_
            refine ev_gB [false, true] [] rfl ?_
            refine ev_retz rfl (by first | decide | exact zb_01 _) ?_
            refine ev_gB [true, false] [] rfl ?_
            refine ev_inV 0 k_MM_262 h_MM_underWay rfl rfl rfl rfl rfl ⟨by decide, by decide⟩ rfl ?_
            refine ev_gB [false, false, false, true, false, true, true] [] rfl ?_
            refine ev_reti rfl ?_
            refine ev_g0 rfl ?_
            refine ev_reti rfl ?_
            exact ⟨lf_B, ci, cn, co, xj, xd, xf, xo, xi, xn, hC, hM, hI, hW⟩
      · skip
        have hv0 : decide (0 < cn 0 0 0) = false := decide_eq_false hu0
        by_cases hu1 : 0 < cn 0 1 0
        · skip
          have hv1 : decide (0 < cn 0 1 0) = true := decide_eq_true hu1
          by_cases hu2 : 0 < cn 0 2 0
          · skip
            have hv2 : decide (0 < cn 0 2 0) = true := decide_eq_true hu2
            refine ct_of h_MW_count rfl rfl rfl ?_
            refine ev_gB [true, false] [] rfl ?_
            refine ev_inV 0 k_MW_88 h_MW_underWay rfl rfl rfl rfl rfl ⟨by decide, by decide⟩ rfl ?_
            refine ev_gB [false] [some (32 + 7 * 0)] rfl ?_
            refine ev_inV 0 k_MW_99 h_SD_isUnderWay rfl rfl rfl rfl rfl ⟨by decide, by decide⟩ rfl ?_
            refine ev_gB [true] [] rfl ?_
            refine ev_retz rfl (by first | decide | exact zb_01 _) ?_
            refine ev_gB [true, false] [some (32 + 7 * 1)] rfl ?_
            refine ev_inV 0 k_MW_99 h_SD_isUnderWay rfl rfl rfl rfl rfl ⟨by decide, by decide⟩ rfl ?_
            refine ev_gB [false] [] rfl ?_
            refine ev_retz rfl (by first | decide | exact zb_01 _) ?_
            refine ev_gB [false, false] [some (32 + 7 * 2)] rfl ?_
            refine ev_inV 0 k_MW_99 h_SD_isUnderWay rfl rfl rfl rfl rfl ⟨by decide, by decide⟩ rfl ?_
            refine ev_gB [false] [] rfl ?_
            refine ev_retz rfl (by first | decide | exact zb_01 _) ?_
            refine ev_gB [false, true] [] rfl ?_
            refine ev_reti rfl ?_
            refine ev_g0 rfl ?_
            refine ev_reti rfl ?_
            refine ct_of h_MM_count rfl rfl rfl ?_
            refine ev_gB [true] [] rfl ?_
            refine ev_inS 3 k_MM_188 h_MM_in rfl rfl rfl rfl ⟨by decide, by decide⟩ rfl ?_
            refine ev_gB [false, true] [] rfl ?_
            refine ev_retz rfl (by first | decide | exact zb_01 _) ?_
            refine ev_gB [true, false] [] rfl ?_
            refine ev_inV 0 k_MM_262 h_MM_underWay rfl rfl rfl rfl rfl ⟨by decide, by decide⟩ rfl ?_
            refine ev_gB [false, true, false, false, false, false, true] [] rfl ?_
            refine ev_reti rfl ?_
            refine ev_g0 rfl ?_
            refine ev_reti rfl ?_
            exact ⟨lf_B, ci, cn, co, xj, xd, xf, xo, xi, xn, hC, hM, hI, hW⟩
          · skip
            have hv2 : decide (0 < cn 0 2 0) = false := decide_eq_false hu2
            refine ct_of h_MW_count rfl rfl rfl ?_
            refine ev_gB [true, false] [] rfl ?_
            refine ev_inV 0 k_MW_88 h_MW_underWay rfl rfl rfl rfl rfl ⟨by decide, by decide⟩ rfl ?_
            refine ev_gB [false] [some (32 + 7 * 0)] rfl ?_
            refine ev_inV 0 k_MW_99 h_SD_isUnderWay rfl rfl rfl rfl rfl ⟨by decide, by decide⟩ rfl ?_
            refine ev_gB [true] [] rfl ?_
            refine ev_retz rfl (by first | decide | exact zb_01 _) ?_
            refine ev_gB [true, false] [some (32 + 7 * 1)] rfl ?_
            refine ev_inV 0 k_MW_99 h_SD_isUnderWay rfl rfl rfl rfl rfl ⟨by decide, by decide⟩ rfl ?_
            refine ev_gB [false] [] rfl ?_
            refine ev_retz rfl (by first | decide | exact zb_01 _) ?_
            refine ev_gB [false, false] [some (32 + 7 * 2)] rfl ?_
            refine ev_inV 0 k_MW_99 h_SD_isUnderWay rfl rfl rfl rfl rfl ⟨by decide, by decide⟩ rfl ?_
            refine ev_gB [true] [] rfl ?_
            refine ev_retz rfl (by first | decide | exact zb_01 _) ?_
            refine ev_gB [true, true] [] rfl ?_
            refine ev_reti rfl ?_
            refine ev_g0 rfl ?_
            refine ev_reti rfl ?_
            refine ct_of h_MM_count rfl rfl rfl ?_
            refine ev_gB [true] [] rfl ?_
            refine ev_inS 3 k_MM_188 h_MM_in rfl rfl rfl rfl ⟨by decide, by decide⟩ rfl ?_
            refine ev_gB [false, true] [] rfl ?_
            refine ev_retz rfl (by first | decide | exact zb_01 _) ?_
            refine ev_gB [true, false] [] rfl ?_
            refine ev_inV 0 k_MM_262 h_MM_underWay rfl rfl rfl rfl rfl ⟨by decide, by decide⟩ rfl ?_
            refine ev_gB [false, true, false, false, false, true, true] [] rfl ?_
            refine ev_reti rfl ?_
            refine ev_g0 rfl ?_
            refine ev_reti rfl ?_
            exact ⟨lf_B, ci, cn, co, xj, xd, xf, xo, xi, xn, hC, hM, hI, hW⟩
        · skip
          have hv1 : decide (0 < cn 0 1 0) = false := decide_eq_false hu1
          by_cases hu2 : 0 < cn 0 2 0
          · skip
            have hv2 : decide (0 < cn 0 2 0) = true := decide_eq_true hu2
            refine ct_of h_MW_count rfl rfl rfl ?_
            refine ev_gB [true, false] [] rfl ?_
            refine ev_inV 0 k_MW_88 h_MW_underWay rfl rfl rfl rfl rfl ⟨by decide, by decide⟩ rfl ?_
            refine ev_gB [false] [some (32 + 7 * 0)] rfl ?_
            refine ev_inV 0 k_MW_99 h_SD_isUnderWay rfl rfl rfl rfl rfl ⟨by decide, by decide⟩ rfl ?_
            refine ev_gB [true] [] rfl ?_
            refine ev_retz rfl (by first | decide | exact zb_01 _) ?_
            refine ev_gB [true, false] [some (32 + 7 * 1)] rfl ?_
            refine ev_inV 0 k_MW_99 h_SD_isUnderWay rfl rfl rfl rfl rfl ⟨by decide, by decide⟩ rfl ?_
            refine ev_gB [true] [] rfl ?_
            refine ev_retz rfl (by first | decide | exact zb_01 _) ?_
            refine ev_gB [true, false] [some (32 + 7 * 2)] rfl ?_
            refine ev_inV 0 k_MW_99 h_SD_isUnderWay rfl rfl rfl rfl rfl ⟨by decide, by decide⟩ rfl ?_
            refine ev_gB [false] [] rfl ?_
            refine ev_retz rfl (by first | decide | exact zb_01 _) ?_
            refine ev_gB [false, true] [] rfl ?_
            refine ev_reti rfl ?_
            refine ev_g0 rfl ?_
            refine ev_reti rfl ?_
            refine ct_of h_MM_count rfl rfl rfl ?_
            refine ev_gB [true] [] rfl ?_
            refine ev_inS 3 k_MM_188 h_MM_in rfl rfl rfl rfl ⟨by decide, by decide⟩ rfl ?_
            refine ev_gB [false, true] [] rfl ?_
            refine ev_retz rfl (by first | decide | exact zb_01 _) ?_
            refine ev_gB [true, false] [] rfl ?_
            refine ev_inV 0 k_MM_262 h_MM_underWay rfl rfl rfl rfl rfl ⟨by decide, by decide⟩ rfl ?_
            refine ev_gB [false, true, false, true, false, false, true] [] rfl ?_
            refine ev_reti rfl ?_
            refine ev_g0 rfl ?_
            refine ev_reti rfl ?_
            exact ⟨lf_B, ci, cn, co, xj, xd, xf, xo, xi, xn, hC, hM, hI, hW⟩
          · skip
            have hv2 : decide (0 < cn 0 2 0) = false := decide_eq_false hu2
            refine ct_of h_MW_count rfl rfl rfl ?_
            refine ev_gB [true, false] [] rfl ?_
            refine ev_inV 0 k_MW_88 h_MW_underWay rfl rfl rfl rfl rfl ⟨by decide, by decide⟩ rfl ?_
            refine ev_gB [false] [some (32 + 7 * 0)] rfl ?_
            refine ev_inV 0 k_MW_99 h_SD_isUnderWay rfl rfl rfl rfl rfl ⟨by decide, by decide⟩ rfl ?_
            refine ev_gB [true] [] rfl ?_
            refine ev_retz rfl (by first | decide | exact zb_01 _) ?_
            refine ev_gB [true, false] [some (32 + 7 * 1)] rfl ?_
            refine ev_inV 0 k_MW_99 h_SD_isUnderWay rfl rfl rfl rfl rfl ⟨by decide, by decide⟩ rfl ?_
            refine ev_gB [true] [] rfl ?_
            refine ev_retz rfl (by first | decide | exact zb_01 _) ?_
            refine ev_gB [true, false] [some (32 + 7 * 2)] rfl ?_
            refine ev_inV 0 k_MW_99 h_SD_isUnderWay rfl rfl rfl rfl rfl ⟨by decide, by decide⟩ rfl ?_
            refine ev_gB [true] [] rfl ?_
            refine ev_retz rfl (by first | decide | exact zb_01 _) ?_
            refine ev_gB [true, true] [] rfl ?_
            refine ev_reti rfl ?_
            refine ev_g0 rfl ?_
            refine ev_reti rfl ?_
            refine ct_of h_MM_count rfl rfl rfl ?_
            refine ev_gB [true] [] rfl ?_
            refine ev_inS 3 k_MM_188 h_MM_in rfl rfl rfl rfl ⟨by decide, by decide⟩ rfl ?_
            refine ev_gB [false, true] [] rfl ?_
            refine ev_retz rfl (by first | decide | exact zb_01 _) ?_
            refine ev_gB [true, false] [] rfl ?_
            refine ev_inV 0 k_MM_262 h_MM_underWay rfl rfl rfl rfl rfl ⟨by decide, by decide⟩ rfl ?_
            refine ev_gB [false, true, false, true, false, true, true] [] rfl ?_
            refine ev_reti rfl ?_
            refine ev_g0 rfl ?_
            refine ev_reti rfl ?_
            exact ⟨lf_B, ci, cn, co, xj, xd, xf, xo, xi, xn, hC, hM, hI, hW⟩
  · skip
    refine ct_of h_MW_count rfl rfl rfl ?_
    refine ev_gB [true, true] [] rfl ?_
    refine ev_bB rfl rfl (fun h_1 => ?_) (fun h_1 => ?_)
    · skip
      refine ev_g0 rfl ?_
      refine ev_inV 1 k_MW_67 h_MW_programAt rfl rfl rfl rfl rfl ⟨by decide, by decide⟩ rfl ?_
      refine ev_gB [false, true] [] rfl ?_
      refine ev_retn rfl ?_
      refine ev_g0 rfl ?_
      refine ev_reti rfl ?_
      refine ct_of h_MM_count rfl rfl rfl ?_
      refine ev_gB [true] [] rfl ?_
      refine ev_inS 3 k_MM_188 h_MM_in rfl rfl rfl rfl ⟨by decide, by decide⟩ rfl ?_
      refine ev_gB [false, true] [] rfl ?_
      refine ev_retz rfl (by first | decide | exact zb_01 _) ?_
      refine ev_gB [true, true] [] rfl ?_
      refine ev_reti rfl ?_
      exact ⟨lf_B, ci, cn, co, xj, xd, xf, xo, xi, xn, hC, hM, hI, hW⟩
    · skip
      refine ev_g0 rfl ?_
      refine ev_reti rfl ?_
      refine ct_of h_MM_count rfl rfl rfl ?_
      refine ev_gB [true] [] rfl ?_
      refine ev_inS 3 k_MM_188 h_MM_in rfl rfl rfl rfl ⟨by decide, by decide⟩ rfl ?_
      refine ev_gB [true] [] rfl ?_
      refine ev_retz rfl (by first | decide | exact zb_01 _) ?_
      refine ev_gB [true, true] [] rfl ?_
      refine ev_reti rfl ?_
      exact ⟨lf_B, ci, cn, co, xj, xd, xf, xo, xi, xn, hC, hM, hI, hW⟩
set_option maxHeartbeats 8000000 in
theorem Q_handler {ci : Nat → Nat → Nat → Int32} {cn : Nat → Nat → Nat → Nat} {co : Nat → Option Nat} {xj : Nat → Nat → Nat → Int64} {xd : Nat → Nat → Nat → UInt64} {xf : Nat → Nat → Nat → UInt32} {xo : Nat → Nat → Nat → Option Nat} {xi : Nat → Nat → Nat → Int32} {xn : Nat → Nat → Nat → Nat} {K : Nat → Nat} {I : Nat → Nat → Int32} {J : Nat → Nat → Int64} {F : Nat → Nat → UInt32} {D : Nat → Nat → UInt64} {R : Nat → Nat → Option Nat} {nx sl : Nat} {Km : Nat → Nat} {Im : Nat → Nat → Int32} {Jm : Nat → Nat → Int64} {Fm : Nat → Nat → UInt32} {Dm : Nat → Nat → UInt64} {Rm : Nat → Nat → Option Nat} {nxm slm : Nat} (hC : RC ci cn co xj xd xf xo xi xn I J F D R nx sl) (hM : RM ci cn co xj xd xf xo xi xn Im Jm Dm) (hI : IC ci cn) (hW : IW cn co) {pr fr to fl pl : Int32} : Ct Y_MW_handler [vr 10 6, vi pr, vi fr, vi to, vi fl, vi pl] (K, I, J, F, D, R, nx, sl) (fun r μ1 => Ct Y_MM_handler [vr 11 6, vi pr, vi fr, vi to, vi fl, vi pl] (Km, Im, Jm, Fm, Dm, Rm, nxm, slm) (fun r2 μ2 => r = r2 ∧ RELS μ1 μ2)) := by
  rcases icc pr 6 (by decide) with ⟨p, hp, rfl⟩ | hpr
  · skip
    rcases icc fr 40 (by decide) with ⟨f, hf, rfl⟩ | hfr
    · skip
      rcases icc to 41 (by decide) with ⟨e, he, rfl⟩ | hto
      · skip
        rcases icc pl 40 (by decide) with ⟨l, hl, rfl⟩ | hpl
        · skip
          by_cases hfe : f < e
          · skip
            by_cases hf1 : fl.toInt = -1 ∨ (1 ≤ fl.toInt ∧ fl.toInt ≤ 10) ∨ (20 ≤ fl.toInt ∧ fl.toInt ≤ 29)
            · skip
              have i2 := hI.2.2.1 p hp
              by_cases h6 : cn 4 p 0 < 6
              · skip
                refine ct_of h_MW_handler rfl rfl rfl ?_
                refine ev_g0 rfl ?_
                refine ev_inV 1 k_MW_67 h_MW_programAt rfl rfl rfl rfl rfl ⟨by decide, by decide⟩ rfl ?_
                refine ev_gB [false, false] [some (14 + 3 * p)] rfl ?_
                refine ev_reta rfl ?_
                refine ev_gB [false, false, false, false, true] [] rfl ?_
                refine ev_inS 1 k_MW_81 h_MW_isHandled rfl rfl rfl rfl ⟨by decide, by decide⟩ rfl ?_
                refine ev_g0 rfl ?_
                refine ev_bB rfl rfl (fun h_1 => ?_) (fun h_1 => ?_)
                · skip
                  refine ev_g0 rfl ?_
                  refine ev_retz rfl (by first | decide | exact zb_01 _) ?_
                  refine ev_gB [true] [] rfl ?_
                  refine ev_inV 4 k_MW_85 h_PR_addHandler rfl rfl rfl rfl rfl ⟨by decide, by decide⟩ rfl ?_
                  refine ev_gB [true] [] rfl ?_
                  refine ev_inS 6 k_PR_25 h_PR_write rfl rfl rfl rfl ⟨by decide, by decide⟩ rfl ?_
                  refine ev_gB [] [] rfl ?_
                  refine ev_ret rfl ?_
                  refine ev_g0 rfl ?_
                  refine ev_reti rfl ?_
                  refine ev_g0 rfl ?_
                  refine ev_reti rfl ?_
                  refine ct_of h_MM_handler rfl rfl rfl ?_
                  refine ev_g0 rfl ?_
                  refine ev_inS 3 k_MM_188 h_MM_in rfl rfl rfl rfl ⟨by decide, by decide⟩ rfl ?_
                  refine ev_gB [false, false] [] rfl ?_
                  refine ev_retz rfl (by first | decide | exact zb_01 _) ?_
                  refine ev_gB [false, false, false, false] [] rfl ?_
                  refine ev_inS 1 k_MM_245 h_MM_isPlace rfl rfl rfl rfl ⟨by decide, by decide⟩ rfl ?_
                  refine ev_g0 rfl ?_
                  refine ev_inS 3 k_MM_188 h_MM_in rfl rfl rfl rfl ⟨by decide, by decide⟩ rfl ?_
                  refine ev_gB [false, false] [] rfl ?_
                  refine ev_retz rfl (by first | decide | exact zb_01 _) ?_
                  refine ev_g0 rfl ?_
                  refine ev_retz rfl (by first | decide | exact zb_01 _) ?_
                  refine ev_gB [false, false, true, true] [] rfl ?_
                  refine ev_reti rfl ?_
                  refine ⟨lf_B, (u3 ci 9 p (cn 4 p 0) fl), (u3 (u3 (u3 (u3 cn 6 p (cn 4 p 0) f) 7 p (cn 4 p 0) e) 8 p (cn 4 p 0) l) 4 p 0 (cn 4 p 0 + 1)), co, xj, xd, xf, xo, xi, xn, ?_, ?_, ?_, ?_⟩
                  · have h9 := CU_han (f := f) (e := e) (l := l) (v := fl) hC hp rfl
                    show RC _ _ _ _ _ _ _ _ _ _ _ _ _ _ _ _
                    simp (disch := first | assumption | omega | decide) only [up_ne, i_add, i_mul, n_cl, rc_phn hC, Nat.mul_comm (cn 4 p 0) 4]
                    exact h9
                  · have h9 := MU_han (f := f) (e := e) (l := l) (v := fl) hM hp rfl h6 hI.2.2.1
                    show RM _ _ _ _ _ _ _ _ _ _ _ _
                    simp (disch := first | assumption | omega | decide) only [up_ne, i_add, i_mul, n_cl, rm_phn hM]
                    exact h9
                  · exact IC_han hI rfl h6 (by omega) ⟨by omega, by omega⟩ hl
                  · exact hW
                · skip
                  refine ev_gB [false] [] rfl ?_
                  refine ev_bB rfl rfl (fun h_2 => ?_) (fun h_2 => ?_)
                  · skip
                    refine ev_g0 rfl ?_
                    refine ev_retz rfl (by first | decide | exact zb_01 _) ?_
                    refine ev_gB [true] [] rfl ?_
                    refine ev_inV 4 k_MW_85 h_PR_addHandler rfl rfl rfl rfl rfl ⟨by decide, by decide⟩ rfl ?_
                    refine ev_gB [true] [] rfl ?_
                    refine ev_inS 6 k_PR_25 h_PR_write rfl rfl rfl rfl ⟨by decide, by decide⟩ rfl ?_
                    refine ev_gB [] [] rfl ?_
                    refine ev_ret rfl ?_
                    refine ev_g0 rfl ?_
                    refine ev_reti rfl ?_
                    refine ev_g0 rfl ?_
                    refine ev_reti rfl ?_
                    refine ct_of h_MM_handler rfl rfl rfl ?_
                    refine ev_g0 rfl ?_
                    refine ev_inS 3 k_MM_188 h_MM_in rfl rfl rfl rfl ⟨by decide, by decide⟩ rfl ?_
                    refine ev_gB [false, false] [] rfl ?_
                    refine ev_retz rfl (by first | decide | exact zb_01 _) ?_
                    refine ev_gB [false, false, false, false] [] rfl ?_
                    refine ev_inS 1 k_MM_245 h_MM_isPlace rfl rfl rfl rfl ⟨by decide, by decide⟩ rfl ?_
                    refine ev_g0 rfl ?_
                    refine ev_inS 3 k_MM_188 h_MM_in rfl rfl rfl rfl ⟨by decide, by decide⟩ rfl ?_
                    refine ev_gB [false, false] [] rfl ?_
                    refine ev_retz rfl (by first | decide | exact zb_01 _) ?_
                    refine ev_g0 rfl ?_
                    refine ev_retz rfl (by first | decide | exact zb_01 _) ?_
                    refine ev_gB [false, false, false] [] rfl ?_
                    refine ev_inS 3 k_MM_188 h_MM_in rfl rfl rfl rfl ⟨by decide, by decide⟩ rfl ?_
                    refine ev_gB [false, false] [] rfl ?_
                    refine ev_retz rfl (by first | decide | exact zb_01 _) ?_
                    refine ev_gB [true, true] [] rfl ?_
                    refine ev_reti rfl ?_
                    refine ⟨lf_B, (u3 ci 9 p (cn 4 p 0) fl), (u3 (u3 (u3 (u3 cn 6 p (cn 4 p 0) f) 7 p (cn 4 p 0) e) 8 p (cn 4 p 0) l) 4 p 0 (cn 4 p 0 + 1)), co, xj, xd, xf, xo, xi, xn, ?_, ?_, ?_, ?_⟩
                    · have h9 := CU_han (f := f) (e := e) (l := l) (v := fl) hC hp rfl
                      show RC _ _ _ _ _ _ _ _ _ _ _ _ _ _ _ _
                      simp (disch := first | assumption | omega | decide) only [up_ne, i_add, i_mul, n_cl, rc_phn hC, Nat.mul_comm (cn 4 p 0) 4]
                      exact h9
                    · have h9 := MU_han (f := f) (e := e) (l := l) (v := fl) hM hp rfl h6 hI.2.2.1
                      show RM _ _ _ _ _ _ _ _ _ _ _ _
                      simp (disch := first | assumption | omega | decide) only [up_ne, i_add, i_mul, n_cl, rm_phn hM]
                      exact h9
                    · exact IC_han hI rfl h6 (by omega) ⟨by omega, by omega⟩ hl
                    · exact hW
                  · skip
                    refine ev_gB [false, false] [] rfl ?_
                    refine ev_retz rfl (by first | decide | exact zb_01 _) ?_
                    refine ev_gB [true] [] rfl ?_
                    refine ev_inV 4 k_MW_85 h_PR_addHandler rfl rfl rfl rfl rfl ⟨by decide, by decide⟩ rfl ?_
                    refine ev_gB [true] [] rfl ?_
                    refine ev_inS 6 k_PR_25 h_PR_write rfl rfl rfl rfl ⟨by decide, by decide⟩ rfl ?_
                    refine ev_gB [] [] rfl ?_
                    refine ev_ret rfl ?_
                    refine ev_g0 rfl ?_
                    refine ev_reti rfl ?_
                    refine ev_g0 rfl ?_
                    refine ev_reti rfl ?_
                    refine ct_of h_MM_handler rfl rfl rfl ?_
                    refine ev_g0 rfl ?_
                    refine ev_inS 3 k_MM_188 h_MM_in rfl rfl rfl rfl ⟨by decide, by decide⟩ rfl ?_
                    refine ev_gB [false, false] [] rfl ?_
                    refine ev_retz rfl (by first | decide | exact zb_01 _) ?_
                    refine ev_gB [false, false, false, false] [] rfl ?_
                    refine ev_inS 1 k_MM_245 h_MM_isPlace rfl rfl rfl rfl ⟨by decide, by decide⟩ rfl ?_
                    refine ev_g0 rfl ?_
                    refine ev_inS 3 k_MM_188 h_MM_in rfl rfl rfl rfl ⟨by decide, by decide⟩ rfl ?_
                    refine ev_gB [false, false] [] rfl ?_
                    refine ev_retz rfl (by first | decide | exact zb_01 _) ?_
                    refine ev_g0 rfl ?_
                    refine ev_retz rfl (by first | decide | exact zb_01 _) ?_
                    refine ev_gB [false, false, false] [] rfl ?_
                    refine ev_inS 3 k_MM_188 h_MM_in rfl rfl rfl rfl ⟨by decide, by decide⟩ rfl ?_
                    refine ev_gB [false, true] [] rfl ?_
                    refine ev_retz rfl (by first | decide | exact zb_01 _) ?_
                    refine ev_gB [false] [] rfl ?_
                    refine ev_inS 3 k_MM_188 h_MM_in rfl rfl rfl rfl ⟨by decide, by decide⟩ rfl ?_
                    refine ev_gB [false, false] [] rfl ?_
                    refine ev_retz rfl (by first | decide | exact zb_01 _) ?_
                    refine ev_gB [true, true] [] rfl ?_
                    refine ev_reti rfl ?_
                    refine ⟨lf_B, (u3 ci 9 p (cn 4 p 0) fl), (u3 (u3 (u3 (u3 cn 6 p (cn 4 p 0) f) 7 p (cn 4 p 0) e) 8 p (cn 4 p 0) l) 4 p 0 (cn 4 p 0 + 1)), co, xj, xd, xf, xo, xi, xn, ?_, ?_, ?_, ?_⟩
                    · have h9 := CU_han (f := f) (e := e) (l := l) (v := fl) hC hp rfl
                      show RC _ _ _ _ _ _ _ _ _ _ _ _ _ _ _ _
                      simp (disch := first | assumption | omega | decide) only [up_ne, i_add, i_mul, n_cl, rc_phn hC, Nat.mul_comm (cn 4 p 0) 4]
                      exact h9
                    · have h9 := MU_han (f := f) (e := e) (l := l) (v := fl) hM hp rfl h6 hI.2.2.1
                      show RM _ _ _ _ _ _ _ _ _ _ _ _
                      simp (disch := first | assumption | omega | decide) only [up_ne, i_add, i_mul, n_cl, rm_phn hM]
                      exact h9
                    · exact IC_han hI rfl h6 (by omega) ⟨by omega, by omega⟩ hl
                    · exact hW
              · skip
                have h66 : cn 4 p 0 = 6 := by omega
                refine ct_of h_MW_handler rfl rfl rfl ?_
                refine ev_g0 rfl ?_
                refine ev_inV 1 k_MW_67 h_MW_programAt rfl rfl rfl rfl rfl ⟨by decide, by decide⟩ rfl ?_
                refine ev_gB [false, false] [some (14 + 3 * p)] rfl ?_
                refine ev_reta rfl ?_
                refine ev_gB [false, false, false, false, true] [] rfl ?_
                refine ev_inS 1 k_MW_81 h_MW_isHandled rfl rfl rfl rfl ⟨by decide, by decide⟩ rfl ?_
                refine ev_g0 rfl ?_
                refine ev_bB rfl rfl (fun h_3 => ?_) (fun h_3 => ?_)
                · skip
                  refine ev_g0 rfl ?_
                  refine ev_retz rfl (by first | decide | exact zb_01 _) ?_
                  refine ev_gB [true] [] rfl ?_
                  refine ev_inV 4 k_MW_85 h_PR_addHandler rfl rfl rfl rfl rfl ⟨by decide, by decide⟩ rfl ?_
                  refine ev_gB [false] [] rfl ?_
                  refine ev_reti rfl ?_
                  refine ev_g0 rfl ?_
                  refine ev_reti rfl ?_
                  refine ct_of h_MM_handler rfl rfl rfl ?_
                  refine ev_g0 rfl ?_
                  refine ev_inS 3 k_MM_188 h_MM_in rfl rfl rfl rfl ⟨by decide, by decide⟩ rfl ?_
                  refine ev_gB [false, false] [] rfl ?_
                  refine ev_retz rfl (by first | decide | exact zb_01 _) ?_
                  refine ev_gB [false, false, false, false] [] rfl ?_
                  refine ev_inS 1 k_MM_245 h_MM_isPlace rfl rfl rfl rfl ⟨by decide, by decide⟩ rfl ?_
                  refine ev_g0 rfl ?_
                  refine ev_inS 3 k_MM_188 h_MM_in rfl rfl rfl rfl ⟨by decide, by decide⟩ rfl ?_
                  refine ev_gB [false, false] [] rfl ?_
                  refine ev_retz rfl (by first | decide | exact zb_01 _) ?_
                  refine ev_g0 rfl ?_
                  refine ev_retz rfl (by first | decide | exact zb_01 _) ?_
                  refine ev_gB [false, false, true, false] [] rfl ?_
                  refine ev_reti rfl ?_
                  exact ⟨lf_B, ci, cn, co, xj, xd, xf, xo, xi, xn, hC, hM, hI, hW⟩
                · skip
                  refine ev_gB [false] [] rfl ?_
                  refine ev_bB rfl rfl (fun h_4 => ?_) (fun h_4 => ?_)
                  · skip
                    refine ev_g0 rfl ?_
                    refine ev_retz rfl (by first | decide | exact zb_01 _) ?_
                    refine ev_gB [true] [] rfl ?_
                    refine ev_inV 4 k_MW_85 h_PR_addHandler rfl rfl rfl rfl rfl ⟨by decide, by decide⟩ rfl ?_
                    refine ev_gB [false] [] rfl ?_
                    refine ev_reti rfl ?_
                    refine ev_g0 rfl ?_
                    refine ev_reti rfl ?_
                    refine ct_of h_MM_handler rfl rfl rfl ?_
                    refine ev_g0 rfl ?_
                    refine ev_inS 3 k_MM_188 h_MM_in rfl rfl rfl rfl ⟨by decide, by decide⟩ rfl ?_
                    refine ev_gB [false, false] [] rfl ?_
                    refine ev_retz rfl (by first | decide | exact zb_01 _) ?_
                    refine ev_gB [false, false, false, false] [] rfl ?_
                    refine ev_inS 1 k_MM_245 h_MM_isPlace rfl rfl rfl rfl ⟨by decide, by decide⟩ rfl ?_
                    refine ev_g0 rfl ?_
                    refine ev_inS 3 k_MM_188 h_MM_in rfl rfl rfl rfl ⟨by decide, by decide⟩ rfl ?_
                    refine ev_gB [false, false] [] rfl ?_
                    refine ev_retz rfl (by first | decide | exact zb_01 _) ?_
                    refine ev_g0 rfl ?_
                    refine ev_retz rfl (by first | decide | exact zb_01 _) ?_
                    refine ev_gB [false, false, false] [] rfl ?_
                    refine ev_inS 3 k_MM_188 h_MM_in rfl rfl rfl rfl ⟨by decide, by decide⟩ rfl ?_
                    refine ev_gB [false, false] [] rfl ?_
                    refine ev_retz rfl (by first | decide | exact zb_01 _) ?_
                    refine ev_gB [true, false] [] rfl ?_
                    refine ev_reti rfl ?_
                    exact ⟨lf_B, ci, cn, co, xj, xd, xf, xo, xi, xn, hC, hM, hI, hW⟩
                  · skip
                    refine ev_gB [false, false] [] rfl ?_
                    refine ev_retz rfl (by first | decide | exact zb_01 _) ?_
                    refine ev_gB [true] [] rfl ?_
                    refine ev_inV 4 k_MW_85 h_PR_addHandler rfl rfl rfl rfl rfl ⟨by decide, by decide⟩ rfl ?_
                    refine ev_gB [false] [] rfl ?_
                    refine ev_reti rfl ?_
                    refine ev_g0 rfl ?_
                    refine ev_reti rfl ?_
                    refine ct_of h_MM_handler rfl rfl rfl ?_
                    refine ev_g0 rfl ?_
                    refine ev_inS 3 k_MM_188 h_MM_in rfl rfl rfl rfl ⟨by decide, by decide⟩ rfl ?_
                    refine ev_gB [false, false] [] rfl ?_
                    refine ev_retz rfl (by first | decide | exact zb_01 _) ?_
                    refine ev_gB [false, false, false, false] [] rfl ?_
                    refine ev_inS 1 k_MM_245 h_MM_isPlace rfl rfl rfl rfl ⟨by decide, by decide⟩ rfl ?_
                    refine ev_g0 rfl ?_
                    refine ev_inS 3 k_MM_188 h_MM_in rfl rfl rfl rfl ⟨by decide, by decide⟩ rfl ?_
                    refine ev_gB [false, false] [] rfl ?_
                    refine ev_retz rfl (by first | decide | exact zb_01 _) ?_
                    refine ev_g0 rfl ?_
                    refine ev_retz rfl (by first | decide | exact zb_01 _) ?_
                    refine ev_gB [false, false, false] [] rfl ?_
                    refine ev_inS 3 k_MM_188 h_MM_in rfl rfl rfl rfl ⟨by decide, by decide⟩ rfl ?_
                    refine ev_gB [false, true] [] rfl ?_
                    refine ev_retz rfl (by first | decide | exact zb_01 _) ?_
                    refine ev_gB [false] [] rfl ?_
                    refine ev_inS 3 k_MM_188 h_MM_in rfl rfl rfl rfl ⟨by decide, by decide⟩ rfl ?_
                    refine ev_gB [false, false] [] rfl ?_
                    refine ev_retz rfl (by first | decide | exact zb_01 _) ?_
                    refine ev_gB [true, false] [] rfl ?_
                    refine ev_reti rfl ?_
                    exact ⟨lf_B, ci, cn, co, xj, xd, xf, xo, xi, xn, hC, hM, hI, hW⟩
            · skip
              refine ct_of h_MW_handler rfl rfl rfl ?_
              refine ev_g0 rfl ?_
              refine ev_inV 1 k_MW_67 h_MW_programAt rfl rfl rfl rfl rfl ⟨by decide, by decide⟩ rfl ?_
              refine ev_gB [false, false] [some (14 + 3 * p)] rfl ?_
              refine ev_reta rfl ?_
              refine ev_gB [false, false, false, false, true] [] rfl ?_
              refine ev_inS 1 k_MW_81 h_MW_isHandled rfl rfl rfl rfl ⟨by decide, by decide⟩ rfl ?_
              refine ev_gB [false] [] rfl ?_
              refine ev_bB rfl rfl (fun h_5 => ?_) (fun h_5 => ?_)
              · skip
                refine ev_gB [true] [] rfl ?_
                refine ev_retz rfl (by first | decide | exact zb_01 _) ?_
                refine ev_gB [false] [] rfl ?_
                refine ev_reti rfl ?_
                refine ct_of h_MM_handler rfl rfl rfl ?_
                refine ev_g0 rfl ?_
                refine ev_inS 3 k_MM_188 h_MM_in rfl rfl rfl rfl ⟨by decide, by decide⟩ rfl ?_
                refine ev_gB [false, false] [] rfl ?_
                refine ev_retz rfl (by first | decide | exact zb_01 _) ?_
                refine ev_gB [false, false, false, false] [] rfl ?_
                refine ev_inS 1 k_MM_245 h_MM_isPlace rfl rfl rfl rfl ⟨by decide, by decide⟩ rfl ?_
                refine ev_g0 rfl ?_
                refine ev_inS 3 k_MM_188 h_MM_in rfl rfl rfl rfl ⟨by decide, by decide⟩ rfl ?_
                refine ev_gB [false, false] [] rfl ?_
                refine ev_retz rfl (by first | decide | exact zb_01 _) ?_
                refine ev_g0 rfl ?_
                refine ev_retz rfl (by first | decide | exact zb_01 _) ?_
                refine ev_gB [false, false, false] [] rfl ?_
                refine ev_inS 3 k_MM_188 h_MM_in rfl rfl rfl rfl ⟨by decide, by decide⟩ rfl ?_
                refine ev_gB [true] [] rfl ?_
                refine ev_retz rfl (by first | decide | exact zb_01 _) ?_
                refine ev_gB [false] [] rfl ?_
                refine ev_inS 3 k_MM_188 h_MM_in rfl rfl rfl rfl ⟨by decide, by decide⟩ rfl ?_
                refine ev_gB [true] [] rfl ?_
                refine ev_retz rfl (by first | decide | exact zb_01 _) ?_
                refine ev_gB [false] [] rfl ?_
                refine ev_reti rfl ?_
                exact ⟨lf_B, ci, cn, co, xj, xd, xf, xo, xi, xn, hC, hM, hI, hW⟩
              · skip
                refine ev_gB [false] [] rfl ?_
                refine ev_bB rfl rfl (fun h_6 => ?_) (fun h_6 => ?_)
                · skip
                  refine ev_g0 rfl ?_
                  refine ev_retz rfl (by first | decide | exact zb_01 _) ?_
                  refine ev_gB [false] [] rfl ?_
                  refine ev_reti rfl ?_
                  refine ct_of h_MM_handler rfl rfl rfl ?_
                  refine ev_g0 rfl ?_
                  refine ev_inS 3 k_MM_188 h_MM_in rfl rfl rfl rfl ⟨by decide, by decide⟩ rfl ?_
                  refine ev_gB [false, false] [] rfl ?_
                  refine ev_retz rfl (by first | decide | exact zb_01 _) ?_
                  refine ev_gB [false, false, false, false] [] rfl ?_
                  refine ev_inS 1 k_MM_245 h_MM_isPlace rfl rfl rfl rfl ⟨by decide, by decide⟩ rfl ?_
                  refine ev_g0 rfl ?_
                  refine ev_inS 3 k_MM_188 h_MM_in rfl rfl rfl rfl ⟨by decide, by decide⟩ rfl ?_
                  refine ev_gB [false, false] [] rfl ?_
                  refine ev_retz rfl (by first | decide | exact zb_01 _) ?_
                  refine ev_g0 rfl ?_
                  refine ev_retz rfl (by first | decide | exact zb_01 _) ?_
                  refine ev_gB [false, false, false] [] rfl ?_
                  refine ev_inS 3 k_MM_188 h_MM_in rfl rfl rfl rfl ⟨by decide, by decide⟩ rfl ?_
                  refine ev_gB [false, true] [] rfl ?_
                  refine ev_retz rfl (by first | decide | exact zb_01 _) ?_
                  refine ev_gB [false] [] rfl ?_
                  refine ev_inS 3 k_MM_188 h_MM_in rfl rfl rfl rfl ⟨by decide, by decide⟩ rfl ?_
                  refine ev_gB [true] [] rfl ?_
                  refine ev_retz rfl (by first | decide | exact zb_01 _) ?_
                  refine ev_gB [false] [] rfl ?_
                  refine ev_reti rfl ?_
                  exact ⟨lf_B, ci, cn, co, xj, xd, xf, xo, xi, xn, hC, hM, hI, hW⟩
                · skip
                  refine ev_gB [true] [] rfl ?_
                  refine ev_retz rfl (by first | decide | exact zb_01 _) ?_
                  refine ev_gB [false] [] rfl ?_
                  refine ev_reti rfl ?_
                  refine ct_of h_MM_handler rfl rfl rfl ?_
                  refine ev_g0 rfl ?_
                  refine ev_inS 3 k_MM_188 h_MM_in rfl rfl rfl rfl ⟨by decide, by decide⟩ rfl ?_
                  refine ev_gB [false, false] [] rfl ?_
                  refine ev_retz rfl (by first | decide | exact zb_01 _) ?_
                  refine ev_gB [false, false, false, false] [] rfl ?_
                  refine ev_inS 1 k_MM_245 h_MM_isPlace rfl rfl rfl rfl ⟨by decide, by decide⟩ rfl ?_
                  refine ev_g0 rfl ?_
                  refine ev_inS 3 k_MM_188 h_MM_in rfl rfl rfl rfl ⟨by decide, by decide⟩ rfl ?_
                  refine ev_gB [false, false] [] rfl ?_
                  refine ev_retz rfl (by first | decide | exact zb_01 _) ?_
                  refine ev_g0 rfl ?_
                  refine ev_retz rfl (by first | decide | exact zb_01 _) ?_
                  refine ev_gB [false, false, false] [] rfl ?_
                  refine ev_inS 3 k_MM_188 h_MM_in rfl rfl rfl rfl ⟨by decide, by decide⟩ rfl ?_
                  refine ev_gB [false, true] [] rfl ?_
                  refine ev_retz rfl (by first | decide | exact zb_01 _) ?_
                  refine ev_gB [false] [] rfl ?_
                  refine ev_inS 3 k_MM_188 h_MM_in rfl rfl rfl rfl ⟨by decide, by decide⟩ rfl ?_
                  refine ev_gB [false, true] [] rfl ?_
                  refine ev_retz rfl (by first | decide | exact zb_01 _) ?_
                  refine ev_gB [false] [] rfl ?_
                  refine ev_reti rfl ?_
                  exact ⟨lf_B, ci, cn, co, xj, xd, xf, xo, xi, xn, hC, hM, hI, hW⟩
          · skip
            refine ct_of h_MW_handler rfl rfl rfl ?_
            refine ev_g0 rfl ?_
            refine ev_inV 1 k_MW_67 h_MW_programAt rfl rfl rfl rfl rfl ⟨by decide, by decide⟩ rfl ?_
            refine ev_gB [false, false] [some (14 + 3 * p)] rfl ?_
            refine ev_reta rfl ?_
            refine ev_gB [false, true] [] rfl ?_
            refine ev_reti rfl ?_
            refine ct_of h_MM_handler rfl rfl rfl ?_
            refine ev_g0 rfl ?_
            refine ev_inS 3 k_MM_188 h_MM_in rfl rfl rfl rfl ⟨by decide, by decide⟩ rfl ?_
            refine ev_gB [false, false] [] rfl ?_
            refine ev_retz rfl (by first | decide | exact zb_01 _) ?_
            refine ev_gB [false, false, true, true] [] rfl ?_
            refine ev_reti rfl ?_
            exact ⟨lf_B, ci, cn, co, xj, xd, xf, xo, xi, xn, hC, hM, hI, hW⟩
        · skip
          refine ct_of h_MW_handler rfl rfl rfl ?_
          refine ev_g0 rfl ?_
          refine ev_inV 1 k_MW_67 h_MW_programAt rfl rfl rfl rfl rfl ⟨by decide, by decide⟩ rfl ?_
          refine ev_gB [false, false] [some (14 + 3 * p)] rfl ?_
          refine ev_reta rfl ?_
          refine ev_gB [false] [] rfl ?_
          refine ev_bB rfl rfl (fun h_7 => ?_) (fun h_7 => ?_)
          · skip
            refine ev_g0 rfl ?_
            refine ev_reti rfl ?_
            refine ct_of h_MM_handler rfl rfl rfl ?_
            refine ev_g0 rfl ?_
            refine ev_inS 3 k_MM_188 h_MM_in rfl rfl rfl rfl ⟨by decide, by decide⟩ rfl ?_
            refine ev_gB [false, false] [] rfl ?_
            refine ev_retz rfl (by first | decide | exact zb_01 _) ?_
            refine ev_gB [false, false, true, true] [] rfl ?_
            refine ev_reti rfl ?_
            exact ⟨lf_B, ci, cn, co, xj, xd, xf, xo, xi, xn, hC, hM, hI, hW⟩
          · skip
            refine ev_gB [false] [] rfl ?_
            refine ev_bB rfl rfl (fun h_8 => ?_) (fun h_8 => ?_)
            · skip
              refine ev_g0 rfl ?_
              refine ev_reti rfl ?_
              refine ct_of h_MM_handler rfl rfl rfl ?_
              refine ev_g0 rfl ?_
              refine ev_inS 3 k_MM_188 h_MM_in rfl rfl rfl rfl ⟨by decide, by decide⟩ rfl ?_
              refine ev_gB [false, false] [] rfl ?_
              refine ev_retz rfl (by first | decide | exact zb_01 _) ?_
              refine ev_gB [false, false, false, false] [] rfl ?_
              refine ev_inS 1 k_MM_245 h_MM_isPlace rfl rfl rfl rfl ⟨by decide, by decide⟩ rfl ?_
              refine ev_g0 rfl ?_
              refine ev_inS 3 k_MM_188 h_MM_in rfl rfl rfl rfl ⟨by decide, by decide⟩ rfl ?_
              refine ev_gB [true] [] rfl ?_
              refine ev_retz rfl (by first | decide | exact zb_01 _) ?_
              refine ev_g0 rfl ?_
              refine ev_retz rfl (by first | decide | exact zb_01 _) ?_
              refine ev_gB [true, true] [] rfl ?_
              refine ev_reti rfl ?_
              exact ⟨lf_B, ci, cn, co, xj, xd, xf, xo, xi, xn, hC, hM, hI, hW⟩
            · skip
              refine ev_gB [false] [] rfl ?_
              refine ev_reti rfl ?_
              refine ct_of h_MM_handler rfl rfl rfl ?_
              refine ev_g0 rfl ?_
              refine ev_inS 3 k_MM_188 h_MM_in rfl rfl rfl rfl ⟨by decide, by decide⟩ rfl ?_
              refine ev_gB [false, false] [] rfl ?_
              refine ev_retz rfl (by first | decide | exact zb_01 _) ?_
              refine ev_gB [false, false, false, false] [] rfl ?_
              refine ev_inS 1 k_MM_245 h_MM_isPlace rfl rfl rfl rfl ⟨by decide, by decide⟩ rfl ?_
              refine ev_g0 rfl ?_
              refine ev_inS 3 k_MM_188 h_MM_in rfl rfl rfl rfl ⟨by decide, by decide⟩ rfl ?_
              refine ev_gB [false, true] [] rfl ?_
              refine ev_retz rfl (by first | decide | exact zb_01 _) ?_
              refine ev_g0 rfl ?_
              refine ev_retz rfl (by first | decide | exact zb_01 _) ?_
              refine ev_gB [true, true] [] rfl ?_
              refine ev_reti rfl ?_
              exact ⟨lf_B, ci, cn, co, xj, xd, xf, xo, xi, xn, hC, hM, hI, hW⟩
      · skip
        refine ct_of h_MW_handler rfl rfl rfl ?_
        refine ev_g0 rfl ?_
        refine ev_inV 1 k_MW_67 h_MW_programAt rfl rfl rfl rfl rfl ⟨by decide, by decide⟩ rfl ?_
        refine ev_gB [false, false] [some (14 + 3 * p)] rfl ?_
        refine ev_reta rfl ?_
        refine ev_gB [false] [] rfl ?_
        refine ev_bB rfl rfl (fun h_9 => ?_) (fun h_9 => ?_)
        · skip
          refine ev_g0 rfl ?_
          refine ev_reti rfl ?_
          refine ct_of h_MM_handler rfl rfl rfl ?_
          refine ev_g0 rfl ?_
          refine ev_inS 3 k_MM_188 h_MM_in rfl rfl rfl rfl ⟨by decide, by decide⟩ rfl ?_
          refine ev_gB [false, false] [] rfl ?_
          refine ev_retz rfl (by first | decide | exact zb_01 _) ?_
          refine ev_gB [false, false, true, true] [] rfl ?_
          refine ev_reti rfl ?_
          exact ⟨lf_B, ci, cn, co, xj, xd, xf, xo, xi, xn, hC, hM, hI, hW⟩
        · skip
          refine ev_gB [true] [] rfl ?_
          refine ev_reti rfl ?_
          refine ct_of h_MM_handler rfl rfl rfl ?_
          refine ev_g0 rfl ?_
          refine ev_inS 3 k_MM_188 h_MM_in rfl rfl rfl rfl ⟨by decide, by decide⟩ rfl ?_
          refine ev_gB [false, false] [] rfl ?_
          refine ev_retz rfl (by first | decide | exact zb_01 _) ?_
          refine ev_gB [false, false, false, true, true] [] rfl ?_
          refine ev_reti rfl ?_
          exact ⟨lf_B, ci, cn, co, xj, xd, xf, xo, xi, xn, hC, hM, hI, hW⟩
    · skip
      refine ct_of h_MW_handler rfl rfl rfl ?_
      refine ev_g0 rfl ?_
      refine ev_inV 1 k_MW_67 h_MW_programAt rfl rfl rfl rfl rfl ⟨by decide, by decide⟩ rfl ?_
      refine ev_gB [false, false] [some (14 + 3 * p)] rfl ?_
      refine ev_reta rfl ?_
      refine ev_g0 rfl ?_
      refine ev_bB rfl rfl (fun h_10 => ?_) (fun h_10 => ?_)
      · skip
        refine ev_g0 rfl ?_
        refine ev_reti rfl ?_
        refine ct_of h_MM_handler rfl rfl rfl ?_
        refine ev_g0 rfl ?_
        refine ev_inS 3 k_MM_188 h_MM_in rfl rfl rfl rfl ⟨by decide, by decide⟩ rfl ?_
        refine ev_gB [false, false] [] rfl ?_
        refine ev_retz rfl (by first | decide | exact zb_01 _) ?_
        refine ev_gB [false, true, true] [] rfl ?_
        refine ev_reti rfl ?_
        exact ⟨lf_B, ci, cn, co, xj, xd, xf, xo, xi, xn, hC, hM, hI, hW⟩
      · skip
        refine ev_g0 rfl ?_
        refine ev_bB rfl rfl (fun h_11 => ?_) (fun h_11 => ?_)
        · skip
          refine ev_g0 rfl ?_
          refine ev_reti rfl ?_
          refine ct_of h_MM_handler rfl rfl rfl ?_
          refine ev_g0 rfl ?_
          refine ev_inS 3 k_MM_188 h_MM_in rfl rfl rfl rfl ⟨by decide, by decide⟩ rfl ?_
          refine ev_gB [false, false] [] rfl ?_
          refine ev_retz rfl (by first | decide | exact zb_01 _) ?_
          refine ev_gB [false, false, true, true] [] rfl ?_
          refine ev_reti rfl ?_
          exact ⟨lf_B, ci, cn, co, xj, xd, xf, xo, xi, xn, hC, hM, hI, hW⟩
        · skip
          refine ev_gB [true] [] rfl ?_
          refine ev_reti rfl ?_
          refine ct_of h_MM_handler rfl rfl rfl ?_
          refine ev_g0 rfl ?_
          refine ev_inS 3 k_MM_188 h_MM_in rfl rfl rfl rfl ⟨by decide, by decide⟩ rfl ?_
          refine ev_gB [false, false] [] rfl ?_
          refine ev_retz rfl (by first | decide | exact zb_01 _) ?_
          refine ev_gB [false, false, false, true, true] [] rfl ?_
          refine ev_reti rfl ?_
          exact ⟨lf_B, ci, cn, co, xj, xd, xf, xo, xi, xn, hC, hM, hI, hW⟩
  · skip
    refine ct_of h_MW_handler rfl rfl rfl ?_
    refine ev_g0 rfl ?_
    refine ev_inV 1 k_MW_67 h_MW_programAt rfl rfl rfl rfl rfl ⟨by decide, by decide⟩ rfl ?_
    refine ev_g0 rfl ?_
    refine ev_bB rfl rfl (fun h_12 => ?_) (fun h_12 => ?_)
    · skip
      refine ev_g0 rfl ?_
      refine ev_retn rfl ?_
      refine ev_g0 rfl ?_
      refine ev_reti rfl ?_
      refine ct_of h_MM_handler rfl rfl rfl ?_
      refine ev_g0 rfl ?_
      refine ev_inS 3 k_MM_188 h_MM_in rfl rfl rfl rfl ⟨by decide, by decide⟩ rfl ?_
      refine ev_gB [true] [] rfl ?_
      refine ev_retz rfl (by first | decide | exact zb_01 _) ?_
      refine ev_gB [true, true] [] rfl ?_
      refine ev_reti rfl ?_
      exact ⟨lf_B, ci, cn, co, xj, xd, xf, xo, xi, xn, hC, hM, hI, hW⟩
    · skip
      refine ev_gB [true] [] rfl ?_
      refine ev_retn rfl ?_
      refine ev_g0 rfl ?_
      refine ev_reti rfl ?_
      refine ct_of h_MM_handler rfl rfl rfl ?_
      refine ev_g0 rfl ?_
      refine ev_inS 3 k_MM_188 h_MM_in rfl rfl rfl rfl ⟨by decide, by decide⟩ rfl ?_
      refine ev_gB [false, true] [] rfl ?_
      refine ev_retz rfl (by first | decide | exact zb_01 _) ?_
      refine ev_gB [true, true] [] rfl ?_
      refine ev_reti rfl ?_
      exact ⟨lf_B, ci, cn, co, xj, xd, xf, xo, xi, xn, hC, hM, hI, hW⟩
set_option maxHeartbeats 8000000 in
theorem Q_act {ci : Nat → Nat → Nat → Int32} {cn : Nat → Nat → Nat → Nat} {co : Nat → Option Nat} {xj : Nat → Nat → Nat → Int64} {xd : Nat → Nat → Nat → UInt64} {xf : Nat → Nat → Nat → UInt32} {xo : Nat → Nat → Nat → Option Nat} {xi : Nat → Nat → Nat → Int32} {xn : Nat → Nat → Nat → Nat} {K : Nat → Nat} {I : Nat → Nat → Int32} {J : Nat → Nat → Int64} {F : Nat → Nat → UInt32} {D : Nat → Nat → UInt64} {R : Nat → Nat → Option Nat} {nx sl : Nat} {Km : Nat → Nat} {Im : Nat → Nat → Int32} {Jm : Nat → Nat → Int64} {Fm : Nat → Nat → UInt32} {Dm : Nat → Nat → UInt64} {Rm : Nat → Nat → Option Nat} {nxm slm : Nat} (hC : RC ci cn co xj xd xf xo xi xn I J F D R nx sl) (hM : RM ci cn co xj xd xf xo xi xn Im Jm Dm) (hI : IC ci cn) (hW : IW cn co) (FT : ∀ (op a b c : Int32), ((∀ μ : mm_M, mm_Det Y_SH_fit [vi op, vi a, vi b, vi c] μ (some (vi (nI 0))) μ) ∧ (∀ μ : mm_M, mm_Det Y_MM_isAct [vi op, vi a, vi b, vi c] μ (some (vi (nI 0))) μ)) ∨ (∃ o : Nat, op = nI o ∧ (∀ μ : mm_M, mm_Det Y_SH_fit [vi op, vi a, vi b, vi c] μ (some (vi (nI 1))) μ) ∧ (∀ μ : mm_M, mm_Det Y_MM_isAct [vi op, vi a, vi b, vi c] μ (some (vi (nI 1))) μ) ∧ OKA o a b c)) {pr op a b c : Int32} : Ct Y_MW_act [vr 10 6, vi pr, vi op, vi a, vi b, vi c] (K, I, J, F, D, R, nx, sl) (fun r μ1 => Ct Y_MM_act [vr 11 6, vi pr, vi op, vi a, vi b, vi c] (Km, Im, Jm, Fm, Dm, Rm, nxm, slm) (fun r2 μ2 => r = r2 ∧ RELS μ1 μ2)) := by
  rcases icc pr 6 (by decide) with ⟨p, hp, rfl⟩ | hpr
  · have i2 := hI.2.2.1 p hp
    rcases FT op a b c with ⟨dS0, dM0⟩ | ⟨o, rfl, dS0, dM0, hok⟩
    · skip
      refine ct_of h_MW_act rfl rfl rfl ?_
      refine ev_g0 rfl ?_
      refine ev_inV 1 k_MW_67 h_MW_programAt rfl rfl rfl rfl rfl ⟨by decide, by decide⟩ rfl ?_
      refine ev_gB [false, false] [some (14 + 3 * p)] rfl ?_
      refine ev_reta rfl ?_
      refine ev_g0 rfl ?_
      refine ev_kS 4 k_MW_71 rfl (dS0 _) ⟨by decide, by decide⟩ rfl ?_
      refine ev_gB [false] [] rfl ?_
      refine ev_reti rfl ?_
      refine ct_of h_MM_act rfl rfl rfl ?_
      refine ev_g0 rfl ?_
      refine ev_inS 3 k_MM_188 h_MM_in rfl rfl rfl rfl ⟨by decide, by decide⟩ rfl ?_
      refine ev_gB [false, false] [] rfl ?_
      refine ev_retz rfl (by first | decide | exact zb_01 _) ?_
      refine ev_gB [false] [] rfl ?_
      refine ev_kS 4 k_MM_257 rfl (dM0 _) ⟨by decide, by decide⟩ rfl ?_
      refine ev_gB [false] [] rfl ?_
      refine ev_reti rfl ?_
      exact ⟨lf_B, ci, cn, co, xj, xd, xf, xo, xi, xn, hC, hM, hI, hW⟩
    · by_cases h4 : cn 3 p 0 < 40
      · skip
        refine ct_of h_MW_act rfl rfl rfl ?_
        refine ev_g0 rfl ?_
        refine ev_inV 1 k_MW_67 h_MW_programAt rfl rfl rfl rfl rfl ⟨by decide, by decide⟩ rfl ?_
        refine ev_gB [false, false] [some (14 + 3 * p)] rfl ?_
        refine ev_reta rfl ?_
        refine ev_g0 rfl ?_
        refine ev_kS 4 k_MW_71 rfl (dS0 _) ⟨by decide, by decide⟩ rfl ?_
        refine ev_gB [true] [] rfl ?_
        refine ev_inV 4 k_MW_77 h_PR_addAct rfl rfl rfl rfl rfl ⟨by decide, by decide⟩ rfl ?_
        refine ev_gB [true] [] rfl ?_
        refine ev_inS 6 k_PR_25 h_PR_write rfl rfl rfl rfl ⟨by decide, by decide⟩ rfl ?_
        refine ev_gB [] [] rfl ?_
        refine ev_ret rfl ?_
        refine ev_g0 rfl ?_
        refine ev_reti rfl ?_
        refine ev_g0 rfl ?_
        refine ev_reti rfl ?_
        refine ct_of h_MM_act rfl rfl rfl ?_
        refine ev_g0 rfl ?_
        refine ev_inS 3 k_MM_188 h_MM_in rfl rfl rfl rfl ⟨by decide, by decide⟩ rfl ?_
        refine ev_gB [false, false] [] rfl ?_
        refine ev_retz rfl (by first | decide | exact zb_01 _) ?_
        refine ev_gB [false] [] rfl ?_
        refine ev_kS 4 k_MM_257 rfl (dM0 _) ⟨by decide, by decide⟩ rfl ?_
        refine ev_gB [true, true] [] rfl ?_
        refine ev_reti rfl ?_
        refine ⟨lf_B, (u3 (u3 (u3 ci 6 p (cn 3 p 0) a) 7 p (cn 3 p 0) b) 8 p (cn 3 p 0) c), (u3 (u3 cn 5 p (cn 3 p 0) o) 3 p 0 (cn 3 p 0 + 1)), co, xj, xd, xf, xo, xi, xn, ?_, ?_, ?_, ?_⟩
        · have h9 := CU_act (op := o) (a := a) (b := b) (c := c) hC hp rfl
          show RC _ _ _ _ _ _ _ _ _ _ _ _ _ _ _ _
          simp (disch := first | assumption | omega | decide) only [up_ne, i_add, i_mul, n_cl, rc_psz hC, Nat.mul_comm (cn 3 p 0) 4]
          exact h9
        · have h9 := MU_act (op := o) (a := a) (b := b) (c := c) hM hp rfl h4 hI.2.2.1
          show RM _ _ _ _ _ _ _ _ _ _ _ _
          simp (disch := first | assumption | omega | decide) only [up_ne, i_add, i_mul, n_cl, rm_psz hM]
          exact h9
        · exact IC_act hI rfl h4 hok
        · exact hW
      · have h44 : cn 3 p 0 = 40 := by omega
        refine ct_of h_MW_act rfl rfl rfl ?_
        refine ev_g0 rfl ?_
        refine ev_inV 1 k_MW_67 h_MW_programAt rfl rfl rfl rfl rfl ⟨by decide, by decide⟩ rfl ?_
        refine ev_gB [false, false] [some (14 + 3 * p)] rfl ?_
        refine ev_reta rfl ?_
        refine ev_g0 rfl ?_
        refine ev_kS 4 k_MW_71 rfl (dS0 _) ⟨by decide, by decide⟩ rfl ?_
        refine ev_gB [true] [] rfl ?_
        refine ev_inV 4 k_MW_77 h_PR_addAct rfl rfl rfl rfl rfl ⟨by decide, by decide⟩ rfl ?_
        refine ev_gB [false] [] rfl ?_
        refine ev_reti rfl ?_
        refine ev_g0 rfl ?_
        refine ev_reti rfl ?_
        refine ct_of h_MM_act rfl rfl rfl ?_
        refine ev_g0 rfl ?_
        refine ev_inS 3 k_MM_188 h_MM_in rfl rfl rfl rfl ⟨by decide, by decide⟩ rfl ?_
        refine ev_gB [false, false] [] rfl ?_
        refine ev_retz rfl (by first | decide | exact zb_01 _) ?_
        refine ev_gB [false] [] rfl ?_
        refine ev_kS 4 k_MM_257 rfl (dM0 _) ⟨by decide, by decide⟩ rfl ?_
        refine ev_gB [true, false] [] rfl ?_
        refine ev_reti rfl ?_
        exact ⟨lf_B, ci, cn, co, xj, xd, xf, xo, xi, xn, hC, hM, hI, hW⟩
  · skip
    refine ct_of h_MW_act rfl rfl rfl ?_
    refine ev_g0 rfl ?_
    refine ev_inV 1 k_MW_67 h_MW_programAt rfl rfl rfl rfl rfl ⟨by decide, by decide⟩ rfl ?_
    refine ev_g0 rfl ?_
    refine ev_bB rfl rfl (fun h_1 => ?_) (fun h_1 => ?_)
    · skip
      refine ev_g0 rfl ?_
      refine ev_retn rfl ?_
      refine ev_g0 rfl ?_
      refine ev_reti rfl ?_
      refine ct_of h_MM_act rfl rfl rfl ?_
      refine ev_g0 rfl ?_
      refine ev_inS 3 k_MM_188 h_MM_in rfl rfl rfl rfl ⟨by decide, by decide⟩ rfl ?_
      refine ev_gB [true] [] rfl ?_
      refine ev_retz rfl (by first | decide | exact zb_01 _) ?_
      refine ev_gB [true] [] rfl ?_
      refine ev_reti rfl ?_
      exact ⟨lf_B, ci, cn, co, xj, xd, xf, xo, xi, xn, hC, hM, hI, hW⟩
    · skip
      refine ev_gB [true] [] rfl ?_
      refine ev_retn rfl ?_
      refine ev_g0 rfl ?_
      refine ev_reti rfl ?_
      refine ct_of h_MM_act rfl rfl rfl ?_
      refine ev_g0 rfl ?_
      refine ev_inS 3 k_MM_188 h_MM_in rfl rfl rfl rfl ⟨by decide, by decide⟩ rfl ?_
      refine ev_gB [false, true] [] rfl ?_
      refine ev_retz rfl (by first | decide | exact zb_01 _) ?_
      refine ev_gB [true] [] rfl ?_
      refine ev_reti rfl ?_
      exact ⟨lf_B, ci, cn, co, xj, xd, xf, xo, xi, xn, hC, hM, hI, hW⟩
