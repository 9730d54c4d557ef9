theorem cl_ne {α : Type} {f : Nat → Nat → α} {n : Nat} {v : α} {a j : Nat} (h : ¬ a = n) : mm_cl f n v a j = f a j := if_neg h
theorem ev_inI {Y Yc : mm_Y} {μ0 : mm_M} {pc idx : Nat} {x : mm_X} {t : List Nat} {e2 : mm_E} {rem : List mm_E} {L L2 : mm_L} {st st2 : List mm_V} {μ : mm_M} {c0 a : Nat} {cargs : List mm_V} {Post : Option mm_V → mm_M → Prop} (n : Nat) (hlk : mm_lkI (mm_ow Y) idx Yc n c0) (hk : mm_ok Yc) (ht : mm_tk n st [] = some (cargs, vr (c0 + 21) a :: vr (c0 + 21) a :: st2)) (hL : mm_ent 0 (vr (c0 + 21) a :: cargs) = some L2) (hm : Nat.ble (mm_cs (vr (c0 + 21) a :: cargs)) (mm_ml Yc) = true) (hn : (mm_nm Yc).cls = mm_ow Yc) (hrm : mm_rmk Y Yc) (hcs : Nat.ble (mm_cs (vr (c0 + 21) a :: st2)) 8 = true) (k : Ev Yc μ (mm_co Yc) L2 [] μ (fun r μ2 => r = none ∧ μ2.1 a = c0 + 1 ∧ Ev Y μ0 (e2 :: rem) L (vr (c0 + 1) a :: st2) μ2 Post)) : Ev Y μ0 ((pc, .invokespecial idx, 3, x, t) :: e2 :: rem) L st μ Post := by
  obtain ⟨h1, h2⟩ := mm_tk_e ht
  exact ev_callI (by rw [h1]; exact hlk) (ct_of hk hL hm hn k) h2 hrm hcs (fun r μ2 h => h)
theorem ev_qS {Y Yc : mm_Y} {μ0 : mm_M} {pc idx : Nat} {x : mm_X} {t : List Nat} {e2 : mm_E} {rem : List mm_E} {L : mm_L} {st st2 : List mm_V} {μ : mm_M} {cargs : List mm_V} {Post Q : Option mm_V → mm_M → Prop} (n : Nat) (hlk : mm_lkS (mm_ow Y) idx Yc n) (ht : mm_tk n st [] = some (cargs, st2)) (hc : Ct Yc cargs μ Q) (hrm : mm_rmk Y Yc) (hcs : Nat.ble (mm_cs st2) 8 = true) (k : ∀ r μ2, Q r μ2 → Ev Y μ0 (e2 :: rem) L (r.toList ++ st2) μ2 Post) : Ev Y μ0 ((pc, .invokestatic idx, 3, x, t) :: e2 :: rem) L st μ Post := by
  obtain ⟨h1, h2⟩ := mm_tk_e ht
  exact ev_callS (by rw [h1]; exact hlk) hc h2 hrm hcs k
theorem ev_qV {Y Yc : mm_Y} {μ0 : mm_M} {pc idx : Nat} {x : mm_X} {t : List Nat} {e2 : mm_E} {rem : List mm_E} {L : mm_L} {st st2 : List mm_V} {μ : mm_M} {c0 kd a : Nat} {cargs : List mm_V} {Post Q : Option mm_V → mm_M → Prop} (n : Nat) (hlk : mm_lkV (mm_ow Y) idx Yc n c0) (ht : mm_tk n st [] = some (cargs, vr kd a :: st2)) (hc : Ct Yc (vr kd a :: cargs) μ Q) (hkd : (Nat.beq kd (c0 + 1) || Nat.beq kd (c0 + 21)) = true) (hrm : mm_rmk Y Yc) (hcs : Nat.ble (mm_cs st2) 8 = true) (k : ∀ r μ2, Q r μ2 → Ev Y μ0 (e2 :: rem) L (r.toList ++ st2) μ2 Post) : Ev Y μ0 ((pc, .invokevirtual idx, 3, x, t) :: e2 :: rem) L st μ Post := by
  obtain ⟨h1, h2⟩ := mm_tk_e ht
  exact ev_callV (by rw [h1]; exact hlk) hc hkd h2 hrm hcs k
theorem CU_pla {ci : Nat → Nat → Nat → Int32} {cn : Nat → Nat → Nat → Nat} {co : Nat → Option Nat} {xj : Nat → Nat → Nat → Int64} {xd : Nat → Nat → Nat → UInt64} {xf : Nat → Nat → Nat → UInt32} {xo : Nat → Nat → Nat → Option Nat} {xi : Nat → Nat → Nat → Int32} {xn : Nat → Nat → Nat → Nat} {I : Nat → Nat → Int32} {J : Nat → Nat → Int64} {F : Nat → Nat → UInt32} {D : Nat → Nat → UInt64} {R : Nat → Nat → Option Nat} {nx sl : Nat} (h : RC ci cn co xj xd xf xo xi xn I J F D R nx sl) {t k v : Nat} (ht : t < 3) (hk : k < cn 0 t 0) {j : Nat} {z : Int32} (hj : j = k) (hz : z = nI v) : RC ci (u3 cn 2 t k v) co xj xd xf xo xi xn (mm_up I (32 + 7 * t + 6) j z) J F D R nx sl := by
  rw [hj, hz]
  obtain ⟨hJ, hD, hF, hR, hI, hX, hN, hS⟩ := h
  exact ⟨hJ,
   hD,
   hF,
   ⟨hR.1,
    hR.2.1,
    hR.2.2.1,
    hR.2.2.2.1,
    hR.2.2.2.2.1,
    fun t1 ht1 k1 hk1 => by
      have g0 := hR.2.2.2.2.2.1 t1 ht1 k1 hk1
      simp only [mm_up, u3, u1, true_and, and_true, false_and, and_false, and_self, if_true, if_false] <;> (repeat' split) <;> first | exact g0 | rfl | (exfalso; omega) | assumption | (congr 1; omega) | (simp_all; done),
    hR.2.2.2.2.2.2.1,
    hR.2.2.2.2.2.2.2.1,
    hR.2.2.2.2.2.2.2.2.1,
    hR.2.2.2.2.2.2.2.2.2⟩,
   ⟨fun p1 hp1 => by
      have g0 := hI.1 p1 hp1
      simp only [mm_up, u3, u1, true_and, and_true, false_and, and_false, and_self, if_true, if_false] <;> (repeat' split) <;> first | exact g0 | rfl | (exfalso; omega) | assumption | (congr 1; omega) | (simp_all; done),
    fun p1 hp1 => by
      have g0 := hI.2.1 p1 hp1
      simp only [mm_up, u3, u1, true_and, and_true, false_and, and_false, and_self, if_true, if_false] <;> (repeat' split) <;> first | exact g0 | rfl | (exfalso; omega) | assumption | (congr 1; omega) | (simp_all; done),
    fun p1 hp1 => by
      have g0 := hI.2.2.1 p1 hp1
      simp only [mm_up, u3, u1, true_and, and_true, false_and, and_false, and_self, if_true, if_false] <;> (repeat' split) <;> first | exact g0 | rfl | (exfalso; omega) | assumption | (congr 1; omega) | (simp_all; done),
    fun p1 hp1 k1 hk1 => by
      have g0 := hI.2.2.2.1 p1 hp1 k1 hk1
      simp only [mm_up, u3, u1, true_and, and_true, false_and, and_false, and_self, if_true, if_false] <;> (repeat' split) <;> first | exact g0 | rfl | (exfalso; omega) | assumption | (congr 1; omega) | (simp_all; done),
    fun p1 hp1 k1 hk1 => by
      have g0 := hI.2.2.2.2.1 p1 hp1 k1 hk1
      simp only [mm_up, u3, u1, true_and, and_true, false_and, and_false, and_self, if_true, if_false] <;> (repeat' split) <;> first | exact g0 | rfl | (exfalso; omega) | assumption | (congr 1; omega) | (simp_all; done),
    fun p1 hp1 k1 hk1 => by
      have g0 := hI.2.2.2.2.2.1 p1 hp1 k1 hk1
      simp only [mm_up, u3, u1, true_and, and_true, false_and, and_false, and_self, if_true, if_false] <;> (repeat' split) <;> first | exact g0 | rfl | (exfalso; omega) | assumption | (congr 1; omega) | (simp_all; done),
    fun p1 hp1 k1 hk1 => by
      have g0 := hI.2.2.2.2.2.2.1 p1 hp1 k1 hk1
      simp only [mm_up, u3, u1, true_and, and_true, false_and, and_false, and_self, if_true, if_false] <;> (repeat' split) <;> first | exact g0 | rfl | (exfalso; omega) | assumption | (congr 1; omega) | (simp_all; done),
    fun p1 hp1 k1 hk1 => by
      have g0 := hI.2.2.2.2.2.2.2.1 p1 hp1 k1 hk1
      simp only [mm_up, u3, u1, true_and, and_true, false_and, and_false, and_self, if_true, if_false] <;> (repeat' split) <;> first | exact g0 | rfl | (exfalso; omega) | assumption | (congr 1; omega) | (simp_all; done),
    fun p1 hp1 k1 hk1 => by
      have g0 := hI.2.2.2.2.2.2.2.2.1 p1 hp1 k1 hk1
      simp only [mm_up, u3, u1, true_and, and_true, false_and, and_false, and_self, if_true, if_false] <;> (repeat' split) <;> first | exact g0 | rfl | (exfalso; omega) | assumption | (congr 1; omega) | (simp_all; done),
    fun p1 hp1 k1 hk1 => by
      have g0 := hI.2.2.2.2.2.2.2.2.2.1 p1 hp1 k1 hk1
      simp only [mm_up, u3, u1, true_and, and_true, false_and, and_false, and_self, if_true, if_false] <;> (repeat' split) <;> first | exact g0 | rfl | (exfalso; omega) | assumption | (congr 1; omega) | (simp_all; done),
    fun p1 hp1 k1 hk1 => by
      have g0 := hI.2.2.2.2.2.2.2.2.2.2.1 p1 hp1 k1 hk1
      simp only [mm_up, u3, u1, true_and, and_true, false_and, and_false, and_self, if_true, if_false] <;> (repeat' split) <;> first | exact g0 | rfl | (exfalso; omega) | assumption | (congr 1; omega) | (simp_all; done),
    fun t1 ht1 => by
      have g0 := hI.2.2.2.2.2.2.2.2.2.2.2.1 t1 ht1
      simp only [mm_up, u3, u1, true_and, and_true, false_and, and_false, and_self, if_true, if_false] <;> (repeat' split) <;> first | exact g0 | rfl | (exfalso; omega) | assumption | (congr 1; omega) | (simp_all; done),
    fun t1 ht1 => by
      have g0 := hI.2.2.2.2.2.2.2.2.2.2.2.2.1 t1 ht1
      simp only [mm_up, u3, u1, true_and, and_true, false_and, and_false, and_self, if_true, if_false] <;> (repeat' split) <;> first | exact g0 | rfl | (exfalso; omega) | assumption | (congr 1; omega) | (simp_all; done),
    fun t1 ht1 k1 hk1 => by
      have g0 := hI.2.2.2.2.2.2.2.2.2.2.2.2.2.1 t1 ht1 k1 hk1
      simp only [mm_up, u3, u1, true_and, and_true, false_and, and_false, and_self, if_true, if_false] <;> (repeat' split) <;> first | exact g0 | rfl | (exfalso; omega) | assumption | (congr 1; omega) | (simp_all; done),
    fun t1 ht1 => by
      have g0 := hI.2.2.2.2.2.2.2.2.2.2.2.2.2.2.1 t1 ht1
      simp only [mm_up, u3, u1, true_and, and_true, false_and, and_false, and_self, if_true, if_false] <;> (repeat' split) <;> first | exact g0 | rfl | (exfalso; omega) | assumption | (congr 1; omega) | (simp_all; done),
    fun t1 ht1 => by
      have g0 := hI.2.2.2.2.2.2.2.2.2.2.2.2.2.2.2.1 t1 ht1
      simp only [mm_up, u3, u1, true_and, and_true, false_and, and_false, and_self, if_true, if_false] <;> (repeat' split) <;> first | exact g0 | rfl | (exfalso; omega) | assumption | (congr 1; omega) | (simp_all; done),
    fun t1 ht1 => by
      have g0 := hI.2.2.2.2.2.2.2.2.2.2.2.2.2.2.2.2.1 t1 ht1
      simp only [mm_up, u3, u1, true_and, and_true, false_and, and_false, and_self, if_true, if_false] <;> (repeat' split) <;> first | exact g0 | rfl | (exfalso; omega) | assumption | (congr 1; omega) | (simp_all; done),
    fun t1 ht1 => by
      have g0 := hI.2.2.2.2.2.2.2.2.2.2.2.2.2.2.2.2.2.1 t1 ht1
      simp only [mm_up, u3, u1, true_and, and_true, false_and, and_false, and_self, if_true, if_false] <;> (repeat' split) <;> first | exact g0 | rfl | (exfalso; omega) | assumption | (congr 1; omega) | (simp_all; done),
    fun t1 ht1 => by
      have g0 := hI.2.2.2.2.2.2.2.2.2.2.2.2.2.2.2.2.2.2.1 t1 ht1
      simp only [mm_up, u3, u1, true_and, and_true, false_and, and_false, and_self, if_true, if_false] <;> (repeat' split) <;> first | exact g0 | rfl | (exfalso; omega) | assumption | (congr 1; omega) | (simp_all; done),
    fun t1 ht1 => by
      have g0 := hI.2.2.2.2.2.2.2.2.2.2.2.2.2.2.2.2.2.2.2.1 t1 ht1
      simp only [mm_up, u3, u1, true_and, and_true, false_and, and_false, and_self, if_true, if_false] <;> (repeat' split) <;> first | exact g0 | rfl | (exfalso; omega) | assumption | (congr 1; omega) | (simp_all; done),
    by
      have g0 := hI.2.2.2.2.2.2.2.2.2.2.2.2.2.2.2.2.2.2.2.2.1
      simp only [mm_up, u3, u1, true_and, and_true, false_and, and_false, and_self, if_true, if_false] <;> (repeat' split) <;> first | exact g0 | rfl | (exfalso; omega) | assumption | (congr 1; omega) | (simp_all; done),
    by
      have g0 := hI.2.2.2.2.2.2.2.2.2.2.2.2.2.2.2.2.2.2.2.2.2.1
      simp only [mm_up, u3, u1, true_and, and_true, false_and, and_false, and_self, if_true, if_false] <;> (repeat' split) <;> first | exact g0 | rfl | (exfalso; omega) | assumption | (congr 1; omega) | (simp_all; done),
    fun i1 hi1 => by
      have g0 := hI.2.2.2.2.2.2.2.2.2.2.2.2.2.2.2.2.2.2.2.2.2.2.1 i1 hi1
      simp only [mm_up, u3, u1, true_and, and_true, false_and, and_false, and_self, if_true, if_false] <;> (repeat' split) <;> first | exact g0 | rfl | (exfalso; omega) | assumption | (congr 1; omega) | (simp_all; done),
    fun i1 hi1 => by
      have g0 := hI.2.2.2.2.2.2.2.2.2.2.2.2.2.2.2.2.2.2.2.2.2.2.2.1 i1 hi1
      simp only [mm_up, u3, u1, true_and, and_true, false_and, and_false, and_self, if_true, if_false] <;> (repeat' split) <;> first | exact g0 | rfl | (exfalso; omega) | assumption | (congr 1; omega) | (simp_all; done),
    fun i1 hi1 => by
      have g0 := hI.2.2.2.2.2.2.2.2.2.2.2.2.2.2.2.2.2.2.2.2.2.2.2.2.1 i1 hi1
      simp only [mm_up, u3, u1, true_and, and_true, false_and, and_false, and_self, if_true, if_false] <;> (repeat' split) <;> first | exact g0 | rfl | (exfalso; omega) | assumption | (congr 1; omega) | (simp_all; done),
    fun i1 hi1 => by
      have g0 := hI.2.2.2.2.2.2.2.2.2.2.2.2.2.2.2.2.2.2.2.2.2.2.2.2.2.1 i1 hi1
      simp only [mm_up, u3, u1, true_and, and_true, false_and, and_false, and_self, if_true, if_false] <;> (repeat' split) <;> first | exact g0 | rfl | (exfalso; omega) | assumption | (congr 1; omega) | (simp_all; done),
    fun i1 hi1 => by
      have g0 := hI.2.2.2.2.2.2.2.2.2.2.2.2.2.2.2.2.2.2.2.2.2.2.2.2.2.2.1 i1 hi1
      simp only [mm_up, u3, u1, true_and, and_true, false_and, and_false, and_self, if_true, if_false] <;> (repeat' split) <;> first | exact g0 | rfl | (exfalso; omega) | assumption | (congr 1; omega) | (simp_all; done),
    fun i1 hi1 => by
      have g0 := hI.2.2.2.2.2.2.2.2.2.2.2.2.2.2.2.2.2.2.2.2.2.2.2.2.2.2.2.1 i1 hi1
      simp only [mm_up, u3, u1, true_and, and_true, false_and, and_false, and_self, if_true, if_false] <;> (repeat' split) <;> first | exact g0 | rfl | (exfalso; omega) | assumption | (congr 1; omega) | (simp_all; done),
    fun i1 hi1 => by
      have g0 := hI.2.2.2.2.2.2.2.2.2.2.2.2.2.2.2.2.2.2.2.2.2.2.2.2.2.2.2.2.1 i1 hi1
      simp only [mm_up, u3, u1, true_and, and_true, false_and, and_false, and_self, if_true, if_false] <;> (repeat' split) <;> first | exact g0 | rfl | (exfalso; omega) | assumption | (congr 1; omega) | (simp_all; done),
    fun i1 hi1 => by
      have g0 := hI.2.2.2.2.2.2.2.2.2.2.2.2.2.2.2.2.2.2.2.2.2.2.2.2.2.2.2.2.2.1 i1 hi1
      simp only [mm_up, u3, u1, true_and, and_true, false_and, and_false, and_self, if_true, if_false] <;> (repeat' split) <;> first | exact g0 | rfl | (exfalso; omega) | assumption | (congr 1; omega) | (simp_all; done),
    fun i1 hi1 => by
      have g0 := hI.2.2.2.2.2.2.2.2.2.2.2.2.2.2.2.2.2.2.2.2.2.2.2.2.2.2.2.2.2.2 i1 hi1
      simp only [mm_up, u3, u1, true_and, and_true, false_and, and_false, and_self, if_true, if_false] <;> (repeat' split) <;> first | exact g0 | rfl | (exfalso; omega) | assumption | (congr 1; omega) | (simp_all; done)⟩,
   hX,
   hN,
   hS⟩
theorem MU_pla {ci : Nat → Nat → Nat → Int32} {cn : Nat → Nat → Nat → Nat} {co : Nat → Option Nat} {xj : Nat → Nat → Nat → Int64} {xd : Nat → Nat → Nat → UInt64} {xf : Nat → Nat → Nat → UInt32} {xo : Nat → Nat → Nat → Option Nat} {xi : Nat → Nat → Nat → Int32} {xn : Nat → Nat → Nat → Nat} {I : Nat → Nat → Int32} {J : Nat → Nat → Int64} {D : Nat → Nat → UInt64} (h : RM ci cn co xj xd xf xo xi xn I J D) {t k v : Nat} (ht : t < 3) (hk : k < cn 0 t 0) (h8 : ∀ t, t < 3 → cn 0 t 0 ≤ 8) {j : Nat} {z : Int32} (hj : j = 8 * t + k) (hz : z = nI v) : RM ci (u3 cn 2 t k v) co xj xd xf xo xi xn (mm_up I 37 j z) J D := by
  have d1 := h8 t ht
  have d2 := h8 0 (by decide)
  have d3 := h8 1 (by decide)
  have d4 := h8 2 (by decide)
  rw [hj, hz]
  obtain ⟨hJ, hD, hI⟩ := h
  exact ⟨hJ,
   hD,
   ⟨by
      have g0 := hI.1
      simp only [mm_up, u3, u1, true_and, and_true, false_and, and_false, and_self, if_true, if_false] <;> (repeat' split) <;> first | exact g0 | rfl | (exfalso; omega) | assumption | (congr 1; omega) | (simp_all; done),
    by
      have g0 := hI.2.1
      simp only [mm_up, u3, u1, true_and, and_true, false_and, and_false, and_self, if_true, if_false] <;> (repeat' split) <;> first | exact g0 | rfl | (exfalso; omega) | assumption | (congr 1; omega) | (simp_all; done),
    fun i1 hi1 => by
      have g0 := hI.2.2.1 i1 hi1
      simp only [mm_up, u3, u1, true_and, and_true, false_and, and_false, and_self, if_true, if_false] <;> (repeat' split) <;> first | exact g0 | rfl | (exfalso; omega) | assumption | (congr 1; omega) | (simp_all; done),
    fun i1 hi1 => by
      have g0 := hI.2.2.2.1 i1 hi1
      simp only [mm_up, u3, u1, true_and, and_true, false_and, and_false, and_self, if_true, if_false] <;> (repeat' split) <;> first | exact g0 | rfl | (exfalso; omega) | assumption | (congr 1; omega) | (simp_all; done),
    fun i1 hi1 => by
      have g0 := hI.2.2.2.2.1 i1 hi1
      simp only [mm_up, u3, u1, true_and, and_true, false_and, and_false, and_self, if_true, if_false] <;> (repeat' split) <;> first | exact g0 | rfl | (exfalso; omega) | assumption | (congr 1; omega) | (simp_all; done),
    fun i1 hi1 => by
      have g0 := hI.2.2.2.2.2.1 i1 hi1
      simp only [mm_up, u3, u1, true_and, and_true, false_and, and_false, and_self, if_true, if_false] <;> (repeat' split) <;> first | exact g0 | rfl | (exfalso; omega) | assumption | (congr 1; omega) | (simp_all; done),
    fun i1 hi1 => by
      have g0 := hI.2.2.2.2.2.2.1 i1 hi1
      simp only [mm_up, u3, u1, true_and, and_true, false_and, and_false, and_self, if_true, if_false] <;> (repeat' split) <;> first | exact g0 | rfl | (exfalso; omega) | assumption | (congr 1; omega) | (simp_all; done),
    fun i1 hi1 k1 hk1 => by
      have g0 := hI.2.2.2.2.2.2.2.1 i1 hi1 k1 hk1
      simp only [mm_up, u3, u1, true_and, and_true, false_and, and_false, and_self, if_true, if_false] <;> (repeat' split) <;> first | exact g0 | rfl | (exfalso; omega) | assumption | (congr 1; omega) | (simp_all; done),
    fun i1 hi1 => by
      have g0 := hI.2.2.2.2.2.2.2.2.1 i1 hi1
      simp only [mm_up, u3, u1, true_and, and_true, false_and, and_false, and_self, if_true, if_false] <;> (repeat' split) <;> first | exact g0 | rfl | (exfalso; omega) | assumption | (congr 1; omega) | (simp_all; done),
    fun i1 hi1 => by
      have g0 := hI.2.2.2.2.2.2.2.2.2.1 i1 hi1
      simp only [mm_up, u3, u1, true_and, and_true, false_and, and_false, and_self, if_true, if_false] <;> (repeat' split) <;> first | exact g0 | rfl | (exfalso; omega) | assumption | (congr 1; omega) | (simp_all; done),
    fun p1 hp1 => by
      have g0 := hI.2.2.2.2.2.2.2.2.2.2.1 p1 hp1
      simp only [mm_up, u3, u1, true_and, and_true, false_and, and_false, and_self, if_true, if_false] <;> (repeat' split) <;> first | exact g0 | rfl | (exfalso; omega) | assumption | (congr 1; omega) | (simp_all; done),
    fun p1 hp1 k1 hk1 => by
      have g0 := hI.2.2.2.2.2.2.2.2.2.2.2.1 p1 hp1 k1 hk1
      simp only [mm_up, u3, u1, true_and, and_true, false_and, and_false, and_self, if_true, if_false] <;> (repeat' split) <;> first | exact g0 | rfl | (exfalso; omega) | assumption | (congr 1; omega) | (simp_all; done),
    fun p1 hp1 k1 hk1 => by
      have g0 := hI.2.2.2.2.2.2.2.2.2.2.2.2.1 p1 hp1 k1 hk1
      simp only [mm_up, u3, u1, true_and, and_true, false_and, and_false, and_self, if_true, if_false] <;> (repeat' split) <;> first | exact g0 | rfl | (exfalso; omega) | assumption | (congr 1; omega) | (simp_all; done),
    fun p1 hp1 k1 hk1 => by
      have g0 := hI.2.2.2.2.2.2.2.2.2.2.2.2.2.1 p1 hp1 k1 hk1
      simp only [mm_up, u3, u1, true_and, and_true, false_and, and_false, and_self, if_true, if_false] <;> (repeat' split) <;> first | exact g0 | rfl | (exfalso; omega) | assumption | (congr 1; omega) | (simp_all; done),
    fun p1 hp1 k1 hk1 => by
      have g0 := hI.2.2.2.2.2.2.2.2.2.2.2.2.2.2.1 p1 hp1 k1 hk1
      simp only [mm_up, u3, u1, true_and, and_true, false_and, and_false, and_self, if_true, if_false] <;> (repeat' split) <;> first | exact g0 | rfl | (exfalso; omega) | assumption | (congr 1; omega) | (simp_all; done),
    fun p1 hp1 => by
      have g0 := hI.2.2.2.2.2.2.2.2.2.2.2.2.2.2.2.1 p1 hp1
      simp only [mm_up, u3, u1, true_and, and_true, false_and, and_false, and_self, if_true, if_false] <;> (repeat' split) <;> first | exact g0 | rfl | (exfalso; omega) | assumption | (congr 1; omega) | (simp_all; done),
    fun p1 hp1 k1 hk1 => by
      have g0 := hI.2.2.2.2.2.2.2.2.2.2.2.2.2.2.2.2.1 p1 hp1 k1 hk1
      simp only [mm_up, u3, u1, true_and, and_true, false_and, and_false, and_self, if_true, if_false] <;> (repeat' split) <;> first | exact g0 | rfl | (exfalso; omega) | assumption | (congr 1; omega) | (simp_all; done),
    fun p1 hp1 k1 hk1 => by
      have g0 := hI.2.2.2.2.2.2.2.2.2.2.2.2.2.2.2.2.2.1 p1 hp1 k1 hk1
      simp only [mm_up, u3, u1, true_and, and_true, false_and, and_false, and_self, if_true, if_false] <;> (repeat' split) <;> first | exact g0 | rfl | (exfalso; omega) | assumption | (congr 1; omega) | (simp_all; done),
    fun p1 hp1 k1 hk1 => by
      have g0 := hI.2.2.2.2.2.2.2.2.2.2.2.2.2.2.2.2.2.2.1 p1 hp1 k1 hk1
      simp only [mm_up, u3, u1, true_and, and_true, false_and, and_false, and_self, if_true, if_false] <;> (repeat' split) <;> first | exact g0 | rfl | (exfalso; omega) | assumption | (congr 1; omega) | (simp_all; done),
    fun p1 hp1 k1 hk1 => by
      have g0 := hI.2.2.2.2.2.2.2.2.2.2.2.2.2.2.2.2.2.2.2.1 p1 hp1 k1 hk1
      simp only [mm_up, u3, u1, true_and, and_true, false_and, and_false, and_self, if_true, if_false] <;> (repeat' split) <;> first | exact g0 | rfl | (exfalso; omega) | assumption | (congr 1; omega) | (simp_all; done),
    fun t1 ht1 k1 hk1 => by
      have e8 := h8 t1 ht1
      have g0 := hI.2.2.2.2.2.2.2.2.2.2.2.2.2.2.2.2.2.2.2.2.1 t1 ht1 k1 hk1
      simp only [mm_up, u3, u1, true_and, and_true, false_and, and_false, and_self, if_true, if_false] <;> (repeat' split) <;> first | exact g0 | rfl | (exfalso; omega) | assumption | (congr 1; omega) | (simp_all; done),
    fun t1 ht1 => by
      have e8 := h8 t1 ht1
      have g0 := hI.2.2.2.2.2.2.2.2.2.2.2.2.2.2.2.2.2.2.2.2.2.1 t1 ht1
      simp only [mm_up, u3, u1, true_and, and_true, false_and, and_false, and_self, if_true, if_false] <;> (repeat' split) <;> first | exact g0 | rfl | (exfalso; omega) | assumption | (congr 1; omega) | (simp_all; done),
    fun t1 ht1 => by
      have e8 := h8 t1 ht1
      have g0 := hI.2.2.2.2.2.2.2.2.2.2.2.2.2.2.2.2.2.2.2.2.2.2.1 t1 ht1
      simp only [mm_up, u3, u1, true_and, and_true, false_and, and_false, and_self, if_true, if_false] <;> (repeat' split) <;> first | exact g0 | rfl | (exfalso; omega) | assumption | (congr 1; omega) | (simp_all; done),
    fun t1 ht1 k1 hk1 => by
      have e8 := h8 t1 ht1
      have hk9 : k1 < cn 0 t1 0 := hk1
      have g0 := hI.2.2.2.2.2.2.2.2.2.2.2.2.2.2.2.2.2.2.2.2.2.2.2.1 t1 ht1 k1 hk1
      simp only [mm_up, u3, u1, true_and, and_true, false_and, and_false, and_self, if_true, if_false] <;> (repeat' split) <;> first | exact g0 | rfl | (exfalso; omega) | assumption | (congr 1; omega) | (simp_all; done),
    fun t1 ht1 k1 hk1 => by
      have e8 := h8 t1 ht1
      have hk9 : k1 < cn 0 t1 0 := hk1
      have g0 := hI.2.2.2.2.2.2.2.2.2.2.2.2.2.2.2.2.2.2.2.2.2.2.2.2.1 t1 ht1 k1 hk1
      simp only [mm_up, u3, u1, true_and, and_true, false_and, and_false, and_self, if_true, if_false] <;> (repeat' split) <;> first | exact g0 | rfl | (exfalso; omega) | assumption | (congr 1; omega) | (simp_all; done),
    fun t1 ht1 => by
      have e8 := h8 t1 ht1
      have g0 := hI.2.2.2.2.2.2.2.2.2.2.2.2.2.2.2.2.2.2.2.2.2.2.2.2.2.1 t1 ht1
      simp only [mm_up, u3, u1, true_and, and_true, false_and, and_false, and_self, if_true, if_false] <;> (repeat' split) <;> first | exact g0 | rfl | (exfalso; omega) | assumption | (congr 1; omega) | (simp_all; done),
    fun t1 ht1 => by
      have e8 := h8 t1 ht1
      have g0 := hI.2.2.2.2.2.2.2.2.2.2.2.2.2.2.2.2.2.2.2.2.2.2.2.2.2.2.1 t1 ht1
      simp only [mm_up, u3, u1, true_and, and_true, false_and, and_false, and_self, if_true, if_false] <;> (repeat' split) <;> first | exact g0 | rfl | (exfalso; omega) | assumption | (congr 1; omega) | (simp_all; done),
    fun t1 ht1 => by
      have e8 := h8 t1 ht1
      have g0 := hI.2.2.2.2.2.2.2.2.2.2.2.2.2.2.2.2.2.2.2.2.2.2.2.2.2.2.2.1 t1 ht1
      simp only [mm_up, u3, u1, true_and, and_true, false_and, and_false, and_self, if_true, if_false] <;> (repeat' split) <;> first | exact g0 | rfl | (exfalso; omega) | assumption | (congr 1; omega) | (simp_all; done),
    fun t1 ht1 => by
      have e8 := h8 t1 ht1
      have g0 := hI.2.2.2.2.2.2.2.2.2.2.2.2.2.2.2.2.2.2.2.2.2.2.2.2.2.2.2.2.1 t1 ht1
      simp only [mm_up, u3, u1, true_and, and_true, false_and, and_false, and_self, if_true, if_false] <;> (repeat' split) <;> first | exact g0 | rfl | (exfalso; omega) | assumption | (congr 1; omega) | (simp_all; done),
    fun t1 ht1 => by
      have e8 := h8 t1 ht1
      have g0 := hI.2.2.2.2.2.2.2.2.2.2.2.2.2.2.2.2.2.2.2.2.2.2.2.2.2.2.2.2.2.1 t1 ht1
      simp only [mm_up, u3, u1, true_and, and_true, false_and, and_false, and_self, if_true, if_false] <;> (repeat' split) <;> first | exact g0 | rfl | (exfalso; omega) | assumption | (congr 1; omega) | (simp_all; done),
    fun t1 ht1 => by
      have e8 := h8 t1 ht1
      have g0 := hI.2.2.2.2.2.2.2.2.2.2.2.2.2.2.2.2.2.2.2.2.2.2.2.2.2.2.2.2.2.2 t1 ht1
      simp only [mm_up, u3, u1, true_and, and_true, false_and, and_false, and_self, if_true, if_false] <;> (repeat' split) <;> first | exact g0 | rfl | (exfalso; omega) | assumption | (congr 1; omega) | (simp_all; done)⟩⟩
theorem CU_don {ci : Nat → Nat → Nat → Int32} {cn : Nat → Nat → Nat → Nat} {co : Nat → Option Nat} {xj : Nat → Nat → Nat → Int64} {xd : Nat → Nat → Nat → UInt64} {xf : Nat → Nat → Nat → UInt32} {xo : Nat → Nat → Nat → Option Nat} {xi : Nat → Nat → Nat → Int32} {xn : Nat → Nat → Nat → Nat} {I : Nat → Nat → Int32} {J : Nat → Nat → Int64} {F : Nat → Nat → UInt32} {D : Nat → Nat → UInt64} {R : Nat → Nat → Option Nat} {nx sl : Nat} (h : RC ci cn co xj xd xf xo xi xn I J F D R nx sl) {t : Nat} {v : Int32} (ht : t < 3) {z : Int32} (hz : z = v) : RC (u3 ci 0 t 0 v) cn co xj xd xf xo xi xn (mm_up I (32 + 7 * t) 8 z) J F D R nx sl := by
  rw [hz]
  obtain ⟨hJ, hD, hF, hR, hI, hX, hN, hS⟩ := h
  exact ⟨hJ,
   hD,
   hF,
   hR,
   ⟨fun p1 hp1 => by
      have g0 := hI.1 p1 hp1
      simp only [mm_up, u3, u1, true_and, and_true, false_and, and_false, and_self, if_true, if_false] <;> (repeat' split) <;> first | exact g0 | rfl | (exfalso; omega) | assumption | (congr 1; omega) | (simp_all; done),
    fun p1 hp1 => by
      have g0 := hI.2.1 p1 hp1
      simp only [mm_up, u3, u1, true_and, and_true, false_and, and_false, and_self, if_true, if_false] <;> (repeat' split) <;> first | exact g0 | rfl | (exfalso; omega) | assumption | (congr 1; omega) | (simp_all; done),
    fun p1 hp1 => by
      have g0 := hI.2.2.1 p1 hp1
      simp only [mm_up, u3, u1, true_and, and_true, false_and, and_false, and_self, if_true, if_false] <;> (repeat' split) <;> first | exact g0 | rfl | (exfalso; omega) | assumption | (congr 1; omega) | (simp_all; done),
    fun p1 hp1 k1 hk1 => by
      have g0 := hI.2.2.2.1 p1 hp1 k1 hk1
      simp only [mm_up, u3, u1, true_and, and_true, false_and, and_false, and_self, if_true, if_false] <;> (repeat' split) <;> first | exact g0 | rfl | (exfalso; omega) | assumption | (congr 1; omega) | (simp_all; done),
    fun p1 hp1 k1 hk1 => by
      have g0 := hI.2.2.2.2.1 p1 hp1 k1 hk1
      simp only [mm_up, u3, u1, true_and, and_true, false_and, and_false, and_self, if_true, if_false] <;> (repeat' split) <;> first | exact g0 | rfl | (exfalso; omega) | assumption | (congr 1; omega) | (simp_all; done),
    fun p1 hp1 k1 hk1 => by
      have g0 := hI.2.2.2.2.2.1 p1 hp1 k1 hk1
      simp only [mm_up, u3, u1, true_and, and_true, false_and, and_false, and_self, if_true, if_false] <;> (repeat' split) <;> first | exact g0 | rfl | (exfalso; omega) | assumption | (congr 1; omega) | (simp_all; done),
    fun p1 hp1 k1 hk1 => by
      have g0 := hI.2.2.2.2.2.2.1 p1 hp1 k1 hk1
      simp only [mm_up, u3, u1, true_and, and_true, false_and, and_false, and_self, if_true, if_false] <;> (repeat' split) <;> first | exact g0 | rfl | (exfalso; omega) | assumption | (congr 1; omega) | (simp_all; done),
    fun p1 hp1 k1 hk1 => by
      have g0 := hI.2.2.2.2.2.2.2.1 p1 hp1 k1 hk1
      simp only [mm_up, u3, u1, true_and, and_true, false_and, and_false, and_self, if_true, if_false] <;> (repeat' split) <;> first | exact g0 | rfl | (exfalso; omega) | assumption | (congr 1; omega) | (simp_all; done),
    fun p1 hp1 k1 hk1 => by
      have g0 := hI.2.2.2.2.2.2.2.2.1 p1 hp1 k1 hk1
      simp only [mm_up, u3, u1, true_and, and_true, false_and, and_false, and_self, if_true, if_false] <;> (repeat' split) <;> first | exact g0 | rfl | (exfalso; omega) | assumption | (congr 1; omega) | (simp_all; done),
    fun p1 hp1 k1 hk1 => by
      have g0 := hI.2.2.2.2.2.2.2.2.2.1 p1 hp1 k1 hk1
      simp only [mm_up, u3, u1, true_and, and_true, false_and, and_false, and_self, if_true, if_false] <;> (repeat' split) <;> first | exact g0 | rfl | (exfalso; omega) | assumption | (congr 1; omega) | (simp_all; done),
    fun p1 hp1 k1 hk1 => by
      have g0 := hI.2.2.2.2.2.2.2.2.2.2.1 p1 hp1 k1 hk1
      simp only [mm_up, u3, u1, true_and, and_true, false_and, and_false, and_self, if_true, if_false] <;> (repeat' split) <;> first | exact g0 | rfl | (exfalso; omega) | assumption | (congr 1; omega) | (simp_all; done),
    fun t1 ht1 => by
      have g0 := hI.2.2.2.2.2.2.2.2.2.2.2.1 t1 ht1
      simp only [mm_up, u3, u1, true_and, and_true, false_and, and_false, and_self, if_true, if_false] <;> (repeat' split) <;> first | exact g0 | rfl | (exfalso; omega) | assumption | (congr 1; omega) | (simp_all; done),
    fun t1 ht1 => by
      have g0 := hI.2.2.2.2.2.2.2.2.2.2.2.2.1 t1 ht1
      simp only [mm_up, u3, u1, true_and, and_true, false_and, and_false, and_self, if_true, if_false] <;> (repeat' split) <;> first | exact g0 | rfl | (exfalso; omega) | assumption | (congr 1; omega) | (simp_all; done),
    fun t1 ht1 k1 hk1 => by
      have g0 := hI.2.2.2.2.2.2.2.2.2.2.2.2.2.1 t1 ht1 k1 hk1
      simp only [mm_up, u3, u1, true_and, and_true, false_and, and_false, and_self, if_true, if_false] <;> (repeat' split) <;> first | exact g0 | rfl | (exfalso; omega) | assumption | (congr 1; omega) | (simp_all; done),
    fun t1 ht1 => by
      have g0 := hI.2.2.2.2.2.2.2.2.2.2.2.2.2.2.1 t1 ht1
      simp only [mm_up, u3, u1, true_and, and_true, false_and, and_false, and_self, if_true, if_false] <;> (repeat' split) <;> first | exact g0 | rfl | (exfalso; omega) | assumption | (congr 1; omega) | (simp_all; done),
    fun t1 ht1 => by
      have g0 := hI.2.2.2.2.2.2.2.2.2.2.2.2.2.2.2.1 t1 ht1
      simp only [mm_up, u3, u1, true_and, and_true, false_and, and_false, and_self, if_true, if_false] <;> (repeat' split) <;> first | exact g0 | rfl | (exfalso; omega) | assumption | (congr 1; omega) | (simp_all; done),
    fun t1 ht1 => by
      have g0 := hI.2.2.2.2.2.2.2.2.2.2.2.2.2.2.2.2.1 t1 ht1
      simp only [mm_up, u3, u1, true_and, and_true, false_and, and_false, and_self, if_true, if_false] <;> (repeat' split) <;> first | exact g0 | rfl | (exfalso; omega) | assumption | (congr 1; omega) | (simp_all; done),
    fun t1 ht1 => by
      have g0 := hI.2.2.2.2.2.2.2.2.2.2.2.2.2.2.2.2.2.1 t1 ht1
      simp only [mm_up, u3, u1, true_and, and_true, false_and, and_false, and_self, if_true, if_false] <;> (repeat' split) <;> first | exact g0 | rfl | (exfalso; omega) | assumption | (congr 1; omega) | (simp_all; done),
    fun t1 ht1 => by
      have g0 := hI.2.2.2.2.2.2.2.2.2.2.2.2.2.2.2.2.2.2.1 t1 ht1
      simp only [mm_up, u3, u1, true_and, and_true, false_and, and_false, and_self, if_true, if_false] <;> (repeat' split) <;> first | exact g0 | rfl | (exfalso; omega) | assumption | (congr 1; omega) | (simp_all; done),
    fun t1 ht1 => by
      have g0 := hI.2.2.2.2.2.2.2.2.2.2.2.2.2.2.2.2.2.2.2.1 t1 ht1
      simp only [mm_up, u3, u1, true_and, and_true, false_and, and_false, and_self, if_true, if_false] <;> (repeat' split) <;> first | exact g0 | rfl | (exfalso; omega) | assumption | (congr 1; omega) | (simp_all; done),
    by
      have g0 := hI.2.2.2.2.2.2.2.2.2.2.2.2.2.2.2.2.2.2.2.2.1
      simp only [mm_up, u3, u1, true_and, and_true, false_and, and_false, and_self, if_true, if_false] <;> (repeat' split) <;> first | exact g0 | rfl | (exfalso; omega) | assumption | (congr 1; omega) | (simp_all; done),
    by
      have g0 := hI.2.2.2.2.2.2.2.2.2.2.2.2.2.2.2.2.2.2.2.2.2.1
      simp only [mm_up, u3, u1, true_and, and_true, false_and, and_false, and_self, if_true, if_false] <;> (repeat' split) <;> first | exact g0 | rfl | (exfalso; omega) | assumption | (congr 1; omega) | (simp_all; done),
    fun i1 hi1 => by
      have g0 := hI.2.2.2.2.2.2.2.2.2.2.2.2.2.2.2.2.2.2.2.2.2.2.1 i1 hi1
      simp only [mm_up, u3, u1, true_and, and_true, false_and, and_false, and_self, if_true, if_false] <;> (repeat' split) <;> first | exact g0 | rfl | (exfalso; omega) | assumption | (congr 1; omega) | (simp_all; done),
    fun i1 hi1 => by
      have g0 := hI.2.2.2.2.2.2.2.2.2.2.2.2.2.2.2.2.2.2.2.2.2.2.2.1 i1 hi1
      simp only [mm_up, u3, u1, true_and, and_true, false_and, and_false, and_self, if_true, if_false] <;> (repeat' split) <;> first | exact g0 | rfl | (exfalso; omega) | assumption | (congr 1; omega) | (simp_all; done),
    fun i1 hi1 => by
      have g0 := hI.2.2.2.2.2.2.2.2.2.2.2.2.2.2.2.2.2.2.2.2.2.2.2.2.1 i1 hi1
      simp only [mm_up, u3, u1, true_and, and_true, false_and, and_false, and_self, if_true, if_false] <;> (repeat' split) <;> first | exact g0 | rfl | (exfalso; omega) | assumption | (congr 1; omega) | (simp_all; done),
    fun i1 hi1 => by
      have g0 := hI.2.2.2.2.2.2.2.2.2.2.2.2.2.2.2.2.2.2.2.2.2.2.2.2.2.1 i1 hi1
      simp only [mm_up, u3, u1, true_and, and_true, false_and, and_false, and_self, if_true, if_false] <;> (repeat' split) <;> first | exact g0 | rfl | (exfalso; omega) | assumption | (congr 1; omega) | (simp_all; done),
    fun i1 hi1 => by
      have g0 := hI.2.2.2.2.2.2.2.2.2.2.2.2.2.2.2.2.2.2.2.2.2.2.2.2.2.2.1 i1 hi1
      simp only [mm_up, u3, u1, true_and, and_true, false_and, and_false, and_self, if_true, if_false] <;> (repeat' split) <;> first | exact g0 | rfl | (exfalso; omega) | assumption | (congr 1; omega) | (simp_all; done),
    fun i1 hi1 => by
      have g0 := hI.2.2.2.2.2.2.2.2.2.2.2.2.2.2.2.2.2.2.2.2.2.2.2.2.2.2.2.1 i1 hi1
      simp only [mm_up, u3, u1, true_and, and_true, false_and, and_false, and_self, if_true, if_false] <;> (repeat' split) <;> first | exact g0 | rfl | (exfalso; omega) | assumption | (congr 1; omega) | (simp_all; done),
    fun i1 hi1 => by
      have g0 := hI.2.2.2.2.2.2.2.2.2.2.2.2.2.2.2.2.2.2.2.2.2.2.2.2.2.2.2.2.1 i1 hi1
      simp only [mm_up, u3, u1, true_and, and_true, false_and, and_false, and_self, if_true, if_false] <;> (repeat' split) <;> first | exact g0 | rfl | (exfalso; omega) | assumption | (congr 1; omega) | (simp_all; done),
    fun i1 hi1 => by
      have g0 := hI.2.2.2.2.2.2.2.2.2.2.2.2.2.2.2.2.2.2.2.2.2.2.2.2.2.2.2.2.2.1 i1 hi1
      simp only [mm_up, u3, u1, true_and, and_true, false_and, and_false, and_self, if_true, if_false] <;> (repeat' split) <;> first | exact g0 | rfl | (exfalso; omega) | assumption | (congr 1; omega) | (simp_all; done),
    fun i1 hi1 => by
      have g0 := hI.2.2.2.2.2.2.2.2.2.2.2.2.2.2.2.2.2.2.2.2.2.2.2.2.2.2.2.2.2.2 i1 hi1
      simp only [mm_up, u3, u1, true_and, and_true, false_and, and_false, and_self, if_true, if_false] <;> (repeat' split) <;> first | exact g0 | rfl | (exfalso; omega) | assumption | (congr 1; omega) | (simp_all; done)⟩,
   hX,
   hN,
   hS⟩
theorem MU_don {ci : Nat → Nat → Nat → Int32} {cn : Nat → Nat → Nat → Nat} {co : Nat → Option Nat} {xj : Nat → Nat → Nat → Int64} {xd : Nat → Nat → Nat → UInt64} {xf : Nat → Nat → Nat → UInt32} {xo : Nat → Nat → Nat → Option Nat} {xi : Nat → Nat → Nat → Int32} {xn : Nat → Nat → Nat → Nat} {I : Nat → Nat → Int32} {J : Nat → Nat → Int64} {D : Nat → Nat → UInt64} (h : RM ci cn co xj xd xf xo xi xn I J D) {t : Nat} {v : Int32} (ht : t < 3) {j : Nat} {z : Int32} (hj : j = t) (hz : z = v) : RM (u3 ci 0 t 0 v) cn co xj xd xf xo xi xn (mm_up I 38 j z) J D := by
  rw [hj, hz]
  obtain ⟨hJ, hD, hI⟩ := h
  exact ⟨hJ,
   hD,
   ⟨by
      have g0 := hI.1
      simp only [mm_up, u3, u1, true_and, and_true, false_and, and_false, and_self, if_true, if_false] <;> (repeat' split) <;> first | exact g0 | rfl | (exfalso; omega) | assumption | (congr 1; omega) | (simp_all; done),
    by
      have g0 := hI.2.1
      simp only [mm_up, u3, u1, true_and, and_true, false_and, and_false, and_self, if_true, if_false] <;> (repeat' split) <;> first | exact g0 | rfl | (exfalso; omega) | assumption | (congr 1; omega) | (simp_all; done),
    fun i1 hi1 => by
      have g0 := hI.2.2.1 i1 hi1
      simp only [mm_up, u3, u1, true_and, and_true, false_and, and_false, and_self, if_true, if_false] <;> (repeat' split) <;> first | exact g0 | rfl | (exfalso; omega) | assumption | (congr 1; omega) | (simp_all; done),
    fun i1 hi1 => by
      have g0 := hI.2.2.2.1 i1 hi1
      simp only [mm_up, u3, u1, true_and, and_true, false_and, and_false, and_self, if_true, if_false] <;> (repeat' split) <;> first | exact g0 | rfl | (exfalso; omega) | assumption | (congr 1; omega) | (simp_all; done),
    fun i1 hi1 => by
      have g0 := hI.2.2.2.2.1 i1 hi1
      simp only [mm_up, u3, u1, true_and, and_true, false_and, and_false, and_self, if_true, if_false] <;> (repeat' split) <;> first | exact g0 | rfl | (exfalso; omega) | assumption | (congr 1; omega) | (simp_all; done),
    fun i1 hi1 => by
      have g0 := hI.2.2.2.2.2.1 i1 hi1
      simp only [mm_up, u3, u1, true_and, and_true, false_and, and_false, and_self, if_true, if_false] <;> (repeat' split) <;> first | exact g0 | rfl | (exfalso; omega) | assumption | (congr 1; omega) | (simp_all; done),
    fun i1 hi1 => by
      have g0 := hI.2.2.2.2.2.2.1 i1 hi1
      simp only [mm_up, u3, u1, true_and, and_true, false_and, and_false, and_self, if_true, if_false] <;> (repeat' split) <;> first | exact g0 | rfl | (exfalso; omega) | assumption | (congr 1; omega) | (simp_all; done),
    fun i1 hi1 k1 hk1 => by
      have g0 := hI.2.2.2.2.2.2.2.1 i1 hi1 k1 hk1
      simp only [mm_up, u3, u1, true_and, and_true, false_and, and_false, and_self, if_true, if_false] <;> (repeat' split) <;> first | exact g0 | rfl | (exfalso; omega) | assumption | (congr 1; omega) | (simp_all; done),
    fun i1 hi1 => by
      have g0 := hI.2.2.2.2.2.2.2.2.1 i1 hi1
      simp only [mm_up, u3, u1, true_and, and_true, false_and, and_false, and_self, if_true, if_false] <;> (repeat' split) <;> first | exact g0 | rfl | (exfalso; omega) | assumption | (congr 1; omega) | (simp_all; done),
    fun i1 hi1 => by
      have g0 := hI.2.2.2.2.2.2.2.2.2.1 i1 hi1
      simp only [mm_up, u3, u1, true_and, and_true, false_and, and_false, and_self, if_true, if_false] <;> (repeat' split) <;> first | exact g0 | rfl | (exfalso; omega) | assumption | (congr 1; omega) | (simp_all; done),
    fun p1 hp1 => by
      have g0 := hI.2.2.2.2.2.2.2.2.2.2.1 p1 hp1
      simp only [mm_up, u3, u1, true_and, and_true, false_and, and_false, and_self, if_true, if_false] <;> (repeat' split) <;> first | exact g0 | rfl | (exfalso; omega) | assumption | (congr 1; omega) | (simp_all; done),
    fun p1 hp1 k1 hk1 => by
      have g0 := hI.2.2.2.2.2.2.2.2.2.2.2.1 p1 hp1 k1 hk1
      simp only [mm_up, u3, u1, true_and, and_true, false_and, and_false, and_self, if_true, if_false] <;> (repeat' split) <;> first | exact g0 | rfl | (exfalso; omega) | assumption | (congr 1; omega) | (simp_all; done),
    fun p1 hp1 k1 hk1 => by
      have g0 := hI.2.2.2.2.2.2.2.2.2.2.2.2.1 p1 hp1 k1 hk1
      simp only [mm_up, u3, u1, true_and, and_true, false_and, and_false, and_self, if_true, if_false] <;> (repeat' split) <;> first | exact g0 | rfl | (exfalso; omega) | assumption | (congr 1; omega) | (simp_all; done),
    fun p1 hp1 k1 hk1 => by
      have g0 := hI.2.2.2.2.2.2.2.2.2.2.2.2.2.1 p1 hp1 k1 hk1
      simp only [mm_up, u3, u1, true_and, and_true, false_and, and_false, and_self, if_true, if_false] <;> (repeat' split) <;> first | exact g0 | rfl | (exfalso; omega) | assumption | (congr 1; omega) | (simp_all; done),
    fun p1 hp1 k1 hk1 => by
      have g0 := hI.2.2.2.2.2.2.2.2.2.2.2.2.2.2.1 p1 hp1 k1 hk1
      simp only [mm_up, u3, u1, true_and, and_true, false_and, and_false, and_self, if_true, if_false] <;> (repeat' split) <;> first | exact g0 | rfl | (exfalso; omega) | assumption | (congr 1; omega) | (simp_all; done),
    fun p1 hp1 => by
      have g0 := hI.2.2.2.2.2.2.2.2.2.2.2.2.2.2.2.1 p1 hp1
      simp only [mm_up, u3, u1, true_and, and_true, false_and, and_false, and_self, if_true, if_false] <;> (repeat' split) <;> first | exact g0 | rfl | (exfalso; omega) | assumption | (congr 1; omega) | (simp_all; done),
    fun p1 hp1 k1 hk1 => by
      have g0 := hI.2.2.2.2.2.2.2.2.2.2.2.2.2.2.2.2.1 p1 hp1 k1 hk1
      simp only [mm_up, u3, u1, true_and, and_true, false_and, and_false, and_self, if_true, if_false] <;> (repeat' split) <;> first | exact g0 | rfl | (exfalso; omega) | assumption | (congr 1; omega) | (simp_all; done),
    fun p1 hp1 k1 hk1 => by
      have g0 := hI.2.2.2.2.2.2.2.2.2.2.2.2.2.2.2.2.2.1 p1 hp1 k1 hk1
      simp only [mm_up, u3, u1, true_and, and_true, false_and, and_false, and_self, if_true, if_false] <;> (repeat' split) <;> first | exact g0 | rfl | (exfalso; omega) | assumption | (congr 1; omega) | (simp_all; done),
    fun p1 hp1 k1 hk1 => by
      have g0 := hI.2.2.2.2.2.2.2.2.2.2.2.2.2.2.2.2.2.2.1 p1 hp1 k1 hk1
      simp only [mm_up, u3, u1, true_and, and_true, false_and, and_false, and_self, if_true, if_false] <;> (repeat' split) <;> first | exact g0 | rfl | (exfalso; omega) | assumption | (congr 1; omega) | (simp_all; done),
    fun p1 hp1 k1 hk1 => by
      have g0 := hI.2.2.2.2.2.2.2.2.2.2.2.2.2.2.2.2.2.2.2.1 p1 hp1 k1 hk1
      simp only [mm_up, u3, u1, true_and, and_true, false_and, and_false, and_self, if_true, if_false] <;> (repeat' split) <;> first | exact g0 | rfl | (exfalso; omega) | assumption | (congr 1; omega) | (simp_all; done),
    fun t1 ht1 k1 hk1 => by
      have g0 := hI.2.2.2.2.2.2.2.2.2.2.2.2.2.2.2.2.2.2.2.2.1 t1 ht1 k1 hk1
      simp only [mm_up, u3, u1, true_and, and_true, false_and, and_false, and_self, if_true, if_false] <;> (repeat' split) <;> first | exact g0 | rfl | (exfalso; omega) | assumption | (congr 1; omega) | (simp_all; done),
    fun t1 ht1 => by
      have g0 := hI.2.2.2.2.2.2.2.2.2.2.2.2.2.2.2.2.2.2.2.2.2.1 t1 ht1
      simp only [mm_up, u3, u1, true_and, and_true, false_and, and_false, and_self, if_true, if_false] <;> (repeat' split) <;> first | exact g0 | rfl | (exfalso; omega) | assumption | (congr 1; omega) | (simp_all; done),
    fun t1 ht1 => by
      have g0 := hI.2.2.2.2.2.2.2.2.2.2.2.2.2.2.2.2.2.2.2.2.2.2.1 t1 ht1
      simp only [mm_up, u3, u1, true_and, and_true, false_and, and_false, and_self, if_true, if_false] <;> (repeat' split) <;> first | exact g0 | rfl | (exfalso; omega) | assumption | (congr 1; omega) | (simp_all; done),
    fun t1 ht1 k1 hk1 => by
      have g0 := hI.2.2.2.2.2.2.2.2.2.2.2.2.2.2.2.2.2.2.2.2.2.2.2.1 t1 ht1 k1 hk1
      simp only [mm_up, u3, u1, true_and, and_true, false_and, and_false, and_self, if_true, if_false] <;> (repeat' split) <;> first | exact g0 | rfl | (exfalso; omega) | assumption | (congr 1; omega) | (simp_all; done),
    fun t1 ht1 k1 hk1 => by
      have g0 := hI.2.2.2.2.2.2.2.2.2.2.2.2.2.2.2.2.2.2.2.2.2.2.2.2.1 t1 ht1 k1 hk1
      simp only [mm_up, u3, u1, true_and, and_true, false_and, and_false, and_self, if_true, if_false] <;> (repeat' split) <;> first | exact g0 | rfl | (exfalso; omega) | assumption | (congr 1; omega) | (simp_all; done),
    fun t1 ht1 => by
      have g0 := hI.2.2.2.2.2.2.2.2.2.2.2.2.2.2.2.2.2.2.2.2.2.2.2.2.2.1 t1 ht1
      simp only [mm_up, u3, u1, true_and, and_true, false_and, and_false, and_self, if_true, if_false] <;> (repeat' split) <;> first | exact g0 | rfl | (exfalso; omega) | assumption | (congr 1; omega) | (simp_all; done),
    fun t1 ht1 => by
      have g0 := hI.2.2.2.2.2.2.2.2.2.2.2.2.2.2.2.2.2.2.2.2.2.2.2.2.2.2.1 t1 ht1
      simp only [mm_up, u3, u1, true_and, and_true, false_and, and_false, and_self, if_true, if_false] <;> (repeat' split) <;> first | exact g0 | rfl | (exfalso; omega) | assumption | (congr 1; omega) | (simp_all; done),
    fun t1 ht1 => by
      have g0 := hI.2.2.2.2.2.2.2.2.2.2.2.2.2.2.2.2.2.2.2.2.2.2.2.2.2.2.2.1 t1 ht1
      simp only [mm_up, u3, u1, true_and, and_true, false_and, and_false, and_self, if_true, if_false] <;> (repeat' split) <;> first | exact g0 | rfl | (exfalso; omega) | assumption | (congr 1; omega) | (simp_all; done),
    fun t1 ht1 => by
      have g0 := hI.2.2.2.2.2.2.2.2.2.2.2.2.2.2.2.2.2.2.2.2.2.2.2.2.2.2.2.2.1 t1 ht1
      simp only [mm_up, u3, u1, true_and, and_true, false_and, and_false, and_self, if_true, if_false] <;> (repeat' split) <;> first | exact g0 | rfl | (exfalso; omega) | assumption | (congr 1; omega) | (simp_all; done),
    fun t1 ht1 => by
      have g0 := hI.2.2.2.2.2.2.2.2.2.2.2.2.2.2.2.2.2.2.2.2.2.2.2.2.2.2.2.2.2.1 t1 ht1
      simp only [mm_up, u3, u1, true_and, and_true, false_and, and_false, and_self, if_true, if_false] <;> (repeat' split) <;> first | exact g0 | rfl | (exfalso; omega) | assumption | (congr 1; omega) | (simp_all; done),
    fun t1 ht1 => by
      have g0 := hI.2.2.2.2.2.2.2.2.2.2.2.2.2.2.2.2.2.2.2.2.2.2.2.2.2.2.2.2.2.2 t1 ht1
      simp only [mm_up, u3, u1, true_and, and_true, false_and, and_false, and_self, if_true, if_false] <;> (repeat' split) <;> first | exact g0 | rfl | (exfalso; omega) | assumption | (congr 1; omega) | (simp_all; done)⟩⟩
theorem CU_fai {ci : Nat → Nat → Nat → Int32} {cn : Nat → Nat → Nat → Nat} {co : Nat → Option Nat} {xj : Nat → Nat → Nat → Int64} {xd : Nat → Nat → Nat → UInt64} {xf : Nat → Nat → Nat → UInt32} {xo : Nat → Nat → Nat → Option Nat} {xi : Nat → Nat → Nat → Int32} {xn : Nat → Nat → Nat → Nat} {I : Nat → Nat → Int32} {J : Nat → Nat → Int64} {F : Nat → Nat → UInt32} {D : Nat → Nat → UInt64} {R : Nat → Nat → Option Nat} {nx sl : Nat} (h : RC ci cn co xj xd xf xo xi xn I J F D R nx sl) {t : Nat} {v : Int32} (ht : t < 3) {z : Int32} (hz : z = v) : RC (u3 ci 1 t 0 v) cn co xj xd xf xo xi xn (mm_up I (32 + 7 * t) 9 z) J F D R nx sl := by
  rw [hz]
  obtain ⟨hJ, hD, hF, hR, hI, hX, hN, hS⟩ := h
  exact ⟨hJ,
   hD,
   hF,
   hR,
   ⟨fun p1 hp1 => by
      have g0 := hI.1 p1 hp1
      simp only [mm_up, u3, u1, true_and, and_true, false_and, and_false, and_self, if_true, if_false] <;> (repeat' split) <;> first | exact g0 | rfl | (exfalso; omega) | assumption | (congr 1; omega) | (simp_all; done),
    fun p1 hp1 => by
      have g0 := hI.2.1 p1 hp1
      simp only [mm_up, u3, u1, true_and, and_true, false_and, and_false, and_self, if_true, if_false] <;> (repeat' split) <;> first | exact g0 | rfl | (exfalso; omega) | assumption | (congr 1; omega) | (simp_all; done),
    fun p1 hp1 => by
      have g0 := hI.2.2.1 p1 hp1
      simp only [mm_up, u3, u1, true_and, and_true, false_and, and_false, and_self, if_true, if_false] <;> (repeat' split) <;> first | exact g0 | rfl | (exfalso; omega) | assumption | (congr 1; omega) | (simp_all; done),
    fun p1 hp1 k1 hk1 => by
      have g0 := hI.2.2.2.1 p1 hp1 k1 hk1
      simp only [mm_up, u3, u1, true_and, and_true, false_and, and_false, and_self, if_true, if_false] <;> (repeat' split) <;> first | exact g0 | rfl | (exfalso; omega) | assumption | (congr 1; omega) | (simp_all; done),
    fun p1 hp1 k1 hk1 => by
      have g0 := hI.2.2.2.2.1 p1 hp1 k1 hk1
      simp only [mm_up, u3, u1, true_and, and_true, false_and, and_false, and_self, if_true, if_false] <;> (repeat' split) <;> first | exact g0 | rfl | (exfalso; omega) | assumption | (congr 1; omega) | (simp_all; done),
    fun p1 hp1 k1 hk1 => by
      have g0 := hI.2.2.2.2.2.1 p1 hp1 k1 hk1
      simp only [mm_up, u3, u1, true_and, and_true, false_and, and_false, and_self, if_true, if_false] <;> (repeat' split) <;> first | exact g0 | rfl | (exfalso; omega) | assumption | (congr 1; omega) | (simp_all; done),
    fun p1 hp1 k1 hk1 => by
      have g0 := hI.2.2.2.2.2.2.1 p1 hp1 k1 hk1
      simp only [mm_up, u3, u1, true_and, and_true, false_and, and_false, and_self, if_true, if_false] <;> (repeat' split) <;> first | exact g0 | rfl | (exfalso; omega) | assumption | (congr 1; omega) | (simp_all; done),
    fun p1 hp1 k1 hk1 => by
      have g0 := hI.2.2.2.2.2.2.2.1 p1 hp1 k1 hk1
      simp only [mm_up, u3, u1, true_and, and_true, false_and, and_false, and_self, if_true, if_false] <;> (repeat' split) <;> first | exact g0 | rfl | (exfalso; omega) | assumption | (congr 1; omega) | (simp_all; done),
    fun p1 hp1 k1 hk1 => by
      have g0 := hI.2.2.2.2.2.2.2.2.1 p1 hp1 k1 hk1
      simp only [mm_up, u3, u1, true_and, and_true, false_and, and_false, and_self, if_true, if_false] <;> (repeat' split) <;> first | exact g0 | rfl | (exfalso; omega) | assumption | (congr 1; omega) | (simp_all; done),
    fun p1 hp1 k1 hk1 => by
      have g0 := hI.2.2.2.2.2.2.2.2.2.1 p1 hp1 k1 hk1
      simp only [mm_up, u3, u1, true_and, and_true, false_and, and_false, and_self, if_true, if_false] <;> (repeat' split) <;> first | exact g0 | rfl | (exfalso; omega) | assumption | (congr 1; omega) | (simp_all; done),
    fun p1 hp1 k1 hk1 => by
      have g0 := hI.2.2.2.2.2.2.2.2.2.2.1 p1 hp1 k1 hk1
      simp only [mm_up, u3, u1, true_and, and_true, false_and, and_false, and_self, if_true, if_false] <;> (repeat' split) <;> first | exact g0 | rfl | (exfalso; omega) | assumption | (congr 1; omega) | (simp_all; done),
    fun t1 ht1 => by
      have g0 := hI.2.2.2.2.2.2.2.2.2.2.2.1 t1 ht1
      simp only [mm_up, u3, u1, true_and, and_true, false_and, and_false, and_self, if_true, if_false] <;> (repeat' split) <;> first | exact g0 | rfl | (exfalso; omega) | assumption | (congr 1; omega) | (simp_all; done),
    fun t1 ht1 => by
      have g0 := hI.2.2.2.2.2.2.2.2.2.2.2.2.1 t1 ht1
      simp only [mm_up, u3, u1, true_and, and_true, false_and, and_false, and_self, if_true, if_false] <;> (repeat' split) <;> first | exact g0 | rfl | (exfalso; omega) | assumption | (congr 1; omega) | (simp_all; done),
    fun t1 ht1 k1 hk1 => by
      have g0 := hI.2.2.2.2.2.2.2.2.2.2.2.2.2.1 t1 ht1 k1 hk1
      simp only [mm_up, u3, u1, true_and, and_true, false_and, and_false, and_self, if_true, if_false] <;> (repeat' split) <;> first | exact g0 | rfl | (exfalso; omega) | assumption | (congr 1; omega) | (simp_all; done),
    fun t1 ht1 => by
      have g0 := hI.2.2.2.2.2.2.2.2.2.2.2.2.2.2.1 t1 ht1
      simp only [mm_up, u3, u1, true_and, and_true, false_and, and_false, and_self, if_true, if_false] <;> (repeat' split) <;> first | exact g0 | rfl | (exfalso; omega) | assumption | (congr 1; omega) | (simp_all; done),
    fun t1 ht1 => by
      have g0 := hI.2.2.2.2.2.2.2.2.2.2.2.2.2.2.2.1 t1 ht1
      simp only [mm_up, u3, u1, true_and, and_true, false_and, and_false, and_self, if_true, if_false] <;> (repeat' split) <;> first | exact g0 | rfl | (exfalso; omega) | assumption | (congr 1; omega) | (simp_all; done),
    fun t1 ht1 => by
      have g0 := hI.2.2.2.2.2.2.2.2.2.2.2.2.2.2.2.2.1 t1 ht1
      simp only [mm_up, u3, u1, true_and, and_true, false_and, and_false, and_self, if_true, if_false] <;> (repeat' split) <;> first | exact g0 | rfl | (exfalso; omega) | assumption | (congr 1; omega) | (simp_all; done),
    fun t1 ht1 => by
      have g0 := hI.2.2.2.2.2.2.2.2.2.2.2.2.2.2.2.2.2.1 t1 ht1
      simp only [mm_up, u3, u1, true_and, and_true, false_and, and_false, and_self, if_true, if_false] <;> (repeat' split) <;> first | exact g0 | rfl | (exfalso; omega) | assumption | (congr 1; omega) | (simp_all; done),
    fun t1 ht1 => by
      have g0 := hI.2.2.2.2.2.2.2.2.2.2.2.2.2.2.2.2.2.2.1 t1 ht1
      simp only [mm_up, u3, u1, true_and, and_true, false_and, and_false, and_self, if_true, if_false] <;> (repeat' split) <;> first | exact g0 | rfl | (exfalso; omega) | assumption | (congr 1; omega) | (simp_all; done),
    fun t1 ht1 => by
      have g0 := hI.2.2.2.2.2.2.2.2.2.2.2.2.2.2.2.2.2.2.2.1 t1 ht1
      simp only [mm_up, u3, u1, true_and, and_true, false_and, and_false, and_self, if_true, if_false] <;> (repeat' split) <;> first | exact g0 | rfl | (exfalso; omega) | assumption | (congr 1; omega) | (simp_all; done),
    by
      have g0 := hI.2.2.2.2.2.2.2.2.2.2.2.2.2.2.2.2.2.2.2.2.1
      simp only [mm_up, u3, u1, true_and, and_true, false_and, and_false, and_self, if_true, if_false] <;> (repeat' split) <;> first | exact g0 | rfl | (exfalso; omega) | assumption | (congr 1; omega) | (simp_all; done),
    by
      have g0 := hI.2.2.2.2.2.2.2.2.2.2.2.2.2.2.2.2.2.2.2.2.2.1
      simp only [mm_up, u3, u1, true_and, and_true, false_and, and_false, and_self, if_true, if_false] <;> (repeat' split) <;> first | exact g0 | rfl | (exfalso; omega) | assumption | (congr 1; omega) | (simp_all; done),
    fun i1 hi1 => by
      have g0 := hI.2.2.2.2.2.2.2.2.2.2.2.2.2.2.2.2.2.2.2.2.2.2.1 i1 hi1
      simp only [mm_up, u3, u1, true_and, and_true, false_and, and_false, and_self, if_true, if_false] <;> (repeat' split) <;> first | exact g0 | rfl | (exfalso; omega) | assumption | (congr 1; omega) | (simp_all; done),
    fun i1 hi1 => by
      have g0 := hI.2.2.2.2.2.2.2.2.2.2.2.2.2.2.2.2.2.2.2.2.2.2.2.1 i1 hi1
      simp only [mm_up, u3, u1, true_and, and_true, false_and, and_false, and_self, if_true, if_false] <;> (repeat' split) <;> first | exact g0 | rfl | (exfalso; omega) | assumption | (congr 1; omega) | (simp_all; done),
    fun i1 hi1 => by
      have g0 := hI.2.2.2.2.2.2.2.2.2.2.2.2.2.2.2.2.2.2.2.2.2.2.2.2.1 i1 hi1
      simp only [mm_up, u3, u1, true_and, and_true, false_and, and_false, and_self, if_true, if_false] <;> (repeat' split) <;> first | exact g0 | rfl | (exfalso; omega) | assumption | (congr 1; omega) | (simp_all; done),
    fun i1 hi1 => by
      have g0 := hI.2.2.2.2.2.2.2.2.2.2.2.2.2.2.2.2.2.2.2.2.2.2.2.2.2.1 i1 hi1
      simp only [mm_up, u3, u1, true_and, and_true, false_and, and_false, and_self, if_true, if_false] <;> (repeat' split) <;> first | exact g0 | rfl | (exfalso; omega) | assumption | (congr 1; omega) | (simp_all; done),
    fun i1 hi1 => by
      have g0 := hI.2.2.2.2.2.2.2.2.2.2.2.2.2.2.2.2.2.2.2.2.2.2.2.2.2.2.1 i1 hi1
      simp only [mm_up, u3, u1, true_and, and_true, false_and, and_false, and_self, if_true, if_false] <;> (repeat' split) <;> first | exact g0 | rfl | (exfalso; omega) | assumption | (congr 1; omega) | (simp_all; done),
    fun i1 hi1 => by
      have g0 := hI.2.2.2.2.2.2.2.2.2.2.2.2.2.2.2.2.2.2.2.2.2.2.2.2.2.2.2.1 i1 hi1
      simp only [mm_up, u3, u1, true_and, and_true, false_and, and_false, and_self, if_true, if_false] <;> (repeat' split) <;> first | exact g0 | rfl | (exfalso; omega) | assumption | (congr 1; omega) | (simp_all; done),
    fun i1 hi1 => by
      have g0 := hI.2.2.2.2.2.2.2.2.2.2.2.2.2.2.2.2.2.2.2.2.2.2.2.2.2.2.2.2.1 i1 hi1
      simp only [mm_up, u3, u1, true_and, and_true, false_and, and_false, and_self, if_true, if_false] <;> (repeat' split) <;> first | exact g0 | rfl | (exfalso; omega) | assumption | (congr 1; omega) | (simp_all; done),
    fun i1 hi1 => by
      have g0 := hI.2.2.2.2.2.2.2.2.2.2.2.2.2.2.2.2.2.2.2.2.2.2.2.2.2.2.2.2.2.1 i1 hi1
      simp only [mm_up, u3, u1, true_and, and_true, false_and, and_false, and_self, if_true, if_false] <;> (repeat' split) <;> first | exact g0 | rfl | (exfalso; omega) | assumption | (congr 1; omega) | (simp_all; done),
    fun i1 hi1 => by
      have g0 := hI.2.2.2.2.2.2.2.2.2.2.2.2.2.2.2.2.2.2.2.2.2.2.2.2.2.2.2.2.2.2 i1 hi1
      simp only [mm_up, u3, u1, true_and, and_true, false_and, and_false, and_self, if_true, if_false] <;> (repeat' split) <;> first | exact g0 | rfl | (exfalso; omega) | assumption | (congr 1; omega) | (simp_all; done)⟩,
   hX,
   hN,
   hS⟩
theorem MU_fai {ci : Nat → Nat → Nat → Int32} {cn : Nat → Nat → Nat → Nat} {co : Nat → Option Nat} {xj : Nat → Nat → Nat → Int64} {xd : Nat → Nat → Nat → UInt64} {xf : Nat → Nat → Nat → UInt32} {xo : Nat → Nat → Nat → Option Nat} {xi : Nat → Nat → Nat → Int32} {xn : Nat → Nat → Nat → Nat} {I : Nat → Nat → Int32} {J : Nat → Nat → Int64} {D : Nat → Nat → UInt64} (h : RM ci cn co xj xd xf xo xi xn I J D) {t : Nat} {v : Int32} (ht : t < 3) {j : Nat} {z : Int32} (hj : j = t) (hz : z = v) : RM (u3 ci 1 t 0 v) cn co xj xd xf xo xi xn (mm_up I 39 j z) J D := by
  rw [hj, hz]
  obtain ⟨hJ, hD, hI⟩ := h
  exact ⟨hJ,
   hD,
   ⟨by
      have g0 := hI.1
      simp only [mm_up, u3, u1, true_and, and_true, false_and, and_false, and_self, if_true, if_false] <;> (repeat' split) <;> first | exact g0 | rfl | (exfalso; omega) | assumption | (congr 1; omega) | (simp_all; done),
    by
      have g0 := hI.2.1
      simp only [mm_up, u3, u1, true_and, and_true, false_and, and_false, and_self, if_true, if_false] <;> (repeat' split) <;> first | exact g0 | rfl | (exfalso; omega) | assumption | (congr 1; omega) | (simp_all; done),
    fun i1 hi1 => by
      have g0 := hI.2.2.1 i1 hi1
      simp only [mm_up, u3, u1, true_and, and_true, false_and, and_false, and_self, if_true, if_false] <;> (repeat' split) <;> first | exact g0 | rfl | (exfalso; omega) | assumption | (congr 1; omega) | (simp_all; done),
    fun i1 hi1 => by
      have g0 := hI.2.2.2.1 i1 hi1
      simp only [mm_up, u3, u1, true_and, and_true, false_and, and_false, and_self, if_true, if_false] <;> (repeat' split) <;> first | exact g0 | rfl | (exfalso; omega) | assumption | (congr 1; omega) | (simp_all; done),
    fun i1 hi1 => by
      have g0 := hI.2.2.2.2.1 i1 hi1
      simp only [mm_up, u3, u1, true_and, and_true, false_and, and_false, and_self, if_true, if_false] <;> (repeat' split) <;> first | exact g0 | rfl | (exfalso; omega) | assumption | (congr 1; omega) | (simp_all; done),
    fun i1 hi1 => by
      have g0 := hI.2.2.2.2.2.1 i1 hi1
      simp only [mm_up, u3, u1, true_and, and_true, false_and, and_false, and_self, if_true, if_false] <;> (repeat' split) <;> first | exact g0 | rfl | (exfalso; omega) | assumption | (congr 1; omega) | (simp_all; done),
    fun i1 hi1 => by
      have g0 := hI.2.2.2.2.2.2.1 i1 hi1
      simp only [mm_up, u3, u1, true_and, and_true, false_and, and_false, and_self, if_true, if_false] <;> (repeat' split) <;> first | exact g0 | rfl | (exfalso; omega) | assumption | (congr 1; omega) | (simp_all; done),
    fun i1 hi1 k1 hk1 => by
      have g0 := hI.2.2.2.2.2.2.2.1 i1 hi1 k1 hk1
      simp only [mm_up, u3, u1, true_and, and_true, false_and, and_false, and_self, if_true, if_false] <;> (repeat' split) <;> first | exact g0 | rfl | (exfalso; omega) | assumption | (congr 1; omega) | (simp_all; done),
    fun i1 hi1 => by
      have g0 := hI.2.2.2.2.2.2.2.2.1 i1 hi1
      simp only [mm_up, u3, u1, true_and, and_true, false_and, and_false, and_self, if_true, if_false] <;> (repeat' split) <;> first | exact g0 | rfl | (exfalso; omega) | assumption | (congr 1; omega) | (simp_all; done),
    fun i1 hi1 => by
      have g0 := hI.2.2.2.2.2.2.2.2.2.1 i1 hi1
      simp only [mm_up, u3, u1, true_and, and_true, false_and, and_false, and_self, if_true, if_false] <;> (repeat' split) <;> first | exact g0 | rfl | (exfalso; omega) | assumption | (congr 1; omega) | (simp_all; done),
    fun p1 hp1 => by
      have g0 := hI.2.2.2.2.2.2.2.2.2.2.1 p1 hp1
      simp only [mm_up, u3, u1, true_and, and_true, false_and, and_false, and_self, if_true, if_false] <;> (repeat' split) <;> first | exact g0 | rfl | (exfalso; omega) | assumption | (congr 1; omega) | (simp_all; done),
    fun p1 hp1 k1 hk1 => by
      have g0 := hI.2.2.2.2.2.2.2.2.2.2.2.1 p1 hp1 k1 hk1
      simp only [mm_up, u3, u1, true_and, and_true, false_and, and_false, and_self, if_true, if_false] <;> (repeat' split) <;> first | exact g0 | rfl | (exfalso; omega) | assumption | (congr 1; omega) | (simp_all; done),
    fun p1 hp1 k1 hk1 => by
      have g0 := hI.2.2.2.2.2.2.2.2.2.2.2.2.1 p1 hp1 k1 hk1
      simp only [mm_up, u3, u1, true_and, and_true, false_and, and_false, and_self, if_true, if_false] <;> (repeat' split) <;> first | exact g0 | rfl | (exfalso; omega) | assumption | (congr 1; omega) | (simp_all; done),
    fun p1 hp1 k1 hk1 => by
      have g0 := hI.2.2.2.2.2.2.2.2.2.2.2.2.2.1 p1 hp1 k1 hk1
      simp only [mm_up, u3, u1, true_and, and_true, false_and, and_false, and_self, if_true, if_false] <;> (repeat' split) <;> first | exact g0 | rfl | (exfalso; omega) | assumption | (congr 1; omega) | (simp_all; done),
    fun p1 hp1 k1 hk1 => by
      have g0 := hI.2.2.2.2.2.2.2.2.2.2.2.2.2.2.1 p1 hp1 k1 hk1
      simp only [mm_up, u3, u1, true_and, and_true, false_and, and_false, and_self, if_true, if_false] <;> (repeat' split) <;> first | exact g0 | rfl | (exfalso; omega) | assumption | (congr 1; omega) | (simp_all; done),
    fun p1 hp1 => by
      have g0 := hI.2.2.2.2.2.2.2.2.2.2.2.2.2.2.2.1 p1 hp1
      simp only [mm_up, u3, u1, true_and, and_true, false_and, and_false, and_self, if_true, if_false] <;> (repeat' split) <;> first | exact g0 | rfl | (exfalso; omega) | assumption | (congr 1; omega) | (simp_all; done),
    fun p1 hp1 k1 hk1 => by
      have g0 := hI.2.2.2.2.2.2.2.2.2.2.2.2.2.2.2.2.1 p1 hp1 k1 hk1
      simp only [mm_up, u3, u1, true_and, and_true, false_and, and_false, and_self, if_true, if_false] <;> (repeat' split) <;> first | exact g0 | rfl | (exfalso; omega) | assumption | (congr 1; omega) | (simp_all; done),
    fun p1 hp1 k1 hk1 => by
      have g0 := hI.2.2.2.2.2.2.2.2.2.2.2.2.2.2.2.2.2.1 p1 hp1 k1 hk1
      simp only [mm_up, u3, u1, true_and, and_true, false_and, and_false, and_self, if_true, if_false] <;> (repeat' split) <;> first | exact g0 | rfl | (exfalso; omega) | assumption | (congr 1; omega) | (simp_all; done),
    fun p1 hp1 k1 hk1 => by
      have g0 := hI.2.2.2.2.2.2.2.2.2.2.2.2.2.2.2.2.2.2.1 p1 hp1 k1 hk1
      simp only [mm_up, u3, u1, true_and, and_true, false_and, and_false, and_self, if_true, if_false] <;> (repeat' split) <;> first | exact g0 | rfl | (exfalso; omega) | assumption | (congr 1; omega) | (simp_all; done),
    fun p1 hp1 k1 hk1 => by
      have g0 := hI.2.2.2.2.2.2.2.2.2.2.2.2.2.2.2.2.2.2.2.1 p1 hp1 k1 hk1
      simp only [mm_up, u3, u1, true_and, and_true, false_and, and_false, and_self, if_true, if_false] <;> (repeat' split) <;> first | exact g0 | rfl | (exfalso; omega) | assumption | (congr 1; omega) | (simp_all; done),
    fun t1 ht1 k1 hk1 => by
      have g0 := hI.2.2.2.2.2.2.2.2.2.2.2.2.2.2.2.2.2.2.2.2.1 t1 ht1 k1 hk1
      simp only [mm_up, u3, u1, true_and, and_true, false_and, and_false, and_self, if_true, if_false] <;> (repeat' split) <;> first | exact g0 | rfl | (exfalso; omega) | assumption | (congr 1; omega) | (simp_all; done),
    fun t1 ht1 => by
      have g0 := hI.2.2.2.2.2.2.2.2.2.2.2.2.2.2.2.2.2.2.2.2.2.1 t1 ht1
      simp only [mm_up, u3, u1, true_and, and_true, false_and, and_false, and_self, if_true, if_false] <;> (repeat' split) <;> first | exact g0 | rfl | (exfalso; omega) | assumption | (congr 1; omega) | (simp_all; done),
    fun t1 ht1 => by
      have g0 := hI.2.2.2.2.2.2.2.2.2.2.2.2.2.2.2.2.2.2.2.2.2.2.1 t1 ht1
      simp only [mm_up, u3, u1, true_and, and_true, false_and, and_false, and_self, if_true, if_false] <;> (repeat' split) <;> first | exact g0 | rfl | (exfalso; omega) | assumption | (congr 1; omega) | (simp_all; done),
    fun t1 ht1 k1 hk1 => by
      have g0 := hI.2.2.2.2.2.2.2.2.2.2.2.2.2.2.2.2.2.2.2.2.2.2.2.1 t1 ht1 k1 hk1
      simp only [mm_up, u3, u1, true_and, and_true, false_and, and_false, and_self, if_true, if_false] <;> (repeat' split) <;> first | exact g0 | rfl | (exfalso; omega) | assumption | (congr 1; omega) | (simp_all; done),
    fun t1 ht1 k1 hk1 => by
      have g0 := hI.2.2.2.2.2.2.2.2.2.2.2.2.2.2.2.2.2.2.2.2.2.2.2.2.1 t1 ht1 k1 hk1
      simp only [mm_up, u3, u1, true_and, and_true, false_and, and_false, and_self, if_true, if_false] <;> (repeat' split) <;> first | exact g0 | rfl | (exfalso; omega) | assumption | (congr 1; omega) | (simp_all; done),
    fun t1 ht1 => by
      have g0 := hI.2.2.2.2.2.2.2.2.2.2.2.2.2.2.2.2.2.2.2.2.2.2.2.2.2.1 t1 ht1
      simp only [mm_up, u3, u1, true_and, and_true, false_and, and_false, and_self, if_true, if_false] <;> (repeat' split) <;> first | exact g0 | rfl | (exfalso; omega) | assumption | (congr 1; omega) | (simp_all; done),
    fun t1 ht1 => by
      have g0 := hI.2.2.2.2.2.2.2.2.2.2.2.2.2.2.2.2.2.2.2.2.2.2.2.2.2.2.1 t1 ht1
      simp only [mm_up, u3, u1, true_and, and_true, false_and, and_false, and_self, if_true, if_false] <;> (repeat' split) <;> first | exact g0 | rfl | (exfalso; omega) | assumption | (congr 1; omega) | (simp_all; done),
    fun t1 ht1 => by
      have g0 := hI.2.2.2.2.2.2.2.2.2.2.2.2.2.2.2.2.2.2.2.2.2.2.2.2.2.2.2.1 t1 ht1
      simp only [mm_up, u3, u1, true_and, and_true, false_and, and_false, and_self, if_true, if_false] <;> (repeat' split) <;> first | exact g0 | rfl | (exfalso; omega) | assumption | (congr 1; omega) | (simp_all; done),
    fun t1 ht1 => by
      have g0 := hI.2.2.2.2.2.2.2.2.2.2.2.2.2.2.2.2.2.2.2.2.2.2.2.2.2.2.2.2.1 t1 ht1
      simp only [mm_up, u3, u1, true_and, and_true, false_and, and_false, and_self, if_true, if_false] <;> (repeat' split) <;> first | exact g0 | rfl | (exfalso; omega) | assumption | (congr 1; omega) | (simp_all; done),
    fun t1 ht1 => by
      have g0 := hI.2.2.2.2.2.2.2.2.2.2.2.2.2.2.2.2.2.2.2.2.2.2.2.2.2.2.2.2.2.1 t1 ht1
      simp only [mm_up, u3, u1, true_and, and_true, false_and, and_false, and_self, if_true, if_false] <;> (repeat' split) <;> first | exact g0 | rfl | (exfalso; omega) | assumption | (congr 1; omega) | (simp_all; done),
    fun t1 ht1 => by
      have g0 := hI.2.2.2.2.2.2.2.2.2.2.2.2.2.2.2.2.2.2.2.2.2.2.2.2.2.2.2.2.2.2 t1 ht1
      simp only [mm_up, u3, u1, true_and, and_true, false_and, and_false, and_self, if_true, if_false] <;> (repeat' split) <;> first | exact g0 | rfl | (exfalso; omega) | assumption | (congr 1; omega) | (simp_all; done)⟩⟩
theorem CU_lat {ci : Nat → Nat → Nat → Int32} {cn : Nat → Nat → Nat → Nat} {co : Nat → Option Nat} {xj : Nat → Nat → Nat → Int64} {xd : Nat → Nat → Nat → UInt64} {xf : Nat → Nat → Nat → UInt32} {xo : Nat → Nat → Nat → Option Nat} {xi : Nat → Nat → Nat → Int32} {xn : Nat → Nat → Nat → Nat} {I : Nat → Nat → Int32} {J : Nat → Nat → Int64} {F : Nat → Nat → UInt32} {D : Nat → Nat → UInt64} {R : Nat → Nat → Option Nat} {nx sl : Nat} (h : RC ci cn co xj xd xf xo xi xn I J F D R nx sl) {t : Nat} {v : Int32} (ht : t < 3) {z : Int32} (hz : z = v) : RC (u3 ci 2 t 0 v) cn co xj xd xf xo xi xn (mm_up I (32 + 7 * t) 11 z) J F D R nx sl := by
  rw [hz]
  obtain ⟨hJ, hD, hF, hR, hI, hX, hN, hS⟩ := h
  exact ⟨hJ,
   hD,
   hF,
   hR,
   ⟨fun p1 hp1 => by
      have g0 := hI.1 p1 hp1
      simp only [mm_up, u3, u1, true_and, and_true, false_and, and_false, and_self, if_true, if_false] <;> (repeat' split) <;> first | exact g0 | rfl | (exfalso; omega) | assumption | (congr 1; omega) | (simp_all; done),
    fun p1 hp1 => by
      have g0 := hI.2.1 p1 hp1
      simp only [mm_up, u3, u1, true_and, and_true, false_and, and_false, and_self, if_true, if_false] <;> (repeat' split) <;> first | exact g0 | rfl | (exfalso; omega) | assumption | (congr 1; omega) | (simp_all; done),
    fun p1 hp1 => by
      have g0 := hI.2.2.1 p1 hp1
      simp only [mm_up, u3, u1, true_and, and_true, false_and, and_false, and_self, if_true, if_false] <;> (repeat' split) <;> first | exact g0 | rfl | (exfalso; omega) | assumption | (congr 1; omega) | (simp_all; done),
    fun p1 hp1 k1 hk1 => by
      have g0 := hI.2.2.2.1 p1 hp1 k1 hk1
      simp only [mm_up, u3, u1, true_and, and_true, false_and, and_false, and_self, if_true, if_false] <;> (repeat' split) <;> first | exact g0 | rfl | (exfalso; omega) | assumption | (congr 1; omega) | (simp_all; done),
    fun p1 hp1 k1 hk1 => by
      have g0 := hI.2.2.2.2.1 p1 hp1 k1 hk1
      simp only [mm_up, u3, u1, true_and, and_true, false_and, and_false, and_self, if_true, if_false] <;> (repeat' split) <;> first | exact g0 | rfl | (exfalso; omega) | assumption | (congr 1; omega) | (simp_all; done),
    fun p1 hp1 k1 hk1 => by
      have g0 := hI.2.2.2.2.2.1 p1 hp1 k1 hk1
      simp only [mm_up, u3, u1, true_and, and_true, false_and, and_false, and_self, if_true, if_false] <;> (repeat' split) <;> first | exact g0 | rfl | (exfalso; omega) | assumption | (congr 1; omega) | (simp_all; done),
    fun p1 hp1 k1 hk1 => by
      have g0 := hI.2.2.2.2.2.2.1 p1 hp1 k1 hk1
      simp only [mm_up, u3, u1, true_and, and_true, false_and, and_false, and_self, if_true, if_false] <;> (repeat' split) <;> first | exact g0 | rfl | (exfalso; omega) | assumption | (congr 1; omega) | (simp_all; done),
    fun p1 hp1 k1 hk1 => by
      have g0 := hI.2.2.2.2.2.2.2.1 p1 hp1 k1 hk1
      simp only [mm_up, u3, u1, true_and, and_true, false_and, and_false, and_self, if_true, if_false] <;> (repeat' split) <;> first | exact g0 | rfl | (exfalso; omega) | assumption | (congr 1; omega) | (simp_all; done),
    fun p1 hp1 k1 hk1 => by
      have g0 := hI.2.2.2.2.2.2.2.2.1 p1 hp1 k1 hk1
      simp only [mm_up, u3, u1, true_and, and_true, false_and, and_false, and_self, if_true, if_false] <;> (repeat' split) <;> first | exact g0 | rfl | (exfalso; omega) | assumption | (congr 1; omega) | (simp_all; done),
    fun p1 hp1 k1 hk1 => by
      have g0 := hI.2.2.2.2.2.2.2.2.2.1 p1 hp1 k1 hk1
      simp only [mm_up, u3, u1, true_and, and_true, false_and, and_false, and_self, if_true, if_false] <;> (repeat' split) <;> first | exact g0 | rfl | (exfalso; omega) | assumption | (congr 1; omega) | (simp_all; done),
    fun p1 hp1 k1 hk1 => by
      have g0 := hI.2.2.2.2.2.2.2.2.2.2.1 p1 hp1 k1 hk1
      simp only [mm_up, u3, u1, true_and, and_true, false_and, and_false, and_self, if_true, if_false] <;> (repeat' split) <;> first | exact g0 | rfl | (exfalso; omega) | assumption | (congr 1; omega) | (simp_all; done),
    fun t1 ht1 => by
      have g0 := hI.2.2.2.2.2.2.2.2.2.2.2.1 t1 ht1
      simp only [mm_up, u3, u1, true_and, and_true, false_and, and_false, and_self, if_true, if_false] <;> (repeat' split) <;> first | exact g0 | rfl | (exfalso; omega) | assumption | (congr 1; omega) | (simp_all; done),
    fun t1 ht1 => by
      have g0 := hI.2.2.2.2.2.2.2.2.2.2.2.2.1 t1 ht1
      simp only [mm_up, u3, u1, true_and, and_true, false_and, and_false, and_self, if_true, if_false] <;> (repeat' split) <;> first | exact g0 | rfl | (exfalso; omega) | assumption | (congr 1; omega) | (simp_all; done),
    fun t1 ht1 k1 hk1 => by
      have g0 := hI.2.2.2.2.2.2.2.2.2.2.2.2.2.1 t1 ht1 k1 hk1
      simp only [mm_up, u3, u1, true_and, and_true, false_and, and_false, and_self, if_true, if_false] <;> (repeat' split) <;> first | exact g0 | rfl | (exfalso; omega) | assumption | (congr 1; omega) | (simp_all; done),
    fun t1 ht1 => by
      have g0 := hI.2.2.2.2.2.2.2.2.2.2.2.2.2.2.1 t1 ht1
      simp only [mm_up, u3, u1, true_and, and_true, false_and, and_false, and_self, if_true, if_false] <;> (repeat' split) <;> first | exact g0 | rfl | (exfalso; omega) | assumption | (congr 1; omega) | (simp_all; done),
    fun t1 ht1 => by
      have g0 := hI.2.2.2.2.2.2.2.2.2.2.2.2.2.2.2.1 t1 ht1
      simp only [mm_up, u3, u1, true_and, and_true, false_and, and_false, and_self, if_true, if_false] <;> (repeat' split) <;> first | exact g0 | rfl | (exfalso; omega) | assumption | (congr 1; omega) | (simp_all; done),
    fun t1 ht1 => by
      have g0 := hI.2.2.2.2.2.2.2.2.2.2.2.2.2.2.2.2.1 t1 ht1
      simp only [mm_up, u3, u1, true_and, and_true, false_and, and_false, and_self, if_true, if_false] <;> (repeat' split) <;> first | exact g0 | rfl | (exfalso; omega) | assumption | (congr 1; omega) | (simp_all; done),
    fun t1 ht1 => by
      have g0 := hI.2.2.2.2.2.2.2.2.2.2.2.2.2.2.2.2.2.1 t1 ht1
      simp only [mm_up, u3, u1, true_and, and_true, false_and, and_false, and_self, if_true, if_false] <;> (repeat' split) <;> first | exact g0 | rfl | (exfalso; omega) | assumption | (congr 1; omega) | (simp_all; done),
    fun t1 ht1 => by
      have g0 := hI.2.2.2.2.2.2.2.2.2.2.2.2.2.2.2.2.2.2.1 t1 ht1
      simp only [mm_up, u3, u1, true_and, and_true, false_and, and_false, and_self, if_true, if_false] <;> (repeat' split) <;> first | exact g0 | rfl | (exfalso; omega) | assumption | (congr 1; omega) | (simp_all; done),
    fun t1 ht1 => by
      have g0 := hI.2.2.2.2.2.2.2.2.2.2.2.2.2.2.2.2.2.2.2.1 t1 ht1
      simp only [mm_up, u3, u1, true_and, and_true, false_and, and_false, and_self, if_true, if_false] <;> (repeat' split) <;> first | exact g0 | rfl | (exfalso; omega) | assumption | (congr 1; omega) | (simp_all; done),
    by
      have g0 := hI.2.2.2.2.2.2.2.2.2.2.2.2.2.2.2.2.2.2.2.2.1
      simp only [mm_up, u3, u1, true_and, and_true, false_and, and_false, and_self, if_true, if_false] <;> (repeat' split) <;> first | exact g0 | rfl | (exfalso; omega) | assumption | (congr 1; omega) | (simp_all; done),
    by
      have g0 := hI.2.2.2.2.2.2.2.2.2.2.2.2.2.2.2.2.2.2.2.2.2.1
      simp only [mm_up, u3, u1, true_and, and_true, false_and, and_false, and_self, if_true, if_false] <;> (repeat' split) <;> first | exact g0 | rfl | (exfalso; omega) | assumption | (congr 1; omega) | (simp_all; done),
    fun i1 hi1 => by
      have g0 := hI.2.2.2.2.2.2.2.2.2.2.2.2.2.2.2.2.2.2.2.2.2.2.1 i1 hi1
      simp only [mm_up, u3, u1, true_and, and_true, false_and, and_false, and_self, if_true, if_false] <;> (repeat' split) <;> first | exact g0 | rfl | (exfalso; omega) | assumption | (congr 1; omega) | (simp_all; done),
    fun i1 hi1 => by
      have g0 := hI.2.2.2.2.2.2.2.2.2.2.2.2.2.2.2.2.2.2.2.2.2.2.2.1 i1 hi1
      simp only [mm_up, u3, u1, true_and, and_true, false_and, and_false, and_self, if_true, if_false] <;> (repeat' split) <;> first | exact g0 | rfl | (exfalso; omega) | assumption | (congr 1; omega) | (simp_all; done),
    fun i1 hi1 => by
      have g0 := hI.2.2.2.2.2.2.2.2.2.2.2.2.2.2.2.2.2.2.2.2.2.2.2.2.1 i1 hi1
      simp only [mm_up, u3, u1, true_and, and_true, false_and, and_false, and_self, if_true, if_false] <;> (repeat' split) <;> first | exact g0 | rfl | (exfalso; omega) | assumption | (congr 1; omega) | (simp_all; done),
    fun i1 hi1 => by
      have g0 := hI.2.2.2.2.2.2.2.2.2.2.2.2.2.2.2.2.2.2.2.2.2.2.2.2.2.1 i1 hi1
      simp only [mm_up, u3, u1, true_and, and_true, false_and, and_false, and_self, if_true, if_false] <;> (repeat' split) <;> first | exact g0 | rfl | (exfalso; omega) | assumption | (congr 1; omega) | (simp_all; done),
    fun i1 hi1 => by
      have g0 := hI.2.2.2.2.2.2.2.2.2.2.2.2.2.2.2.2.2.2.2.2.2.2.2.2.2.2.1 i1 hi1
      simp only [mm_up, u3, u1, true_and, and_true, false_and, and_false, and_self, if_true, if_false] <;> (repeat' split) <;> first | exact g0 | rfl | (exfalso; omega) | assumption | (congr 1; omega) | (simp_all; done),
    fun i1 hi1 => by
      have g0 := hI.2.2.2.2.2.2.2.2.2.2.2.2.2.2.2.2.2.2.2.2.2.2.2.2.2.2.2.1 i1 hi1
      simp only [mm_up, u3, u1, true_and, and_true, false_and, and_false, and_self, if_true, if_false] <;> (repeat' split) <;> first | exact g0 | rfl | (exfalso; omega) | assumption | (congr 1; omega) | (simp_all; done),
    fun i1 hi1 => by
      have g0 := hI.2.2.2.2.2.2.2.2.2.2.2.2.2.2.2.2.2.2.2.2.2.2.2.2.2.2.2.2.1 i1 hi1
      simp only [mm_up, u3, u1, true_and, and_true, false_and, and_false, and_self, if_true, if_false] <;> (repeat' split) <;> first | exact g0 | rfl | (exfalso; omega) | assumption | (congr 1; omega) | (simp_all; done),
    fun i1 hi1 => by
      have g0 := hI.2.2.2.2.2.2.2.2.2.2.2.2.2.2.2.2.2.2.2.2.2.2.2.2.2.2.2.2.2.1 i1 hi1
      simp only [mm_up, u3, u1, true_and, and_true, false_and, and_false, and_self, if_true, if_false] <;> (repeat' split) <;> first | exact g0 | rfl | (exfalso; omega) | assumption | (congr 1; omega) | (simp_all; done),
    fun i1 hi1 => by
      have g0 := hI.2.2.2.2.2.2.2.2.2.2.2.2.2.2.2.2.2.2.2.2.2.2.2.2.2.2.2.2.2.2 i1 hi1
      simp only [mm_up, u3, u1, true_and, and_true, false_and, and_false, and_self, if_true, if_false] <;> (repeat' split) <;> first | exact g0 | rfl | (exfalso; omega) | assumption | (congr 1; omega) | (simp_all; done)⟩,
   hX,
   hN,
   hS⟩
theorem MU_lat {ci : Nat → Nat → Nat → Int32} {cn : Nat → Nat → Nat → Nat} {co : Nat → Option Nat} {xj : Nat → Nat → Nat → Int64} {xd : Nat → Nat → Nat → UInt64} {xf : Nat → Nat → Nat → UInt32} {xo : Nat → Nat → Nat → Option Nat} {xi : Nat → Nat → Nat → Int32} {xn : Nat → Nat → Nat → Nat} {I : Nat → Nat → Int32} {J : Nat → Nat → Int64} {D : Nat → Nat → UInt64} (h : RM ci cn co xj xd xf xo xi xn I J D) {t : Nat} {v : Int32} (ht : t < 3) {j : Nat} {z : Int32} (hj : j = t) (hz : z = v) : RM (u3 ci 2 t 0 v) cn co xj xd xf xo xi xn (mm_up I 40 j z) J D := by
  rw [hj, hz]
  obtain ⟨hJ, hD, hI⟩ := h
  exact ⟨hJ,
   hD,
   ⟨by
      have g0 := hI.1
      simp only [mm_up, u3, u1, true_and, and_true, false_and, and_false, and_self, if_true, if_false] <;> (repeat' split) <;> first | exact g0 | rfl | (exfalso; omega) | assumption | (congr 1; omega) | (simp_all; done),
    by
      have g0 := hI.2.1
      simp only [mm_up, u3, u1, true_and, and_true, false_and, and_false, and_self, if_true, if_false] <;> (repeat' split) <;> first | exact g0 | rfl | (exfalso; omega) | assumption | (congr 1; omega) | (simp_all; done),
    fun i1 hi1 => by
      have g0 := hI.2.2.1 i1 hi1
      simp only [mm_up, u3, u1, true_and, and_true, false_and, and_false, and_self, if_true, if_false] <;> (repeat' split) <;> first | exact g0 | rfl | (exfalso; omega) | assumption | (congr 1; omega) | (simp_all; done),
    fun i1 hi1 => by
      have g0 := hI.2.2.2.1 i1 hi1
      simp only [mm_up, u3, u1, true_and, and_true, false_and, and_false, and_self, if_true, if_false] <;> (repeat' split) <;> first | exact g0 | rfl | (exfalso; omega) | assumption | (congr 1; omega) | (simp_all; done),
    fun i1 hi1 => by
      have g0 := hI.2.2.2.2.1 i1 hi1
      simp only [mm_up, u3, u1, true_and, and_true, false_and, and_false, and_self, if_true, if_false] <;> (repeat' split) <;> first | exact g0 | rfl | (exfalso; omega) | assumption | (congr 1; omega) | (simp_all; done),
    fun i1 hi1 => by
      have g0 := hI.2.2.2.2.2.1 i1 hi1
      simp only [mm_up, u3, u1, true_and, and_true, false_and, and_false, and_self, if_true, if_false] <;> (repeat' split) <;> first | exact g0 | rfl | (exfalso; omega) | assumption | (congr 1; omega) | (simp_all; done),
    fun i1 hi1 => by
      have g0 := hI.2.2.2.2.2.2.1 i1 hi1
      simp only [mm_up, u3, u1, true_and, and_true, false_and, and_false, and_self, if_true, if_false] <;> (repeat' split) <;> first | exact g0 | rfl | (exfalso; omega) | assumption | (congr 1; omega) | (simp_all; done),
    fun i1 hi1 k1 hk1 => by
      have g0 := hI.2.2.2.2.2.2.2.1 i1 hi1 k1 hk1
      simp only [mm_up, u3, u1, true_and, and_true, false_and, and_false, and_self, if_true, if_false] <;> (repeat' split) <;> first | exact g0 | rfl | (exfalso; omega) | assumption | (congr 1; omega) | (simp_all; done),
    fun i1 hi1 => by
      have g0 := hI.2.2.2.2.2.2.2.2.1 i1 hi1
      simp only [mm_up, u3, u1, true_and, and_true, false_and, and_false, and_self, if_true, if_false] <;> (repeat' split) <;> first | exact g0 | rfl | (exfalso; omega) | assumption | (congr 1; omega) | (simp_all; done),
    fun i1 hi1 => by
      have g0 := hI.2.2.2.2.2.2.2.2.2.1 i1 hi1
      simp only [mm_up, u3, u1, true_and, and_true, false_and, and_false, and_self, if_true, if_false] <;> (repeat' split) <;> first | exact g0 | rfl | (exfalso; omega) | assumption | (congr 1; omega) | (simp_all; done),
    fun p1 hp1 => by
      have g0 := hI.2.2.2.2.2.2.2.2.2.2.1 p1 hp1
      simp only [mm_up, u3, u1, true_and, and_true, false_and, and_false, and_self, if_true, if_false] <;> (repeat' split) <;> first | exact g0 | rfl | (exfalso; omega) | assumption | (congr 1; omega) | (simp_all; done),
    fun p1 hp1 k1 hk1 => by
      have g0 := hI.2.2.2.2.2.2.2.2.2.2.2.1 p1 hp1 k1 hk1
      simp only [mm_up, u3, u1, true_and, and_true, false_and, and_false, and_self, if_true, if_false] <;> (repeat' split) <;> first | exact g0 | rfl | (exfalso; omega) | assumption | (congr 1; omega) | (simp_all; done),
    fun p1 hp1 k1 hk1 => by
      have g0 := hI.2.2.2.2.2.2.2.2.2.2.2.2.1 p1 hp1 k1 hk1
      simp only [mm_up, u3, u1, true_and, and_true, false_and, and_false, and_self, if_true, if_false] <;> (repeat' split) <;> first | exact g0 | rfl | (exfalso; omega) | assumption | (congr 1; omega) | (simp_all; done),
    fun p1 hp1 k1 hk1 => by
      have g0 := hI.2.2.2.2.2.2.2.2.2.2.2.2.2.1 p1 hp1 k1 hk1
      simp only [mm_up, u3, u1, true_and, and_true, false_and, and_false, and_self, if_true, if_false] <;> (repeat' split) <;> first | exact g0 | rfl | (exfalso; omega) | assumption | (congr 1; omega) | (simp_all; done),
    fun p1 hp1 k1 hk1 => by
      have g0 := hI.2.2.2.2.2.2.2.2.2.2.2.2.2.2.1 p1 hp1 k1 hk1
      simp only [mm_up, u3, u1, true_and, and_true, false_and, and_false, and_self, if_true, if_false] <;> (repeat' split) <;> first | exact g0 | rfl | (exfalso; omega) | assumption | (congr 1; omega) | (simp_all; done),
    fun p1 hp1 => by
      have g0 := hI.2.2.2.2.2.2.2.2.2.2.2.2.2.2.2.1 p1 hp1
      simp only [mm_up, u3, u1, true_and, and_true, false_and, and_false, and_self, if_true, if_false] <;> (repeat' split) <;> first | exact g0 | rfl | (exfalso; omega) | assumption | (congr 1; omega) | (simp_all; done),
    fun p1 hp1 k1 hk1 => by
      have g0 := hI.2.2.2.2.2.2.2.2.2.2.2.2.2.2.2.2.1 p1 hp1 k1 hk1
      simp only [mm_up, u3, u1, true_and, and_true, false_and, and_false, and_self, if_true, if_false] <;> (repeat' split) <;> first | exact g0 | rfl | (exfalso; omega) | assumption | (congr 1; omega) | (simp_all; done),
    fun p1 hp1 k1 hk1 => by
      have g0 := hI.2.2.2.2.2.2.2.2.2.2.2.2.2.2.2.2.2.1 p1 hp1 k1 hk1
      simp only [mm_up, u3, u1, true_and, and_true, false_and, and_false, and_self, if_true, if_false] <;> (repeat' split) <;> first | exact g0 | rfl | (exfalso; omega) | assumption | (congr 1; omega) | (simp_all; done),
    fun p1 hp1 k1 hk1 => by
      have g0 := hI.2.2.2.2.2.2.2.2.2.2.2.2.2.2.2.2.2.2.1 p1 hp1 k1 hk1
      simp only [mm_up, u3, u1, true_and, and_true, false_and, and_false, and_self, if_true, if_false] <;> (repeat' split) <;> first | exact g0 | rfl | (exfalso; omega) | assumption | (congr 1; omega) | (simp_all; done),
    fun p1 hp1 k1 hk1 => by
      have g0 := hI.2.2.2.2.2.2.2.2.2.2.2.2.2.2.2.2.2.2.2.1 p1 hp1 k1 hk1
      simp only [mm_up, u3, u1, true_and, and_true, false_and, and_false, and_self, if_true, if_false] <;> (repeat' split) <;> first | exact g0 | rfl | (exfalso; omega) | assumption | (congr 1; omega) | (simp_all; done),
    fun t1 ht1 k1 hk1 => by
      have g0 := hI.2.2.2.2.2.2.2.2.2.2.2.2.2.2.2.2.2.2.2.2.1 t1 ht1 k1 hk1
      simp only [mm_up, u3, u1, true_and, and_true, false_and, and_false, and_self, if_true, if_false] <;> (repeat' split) <;> first | exact g0 | rfl | (exfalso; omega) | assumption | (congr 1; omega) | (simp_all; done),
    fun t1 ht1 => by
      have g0 := hI.2.2.2.2.2.2.2.2.2.2.2.2.2.2.2.2.2.2.2.2.2.1 t1 ht1
      simp only [mm_up, u3, u1, true_and, and_true, false_and, and_false, and_self, if_true, if_false] <;> (repeat' split) <;> first | exact g0 | rfl | (exfalso; omega) | assumption | (congr 1; omega) | (simp_all; done),
    fun t1 ht1 => by
      have g0 := hI.2.2.2.2.2.2.2.2.2.2.2.2.2.2.2.2.2.2.2.2.2.2.1 t1 ht1
      simp only [mm_up, u3, u1, true_and, and_true, false_and, and_false, and_self, if_true, if_false] <;> (repeat' split) <;> first | exact g0 | rfl | (exfalso; omega) | assumption | (congr 1; omega) | (simp_all; done),
    fun t1 ht1 k1 hk1 => by
      have g0 := hI.2.2.2.2.2.2.2.2.2.2.2.2.2.2.2.2.2.2.2.2.2.2.2.1 t1 ht1 k1 hk1
      simp only [mm_up, u3, u1, true_and, and_true, false_and, and_false, and_self, if_true, if_false] <;> (repeat' split) <;> first | exact g0 | rfl | (exfalso; omega) | assumption | (congr 1; omega) | (simp_all; done),
    fun t1 ht1 k1 hk1 => by
      have g0 := hI.2.2.2.2.2.2.2.2.2.2.2.2.2.2.2.2.2.2.2.2.2.2.2.2.1 t1 ht1 k1 hk1
      simp only [mm_up, u3, u1, true_and, and_true, false_and, and_false, and_self, if_true, if_false] <;> (repeat' split) <;> first | exact g0 | rfl | (exfalso; omega) | assumption | (congr 1; omega) | (simp_all; done),
    fun t1 ht1 => by
      have g0 := hI.2.2.2.2.2.2.2.2.2.2.2.2.2.2.2.2.2.2.2.2.2.2.2.2.2.1 t1 ht1
      simp only [mm_up, u3, u1, true_and, and_true, false_and, and_false, and_self, if_true, if_false] <;> (repeat' split) <;> first | exact g0 | rfl | (exfalso; omega) | assumption | (congr 1; omega) | (simp_all; done),
    fun t1 ht1 => by
      have g0 := hI.2.2.2.2.2.2.2.2.2.2.2.2.2.2.2.2.2.2.2.2.2.2.2.2.2.2.1 t1 ht1
      simp only [mm_up, u3, u1, true_and, and_true, false_and, and_false, and_self, if_true, if_false] <;> (repeat' split) <;> first | exact g0 | rfl | (exfalso; omega) | assumption | (congr 1; omega) | (simp_all; done),
    fun t1 ht1 => by
      have g0 := hI.2.2.2.2.2.2.2.2.2.2.2.2.2.2.2.2.2.2.2.2.2.2.2.2.2.2.2.1 t1 ht1
      simp only [mm_up, u3, u1, true_and, and_true, false_and, and_false, and_self, if_true, if_false] <;> (repeat' split) <;> first | exact g0 | rfl | (exfalso; omega) | assumption | (congr 1; omega) | (simp_all; done),
    fun t1 ht1 => by
      have g0 := hI.2.2.2.2.2.2.2.2.2.2.2.2.2.2.2.2.2.2.2.2.2.2.2.2.2.2.2.2.1 t1 ht1
      simp only [mm_up, u3, u1, true_and, and_true, false_and, and_false, and_self, if_true, if_false] <;> (repeat' split) <;> first | exact g0 | rfl | (exfalso; omega) | assumption | (congr 1; omega) | (simp_all; done),
    fun t1 ht1 => by
      have g0 := hI.2.2.2.2.2.2.2.2.2.2.2.2.2.2.2.2.2.2.2.2.2.2.2.2.2.2.2.2.2.1 t1 ht1
      simp only [mm_up, u3, u1, true_and, and_true, false_and, and_false, and_self, if_true, if_false] <;> (repeat' split) <;> first | exact g0 | rfl | (exfalso; omega) | assumption | (congr 1; omega) | (simp_all; done),
    fun t1 ht1 => by
      have g0 := hI.2.2.2.2.2.2.2.2.2.2.2.2.2.2.2.2.2.2.2.2.2.2.2.2.2.2.2.2.2.2 t1 ht1
      simp only [mm_up, u3, u1, true_and, and_true, false_and, and_false, and_self, if_true, if_false] <;> (repeat' split) <;> first | exact g0 | rfl | (exfalso; omega) | assumption | (congr 1; omega) | (simp_all; done)⟩⟩
theorem CU_lpr {ci : Nat → Nat → Nat → Int32} {cn : Nat → Nat → Nat → Nat} {co : Nat → Option Nat} {xj : Nat → Nat → Nat → Int64} {xd : Nat → Nat → Nat → UInt64} {xf : Nat → Nat → Nat → UInt32} {xo : Nat → Nat → Nat → Option Nat} {xi : Nat → Nat → Nat → Int32} {xn : Nat → Nat → Nat → Nat} {I : Nat → Nat → Int32} {J : Nat → Nat → Int64} {F : Nat → Nat → UInt32} {D : Nat → Nat → UInt64} {R : Nat → Nat → Option Nat} {nx sl : Nat} (h : RC ci cn co xj xd xf xo xi xn I J F D R nx sl) {t : Nat} {v : Int32} (ht : t < 3) {z : Int32} (hz : z = v) : RC (u3 ci 3 t 0 v) cn co xj xd xf xo xi xn (mm_up I (32 + 7 * t) 12 z) J F D R nx sl := by
  rw [hz]
  obtain ⟨hJ, hD, hF, hR, hI, hX, hN, hS⟩ := h
  exact ⟨hJ,
   hD,
   hF,
   hR,
   ⟨fun p1 hp1 => by
      have g0 := hI.1 p1 hp1
      simp only [mm_up, u3, u1, true_and, and_true, false_and, and_false, and_self, if_true, if_false] <;> (repeat' split) <;> first | exact g0 | rfl | (exfalso; omega) | assumption | (congr 1; omega) | (simp_all; done),
    fun p1 hp1 => by
      have g0 := hI.2.1 p1 hp1
      simp only [mm_up, u3, u1, true_and, and_true, false_and, and_false, and_self, if_true, if_false] <;> (repeat' split) <;> first | exact g0 | rfl | (exfalso; omega) | assumption | (congr 1; omega) | (simp_all; done),
    fun p1 hp1 => by
      have g0 := hI.2.2.1 p1 hp1
      simp only [mm_up, u3, u1, true_and, and_true, false_and, and_false, and_self, if_true, if_false] <;> (repeat' split) <;> first | exact g0 | rfl | (exfalso; omega) | assumption | (congr 1; omega) | (simp_all; done),
    fun p1 hp1 k1 hk1 => by
      have g0 := hI.2.2.2.1 p1 hp1 k1 hk1
      simp only [mm_up, u3, u1, true_and, and_true, false_and, and_false, and_self, if_true, if_false] <;> (repeat' split) <;> first | exact g0 | rfl | (exfalso; omega) | assumption | (congr 1; omega) | (simp_all; done),
    fun p1 hp1 k1 hk1 => by
      have g0 := hI.2.2.2.2.1 p1 hp1 k1 hk1
      simp only [mm_up, u3, u1, true_and, and_true, false_and, and_false, and_self, if_true, if_false] <;> (repeat' split) <;> first | exact g0 | rfl | (exfalso; omega) | assumption | (congr 1; omega) | (simp_all; done),
    fun p1 hp1 k1 hk1 => by
      have g0 := hI.2.2.2.2.2.1 p1 hp1 k1 hk1
      simp only [mm_up, u3, u1, true_and, and_true, false_and, and_false, and_self, if_true, if_false] <;> (repeat' split) <;> first | exact g0 | rfl | (exfalso; omega) | assumption | (congr 1; omega) | (simp_all; done),
    fun p1 hp1 k1 hk1 => by
      have g0 := hI.2.2.2.2.2.2.1 p1 hp1 k1 hk1
      simp only [mm_up, u3, u1, true_and, and_true, false_and, and_false, and_self, if_true, if_false] <;> (repeat' split) <;> first | exact g0 | rfl | (exfalso; omega) | assumption | (congr 1; omega) | (simp_all; done),
    fun p1 hp1 k1 hk1 => by
      have g0 := hI.2.2.2.2.2.2.2.1 p1 hp1 k1 hk1
      simp only [mm_up, u3, u1, true_and, and_true, false_and, and_false, and_self, if_true, if_false] <;> (repeat' split) <;> first | exact g0 | rfl | (exfalso; omega) | assumption | (congr 1; omega) | (simp_all; done),
    fun p1 hp1 k1 hk1 => by
      have g0 := hI.2.2.2.2.2.2.2.2.1 p1 hp1 k1 hk1
      simp only [mm_up, u3, u1, true_and, and_true, false_and, and_false, and_self, if_true, if_false] <;> (repeat' split) <;> first | exact g0 | rfl | (exfalso; omega) | assumption | (congr 1; omega) | (simp_all; done),
    fun p1 hp1 k1 hk1 => by
      have g0 := hI.2.2.2.2.2.2.2.2.2.1 p1 hp1 k1 hk1
      simp only [mm_up, u3, u1, true_and, and_true, false_and, and_false, and_self, if_true, if_false] <;> (repeat' split) <;> first | exact g0 | rfl | (exfalso; omega) | assumption | (congr 1; omega) | (simp_all; done),
    fun p1 hp1 k1 hk1 => by
      have g0 := hI.2.2.2.2.2.2.2.2.2.2.1 p1 hp1 k1 hk1
      simp only [mm_up, u3, u1, true_and, and_true, false_and, and_false, and_self, if_true, if_false] <;> (repeat' split) <;> first | exact g0 | rfl | (exfalso; omega) | assumption | (congr 1; omega) | (simp_all; done),
    fun t1 ht1 => by
      have g0 := hI.2.2.2.2.2.2.2.2.2.2.2.1 t1 ht1
      simp only [mm_up, u3, u1, true_and, and_true, false_and, and_false, and_self, if_true, if_false] <;> (repeat' split) <;> first | exact g0 | rfl | (exfalso; omega) | assumption | (congr 1; omega) | (simp_all; done),
    fun t1 ht1 => by
      have g0 := hI.2.2.2.2.2.2.2.2.2.2.2.2.1 t1 ht1
      simp only [mm_up, u3, u1, true_and, and_true, false_and, and_false, and_self, if_true, if_false] <;> (repeat' split) <;> first | exact g0 | rfl | (exfalso; omega) | assumption | (congr 1; omega) | (simp_all; done),
    fun t1 ht1 k1 hk1 => by
      have g0 := hI.2.2.2.2.2.2.2.2.2.2.2.2.2.1 t1 ht1 k1 hk1
      simp only [mm_up, u3, u1, true_and, and_true, false_and, and_false, and_self, if_true, if_false] <;> (repeat' split) <;> first | exact g0 | rfl | (exfalso; omega) | assumption | (congr 1; omega) | (simp_all; done),
    fun t1 ht1 => by
      have g0 := hI.2.2.2.2.2.2.2.2.2.2.2.2.2.2.1 t1 ht1
      simp only [mm_up, u3, u1, true_and, and_true, false_and, and_false, and_self, if_true, if_false] <;> (repeat' split) <;> first | exact g0 | rfl | (exfalso; omega) | assumption | (congr 1; omega) | (simp_all; done),
    fun t1 ht1 => by
      have g0 := hI.2.2.2.2.2.2.2.2.2.2.2.2.2.2.2.1 t1 ht1
      simp only [mm_up, u3, u1, true_and, and_true, false_and, and_false, and_self, if_true, if_false] <;> (repeat' split) <;> first | exact g0 | rfl | (exfalso; omega) | assumption | (congr 1; omega) | (simp_all; done),
    fun t1 ht1 => by
      have g0 := hI.2.2.2.2.2.2.2.2.2.2.2.2.2.2.2.2.1 t1 ht1
      simp only [mm_up, u3, u1, true_and, and_true, false_and, and_false, and_self, if_true, if_false] <;> (repeat' split) <;> first | exact g0 | rfl | (exfalso; omega) | assumption | (congr 1; omega) | (simp_all; done),
    fun t1 ht1 => by
      have g0 := hI.2.2.2.2.2.2.2.2.2.2.2.2.2.2.2.2.2.1 t1 ht1
      simp only [mm_up, u3, u1, true_and, and_true, false_and, and_false, and_self, if_true, if_false] <;> (repeat' split) <;> first | exact g0 | rfl | (exfalso; omega) | assumption | (congr 1; omega) | (simp_all; done),
    fun t1 ht1 => by
      have g0 := hI.2.2.2.2.2.2.2.2.2.2.2.2.2.2.2.2.2.2.1 t1 ht1
      simp only [mm_up, u3, u1, true_and, and_true, false_and, and_false, and_self, if_true, if_false] <;> (repeat' split) <;> first | exact g0 | rfl | (exfalso; omega) | assumption | (congr 1; omega) | (simp_all; done),
    fun t1 ht1 => by
      have g0 := hI.2.2.2.2.2.2.2.2.2.2.2.2.2.2.2.2.2.2.2.1 t1 ht1
      simp only [mm_up, u3, u1, true_and, and_true, false_and, and_false, and_self, if_true, if_false] <;> (repeat' split) <;> first | exact g0 | rfl | (exfalso; omega) | assumption | (congr 1; omega) | (simp_all; done),
    by
      have g0 := hI.2.2.2.2.2.2.2.2.2.2.2.2.2.2.2.2.2.2.2.2.1
      simp only [mm_up, u3, u1, true_and, and_true, false_and, and_false, and_self, if_true, if_false] <;> (repeat' split) <;> first | exact g0 | rfl | (exfalso; omega) | assumption | (congr 1; omega) | (simp_all; done),
    by
      have g0 := hI.2.2.2.2.2.2.2.2.2.2.2.2.2.2.2.2.2.2.2.2.2.1
      simp only [mm_up, u3, u1, true_and, and_true, false_and, and_false, and_self, if_true, if_false] <;> (repeat' split) <;> first | exact g0 | rfl | (exfalso; omega) | assumption | (congr 1; omega) | (simp_all; done),
    fun i1 hi1 => by
      have g0 := hI.2.2.2.2.2.2.2.2.2.2.2.2.2.2.2.2.2.2.2.2.2.2.1 i1 hi1
      simp only [mm_up, u3, u1, true_and, and_true, false_and, and_false, and_self, if_true, if_false] <;> (repeat' split) <;> first | exact g0 | rfl | (exfalso; omega) | assumption | (congr 1; omega) | (simp_all; done),
    fun i1 hi1 => by
      have g0 := hI.2.2.2.2.2.2.2.2.2.2.2.2.2.2.2.2.2.2.2.2.2.2.2.1 i1 hi1
      simp only [mm_up, u3, u1, true_and, and_true, false_and, and_false, and_self, if_true, if_false] <;> (repeat' split) <;> first | exact g0 | rfl | (exfalso; omega) | assumption | (congr 1; omega) | (simp_all; done),
    fun i1 hi1 => by
      have g0 := hI.2.2.2.2.2.2.2.2.2.2.2.2.2.2.2.2.2.2.2.2.2.2.2.2.1 i1 hi1
      simp only [mm_up, u3, u1, true_and, and_true, false_and, and_false, and_self, if_true, if_false] <;> (repeat' split) <;> first | exact g0 | rfl | (exfalso; omega) | assumption | (congr 1; omega) | (simp_all; done),
    fun i1 hi1 => by
      have g0 := hI.2.2.2.2.2.2.2.2.2.2.2.2.2.2.2.2.2.2.2.2.2.2.2.2.2.1 i1 hi1
      simp only [mm_up, u3, u1, true_and, and_true, false_and, and_false, and_self, if_true, if_false] <;> (repeat' split) <;> first | exact g0 | rfl | (exfalso; omega) | assumption | (congr 1; omega) | (simp_all; done),
    fun i1 hi1 => by
      have g0 := hI.2.2.2.2.2.2.2.2.2.2.2.2.2.2.2.2.2.2.2.2.2.2.2.2.2.2.1 i1 hi1
      simp only [mm_up, u3, u1, true_and, and_true, false_and, and_false, and_self, if_true, if_false] <;> (repeat' split) <;> first | exact g0 | rfl | (exfalso; omega) | assumption | (congr 1; omega) | (simp_all; done),
    fun i1 hi1 => by
      have g0 := hI.2.2.2.2.2.2.2.2.2.2.2.2.2.2.2.2.2.2.2.2.2.2.2.2.2.2.2.1 i1 hi1
      simp only [mm_up, u3, u1, true_and, and_true, false_and, and_false, and_self, if_true, if_false] <;> (repeat' split) <;> first | exact g0 | rfl | (exfalso; omega) | assumption | (congr 1; omega) | (simp_all; done),
    fun i1 hi1 => by
      have g0 := hI.2.2.2.2.2.2.2.2.2.2.2.2.2.2.2.2.2.2.2.2.2.2.2.2.2.2.2.2.1 i1 hi1
      simp only [mm_up, u3, u1, true_and, and_true, false_and, and_false, and_self, if_true, if_false] <;> (repeat' split) <;> first | exact g0 | rfl | (exfalso; omega) | assumption | (congr 1; omega) | (simp_all; done),
    fun i1 hi1 => by
      have g0 := hI.2.2.2.2.2.2.2.2.2.2.2.2.2.2.2.2.2.2.2.2.2.2.2.2.2.2.2.2.2.1 i1 hi1
      simp only [mm_up, u3, u1, true_and, and_true, false_and, and_false, and_self, if_true, if_false] <;> (repeat' split) <;> first | exact g0 | rfl | (exfalso; omega) | assumption | (congr 1; omega) | (simp_all; done),
    fun i1 hi1 => by
      have g0 := hI.2.2.2.2.2.2.2.2.2.2.2.2.2.2.2.2.2.2.2.2.2.2.2.2.2.2.2.2.2.2 i1 hi1
      simp only [mm_up, u3, u1, true_and, and_true, false_and, and_false, and_self, if_true, if_false] <;> (repeat' split) <;> first | exact g0 | rfl | (exfalso; omega) | assumption | (congr 1; omega) | (simp_all; done)⟩,
   hX,
   hN,
   hS⟩
theorem MU_lpr {ci : Nat → Nat → Nat → Int32} {cn : Nat → Nat → Nat → Nat} {co : Nat → Option Nat} {xj : Nat → Nat → Nat → Int64} {xd : Nat → Nat → Nat → UInt64} {xf : Nat → Nat → Nat → UInt32} {xo : Nat → Nat → Nat → Option Nat} {xi : Nat → Nat → Nat → Int32} {xn : Nat → Nat → Nat → Nat} {I : Nat → Nat → Int32} {J : Nat → Nat → Int64} {D : Nat → Nat → UInt64} (h : RM ci cn co xj xd xf xo xi xn I J D) {t : Nat} {v : Int32} (ht : t < 3) {j : Nat} {z : Int32} (hj : j = t) (hz : z = v) : RM (u3 ci 3 t 0 v) cn co xj xd xf xo xi xn (mm_up I 41 j z) J D := by
  rw [hj, hz]
  obtain ⟨hJ, hD, hI⟩ := h
  exact ⟨hJ,
   hD,
   ⟨by
      have g0 := hI.1
      simp only [mm_up, u3, u1, true_and, and_true, false_and, and_false, and_self, if_true, if_false] <;> (repeat' split) <;> first | exact g0 | rfl | (exfalso; omega) | assumption | (congr 1; omega) | (simp_all; done),
    by
      have g0 := hI.2.1
      simp only [mm_up, u3, u1, true_and, and_true, false_and, and_false, and_self, if_true, if_false] <;> (repeat' split) <;> first | exact g0 | rfl | (exfalso; omega) | assumption | (congr 1; omega) | (simp_all; done),
    fun i1 hi1 => by
      have g0 := hI.2.2.1 i1 hi1
      simp only [mm_up, u3, u1, true_and, and_true, false_and, and_false, and_self, if_true, if_false] <;> (repeat' split) <;> first | exact g0 | rfl | (exfalso; omega) | assumption | (congr 1; omega) | (simp_all; done),
    fun i1 hi1 => by
      have g0 := hI.2.2.2.1 i1 hi1
      simp only [mm_up, u3, u1, true_and, and_true, false_and, and_false, and_self, if_true, if_false] <;> (repeat' split) <;> first | exact g0 | rfl | (exfalso; omega) | assumption | (congr 1; omega) | (simp_all; done),
    fun i1 hi1 => by
      have g0 := hI.2.2.2.2.1 i1 hi1
      simp only [mm_up, u3, u1, true_and, and_true, false_and, and_false, and_self, if_true, if_false] <;> (repeat' split) <;> first | exact g0 | rfl | (exfalso; omega) | assumption | (congr 1; omega) | (simp_all; done),
    fun i1 hi1 => by
      have g0 := hI.2.2.2.2.2.1 i1 hi1
      simp only [mm_up, u3, u1, true_and, and_true, false_and, and_false, and_self, if_true, if_false] <;> (repeat' split) <;> first | exact g0 | rfl | (exfalso; omega) | assumption | (congr 1; omega) | (simp_all; done),
    fun i1 hi1 => by
      have g0 := hI.2.2.2.2.2.2.1 i1 hi1
      simp only [mm_up, u3, u1, true_and, and_true, false_and, and_false, and_self, if_true, if_false] <;> (repeat' split) <;> first | exact g0 | rfl | (exfalso; omega) | assumption | (congr 1; omega) | (simp_all; done),
    fun i1 hi1 k1 hk1 => by
      have g0 := hI.2.2.2.2.2.2.2.1 i1 hi1 k1 hk1
      simp only [mm_up, u3, u1, true_and, and_true, false_and, and_false, and_self, if_true, if_false] <;> (repeat' split) <;> first | exact g0 | rfl | (exfalso; omega) | assumption | (congr 1; omega) | (simp_all; done),
    fun i1 hi1 => by
      have g0 := hI.2.2.2.2.2.2.2.2.1 i1 hi1
      simp only [mm_up, u3, u1, true_and, and_true, false_and, and_false, and_self, if_true, if_false] <;> (repeat' split) <;> first | exact g0 | rfl | (exfalso; omega) | assumption | (congr 1; omega) | (simp_all; done),
    fun i1 hi1 => by
      have g0 := hI.2.2.2.2.2.2.2.2.2.1 i1 hi1
      simp only [mm_up, u3, u1, true_and, and_true, false_and, and_false, and_self, if_true, if_false] <;> (repeat' split) <;> first | exact g0 | rfl | (exfalso; omega) | assumption | (congr 1; omega) | (simp_all; done),
    fun p1 hp1 => by
      have g0 := hI.2.2.2.2.2.2.2.2.2.2.1 p1 hp1
      simp only [mm_up, u3, u1, true_and, and_true, false_and, and_false, and_self, if_true, if_false] <;> (repeat' split) <;> first | exact g0 | rfl | (exfalso; omega) | assumption | (congr 1; omega) | (simp_all; done),
    fun p1 hp1 k1 hk1 => by
      have g0 := hI.2.2.2.2.2.2.2.2.2.2.2.1 p1 hp1 k1 hk1
      simp only [mm_up, u3, u1, true_and, and_true, false_and, and_false, and_self, if_true, if_false] <;> (repeat' split) <;> first | exact g0 | rfl | (exfalso; omega) | assumption | (congr 1; omega) | (simp_all; done),
    fun p1 hp1 k1 hk1 => by
      have g0 := hI.2.2.2.2.2.2.2.2.2.2.2.2.1 p1 hp1 k1 hk1
      simp only [mm_up, u3, u1, true_and, and_true, false_and, and_false, and_self, if_true, if_false] <;> (repeat' split) <;> first | exact g0 | rfl | (exfalso; omega) | assumption | (congr 1; omega) | (simp_all; done),
    fun p1 hp1 k1 hk1 => by
      have g0 := hI.2.2.2.2.2.2.2.2.2.2.2.2.2.1 p1 hp1 k1 hk1
      simp only [mm_up, u3, u1, true_and, and_true, false_and, and_false, and_self, if_true, if_false] <;> (repeat' split) <;> first | exact g0 | rfl | (exfalso; omega) | assumption | (congr 1; omega) | (simp_all; done),
    fun p1 hp1 k1 hk1 => by
      have g0 := hI.2.2.2.2.2.2.2.2.2.2.2.2.2.2.1 p1 hp1 k1 hk1
      simp only [mm_up, u3, u1, true_and, and_true, false_and, and_false, and_self, if_true, if_false] <;> (repeat' split) <;> first | exact g0 | rfl | (exfalso; omega) | assumption | (congr 1; omega) | (simp_all; done),
    fun p1 hp1 => by
      have g0 := hI.2.2.2.2.2.2.2.2.2.2.2.2.2.2.2.1 p1 hp1
      simp only [mm_up, u3, u1, true_and, and_true, false_and, and_false, and_self, if_true, if_false] <;> (repeat' split) <;> first | exact g0 | rfl | (exfalso; omega) | assumption | (congr 1; omega) | (simp_all; done),
    fun p1 hp1 k1 hk1 => by
      have g0 := hI.2.2.2.2.2.2.2.2.2.2.2.2.2.2.2.2.1 p1 hp1 k1 hk1
      simp only [mm_up, u3, u1, true_and, and_true, false_and, and_false, and_self, if_true, if_false] <;> (repeat' split) <;> first | exact g0 | rfl | (exfalso; omega) | assumption | (congr 1; omega) | (simp_all; done),
    fun p1 hp1 k1 hk1 => by
      have g0 := hI.2.2.2.2.2.2.2.2.2.2.2.2.2.2.2.2.2.1 p1 hp1 k1 hk1
      simp only [mm_up, u3, u1, true_and, and_true, false_and, and_false, and_self, if_true, if_false] <;> (repeat' split) <;> first | exact g0 | rfl | (exfalso; omega) | assumption | (congr 1; omega) | (simp_all; done),
    fun p1 hp1 k1 hk1 => by
      have g0 := hI.2.2.2.2.2.2.2.2.2.2.2.2.2.2.2.2.2.2.1 p1 hp1 k1 hk1
      simp only [mm_up, u3, u1, true_and, and_true, false_and, and_false, and_self, if_true, if_false] <;> (repeat' split) <;> first | exact g0 | rfl | (exfalso; omega) | assumption | (congr 1; omega) | (simp_all; done),
    fun p1 hp1 k1 hk1 => by
      have g0 := hI.2.2.2.2.2.2.2.2.2.2.2.2.2.2.2.2.2.2.2.1 p1 hp1 k1 hk1
      simp only [mm_up, u3, u1, true_and, and_true, false_and, and_false, and_self, if_true, if_false] <;> (repeat' split) <;> first | exact g0 | rfl | (exfalso; omega) | assumption | (congr 1; omega) | (simp_all; done),
    fun t1 ht1 k1 hk1 => by
      have g0 := hI.2.2.2.2.2.2.2.2.2.2.2.2.2.2.2.2.2.2.2.2.1 t1 ht1 k1 hk1
      simp only [mm_up, u3, u1, true_and, and_true, false_and, and_false, and_self, if_true, if_false] <;> (repeat' split) <;> first | exact g0 | rfl | (exfalso; omega) | assumption | (congr 1; omega) | (simp_all; done),
    fun t1 ht1 => by
      have g0 := hI.2.2.2.2.2.2.2.2.2.2.2.2.2.2.2.2.2.2.2.2.2.1 t1 ht1
      simp only [mm_up, u3, u1, true_and, and_true, false_and, and_false, and_self, if_true, if_false] <;> (repeat' split) <;> first | exact g0 | rfl | (exfalso; omega) | assumption | (congr 1; omega) | (simp_all; done),
    fun t1 ht1 => by
      have g0 := hI.2.2.2.2.2.2.2.2.2.2.2.2.2.2.2.2.2.2.2.2.2.2.1 t1 ht1
      simp only [mm_up, u3, u1, true_and, and_true, false_and, and_false, and_self, if_true, if_false] <;> (repeat' split) <;> first | exact g0 | rfl | (exfalso; omega) | assumption | (congr 1; omega) | (simp_all; done),
    fun t1 ht1 k1 hk1 => by
      have g0 := hI.2.2.2.2.2.2.2.2.2.2.2.2.2.2.2.2.2.2.2.2.2.2.2.1 t1 ht1 k1 hk1
      simp only [mm_up, u3, u1, true_and, and_true, false_and, and_false, and_self, if_true, if_false] <;> (repeat' split) <;> first | exact g0 | rfl | (exfalso; omega) | assumption | (congr 1; omega) | (simp_all; done),
    fun t1 ht1 k1 hk1 => by
      have g0 := hI.2.2.2.2.2.2.2.2.2.2.2.2.2.2.2.2.2.2.2.2.2.2.2.2.1 t1 ht1 k1 hk1
      simp only [mm_up, u3, u1, true_and, and_true, false_and, and_false, and_self, if_true, if_false] <;> (repeat' split) <;> first | exact g0 | rfl | (exfalso; omega) | assumption | (congr 1; omega) | (simp_all; done),
    fun t1 ht1 => by
      have g0 := hI.2.2.2.2.2.2.2.2.2.2.2.2.2.2.2.2.2.2.2.2.2.2.2.2.2.1 t1 ht1
      simp only [mm_up, u3, u1, true_and, and_true, false_and, and_false, and_self, if_true, if_false] <;> (repeat' split) <;> first | exact g0 | rfl | (exfalso; omega) | assumption | (congr 1; omega) | (simp_all; done),
    fun t1 ht1 => by
      have g0 := hI.2.2.2.2.2.2.2.2.2.2.2.2.2.2.2.2.2.2.2.2.2.2.2.2.2.2.1 t1 ht1
      simp only [mm_up, u3, u1, true_and, and_true, false_and, and_false, and_self, if_true, if_false] <;> (repeat' split) <;> first | exact g0 | rfl | (exfalso; omega) | assumption | (congr 1; omega) | (simp_all; done),
    fun t1 ht1 => by
      have g0 := hI.2.2.2.2.2.2.2.2.2.2.2.2.2.2.2.2.2.2.2.2.2.2.2.2.2.2.2.1 t1 ht1
      simp only [mm_up, u3, u1, true_and, and_true, false_and, and_false, and_self, if_true, if_false] <;> (repeat' split) <;> first | exact g0 | rfl | (exfalso; omega) | assumption | (congr 1; omega) | (simp_all; done),
    fun t1 ht1 => by
      have g0 := hI.2.2.2.2.2.2.2.2.2.2.2.2.2.2.2.2.2.2.2.2.2.2.2.2.2.2.2.2.1 t1 ht1
      simp only [mm_up, u3, u1, true_and, and_true, false_and, and_false, and_self, if_true, if_false] <;> (repeat' split) <;> first | exact g0 | rfl | (exfalso; omega) | assumption | (congr 1; omega) | (simp_all; done),
    fun t1 ht1 => by
      have g0 := hI.2.2.2.2.2.2.2.2.2.2.2.2.2.2.2.2.2.2.2.2.2.2.2.2.2.2.2.2.2.1 t1 ht1
      simp only [mm_up, u3, u1, true_and, and_true, false_and, and_false, and_self, if_true, if_false] <;> (repeat' split) <;> first | exact g0 | rfl | (exfalso; omega) | assumption | (congr 1; omega) | (simp_all; done),
    fun t1 ht1 => by
      have g0 := hI.2.2.2.2.2.2.2.2.2.2.2.2.2.2.2.2.2.2.2.2.2.2.2.2.2.2.2.2.2.2 t1 ht1
      simp only [mm_up, u3, u1, true_and, and_true, false_and, and_false, and_self, if_true, if_false] <;> (repeat' split) <;> first | exact g0 | rfl | (exfalso; omega) | assumption | (congr 1; omega) | (simp_all; done)⟩⟩
theorem CU_lpl {ci : Nat → Nat → Nat → Int32} {cn : Nat → Nat → Nat → Nat} {co : Nat → Option Nat} {xj : Nat → Nat → Nat → Int64} {xd : Nat → Nat → Nat → UInt64} {xf : Nat → Nat → Nat → UInt32} {xo : Nat → Nat → Nat → Option Nat} {xi : Nat → Nat → Nat → Int32} {xn : Nat → Nat → Nat → Nat} {I : Nat → Nat → Int32} {J : Nat → Nat → Int64} {F : Nat → Nat → UInt32} {D : Nat → Nat → UInt64} {R : Nat → Nat → Option Nat} {nx sl : Nat} (h : RC ci cn co xj xd xf xo xi xn I J F D R nx sl) {t : Nat} {v : Int32} (ht : t < 3) {z : Int32} (hz : z = v) : RC (u3 ci 4 t 0 v) cn co xj xd xf xo xi xn (mm_up I (32 + 7 * t) 13 z) J F D R nx sl := by
  rw [hz]
  obtain ⟨hJ, hD, hF, hR, hI, hX, hN, hS⟩ := h
  exact ⟨hJ,
   hD,
   hF,
   hR,
   ⟨fun p1 hp1 => by
      have g0 := hI.1 p1 hp1
      simp only [mm_up, u3, u1, true_and, and_true, false_and, and_false, and_self, if_true, if_false] <;> (repeat' split) <;> first | exact g0 | rfl | (exfalso; omega) | assumption | (congr 1; omega) | (simp_all; done),
    fun p1 hp1 => by
      have g0 := hI.2.1 p1 hp1
      simp only [mm_up, u3, u1, true_and, and_true, false_and, and_false, and_self, if_true, if_false] <;> (repeat' split) <;> first | exact g0 | rfl | (exfalso; omega) | assumption | (congr 1; omega) | (simp_all; done),
    fun p1 hp1 => by
      have g0 := hI.2.2.1 p1 hp1
      simp only [mm_up, u3, u1, true_and, and_true, false_and, and_false, and_self, if_true, if_false] <;> (repeat' split) <;> first | exact g0 | rfl | (exfalso; omega) | assumption | (congr 1; omega) | (simp_all; done),
    fun p1 hp1 k1 hk1 => by
      have g0 := hI.2.2.2.1 p1 hp1 k1 hk1
      simp only [mm_up, u3, u1, true_and, and_true, false_and, and_false, and_self, if_true, if_false] <;> (repeat' split) <;> first | exact g0 | rfl | (exfalso; omega) | assumption | (congr 1; omega) | (simp_all; done),
    fun p1 hp1 k1 hk1 => by
      have g0 := hI.2.2.2.2.1 p1 hp1 k1 hk1
      simp only [mm_up, u3, u1, true_and, and_true, false_and, and_false, and_self, if_true, if_false] <;> (repeat' split) <;> first | exact g0 | rfl | (exfalso; omega) | assumption | (congr 1; omega) | (simp_all; done),
    fun p1 hp1 k1 hk1 => by
      have g0 := hI.2.2.2.2.2.1 p1 hp1 k1 hk1
      simp only [mm_up, u3, u1, true_and, and_true, false_and, and_false, and_self, if_true, if_false] <;> (repeat' split) <;> first | exact g0 | rfl | (exfalso; omega) | assumption | (congr 1; omega) | (simp_all; done),
    fun p1 hp1 k1 hk1 => by
      have g0 := hI.2.2.2.2.2.2.1 p1 hp1 k1 hk1
      simp only [mm_up, u3, u1, true_and, and_true, false_and, and_false, and_self, if_true, if_false] <;> (repeat' split) <;> first | exact g0 | rfl | (exfalso; omega) | assumption | (congr 1; omega) | (simp_all; done),
    fun p1 hp1 k1 hk1 => by
      have g0 := hI.2.2.2.2.2.2.2.1 p1 hp1 k1 hk1
      simp only [mm_up, u3, u1, true_and, and_true, false_and, and_false, and_self, if_true, if_false] <;> (repeat' split) <;> first | exact g0 | rfl | (exfalso; omega) | assumption | (congr 1; omega) | (simp_all; done),
    fun p1 hp1 k1 hk1 => by
      have g0 := hI.2.2.2.2.2.2.2.2.1 p1 hp1 k1 hk1
      simp only [mm_up, u3, u1, true_and, and_true, false_and, and_false, and_self, if_true, if_false] <;> (repeat' split) <;> first | exact g0 | rfl | (exfalso; omega) | assumption | (congr 1; omega) | (simp_all; done),
    fun p1 hp1 k1 hk1 => by
      have g0 := hI.2.2.2.2.2.2.2.2.2.1 p1 hp1 k1 hk1
      simp only [mm_up, u3, u1, true_and, and_true, false_and, and_false, and_self, if_true, if_false] <;> (repeat' split) <;> first | exact g0 | rfl | (exfalso; omega) | assumption | (congr 1; omega) | (simp_all; done),
    fun p1 hp1 k1 hk1 => by
      have g0 := hI.2.2.2.2.2.2.2.2.2.2.1 p1 hp1 k1 hk1
      simp only [mm_up, u3, u1, true_and, and_true, false_and, and_false, and_self, if_true, if_false] <;> (repeat' split) <;> first | exact g0 | rfl | (exfalso; omega) | assumption | (congr 1; omega) | (simp_all; done),
    fun t1 ht1 => by
      have g0 := hI.2.2.2.2.2.2.2.2.2.2.2.1 t1 ht1
      simp only [mm_up, u3, u1, true_and, and_true, false_and, and_false, and_self, if_true, if_false] <;> (repeat' split) <;> first | exact g0 | rfl | (exfalso; omega) | assumption | (congr 1; omega) | (simp_all; done),
    fun t1 ht1 => by
      have g0 := hI.2.2.2.2.2.2.2.2.2.2.2.2.1 t1 ht1
      simp only [mm_up, u3, u1, true_and, and_true, false_and, and_false, and_self, if_true, if_false] <;> (repeat' split) <;> first | exact g0 | rfl | (exfalso; omega) | assumption | (congr 1; omega) | (simp_all; done),
    fun t1 ht1 k1 hk1 => by
      have g0 := hI.2.2.2.2.2.2.2.2.2.2.2.2.2.1 t1 ht1 k1 hk1
      simp only [mm_up, u3, u1, true_and, and_true, false_and, and_false, and_self, if_true, if_false] <;> (repeat' split) <;> first | exact g0 | rfl | (exfalso; omega) | assumption | (congr 1; omega) | (simp_all; done),
    fun t1 ht1 => by
      have g0 := hI.2.2.2.2.2.2.2.2.2.2.2.2.2.2.1 t1 ht1
      simp only [mm_up, u3, u1, true_and, and_true, false_and, and_false, and_self, if_true, if_false] <;> (repeat' split) <;> first | exact g0 | rfl | (exfalso; omega) | assumption | (congr 1; omega) | (simp_all; done),
    fun t1 ht1 => by
      have g0 := hI.2.2.2.2.2.2.2.2.2.2.2.2.2.2.2.1 t1 ht1
      simp only [mm_up, u3, u1, true_and, and_true, false_and, and_false, and_self, if_true, if_false] <;> (repeat' split) <;> first | exact g0 | rfl | (exfalso; omega) | assumption | (congr 1; omega) | (simp_all; done),
    fun t1 ht1 => by
      have g0 := hI.2.2.2.2.2.2.2.2.2.2.2.2.2.2.2.2.1 t1 ht1
      simp only [mm_up, u3, u1, true_and, and_true, false_and, and_false, and_self, if_true, if_false] <;> (repeat' split) <;> first | exact g0 | rfl | (exfalso; omega) | assumption | (congr 1; omega) | (simp_all; done),
    fun t1 ht1 => by
      have g0 := hI.2.2.2.2.2.2.2.2.2.2.2.2.2.2.2.2.2.1 t1 ht1
      simp only [mm_up, u3, u1, true_and, and_true, false_and, and_false, and_self, if_true, if_false] <;> (repeat' split) <;> first | exact g0 | rfl | (exfalso; omega) | assumption | (congr 1; omega) | (simp_all; done),
    fun t1 ht1 => by
      have g0 := hI.2.2.2.2.2.2.2.2.2.2.2.2.2.2.2.2.2.2.1 t1 ht1
      simp only [mm_up, u3, u1, true_and, and_true, false_and, and_false, and_self, if_true, if_false] <;> (repeat' split) <;> first | exact g0 | rfl | (exfalso; omega) | assumption | (congr 1; omega) | (simp_all; done),
    fun t1 ht1 => by
      have g0 := hI.2.2.2.2.2.2.2.2.2.2.2.2.2.2.2.2.2.2.2.1 t1 ht1
      simp only [mm_up, u3, u1, true_and, and_true, false_and, and_false, and_self, if_true, if_false] <;> (repeat' split) <;> first | exact g0 | rfl | (exfalso; omega) | assumption | (congr 1; omega) | (simp_all; done),
    by
      have g0 := hI.2.2.2.2.2.2.2.2.2.2.2.2.2.2.2.2.2.2.2.2.1
      simp only [mm_up, u3, u1, true_and, and_true, false_and, and_false, and_self, if_true, if_false] <;> (repeat' split) <;> first | exact g0 | rfl | (exfalso; omega) | assumption | (congr 1; omega) | (simp_all; done),
    by
      have g0 := hI.2.2.2.2.2.2.2.2.2.2.2.2.2.2.2.2.2.2.2.2.2.1
      simp only [mm_up, u3, u1, true_and, and_true, false_and, and_false, and_self, if_true, if_false] <;> (repeat' split) <;> first | exact g0 | rfl | (exfalso; omega) | assumption | (congr 1; omega) | (simp_all; done),
    fun i1 hi1 => by
      have g0 := hI.2.2.2.2.2.2.2.2.2.2.2.2.2.2.2.2.2.2.2.2.2.2.1 i1 hi1
      simp only [mm_up, u3, u1, true_and, and_true, false_and, and_false, and_self, if_true, if_false] <;> (repeat' split) <;> first | exact g0 | rfl | (exfalso; omega) | assumption | (congr 1; omega) | (simp_all; done),
    fun i1 hi1 => by
      have g0 := hI.2.2.2.2.2.2.2.2.2.2.2.2.2.2.2.2.2.2.2.2.2.2.2.1 i1 hi1
      simp only [mm_up, u3, u1, true_and, and_true, false_and, and_false, and_self, if_true, if_false] <;> (repeat' split) <;> first | exact g0 | rfl | (exfalso; omega) | assumption | (congr 1; omega) | (simp_all; done),
    fun i1 hi1 => by
      have g0 := hI.2.2.2.2.2.2.2.2.2.2.2.2.2.2.2.2.2.2.2.2.2.2.2.2.1 i1 hi1
      simp only [mm_up, u3, u1, true_and, and_true, false_and, and_false, and_self, if_true, if_false] <;> (repeat' split) <;> first | exact g0 | rfl | (exfalso; omega) | assumption | (congr 1; omega) | (simp_all; done),
    fun i1 hi1 => by
      have g0 := hI.2.2.2.2.2.2.2.2.2.2.2.2.2.2.2.2.2.2.2.2.2.2.2.2.2.1 i1 hi1
      simp only [mm_up, u3, u1, true_and, and_true, false_and, and_false, and_self, if_true, if_false] <;> (repeat' split) <;> first | exact g0 | rfl | (exfalso; omega) | assumption | (congr 1; omega) | (simp_all; done),
    fun i1 hi1 => by
      have g0 := hI.2.2.2.2.2.2.2.2.2.2.2.2.2.2.2.2.2.2.2.2.2.2.2.2.2.2.1 i1 hi1
      simp only [mm_up, u3, u1, true_and, and_true, false_and, and_false, and_self, if_true, if_false] <;> (repeat' split) <;> first | exact g0 | rfl | (exfalso; omega) | assumption | (congr 1; omega) | (simp_all; done),
    fun i1 hi1 => by
      have g0 := hI.2.2.2.2.2.2.2.2.2.2.2.2.2.2.2.2.2.2.2.2.2.2.2.2.2.2.2.1 i1 hi1
      simp only [mm_up, u3, u1, true_and, and_true, false_and, and_false, and_self, if_true, if_false] <;> (repeat' split) <;> first | exact g0 | rfl | (exfalso; omega) | assumption | (congr 1; omega) | (simp_all; done),
    fun i1 hi1 => by
      have g0 := hI.2.2.2.2.2.2.2.2.2.2.2.2.2.2.2.2.2.2.2.2.2.2.2.2.2.2.2.2.1 i1 hi1
      simp only [mm_up, u3, u1, true_and, and_true, false_and, and_false, and_self, if_true, if_false] <;> (repeat' split) <;> first | exact g0 | rfl | (exfalso; omega) | assumption | (congr 1; omega) | (simp_all; done),
    fun i1 hi1 => by
      have g0 := hI.2.2.2.2.2.2.2.2.2.2.2.2.2.2.2.2.2.2.2.2.2.2.2.2.2.2.2.2.2.1 i1 hi1
      simp only [mm_up, u3, u1, true_and, and_true, false_and, and_false, and_self, if_true, if_false] <;> (repeat' split) <;> first | exact g0 | rfl | (exfalso; omega) | assumption | (congr 1; omega) | (simp_all; done),
    fun i1 hi1 => by
      have g0 := hI.2.2.2.2.2.2.2.2.2.2.2.2.2.2.2.2.2.2.2.2.2.2.2.2.2.2.2.2.2.2 i1 hi1
      simp only [mm_up, u3, u1, true_and, and_true, false_and, and_false, and_self, if_true, if_false] <;> (repeat' split) <;> first | exact g0 | rfl | (exfalso; omega) | assumption | (congr 1; omega) | (simp_all; done)⟩,
   hX,
   hN,
   hS⟩
theorem MU_lpl {ci : Nat → Nat → Nat → Int32} {cn : Nat → Nat → Nat → Nat} {co : Nat → Option Nat} {xj : Nat → Nat → Nat → Int64} {xd : Nat → Nat → Nat → UInt64} {xf : Nat → Nat → Nat → UInt32} {xo : Nat → Nat → Nat → Option Nat} {xi : Nat → Nat → Nat → Int32} {xn : Nat → Nat → Nat → Nat} {I : Nat → Nat → Int32} {J : Nat → Nat → Int64} {D : Nat → Nat → UInt64} (h : RM ci cn co xj xd xf xo xi xn I J D) {t : Nat} {v : Int32} (ht : t < 3) {j : Nat} {z : Int32} (hj : j = t) (hz : z = v) : RM (u3 ci 4 t 0 v) cn co xj xd xf xo xi xn (mm_up I 42 j z) J D := by
  rw [hj, hz]
  obtain ⟨hJ, hD, hI⟩ := h
  exact ⟨hJ,
   hD,
   ⟨by
      have g0 := hI.1
      simp only [mm_up, u3, u1, true_and, and_true, false_and, and_false, and_self, if_true, if_false] <;> (repeat' split) <;> first | exact g0 | rfl | (exfalso; omega) | assumption | (congr 1; omega) | (simp_all; done),
    by
      have g0 := hI.2.1
      simp only [mm_up, u3, u1, true_and, and_true, false_and, and_false, and_self, if_true, if_false] <;> (repeat' split) <;> first | exact g0 | rfl | (exfalso; omega) | assumption | (congr 1; omega) | (simp_all; done),
    fun i1 hi1 => by
      have g0 := hI.2.2.1 i1 hi1
      simp only [mm_up, u3, u1, true_and, and_true, false_and, and_false, and_self, if_true, if_false] <;> (repeat' split) <;> first | exact g0 | rfl | (exfalso; omega) | assumption | (congr 1; omega) | (simp_all; done),
    fun i1 hi1 => by
      have g0 := hI.2.2.2.1 i1 hi1
      simp only [mm_up, u3, u1, true_and, and_true, false_and, and_false, and_self, if_true, if_false] <;> (repeat' split) <;> first | exact g0 | rfl | (exfalso; omega) | assumption | (congr 1; omega) | (simp_all; done),
    fun i1 hi1 => by
      have g0 := hI.2.2.2.2.1 i1 hi1
      simp only [mm_up, u3, u1, true_and, and_true, false_and, and_false, and_self, if_true, if_false] <;> (repeat' split) <;> first | exact g0 | rfl | (exfalso; omega) | assumption | (congr 1; omega) | (simp_all; done),
    fun i1 hi1 => by
      have g0 := hI.2.2.2.2.2.1 i1 hi1
      simp only [mm_up, u3, u1, true_and, and_true, false_and, and_false, and_self, if_true, if_false] <;> (repeat' split) <;> first | exact g0 | rfl | (exfalso; omega) | assumption | (congr 1; omega) | (simp_all; done),
    fun i1 hi1 => by
      have g0 := hI.2.2.2.2.2.2.1 i1 hi1
      simp only [mm_up, u3, u1, true_and, and_true, false_and, and_false, and_self, if_true, if_false] <;> (repeat' split) <;> first | exact g0 | rfl | (exfalso; omega) | assumption | (congr 1; omega) | (simp_all; done),
    fun i1 hi1 k1 hk1 => by
      have g0 := hI.2.2.2.2.2.2.2.1 i1 hi1 k1 hk1
      simp only [mm_up, u3, u1, true_and, and_true, false_and, and_false, and_self, if_true, if_false] <;> (repeat' split) <;> first | exact g0 | rfl | (exfalso; omega) | assumption | (congr 1; omega) | (simp_all; done),
    fun i1 hi1 => by
      have g0 := hI.2.2.2.2.2.2.2.2.1 i1 hi1
      simp only [mm_up, u3, u1, true_and, and_true, false_and, and_false, and_self, if_true, if_false] <;> (repeat' split) <;> first | exact g0 | rfl | (exfalso; omega) | assumption | (congr 1; omega) | (simp_all; done),
    fun i1 hi1 => by
      have g0 := hI.2.2.2.2.2.2.2.2.2.1 i1 hi1
      simp only [mm_up, u3, u1, true_and, and_true, false_and, and_false, and_self, if_true, if_false] <;> (repeat' split) <;> first | exact g0 | rfl | (exfalso; omega) | assumption | (congr 1; omega) | (simp_all; done),
    fun p1 hp1 => by
      have g0 := hI.2.2.2.2.2.2.2.2.2.2.1 p1 hp1
      simp only [mm_up, u3, u1, true_and, and_true, false_and, and_false, and_self, if_true, if_false] <;> (repeat' split) <;> first | exact g0 | rfl | (exfalso; omega) | assumption | (congr 1; omega) | (simp_all; done),
    fun p1 hp1 k1 hk1 => by
      have g0 := hI.2.2.2.2.2.2.2.2.2.2.2.1 p1 hp1 k1 hk1
      simp only [mm_up, u3, u1, true_and, and_true, false_and, and_false, and_self, if_true, if_false] <;> (repeat' split) <;> first | exact g0 | rfl | (exfalso; omega) | assumption | (congr 1; omega) | (simp_all; done),
    fun p1 hp1 k1 hk1 => by
      have g0 := hI.2.2.2.2.2.2.2.2.2.2.2.2.1 p1 hp1 k1 hk1
      simp only [mm_up, u3, u1, true_and, and_true, false_and, and_false, and_self, if_true, if_false] <;> (repeat' split) <;> first | exact g0 | rfl | (exfalso; omega) | assumption | (congr 1; omega) | (simp_all; done),
    fun p1 hp1 k1 hk1 => by
      have g0 := hI.2.2.2.2.2.2.2.2.2.2.2.2.2.1 p1 hp1 k1 hk1
      simp only [mm_up, u3, u1, true_and, and_true, false_and, and_false, and_self, if_true, if_false] <;> (repeat' split) <;> first | exact g0 | rfl | (exfalso; omega) | assumption | (congr 1; omega) | (simp_all; done),
    fun p1 hp1 k1 hk1 => by
      have g0 := hI.2.2.2.2.2.2.2.2.2.2.2.2.2.2.1 p1 hp1 k1 hk1
      simp only [mm_up, u3, u1, true_and, and_true, false_and, and_false, and_self, if_true, if_false] <;> (repeat' split) <;> first | exact g0 | rfl | (exfalso; omega) | assumption | (congr 1; omega) | (simp_all; done),
    fun p1 hp1 => by
      have g0 := hI.2.2.2.2.2.2.2.2.2.2.2.2.2.2.2.1 p1 hp1
      simp only [mm_up, u3, u1, true_and, and_true, false_and, and_false, and_self, if_true, if_false] <;> (repeat' split) <;> first | exact g0 | rfl | (exfalso; omega) | assumption | (congr 1; omega) | (simp_all; done),
    fun p1 hp1 k1 hk1 => by
      have g0 := hI.2.2.2.2.2.2.2.2.2.2.2.2.2.2.2.2.1 p1 hp1 k1 hk1
      simp only [mm_up, u3, u1, true_and, and_true, false_and, and_false, and_self, if_true, if_false] <;> (repeat' split) <;> first | exact g0 | rfl | (exfalso; omega) | assumption | (congr 1; omega) | (simp_all; done),
    fun p1 hp1 k1 hk1 => by
      have g0 := hI.2.2.2.2.2.2.2.2.2.2.2.2.2.2.2.2.2.1 p1 hp1 k1 hk1
      simp only [mm_up, u3, u1, true_and, and_true, false_and, and_false, and_self, if_true, if_false] <;> (repeat' split) <;> first | exact g0 | rfl | (exfalso; omega) | assumption | (congr 1; omega) | (simp_all; done),
    fun p1 hp1 k1 hk1 => by
      have g0 := hI.2.2.2.2.2.2.2.2.2.2.2.2.2.2.2.2.2.2.1 p1 hp1 k1 hk1
      simp only [mm_up, u3, u1, true_and, and_true, false_and, and_false, and_self, if_true, if_false] <;> (repeat' split) <;> first | exact g0 | rfl | (exfalso; omega) | assumption | (congr 1; omega) | (simp_all; done),
    fun p1 hp1 k1 hk1 => by
      have g0 := hI.2.2.2.2.2.2.2.2.2.2.2.2.2.2.2.2.2.2.2.1 p1 hp1 k1 hk1
      simp only [mm_up, u3, u1, true_and, and_true, false_and, and_false, and_self, if_true, if_false] <;> (repeat' split) <;> first | exact g0 | rfl | (exfalso; omega) | assumption | (congr 1; omega) | (simp_all; done),
    fun t1 ht1 k1 hk1 => by
      have g0 := hI.2.2.2.2.2.2.2.2.2.2.2.2.2.2.2.2.2.2.2.2.1 t1 ht1 k1 hk1
      simp only [mm_up, u3, u1, true_and, and_true, false_and, and_false, and_self, if_true, if_false] <;> (repeat' split) <;> first | exact g0 | rfl | (exfalso; omega) | assumption | (congr 1; omega) | (simp_all; done),
    fun t1 ht1 => by
      have g0 := hI.2.2.2.2.2.2.2.2.2.2.2.2.2.2.2.2.2.2.2.2.2.1 t1 ht1
      simp only [mm_up, u3, u1, true_and, and_true, false_and, and_false, and_self, if_true, if_false] <;> (repeat' split) <;> first | exact g0 | rfl | (exfalso; omega) | assumption | (congr 1; omega) | (simp_all; done),
    fun t1 ht1 => by
      have g0 := hI.2.2.2.2.2.2.2.2.2.2.2.2.2.2.2.2.2.2.2.2.2.2.1 t1 ht1
      simp only [mm_up, u3, u1, true_and, and_true, false_and, and_false, and_self, if_true, if_false] <;> (repeat' split) <;> first | exact g0 | rfl | (exfalso; omega) | assumption | (congr 1; omega) | (simp_all; done),
    fun t1 ht1 k1 hk1 => by
      have g0 := hI.2.2.2.2.2.2.2.2.2.2.2.2.2.2.2.2.2.2.2.2.2.2.2.1 t1 ht1 k1 hk1
      simp only [mm_up, u3, u1, true_and, and_true, false_and, and_false, and_self, if_true, if_false] <;> (repeat' split) <;> first | exact g0 | rfl | (exfalso; omega) | assumption | (congr 1; omega) | (simp_all; done),
    fun t1 ht1 k1 hk1 => by
      have g0 := hI.2.2.2.2.2.2.2.2.2.2.2.2.2.2.2.2.2.2.2.2.2.2.2.2.1 t1 ht1 k1 hk1
      simp only [mm_up, u3, u1, true_and, and_true, false_and, and_false, and_self, if_true, if_false] <;> (repeat' split) <;> first | exact g0 | rfl | (exfalso; omega) | assumption | (congr 1; omega) | (simp_all; done),
    fun t1 ht1 => by
      have g0 := hI.2.2.2.2.2.2.2.2.2.2.2.2.2.2.2.2.2.2.2.2.2.2.2.2.2.1 t1 ht1
      simp only [mm_up, u3, u1, true_and, and_true, false_and, and_false, and_self, if_true, if_false] <;> (repeat' split) <;> first | exact g0 | rfl | (exfalso; omega) | assumption | (congr 1; omega) | (simp_all; done),
    fun t1 ht1 => by
      have g0 := hI.2.2.2.2.2.2.2.2.2.2.2.2.2.2.2.2.2.2.2.2.2.2.2.2.2.2.1 t1 ht1
      simp only [mm_up, u3, u1, true_and, and_true, false_and, and_false, and_self, if_true, if_false] <;> (repeat' split) <;> first | exact g0 | rfl | (exfalso; omega) | assumption | (congr 1; omega) | (simp_all; done),
    fun t1 ht1 => by
      have g0 := hI.2.2.2.2.2.2.2.2.2.2.2.2.2.2.2.2.2.2.2.2.2.2.2.2.2.2.2.1 t1 ht1
      simp only [mm_up, u3, u1, true_and, and_true, false_and, and_false, and_self, if_true, if_false] <;> (repeat' split) <;> first | exact g0 | rfl | (exfalso; omega) | assumption | (congr 1; omega) | (simp_all; done),
    fun t1 ht1 => by
      have g0 := hI.2.2.2.2.2.2.2.2.2.2.2.2.2.2.2.2.2.2.2.2.2.2.2.2.2.2.2.2.1 t1 ht1
      simp only [mm_up, u3, u1, true_and, and_true, false_and, and_false, and_self, if_true, if_false] <;> (repeat' split) <;> first | exact g0 | rfl | (exfalso; omega) | assumption | (congr 1; omega) | (simp_all; done),
    fun t1 ht1 => by
      have g0 := hI.2.2.2.2.2.2.2.2.2.2.2.2.2.2.2.2.2.2.2.2.2.2.2.2.2.2.2.2.2.1 t1 ht1
      simp only [mm_up, u3, u1, true_and, and_true, false_and, and_false, and_self, if_true, if_false] <;> (repeat' split) <;> first | exact g0 | rfl | (exfalso; omega) | assumption | (congr 1; omega) | (simp_all; done),
    fun t1 ht1 => by
      have g0 := hI.2.2.2.2.2.2.2.2.2.2.2.2.2.2.2.2.2.2.2.2.2.2.2.2.2.2.2.2.2.2 t1 ht1
      simp only [mm_up, u3, u1, true_and, and_true, false_and, and_false, and_self, if_true, if_false] <;> (repeat' split) <;> first | exact g0 | rfl | (exfalso; omega) | assumption | (congr 1; omega) | (simp_all; done)⟩⟩
theorem CU_fno {ci : Nat → Nat → Nat → Int32} {cn : Nat → Nat → Nat → Nat} {co : Nat → Option Nat} {xj : Nat → Nat → Nat → Int64} {xd : Nat → Nat → Nat → UInt64} {xf : Nat → Nat → Nat → UInt32} {xo : Nat → Nat → Nat → Option Nat} {xi : Nat → Nat → Nat → Int32} {xn : Nat → Nat → Nat → Nat} {I : Nat → Nat → Int32} {J : Nat → Nat → Int64} {F : Nat → Nat → UInt32} {D : Nat → Nat → UInt64} {R : Nat → Nat → Option Nat} {nx sl : Nat} (h : RC ci cn co xj xd xf xo xi xn I J F D R nx sl) {t : Nat} {v : Int32} (ht : t < 3) {z : Int32} (hz : z = v) : RC (u3 ci 5 t 0 v) cn co xj xd xf xo xi xn (mm_up I (32 + 7 * t) 10 z) J F D R nx sl := by
  rw [hz]
  obtain ⟨hJ, hD, hF, hR, hI, hX, hN, hS⟩ := h
  exact ⟨hJ,
   hD,
   hF,
   hR,
   ⟨fun p1 hp1 => by
      have g0 := hI.1 p1 hp1
      simp only [mm_up, u3, u1, true_and, and_true, false_and, and_false, and_self, if_true, if_false] <;> (repeat' split) <;> first | exact g0 | rfl | (exfalso; omega) | assumption | (congr 1; omega) | (simp_all; done),
    fun p1 hp1 => by
      have g0 := hI.2.1 p1 hp1
      simp only [mm_up, u3, u1, true_and, and_true, false_and, and_false, and_self, if_true, if_false] <;> (repeat' split) <;> first | exact g0 | rfl | (exfalso; omega) | assumption | (congr 1; omega) | (simp_all; done),
    fun p1 hp1 => by
      have g0 := hI.2.2.1 p1 hp1
      simp only [mm_up, u3, u1, true_and, and_true, false_and, and_false, and_self, if_true, if_false] <;> (repeat' split) <;> first | exact g0 | rfl | (exfalso; omega) | assumption | (congr 1; omega) | (simp_all; done),
    fun p1 hp1 k1 hk1 => by
      have g0 := hI.2.2.2.1 p1 hp1 k1 hk1
      simp only [mm_up, u3, u1, true_and, and_true, false_and, and_false, and_self, if_true, if_false] <;> (repeat' split) <;> first | exact g0 | rfl | (exfalso; omega) | assumption | (congr 1; omega) | (simp_all; done),
    fun p1 hp1 k1 hk1 => by
      have g0 := hI.2.2.2.2.1 p1 hp1 k1 hk1
      simp only [mm_up, u3, u1, true_and, and_true, false_and, and_false, and_self, if_true, if_false] <;> (repeat' split) <;> first | exact g0 | rfl | (exfalso; omega) | assumption | (congr 1; omega) | (simp_all; done),
    fun p1 hp1 k1 hk1 => by
      have g0 := hI.2.2.2.2.2.1 p1 hp1 k1 hk1
      simp only [mm_up, u3, u1, true_and, and_true, false_and, and_false, and_self, if_true, if_false] <;> (repeat' split) <;> first | exact g0 | rfl | (exfalso; omega) | assumption | (congr 1; omega) | (simp_all; done),
    fun p1 hp1 k1 hk1 => by
      have g0 := hI.2.2.2.2.2.2.1 p1 hp1 k1 hk1
      simp only [mm_up, u3, u1, true_and, and_true, false_and, and_false, and_self, if_true, if_false] <;> (repeat' split) <;> first | exact g0 | rfl | (exfalso; omega) | assumption | (congr 1; omega) | (simp_all; done),
    fun p1 hp1 k1 hk1 => by
      have g0 := hI.2.2.2.2.2.2.2.1 p1 hp1 k1 hk1
      simp only [mm_up, u3, u1, true_and, and_true, false_and, and_false, and_self, if_true, if_false] <;> (repeat' split) <;> first | exact g0 | rfl | (exfalso; omega) | assumption | (congr 1; omega) | (simp_all; done),
    fun p1 hp1 k1 hk1 => by
      have g0 := hI.2.2.2.2.2.2.2.2.1 p1 hp1 k1 hk1
      simp only [mm_up, u3, u1, true_and, and_true, false_and, and_false, and_self, if_true, if_false] <;> (repeat' split) <;> first | exact g0 | rfl | (exfalso; omega) | assumption | (congr 1; omega) | (simp_all; done),
    fun p1 hp1 k1 hk1 => by
      have g0 := hI.2.2.2.2.2.2.2.2.2.1 p1 hp1 k1 hk1
      simp only [mm_up, u3, u1, true_and, and_true, false_and, and_false, and_self, if_true, if_false] <;> (repeat' split) <;> first | exact g0 | rfl | (exfalso; omega) | assumption | (congr 1; omega) | (simp_all; done),
    fun p1 hp1 k1 hk1 => by
      have g0 := hI.2.2.2.2.2.2.2.2.2.2.1 p1 hp1 k1 hk1
      simp only [mm_up, u3, u1, true_and, and_true, false_and, and_false, and_self, if_true, if_false] <;> (repeat' split) <;> first | exact g0 | rfl | (exfalso; omega) | assumption | (congr 1; omega) | (simp_all; done),
    fun t1 ht1 => by
      have g0 := hI.2.2.2.2.2.2.2.2.2.2.2.1 t1 ht1
      simp only [mm_up, u3, u1, true_and, and_true, false_and, and_false, and_self, if_true, if_false] <;> (repeat' split) <;> first | exact g0 | rfl | (exfalso; omega) | assumption | (congr 1; omega) | (simp_all; done),
    fun t1 ht1 => by
      have g0 := hI.2.2.2.2.2.2.2.2.2.2.2.2.1 t1 ht1
      simp only [mm_up, u3, u1, true_and, and_true, false_and, and_false, and_self, if_true, if_false] <;> (repeat' split) <;> first | exact g0 | rfl | (exfalso; omega) | assumption | (congr 1; omega) | (simp_all; done),
    fun t1 ht1 k1 hk1 => by
      have g0 := hI.2.2.2.2.2.2.2.2.2.2.2.2.2.1 t1 ht1 k1 hk1
      simp only [mm_up, u3, u1, true_and, and_true, false_and, and_false, and_self, if_true, if_false] <;> (repeat' split) <;> first | exact g0 | rfl | (exfalso; omega) | assumption | (congr 1; omega) | (simp_all; done),
    fun t1 ht1 => by
      have g0 := hI.2.2.2.2.2.2.2.2.2.2.2.2.2.2.1 t1 ht1
      simp only [mm_up, u3, u1, true_and, and_true, false_and, and_false, and_self, if_true, if_false] <;> (repeat' split) <;> first | exact g0 | rfl | (exfalso; omega) | assumption | (congr 1; omega) | (simp_all; done),
    fun t1 ht1 => by
      have g0 := hI.2.2.2.2.2.2.2.2.2.2.2.2.2.2.2.1 t1 ht1
      simp only [mm_up, u3, u1, true_and, and_true, false_and, and_false, and_self, if_true, if_false] <;> (repeat' split) <;> first | exact g0 | rfl | (exfalso; omega) | assumption | (congr 1; omega) | (simp_all; done),
    fun t1 ht1 => by
      have g0 := hI.2.2.2.2.2.2.2.2.2.2.2.2.2.2.2.2.1 t1 ht1
      simp only [mm_up, u3, u1, true_and, and_true, false_and, and_false, and_self, if_true, if_false] <;> (repeat' split) <;> first | exact g0 | rfl | (exfalso; omega) | assumption | (congr 1; omega) | (simp_all; done),
    fun t1 ht1 => by
      have g0 := hI.2.2.2.2.2.2.2.2.2.2.2.2.2.2.2.2.2.1 t1 ht1
      simp only [mm_up, u3, u1, true_and, and_true, false_and, and_false, and_self, if_true, if_false] <;> (repeat' split) <;> first | exact g0 | rfl | (exfalso; omega) | assumption | (congr 1; omega) | (simp_all; done),
    fun t1 ht1 => by
      have g0 := hI.2.2.2.2.2.2.2.2.2.2.2.2.2.2.2.2.2.2.1 t1 ht1
      simp only [mm_up, u3, u1, true_and, and_true, false_and, and_false, and_self, if_true, if_false] <;> (repeat' split) <;> first | exact g0 | rfl | (exfalso; omega) | assumption | (congr 1; omega) | (simp_all; done),
    fun t1 ht1 => by
      have g0 := hI.2.2.2.2.2.2.2.2.2.2.2.2.2.2.2.2.2.2.2.1 t1 ht1
      simp only [mm_up, u3, u1, true_and, and_true, false_and, and_false, and_self, if_true, if_false] <;> (repeat' split) <;> first | exact g0 | rfl | (exfalso; omega) | assumption | (congr 1; omega) | (simp_all; done),
    by
      have g0 := hI.2.2.2.2.2.2.2.2.2.2.2.2.2.2.2.2.2.2.2.2.1
      simp only [mm_up, u3, u1, true_and, and_true, false_and, and_false, and_self, if_true, if_false] <;> (repeat' split) <;> first | exact g0 | rfl | (exfalso; omega) | assumption | (congr 1; omega) | (simp_all; done),
    by
      have g0 := hI.2.2.2.2.2.2.2.2.2.2.2.2.2.2.2.2.2.2.2.2.2.1
      simp only [mm_up, u3, u1, true_and, and_true, false_and, and_false, and_self, if_true, if_false] <;> (repeat' split) <;> first | exact g0 | rfl | (exfalso; omega) | assumption | (congr 1; omega) | (simp_all; done),
    fun i1 hi1 => by
      have g0 := hI.2.2.2.2.2.2.2.2.2.2.2.2.2.2.2.2.2.2.2.2.2.2.1 i1 hi1
      simp only [mm_up, u3, u1, true_and, and_true, false_and, and_false, and_self, if_true, if_false] <;> (repeat' split) <;> first | exact g0 | rfl | (exfalso; omega) | assumption | (congr 1; omega) | (simp_all; done),
    fun i1 hi1 => by
      have g0 := hI.2.2.2.2.2.2.2.2.2.2.2.2.2.2.2.2.2.2.2.2.2.2.2.1 i1 hi1
      simp only [mm_up, u3, u1, true_and, and_true, false_and, and_false, and_self, if_true, if_false] <;> (repeat' split) <;> first | exact g0 | rfl | (exfalso; omega) | assumption | (congr 1; omega) | (simp_all; done),
    fun i1 hi1 => by
      have g0 := hI.2.2.2.2.2.2.2.2.2.2.2.2.2.2.2.2.2.2.2.2.2.2.2.2.1 i1 hi1
      simp only [mm_up, u3, u1, true_and, and_true, false_and, and_false, and_self, if_true, if_false] <;> (repeat' split) <;> first | exact g0 | rfl | (exfalso; omega) | assumption | (congr 1; omega) | (simp_all; done),
    fun i1 hi1 => by
      have g0 := hI.2.2.2.2.2.2.2.2.2.2.2.2.2.2.2.2.2.2.2.2.2.2.2.2.2.1 i1 hi1
      simp only [mm_up, u3, u1, true_and, and_true, false_and, and_false, and_self, if_true, if_false] <;> (repeat' split) <;> first | exact g0 | rfl | (exfalso; omega) | assumption | (congr 1; omega) | (simp_all; done),
    fun i1 hi1 => by
      have g0 := hI.2.2.2.2.2.2.2.2.2.2.2.2.2.2.2.2.2.2.2.2.2.2.2.2.2.2.1 i1 hi1
      simp only [mm_up, u3, u1, true_and, and_true, false_and, and_false, and_self, if_true, if_false] <;> (repeat' split) <;> first | exact g0 | rfl | (exfalso; omega) | assumption | (congr 1; omega) | (simp_all; done),
    fun i1 hi1 => by
      have g0 := hI.2.2.2.2.2.2.2.2.2.2.2.2.2.2.2.2.2.2.2.2.2.2.2.2.2.2.2.1 i1 hi1
      simp only [mm_up, u3, u1, true_and, and_true, false_and, and_false, and_self, if_true, if_false] <;> (repeat' split) <;> first | exact g0 | rfl | (exfalso; omega) | assumption | (congr 1; omega) | (simp_all; done),
    fun i1 hi1 => by
      have g0 := hI.2.2.2.2.2.2.2.2.2.2.2.2.2.2.2.2.2.2.2.2.2.2.2.2.2.2.2.2.1 i1 hi1
      simp only [mm_up, u3, u1, true_and, and_true, false_and, and_false, and_self, if_true, if_false] <;> (repeat' split) <;> first | exact g0 | rfl | (exfalso; omega) | assumption | (congr 1; omega) | (simp_all; done),
    fun i1 hi1 => by
      have g0 := hI.2.2.2.2.2.2.2.2.2.2.2.2.2.2.2.2.2.2.2.2.2.2.2.2.2.2.2.2.2.1 i1 hi1
      simp only [mm_up, u3, u1, true_and, and_true, false_and, and_false, and_self, if_true, if_false] <;> (repeat' split) <;> first | exact g0 | rfl | (exfalso; omega) | assumption | (congr 1; omega) | (simp_all; done),
    fun i1 hi1 => by
      have g0 := hI.2.2.2.2.2.2.2.2.2.2.2.2.2.2.2.2.2.2.2.2.2.2.2.2.2.2.2.2.2.2 i1 hi1
      simp only [mm_up, u3, u1, true_and, and_true, false_and, and_false, and_self, if_true, if_false] <;> (repeat' split) <;> first | exact g0 | rfl | (exfalso; omega) | assumption | (congr 1; omega) | (simp_all; done)⟩,
   hX,
   hN,
   hS⟩
theorem MU_fno {ci : Nat → Nat → Nat → Int32} {cn : Nat → Nat → Nat → Nat} {co : Nat → Option Nat} {xj : Nat → Nat → Nat → Int64} {xd : Nat → Nat → Nat → UInt64} {xf : Nat → Nat → Nat → UInt32} {xo : Nat → Nat → Nat → Option Nat} {xi : Nat → Nat → Nat → Int32} {xn : Nat → Nat → Nat → Nat} {I : Nat → Nat → Int32} {J : Nat → Nat → Int64} {D : Nat → Nat → UInt64} (h : RM ci cn co xj xd xf xo xi xn I J D) {t : Nat} {v : Int32}  : RM (u3 ci 5 t 0 v) cn co xj xd xf xo xi xn I J D := by
  obtain ⟨hJ, hD, hI⟩ := h
  exact ⟨hJ,
   hD,
   ⟨hI.1,
    hI.2.1,
    hI.2.2.1,
    hI.2.2.2.1,
    hI.2.2.2.2.1,
    hI.2.2.2.2.2.1,
    hI.2.2.2.2.2.2.1,
    hI.2.2.2.2.2.2.2.1,
    hI.2.2.2.2.2.2.2.2.1,
    hI.2.2.2.2.2.2.2.2.2.1,
    hI.2.2.2.2.2.2.2.2.2.2.1,
    hI.2.2.2.2.2.2.2.2.2.2.2.1,
    fun p1 hp1 k1 hk1 => by
      have g0 := hI.2.2.2.2.2.2.2.2.2.2.2.2.1 p1 hp1 k1 hk1
      simp only [mm_up, u3, u1, true_and, and_true, false_and, and_false, and_self, if_true, if_false] <;> (repeat' split) <;> first | exact g0 | rfl | (exfalso; omega) | assumption | (congr 1; omega) | (simp_all; done),
    fun p1 hp1 k1 hk1 => by
      have g0 := hI.2.2.2.2.2.2.2.2.2.2.2.2.2.1 p1 hp1 k1 hk1
      simp only [mm_up, u3, u1, true_and, and_true, false_and, and_false, and_self, if_true, if_false] <;> (repeat' split) <;> first | exact g0 | rfl | (exfalso; omega) | assumption | (congr 1; omega) | (simp_all; done),
    fun p1 hp1 k1 hk1 => by
      have g0 := hI.2.2.2.2.2.2.2.2.2.2.2.2.2.2.1 p1 hp1 k1 hk1
      simp only [mm_up, u3, u1, true_and, and_true, false_and, and_false, and_self, if_true, if_false] <;> (repeat' split) <;> first | exact g0 | rfl | (exfalso; omega) | assumption | (congr 1; omega) | (simp_all; done),
    hI.2.2.2.2.2.2.2.2.2.2.2.2.2.2.2.1,
    hI.2.2.2.2.2.2.2.2.2.2.2.2.2.2.2.2.1,
    hI.2.2.2.2.2.2.2.2.2.2.2.2.2.2.2.2.2.1,
    fun p1 hp1 k1 hk1 => by
      have g0 := hI.2.2.2.2.2.2.2.2.2.2.2.2.2.2.2.2.2.2.1 p1 hp1 k1 hk1
      simp only [mm_up, u3, u1, true_and, and_true, false_and, and_false, and_self, if_true, if_false] <;> (repeat' split) <;> first | exact g0 | rfl | (exfalso; omega) | assumption | (congr 1; omega) | (simp_all; done),
    hI.2.2.2.2.2.2.2.2.2.2.2.2.2.2.2.2.2.2.2.1,
    hI.2.2.2.2.2.2.2.2.2.2.2.2.2.2.2.2.2.2.2.2.1,
    hI.2.2.2.2.2.2.2.2.2.2.2.2.2.2.2.2.2.2.2.2.2.1,
    hI.2.2.2.2.2.2.2.2.2.2.2.2.2.2.2.2.2.2.2.2.2.2.1,
    hI.2.2.2.2.2.2.2.2.2.2.2.2.2.2.2.2.2.2.2.2.2.2.2.1,
    hI.2.2.2.2.2.2.2.2.2.2.2.2.2.2.2.2.2.2.2.2.2.2.2.2.1,
    fun t1 ht1 => by
      have g0 := hI.2.2.2.2.2.2.2.2.2.2.2.2.2.2.2.2.2.2.2.2.2.2.2.2.2.1 t1 ht1
      simp only [mm_up, u3, u1, true_and, and_true, false_and, and_false, and_self, if_true, if_false] <;> (repeat' split) <;> first | exact g0 | rfl | (exfalso; omega) | assumption | (congr 1; omega) | (simp_all; done),
    fun t1 ht1 => by
      have g0 := hI.2.2.2.2.2.2.2.2.2.2.2.2.2.2.2.2.2.2.2.2.2.2.2.2.2.2.1 t1 ht1
      simp only [mm_up, u3, u1, true_and, and_true, false_and, and_false, and_self, if_true, if_false] <;> (repeat' split) <;> first | exact g0 | rfl | (exfalso; omega) | assumption | (congr 1; omega) | (simp_all; done),
    fun t1 ht1 => by
      have g0 := hI.2.2.2.2.2.2.2.2.2.2.2.2.2.2.2.2.2.2.2.2.2.2.2.2.2.2.2.1 t1 ht1
      simp only [mm_up, u3, u1, true_and, and_true, false_and, and_false, and_self, if_true, if_false] <;> (repeat' split) <;> first | exact g0 | rfl | (exfalso; omega) | assumption | (congr 1; omega) | (simp_all; done),
    fun t1 ht1 => by
      have g0 := hI.2.2.2.2.2.2.2.2.2.2.2.2.2.2.2.2.2.2.2.2.2.2.2.2.2.2.2.2.1 t1 ht1
      simp only [mm_up, u3, u1, true_and, and_true, false_and, and_false, and_self, if_true, if_false] <;> (repeat' split) <;> first | exact g0 | rfl | (exfalso; omega) | assumption | (congr 1; omega) | (simp_all; done),
    fun t1 ht1 => by
      have g0 := hI.2.2.2.2.2.2.2.2.2.2.2.2.2.2.2.2.2.2.2.2.2.2.2.2.2.2.2.2.2.1 t1 ht1
      simp only [mm_up, u3, u1, true_and, and_true, false_and, and_false, and_self, if_true, if_false] <;> (repeat' split) <;> first | exact g0 | rfl | (exfalso; omega) | assumption | (congr 1; omega) | (simp_all; done),
    hI.2.2.2.2.2.2.2.2.2.2.2.2.2.2.2.2.2.2.2.2.2.2.2.2.2.2.2.2.2.2⟩⟩
theorem CU_wan {ci : Nat → Nat → Nat → Int32} {cn : Nat → Nat → Nat → Nat} {co : Nat → Option Nat} {xj : Nat → Nat → Nat → Int64} {xd : Nat → Nat → Nat → UInt64} {xf : Nat → Nat → Nat → UInt32} {xo : Nat → Nat → Nat → Option Nat} {xi : Nat → Nat → Nat → Int32} {xn : Nat → Nat → Nat → Nat} {I : Nat → Nat → Int32} {J : Nat → Nat → Int64} {F : Nat → Nat → UInt32} {D : Nat → Nat → UInt64} {R : Nat → Nat → Option Nat} {nx sl : Nat} (h : RC ci cn co xj xd xf xo xi xn I J F D R nx sl) {t : Nat} {v : Option Nat} (ht : t < 3) (hv : ∀ q, v = some q → q < xn 2 0 0) {z : Option Nat} (hz : z = tR v) : RC ci cn (u1 co t v) xj xd xf xo xi xn I J F D (mm_up R (32 + 7 * t) 14 z) nx sl := by
  rw [hz]
  obtain ⟨hJ, hD, hF, hR, hI, hX, hN, hS⟩ := h
  exact ⟨hJ,
   hD,
   hF,
   ⟨fun t1 ht1 k1 hk1 => by
      have g0 := hR.1 t1 ht1 k1 hk1
      simp only [mm_up, u3, u1, true_and, and_true, false_and, and_false, and_self, if_true, if_false] <;> (repeat' split) <;> first | exact g0 | rfl | (exfalso; omega) | assumption | (congr 1; omega) | (simp_all; done),
    fun i1 hi1 k1 hk1 e0 => by
      have g0 := hR.2.1 i1 hi1 k1 hk1 e0
      simp only [mm_up, u3, u1, true_and, and_true, false_and, and_false, and_self, if_true, if_false] <;> (repeat' split) <;> first | exact g0 | rfl | (exfalso; omega) | assumption | (congr 1; omega) | (simp_all; done),
    fun i1 hi1 => by
      have g0 := hR.2.2.1 i1 hi1
      simp only [mm_up, u3, u1, true_and, and_true, false_and, and_false, and_self, if_true, if_false] <;> (repeat' split) <;> first | exact g0 | rfl | (exfalso; omega) | assumption | (congr 1; omega) | (simp_all; done),
    fun i1 hi1 => by
      have g0 := hR.2.2.2.1 i1 hi1
      simp only [mm_up, u3, u1, true_and, and_true, false_and, and_false, and_self, if_true, if_false] <;> (repeat' split) <;> first | exact g0 | rfl | (exfalso; omega) | assumption | (congr 1; omega) | (simp_all; done),
    fun t1 ht1 => by
      have g0 := hR.2.2.2.2.1 t1 ht1
      simp only [mm_up, u3, u1, true_and, and_true, false_and, and_false, and_self, if_true, if_false] <;> (repeat' split) <;> first | exact g0 | rfl | (exfalso; omega) | assumption | (congr 1; omega) | (simp_all; done),
    fun t1 ht1 k1 hk1 => by
      have g0 := hR.2.2.2.2.2.1 t1 ht1 k1 hk1
      simp only [mm_up, u3, u1, true_and, and_true, false_and, and_false, and_self, if_true, if_false] <;> (repeat' split) <;> first | exact g0 | rfl | (exfalso; omega) | assumption | (congr 1; omega) | (simp_all; done),
    fun i1 hi1 => by
      have g0 := hR.2.2.2.2.2.2.1 i1 hi1
      simp only [mm_up, u3, u1, true_and, and_true, false_and, and_false, and_self, if_true, if_false] <;> (repeat' split) <;> first | exact g0 | rfl | (exfalso; omega) | assumption | (congr 1; omega) | (simp_all; done),
    fun i1 hi1 e0 => by
      have g0 := hR.2.2.2.2.2.2.2.1 i1 hi1 e0
      simp only [mm_up, u3, u1, true_and, and_true, false_and, and_false, and_self, if_true, if_false] <;> (repeat' split) <;> first | exact g0 | rfl | (exfalso; omega) | assumption | (congr 1; omega) | (simp_all; done),
    fun p1 hp1 => by
      have g0 := hR.2.2.2.2.2.2.2.2.1 p1 hp1
      simp only [mm_up, u3, u1, true_and, and_true, false_and, and_false, and_self, if_true, if_false] <;> (repeat' split) <;> first | exact g0 | rfl | (exfalso; omega) | assumption | (congr 1; omega) | (simp_all; done),
    fun t1 ht1 => by
      have g0 := hR.2.2.2.2.2.2.2.2.2 t1 ht1
      simp only [mm_up, u3, u1, true_and, and_true, false_and, and_false, and_self, if_true, if_false] <;> (repeat' split) <;> first | exact g0 | rfl | (exfalso; omega) | assumption | (congr 1; omega) | (simp_all; done)⟩,
   hI,
   ⟨hX.1,
    hX.2.1,
    hX.2.2.1,
    hX.2.2.2.1,
    hX.2.2.2.2.1,
    hX.2.2.2.2.2.1,
    hX.2.2.2.2.2.2.1,
    hX.2.2.2.2.2.2.2.1,
    hX.2.2.2.2.2.2.2.2.1,
    hX.2.2.2.2.2.2.2.2.2.1,
    hX.2.2.2.2.2.2.2.2.2.2.1,
    hX.2.2.2.2.2.2.2.2.2.2.2.1,
    fun t1 ht1 => by
      have g0 := hX.2.2.2.2.2.2.2.2.2.2.2.2 t1 ht1
      simp only [mm_up, u3, u1, true_and, and_true, false_and, and_false, and_self, if_true, if_false] <;> (repeat' split) <;> first | exact g0 | rfl | (exfalso; omega) | assumption | (congr 1; omega) | (simp_all; done)⟩,
   hN,
   hS⟩
theorem MU_wan {ci : Nat → Nat → Nat → Int32} {cn : Nat → Nat → Nat → Nat} {co : Nat → Option Nat} {xj : Nat → Nat → Nat → Int64} {xd : Nat → Nat → Nat → UInt64} {xf : Nat → Nat → Nat → UInt32} {xo : Nat → Nat → Nat → Option Nat} {xi : Nat → Nat → Nat → Int32} {xn : Nat → Nat → Nat → Nat} {I : Nat → Nat → Int32} {J : Nat → Nat → Int64} {D : Nat → Nat → UInt64} (h : RM ci cn co xj xd xf xo xi xn I J D) {t : Nat} {v : Option Nat} (ht : t < 3) {j : Nat} {z : Int32} (hj : j = t) (hz : z = eI v) : RM ci cn (u1 co t v) xj xd xf xo xi xn (mm_up I 43 j z) J D := by
  rw [hj, hz]
  obtain ⟨hJ, hD, hI⟩ := h
  exact ⟨hJ,
   hD,
   ⟨by
      have g0 := hI.1
      simp only [mm_up, u3, u1, true_and, and_true, false_and, and_false, and_self, if_true, if_false] <;> (repeat' split) <;> first | exact g0 | rfl | (exfalso; omega) | assumption | (congr 1; omega) | (simp_all; done),
    by
      have g0 := hI.2.1
      simp only [mm_up, u3, u1, true_and, and_true, false_and, and_false, and_self, if_true, if_false] <;> (repeat' split) <;> first | exact g0 | rfl | (exfalso; omega) | assumption | (congr 1; omega) | (simp_all; done),
    fun i1 hi1 => by
      have g0 := hI.2.2.1 i1 hi1
      simp only [mm_up, u3, u1, true_and, and_true, false_and, and_false, and_self, if_true, if_false] <;> (repeat' split) <;> first | exact g0 | rfl | (exfalso; omega) | assumption | (congr 1; omega) | (simp_all; done),
    fun i1 hi1 => by
      have g0 := hI.2.2.2.1 i1 hi1
      simp only [mm_up, u3, u1, true_and, and_true, false_and, and_false, and_self, if_true, if_false] <;> (repeat' split) <;> first | exact g0 | rfl | (exfalso; omega) | assumption | (congr 1; omega) | (simp_all; done),
    fun i1 hi1 => by
      have g0 := hI.2.2.2.2.1 i1 hi1
      simp only [mm_up, u3, u1, true_and, and_true, false_and, and_false, and_self, if_true, if_false] <;> (repeat' split) <;> first | exact g0 | rfl | (exfalso; omega) | assumption | (congr 1; omega) | (simp_all; done),
    fun i1 hi1 => by
      have g0 := hI.2.2.2.2.2.1 i1 hi1
      simp only [mm_up, u3, u1, true_and, and_true, false_and, and_false, and_self, if_true, if_false] <;> (repeat' split) <;> first | exact g0 | rfl | (exfalso; omega) | assumption | (congr 1; omega) | (simp_all; done),
    fun i1 hi1 => by
      have g0 := hI.2.2.2.2.2.2.1 i1 hi1
      simp only [mm_up, u3, u1, true_and, and_true, false_and, and_false, and_self, if_true, if_false] <;> (repeat' split) <;> first | exact g0 | rfl | (exfalso; omega) | assumption | (congr 1; omega) | (simp_all; done),
    fun i1 hi1 k1 hk1 => by
      have g0 := hI.2.2.2.2.2.2.2.1 i1 hi1 k1 hk1
      simp only [mm_up, u3, u1, true_and, and_true, false_and, and_false, and_self, if_true, if_false] <;> (repeat' split) <;> first | exact g0 | rfl | (exfalso; omega) | assumption | (congr 1; omega) | (simp_all; done),
    fun i1 hi1 => by
      have g0 := hI.2.2.2.2.2.2.2.2.1 i1 hi1
      simp only [mm_up, u3, u1, true_and, and_true, false_and, and_false, and_self, if_true, if_false] <;> (repeat' split) <;> first | exact g0 | rfl | (exfalso; omega) | assumption | (congr 1; omega) | (simp_all; done),
    fun i1 hi1 => by
      have g0 := hI.2.2.2.2.2.2.2.2.2.1 i1 hi1
      simp only [mm_up, u3, u1, true_and, and_true, false_and, and_false, and_self, if_true, if_false] <;> (repeat' split) <;> first | exact g0 | rfl | (exfalso; omega) | assumption | (congr 1; omega) | (simp_all; done),
    fun p1 hp1 => by
      have g0 := hI.2.2.2.2.2.2.2.2.2.2.1 p1 hp1
      simp only [mm_up, u3, u1, true_and, and_true, false_and, and_false, and_self, if_true, if_false] <;> (repeat' split) <;> first | exact g0 | rfl | (exfalso; omega) | assumption | (congr 1; omega) | (simp_all; done),
    fun p1 hp1 k1 hk1 => by
      have g0 := hI.2.2.2.2.2.2.2.2.2.2.2.1 p1 hp1 k1 hk1
      simp only [mm_up, u3, u1, true_and, and_true, false_and, and_false, and_self, if_true, if_false] <;> (repeat' split) <;> first | exact g0 | rfl | (exfalso; omega) | assumption | (congr 1; omega) | (simp_all; done),
    fun p1 hp1 k1 hk1 => by
      have g0 := hI.2.2.2.2.2.2.2.2.2.2.2.2.1 p1 hp1 k1 hk1
      simp only [mm_up, u3, u1, true_and, and_true, false_and, and_false, and_self, if_true, if_false] <;> (repeat' split) <;> first | exact g0 | rfl | (exfalso; omega) | assumption | (congr 1; omega) | (simp_all; done),
    fun p1 hp1 k1 hk1 => by
      have g0 := hI.2.2.2.2.2.2.2.2.2.2.2.2.2.1 p1 hp1 k1 hk1
      simp only [mm_up, u3, u1, true_and, and_true, false_and, and_false, and_self, if_true, if_false] <;> (repeat' split) <;> first | exact g0 | rfl | (exfalso; omega) | assumption | (congr 1; omega) | (simp_all; done),
    fun p1 hp1 k1 hk1 => by
      have g0 := hI.2.2.2.2.2.2.2.2.2.2.2.2.2.2.1 p1 hp1 k1 hk1
      simp only [mm_up, u3, u1, true_and, and_true, false_and, and_false, and_self, if_true, if_false] <;> (repeat' split) <;> first | exact g0 | rfl | (exfalso; omega) | assumption | (congr 1; omega) | (simp_all; done),
    fun p1 hp1 => by
      have g0 := hI.2.2.2.2.2.2.2.2.2.2.2.2.2.2.2.1 p1 hp1
      simp only [mm_up, u3, u1, true_and, and_true, false_and, and_false, and_self, if_true, if_false] <;> (repeat' split) <;> first | exact g0 | rfl | (exfalso; omega) | assumption | (congr 1; omega) | (simp_all; done),
    fun p1 hp1 k1 hk1 => by
      have g0 := hI.2.2.2.2.2.2.2.2.2.2.2.2.2.2.2.2.1 p1 hp1 k1 hk1
      simp only [mm_up, u3, u1, true_and, and_true, false_and, and_false, and_self, if_true, if_false] <;> (repeat' split) <;> first | exact g0 | rfl | (exfalso; omega) | assumption | (congr 1; omega) | (simp_all; done),
    fun p1 hp1 k1 hk1 => by
      have g0 := hI.2.2.2.2.2.2.2.2.2.2.2.2.2.2.2.2.2.1 p1 hp1 k1 hk1
      simp only [mm_up, u3, u1, true_and, and_true, false_and, and_false, and_self, if_true, if_false] <;> (repeat' split) <;> first | exact g0 | rfl | (exfalso; omega) | assumption | (congr 1; omega) | (simp_all; done),
    fun p1 hp1 k1 hk1 => by
      have g0 := hI.2.2.2.2.2.2.2.2.2.2.2.2.2.2.2.2.2.2.1 p1 hp1 k1 hk1
      simp only [mm_up, u3, u1, true_and, and_true, false_and, and_false, and_self, if_true, if_false] <;> (repeat' split) <;> first | exact g0 | rfl | (exfalso; omega) | assumption | (congr 1; omega) | (simp_all; done),
    fun p1 hp1 k1 hk1 => by
      have g0 := hI.2.2.2.2.2.2.2.2.2.2.2.2.2.2.2.2.2.2.2.1 p1 hp1 k1 hk1
      simp only [mm_up, u3, u1, true_and, and_true, false_and, and_false, and_self, if_true, if_false] <;> (repeat' split) <;> first | exact g0 | rfl | (exfalso; omega) | assumption | (congr 1; omega) | (simp_all; done),
    fun t1 ht1 k1 hk1 => by
      have g0 := hI.2.2.2.2.2.2.2.2.2.2.2.2.2.2.2.2.2.2.2.2.1 t1 ht1 k1 hk1
      simp only [mm_up, u3, u1, true_and, and_true, false_and, and_false, and_self, if_true, if_false] <;> (repeat' split) <;> first | exact g0 | rfl | (exfalso; omega) | assumption | (congr 1; omega) | (simp_all; done),
    fun t1 ht1 => by
      have g0 := hI.2.2.2.2.2.2.2.2.2.2.2.2.2.2.2.2.2.2.2.2.2.1 t1 ht1
      simp only [mm_up, u3, u1, true_and, and_true, false_and, and_false, and_self, if_true, if_false] <;> (repeat' split) <;> first | exact g0 | rfl | (exfalso; omega) | assumption | (congr 1; omega) | (simp_all; done),
    fun t1 ht1 => by
      have g0 := hI.2.2.2.2.2.2.2.2.2.2.2.2.2.2.2.2.2.2.2.2.2.2.1 t1 ht1
      simp only [mm_up, u3, u1, true_and, and_true, false_and, and_false, and_self, if_true, if_false] <;> (repeat' split) <;> first | exact g0 | rfl | (exfalso; omega) | assumption | (congr 1; omega) | (simp_all; done),
    fun t1 ht1 k1 hk1 => by
      have g0 := hI.2.2.2.2.2.2.2.2.2.2.2.2.2.2.2.2.2.2.2.2.2.2.2.1 t1 ht1 k1 hk1
      simp only [mm_up, u3, u1, true_and, and_true, false_and, and_false, and_self, if_true, if_false] <;> (repeat' split) <;> first | exact g0 | rfl | (exfalso; omega) | assumption | (congr 1; omega) | (simp_all; done),
    fun t1 ht1 k1 hk1 => by
      have g0 := hI.2.2.2.2.2.2.2.2.2.2.2.2.2.2.2.2.2.2.2.2.2.2.2.2.1 t1 ht1 k1 hk1
      simp only [mm_up, u3, u1, true_and, and_true, false_and, and_false, and_self, if_true, if_false] <;> (repeat' split) <;> first | exact g0 | rfl | (exfalso; omega) | assumption | (congr 1; omega) | (simp_all; done),
    fun t1 ht1 => by
      have g0 := hI.2.2.2.2.2.2.2.2.2.2.2.2.2.2.2.2.2.2.2.2.2.2.2.2.2.1 t1 ht1
      simp only [mm_up, u3, u1, true_and, and_true, false_and, and_false, and_self, if_true, if_false] <;> (repeat' split) <;> first | exact g0 | rfl | (exfalso; omega) | assumption | (congr 1; omega) | (simp_all; done),
    fun t1 ht1 => by
      have g0 := hI.2.2.2.2.2.2.2.2.2.2.2.2.2.2.2.2.2.2.2.2.2.2.2.2.2.2.1 t1 ht1
      simp only [mm_up, u3, u1, true_and, and_true, false_and, and_false, and_self, if_true, if_false] <;> (repeat' split) <;> first | exact g0 | rfl | (exfalso; omega) | assumption | (congr 1; omega) | (simp_all; done),
    fun t1 ht1 => by
      have g0 := hI.2.2.2.2.2.2.2.2.2.2.2.2.2.2.2.2.2.2.2.2.2.2.2.2.2.2.2.1 t1 ht1
      simp only [mm_up, u3, u1, true_and, and_true, false_and, and_false, and_self, if_true, if_false] <;> (repeat' split) <;> first | exact g0 | rfl | (exfalso; omega) | assumption | (congr 1; omega) | (simp_all; done),
    fun t1 ht1 => by
      have g0 := hI.2.2.2.2.2.2.2.2.2.2.2.2.2.2.2.2.2.2.2.2.2.2.2.2.2.2.2.2.1 t1 ht1
      simp only [mm_up, u3, u1, true_and, and_true, false_and, and_false, and_self, if_true, if_false] <;> (repeat' split) <;> first | exact g0 | rfl | (exfalso; omega) | assumption | (congr 1; omega) | (simp_all; done),
    fun t1 ht1 => by
      have g0 := hI.2.2.2.2.2.2.2.2.2.2.2.2.2.2.2.2.2.2.2.2.2.2.2.2.2.2.2.2.2.1 t1 ht1
      simp only [mm_up, u3, u1, true_and, and_true, false_and, and_false, and_self, if_true, if_false] <;> (repeat' split) <;> first | exact g0 | rfl | (exfalso; omega) | assumption | (congr 1; omega) | (simp_all; done),
    fun t1 ht1 => by
      have g0 := hI.2.2.2.2.2.2.2.2.2.2.2.2.2.2.2.2.2.2.2.2.2.2.2.2.2.2.2.2.2.2 t1 ht1
      simp only [mm_up, u3, u1, true_and, and_true, false_and, and_false, and_self, if_true, if_false] <;> (repeat' split) <;> first | exact g0 | rfl | (exfalso; omega) | assumption | (congr 1; omega) | (simp_all; done)⟩⟩
theorem CU_dep {ci : Nat → Nat → Nat → Int32} {cn : Nat → Nat → Nat → Nat} {co : Nat → Option Nat} {xj : Nat → Nat → Nat → Int64} {xd : Nat → Nat → Nat → UInt64} {xf : Nat → Nat → Nat → UInt32} {xo : Nat → Nat → Nat → Option Nat} {xi : Nat → Nat → Nat → Int32} {xn : Nat → Nat → Nat → Nat} {I : Nat → Nat → Int32} {J : Nat → Nat → Int64} {F : Nat → Nat → UInt32} {D : Nat → Nat → UInt64} {R : Nat → Nat → Option Nat} {nx sl : Nat} (h : RC ci cn co xj xd xf xo xi xn I J F D R nx sl) {t d : Nat} (ht : t < 3) (hd : d ≤ cn 0 t 0) {z : Int32} (hz : z = nI d) : RC ci (u3 cn 0 t 0 d) co xj xd xf xo xi xn (mm_up I (32 + 7 * t) 7 z) J F D R nx sl := by
  rw [hz]
  obtain ⟨hJ, hD, hF, hR, hI, hX, hN, hS⟩ := h
  exact ⟨hJ,
   hD,
   hF,
   ⟨hR.1,
    hR.2.1,
    hR.2.2.1,
    hR.2.2.2.1,
    hR.2.2.2.2.1,
    fun t1 ht1 k1 hk1 => by
      by_cases q9 : t1 = t
      · subst q9
        have hk2 : k1 < d := by simpa [u3] using hk1
        have hk3 : k1 < cn 0 t1 0 := (by omega)
        have g0 := hR.2.2.2.2.2.1 t1 ht1 k1 hk3
        simp only [mm_up, u3, u1, true_and, and_true, false_and, and_false, and_self, if_true, if_false] <;> (repeat' split) <;> first | exact g0 | rfl | (exfalso; omega) | assumption | (congr 1; omega) | (simp_all; done)
      · have hk2 : k1 < cn 0 t1 0 := by simpa [u3, q9] using hk1
        have g0 := hR.2.2.2.2.2.1 t1 ht1 k1 hk2
        simp only [mm_up, u3, u1, true_and, and_true, false_and, and_false, and_self, if_true, if_false] <;> (repeat' split) <;> first | exact g0 | rfl | (exfalso; omega) | assumption | (congr 1; omega) | (simp_all; done),
    hR.2.2.2.2.2.2.1,
    hR.2.2.2.2.2.2.2.1,
    hR.2.2.2.2.2.2.2.2.1,
    hR.2.2.2.2.2.2.2.2.2⟩,
   ⟨fun p1 hp1 => by
      have g0 := hI.1 p1 hp1
      simp only [mm_up, u3, u1, true_and, and_true, false_and, and_false, and_self, if_true, if_false] <;> (repeat' split) <;> first | exact g0 | rfl | (exfalso; omega) | assumption | (congr 1; omega) | (simp_all; done),
    fun p1 hp1 => by
      have g0 := hI.2.1 p1 hp1
      simp only [mm_up, u3, u1, true_and, and_true, false_and, and_false, and_self, if_true, if_false] <;> (repeat' split) <;> first | exact g0 | rfl | (exfalso; omega) | assumption | (congr 1; omega) | (simp_all; done),
    fun p1 hp1 => by
      have g0 := hI.2.2.1 p1 hp1
      simp only [mm_up, u3, u1, true_and, and_true, false_and, and_false, and_self, if_true, if_false] <;> (repeat' split) <;> first | exact g0 | rfl | (exfalso; omega) | assumption | (congr 1; omega) | (simp_all; done),
    fun p1 hp1 k1 hk1 => by
      have g0 := hI.2.2.2.1 p1 hp1 k1 hk1
      simp only [mm_up, u3, u1, true_and, and_true, false_and, and_false, and_self, if_true, if_false] <;> (repeat' split) <;> first | exact g0 | rfl | (exfalso; omega) | assumption | (congr 1; omega) | (simp_all; done),
    fun p1 hp1 k1 hk1 => by
      have g0 := hI.2.2.2.2.1 p1 hp1 k1 hk1
      simp only [mm_up, u3, u1, true_and, and_true, false_and, and_false, and_self, if_true, if_false] <;> (repeat' split) <;> first | exact g0 | rfl | (exfalso; omega) | assumption | (congr 1; omega) | (simp_all; done),
    fun p1 hp1 k1 hk1 => by
      have g0 := hI.2.2.2.2.2.1 p1 hp1 k1 hk1
      simp only [mm_up, u3, u1, true_and, and_true, false_and, and_false, and_self, if_true, if_false] <;> (repeat' split) <;> first | exact g0 | rfl | (exfalso; omega) | assumption | (congr 1; omega) | (simp_all; done),
    fun p1 hp1 k1 hk1 => by
      have g0 := hI.2.2.2.2.2.2.1 p1 hp1 k1 hk1
      simp only [mm_up, u3, u1, true_and, and_true, false_and, and_false, and_self, if_true, if_false] <;> (repeat' split) <;> first | exact g0 | rfl | (exfalso; omega) | assumption | (congr 1; omega) | (simp_all; done),
    fun p1 hp1 k1 hk1 => by
      have g0 := hI.2.2.2.2.2.2.2.1 p1 hp1 k1 hk1
      simp only [mm_up, u3, u1, true_and, and_true, false_and, and_false, and_self, if_true, if_false] <;> (repeat' split) <;> first | exact g0 | rfl | (exfalso; omega) | assumption | (congr 1; omega) | (simp_all; done),
    fun p1 hp1 k1 hk1 => by
      have g0 := hI.2.2.2.2.2.2.2.2.1 p1 hp1 k1 hk1
      simp only [mm_up, u3, u1, true_and, and_true, false_and, and_false, and_self, if_true, if_false] <;> (repeat' split) <;> first | exact g0 | rfl | (exfalso; omega) | assumption | (congr 1; omega) | (simp_all; done),
    fun p1 hp1 k1 hk1 => by
      have g0 := hI.2.2.2.2.2.2.2.2.2.1 p1 hp1 k1 hk1
      simp only [mm_up, u3, u1, true_and, and_true, false_and, and_false, and_self, if_true, if_false] <;> (repeat' split) <;> first | exact g0 | rfl | (exfalso; omega) | assumption | (congr 1; omega) | (simp_all; done),
    fun p1 hp1 k1 hk1 => by
      have g0 := hI.2.2.2.2.2.2.2.2.2.2.1 p1 hp1 k1 hk1
      simp only [mm_up, u3, u1, true_and, and_true, false_and, and_false, and_self, if_true, if_false] <;> (repeat' split) <;> first | exact g0 | rfl | (exfalso; omega) | assumption | (congr 1; omega) | (simp_all; done),
    fun t1 ht1 => by
      have g0 := hI.2.2.2.2.2.2.2.2.2.2.2.1 t1 ht1
      simp only [mm_up, u3, u1, true_and, and_true, false_and, and_false, and_self, if_true, if_false] <;> (repeat' split) <;> first | exact g0 | rfl | (exfalso; omega) | assumption | (congr 1; omega) | (simp_all; done),
    fun t1 ht1 => by
      have g0 := hI.2.2.2.2.2.2.2.2.2.2.2.2.1 t1 ht1
      simp only [mm_up, u3, u1, true_and, and_true, false_and, and_false, and_self, if_true, if_false] <;> (repeat' split) <;> first | exact g0 | rfl | (exfalso; omega) | assumption | (congr 1; omega) | (simp_all; done),
    fun t1 ht1 k1 hk1 => by
      by_cases q9 : t1 = t
      · subst q9
        have hk2 : k1 < d := by simpa [u3] using hk1
        have hk3 : k1 < cn 0 t1 0 := (by omega)
        have g0 := hI.2.2.2.2.2.2.2.2.2.2.2.2.2.1 t1 ht1 k1 hk3
        simp only [mm_up, u3, u1, true_and, and_true, false_and, and_false, and_self, if_true, if_false] <;> (repeat' split) <;> first | exact g0 | rfl | (exfalso; omega) | assumption | (congr 1; omega) | (simp_all; done)
      · have hk2 : k1 < cn 0 t1 0 := by simpa [u3, q9] using hk1
        have g0 := hI.2.2.2.2.2.2.2.2.2.2.2.2.2.1 t1 ht1 k1 hk2
        simp only [mm_up, u3, u1, true_and, and_true, false_and, and_false, and_self, if_true, if_false] <;> (repeat' split) <;> first | exact g0 | rfl | (exfalso; omega) | assumption | (congr 1; omega) | (simp_all; done),
    fun t1 ht1 => by
      have g0 := hI.2.2.2.2.2.2.2.2.2.2.2.2.2.2.1 t1 ht1
      simp only [mm_up, u3, u1, true_and, and_true, false_and, and_false, and_self, if_true, if_false] <;> (repeat' split) <;> first | exact g0 | rfl | (exfalso; omega) | assumption | (congr 1; omega) | (simp_all; done),
    fun t1 ht1 => by
      have g0 := hI.2.2.2.2.2.2.2.2.2.2.2.2.2.2.2.1 t1 ht1
      simp only [mm_up, u3, u1, true_and, and_true, false_and, and_false, and_self, if_true, if_false] <;> (repeat' split) <;> first | exact g0 | rfl | (exfalso; omega) | assumption | (congr 1; omega) | (simp_all; done),
    fun t1 ht1 => by
      have g0 := hI.2.2.2.2.2.2.2.2.2.2.2.2.2.2.2.2.1 t1 ht1
      simp only [mm_up, u3, u1, true_and, and_true, false_and, and_false, and_self, if_true, if_false] <;> (repeat' split) <;> first | exact g0 | rfl | (exfalso; omega) | assumption | (congr 1; omega) | (simp_all; done),
    fun t1 ht1 => by
      have g0 := hI.2.2.2.2.2.2.2.2.2.2.2.2.2.2.2.2.2.1 t1 ht1
      simp only [mm_up, u3, u1, true_and, and_true, false_and, and_false, and_self, if_true, if_false] <;> (repeat' split) <;> first | exact g0 | rfl | (exfalso; omega) | assumption | (congr 1; omega) | (simp_all; done),
    fun t1 ht1 => by
      have g0 := hI.2.2.2.2.2.2.2.2.2.2.2.2.2.2.2.2.2.2.1 t1 ht1
      simp only [mm_up, u3, u1, true_and, and_true, false_and, and_false, and_self, if_true, if_false] <;> (repeat' split) <;> first | exact g0 | rfl | (exfalso; omega) | assumption | (congr 1; omega) | (simp_all; done),
    fun t1 ht1 => by
      have g0 := hI.2.2.2.2.2.2.2.2.2.2.2.2.2.2.2.2.2.2.2.1 t1 ht1
      simp only [mm_up, u3, u1, true_and, and_true, false_and, and_false, and_self, if_true, if_false] <;> (repeat' split) <;> first | exact g0 | rfl | (exfalso; omega) | assumption | (congr 1; omega) | (simp_all; done),
    by
      have g0 := hI.2.2.2.2.2.2.2.2.2.2.2.2.2.2.2.2.2.2.2.2.1
      simp only [mm_up, u3, u1, true_and, and_true, false_and, and_false, and_self, if_true, if_false] <;> (repeat' split) <;> first | exact g0 | rfl | (exfalso; omega) | assumption | (congr 1; omega) | (simp_all; done),
    by
      have g0 := hI.2.2.2.2.2.2.2.2.2.2.2.2.2.2.2.2.2.2.2.2.2.1
      simp only [mm_up, u3, u1, true_and, and_true, false_and, and_false, and_self, if_true, if_false] <;> (repeat' split) <;> first | exact g0 | rfl | (exfalso; omega) | assumption | (congr 1; omega) | (simp_all; done),
    fun i1 hi1 => by
      have g0 := hI.2.2.2.2.2.2.2.2.2.2.2.2.2.2.2.2.2.2.2.2.2.2.1 i1 hi1
      simp only [mm_up, u3, u1, true_and, and_true, false_and, and_false, and_self, if_true, if_false] <;> (repeat' split) <;> first | exact g0 | rfl | (exfalso; omega) | assumption | (congr 1; omega) | (simp_all; done),
    fun i1 hi1 => by
      have g0 := hI.2.2.2.2.2.2.2.2.2.2.2.2.2.2.2.2.2.2.2.2.2.2.2.1 i1 hi1
      simp only [mm_up, u3, u1, true_and, and_true, false_and, and_false, and_self, if_true, if_false] <;> (repeat' split) <;> first | exact g0 | rfl | (exfalso; omega) | assumption | (congr 1; omega) | (simp_all; done),
    fun i1 hi1 => by
      have g0 := hI.2.2.2.2.2.2.2.2.2.2.2.2.2.2.2.2.2.2.2.2.2.2.2.2.1 i1 hi1
      simp only [mm_up, u3, u1, true_and, and_true, false_and, and_false, and_self, if_true, if_false] <;> (repeat' split) <;> first | exact g0 | rfl | (exfalso; omega) | assumption | (congr 1; omega) | (simp_all; done),
    fun i1 hi1 => by
      have g0 := hI.2.2.2.2.2.2.2.2.2.2.2.2.2.2.2.2.2.2.2.2.2.2.2.2.2.1 i1 hi1
      simp only [mm_up, u3, u1, true_and, and_true, false_and, and_false, and_self, if_true, if_false] <;> (repeat' split) <;> first | exact g0 | rfl | (exfalso; omega) | assumption | (congr 1; omega) | (simp_all; done),
    fun i1 hi1 => by
      have g0 := hI.2.2.2.2.2.2.2.2.2.2.2.2.2.2.2.2.2.2.2.2.2.2.2.2.2.2.1 i1 hi1
      simp only [mm_up, u3, u1, true_and, and_true, false_and, and_false, and_self, if_true, if_false] <;> (repeat' split) <;> first | exact g0 | rfl | (exfalso; omega) | assumption | (congr 1; omega) | (simp_all; done),
    fun i1 hi1 => by
      have g0 := hI.2.2.2.2.2.2.2.2.2.2.2.2.2.2.2.2.2.2.2.2.2.2.2.2.2.2.2.1 i1 hi1
      simp only [mm_up, u3, u1, true_and, and_true, false_and, and_false, and_self, if_true, if_false] <;> (repeat' split) <;> first | exact g0 | rfl | (exfalso; omega) | assumption | (congr 1; omega) | (simp_all; done),
    fun i1 hi1 => by
      have g0 := hI.2.2.2.2.2.2.2.2.2.2.2.2.2.2.2.2.2.2.2.2.2.2.2.2.2.2.2.2.1 i1 hi1
      simp only [mm_up, u3, u1, true_and, and_true, false_and, and_false, and_self, if_true, if_false] <;> (repeat' split) <;> first | exact g0 | rfl | (exfalso; omega) | assumption | (congr 1; omega) | (simp_all; done),
    fun i1 hi1 => by
      have g0 := hI.2.2.2.2.2.2.2.2.2.2.2.2.2.2.2.2.2.2.2.2.2.2.2.2.2.2.2.2.2.1 i1 hi1
      simp only [mm_up, u3, u1, true_and, and_true, false_and, and_false, and_self, if_true, if_false] <;> (repeat' split) <;> first | exact g0 | rfl | (exfalso; omega) | assumption | (congr 1; omega) | (simp_all; done),
    fun i1 hi1 => by
      have g0 := hI.2.2.2.2.2.2.2.2.2.2.2.2.2.2.2.2.2.2.2.2.2.2.2.2.2.2.2.2.2.2 i1 hi1
      simp only [mm_up, u3, u1, true_and, and_true, false_and, and_false, and_self, if_true, if_false] <;> (repeat' split) <;> first | exact g0 | rfl | (exfalso; omega) | assumption | (congr 1; omega) | (simp_all; done)⟩,
   hX,
   hN,
   hS⟩
theorem MU_dep {ci : Nat → Nat → Nat → Int32} {cn : Nat → Nat → Nat → Nat} {co : Nat → Option Nat} {xj : Nat → Nat → Nat → Int64} {xd : Nat → Nat → Nat → UInt64} {xf : Nat → Nat → Nat → UInt32} {xo : Nat → Nat → Nat → Option Nat} {xi : Nat → Nat → Nat → Int32} {xn : Nat → Nat → Nat → Nat} {I : Nat → Nat → Int32} {J : Nat → Nat → Int64} {D : Nat → Nat → UInt64} (h : RM ci cn co xj xd xf xo xi xn I J D) {t d : Nat} (ht : t < 3) (hd : d ≤ cn 0 t 0) (h0 : 0 < d) {j : Nat} {z : Int32} (hj : j = t) (hz : z = nI d) : RM ci (u3 cn 0 t 0 d) co xj xd xf xo xi xn (mm_up I 35 j z) J D := by
  have y1 : decide (0 < d) = true := decide_eq_true h0
  have y2 : decide (0 < cn 0 t 0) = true := decide_eq_true (by omega)
  rw [hj, hz]
  obtain ⟨hJ, hD, hI⟩ := h
  exact ⟨hJ,
   hD,
   ⟨by
      have g0 := hI.1
      simp only [mm_up, u3, u1, true_and, and_true, false_and, and_false, and_self, if_true, if_false] <;> (repeat' split) <;> first | exact g0 | rfl | (exfalso; omega) | assumption | (congr 1; omega) | (simp_all; done),
    by
      have g0 := hI.2.1
      simp only [mm_up, u3, u1, true_and, and_true, false_and, and_false, and_self, if_true, if_false] <;> (repeat' split) <;> first | exact g0 | rfl | (exfalso; omega) | assumption | (congr 1; omega) | (simp_all; done),
    fun i1 hi1 => by
      have g0 := hI.2.2.1 i1 hi1
      simp only [mm_up, u3, u1, true_and, and_true, false_and, and_false, and_self, if_true, if_false] <;> (repeat' split) <;> first | exact g0 | rfl | (exfalso; omega) | assumption | (congr 1; omega) | (simp_all; done),
    fun i1 hi1 => by
      have g0 := hI.2.2.2.1 i1 hi1
      simp only [mm_up, u3, u1, true_and, and_true, false_and, and_false, and_self, if_true, if_false] <;> (repeat' split) <;> first | exact g0 | rfl | (exfalso; omega) | assumption | (congr 1; omega) | (simp_all; done),
    fun i1 hi1 => by
      have g0 := hI.2.2.2.2.1 i1 hi1
      simp only [mm_up, u3, u1, true_and, and_true, false_and, and_false, and_self, if_true, if_false] <;> (repeat' split) <;> first | exact g0 | rfl | (exfalso; omega) | assumption | (congr 1; omega) | (simp_all; done),
    fun i1 hi1 => by
      have g0 := hI.2.2.2.2.2.1 i1 hi1
      simp only [mm_up, u3, u1, true_and, and_true, false_and, and_false, and_self, if_true, if_false] <;> (repeat' split) <;> first | exact g0 | rfl | (exfalso; omega) | assumption | (congr 1; omega) | (simp_all; done),
    fun i1 hi1 => by
      have g0 := hI.2.2.2.2.2.2.1 i1 hi1
      simp only [mm_up, u3, u1, true_and, and_true, false_and, and_false, and_self, if_true, if_false] <;> (repeat' split) <;> first | exact g0 | rfl | (exfalso; omega) | assumption | (congr 1; omega) | (simp_all; done),
    fun i1 hi1 k1 hk1 => by
      have g0 := hI.2.2.2.2.2.2.2.1 i1 hi1 k1 hk1
      simp only [mm_up, u3, u1, true_and, and_true, false_and, and_false, and_self, if_true, if_false] <;> (repeat' split) <;> first | exact g0 | rfl | (exfalso; omega) | assumption | (congr 1; omega) | (simp_all; done),
    fun i1 hi1 => by
      have g0 := hI.2.2.2.2.2.2.2.2.1 i1 hi1
      simp only [mm_up, u3, u1, true_and, and_true, false_and, and_false, and_self, if_true, if_false] <;> (repeat' split) <;> first | exact g0 | rfl | (exfalso; omega) | assumption | (congr 1; omega) | (simp_all; done),
    fun i1 hi1 => by
      have g0 := hI.2.2.2.2.2.2.2.2.2.1 i1 hi1
      simp only [mm_up, u3, u1, true_and, and_true, false_and, and_false, and_self, if_true, if_false] <;> (repeat' split) <;> first | exact g0 | rfl | (exfalso; omega) | assumption | (congr 1; omega) | (simp_all; done),
    fun p1 hp1 => by
      have g0 := hI.2.2.2.2.2.2.2.2.2.2.1 p1 hp1
      simp only [mm_up, u3, u1, true_and, and_true, false_and, and_false, and_self, if_true, if_false] <;> (repeat' split) <;> first | exact g0 | rfl | (exfalso; omega) | assumption | (congr 1; omega) | (simp_all; done),
    fun p1 hp1 k1 hk1 => by
      have g0 := hI.2.2.2.2.2.2.2.2.2.2.2.1 p1 hp1 k1 hk1
      simp only [mm_up, u3, u1, true_and, and_true, false_and, and_false, and_self, if_true, if_false] <;> (repeat' split) <;> first | exact g0 | rfl | (exfalso; omega) | assumption | (congr 1; omega) | (simp_all; done),
    fun p1 hp1 k1 hk1 => by
      have g0 := hI.2.2.2.2.2.2.2.2.2.2.2.2.1 p1 hp1 k1 hk1
      simp only [mm_up, u3, u1, true_and, and_true, false_and, and_false, and_self, if_true, if_false] <;> (repeat' split) <;> first | exact g0 | rfl | (exfalso; omega) | assumption | (congr 1; omega) | (simp_all; done),
    fun p1 hp1 k1 hk1 => by
      have g0 := hI.2.2.2.2.2.2.2.2.2.2.2.2.2.1 p1 hp1 k1 hk1
      simp only [mm_up, u3, u1, true_and, and_true, false_and, and_false, and_self, if_true, if_false] <;> (repeat' split) <;> first | exact g0 | rfl | (exfalso; omega) | assumption | (congr 1; omega) | (simp_all; done),
    fun p1 hp1 k1 hk1 => by
      have g0 := hI.2.2.2.2.2.2.2.2.2.2.2.2.2.2.1 p1 hp1 k1 hk1
      simp only [mm_up, u3, u1, true_and, and_true, false_and, and_false, and_self, if_true, if_false] <;> (repeat' split) <;> first | exact g0 | rfl | (exfalso; omega) | assumption | (congr 1; omega) | (simp_all; done),
    fun p1 hp1 => by
      have g0 := hI.2.2.2.2.2.2.2.2.2.2.2.2.2.2.2.1 p1 hp1
      simp only [mm_up, u3, u1, true_and, and_true, false_and, and_false, and_self, if_true, if_false] <;> (repeat' split) <;> first | exact g0 | rfl | (exfalso; omega) | assumption | (congr 1; omega) | (simp_all; done),
    fun p1 hp1 k1 hk1 => by
      have g0 := hI.2.2.2.2.2.2.2.2.2.2.2.2.2.2.2.2.1 p1 hp1 k1 hk1
      simp only [mm_up, u3, u1, true_and, and_true, false_and, and_false, and_self, if_true, if_false] <;> (repeat' split) <;> first | exact g0 | rfl | (exfalso; omega) | assumption | (congr 1; omega) | (simp_all; done),
    fun p1 hp1 k1 hk1 => by
      have g0 := hI.2.2.2.2.2.2.2.2.2.2.2.2.2.2.2.2.2.1 p1 hp1 k1 hk1
      simp only [mm_up, u3, u1, true_and, and_true, false_and, and_false, and_self, if_true, if_false] <;> (repeat' split) <;> first | exact g0 | rfl | (exfalso; omega) | assumption | (congr 1; omega) | (simp_all; done),
    fun p1 hp1 k1 hk1 => by
      have g0 := hI.2.2.2.2.2.2.2.2.2.2.2.2.2.2.2.2.2.2.1 p1 hp1 k1 hk1
      simp only [mm_up, u3, u1, true_and, and_true, false_and, and_false, and_self, if_true, if_false] <;> (repeat' split) <;> first | exact g0 | rfl | (exfalso; omega) | assumption | (congr 1; omega) | (simp_all; done),
    fun p1 hp1 k1 hk1 => by
      have g0 := hI.2.2.2.2.2.2.2.2.2.2.2.2.2.2.2.2.2.2.2.1 p1 hp1 k1 hk1
      simp only [mm_up, u3, u1, true_and, and_true, false_and, and_false, and_self, if_true, if_false] <;> (repeat' split) <;> first | exact g0 | rfl | (exfalso; omega) | assumption | (congr 1; omega) | (simp_all; done),
    fun t1 ht1 k1 hk1 => by
      have g0 := hI.2.2.2.2.2.2.2.2.2.2.2.2.2.2.2.2.2.2.2.2.1 t1 ht1 k1 hk1
      simp only [mm_up, u3, u1, true_and, and_true, false_and, and_false, and_self, if_true, if_false] <;> (repeat' split) <;> first | exact g0 | rfl | (exfalso; omega) | assumption | (congr 1; omega) | (simp_all; done),
    fun t1 ht1 => by
      have g0 := hI.2.2.2.2.2.2.2.2.2.2.2.2.2.2.2.2.2.2.2.2.2.1 t1 ht1
      simp only [mm_up, u3, u1, true_and, and_true, false_and, and_false, and_self, if_true, if_false] <;> (repeat' split) <;> first | exact g0 | rfl | (exfalso; omega) | assumption | (congr 1; omega) | (simp_all; done),
    fun t1 ht1 => by
      have g0 := hI.2.2.2.2.2.2.2.2.2.2.2.2.2.2.2.2.2.2.2.2.2.2.1 t1 ht1
      simp only [mm_up, u3, u1, true_and, and_true, false_and, and_false, and_self, if_true, if_false] <;> (repeat' split) <;> first | exact g0 | rfl | (exfalso; omega) | assumption | (congr 1; omega) | (simp_all; done),
    fun t1 ht1 k1 hk1 => by
      by_cases q9 : t1 = t
      · subst q9
        have hk2 : k1 < d := by simpa [u3] using hk1
        have hk3 : k1 < cn 0 t1 0 := (by omega)
        have g0 := hI.2.2.2.2.2.2.2.2.2.2.2.2.2.2.2.2.2.2.2.2.2.2.2.1 t1 ht1 k1 hk3
        simp only [mm_up, u3, u1, true_and, and_true, false_and, and_false, and_self, if_true, if_false] <;> (repeat' split) <;> first | exact g0 | rfl | (exfalso; omega) | assumption | (congr 1; omega) | (simp_all; done)
      · have hk2 : k1 < cn 0 t1 0 := by simpa [u3, q9] using hk1
        have g0 := hI.2.2.2.2.2.2.2.2.2.2.2.2.2.2.2.2.2.2.2.2.2.2.2.1 t1 ht1 k1 hk2
        simp only [mm_up, u3, u1, true_and, and_true, false_and, and_false, and_self, if_true, if_false] <;> (repeat' split) <;> first | exact g0 | rfl | (exfalso; omega) | assumption | (congr 1; omega) | (simp_all; done),
    fun t1 ht1 k1 hk1 => by
      by_cases q9 : t1 = t
      · subst q9
        have hk2 : k1 < d := by simpa [u3] using hk1
        have hk3 : k1 < cn 0 t1 0 := (by omega)
        have g0 := hI.2.2.2.2.2.2.2.2.2.2.2.2.2.2.2.2.2.2.2.2.2.2.2.2.1 t1 ht1 k1 hk3
        simp only [mm_up, u3, u1, true_and, and_true, false_and, and_false, and_self, if_true, if_false] <;> (repeat' split) <;> first | exact g0 | rfl | (exfalso; omega) | assumption | (congr 1; omega) | (simp_all; done)
      · have hk2 : k1 < cn 0 t1 0 := by simpa [u3, q9] using hk1
        have g0 := hI.2.2.2.2.2.2.2.2.2.2.2.2.2.2.2.2.2.2.2.2.2.2.2.2.1 t1 ht1 k1 hk2
        simp only [mm_up, u3, u1, true_and, and_true, false_and, and_false, and_self, if_true, if_false] <;> (repeat' split) <;> first | exact g0 | rfl | (exfalso; omega) | assumption | (congr 1; omega) | (simp_all; done),
    fun t1 ht1 => by
      have g0 := hI.2.2.2.2.2.2.2.2.2.2.2.2.2.2.2.2.2.2.2.2.2.2.2.2.2.1 t1 ht1
      simp only [mm_up, u3, u1, true_and, and_true, false_and, and_false, and_self, if_true, if_false] <;> (repeat' split) <;> first | exact g0 | rfl | (exfalso; omega) | assumption | (congr 1; omega) | (simp_all; done),
    fun t1 ht1 => by
      have g0 := hI.2.2.2.2.2.2.2.2.2.2.2.2.2.2.2.2.2.2.2.2.2.2.2.2.2.2.1 t1 ht1
      simp only [mm_up, u3, u1, true_and, and_true, false_and, and_false, and_self, if_true, if_false] <;> (repeat' split) <;> first | exact g0 | rfl | (exfalso; omega) | assumption | (congr 1; omega) | (simp_all; done),
    fun t1 ht1 => by
      have g0 := hI.2.2.2.2.2.2.2.2.2.2.2.2.2.2.2.2.2.2.2.2.2.2.2.2.2.2.2.1 t1 ht1
      simp only [mm_up, u3, u1, true_and, and_true, false_and, and_false, and_self, if_true, if_false] <;> (repeat' split) <;> first | exact g0 | rfl | (exfalso; omega) | assumption | (congr 1; omega) | (simp_all; done),
    fun t1 ht1 => by
      have g0 := hI.2.2.2.2.2.2.2.2.2.2.2.2.2.2.2.2.2.2.2.2.2.2.2.2.2.2.2.2.1 t1 ht1
      simp only [mm_up, u3, u1, true_and, and_true, false_and, and_false, and_self, if_true, if_false] <;> (repeat' split) <;> first | exact g0 | rfl | (exfalso; omega) | assumption | (congr 1; omega) | (simp_all; done),
    fun t1 ht1 => by
      have g0 := hI.2.2.2.2.2.2.2.2.2.2.2.2.2.2.2.2.2.2.2.2.2.2.2.2.2.2.2.2.2.1 t1 ht1
      simp only [mm_up, u3, u1, true_and, and_true, false_and, and_false, and_self, if_true, if_false] <;> (repeat' split) <;> first | exact g0 | rfl | (exfalso; omega) | assumption | (congr 1; omega) | (simp_all; done),
    fun t1 ht1 => by
      have g0 := hI.2.2.2.2.2.2.2.2.2.2.2.2.2.2.2.2.2.2.2.2.2.2.2.2.2.2.2.2.2.2 t1 ht1
      simp only [mm_up, u3, u1, true_and, and_true, false_and, and_false, and_self, if_true, if_false] <;> (repeat' split) <;> first | exact g0 | rfl | (exfalso; omega) | assumption | (congr 1; omega) | (simp_all; done)⟩⟩
theorem MU_dp0 {ci : Nat → Nat → Nat → Int32} {cn : Nat → Nat → Nat → Nat} {co : Nat → Option Nat} {xj : Nat → Nat → Nat → Int64} {xd : Nat → Nat → Nat → UInt64} {xf : Nat → Nat → Nat → UInt32} {xo : Nat → Nat → Nat → Option Nat} {xi : Nat → Nat → Nat → Int32} {xn : Nat → Nat → Nat → Nat} {I : Nat → Nat → Int32} {J : Nat → Nat → Int64} {D : Nat → Nat → UInt64} (h : RM ci cn co xj xd xf xo xi xn I J D) {t : Nat} (ht : t < 3) : RM ci (u3 cn 0 t 0 0) co xj xd xf xo xi xn (mm_up (mm_up I 34 t (nI 0)) 35 t (nI 0)) J D := by
  have y1 : zb (decide (0 < 0)) = nI 0 := rfl
  obtain ⟨hJ, hD, hI⟩ := h
  exact ⟨hJ,
   hD,
   ⟨by
      have g0 := hI.1
      simp only [mm_up, u3, u1, true_and, and_true, false_and, and_false, and_self, if_true, if_false] <;> (repeat' split) <;> first | exact g0 | rfl | (exfalso; omega) | assumption | (congr 1; omega) | (simp_all; done),
    by
      have g0 := hI.2.1
      simp only [mm_up, u3, u1, true_and, and_true, false_and, and_false, and_self, if_true, if_false] <;> (repeat' split) <;> first | exact g0 | rfl | (exfalso; omega) | assumption | (congr 1; omega) | (simp_all; done),
    fun i1 hi1 => by
      have g0 := hI.2.2.1 i1 hi1
      simp only [mm_up, u3, u1, true_and, and_true, false_and, and_false, and_self, if_true, if_false] <;> (repeat' split) <;> first | exact g0 | rfl | (exfalso; omega) | assumption | (congr 1; omega) | (simp_all; done),
    fun i1 hi1 => by
      have g0 := hI.2.2.2.1 i1 hi1
      simp only [mm_up, u3, u1, true_and, and_true, false_and, and_false, and_self, if_true, if_false] <;> (repeat' split) <;> first | exact g0 | rfl | (exfalso; omega) | assumption | (congr 1; omega) | (simp_all; done),
    fun i1 hi1 => by
      have g0 := hI.2.2.2.2.1 i1 hi1
      simp only [mm_up, u3, u1, true_and, and_true, false_and, and_false, and_self, if_true, if_false] <;> (repeat' split) <;> first | exact g0 | rfl | (exfalso; omega) | assumption | (congr 1; omega) | (simp_all; done),
    fun i1 hi1 => by
      have g0 := hI.2.2.2.2.2.1 i1 hi1
      simp only [mm_up, u3, u1, true_and, and_true, false_and, and_false, and_self, if_true, if_false] <;> (repeat' split) <;> first | exact g0 | rfl | (exfalso; omega) | assumption | (congr 1; omega) | (simp_all; done),
    fun i1 hi1 => by
      have g0 := hI.2.2.2.2.2.2.1 i1 hi1
      simp only [mm_up, u3, u1, true_and, and_true, false_and, and_false, and_self, if_true, if_false] <;> (repeat' split) <;> first | exact g0 | rfl | (exfalso; omega) | assumption | (congr 1; omega) | (simp_all; done),
    fun i1 hi1 k1 hk1 => by
      have g0 := hI.2.2.2.2.2.2.2.1 i1 hi1 k1 hk1
      simp only [mm_up, u3, u1, true_and, and_true, false_and, and_false, and_self, if_true, if_false] <;> (repeat' split) <;> first | exact g0 | rfl | (exfalso; omega) | assumption | (congr 1; omega) | (simp_all; done),
    fun i1 hi1 => by
      have g0 := hI.2.2.2.2.2.2.2.2.1 i1 hi1
      simp only [mm_up, u3, u1, true_and, and_true, false_and, and_false, and_self, if_true, if_false] <;> (repeat' split) <;> first | exact g0 | rfl | (exfalso; omega) | assumption | (congr 1; omega) | (simp_all; done),
    fun i1 hi1 => by
      have g0 := hI.2.2.2.2.2.2.2.2.2.1 i1 hi1
      simp only [mm_up, u3, u1, true_and, and_true, false_and, and_false, and_self, if_true, if_false] <;> (repeat' split) <;> first | exact g0 | rfl | (exfalso; omega) | assumption | (congr 1; omega) | (simp_all; done),
    fun p1 hp1 => by
      have g0 := hI.2.2.2.2.2.2.2.2.2.2.1 p1 hp1
      simp only [mm_up, u3, u1, true_and, and_true, false_and, and_false, and_self, if_true, if_false] <;> (repeat' split) <;> first | exact g0 | rfl | (exfalso; omega) | assumption | (congr 1; omega) | (simp_all; done),
    fun p1 hp1 k1 hk1 => by
      have g0 := hI.2.2.2.2.2.2.2.2.2.2.2.1 p1 hp1 k1 hk1
      simp only [mm_up, u3, u1, true_and, and_true, false_and, and_false, and_self, if_true, if_false] <;> (repeat' split) <;> first | exact g0 | rfl | (exfalso; omega) | assumption | (congr 1; omega) | (simp_all; done),
    fun p1 hp1 k1 hk1 => by
      have g0 := hI.2.2.2.2.2.2.2.2.2.2.2.2.1 p1 hp1 k1 hk1
      simp only [mm_up, u3, u1, true_and, and_true, false_and, and_false, and_self, if_true, if_false] <;> (repeat' split) <;> first | exact g0 | rfl | (exfalso; omega) | assumption | (congr 1; omega) | (simp_all; done),
    fun p1 hp1 k1 hk1 => by
      have g0 := hI.2.2.2.2.2.2.2.2.2.2.2.2.2.1 p1 hp1 k1 hk1
      simp only [mm_up, u3, u1, true_and, and_true, false_and, and_false, and_self, if_true, if_false] <;> (repeat' split) <;> first | exact g0 | rfl | (exfalso; omega) | assumption | (congr 1; omega) | (simp_all; done),
    fun p1 hp1 k1 hk1 => by
      have g0 := hI.2.2.2.2.2.2.2.2.2.2.2.2.2.2.1 p1 hp1 k1 hk1
      simp only [mm_up, u3, u1, true_and, and_true, false_and, and_false, and_self, if_true, if_false] <;> (repeat' split) <;> first | exact g0 | rfl | (exfalso; omega) | assumption | (congr 1; omega) | (simp_all; done),
    fun p1 hp1 => by
      have g0 := hI.2.2.2.2.2.2.2.2.2.2.2.2.2.2.2.1 p1 hp1
      simp only [mm_up, u3, u1, true_and, and_true, false_and, and_false, and_self, if_true, if_false] <;> (repeat' split) <;> first | exact g0 | rfl | (exfalso; omega) | assumption | (congr 1; omega) | (simp_all; done),
    fun p1 hp1 k1 hk1 => by
      have g0 := hI.2.2.2.2.2.2.2.2.2.2.2.2.2.2.2.2.1 p1 hp1 k1 hk1
      simp only [mm_up, u3, u1, true_and, and_true, false_and, and_false, and_self, if_true, if_false] <;> (repeat' split) <;> first | exact g0 | rfl | (exfalso; omega) | assumption | (congr 1; omega) | (simp_all; done),
    fun p1 hp1 k1 hk1 => by
      have g0 := hI.2.2.2.2.2.2.2.2.2.2.2.2.2.2.2.2.2.1 p1 hp1 k1 hk1
      simp only [mm_up, u3, u1, true_and, and_true, false_and, and_false, and_self, if_true, if_false] <;> (repeat' split) <;> first | exact g0 | rfl | (exfalso; omega) | assumption | (congr 1; omega) | (simp_all; done),
    fun p1 hp1 k1 hk1 => by
      have g0 := hI.2.2.2.2.2.2.2.2.2.2.2.2.2.2.2.2.2.2.1 p1 hp1 k1 hk1
      simp only [mm_up, u3, u1, true_and, and_true, false_and, and_false, and_self, if_true, if_false] <;> (repeat' split) <;> first | exact g0 | rfl | (exfalso; omega) | assumption | (congr 1; omega) | (simp_all; done),
    fun p1 hp1 k1 hk1 => by
      have g0 := hI.2.2.2.2.2.2.2.2.2.2.2.2.2.2.2.2.2.2.2.1 p1 hp1 k1 hk1
      simp only [mm_up, u3, u1, true_and, and_true, false_and, and_false, and_self, if_true, if_false] <;> (repeat' split) <;> first | exact g0 | rfl | (exfalso; omega) | assumption | (congr 1; omega) | (simp_all; done),
    fun t1 ht1 k1 hk1 => by
      have g0 := hI.2.2.2.2.2.2.2.2.2.2.2.2.2.2.2.2.2.2.2.2.1 t1 ht1 k1 hk1
      simp only [mm_up, u3, u1, true_and, and_true, false_and, and_false, and_self, if_true, if_false] <;> (repeat' split) <;> first | exact g0 | rfl | (exfalso; omega) | assumption | (congr 1; omega) | (simp_all; done),
    fun t1 ht1 => by
      have g0 := hI.2.2.2.2.2.2.2.2.2.2.2.2.2.2.2.2.2.2.2.2.2.1 t1 ht1
      simp only [mm_up, u3, u1, true_and, and_true, false_and, and_false, and_self, if_true, if_false] <;> (repeat' split) <;> first | exact g0 | rfl | (exfalso; omega) | assumption | (congr 1; omega) | (simp_all; done),
    fun t1 ht1 => by
      have g0 := hI.2.2.2.2.2.2.2.2.2.2.2.2.2.2.2.2.2.2.2.2.2.2.1 t1 ht1
      simp only [mm_up, u3, u1, true_and, and_true, false_and, and_false, and_self, if_true, if_false] <;> (repeat' split) <;> first | exact g0 | rfl | (exfalso; omega) | assumption | (congr 1; omega) | (simp_all; done),
    fun t1 ht1 k1 hk1 => by
      by_cases q9 : t1 = t
      · subst q9
        have hk2 : k1 < 0 := by simpa [u3] using hk1
        have hk3 : k1 < cn 0 t1 0 := (by omega)
        have g0 := hI.2.2.2.2.2.2.2.2.2.2.2.2.2.2.2.2.2.2.2.2.2.2.2.1 t1 ht1 k1 hk3
        simp only [mm_up, u3, u1, true_and, and_true, false_and, and_false, and_self, if_true, if_false] <;> (repeat' split) <;> first | exact g0 | rfl | (exfalso; omega) | assumption | (congr 1; omega) | (simp_all; done)
      · have hk2 : k1 < cn 0 t1 0 := by simpa [u3, q9] using hk1
        have g0 := hI.2.2.2.2.2.2.2.2.2.2.2.2.2.2.2.2.2.2.2.2.2.2.2.1 t1 ht1 k1 hk2
        simp only [mm_up, u3, u1, true_and, and_true, false_and, and_false, and_self, if_true, if_false] <;> (repeat' split) <;> first | exact g0 | rfl | (exfalso; omega) | assumption | (congr 1; omega) | (simp_all; done),
    fun t1 ht1 k1 hk1 => by
      by_cases q9 : t1 = t
      · subst q9
        have hk2 : k1 < 0 := by simpa [u3] using hk1
        have hk3 : k1 < cn 0 t1 0 := (by omega)
        have g0 := hI.2.2.2.2.2.2.2.2.2.2.2.2.2.2.2.2.2.2.2.2.2.2.2.2.1 t1 ht1 k1 hk3
        simp only [mm_up, u3, u1, true_and, and_true, false_and, and_false, and_self, if_true, if_false] <;> (repeat' split) <;> first | exact g0 | rfl | (exfalso; omega) | assumption | (congr 1; omega) | (simp_all; done)
      · have hk2 : k1 < cn 0 t1 0 := by simpa [u3, q9] using hk1
        have g0 := hI.2.2.2.2.2.2.2.2.2.2.2.2.2.2.2.2.2.2.2.2.2.2.2.2.1 t1 ht1 k1 hk2
        simp only [mm_up, u3, u1, true_and, and_true, false_and, and_false, and_self, if_true, if_false] <;> (repeat' split) <;> first | exact g0 | rfl | (exfalso; omega) | assumption | (congr 1; omega) | (simp_all; done),
    fun t1 ht1 => by
      have g0 := hI.2.2.2.2.2.2.2.2.2.2.2.2.2.2.2.2.2.2.2.2.2.2.2.2.2.1 t1 ht1
      simp only [mm_up, u3, u1, true_and, and_true, false_and, and_false, and_self, if_true, if_false] <;> (repeat' split) <;> first | exact g0 | rfl | (exfalso; omega) | assumption | (congr 1; omega) | (simp_all; done),
    fun t1 ht1 => by
      have g0 := hI.2.2.2.2.2.2.2.2.2.2.2.2.2.2.2.2.2.2.2.2.2.2.2.2.2.2.1 t1 ht1
      simp only [mm_up, u3, u1, true_and, and_true, false_and, and_false, and_self, if_true, if_false] <;> (repeat' split) <;> first | exact g0 | rfl | (exfalso; omega) | assumption | (congr 1; omega) | (simp_all; done),
    fun t1 ht1 => by
      have g0 := hI.2.2.2.2.2.2.2.2.2.2.2.2.2.2.2.2.2.2.2.2.2.2.2.2.2.2.2.1 t1 ht1
      simp only [mm_up, u3, u1, true_and, and_true, false_and, and_false, and_self, if_true, if_false] <;> (repeat' split) <;> first | exact g0 | rfl | (exfalso; omega) | assumption | (congr 1; omega) | (simp_all; done),
    fun t1 ht1 => by
      have g0 := hI.2.2.2.2.2.2.2.2.2.2.2.2.2.2.2.2.2.2.2.2.2.2.2.2.2.2.2.2.1 t1 ht1
      simp only [mm_up, u3, u1, true_and, and_true, false_and, and_false, and_self, if_true, if_false] <;> (repeat' split) <;> first | exact g0 | rfl | (exfalso; omega) | assumption | (congr 1; omega) | (simp_all; done),
    fun t1 ht1 => by
      have g0 := hI.2.2.2.2.2.2.2.2.2.2.2.2.2.2.2.2.2.2.2.2.2.2.2.2.2.2.2.2.2.1 t1 ht1
      simp only [mm_up, u3, u1, true_and, and_true, false_and, and_false, and_self, if_true, if_false] <;> (repeat' split) <;> first | exact g0 | rfl | (exfalso; omega) | assumption | (congr 1; omega) | (simp_all; done),
    fun t1 ht1 => by
      have g0 := hI.2.2.2.2.2.2.2.2.2.2.2.2.2.2.2.2.2.2.2.2.2.2.2.2.2.2.2.2.2.2 t1 ht1
      simp only [mm_up, u3, u1, true_and, and_true, false_and, and_false, and_self, if_true, if_false] <;> (repeat' split) <;> first | exact g0 | rfl | (exfalso; omega) | assumption | (congr 1; omega) | (simp_all; done)⟩⟩
theorem CU_psh {ci : Nat → Nat → Nat → Int32} {cn : Nat → Nat → Nat → Nat} {co : Nat → Option Nat} {xj : Nat → Nat → Nat → Int64} {xd : Nat → Nat → Nat → UInt64} {xf : Nat → Nat → Nat → UInt32} {xo : Nat → Nat → Nat → Option Nat} {xi : Nat → Nat → Nat → Int32} {xn : Nat → Nat → Nat → Nat} {I : Nat → Nat → Int32} {J : Nat → Nat → Int64} {F : Nat → Nat → UInt32} {D : Nat → Nat → UInt64} {R : Nat → Nat → Option Nat} {nx sl : Nat} (h : RC ci cn co xj xd xf xo xi xn I J F D R nx sl) {t d p : Nat} (ht : t < 3) (hd : cn 0 t 0 = d) (hd8 : d < 8) : RC ci (u3 (u3 (u3 cn 1 t d p) 2 t d 0) 0 t 0 (d + 1)) co xj xd xf xo xi xn (mm_up (mm_up I (32 + 7 * t + 6) d (nI 0)) (32 + 7 * t) 7 (nI (d + 1))) J F D (mm_up R (32 + 7 * t + 5) d (some (14 + 3 * p))) nx sl := by
  obtain ⟨hJ, hD, hF, hR, hI, hX, hN, hS⟩ := h
  exact ⟨hJ,
   hD,
   hF,
   ⟨fun t1 ht1 k1 hk1 => by
      have g0 := hR.1 t1 ht1 k1 hk1
      simp only [mm_up, u3, u1, true_and, and_true, false_and, and_false, and_self, if_true, if_false] <;> (repeat' split) <;> first | exact g0 | rfl | (exfalso; omega) | assumption | (congr 1; omega) | (simp_all; done),
    fun i1 hi1 k1 hk1 e0 => by
      have g0 := hR.2.1 i1 hi1 k1 hk1 e0
      simp only [mm_up, u3, u1, true_and, and_true, false_and, and_false, and_self, if_true, if_false] <;> (repeat' split) <;> first | exact g0 | rfl | (exfalso; omega) | assumption | (congr 1; omega) | (simp_all; done),
    fun i1 hi1 => by
      have g0 := hR.2.2.1 i1 hi1
      simp only [mm_up, u3, u1, true_and, and_true, false_and, and_false, and_self, if_true, if_false] <;> (repeat' split) <;> first | exact g0 | rfl | (exfalso; omega) | assumption | (congr 1; omega) | (simp_all; done),
    fun i1 hi1 => by
      have g0 := hR.2.2.2.1 i1 hi1
      simp only [mm_up, u3, u1, true_and, and_true, false_and, and_false, and_self, if_true, if_false] <;> (repeat' split) <;> first | exact g0 | rfl | (exfalso; omega) | assumption | (congr 1; omega) | (simp_all; done),
    fun t1 ht1 => by
      have g0 := hR.2.2.2.2.1 t1 ht1
      simp only [mm_up, u3, u1, true_and, and_true, false_and, and_false, and_self, if_true, if_false] <;> (repeat' split) <;> first | exact g0 | rfl | (exfalso; omega) | assumption | (congr 1; omega) | (simp_all; done),
    fun t1 ht1 k1 hk1 => by
      by_cases q9 : t1 = t
      · subst q9
        have hk2 : k1 < d + 1 := by simpa [u3] using hk1
        by_cases q8 : k1 = d
        · subst q8; have g0 := trivial
          simp only [mm_up, u3, u1, true_and, and_true, false_and, and_false, and_self, if_true, if_false] <;> (repeat' split) <;> first | exact g0 | rfl | (exfalso; omega) | assumption | (congr 1; omega) | (simp_all; done)
        · have hk3 : k1 < cn 0 t1 0 := (by omega)
          have g0 := hR.2.2.2.2.2.1 t1 ht1 k1 hk3
          simp only [mm_up, u3, u1, true_and, and_true, false_and, and_false, and_self, if_true, if_false] <;> (repeat' split) <;> first | exact g0 | rfl | (exfalso; omega) | assumption | (congr 1; omega) | (simp_all; done)
      · have hk2 : k1 < cn 0 t1 0 := by simpa [u3, q9] using hk1
        have g0 := hR.2.2.2.2.2.1 t1 ht1 k1 hk2
        simp only [mm_up, u3, u1, true_and, and_true, false_and, and_false, and_self, if_true, if_false] <;> (repeat' split) <;> first | exact g0 | rfl | (exfalso; omega) | assumption | (congr 1; omega) | (simp_all; done),
    fun i1 hi1 => by
      have g0 := hR.2.2.2.2.2.2.1 i1 hi1
      simp only [mm_up, u3, u1, true_and, and_true, false_and, and_false, and_self, if_true, if_false] <;> (repeat' split) <;> first | exact g0 | rfl | (exfalso; omega) | assumption | (congr 1; omega) | (simp_all; done),
    fun i1 hi1 e0 => by
      have g0 := hR.2.2.2.2.2.2.2.1 i1 hi1 e0
      simp only [mm_up, u3, u1, true_and, and_true, false_and, and_false, and_self, if_true, if_false] <;> (repeat' split) <;> first | exact g0 | rfl | (exfalso; omega) | assumption | (congr 1; omega) | (simp_all; done),
    fun p1 hp1 => by
      have g0 := hR.2.2.2.2.2.2.2.2.1 p1 hp1
      simp only [mm_up, u3, u1, true_and, and_true, false_and, and_false, and_self, if_true, if_false] <;> (repeat' split) <;> first | exact g0 | rfl | (exfalso; omega) | assumption | (congr 1; omega) | (simp_all; done),
    fun t1 ht1 => by
      have g0 := hR.2.2.2.2.2.2.2.2.2 t1 ht1
      simp only [mm_up, u3, u1, true_and, and_true, false_and, and_false, and_self, if_true, if_false] <;> (repeat' split) <;> first | exact g0 | rfl | (exfalso; omega) | assumption | (congr 1; omega) | (simp_all; done)⟩,
   ⟨fun p1 hp1 => by
      have g0 := hI.1 p1 hp1
      simp only [mm_up, u3, u1, true_and, and_true, false_and, and_false, and_self, if_true, if_false] <;> (repeat' split) <;> first | exact g0 | rfl | (exfalso; omega) | assumption | (congr 1; omega) | (simp_all; done),
    fun p1 hp1 => by
      have g0 := hI.2.1 p1 hp1
      simp only [mm_up, u3, u1, true_and, and_true, false_and, and_false, and_self, if_true, if_false] <;> (repeat' split) <;> first | exact g0 | rfl | (exfalso; omega) | assumption | (congr 1; omega) | (simp_all; done),
    fun p1 hp1 => by
      have g0 := hI.2.2.1 p1 hp1
      simp only [mm_up, u3, u1, true_and, and_true, false_and, and_false, and_self, if_true, if_false] <;> (repeat' split) <;> first | exact g0 | rfl | (exfalso; omega) | assumption | (congr 1; omega) | (simp_all; done),
    fun p1 hp1 k1 hk1 => by
      have g0 := hI.2.2.2.1 p1 hp1 k1 hk1
      simp only [mm_up, u3, u1, true_and, and_true, false_and, and_false, and_self, if_true, if_false] <;> (repeat' split) <;> first | exact g0 | rfl | (exfalso; omega) | assumption | (congr 1; omega) | (simp_all; done),
    fun p1 hp1 k1 hk1 => by
      have g0 := hI.2.2.2.2.1 p1 hp1 k1 hk1
      simp only [mm_up, u3, u1, true_and, and_true, false_and, and_false, and_self, if_true, if_false] <;> (repeat' split) <;> first | exact g0 | rfl | (exfalso; omega) | assumption | (congr 1; omega) | (simp_all; done),
    fun p1 hp1 k1 hk1 => by
      have g0 := hI.2.2.2.2.2.1 p1 hp1 k1 hk1
      simp only [mm_up, u3, u1, true_and, and_true, false_and, and_false, and_self, if_true, if_false] <;> (repeat' split) <;> first | exact g0 | rfl | (exfalso; omega) | assumption | (congr 1; omega) | (simp_all; done),
    fun p1 hp1 k1 hk1 => by
      have g0 := hI.2.2.2.2.2.2.1 p1 hp1 k1 hk1
      simp only [mm_up, u3, u1, true_and, and_true, false_and, and_false, and_self, if_true, if_false] <;> (repeat' split) <;> first | exact g0 | rfl | (exfalso; omega) | assumption | (congr 1; omega) | (simp_all; done),
    fun p1 hp1 k1 hk1 => by
      have g0 := hI.2.2.2.2.2.2.2.1 p1 hp1 k1 hk1
      simp only [mm_up, u3, u1, true_and, and_true, false_and, and_false, and_self, if_true, if_false] <;> (repeat' split) <;> first | exact g0 | rfl | (exfalso; omega) | assumption | (congr 1; omega) | (simp_all; done),
    fun p1 hp1 k1 hk1 => by
      have g0 := hI.2.2.2.2.2.2.2.2.1 p1 hp1 k1 hk1
      simp only [mm_up, u3, u1, true_and, and_true, false_and, and_false, and_self, if_true, if_false] <;> (repeat' split) <;> first | exact g0 | rfl | (exfalso; omega) | assumption | (congr 1; omega) | (simp_all; done),
    fun p1 hp1 k1 hk1 => by
      have g0 := hI.2.2.2.2.2.2.2.2.2.1 p1 hp1 k1 hk1
      simp only [mm_up, u3, u1, true_and, and_true, false_and, and_false, and_self, if_true, if_false] <;> (repeat' split) <;> first | exact g0 | rfl | (exfalso; omega) | assumption | (congr 1; omega) | (simp_all; done),
    fun p1 hp1 k1 hk1 => by
      have g0 := hI.2.2.2.2.2.2.2.2.2.2.1 p1 hp1 k1 hk1
      simp only [mm_up, u3, u1, true_and, and_true, false_and, and_false, and_self, if_true, if_false] <;> (repeat' split) <;> first | exact g0 | rfl | (exfalso; omega) | assumption | (congr 1; omega) | (simp_all; done),
    fun t1 ht1 => by
      have g0 := hI.2.2.2.2.2.2.2.2.2.2.2.1 t1 ht1
      simp only [mm_up, u3, u1, true_and, and_true, false_and, and_false, and_self, if_true, if_false] <;> (repeat' split) <;> first | exact g0 | rfl | (exfalso; omega) | assumption | (congr 1; omega) | (simp_all; done),
    fun t1 ht1 => by
      have g0 := hI.2.2.2.2.2.2.2.2.2.2.2.2.1 t1 ht1
      simp only [mm_up, u3, u1, true_and, and_true, false_and, and_false, and_self, if_true, if_false] <;> (repeat' split) <;> first | exact g0 | rfl | (exfalso; omega) | assumption | (congr 1; omega) | (simp_all; done),
    fun t1 ht1 k1 hk1 => by
      by_cases q9 : t1 = t
      · subst q9
        have hk2 : k1 < d + 1 := by simpa [u3] using hk1
        by_cases q8 : k1 = d
        · subst q8; have g0 := trivial
          simp only [mm_up, u3, u1, true_and, and_true, false_and, and_false, and_self, if_true, if_false] <;> (repeat' split) <;> first | exact g0 | rfl | (exfalso; omega) | assumption | (congr 1; omega) | (simp_all; done)
        · have hk3 : k1 < cn 0 t1 0 := (by omega)
          have g0 := hI.2.2.2.2.2.2.2.2.2.2.2.2.2.1 t1 ht1 k1 hk3
          simp only [mm_up, u3, u1, true_and, and_true, false_and, and_false, and_self, if_true, if_false] <;> (repeat' split) <;> first | exact g0 | rfl | (exfalso; omega) | assumption | (congr 1; omega) | (simp_all; done)
      · have hk2 : k1 < cn 0 t1 0 := by simpa [u3, q9] using hk1
        have g0 := hI.2.2.2.2.2.2.2.2.2.2.2.2.2.1 t1 ht1 k1 hk2
        simp only [mm_up, u3, u1, true_and, and_true, false_and, and_false, and_self, if_true, if_false] <;> (repeat' split) <;> first | exact g0 | rfl | (exfalso; omega) | assumption | (congr 1; omega) | (simp_all; done),
    fun t1 ht1 => by
      have g0 := hI.2.2.2.2.2.2.2.2.2.2.2.2.2.2.1 t1 ht1
      simp only [mm_up, u3, u1, true_and, and_true, false_and, and_false, and_self, if_true, if_false] <;> (repeat' split) <;> first | exact g0 | rfl | (exfalso; omega) | assumption | (congr 1; omega) | (simp_all; done),
    fun t1 ht1 => by
      have g0 := hI.2.2.2.2.2.2.2.2.2.2.2.2.2.2.2.1 t1 ht1
      simp only [mm_up, u3, u1, true_and, and_true, false_and, and_false, and_self, if_true, if_false] <;> (repeat' split) <;> first | exact g0 | rfl | (exfalso; omega) | assumption | (congr 1; omega) | (simp_all; done),
    fun t1 ht1 => by
      have g0 := hI.2.2.2.2.2.2.2.2.2.2.2.2.2.2.2.2.1 t1 ht1
      simp only [mm_up, u3, u1, true_and, and_true, false_and, and_false, and_self, if_true, if_false] <;> (repeat' split) <;> first | exact g0 | rfl | (exfalso; omega) | assumption | (congr 1; omega) | (simp_all; done),
    fun t1 ht1 => by
      have g0 := hI.2.2.2.2.2.2.2.2.2.2.2.2.2.2.2.2.2.1 t1 ht1
      simp only [mm_up, u3, u1, true_and, and_true, false_and, and_false, and_self, if_true, if_false] <;> (repeat' split) <;> first | exact g0 | rfl | (exfalso; omega) | assumption | (congr 1; omega) | (simp_all; done),
    fun t1 ht1 => by
      have g0 := hI.2.2.2.2.2.2.2.2.2.2.2.2.2.2.2.2.2.2.1 t1 ht1
      simp only [mm_up, u3, u1, true_and, and_true, false_and, and_false, and_self, if_true, if_false] <;> (repeat' split) <;> first | exact g0 | rfl | (exfalso; omega) | assumption | (congr 1; omega) | (simp_all; done),
    fun t1 ht1 => by
      have g0 := hI.2.2.2.2.2.2.2.2.2.2.2.2.2.2.2.2.2.2.2.1 t1 ht1
      simp only [mm_up, u3, u1, true_and, and_true, false_and, and_false, and_self, if_true, if_false] <;> (repeat' split) <;> first | exact g0 | rfl | (exfalso; omega) | assumption | (congr 1; omega) | (simp_all; done),
    by
      have g0 := hI.2.2.2.2.2.2.2.2.2.2.2.2.2.2.2.2.2.2.2.2.1
      simp only [mm_up, u3, u1, true_and, and_true, false_and, and_false, and_self, if_true, if_false] <;> (repeat' split) <;> first | exact g0 | rfl | (exfalso; omega) | assumption | (congr 1; omega) | (simp_all; done),
    by
      have g0 := hI.2.2.2.2.2.2.2.2.2.2.2.2.2.2.2.2.2.2.2.2.2.1
      simp only [mm_up, u3, u1, true_and, and_true, false_and, and_false, and_self, if_true, if_false] <;> (repeat' split) <;> first | exact g0 | rfl | (exfalso; omega) | assumption | (congr 1; omega) | (simp_all; done),
    fun i1 hi1 => by
      have g0 := hI.2.2.2.2.2.2.2.2.2.2.2.2.2.2.2.2.2.2.2.2.2.2.1 i1 hi1
      simp only [mm_up, u3, u1, true_and, and_true, false_and, and_false, and_self, if_true, if_false] <;> (repeat' split) <;> first | exact g0 | rfl | (exfalso; omega) | assumption | (congr 1; omega) | (simp_all; done),
    fun i1 hi1 => by
      have g0 := hI.2.2.2.2.2.2.2.2.2.2.2.2.2.2.2.2.2.2.2.2.2.2.2.1 i1 hi1
      simp only [mm_up, u3, u1, true_and, and_true, false_and, and_false, and_self, if_true, if_false] <;> (repeat' split) <;> first | exact g0 | rfl | (exfalso; omega) | assumption | (congr 1; omega) | (simp_all; done),
    fun i1 hi1 => by
      have g0 := hI.2.2.2.2.2.2.2.2.2.2.2.2.2.2.2.2.2.2.2.2.2.2.2.2.1 i1 hi1
      simp only [mm_up, u3, u1, true_and, and_true, false_and, and_false, and_self, if_true, if_false] <;> (repeat' split) <;> first | exact g0 | rfl | (exfalso; omega) | assumption | (congr 1; omega) | (simp_all; done),
    fun i1 hi1 => by
      have g0 := hI.2.2.2.2.2.2.2.2.2.2.2.2.2.2.2.2.2.2.2.2.2.2.2.2.2.1 i1 hi1
      simp only [mm_up, u3, u1, true_and, and_true, false_and, and_false, and_self, if_true, if_false] <;> (repeat' split) <;> first | exact g0 | rfl | (exfalso; omega) | assumption | (congr 1; omega) | (simp_all; done),
    fun i1 hi1 => by
      have g0 := hI.2.2.2.2.2.2.2.2.2.2.2.2.2.2.2.2.2.2.2.2.2.2.2.2.2.2.1 i1 hi1
      simp only [mm_up, u3, u1, true_and, and_true, false_and, and_false, and_self, if_true, if_false] <;> (repeat' split) <;> first | exact g0 | rfl | (exfalso; omega) | assumption | (congr 1; omega) | (simp_all; done),
    fun i1 hi1 => by
      have g0 := hI.2.2.2.2.2.2.2.2.2.2.2.2.2.2.2.2.2.2.2.2.2.2.2.2.2.2.2.1 i1 hi1
      simp only [mm_up, u3, u1, true_and, and_true, false_and, and_false, and_self, if_true, if_false] <;> (repeat' split) <;> first | exact g0 | rfl | (exfalso; omega) | assumption | (congr 1; omega) | (simp_all; done),
    fun i1 hi1 => by
      have g0 := hI.2.2.2.2.2.2.2.2.2.2.2.2.2.2.2.2.2.2.2.2.2.2.2.2.2.2.2.2.1 i1 hi1
      simp only [mm_up, u3, u1, true_and, and_true, false_and, and_false, and_self, if_true, if_false] <;> (repeat' split) <;> first | exact g0 | rfl | (exfalso; omega) | assumption | (congr 1; omega) | (simp_all; done),
    fun i1 hi1 => by
      have g0 := hI.2.2.2.2.2.2.2.2.2.2.2.2.2.2.2.2.2.2.2.2.2.2.2.2.2.2.2.2.2.1 i1 hi1
      simp only [mm_up, u3, u1, true_and, and_true, false_and, and_false, and_self, if_true, if_false] <;> (repeat' split) <;> first | exact g0 | rfl | (exfalso; omega) | assumption | (congr 1; omega) | (simp_all; done),
    fun i1 hi1 => by
      have g0 := hI.2.2.2.2.2.2.2.2.2.2.2.2.2.2.2.2.2.2.2.2.2.2.2.2.2.2.2.2.2.2 i1 hi1
      simp only [mm_up, u3, u1, true_and, and_true, false_and, and_false, and_self, if_true, if_false] <;> (repeat' split) <;> first | exact g0 | rfl | (exfalso; omega) | assumption | (congr 1; omega) | (simp_all; done)⟩,
   hX,
   hN,
   hS⟩
theorem MU_psh {ci : Nat → Nat → Nat → Int32} {cn : Nat → Nat → Nat → Nat} {co : Nat → Option Nat} {xj : Nat → Nat → Nat → Int64} {xd : Nat → Nat → Nat → UInt64} {xf : Nat → Nat → Nat → UInt32} {xo : Nat → Nat → Nat → Option Nat} {xi : Nat → Nat → Nat → Int32} {xn : Nat → Nat → Nat → Nat} {I : Nat → Nat → Int32} {J : Nat → Nat → Int64} {D : Nat → Nat → UInt64} (h : RM ci cn co xj xd xf xo xi xn I J D) {t d p : Nat} (ht : t < 3) (hd : cn 0 t 0 = d) (hd1 : 1 ≤ d) (hd8 : d < 8) (h8 : ∀ t, t < 3 → cn 0 t 0 ≤ 8) : RM ci (u3 (u3 (u3 cn 1 t d p) 2 t d 0) 0 t 0 (d + 1)) co xj xd xf xo xi xn (mm_up (mm_up (mm_up I 36 (8 * t + d) (nI p)) 37 (8 * t + d) (nI 0)) 35 t (nI (d + 1))) J D := by
  have d2 := h8 0 (by decide)
  have d3 := h8 1 (by decide)
  have d4 := h8 2 (by decide)
  have y1 : decide (0 < d + 1) = true := decide_eq_true (by omega)
  have y2 : decide (0 < cn 0 t 0) = true := decide_eq_true (by omega)
  obtain ⟨hJ, hD, hI⟩ := h
  exact ⟨hJ,
   hD,
   ⟨by
      have g0 := hI.1
      simp only [mm_up, u3, u1, true_and, and_true, false_and, and_false, and_self, if_true, if_false] <;> (repeat' split) <;> first | exact g0 | rfl | (exfalso; omega) | assumption | (congr 1; omega) | (simp_all; done),
    by
      have g0 := hI.2.1
      simp only [mm_up, u3, u1, true_and, and_true, false_and, and_false, and_self, if_true, if_false] <;> (repeat' split) <;> first | exact g0 | rfl | (exfalso; omega) | assumption | (congr 1; omega) | (simp_all; done),
    fun i1 hi1 => by
      have g0 := hI.2.2.1 i1 hi1
      simp only [mm_up, u3, u1, true_and, and_true, false_and, and_false, and_self, if_true, if_false] <;> (repeat' split) <;> first | exact g0 | rfl | (exfalso; omega) | assumption | (congr 1; omega) | (simp_all; done),
    fun i1 hi1 => by
      have g0 := hI.2.2.2.1 i1 hi1
      simp only [mm_up, u3, u1, true_and, and_true, false_and, and_false, and_self, if_true, if_false] <;> (repeat' split) <;> first | exact g0 | rfl | (exfalso; omega) | assumption | (congr 1; omega) | (simp_all; done),
    fun i1 hi1 => by
      have g0 := hI.2.2.2.2.1 i1 hi1
      simp only [mm_up, u3, u1, true_and, and_true, false_and, and_false, and_self, if_true, if_false] <;> (repeat' split) <;> first | exact g0 | rfl | (exfalso; omega) | assumption | (congr 1; omega) | (simp_all; done),
    fun i1 hi1 => by
      have g0 := hI.2.2.2.2.2.1 i1 hi1
      simp only [mm_up, u3, u1, true_and, and_true, false_and, and_false, and_self, if_true, if_false] <;> (repeat' split) <;> first | exact g0 | rfl | (exfalso; omega) | assumption | (congr 1; omega) | (simp_all; done),
    fun i1 hi1 => by
      have g0 := hI.2.2.2.2.2.2.1 i1 hi1
      simp only [mm_up, u3, u1, true_and, and_true, false_and, and_false, and_self, if_true, if_false] <;> (repeat' split) <;> first | exact g0 | rfl | (exfalso; omega) | assumption | (congr 1; omega) | (simp_all; done),
    fun i1 hi1 k1 hk1 => by
      have g0 := hI.2.2.2.2.2.2.2.1 i1 hi1 k1 hk1
      simp only [mm_up, u3, u1, true_and, and_true, false_and, and_false, and_self, if_true, if_false] <;> (repeat' split) <;> first | exact g0 | rfl | (exfalso; omega) | assumption | (congr 1; omega) | (simp_all; done),
    fun i1 hi1 => by
      have g0 := hI.2.2.2.2.2.2.2.2.1 i1 hi1
      simp only [mm_up, u3, u1, true_and, and_true, false_and, and_false, and_self, if_true, if_false] <;> (repeat' split) <;> first | exact g0 | rfl | (exfalso; omega) | assumption | (congr 1; omega) | (simp_all; done),
    fun i1 hi1 => by
      have g0 := hI.2.2.2.2.2.2.2.2.2.1 i1 hi1
      simp only [mm_up, u3, u1, true_and, and_true, false_and, and_false, and_self, if_true, if_false] <;> (repeat' split) <;> first | exact g0 | rfl | (exfalso; omega) | assumption | (congr 1; omega) | (simp_all; done),
    fun p1 hp1 => by
      have g0 := hI.2.2.2.2.2.2.2.2.2.2.1 p1 hp1
      simp only [mm_up, u3, u1, true_and, and_true, false_and, and_false, and_self, if_true, if_false] <;> (repeat' split) <;> first | exact g0 | rfl | (exfalso; omega) | assumption | (congr 1; omega) | (simp_all; done),
    fun p1 hp1 k1 hk1 => by
      have g0 := hI.2.2.2.2.2.2.2.2.2.2.2.1 p1 hp1 k1 hk1
      simp only [mm_up, u3, u1, true_and, and_true, false_and, and_false, and_self, if_true, if_false] <;> (repeat' split) <;> first | exact g0 | rfl | (exfalso; omega) | assumption | (congr 1; omega) | (simp_all; done),
    fun p1 hp1 k1 hk1 => by
      have g0 := hI.2.2.2.2.2.2.2.2.2.2.2.2.1 p1 hp1 k1 hk1
      simp only [mm_up, u3, u1, true_and, and_true, false_and, and_false, and_self, if_true, if_false] <;> (repeat' split) <;> first | exact g0 | rfl | (exfalso; omega) | assumption | (congr 1; omega) | (simp_all; done),
    fun p1 hp1 k1 hk1 => by
      have g0 := hI.2.2.2.2.2.2.2.2.2.2.2.2.2.1 p1 hp1 k1 hk1
      simp only [mm_up, u3, u1, true_and, and_true, false_and, and_false, and_self, if_true, if_false] <;> (repeat' split) <;> first | exact g0 | rfl | (exfalso; omega) | assumption | (congr 1; omega) | (simp_all; done),
    fun p1 hp1 k1 hk1 => by
      have g0 := hI.2.2.2.2.2.2.2.2.2.2.2.2.2.2.1 p1 hp1 k1 hk1
      simp only [mm_up, u3, u1, true_and, and_true, false_and, and_false, and_self, if_true, if_false] <;> (repeat' split) <;> first | exact g0 | rfl | (exfalso; omega) | assumption | (congr 1; omega) | (simp_all; done),
    fun p1 hp1 => by
      have g0 := hI.2.2.2.2.2.2.2.2.2.2.2.2.2.2.2.1 p1 hp1
      simp only [mm_up, u3, u1, true_and, and_true, false_and, and_false, and_self, if_true, if_false] <;> (repeat' split) <;> first | exact g0 | rfl | (exfalso; omega) | assumption | (congr 1; omega) | (simp_all; done),
    fun p1 hp1 k1 hk1 => by
      have g0 := hI.2.2.2.2.2.2.2.2.2.2.2.2.2.2.2.2.1 p1 hp1 k1 hk1
      simp only [mm_up, u3, u1, true_and, and_true, false_and, and_false, and_self, if_true, if_false] <;> (repeat' split) <;> first | exact g0 | rfl | (exfalso; omega) | assumption | (congr 1; omega) | (simp_all; done),
    fun p1 hp1 k1 hk1 => by
      have g0 := hI.2.2.2.2.2.2.2.2.2.2.2.2.2.2.2.2.2.1 p1 hp1 k1 hk1
      simp only [mm_up, u3, u1, true_and, and_true, false_and, and_false, and_self, if_true, if_false] <;> (repeat' split) <;> first | exact g0 | rfl | (exfalso; omega) | assumption | (congr 1; omega) | (simp_all; done),
    fun p1 hp1 k1 hk1 => by
      have g0 := hI.2.2.2.2.2.2.2.2.2.2.2.2.2.2.2.2.2.2.1 p1 hp1 k1 hk1
      simp only [mm_up, u3, u1, true_and, and_true, false_and, and_false, and_self, if_true, if_false] <;> (repeat' split) <;> first | exact g0 | rfl | (exfalso; omega) | assumption | (congr 1; omega) | (simp_all; done),
    fun p1 hp1 k1 hk1 => by
      have g0 := hI.2.2.2.2.2.2.2.2.2.2.2.2.2.2.2.2.2.2.2.1 p1 hp1 k1 hk1
      simp only [mm_up, u3, u1, true_and, and_true, false_and, and_false, and_self, if_true, if_false] <;> (repeat' split) <;> first | exact g0 | rfl | (exfalso; omega) | assumption | (congr 1; omega) | (simp_all; done),
    fun t1 ht1 k1 hk1 => by
      have e8 := h8 t1 ht1
      have g0 := hI.2.2.2.2.2.2.2.2.2.2.2.2.2.2.2.2.2.2.2.2.1 t1 ht1 k1 hk1
      simp only [mm_up, u3, u1, true_and, and_true, false_and, and_false, and_self, if_true, if_false] <;> (repeat' split) <;> first | exact g0 | rfl | (exfalso; omega) | assumption | (congr 1; omega) | (simp_all; done),
    fun t1 ht1 => by
      have e8 := h8 t1 ht1
      have g0 := hI.2.2.2.2.2.2.2.2.2.2.2.2.2.2.2.2.2.2.2.2.2.1 t1 ht1
      simp only [mm_up, u3, u1, true_and, and_true, false_and, and_false, and_self, if_true, if_false] <;> (repeat' split) <;> first | exact g0 | rfl | (exfalso; omega) | assumption | (congr 1; omega) | (simp_all; done),
    fun t1 ht1 => by
      have e8 := h8 t1 ht1
      have g0 := hI.2.2.2.2.2.2.2.2.2.2.2.2.2.2.2.2.2.2.2.2.2.2.1 t1 ht1
      simp only [mm_up, u3, u1, true_and, and_true, false_and, and_false, and_self, if_true, if_false] <;> (repeat' split) <;> first | exact g0 | rfl | (exfalso; omega) | assumption | (congr 1; omega) | (simp_all; done),
    fun t1 ht1 k1 hk1 => by
      have e8 := h8 t1 ht1
      by_cases q9 : t1 = t
      · subst q9
        have hk2 : k1 < d + 1 := by simpa [u3] using hk1
        by_cases q8 : k1 = d
        · subst q8; have g0 := trivial
          simp only [mm_up, u3, u1, true_and, and_true, false_and, and_false, and_self, if_true, if_false] <;> (repeat' split) <;> first | exact g0 | rfl | (exfalso; omega) | assumption | (congr 1; omega) | (simp_all; done)
        · have hk3 : k1 < cn 0 t1 0 := (by omega)
          have g0 := hI.2.2.2.2.2.2.2.2.2.2.2.2.2.2.2.2.2.2.2.2.2.2.2.1 t1 ht1 k1 hk3
          simp only [mm_up, u3, u1, true_and, and_true, false_and, and_false, and_self, if_true, if_false] <;> (repeat' split) <;> first | exact g0 | rfl | (exfalso; omega) | assumption | (congr 1; omega) | (simp_all; done)
      · have hk2 : k1 < cn 0 t1 0 := by simpa [u3, q9] using hk1
        have g0 := hI.2.2.2.2.2.2.2.2.2.2.2.2.2.2.2.2.2.2.2.2.2.2.2.1 t1 ht1 k1 hk2
        simp only [mm_up, u3, u1, true_and, and_true, false_and, and_false, and_self, if_true, if_false] <;> (repeat' split) <;> first | exact g0 | rfl | (exfalso; omega) | assumption | (congr 1; omega) | (simp_all; done),
    fun t1 ht1 k1 hk1 => by
      have e8 := h8 t1 ht1
      by_cases q9 : t1 = t
      · subst q9
        have hk2 : k1 < d + 1 := by simpa [u3] using hk1
        by_cases q8 : k1 = d
        · subst q8; have g0 := trivial
          simp only [mm_up, u3, u1, true_and, and_true, false_and, and_false, and_self, if_true, if_false] <;> (repeat' split) <;> first | exact g0 | rfl | (exfalso; omega) | assumption | (congr 1; omega) | (simp_all; done)
        · have hk3 : k1 < cn 0 t1 0 := (by omega)
          have g0 := hI.2.2.2.2.2.2.2.2.2.2.2.2.2.2.2.2.2.2.2.2.2.2.2.2.1 t1 ht1 k1 hk3
          simp only [mm_up, u3, u1, true_and, and_true, false_and, and_false, and_self, if_true, if_false] <;> (repeat' split) <;> first | exact g0 | rfl | (exfalso; omega) | assumption | (congr 1; omega) | (simp_all; done)
      · have hk2 : k1 < cn 0 t1 0 := by simpa [u3, q9] using hk1
        have g0 := hI.2.2.2.2.2.2.2.2.2.2.2.2.2.2.2.2.2.2.2.2.2.2.2.2.1 t1 ht1 k1 hk2
        simp only [mm_up, u3, u1, true_and, and_true, false_and, and_false, and_self, if_true, if_false] <;> (repeat' split) <;> first | exact g0 | rfl | (exfalso; omega) | assumption | (congr 1; omega) | (simp_all; done),
    fun t1 ht1 => by
      have e8 := h8 t1 ht1
      have g0 := hI.2.2.2.2.2.2.2.2.2.2.2.2.2.2.2.2.2.2.2.2.2.2.2.2.2.1 t1 ht1
      simp only [mm_up, u3, u1, true_and, and_true, false_and, and_false, and_self, if_true, if_false] <;> (repeat' split) <;> first | exact g0 | rfl | (exfalso; omega) | assumption | (congr 1; omega) | (simp_all; done),
    fun t1 ht1 => by
      have e8 := h8 t1 ht1
      have g0 := hI.2.2.2.2.2.2.2.2.2.2.2.2.2.2.2.2.2.2.2.2.2.2.2.2.2.2.1 t1 ht1
      simp only [mm_up, u3, u1, true_and, and_true, false_and, and_false, and_self, if_true, if_false] <;> (repeat' split) <;> first | exact g0 | rfl | (exfalso; omega) | assumption | (congr 1; omega) | (simp_all; done),
    fun t1 ht1 => by
      have e8 := h8 t1 ht1
      have g0 := hI.2.2.2.2.2.2.2.2.2.2.2.2.2.2.2.2.2.2.2.2.2.2.2.2.2.2.2.1 t1 ht1
      simp only [mm_up, u3, u1, true_and, and_true, false_and, and_false, and_self, if_true, if_false] <;> (repeat' split) <;> first | exact g0 | rfl | (exfalso; omega) | assumption | (congr 1; omega) | (simp_all; done),
    fun t1 ht1 => by
      have e8 := h8 t1 ht1
      have g0 := hI.2.2.2.2.2.2.2.2.2.2.2.2.2.2.2.2.2.2.2.2.2.2.2.2.2.2.2.2.1 t1 ht1
      simp only [mm_up, u3, u1, true_and, and_true, false_and, and_false, and_self, if_true, if_false] <;> (repeat' split) <;> first | exact g0 | rfl | (exfalso; omega) | assumption | (congr 1; omega) | (simp_all; done),
    fun t1 ht1 => by
      have e8 := h8 t1 ht1
      have g0 := hI.2.2.2.2.2.2.2.2.2.2.2.2.2.2.2.2.2.2.2.2.2.2.2.2.2.2.2.2.2.1 t1 ht1
      simp only [mm_up, u3, u1, true_and, and_true, false_and, and_false, and_self, if_true, if_false] <;> (repeat' split) <;> first | exact g0 | rfl | (exfalso; omega) | assumption | (congr 1; omega) | (simp_all; done),
    fun t1 ht1 => by
      have e8 := h8 t1 ht1
      have g0 := hI.2.2.2.2.2.2.2.2.2.2.2.2.2.2.2.2.2.2.2.2.2.2.2.2.2.2.2.2.2.2 t1 ht1
      simp only [mm_up, u3, u1, true_and, and_true, false_and, and_false, and_self, if_true, if_false] <;> (repeat' split) <;> first | exact g0 | rfl | (exfalso; omega) | assumption | (congr 1; omega) | (simp_all; done)⟩⟩
theorem MU_ps1 {ci : Nat → Nat → Nat → Int32} {cn : Nat → Nat → Nat → Nat} {co : Nat → Option Nat} {xj : Nat → Nat → Nat → Int64} {xd : Nat → Nat → Nat → UInt64} {xf : Nat → Nat → Nat → UInt32} {xo : Nat → Nat → Nat → Option Nat} {xi : Nat → Nat → Nat → Int32} {xn : Nat → Nat → Nat → Nat} {I : Nat → Nat → Int32} {J : Nat → Nat → Int64} {D : Nat → Nat → UInt64} (h : RM ci cn co xj xd xf xo xi xn I J D) {t p : Nat} (ht : t < 3) (hd : cn 0 t 0 = 0) (h8 : ∀ t, t < 3 → cn 0 t 0 ≤ 8) : RM ci (u3 (u3 (u3 cn 1 t 0 p) 2 t 0 0) 0 t 0 1) co xj xd xf xo xi xn (mm_up (mm_up (mm_up (mm_up I 34 t (nI 1)) 35 t (nI 1)) 36 (8 * t) (nI p)) 37 (8 * t) (nI 0)) J D := by
  have d2 := h8 0 (by decide)
  have d3 := h8 1 (by decide)
  have d4 := h8 2 (by decide)
  have y1 : zb (decide (0 < 1)) = nI 1 := rfl
  obtain ⟨hJ, hD, hI⟩ := h
  exact ⟨hJ,
   hD,
   ⟨by
      have g0 := hI.1
      simp only [mm_up, u3, u1, true_and, and_true, false_and, and_false, and_self, if_true, if_false] <;> (repeat' split) <;> first | exact g0 | rfl | (exfalso; omega) | assumption | (congr 1; omega) | (simp_all; done),
    by
      have g0 := hI.2.1
      simp only [mm_up, u3, u1, true_and, and_true, false_and, and_false, and_self, if_true, if_false] <;> (repeat' split) <;> first | exact g0 | rfl | (exfalso; omega) | assumption | (congr 1; omega) | (simp_all; done),
    fun i1 hi1 => by
      have g0 := hI.2.2.1 i1 hi1
      simp only [mm_up, u3, u1, true_and, and_true, false_and, and_false, and_self, if_true, if_false] <;> (repeat' split) <;> first | exact g0 | rfl | (exfalso; omega) | assumption | (congr 1; omega) | (simp_all; done),
    fun i1 hi1 => by
      have g0 := hI.2.2.2.1 i1 hi1
      simp only [mm_up, u3, u1, true_and, and_true, false_and, and_false, and_self, if_true, if_false] <;> (repeat' split) <;> first | exact g0 | rfl | (exfalso; omega) | assumption | (congr 1; omega) | (simp_all; done),
    fun i1 hi1 => by
      have g0 := hI.2.2.2.2.1 i1 hi1
      simp only [mm_up, u3, u1, true_and, and_true, false_and, and_false, and_self, if_true, if_false] <;> (repeat' split) <;> first | exact g0 | rfl | (exfalso; omega) | assumption | (congr 1; omega) | (simp_all; done),
    fun i1 hi1 => by
      have g0 := hI.2.2.2.2.2.1 i1 hi1
      simp only [mm_up, u3, u1, true_and, and_true, false_and, and_false, and_self, if_true, if_false] <;> (repeat' split) <;> first | exact g0 | rfl | (exfalso; omega) | assumption | (congr 1; omega) | (simp_all; done),
    fun i1 hi1 => by
      have g0 := hI.2.2.2.2.2.2.1 i1 hi1
      simp only [mm_up, u3, u1, true_and, and_true, false_and, and_false, and_self, if_true, if_false] <;> (repeat' split) <;> first | exact g0 | rfl | (exfalso; omega) | assumption | (congr 1; omega) | (simp_all; done),
    fun i1 hi1 k1 hk1 => by
      have g0 := hI.2.2.2.2.2.2.2.1 i1 hi1 k1 hk1
      simp only [mm_up, u3, u1, true_and, and_true, false_and, and_false, and_self, if_true, if_false] <;> (repeat' split) <;> first | exact g0 | rfl | (exfalso; omega) | assumption | (congr 1; omega) | (simp_all; done),
    fun i1 hi1 => by
      have g0 := hI.2.2.2.2.2.2.2.2.1 i1 hi1
      simp only [mm_up, u3, u1, true_and, and_true, false_and, and_false, and_self, if_true, if_false] <;> (repeat' split) <;> first | exact g0 | rfl | (exfalso; omega) | assumption | (congr 1; omega) | (simp_all; done),
    fun i1 hi1 => by
      have g0 := hI.2.2.2.2.2.2.2.2.2.1 i1 hi1
      simp only [mm_up, u3, u1, true_and, and_true, false_and, and_false, and_self, if_true, if_false] <;> (repeat' split) <;> first | exact g0 | rfl | (exfalso; omega) | assumption | (congr 1; omega) | (simp_all; done),
    fun p1 hp1 => by
      have g0 := hI.2.2.2.2.2.2.2.2.2.2.1 p1 hp1
      simp only [mm_up, u3, u1, true_and, and_true, false_and, and_false, and_self, if_true, if_false] <;> (repeat' split) <;> first | exact g0 | rfl | (exfalso; omega) | assumption | (congr 1; omega) | (simp_all; done),
    fun p1 hp1 k1 hk1 => by
      have g0 := hI.2.2.2.2.2.2.2.2.2.2.2.1 p1 hp1 k1 hk1
      simp only [mm_up, u3, u1, true_and, and_true, false_and, and_false, and_self, if_true, if_false] <;> (repeat' split) <;> first | exact g0 | rfl | (exfalso; omega) | assumption | (congr 1; omega) | (simp_all; done),
    fun p1 hp1 k1 hk1 => by
      have g0 := hI.2.2.2.2.2.2.2.2.2.2.2.2.1 p1 hp1 k1 hk1
      simp only [mm_up, u3, u1, true_and, and_true, false_and, and_false, and_self, if_true, if_false] <;> (repeat' split) <;> first | exact g0 | rfl | (exfalso; omega) | assumption | (congr 1; omega) | (simp_all; done),
    fun p1 hp1 k1 hk1 => by
      have g0 := hI.2.2.2.2.2.2.2.2.2.2.2.2.2.1 p1 hp1 k1 hk1
      simp only [mm_up, u3, u1, true_and, and_true, false_and, and_false, and_self, if_true, if_false] <;> (repeat' split) <;> first | exact g0 | rfl | (exfalso; omega) | assumption | (congr 1; omega) | (simp_all; done),
    fun p1 hp1 k1 hk1 => by
      have g0 := hI.2.2.2.2.2.2.2.2.2.2.2.2.2.2.1 p1 hp1 k1 hk1
      simp only [mm_up, u3, u1, true_and, and_true, false_and, and_false, and_self, if_true, if_false] <;> (repeat' split) <;> first | exact g0 | rfl | (exfalso; omega) | assumption | (congr 1; omega) | (simp_all; done),
    fun p1 hp1 => by
      have g0 := hI.2.2.2.2.2.2.2.2.2.2.2.2.2.2.2.1 p1 hp1
      simp only [mm_up, u3, u1, true_and, and_true, false_and, and_false, and_self, if_true, if_false] <;> (repeat' split) <;> first | exact g0 | rfl | (exfalso; omega) | assumption | (congr 1; omega) | (simp_all; done),
    fun p1 hp1 k1 hk1 => by
      have g0 := hI.2.2.2.2.2.2.2.2.2.2.2.2.2.2.2.2.1 p1 hp1 k1 hk1
      simp only [mm_up, u3, u1, true_and, and_true, false_and, and_false, and_self, if_true, if_false] <;> (repeat' split) <;> first | exact g0 | rfl | (exfalso; omega) | assumption | (congr 1; omega) | (simp_all; done),
    fun p1 hp1 k1 hk1 => by
      have g0 := hI.2.2.2.2.2.2.2.2.2.2.2.2.2.2.2.2.2.1 p1 hp1 k1 hk1
      simp only [mm_up, u3, u1, true_and, and_true, false_and, and_false, and_self, if_true, if_false] <;> (repeat' split) <;> first | exact g0 | rfl | (exfalso; omega) | assumption | (congr 1; omega) | (simp_all; done),
    fun p1 hp1 k1 hk1 => by
      have g0 := hI.2.2.2.2.2.2.2.2.2.2.2.2.2.2.2.2.2.2.1 p1 hp1 k1 hk1
      simp only [mm_up, u3, u1, true_and, and_true, false_and, and_false, and_self, if_true, if_false] <;> (repeat' split) <;> first | exact g0 | rfl | (exfalso; omega) | assumption | (congr 1; omega) | (simp_all; done),
    fun p1 hp1 k1 hk1 => by
      have g0 := hI.2.2.2.2.2.2.2.2.2.2.2.2.2.2.2.2.2.2.2.1 p1 hp1 k1 hk1
      simp only [mm_up, u3, u1, true_and, and_true, false_and, and_false, and_self, if_true, if_false] <;> (repeat' split) <;> first | exact g0 | rfl | (exfalso; omega) | assumption | (congr 1; omega) | (simp_all; done),
    fun t1 ht1 k1 hk1 => by
      have e8 := h8 t1 ht1
      have g0 := hI.2.2.2.2.2.2.2.2.2.2.2.2.2.2.2.2.2.2.2.2.1 t1 ht1 k1 hk1
      simp only [mm_up, u3, u1, true_and, and_true, false_and, and_false, and_self, if_true, if_false] <;> (repeat' split) <;> first | exact g0 | rfl | (exfalso; omega) | assumption | (congr 1; omega) | (simp_all; done),
    fun t1 ht1 => by
      have e8 := h8 t1 ht1
      have g0 := hI.2.2.2.2.2.2.2.2.2.2.2.2.2.2.2.2.2.2.2.2.2.1 t1 ht1
      simp only [mm_up, u3, u1, true_and, and_true, false_and, and_false, and_self, if_true, if_false] <;> (repeat' split) <;> first | exact g0 | rfl | (exfalso; omega) | assumption | (congr 1; omega) | (simp_all; done),
    fun t1 ht1 => by
      have e8 := h8 t1 ht1
      have g0 := hI.2.2.2.2.2.2.2.2.2.2.2.2.2.2.2.2.2.2.2.2.2.2.1 t1 ht1
      simp only [mm_up, u3, u1, true_and, and_true, false_and, and_false, and_self, if_true, if_false] <;> (repeat' split) <;> first | exact g0 | rfl | (exfalso; omega) | assumption | (congr 1; omega) | (simp_all; done),
    fun t1 ht1 k1 hk1 => by
      have e8 := h8 t1 ht1
      by_cases q9 : t1 = t
      · subst q9
        have hk2 : k1 < 1 := by simpa [u3] using hk1
        by_cases q8 : k1 = 0
        · subst q8; have g0 := trivial
          simp only [mm_up, u3, u1, true_and, and_true, false_and, and_false, and_self, if_true, if_false] <;> (repeat' split) <;> first | exact g0 | rfl | (exfalso; omega) | assumption | (congr 1; omega) | (simp_all; done)
        · have hk3 : k1 < cn 0 t1 0 := (by omega)
          have g0 := hI.2.2.2.2.2.2.2.2.2.2.2.2.2.2.2.2.2.2.2.2.2.2.2.1 t1 ht1 k1 hk3
          simp only [mm_up, u3, u1, true_and, and_true, false_and, and_false, and_self, if_true, if_false] <;> (repeat' split) <;> first | exact g0 | rfl | (exfalso; omega) | assumption | (congr 1; omega) | (simp_all; done)
      · have hk2 : k1 < cn 0 t1 0 := by simpa [u3, q9] using hk1
        have g0 := hI.2.2.2.2.2.2.2.2.2.2.2.2.2.2.2.2.2.2.2.2.2.2.2.1 t1 ht1 k1 hk2
        simp only [mm_up, u3, u1, true_and, and_true, false_and, and_false, and_self, if_true, if_false] <;> (repeat' split) <;> first | exact g0 | rfl | (exfalso; omega) | assumption | (congr 1; omega) | (simp_all; done),
    fun t1 ht1 k1 hk1 => by
      have e8 := h8 t1 ht1
      by_cases q9 : t1 = t
      · subst q9
        have hk2 : k1 < 1 := by simpa [u3] using hk1
        by_cases q8 : k1 = 0
        · subst q8; have g0 := trivial
          simp only [mm_up, u3, u1, true_and, and_true, false_and, and_false, and_self, if_true, if_false] <;> (repeat' split) <;> first | exact g0 | rfl | (exfalso; omega) | assumption | (congr 1; omega) | (simp_all; done)
        · have hk3 : k1 < cn 0 t1 0 := (by omega)
          have g0 := hI.2.2.2.2.2.2.2.2.2.2.2.2.2.2.2.2.2.2.2.2.2.2.2.2.1 t1 ht1 k1 hk3
          simp only [mm_up, u3, u1, true_and, and_true, false_and, and_false, and_self, if_true, if_false] <;> (repeat' split) <;> first | exact g0 | rfl | (exfalso; omega) | assumption | (congr 1; omega) | (simp_all; done)
      · have hk2 : k1 < cn 0 t1 0 := by simpa [u3, q9] using hk1
        have g0 := hI.2.2.2.2.2.2.2.2.2.2.2.2.2.2.2.2.2.2.2.2.2.2.2.2.1 t1 ht1 k1 hk2
        simp only [mm_up, u3, u1, true_and, and_true, false_and, and_false, and_self, if_true, if_false] <;> (repeat' split) <;> first | exact g0 | rfl | (exfalso; omega) | assumption | (congr 1; omega) | (simp_all; done),
    fun t1 ht1 => by
      have e8 := h8 t1 ht1
      have g0 := hI.2.2.2.2.2.2.2.2.2.2.2.2.2.2.2.2.2.2.2.2.2.2.2.2.2.1 t1 ht1
      simp only [mm_up, u3, u1, true_and, and_true, false_and, and_false, and_self, if_true, if_false] <;> (repeat' split) <;> first | exact g0 | rfl | (exfalso; omega) | assumption | (congr 1; omega) | (simp_all; done),
    fun t1 ht1 => by
      have e8 := h8 t1 ht1
      have g0 := hI.2.2.2.2.2.2.2.2.2.2.2.2.2.2.2.2.2.2.2.2.2.2.2.2.2.2.1 t1 ht1
      simp only [mm_up, u3, u1, true_and, and_true, false_and, and_false, and_self, if_true, if_false] <;> (repeat' split) <;> first | exact g0 | rfl | (exfalso; omega) | assumption | (congr 1; omega) | (simp_all; done),
    fun t1 ht1 => by
      have e8 := h8 t1 ht1
      have g0 := hI.2.2.2.2.2.2.2.2.2.2.2.2.2.2.2.2.2.2.2.2.2.2.2.2.2.2.2.1 t1 ht1
      simp only [mm_up, u3, u1, true_and, and_true, false_and, and_false, and_self, if_true, if_false] <;> (repeat' split) <;> first | exact g0 | rfl | (exfalso; omega) | assumption | (congr 1; omega) | (simp_all; done),
    fun t1 ht1 => by
      have e8 := h8 t1 ht1
      have g0 := hI.2.2.2.2.2.2.2.2.2.2.2.2.2.2.2.2.2.2.2.2.2.2.2.2.2.2.2.2.1 t1 ht1
      simp only [mm_up, u3, u1, true_and, and_true, false_and, and_false, and_self, if_true, if_false] <;> (repeat' split) <;> first | exact g0 | rfl | (exfalso; omega) | assumption | (congr 1; omega) | (simp_all; done),
    fun t1 ht1 => by
      have e8 := h8 t1 ht1
      have g0 := hI.2.2.2.2.2.2.2.2.2.2.2.2.2.2.2.2.2.2.2.2.2.2.2.2.2.2.2.2.2.1 t1 ht1
      simp only [mm_up, u3, u1, true_and, and_true, false_and, and_false, and_self, if_true, if_false] <;> (repeat' split) <;> first | exact g0 | rfl | (exfalso; omega) | assumption | (congr 1; omega) | (simp_all; done),
    fun t1 ht1 => by
      have e8 := h8 t1 ht1
      have g0 := hI.2.2.2.2.2.2.2.2.2.2.2.2.2.2.2.2.2.2.2.2.2.2.2.2.2.2.2.2.2.2 t1 ht1
      simp only [mm_up, u3, u1, true_and, and_true, false_and, and_false, and_self, if_true, if_false] <;> (repeat' split) <;> first | exact g0 | rfl | (exfalso; omega) | assumption | (congr 1; omega) | (simp_all; done)⟩⟩
