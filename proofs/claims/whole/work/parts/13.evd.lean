/-! deterministic contracts -/
theorem det_of {Y : mm_Y} {args : List mm_V} {μ : mm_M} {r : Option mm_V} {μ1 : mm_M} {L : mm_L} (hk : mm_ok Y) (hL : mm_ent 0 args = some L) (hm : Nat.ble (mm_cs args) (mm_ml Y) = true) (hn : (mm_nm Y).cls = mm_ow Y) (h : Ev Y μ (mm_co Y) L [] μ (fun r2 μ2 => r2 = r ∧ μ2 = μ1)) : mm_Det Y args μ r μ1 := by
  obtain ⟨r2, μ2, ⟨rfl, rfl⟩, h2⟩ := h
  exact mm_Det.of hk hL hm hn h2
theorem ct_det {Y : mm_Y} {args : List mm_V} {μ : mm_M} {r : Option mm_V} {μ1 : mm_M} (h : mm_Det Y args μ r μ1) : Ct Y args μ (fun r2 μ2 => r2 = r ∧ μ2 = μ1) := ⟨r, μ1, ⟨rfl, rfl⟩, h⟩
theorem det_ct {Y : mm_Y} {args : List mm_V} {μ : mm_M} {r : Option mm_V} {μ1 : mm_M} (h : Ct Y args μ (fun r2 μ2 => r2 = r ∧ μ2 = μ1)) : mm_Det Y args μ r μ1 := by
  obtain ⟨r2, μ2, ⟨rfl, rfl⟩, h2⟩ := h
  exact h2
theorem det_eq {Y : mm_Y} {args : List mm_V} {μ : mm_M} {r r2 : Option mm_V} {μ1 μ2 : mm_M} (h : mm_Det Y args μ r μ1) (hr : r = r2) (hm : μ1 = μ2) : mm_Det Y args μ r2 μ2 := by
  subst hr; subst hm
  exact h
theorem ev_cS {Y Yc : mm_Y} {μ0 : mm_M} {pc idx : Nat} {x : mm_X} {t : List Nat} {e2 : mm_E} {rem : List mm_E} {L : mm_L} {st st2 : List mm_V} {μ : mm_M} {cargs : List mm_V} {Post : Option mm_V → mm_M → Prop} {r : Option mm_V} {μ2 : mm_M} (hlk : mm_lkS (mm_ow Y) idx Yc cargs.length) (hD : mm_Det Yc cargs μ r μ2) (hst : st = cargs.reverse ++ st2) (hrm : mm_rmk Y Yc) (hcs : Nat.ble (mm_cs st2) 8 = true) (k : Ev Y μ0 (e2 :: rem) L (r.toList ++ st2) μ2 Post) : Ev Y μ0 ((pc, .invokestatic idx, 3, x, t) :: e2 :: rem) L st μ Post :=
  ev_callS hlk (ct_det hD) hst hrm hcs (fun r3 μ3 h => by obtain ⟨rfl, rfl⟩ := h; exact k)
theorem ev_cV {Y Yc : mm_Y} {μ0 : mm_M} {pc idx : Nat} {x : mm_X} {t : List Nat} {e2 : mm_E} {rem : List mm_E} {L : mm_L} {st st2 : List mm_V} {μ : mm_M} {c0 kd a : Nat} {cargs : List mm_V} {Post : Option mm_V → mm_M → Prop} {r : Option mm_V} {μ2 : mm_M} (hlk : mm_lkV (mm_ow Y) idx Yc cargs.length c0) (hD : mm_Det Yc (vr kd a :: cargs) μ r μ2) (hst : st = cargs.reverse ++ vr kd a :: st2) (hkd : (Nat.beq kd (c0 + 1) || Nat.beq kd (c0 + 21)) = true) (hrm : mm_rmk Y Yc) (hcs : Nat.ble (mm_cs st2) 8 = true) (k : Ev Y μ0 (e2 :: rem) L (r.toList ++ st2) μ2 Post) : Ev Y μ0 ((pc, .invokevirtual idx, 3, x, t) :: e2 :: rem) L st μ Post :=
  ev_callV hlk (ct_det hD) hkd hst hrm hcs (fun r3 μ3 h => by obtain ⟨rfl, rfl⟩ := h; exact k)
theorem nI_and7 {j : Nat} (h : j < 8) : nI j &&& nI 7 = nI j := by
  rw [pk_andN (k := 3) (by omega) (by decide), Nat.mod_eq_of_lt h]
theorem nI_and3 {j : Nat} (h : j < 4) : nI j &&& nI 3 = nI j := by
  rw [pk_andN (k := 2) (by omega) (by decide), Nat.mod_eq_of_lt h]
theorem vin {n N : Nat} (h : n < N) (hN : N < 2 ^ 31) : vp_in (nI n) N := vp_in_nI h hN
theorem n_lt {a b : Nat} (h : a < b) (hb : b < 10000) : nI a < nI b := nI_lt h (Nat.lt_trans hb (by decide))
theorem n_nlt {a b : Nat} (h : b ≤ a) (ha : a < 10000) : ¬ nI a < nI b := nI_nlt h (Nat.lt_trans ha (by decide))
theorem n_le {a b : Nat} (h : a ≤ b) (hb : b < 10000) : nI a ≤ nI b := nI_le h (Nat.lt_trans hb (by decide))
theorem n_nle {a b : Nat} (h : a < b) (hb : b < 10000) : ¬ nI b ≤ nI a := nI_ge h (Nat.lt_trans hb (by decide))
theorem n_ne {a b : Nat} (h : a ≠ b) (ha : a < 10000) (hb : b < 10000) : ¬ nI a = nI b := fun e => h ((nI_eq (Nat.lt_trans ha (by decide)) (Nat.lt_trans hb (by decide))).mp e)
theorem n_lt0 {a : Nat} (ha : a < 10000) : ¬ nI a < 0 := nI_pos (Nat.lt_trans ha (by decide))
theorem n_ge0 {a : Nat} (ha : a < 10000) : 0 ≤ nI a := nI_pos' (Nat.lt_trans ha (by decide))
theorem n_gt0 {a : Nat} (h : 0 < a) (ha : a < 10000) : 0 < nI a := by
  have := nI_lt (a := 0) h (Nat.lt_trans ha (by decide))
  rwa [nI_0] at this
theorem n_le0 {a : Nat} (h : 0 < a) (ha : a < 10000) : ¬ nI a ≤ 0 := nI_nle h (Nat.lt_trans ha (by decide))
theorem n_ne0 {a : Nat} (h : 0 < a) (ha : a < 10000) : ¬ nI a = 0 := nI_ne0 h (Nat.lt_trans ha (by decide))
theorem n_cl {a : Nat} (ha : a < 10000) : (nI a).toNatClampNeg = a := nI_clamp (Nat.lt_trans ha (by decide))
theorem n_in {n N : Nat} (h : n < N) (hN : N < 10000) : vp_in (nI n) N := vp_in_nI h (Nat.lt_trans hN (by decide))
/-- a branch, both ways -/
theorem ev_br {Y : mm_Y} {μ0 : mm_M} {rem : List mm_E} {L : mm_L} {st : List mm_V} {μ : mm_M} {Post : Option mm_V → mm_M → Prop} {e2 e3 : mm_E} {rem2 rem3 : List mm_E} {L2 L3 : mm_L} {st2 st3 : List mm_V} {μ2 μ3 : mm_M} {c c2 : Prop} (hT : mm_go 1 (mm_co Y) rem L st μ [true] [] True = some (e2 :: rem2, L2, st2, μ2, True ∧ c)) (hF : mm_go 1 (mm_co Y) rem L st μ [false] [] True = some (e3 :: rem3, L3, st3, μ3, True ∧ c2)) (hc : ¬ c → c2) (kt : c → Ev Y μ0 (e2 :: rem2) L2 st2 μ2 Post) (kf : c2 → Ev Y μ0 (e3 :: rem3) L3 st3 μ3 Post) : Ev Y μ0 rem L st μ Post := by
  by_cases h : c
  · exact ev_gon 1 [true] [] hT ⟨trivial, h⟩ (kt h)
  · exact ev_gon 1 [false] [] hF ⟨trivial, hc h⟩ (kf (hc h))
def zb (b : Bool) : Int32 := match b with
  | true => nI 1
  | false => nI 0
theorem zb_01 (b : Bool) : zb b = 0 ∨ zb b = 1 := by cases b <;> decide
theorem zb_t {b : Bool} (h : b = true) : zb b = nI 1 := by rw [h]; rfl
theorem zb_f {b : Bool} (h : b = false) : zb b = nI 0 := by rw [h]; rfl
theorem zb_e0 {b : Bool} : zb b = 0 ↔ b = false := by cases b <;> decide
theorem zb_n0 {b : Bool} : ¬ zb b = 0 ↔ b = true := by cases b <;> decide
theorem i_le {a b : Nat} (ha : a < 10000) (hb : b < 10000) : nI a ≤ nI b ↔ a ≤ b := nI_leI (Nat.lt_trans ha (by decide)) (Nat.lt_trans hb (by decide))
theorem i_lt {a b : Nat} (ha : a < 10000) (hb : b < 10000) : nI a < nI b ↔ a < b := nI_ltI (Nat.lt_trans ha (by decide)) (Nat.lt_trans hb (by decide))
theorem i_eq {a b : Nat} (ha : a < 10000) (hb : b < 10000) : nI a = nI b ↔ a = b := nI_eq (Nat.lt_trans ha (by decide)) (Nat.lt_trans hb (by decide))
theorem i_eq0 {a : Nat} (ha : a < 10000) : nI a = 0 ↔ a = 0 := by rw [← nI_0]; exact i_eq ha (by decide)
theorem i_lt0 {a : Nat} (ha : a < 10000) : nI a < 0 ↔ False := iff_false_intro (n_lt0 ha)
theorem i_ge0 {a : Nat} (ha : a < 10000) : 0 ≤ nI a ↔ True := iff_true_intro (n_ge0 ha)
theorem i_gt0 {a : Nat} (ha : a < 10000) : 0 < nI a ↔ 0 < a := by rw [← nI_0]; exact i_lt (by decide) ha
theorem i_le0 {a : Nat} (ha : a < 10000) : nI a ≤ 0 ↔ a = 0 := by rw [← nI_0, i_le ha (by decide)]; omega
theorem i_sub {a b : Nat} (h : b ≤ a) : nI a - nI b = nI (a - b) := pk_sub h
theorem i_add (a b : Nat) : nI a + nI b = nI (a + b) := nI_add a b
theorem i_mul (a b : Nat) : nI a * nI b = nI (a * b) := pk_mul a b
