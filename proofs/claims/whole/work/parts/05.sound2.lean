/-! the judgement -/
def mm_Fx (Γ : mm_C) (Y : mm_Y) (μ0 : mm_M) (p : Program) (s : State) (m : MethodId) (args : Array Value) (meth : Method) (c : Code) : Prop :=
  p.tables.exec = Jvm.exec ∧ c.code = mm_by Y ∧ c.maxLocals = mm_ml Y ∧ meth.sig.returnType = mm_re Y ∧ meth.locks = false ∧ s.vm.findClass (mm_ow Y) = some m.cls ∧ (meth.name = (mm_nm Y).name ∧ (mm_na Y = false → mm_Lw Γ)) ∧ (∀ z ∈ mm_tbl, z.before args s = true) ∧ mm_Aw Γ ∧ mm_Sw Γ s ∧ mm_Zw Γ (mm_A Γ μ0) s s.heap ∧ s.heap.size = mm_ad Γ (mm_nx μ0) ∧ 6 ≤ mm_nx μ0
def mm_Q (Γ : mm_C) (μ0 : mm_M) (r : Option mm_V) (μ1 : mm_M) : Array Value → State → Outcome → State → Prop := fun _ st oc t => oc = .returned (r.map (mm_tr (mm_ad Γ))) ∧ mm_Rw Γ μ1 t.heap ∧ va_F (mm_A Γ μ0) st t
def mm_rm (Y : mm_Y) (μ0 μ1 : mm_M) : Room := { frames := mm_fr Y, cells := mm_nx μ1 - mm_nx μ0, slots := mm_sz μ1 - mm_sz μ0, locals := mm_lo Y }
def mm_suf (Y : mm_Y) (rem : List mm_E) : Prop := ∃ pre, mm_co Y = pre ++ rem
def mm_WW (Γ : mm_C) (Y : mm_Y) (μ0 : mm_M) (pc : Nat) (st : List mm_V) (μ : mm_M) (r : Option mm_V) (μ1 : mm_M) (l : Launch) (p : Program) (e : Env) (s : State) (m : MethodId) (args : Array Value) (below : List Frame) (meth : Method) (c : Code) (H : Heap) (locs : List Loc) (ls : Array Slot) : Prop :=
  W p l e (mm_rm Y μ0 μ1) s m args below meth c H locs (mm_nx μ - mm_nx μ0) (mm_sz μ - mm_sz μ0) (MQ below (mm_Q Γ μ0 r μ1) args s (mm_nx μ1 - mm_nx μ0) (mm_sz μ1 - mm_sz μ0) (mm_A Γ μ0)) (F0 m pc ls (st.map (mm_tr (mm_ad Γ))))
def mm_rt (Y : mm_Y) (r : Option mm_V) : Prop := match mm_re Y with
  | some .int => ∃ z, r = some (vi z)
  | some .long => ∃ z, r = some (vl z)
  | _ => True
def mm_st (Y : mm_Y) (μ μ1 : mm_M) : Prop := mm_na Y = true → mm_nx μ1 = mm_nx μ ∧ mm_sz μ1 = mm_sz μ
def mm_Ev0 (Y : mm_Y) (μ0 : mm_M) (rem : List mm_E) (L : mm_L) (st : List mm_V) (μ : mm_M) (r : Option mm_V) (μ1 : mm_M) : Prop :=
  mm_ok Y → mm_suf Y rem → mm_wf μ → mm_le μ0 μ → mm_okL μ.1 L → mm_okl μ.1 st → mm_le μ μ1 ∧ mm_wf μ1 ∧ ((mm_okr μ1.1 r ∧ mm_rt Y r) ∧ mm_st Y μ μ1) ∧
    ∀ (Γ : mm_C) (l : Launch) (p : Program) (e : Env) (s : State) (m : MethodId) (args : Array Value) (below : List Frame) (meth : Method) (c : Code) (H : Heap) (locs : List Loc) (ls : Array Slot),
      mm_Fx Γ Y μ0 p s m args meth c → mm_Rw Γ μ H → va_S (mm_A Γ μ0) s.heap H locs → lv_has ls (mm_ml Y) (mm_tL (mm_ad Γ) L) → mm_WW Γ Y μ0 (mm_pcs rem) st μ r μ1 l p e s m args below meth c H locs ls
theorem mm_suf.tl {Y : mm_Y} {e : mm_E} {rem : List mm_E} (h : mm_suf Y (e :: rem)) : mm_suf Y rem := by
  obtain ⟨pre, h⟩ := h
  exact ⟨pre ++ [e], by rw [h]; simp⟩
theorem mm_suf.mem {Y : mm_Y} {e : mm_E} {rem : List mm_E} (h : mm_suf Y (e :: rem)) : e ∈ mm_co Y := by
  obtain ⟨pre, h⟩ := h
  rw [h]; simp
theorem mm_adj_app : ∀ (pre : List mm_E) {a b : mm_E} {l : List mm_E}, mm_adj (pre ++ a :: b :: l) = true → a.1 + a.2.2.1 = b.1
  | [], a, b, l, h => by
    simp [mm_adj] at h
    exact h.1
  | [x], a, b, l, h => by
    simp [mm_adj] at h
    exact h.2.1
  | x :: y :: pre, a, b, l, h => by
    refine mm_adj_app (y :: pre) (a := a) (b := b) (l := l) ?_
    simp only [List.cons_append, mm_adj, Bool.and_eq_true] at h
    exact h.2
theorem mm_suf.adj {Y : mm_Y} (hk : mm_ok Y) {e e2 : mm_E} {rem : List mm_E} (h : mm_suf Y (e :: e2 :: rem)) : e.1 + e.2.2.1 = mm_pcs (e2 :: rem) := by
  obtain ⟨pre, h⟩ := h
  obtain ⟨-, h2, -⟩ := hk
  rw [Bool.and_eq_true, h] at h2
  exact mm_adj_app pre h2.2
theorem mm_suf.dec {Y : mm_Y} (hk : mm_ok Y) {pc : Nat} {i : Instr} {len : Nat} {x : mm_X} {t : List Nat} {rem : List mm_E} (h : mm_suf Y ((pc, i, len, x, t) :: rem)) : decode (mm_by Y) pc = .ok (i, len) :=
  by
  have h1 := hk.1
  unfold mm_ckd at h1
  have h2 := List.all_eq_true.mp h1 _ h.mem
  dsimp only at h2
  exact of_decide_eq_true h2
theorem mm_suf.ck {Y : mm_Y} (hk : mm_ok Y) {pc : Nat} {i : Instr} {len x1 x2 x3 x4 x5 : Nat} {t : List Nat} {rem : List mm_E} (h : mm_suf Y ((pc, i, len, (x1, x2, x3, x4, x5), t) :: rem)) : mm_lok i len = true ∧ mm_ck2 (mm_ow Y) (mm_nm Y) (mm_fr Y) (mm_lo Y) (mm_ml Y) pc i x1 x2 x3 x4 x5 t = true := by
  have h2 := hk.2.1
  rw [Bool.and_eq_true] at h2
  have h3 := List.all_eq_true.mp h2.1 _ h.mem
  exact (Bool.and_eq_true _ _).mp h3
theorem mm_to_suf : ∀ (l : List mm_E) (pc : Nat), ∃ pre, l = pre ++ mm_to l pc
  | [], _ => ⟨[], rfl⟩
  | e :: l, pc => by
    unfold mm_to
    split
    · exact ⟨[], rfl⟩
    · obtain ⟨pre, h⟩ := mm_to_suf l pc
      exact ⟨e :: pre, by rw [List.cons_append, ← h]⟩
theorem mm_to_pc : ∀ (l : List mm_E) (pc : Nat) {e : mm_E} {r : List mm_E}, mm_to l pc = e :: r → e.1 = pc
  | [], _, _, _, h => by cases h
  | x :: l, pc, e, r, h => by
    unfold mm_to at h
    split at h
    · next hb =>
      cases h
      exact Nat.eq_of_beq_eq_true hb
    · exact mm_to_pc l pc h
/-- an instruction that goes on behind itself; the locals may change -/
theorem mm_fall {Y : mm_Y} {μ0 : mm_M} {pc : Nat} {i : Instr} {len x1 x2 x3 x4 x5 : Nat} {t : List Nat} {e2 : mm_E} {rem : List mm_E} {L L2 : mm_L} {st st2 : List mm_V} {μ : mm_M} {r : Option mm_V} {μ1 : mm_M}
    (hrow : ∀ (Γ : mm_C) (l : Launch) (p : Program) (e : Env) (s : State) (m : MethodId) (args : Array Value) (below : List Frame) (meth : Method) (c : Code) (H : Heap) (locs : List Loc) (ls : Array Slot) (R : Room) (cells slots : Nat) (Q : State → Prop), mm_Fx Γ Y μ0 p s m args meth c → mm_lok i len = true → mm_ck2 (mm_ow Y) (mm_nm Y) (mm_fr Y) (mm_lo Y) (mm_ml Y) pc i x1 x2 x3 x4 x5 t = true → decode (mm_by Y) pc = .ok (i, len) → (R.frames = mm_fr Y ∧ R.locals = mm_lo Y ∧ cells ≤ R.cells ∧ slots ≤ R.slots) → (mm_okL μ.1 L ∧ mm_okl μ.1 st ∧ mm_Rw Γ μ H ∧ va_S (mm_A Γ μ0) s.heap H locs) → lv_has ls (mm_ml Y) (mm_tL (mm_ad Γ) L) → (∀ ls2, lv_has ls2 (mm_ml Y) (mm_tL (mm_ad Γ) L2) → W p l e R s m args below meth c H locs cells slots Q (F0 m (pc + len) ls2 (st2.map (mm_tr (mm_ad Γ))))) → W p l e R s m args below meth c H locs cells slots Q (F0 m pc ls (st.map (mm_tr (mm_ad Γ)))))
    (hokv : mm_ck2 (mm_ow Y) (mm_nm Y) (mm_fr Y) (mm_lo Y) (mm_ml Y) pc i x1 x2 x3 x4 x5 t = true → mm_wf μ → mm_okL μ.1 L → mm_okl μ.1 st → mm_okL μ.1 L2 ∧ mm_okl μ.1 st2) (k : mm_Ev0 Y μ0 (e2 :: rem) L2 st2 μ r μ1) : mm_Ev0 Y μ0 ((pc, i, len, (x1, x2, x3, x4, x5), t) :: e2 :: rem) L st μ r μ1 := by
  intro hk hs hwf hle hL hst
  obtain ⟨o1, o2⟩ := hokv (hs.ck hk).2 hwf hL hst
  obtain ⟨k1, k2, k4, k3⟩ := k hk hs.tl hwf hle o1 o2
  refine ⟨k1, k2, k4, fun Γ l p e s m args below meth c H locs ls hF hR hS hl => ?_⟩
  refine hrow Γ l p e s m args below meth c H locs ls _ _ _ _ hF (hs.ck hk).1 (hs.ck hk).2 (hs.dec hk) ⟨rfl, rfl, ?_, ?_⟩ ⟨hL, hst, hR, hS⟩ hl (fun ls2 hl2 => ?_)
  · have := k1.1; show _ ≤ mm_nx μ1 - mm_nx μ0; omega
  · have := k1.2.1; show _ ≤ mm_sz μ1 - mm_sz μ0; omega
  · have := k3 Γ l p e s m args below meth c H locs ls2 hF hR hS hl2
    unfold mm_WW at this
    rw [← hs.adj hk] at this
    exact this
/-- an instruction that jumps -/
theorem mm_jump {Y : mm_Y} {μ0 : mm_M} {pc : Nat} {i : Instr} {len tg x1 x2 x3 x4 x5 : Nat} {t : List Nat} {e2 : mm_E} {rem rem2 : List mm_E} {L : mm_L} {st st2 : List mm_V} {μ : mm_M} {r : Option mm_V} {μ1 : mm_M}
    (hrow : ∀ (Γ : mm_C) (l : Launch) (p : Program) (e : Env) (s : State) (m : MethodId) (args : Array Value) (below : List Frame) (meth : Method) (c : Code) (H : Heap) (locs : List Loc) (ls : Array Slot) (R : Room) (cells slots : Nat) (Q : State → Prop), mm_Fx Γ Y μ0 p s m args meth c → mm_lok i len = true → mm_ck2 (mm_ow Y) (mm_nm Y) (mm_fr Y) (mm_lo Y) (mm_ml Y) pc i x1 x2 x3 x4 x5 t = true → decode (mm_by Y) pc = .ok (i, len) → (mm_okl μ.1 st ∧ mm_Rw Γ μ H) → W p l e R s m args below meth c H locs cells slots Q (F0 m tg ls (st2.map (mm_tr (mm_ad Γ)))) → W p l e R s m args below meth c H locs cells slots Q (F0 m pc ls (st.map (mm_tr (mm_ad Γ)))))
    (hokv : mm_okl μ.1 st → mm_okl μ.1 st2) (hto : mm_to (mm_co Y) tg = e2 :: rem2) (k : mm_Ev0 Y μ0 (e2 :: rem2) L st2 μ r μ1) : mm_Ev0 Y μ0 ((pc, i, len, (x1, x2, x3, x4, x5), t) :: rem) L st μ r μ1 := by
  intro hk hs hwf hle hL hst
  have hs2 : mm_suf Y (e2 :: rem2) := by
    obtain ⟨pre, h⟩ := mm_to_suf (mm_co Y) tg
    rw [hto] at h
    exact ⟨pre, h⟩
  obtain ⟨k1, k2, k4, k3⟩ := k hk hs2 hwf hle hL (hokv hst)
  refine ⟨k1, k2, k4, fun Γ l p e s m args below meth c H locs ls hF hR hS hl => ?_⟩
  refine hrow Γ l p e s m args below meth c H locs ls _ _ _ _ hF (hs.ck hk).1 (hs.ck hk).2 (hs.dec hk) ⟨hst, hR⟩ ?_
  have := k3 Γ l p e s m args below meth c H locs ls hF hR hS hl
  unfold mm_WW at this
  rw [show mm_pcs (e2 :: rem2) = tg from mm_to_pc _ _ hto] at this
  exact this
theorem mm_suf.al {Y : mm_Y} (hk : mm_ok Y) {e : mm_E} {rem : List mm_E} (h : mm_suf Y (e :: rem)) (hn : mm_na Y = true) : mm_al e.2.1 = false := by
  have h1 := hk.2.2.1.2.2
  rw [hn, Bool.true_and] at h1
  have h2 := List.any_eq_false.mp h1 _ h.mem
  cases hb : mm_al e.2.1 with
  | false => rfl
  | true => exact absurd hb h2
/-- an instruction that changes the memory and goes on behind itself -/
theorem mm_fallM {Y : mm_Y} {μ0 : mm_M} {pc : Nat} {i : Instr} {len x1 x2 x3 x4 x5 : Nat} {t : List Nat} {e2 : mm_E} {rem : List mm_E} {L : mm_L} {st st2 : List mm_V} {μ μ2 : mm_M} {r : Option mm_V} {μ1 : mm_M}
    (hrow : ∀ (Γ : mm_C) (l : Launch) (p : Program) (e : Env) (s : State) (m : MethodId) (args : Array Value) (below : List Frame) (meth : Method) (c : Code) (H : Heap) (locs : List Loc) (ls : Array Slot) (R : Room) (Q : State → Prop), mm_Fx Γ Y μ0 p s m args meth c → mm_lok i len = true → mm_ck2 (mm_ow Y) (mm_nm Y) (mm_fr Y) (mm_lo Y) (mm_ml Y) pc i x1 x2 x3 x4 x5 t = true → decode (mm_by Y) pc = .ok (i, len) → (R.frames = mm_fr Y ∧ R.locals = mm_lo Y ∧ mm_nx μ2 - mm_nx μ0 ≤ R.cells ∧ mm_sz μ2 - mm_sz μ0 ≤ R.slots) → ((mm_okL μ.1 L ∧ (mm_al i = true → mm_Lw Γ)) ∧ mm_okl μ.1 st ∧ mm_Rw Γ μ H ∧ va_S (mm_A Γ μ0) s.heap H locs ∧ mm_le μ0 μ ∧ mm_wf μ2) → ls.size = mm_ml Y → (∀ H2 locs2, mm_Rw Γ μ2 H2 → va_S (mm_A Γ μ0) s.heap H2 locs2 → W p l e R s m args below meth c H2 locs2 (mm_nx μ2 - mm_nx μ0) (mm_sz μ2 - mm_sz μ0) Q (F0 m (pc + len) ls (st2.map (mm_tr (mm_ad Γ))))) → W p l e R s m args below meth c H locs (mm_nx μ - mm_nx μ0) (mm_sz μ - mm_sz μ0) Q (F0 m pc ls (st.map (mm_tr (mm_ad Γ)))))
    (hm : mm_ck2 (mm_ow Y) (mm_nm Y) (mm_fr Y) (mm_lo Y) (mm_ml Y) pc i x1 x2 x3 x4 x5 t = true → mm_wf μ → mm_okl μ.1 st → mm_le μ μ2 ∧ mm_wf μ2) (hokv : mm_ck2 (mm_ow Y) (mm_nm Y) (mm_fr Y) (mm_lo Y) (mm_ml Y) pc i x1 x2 x3 x4 x5 t = true → mm_okl μ2.1 st → mm_okl μ.1 st → mm_wf μ → mm_okl μ2.1 st2) (k : mm_Ev0 Y μ0 (e2 :: rem) L st2 μ2 r μ1) (hnx : mm_al i = false → mm_nx μ2 = mm_nx μ ∧ mm_sz μ2 = mm_sz μ := by first | exact fun _ => ⟨rfl, rfl⟩ | exact fun h => absurd (show true = false from h) (by decide)) : mm_Ev0 Y μ0 ((pc, i, len, (x1, x2, x3, x4, x5), t) :: e2 :: rem) L st μ r μ1 := by
  intro hk hs hwf hle hL hst
  obtain ⟨m1, m2⟩ := hm (hs.ck hk).2 hwf hst
  obtain ⟨k1, k2, k4, k3⟩ := k hk hs.tl m2 (hle.tr m1) (hL.up m1) (hokv (hs.ck hk).2 (hst.up m1) hst hwf)
  refine ⟨m1.tr k1, k2, ⟨k4.1, fun hn => ⟨(k4.2 hn).1.trans (hnx (hs.al hk hn)).1, (k4.2 hn).2.trans (hnx (hs.al hk hn)).2⟩⟩, fun Γ l p e s m args below meth c H locs ls hF hR hS hl => ?_⟩
  refine hrow Γ l p e s m args below meth c H locs ls _ _ hF (hs.ck hk).1 (hs.ck hk).2 (hs.dec hk) ⟨rfl, rfl, ?_, ?_⟩ ⟨⟨hL, fun ha => hF.2.2.2.2.2.2.1.2 (by
    cases hn : mm_na Y with
    | false => rfl
    | true => exact absurd (ha.symm.trans (hs.al hk hn)) (by decide))⟩, hst, hR, hS, hle, m2⟩ hl.1 (fun H2 locs2 hR2 hS2 => ?_)
  · have := k1.1; show _ ≤ mm_nx μ1 - mm_nx μ0; omega
  · have := k1.2.1; show _ ≤ mm_sz μ1 - mm_sz μ0; omega
  · have := k3 Γ l p e s m args below meth c H2 locs2 ls hF hR2 hS2 hl
    unfold mm_WW at this
    rw [← hs.adj hk] at this
    exact this
theorem mm_okl.c {K : Nat → Nat} {v : mm_V} {l : List mm_V} (h : mm_okv K v) (h2 : mm_okl K l) : mm_okl K (v :: l) := ⟨h, h2⟩
theorem mm_okl.h {K : Nat → Nat} {v : mm_V} {l : List mm_V} (h : mm_okl K (v :: l)) : mm_okv K v := h.1
theorem mm_okl.t {K : Nat → Nat} {v : mm_V} {l : List mm_V} (h : mm_okl K (v :: l)) : mm_okl K l := h.2
/-- where the machine stands behind an instruction -/
def mm_nxt (code : List mm_E) (rem : List mm_E) : Option Nat → List mm_E
  | none => rem
  | some tg => mm_to code tg
def mm_cc : Option Prop → Prop
  | none => True
  | some c => c
/-- a handler is right about its instruction -/
def mm_Sd (i : Instr) (x : mm_X) (t : List Nat) (f : mm_L → List mm_V → mm_M → List Bool → List (Option Nat) → Option mm_R) : Prop :=
  ∀ (Y : mm_Y) (μ0 : mm_M) (pc len : Nat) (rem : List mm_E) (L : mm_L) (st : List mm_V) (μ : mm_M) (bs : List Bool) (os : List (Option Nat)) (j : Option Nat) (L2 : mm_L) (st2 : List mm_V) (μ2 : mm_M) (bs2 : List Bool) (os2 : List (Option Nat)) (c : Option Prop) (e2 : mm_E) (rem2 : List mm_E) (r : Option mm_V) (μ1 : mm_M),
    f L st μ bs os = some (j, L2, st2, μ2, bs2, os2, c) → mm_cc c → mm_nxt (mm_co Y) rem j = e2 :: rem2 → mm_Ev0 Y μ0 (e2 :: rem2) L2 st2 μ2 r μ1 → mm_Ev0 Y μ0 ((pc, i, len, x, t) :: rem) L st μ r μ1
theorem mm_Sd.no (i : Instr) (x : mm_X) (t : List Nat) : mm_Sd i x t (fun _ _ _ _ _ => none) := by
  intro Y μ0 pc len rem L st μ bs os j L2 st2 μ2 bs2 os2 c e2 rem2 r μ1 h
  cases h
theorem mm_get_mem : ∀ {L : mm_L} {k : Nat} {v : mm_V}, mm_get L k = some v → (k, v) ∈ L
  | [], _, _, h => by cases h
  | (j, u) :: L, k, v, h => by
    unfold mm_get at h
    split at h
    · next hb =>
      cases h
      rw [Nat.eq_of_beq_eq_true hb]
      exact List.mem_cons_self
    · exact List.mem_cons_of_mem _ (mm_get_mem h)
theorem mm_has_get {ad : Nat → Nat} {ls : Array Slot} {nL : Nat} {L : mm_L} (hl : lv_has ls nL (mm_tL ad L)) {k : Nat} {v : mm_V} (h : mm_get L k = some v) : ls[k]? = some (.val (mm_tr ad v)) :=
  hl.2.2 (k, mm_tr ad v) (List.mem_map.mpr ⟨(k, v), mm_get_mem h, rfl⟩)
theorem mm_flt_mem : ∀ {L L1 : mm_L} {k : Nat}, mm_flt L k = some L1 → ∀ q ∈ L1, q ∈ L ∧ ¬ q.1 = k ∧ ¬ (q.1 + 1 = k ∧ mm_c2 q.2 = true)
  | [], L1, k, h, q, hq => by cases h; cases hq
  | (j, v) :: L, L1, k, h, q, hq => by
    unfold mm_flt at h
    split at h
    · have := mm_flt_mem h q hq
      exact ⟨List.mem_cons_of_mem _ this.1, this.2⟩
    · next hb =>
      split at h
      · next l' hl' =>
        cases h
        rcases List.mem_cons.mp hq with e | e
        · subst e
          refine ⟨List.mem_cons_self, ?_⟩
          simp only [Bool.or_eq_false_iff, Bool.and_eq_false_iff] at hb
          refine ⟨fun z => ?_, fun z => ?_⟩
          · have z : j = k := z
            rw [z, Nat.beq_refl] at hb
            cases hb.1
          · have z1 : j + 1 = k := z.1
            rcases hb.2 with g | g
            · rw [z1, Nat.beq_refl] at g
              cases g
            · rw [z.2] at g
              cases g
        · have := mm_flt_mem hl' q e
          exact ⟨List.mem_cons_of_mem _ this.1, this.2⟩
      · cases h
theorem mm_del_mem : ∀ {L L1 : mm_L} {k : Nat}, mm_del L k = some L1 → ∀ q ∈ L1, q ∈ L ∧ ¬ q.1 = k
  | [], L1, k, h, q, hq => by cases h; cases hq
  | (j, v) :: L, L1, k, h, q, hq => by
    unfold mm_del at h
    split at h
    · have := mm_del_mem h q hq
      exact ⟨List.mem_cons_of_mem _ this.1, this.2⟩
    · next hb =>
      split at h
      · next l' hl' =>
        cases h
        rcases List.mem_cons.mp hq with e | e
        · subst e
          refine ⟨List.mem_cons_self, ?_⟩
          intro z
          have z : j = k := z
          rw [z, Nat.beq_refl] at hb
          cases hb
        · have := mm_del_mem hl' q e
          exact ⟨List.mem_cons_of_mem _ this.1, this.2⟩
      · cases h
theorem mm_ins_mem : ∀ {L L1 : mm_L} {k : Nat} {v : mm_V}, mm_ins L k v = some L1 → ∀ q ∈ L1, q = (k, v) ∨ q ∈ L
  | [], L1, k, v, h, q, hq => by
    cases h
    rcases List.mem_cons.mp hq with e | e
    · exact Or.inl e
    · cases e
  | (j, u) :: L, L1, k, v, h, q, hq => by
    unfold mm_ins at h
    split at h
    · split at h
      · next l' hl' =>
        cases h
        rcases List.mem_cons.mp hq with e | e
        · exact Or.inr (by rw [e]; exact List.mem_cons_self)
        · rcases mm_ins_mem hl' q e with g | g
          · exact Or.inl g
          · exact Or.inr (List.mem_cons_of_mem _ g)
      · cases h
    · cases h
      rcases List.mem_cons.mp hq with e | e
      · exact Or.inl e
      · exact Or.inr e
theorem mm_cat (ad : Nat → Nat) (v : mm_V) : (mm_tr ad v).category = if mm_c2 v then 2 else 1 := by
  rcases v with q | v
  · rfl
  · cases v <;> rfl
theorem mm_set1_has {ad : Nat → Nat} {nL : Nat} {L L1 : mm_L} {k : Nat} {v : mm_V} (h : mm_set1 L k v = some L1) {ls : Array Slot} (hl : lv_has ls nL ((k, mm_tr ad v) :: (mm_tL ad L).filter (fun q => !(q.1 == k) && !(q.1 + 1 == k && q.2.category == 2)))) : lv_has ls nL (mm_tL ad L1) := by
  refine ⟨hl.1, hl.2.1, fun q hq => hl.2.2 q ?_⟩
  unfold mm_set1 at h
  split at h
  · next L0 h0 =>
    obtain ⟨z, hz, rfl⟩ := List.mem_map.mp hq
    rcases mm_ins_mem h z hz with e | e
    · subst e
      exact List.mem_cons_self
    · obtain ⟨g1, g2⟩ := mm_flt_mem h0 z e
      refine List.mem_cons_of_mem _ (List.mem_filter.mpr ⟨List.mem_map.mpr ⟨z, g1, rfl⟩, ?_⟩)
      dsimp only
      rw [mm_cat]
      cases hc : mm_c2 z.2 <;> rw [hc] at g2 <;> simp at g2 ⊢ <;> exact g2
  · cases h
theorem mm_set1_ok {K : Nat → Nat} {L L1 : mm_L} {k : Nat} {v : mm_V} (h : mm_set1 L k v = some L1) (hL : mm_okL K L) (hv : mm_okv K v) : mm_okL K L1 := by
  unfold mm_set1 at h
  split at h
  · next L0 h0 =>
    intro z hz
    rcases mm_ins_mem h z hz with e | e
    · subst e; exact hv
    · exact hL z (mm_flt_mem h0 z e).1
  · cases h
theorem mm_set2_has {ad : Nat → Nat} {nL : Nat} {L L1 : mm_L} {k : Nat} {v : mm_V} (h : mm_set2 L k v = some L1) {ls : Array Slot} (hl : lv_has ls nL ((k, mm_tr ad v) :: (mm_tL ad L).filter (fun q => !(q.1 == k) && (!(q.1 == k + 1) && !(q.1 + 1 == k && q.2.category == 2))))) : lv_has ls nL (mm_tL ad L1) := by
  refine ⟨hl.1, hl.2.1, fun q hq => hl.2.2 q ?_⟩
  unfold mm_set2 at h
  split at h
  · next L0 h0 =>
    split at h
    · next L3 h3 =>
      obtain ⟨z, hz, rfl⟩ := List.mem_map.mp hq
      rcases mm_ins_mem h z hz with e | e
      · subst e
        exact List.mem_cons_self
      · obtain ⟨d1, d2⟩ := mm_del_mem h3 z e
        obtain ⟨g1, g2⟩ := mm_flt_mem h0 z d1
        refine List.mem_cons_of_mem _ (List.mem_filter.mpr ⟨List.mem_map.mpr ⟨z, g1, rfl⟩, ?_⟩)
        dsimp only
        rw [mm_cat]
        cases hc : mm_c2 z.2 <;> rw [hc] at g2 <;> simp at g2 ⊢
        · exact ⟨g2, d2⟩
        · exact ⟨g2.1, d2, g2.2⟩
    · cases h
  · cases h
theorem mm_set2_ok {K : Nat → Nat} {L L1 : mm_L} {k : Nat} {v : mm_V} (h : mm_set2 L k v = some L1) (hL : mm_okL K L) (hv : mm_okv K v) : mm_okL K L1 := by
  unfold mm_set2 at h
  split at h
  · next L0 h0 =>
    split at h
    · next L3 h3 =>
      intro z hz
      rcases mm_ins_mem h z hz with e | e
      · subst e; exact hv
      · exact hL z (mm_flt_mem h0 z (mm_del_mem h3 z e).1).1
    · cases h
  · cases h
theorem mm_prim (v : Value) : (∀ a, v ≠ .ref a) → True := fun _ => trivial
theorem mm_s_iadd (x1 x2 x3 x4 x5 : Nat) (t : List Nat) : mm_Sd .iadd (x1, x2, x3, x4, x5) t (mm_hiadd) := by
  intro Y μ0 pc len rem L st μ bs os j L2 st2 μ2 bs2 os2 c e2 rem2 r μ1 h hc hn k
  unfold mm_hiadd at h
  split at h
  · cases h
    cases hn
    refine mm_fall ?_ ?_ k
    · intro Γ l p e s m args below meth c H locs ls R cells slots Q hF hlen hck hd hrm hok hl kk
      cases eq_of_beq hlen
      exact lv_iadd hF.1 hF.2.1 hd (kk _ hl)
    · intro hck hwf hL ho
      exact ⟨hL, mm_okl.c (by intro a e; cases e) ho.t.t⟩
  · cases h
theorem mm_s_isub (x1 x2 x3 x4 x5 : Nat) (t : List Nat) : mm_Sd .isub (x1, x2, x3, x4, x5) t (mm_hisub) := by
  intro Y μ0 pc len rem L st μ bs os j L2 st2 μ2 bs2 os2 c e2 rem2 r μ1 h hc hn k
  unfold mm_hisub at h
  split at h
  · cases h
    cases hn
    refine mm_fall ?_ ?_ k
    · intro Γ l p e s m args below meth c H locs ls R cells slots Q hF hlen hck hd hrm hok hl kk
      cases eq_of_beq hlen
      exact lv_isub hF.1 hF.2.1 hd (kk _ hl)
    · intro hck hwf hL ho
      exact ⟨hL, mm_okl.c (by intro a e; cases e) ho.t.t⟩
  · cases h
theorem mm_s_imul (x1 x2 x3 x4 x5 : Nat) (t : List Nat) : mm_Sd .imul (x1, x2, x3, x4, x5) t (mm_himul) := by
  intro Y μ0 pc len rem L st μ bs os j L2 st2 μ2 bs2 os2 c e2 rem2 r μ1 h hc hn k
  unfold mm_himul at h
  split at h
  · cases h
    cases hn
    refine mm_fall ?_ ?_ k
    · intro Γ l p e s m args below meth c H locs ls R cells slots Q hF hlen hck hd hrm hok hl kk
      cases eq_of_beq hlen
      exact lv_imul hF.1 hF.2.1 hd (kk _ hl)
    · intro hck hwf hL ho
      exact ⟨hL, mm_okl.c (by intro a e; cases e) ho.t.t⟩
  · cases h
theorem mm_s_iand (x1 x2 x3 x4 x5 : Nat) (t : List Nat) : mm_Sd .iand (x1, x2, x3, x4, x5) t (mm_hiand) := by
  intro Y μ0 pc len rem L st μ bs os j L2 st2 μ2 bs2 os2 c e2 rem2 r μ1 h hc hn k
  unfold mm_hiand at h
  split at h
  · cases h
    cases hn
    refine mm_fall ?_ ?_ k
    · intro Γ l p e s m args below meth c H locs ls R cells slots Q hF hlen hck hd hrm hok hl kk
      cases eq_of_beq hlen
      exact lv_iand hF.1 hF.2.1 hd (kk _ hl)
    · intro hck hwf hL ho
      exact ⟨hL, mm_okl.c (by intro a e; cases e) ho.t.t⟩
  · cases h
theorem mm_s_ior (x1 x2 x3 x4 x5 : Nat) (t : List Nat) : mm_Sd .ior (x1, x2, x3, x4, x5) t (mm_hior) := by
  intro Y μ0 pc len rem L st μ bs os j L2 st2 μ2 bs2 os2 c e2 rem2 r μ1 h hc hn k
  unfold mm_hior at h
  split at h
  · cases h
    cases hn
    refine mm_fall ?_ ?_ k
    · intro Γ l p e s m args below meth c H locs ls R cells slots Q hF hlen hck hd hrm hok hl kk
      cases eq_of_beq hlen
      exact lv_ior hF.1 hF.2.1 hd (kk _ hl)
    · intro hck hwf hL ho
      exact ⟨hL, mm_okl.c (by intro a e; cases e) ho.t.t⟩
  · cases h
theorem mm_s_ixor (x1 x2 x3 x4 x5 : Nat) (t : List Nat) : mm_Sd .ixor (x1, x2, x3, x4, x5) t (mm_hixor) := by
  intro Y μ0 pc len rem L st μ bs os j L2 st2 μ2 bs2 os2 c e2 rem2 r μ1 h hc hn k
  unfold mm_hixor at h
  split at h
  · cases h
    cases hn
    refine mm_fall ?_ ?_ k
    · intro Γ l p e s m args below meth c H locs ls R cells slots Q hF hlen hck hd hrm hok hl kk
      cases eq_of_beq hlen
      exact lv_ixor hF.1 hF.2.1 hd (kk _ hl)
    · intro hck hwf hL ho
      exact ⟨hL, mm_okl.c (by intro a e; cases e) ho.t.t⟩
  · cases h
theorem mm_s_ishl (x1 x2 x3 x4 x5 : Nat) (t : List Nat) : mm_Sd .ishl (x1, x2, x3, x4, x5) t (mm_hishl) := by
  intro Y μ0 pc len rem L st μ bs os j L2 st2 μ2 bs2 os2 c e2 rem2 r μ1 h hc hn k
  unfold mm_hishl at h
  split at h
  · cases h
    cases hn
    refine mm_fall ?_ ?_ k
    · intro Γ l p e s m args below meth c H locs ls R cells slots Q hF hlen hck hd hrm hok hl kk
      cases eq_of_beq hlen
      exact lv_ishl hF.1 hF.2.1 hd (kk _ hl)
    · intro hck hwf hL ho
      exact ⟨hL, mm_okl.c (by intro a e; cases e) ho.t.t⟩
  · cases h
theorem mm_s_ishr (x1 x2 x3 x4 x5 : Nat) (t : List Nat) : mm_Sd .ishr (x1, x2, x3, x4, x5) t (mm_hishr) := by
  intro Y μ0 pc len rem L st μ bs os j L2 st2 μ2 bs2 os2 c e2 rem2 r μ1 h hc hn k
  unfold mm_hishr at h
  split at h
  · cases h
    cases hn
    refine mm_fall ?_ ?_ k
    · intro Γ l p e s m args below meth c H locs ls R cells slots Q hF hlen hck hd hrm hok hl kk
      cases eq_of_beq hlen
      exact lv_ishr hF.1 hF.2.1 hd (kk _ hl)
    · intro hck hwf hL ho
      exact ⟨hL, mm_okl.c (by intro a e; cases e) ho.t.t⟩
  · cases h
theorem mm_s_iushr (x1 x2 x3 x4 x5 : Nat) (t : List Nat) : mm_Sd .iushr (x1, x2, x3, x4, x5) t (mm_hiushr) := by
  intro Y μ0 pc len rem L st μ bs os j L2 st2 μ2 bs2 os2 c e2 rem2 r μ1 h hc hn k
  unfold mm_hiushr at h
  split at h
  · cases h
    cases hn
    refine mm_fall ?_ ?_ k
    · intro Γ l p e s m args below meth c H locs ls R cells slots Q hF hlen hck hd hrm hok hl kk
      cases eq_of_beq hlen
      exact lv_iushr hF.1 hF.2.1 hd rfl (kk _ hl)
    · intro hck hwf hL ho
      exact ⟨hL, mm_okl.c (by intro a e; cases e) ho.t.t⟩
  · cases h
theorem mm_s_idiv (x1 x2 x3 x4 x5 : Nat) (t : List Nat) : mm_Sd .idiv (x1, x2, x3, x4, x5) t (mm_hidiv) := by
  intro Y μ0 pc len rem L st μ bs os j L2 st2 μ2 bs2 os2 c e2 rem2 r μ1 h hc hn k
  unfold mm_hidiv at h
  split at h
  · cases h
    cases hn
    refine mm_fall ?_ ?_ k
    · intro Γ l p e s m args below meth c H locs ls R cells slots Q hF hlen hck hd hrm hok hl kk
      cases eq_of_beq hlen
      exact lv_idiv hF.1 hF.2.1 hd hc (kk _ hl)
    · intro hck hwf hL ho
      exact ⟨hL, mm_okl.c (by intro a e; cases e) ho.t.t⟩
  · cases h
theorem mm_s_irem (x1 x2 x3 x4 x5 : Nat) (t : List Nat) : mm_Sd .irem (x1, x2, x3, x4, x5) t (mm_hirem) := by
  intro Y μ0 pc len rem L st μ bs os j L2 st2 μ2 bs2 os2 c e2 rem2 r μ1 h hc hn k
  unfold mm_hirem at h
  split at h
  · cases h
    cases hn
    refine mm_fall ?_ ?_ k
    · intro Γ l p e s m args below meth c H locs ls R cells slots Q hF hlen hck hd hrm hok hl kk
      cases eq_of_beq hlen
      exact lv_irem hF.1 hF.2.1 hd hc (kk _ hl)
    · intro hck hwf hL ho
      exact ⟨hL, mm_okl.c (by intro a e; cases e) ho.t.t⟩
  · cases h
theorem mm_s_ladd (x1 x2 x3 x4 x5 : Nat) (t : List Nat) : mm_Sd .ladd (x1, x2, x3, x4, x5) t (mm_hladd) := by
  intro Y μ0 pc len rem L st μ bs os j L2 st2 μ2 bs2 os2 c e2 rem2 r μ1 h hc hn k
  unfold mm_hladd at h
  split at h
  · cases h
    cases hn
    refine mm_fall ?_ ?_ k
    · intro Γ l p e s m args below meth c H locs ls R cells slots Q hF hlen hck hd hrm hok hl kk
      cases eq_of_beq hlen
      exact lv_ladd hF.1 hF.2.1 hd (kk _ hl)
    · intro hck hwf hL ho
      exact ⟨hL, mm_okl.c (by intro a e; cases e) ho.t.t⟩
  · cases h
theorem mm_s_lsub (x1 x2 x3 x4 x5 : Nat) (t : List Nat) : mm_Sd .lsub (x1, x2, x3, x4, x5) t (mm_hlsub) := by
  intro Y μ0 pc len rem L st μ bs os j L2 st2 μ2 bs2 os2 c e2 rem2 r μ1 h hc hn k
  unfold mm_hlsub at h
  split at h
  · cases h
    cases hn
    refine mm_fall ?_ ?_ k
    · intro Γ l p e s m args below meth c H locs ls R cells slots Q hF hlen hck hd hrm hok hl kk
      cases eq_of_beq hlen
      exact lv_lsub hF.1 hF.2.1 hd (kk _ hl)
    · intro hck hwf hL ho
      exact ⟨hL, mm_okl.c (by intro a e; cases e) ho.t.t⟩
  · cases h
theorem mm_s_lmul (x1 x2 x3 x4 x5 : Nat) (t : List Nat) : mm_Sd .lmul (x1, x2, x3, x4, x5) t (mm_hlmul) := by
  intro Y μ0 pc len rem L st μ bs os j L2 st2 μ2 bs2 os2 c e2 rem2 r μ1 h hc hn k
  unfold mm_hlmul at h
  split at h
  · cases h
    cases hn
    refine mm_fall ?_ ?_ k
    · intro Γ l p e s m args below meth c H locs ls R cells slots Q hF hlen hck hd hrm hok hl kk
      cases eq_of_beq hlen
      exact lv_lmul hF.1 hF.2.1 hd (kk _ hl)
    · intro hck hwf hL ho
      exact ⟨hL, mm_okl.c (by intro a e; cases e) ho.t.t⟩
  · cases h
theorem mm_s_land (x1 x2 x3 x4 x5 : Nat) (t : List Nat) : mm_Sd .land (x1, x2, x3, x4, x5) t (mm_hland) := by
  intro Y μ0 pc len rem L st μ bs os j L2 st2 μ2 bs2 os2 c e2 rem2 r μ1 h hc hn k
  unfold mm_hland at h
  split at h
  · cases h
    cases hn
    refine mm_fall ?_ ?_ k
    · intro Γ l p e s m args below meth c H locs ls R cells slots Q hF hlen hck hd hrm hok hl kk
      cases eq_of_beq hlen
      exact lv_land hF.1 hF.2.1 hd (kk _ hl)
    · intro hck hwf hL ho
      exact ⟨hL, mm_okl.c (by intro a e; cases e) ho.t.t⟩
  · cases h
theorem mm_s_lor (x1 x2 x3 x4 x5 : Nat) (t : List Nat) : mm_Sd .lor (x1, x2, x3, x4, x5) t (mm_hlor) := by
  intro Y μ0 pc len rem L st μ bs os j L2 st2 μ2 bs2 os2 c e2 rem2 r μ1 h hc hn k
  unfold mm_hlor at h
  split at h
  · cases h
    cases hn
    refine mm_fall ?_ ?_ k
    · intro Γ l p e s m args below meth c H locs ls R cells slots Q hF hlen hck hd hrm hok hl kk
      cases eq_of_beq hlen
      exact lv_lor hF.1 hF.2.1 hd (kk _ hl)
    · intro hck hwf hL ho
      exact ⟨hL, mm_okl.c (by intro a e; cases e) ho.t.t⟩
  · cases h
theorem mm_s_lxor (x1 x2 x3 x4 x5 : Nat) (t : List Nat) : mm_Sd .lxor (x1, x2, x3, x4, x5) t (mm_hlxor) := by
  intro Y μ0 pc len rem L st μ bs os j L2 st2 μ2 bs2 os2 c e2 rem2 r μ1 h hc hn k
  unfold mm_hlxor at h
  split at h
  · cases h
    cases hn
    refine mm_fall ?_ ?_ k
    · intro Γ l p e s m args below meth c H locs ls R cells slots Q hF hlen hck hd hrm hok hl kk
      cases eq_of_beq hlen
      exact lv_lxor hF.1 hF.2.1 hd (kk _ hl)
    · intro hck hwf hL ho
      exact ⟨hL, mm_okl.c (by intro a e; cases e) ho.t.t⟩
  · cases h
theorem mm_s_ldiv (x1 x2 x3 x4 x5 : Nat) (t : List Nat) : mm_Sd .ldiv (x1, x2, x3, x4, x5) t (mm_hldiv) := by
  intro Y μ0 pc len rem L st μ bs os j L2 st2 μ2 bs2 os2 c e2 rem2 r μ1 h hc hn k
  unfold mm_hldiv at h
  split at h
  · cases h
    cases hn
    refine mm_fall ?_ ?_ k
    · intro Γ l p e s m args below meth c H locs ls R cells slots Q hF hlen hck hd hrm hok hl kk
      cases eq_of_beq hlen
      exact lv_ldiv hF.1 hF.2.1 hd hc (kk _ hl)
    · intro hck hwf hL ho
      exact ⟨hL, mm_okl.c (by intro a e; cases e) ho.t.t⟩
  · cases h
theorem mm_s_lrem (x1 x2 x3 x4 x5 : Nat) (t : List Nat) : mm_Sd .lrem (x1, x2, x3, x4, x5) t (mm_hlrem) := by
  intro Y μ0 pc len rem L st μ bs os j L2 st2 μ2 bs2 os2 c e2 rem2 r μ1 h hc hn k
  unfold mm_hlrem at h
  split at h
  · cases h
    cases hn
    refine mm_fall ?_ ?_ k
    · intro Γ l p e s m args below meth c H locs ls R cells slots Q hF hlen hck hd hrm hok hl kk
      cases eq_of_beq hlen
      exact lv_lrem hF.1 hF.2.1 hd hc (kk _ hl)
    · intro hck hwf hL ho
      exact ⟨hL, mm_okl.c (by intro a e; cases e) ho.t.t⟩
  · cases h
theorem mm_s_lshl (x1 x2 x3 x4 x5 : Nat) (t : List Nat) : mm_Sd .lshl (x1, x2, x3, x4, x5) t (mm_hlshl) := by
  intro Y μ0 pc len rem L st μ bs os j L2 st2 μ2 bs2 os2 c e2 rem2 r μ1 h hc hn k
  unfold mm_hlshl at h
  split at h
  · cases h
    cases hn
    refine mm_fall ?_ ?_ k
    · intro Γ l p e s m args below meth c H locs ls R cells slots Q hF hlen hck hd hrm hok hl kk
      cases eq_of_beq hlen
      exact lv_lshl hF.1 hF.2.1 hd rfl (kk _ hl)
    · intro hck hwf hL ho
      exact ⟨hL, mm_okl.c (by intro a e; cases e) ho.t.t⟩
  · cases h
theorem mm_s_lshr (x1 x2 x3 x4 x5 : Nat) (t : List Nat) : mm_Sd .lshr (x1, x2, x3, x4, x5) t (mm_hlshr) := by
  intro Y μ0 pc len rem L st μ bs os j L2 st2 μ2 bs2 os2 c e2 rem2 r μ1 h hc hn k
  unfold mm_hlshr at h
  split at h
  · cases h
    cases hn
    refine mm_fall ?_ ?_ k
    · intro Γ l p e s m args below meth c H locs ls R cells slots Q hF hlen hck hd hrm hok hl kk
      cases eq_of_beq hlen
      exact lv_lshr hF.1 hF.2.1 hd rfl (kk _ hl)
    · intro hck hwf hL ho
      exact ⟨hL, mm_okl.c (by intro a e; cases e) ho.t.t⟩
  · cases h
theorem mm_s_lushr (x1 x2 x3 x4 x5 : Nat) (t : List Nat) : mm_Sd .lushr (x1, x2, x3, x4, x5) t (mm_hlushr) := by
  intro Y μ0 pc len rem L st μ bs os j L2 st2 μ2 bs2 os2 c e2 rem2 r μ1 h hc hn k
  unfold mm_hlushr at h
  split at h
  · cases h
    cases hn
    refine mm_fall ?_ ?_ k
    · intro Γ l p e s m args below meth c H locs ls R cells slots Q hF hlen hck hd hrm hok hl kk
      cases eq_of_beq hlen
      exact lv_lushr hF.1 hF.2.1 hd rfl (kk _ hl)
    · intro hck hwf hL ho
      exact ⟨hL, mm_okl.c (by intro a e; cases e) ho.t.t⟩
  · cases h
theorem mm_s_ineg (x1 x2 x3 x4 x5 : Nat) (t : List Nat) : mm_Sd .ineg (x1, x2, x3, x4, x5) t (mm_hineg) := by
  intro Y μ0 pc len rem L st μ bs os j L2 st2 μ2 bs2 os2 c e2 rem2 r μ1 h hc hn k
  unfold mm_hineg at h
  split at h
  · cases h
    cases hn
    refine mm_fall ?_ ?_ k
    · intro Γ l p e s m args below meth c H locs ls R cells slots Q hF hlen hck hd hrm hok hl kk
      cases eq_of_beq hlen
      exact lv_ineg hF.1 hF.2.1 hd (kk _ hl)
    · intro hck hwf hL ho
      exact ⟨hL, mm_okl.c (by intro a e; cases e) ho.t⟩
  · cases h
theorem mm_s_i2l (x1 x2 x3 x4 x5 : Nat) (t : List Nat) : mm_Sd .i2l (x1, x2, x3, x4, x5) t (mm_hi2l) := by
  intro Y μ0 pc len rem L st μ bs os j L2 st2 μ2 bs2 os2 c e2 rem2 r μ1 h hc hn k
  unfold mm_hi2l at h
  split at h
  · cases h
    cases hn
    refine mm_fall ?_ ?_ k
    · intro Γ l p e s m args below meth c H locs ls R cells slots Q hF hlen hck hd hrm hok hl kk
      cases eq_of_beq hlen
      exact lv_i2l hF.1 hF.2.1 hd rfl (kk _ hl)
    · intro hck hwf hL ho
      exact ⟨hL, mm_okl.c (by intro a e; cases e) ho.t⟩
  · cases h
theorem mm_s_l2i (x1 x2 x3 x4 x5 : Nat) (t : List Nat) : mm_Sd .l2i (x1, x2, x3, x4, x5) t (mm_hl2i) := by
  intro Y μ0 pc len rem L st μ bs os j L2 st2 μ2 bs2 os2 c e2 rem2 r μ1 h hc hn k
  unfold mm_hl2i at h
  split at h
  · cases h
    cases hn
    refine mm_fall ?_ ?_ k
    · intro Γ l p e s m args below meth c H locs ls R cells slots Q hF hlen hck hd hrm hok hl kk
      cases eq_of_beq hlen
      exact lv_l2i hF.1 hF.2.1 hd rfl (kk _ hl)
    · intro hck hwf hL ho
      exact ⟨hL, mm_okl.c (by intro a e; cases e) ho.t⟩
  · cases h
theorem mm_s_i2b (x1 x2 x3 x4 x5 : Nat) (t : List Nat) : mm_Sd .i2b (x1, x2, x3, x4, x5) t (mm_hi2b) := by
  intro Y μ0 pc len rem L st μ bs os j L2 st2 μ2 bs2 os2 c e2 rem2 r μ1 h hc hn k
  unfold mm_hi2b at h
  split at h
  · cases h
    cases hn
    refine mm_fall ?_ ?_ k
    · intro Γ l p e s m args below meth c H locs ls R cells slots Q hF hlen hck hd hrm hok hl kk
      cases eq_of_beq hlen
      exact lv_i2b hF.1 hF.2.1 hd rfl (kk _ hl)
    · intro hck hwf hL ho
      exact ⟨hL, mm_okl.c (by intro a e; cases e) ho.t⟩
  · cases h
theorem mm_s_i2s (x1 x2 x3 x4 x5 : Nat) (t : List Nat) : mm_Sd .i2s (x1, x2, x3, x4, x5) t (mm_hi2s) := by
  intro Y μ0 pc len rem L st μ bs os j L2 st2 μ2 bs2 os2 c e2 rem2 r μ1 h hc hn k
  unfold mm_hi2s at h
  split at h
  · cases h
    cases hn
    refine mm_fall ?_ ?_ k
    · intro Γ l p e s m args below meth c H locs ls R cells slots Q hF hlen hck hd hrm hok hl kk
      cases eq_of_beq hlen
      exact lv_i2s hF.1 hF.2.1 hd rfl (kk _ hl)
    · intro hck hwf hL ho
      exact ⟨hL, mm_okl.c (by intro a e; cases e) ho.t⟩
  · cases h
theorem mm_s_i2c (x1 x2 x3 x4 x5 : Nat) (t : List Nat) : mm_Sd .i2c (x1, x2, x3, x4, x5) t (mm_hi2c) := by
  intro Y μ0 pc len rem L st μ bs os j L2 st2 μ2 bs2 os2 c e2 rem2 r μ1 h hc hn k
  unfold mm_hi2c at h
  split at h
  · cases h
    cases hn
    refine mm_fall ?_ ?_ k
    · intro Γ l p e s m args below meth c H locs ls R cells slots Q hF hlen hck hd hrm hok hl kk
      cases eq_of_beq hlen
      exact lv_i2c hF.1 hF.2.1 hd rfl (kk _ hl)
    · intro hck hwf hL ho
      exact ⟨hL, mm_okl.c (by intro a e; cases e) ho.t⟩
  · cases h
theorem mm_s_fadd (x1 x2 x3 x4 x5 : Nat) (t : List Nat) : mm_Sd .fadd (x1, x2, x3, x4, x5) t (mm_hfadd) := by
  intro Y μ0 pc len rem L st μ bs os j L2 st2 μ2 bs2 os2 c e2 rem2 r μ1 h hc hn k
  unfold mm_hfadd at h
  split at h
  · cases h
    cases hn
    refine mm_fall ?_ ?_ k
    · intro Γ l p e s m args below meth c H locs ls R cells slots Q hF hlen hck hd hrm hok hl kk
      cases eq_of_beq hlen
      exact lv_fadd hF.1 hF.2.1 hd hc (kk _ hl)
    · intro hck hwf hL ho
      exact ⟨hL, mm_okl.c (by intro a e; cases e) ho.t.t⟩
  · cases h
theorem mm_s_fsub (x1 x2 x3 x4 x5 : Nat) (t : List Nat) : mm_Sd .fsub (x1, x2, x3, x4, x5) t (mm_hfsub) := by
  intro Y μ0 pc len rem L st μ bs os j L2 st2 μ2 bs2 os2 c e2 rem2 r μ1 h hc hn k
  unfold mm_hfsub at h
  split at h
  · cases h
    cases hn
    refine mm_fall ?_ ?_ k
    · intro Γ l p e s m args below meth c H locs ls R cells slots Q hF hlen hck hd hrm hok hl kk
      cases eq_of_beq hlen
      exact lv_fsub hF.1 hF.2.1 hd hc (kk _ hl)
    · intro hck hwf hL ho
      exact ⟨hL, mm_okl.c (by intro a e; cases e) ho.t.t⟩
  · cases h
theorem mm_s_fmul (x1 x2 x3 x4 x5 : Nat) (t : List Nat) : mm_Sd .fmul (x1, x2, x3, x4, x5) t (mm_hfmul) := by
  intro Y μ0 pc len rem L st μ bs os j L2 st2 μ2 bs2 os2 c e2 rem2 r μ1 h hc hn k
  unfold mm_hfmul at h
  split at h
  · cases h
    cases hn
    refine mm_fall ?_ ?_ k
    · intro Γ l p e s m args below meth c H locs ls R cells slots Q hF hlen hck hd hrm hok hl kk
      cases eq_of_beq hlen
      exact lv_fmul hF.1 hF.2.1 hd hc (kk _ hl)
    · intro hck hwf hL ho
      exact ⟨hL, mm_okl.c (by intro a e; cases e) ho.t.t⟩
  · cases h
theorem mm_s_fdiv (x1 x2 x3 x4 x5 : Nat) (t : List Nat) : mm_Sd .fdiv (x1, x2, x3, x4, x5) t (mm_hfdiv) := by
  intro Y μ0 pc len rem L st μ bs os j L2 st2 μ2 bs2 os2 c e2 rem2 r μ1 h hc hn k
  unfold mm_hfdiv at h
  split at h
  · cases h
    cases hn
    refine mm_fall ?_ ?_ k
    · intro Γ l p e s m args below meth c H locs ls R cells slots Q hF hlen hck hd hrm hok hl kk
      cases eq_of_beq hlen
      exact lv_fdiv hF.1 hF.2.1 hd hc (kk _ hl)
    · intro hck hwf hL ho
      exact ⟨hL, mm_okl.c (by intro a e; cases e) ho.t.t⟩
  · cases h
theorem mm_s_frem (x1 x2 x3 x4 x5 : Nat) (t : List Nat) : mm_Sd .frem (x1, x2, x3, x4, x5) t (mm_hfrem) := by
  intro Y μ0 pc len rem L st μ bs os j L2 st2 μ2 bs2 os2 c e2 rem2 r μ1 h hc hn k
  unfold mm_hfrem at h
  split at h
  · cases h
    cases hn
    refine mm_fall ?_ ?_ k
    · intro Γ l p e s m args below meth c H locs ls R cells slots Q hF hlen hck hd hrm hok hl kk
      cases eq_of_beq hlen
      exact lv_frem hF.1 hF.2.1 hd hc (kk _ hl)
    · intro hck hwf hL ho
      exact ⟨hL, mm_okl.c (by intro a e; cases e) ho.t.t⟩
  · cases h
theorem mm_s_dadd (x1 x2 x3 x4 x5 : Nat) (t : List Nat) : mm_Sd .dadd (x1, x2, x3, x4, x5) t (mm_hdadd) := by
  intro Y μ0 pc len rem L st μ bs os j L2 st2 μ2 bs2 os2 c e2 rem2 r μ1 h hc hn k
  unfold mm_hdadd at h
  split at h
  · cases h
    cases hn
    refine mm_fall ?_ ?_ k
    · intro Γ l p e s m args below meth c H locs ls R cells slots Q hF hlen hck hd hrm hok hl kk
      cases eq_of_beq hlen
      exact lv_dadd hF.1 hF.2.1 hd hc (kk _ hl)
    · intro hck hwf hL ho
      exact ⟨hL, mm_okl.c (by intro a e; cases e) ho.t.t⟩
  · cases h
theorem mm_s_dsub (x1 x2 x3 x4 x5 : Nat) (t : List Nat) : mm_Sd .dsub (x1, x2, x3, x4, x5) t (mm_hdsub) := by
  intro Y μ0 pc len rem L st μ bs os j L2 st2 μ2 bs2 os2 c e2 rem2 r μ1 h hc hn k
  unfold mm_hdsub at h
  split at h
  · cases h
    cases hn
    refine mm_fall ?_ ?_ k
    · intro Γ l p e s m args below meth c H locs ls R cells slots Q hF hlen hck hd hrm hok hl kk
      cases eq_of_beq hlen
      exact lv_dsub hF.1 hF.2.1 hd hc (kk _ hl)
    · intro hck hwf hL ho
      exact ⟨hL, mm_okl.c (by intro a e; cases e) ho.t.t⟩
  · cases h
theorem mm_s_dmul (x1 x2 x3 x4 x5 : Nat) (t : List Nat) : mm_Sd .dmul (x1, x2, x3, x4, x5) t (mm_hdmul) := by
  intro Y μ0 pc len rem L st μ bs os j L2 st2 μ2 bs2 os2 c e2 rem2 r μ1 h hc hn k
  unfold mm_hdmul at h
  split at h
  · cases h
    cases hn
    refine mm_fall ?_ ?_ k
    · intro Γ l p e s m args below meth c H locs ls R cells slots Q hF hlen hck hd hrm hok hl kk
      cases eq_of_beq hlen
      exact lv_dmul hF.1 hF.2.1 hd hc (kk _ hl)
    · intro hck hwf hL ho
      exact ⟨hL, mm_okl.c (by intro a e; cases e) ho.t.t⟩
  · cases h
theorem mm_s_ddiv (x1 x2 x3 x4 x5 : Nat) (t : List Nat) : mm_Sd .ddiv (x1, x2, x3, x4, x5) t (mm_hddiv) := by
  intro Y μ0 pc len rem L st μ bs os j L2 st2 μ2 bs2 os2 c e2 rem2 r μ1 h hc hn k
  unfold mm_hddiv at h
  split at h
  · cases h
    cases hn
    refine mm_fall ?_ ?_ k
    · intro Γ l p e s m args below meth c H locs ls R cells slots Q hF hlen hck hd hrm hok hl kk
      cases eq_of_beq hlen
      exact lv_ddiv hF.1 hF.2.1 hd hc (kk _ hl)
    · intro hck hwf hL ho
      exact ⟨hL, mm_okl.c (by intro a e; cases e) ho.t.t⟩
  · cases h
theorem mm_s_drem (x1 x2 x3 x4 x5 : Nat) (t : List Nat) : mm_Sd .drem (x1, x2, x3, x4, x5) t (mm_hdrem) := by
  intro Y μ0 pc len rem L st μ bs os j L2 st2 μ2 bs2 os2 c e2 rem2 r μ1 h hc hn k
  unfold mm_hdrem at h
  split at h
  · cases h
    cases hn
    refine mm_fall ?_ ?_ k
    · intro Γ l p e s m args below meth c H locs ls R cells slots Q hF hlen hck hd hrm hok hl kk
      cases eq_of_beq hlen
      exact lv_drem hF.1 hF.2.1 hd hc (kk _ hl)
    · intro hck hwf hL ho
      exact ⟨hL, mm_okl.c (by intro a e; cases e) ho.t.t⟩
  · cases h
theorem mm_s_dneg (x1 x2 x3 x4 x5 : Nat) (t : List Nat) : mm_Sd .dneg (x1, x2, x3, x4, x5) t (mm_hdneg) := by
  intro Y μ0 pc len rem L st μ bs os j L2 st2 μ2 bs2 os2 c e2 rem2 r μ1 h hc hn k
  unfold mm_hdneg at h
  split at h
  · cases h
    cases hn
    refine mm_fall ?_ ?_ k
    · intro Γ l p e s m args below meth c H locs ls R cells slots Q hF hlen hck hd hrm hok hl kk
      cases eq_of_beq hlen
      exact lv_dneg hF.1 hF.2.1 hd (kk _ hl)
    · intro hck hwf hL ho
      exact ⟨hL, mm_okl.c (by intro a e; cases e) ho.t⟩
  · cases h
theorem mm_s_i2f (x1 x2 x3 x4 x5 : Nat) (t : List Nat) : mm_Sd .i2f (x1, x2, x3, x4, x5) t (mm_hi2f) := by
  intro Y μ0 pc len rem L st μ bs os j L2 st2 μ2 bs2 os2 c e2 rem2 r μ1 h hc hn k
  unfold mm_hi2f at h
  split at h
  · cases h
    cases hn
    refine mm_fall ?_ ?_ k
    · intro Γ l p e s m args below meth c H locs ls R cells slots Q hF hlen hck hd hrm hok hl kk
      cases eq_of_beq hlen
      exact lv_i2f hF.1 hF.2.1 hd (kk _ hl)
    · intro hck hwf hL ho
      exact ⟨hL, mm_okl.c (by intro a e; cases e) ho.t⟩
  · cases h
theorem mm_s_l2f (x1 x2 x3 x4 x5 : Nat) (t : List Nat) : mm_Sd .l2f (x1, x2, x3, x4, x5) t (mm_hl2f) := by
  intro Y μ0 pc len rem L st μ bs os j L2 st2 μ2 bs2 os2 c e2 rem2 r μ1 h hc hn k
  unfold mm_hl2f at h
  split at h
  · cases h
    cases hn
    refine mm_fall ?_ ?_ k
    · intro Γ l p e s m args below meth c H locs ls R cells slots Q hF hlen hck hd hrm hok hl kk
      cases eq_of_beq hlen
      exact lv_l2f hF.1 hF.2.1 hd (kk _ hl)
    · intro hck hwf hL ho
      exact ⟨hL, mm_okl.c (by intro a e; cases e) ho.t⟩
  · cases h
theorem mm_s_f2i (x1 x2 x3 x4 x5 : Nat) (t : List Nat) : mm_Sd .f2i (x1, x2, x3, x4, x5) t (mm_hf2i) := by
  intro Y μ0 pc len rem L st μ bs os j L2 st2 μ2 bs2 os2 c e2 rem2 r μ1 h hc hn k
  unfold mm_hf2i at h
  split at h
  · cases h
    cases hn
    refine mm_fall ?_ ?_ k
    · intro Γ l p e s m args below meth c H locs ls R cells slots Q hF hlen hck hd hrm hok hl kk
      cases eq_of_beq hlen
      exact lv_f2i hF.1 hF.2.1 hd (kk _ hl)
    · intro hck hwf hL ho
      exact ⟨hL, mm_okl.c (by intro a e; cases e) ho.t⟩
  · cases h
theorem mm_s_f2l (x1 x2 x3 x4 x5 : Nat) (t : List Nat) : mm_Sd .f2l (x1, x2, x3, x4, x5) t (mm_hf2l) := by
  intro Y μ0 pc len rem L st μ bs os j L2 st2 μ2 bs2 os2 c e2 rem2 r μ1 h hc hn k
  unfold mm_hf2l at h
  split at h
  · cases h
    cases hn
    refine mm_fall ?_ ?_ k
    · intro Γ l p e s m args below meth c H locs ls R cells slots Q hF hlen hck hd hrm hok hl kk
      cases eq_of_beq hlen
      exact lv_f2l hF.1 hF.2.1 hd (kk _ hl)
    · intro hck hwf hL ho
      exact ⟨hL, mm_okl.c (by intro a e; cases e) ho.t⟩
  · cases h
theorem mm_s_i2d (x1 x2 x3 x4 x5 : Nat) (t : List Nat) : mm_Sd .i2d (x1, x2, x3, x4, x5) t (mm_hi2d) := by
  intro Y μ0 pc len rem L st μ bs os j L2 st2 μ2 bs2 os2 c e2 rem2 r μ1 h hc hn k
  unfold mm_hi2d at h
  split at h
  · cases h
    cases hn
    refine mm_fall ?_ ?_ k
    · intro Γ l p e s m args below meth c H locs ls R cells slots Q hF hlen hck hd hrm hok hl kk
      cases eq_of_beq hlen
      exact lv_i2d hF.1 hF.2.1 hd (kk _ hl)
    · intro hck hwf hL ho
      exact ⟨hL, mm_okl.c (by intro a e; cases e) ho.t⟩
  · cases h
theorem mm_s_l2d (x1 x2 x3 x4 x5 : Nat) (t : List Nat) : mm_Sd .l2d (x1, x2, x3, x4, x5) t (mm_hl2d) := by
  intro Y μ0 pc len rem L st μ bs os j L2 st2 μ2 bs2 os2 c e2 rem2 r μ1 h hc hn k
  unfold mm_hl2d at h
  split at h
  · cases h
    cases hn
    refine mm_fall ?_ ?_ k
    · intro Γ l p e s m args below meth c H locs ls R cells slots Q hF hlen hck hd hrm hok hl kk
      cases eq_of_beq hlen
      exact lv_l2d hF.1 hF.2.1 hd (kk _ hl)
    · intro hck hwf hL ho
      exact ⟨hL, mm_okl.c (by intro a e; cases e) ho.t⟩
  · cases h
theorem mm_s_d2i (x1 x2 x3 x4 x5 : Nat) (t : List Nat) : mm_Sd .d2i (x1, x2, x3, x4, x5) t (mm_hd2i) := by
  intro Y μ0 pc len rem L st μ bs os j L2 st2 μ2 bs2 os2 c e2 rem2 r μ1 h hc hn k
  unfold mm_hd2i at h
  split at h
  · cases h
    cases hn
    refine mm_fall ?_ ?_ k
    · intro Γ l p e s m args below meth c H locs ls R cells slots Q hF hlen hck hd hrm hok hl kk
      cases eq_of_beq hlen
      exact lv_d2i hF.1 hF.2.1 hd (kk _ hl)
    · intro hck hwf hL ho
      exact ⟨hL, mm_okl.c (by intro a e; cases e) ho.t⟩
  · cases h
theorem mm_s_d2l (x1 x2 x3 x4 x5 : Nat) (t : List Nat) : mm_Sd .d2l (x1, x2, x3, x4, x5) t (mm_hd2l) := by
  intro Y μ0 pc len rem L st μ bs os j L2 st2 μ2 bs2 os2 c e2 rem2 r μ1 h hc hn k
  unfold mm_hd2l at h
  split at h
  · cases h
    cases hn
    refine mm_fall ?_ ?_ k
    · intro Γ l p e s m args below meth c H locs ls R cells slots Q hF hlen hck hd hrm hok hl kk
      cases eq_of_beq hlen
      exact lv_d2l hF.1 hF.2.1 hd (kk _ hl)
    · intro hck hwf hL ho
      exact ⟨hL, mm_okl.c (by intro a e; cases e) ho.t⟩
  · cases h
theorem mm_s_f2d (x1 x2 x3 x4 x5 : Nat) (t : List Nat) : mm_Sd .f2d (x1, x2, x3, x4, x5) t (mm_hf2d) := by
  intro Y μ0 pc len rem L st μ bs os j L2 st2 μ2 bs2 os2 c e2 rem2 r μ1 h hc hn k
  unfold mm_hf2d at h
  split at h
  · cases h
    cases hn
    refine mm_fall ?_ ?_ k
    · intro Γ l p e s m args below meth c H locs ls R cells slots Q hF hlen hck hd hrm hok hl kk
      cases eq_of_beq hlen
      exact lv_f2d hF.1 hF.2.1 hd hc (kk _ hl)
    · intro hck hwf hL ho
      exact ⟨hL, mm_okl.c (by intro a e; cases e) ho.t⟩
  · cases h
theorem mm_s_d2f (x1 x2 x3 x4 x5 : Nat) (t : List Nat) : mm_Sd .d2f (x1, x2, x3, x4, x5) t (mm_hd2f) := by
  intro Y μ0 pc len rem L st μ bs os j L2 st2 μ2 bs2 os2 c e2 rem2 r μ1 h hc hn k
  unfold mm_hd2f at h
  split at h
  · cases h
    cases hn
    refine mm_fall ?_ ?_ k
    · intro Γ l p e s m args below meth c H locs ls R cells slots Q hF hlen hck hd hrm hok hl kk
      cases eq_of_beq hlen
      exact lv_d2f hF.1 hF.2.1 hd hc (kk _ hl)
    · intro hck hwf hL ho
      exact ⟨hL, mm_okl.c (by intro a e; cases e) ho.t⟩
  · cases h
theorem mm_s_lcmp (x1 x2 x3 x4 x5 : Nat) (t : List Nat) : mm_Sd .lcmp (x1, x2, x3, x4, x5) t (mm_hlcmp) := by
  intro Y μ0 pc len rem L st μ bs os j L2 st2 μ2 bs2 os2 c e2 rem2 r μ1 h hc hn k
  unfold mm_hlcmp at h
  split at h
  · cases h
    cases hn
    refine mm_fall ?_ ?_ k
    · intro Γ l p e s m args below meth c H locs ls R cells slots Q hF hlen hck hd hrm hok hl kk
      cases eq_of_beq hlen
      exact W.lcmp hF.1 hF.2.1 hd (kk _ hl)
    · intro hck hwf hL ho
      exact ⟨hL, mm_okl.c (by intro a e; cases e) ho.t.t⟩
  · cases h
theorem mm_k_iconst {own : String} {nm : MethodName} {fr lo ml pc : Nat} {n : Int} {x1 x2 x3 x4 x5 : Nat} {t : List Nat} (h : mm_ck2 own nm fr lo ml pc (.iconst n) x1 x2 x3 x4 x5 t = true) : Int32.ofInt n = mm_cv x1 x2 := of_decide_eq_true h
theorem mm_k_bipush {own : String} {nm : MethodName} {fr lo ml pc : Nat} {n : Int} {x1 x2 x3 x4 x5 : Nat} {t : List Nat} (h : mm_ck2 own nm fr lo ml pc (.bipush n) x1 x2 x3 x4 x5 t = true) : (Int8.ofInt n).toInt32 = mm_cv x1 x2 := of_decide_eq_true h
theorem mm_k_sipush {own : String} {nm : MethodName} {fr lo ml pc : Nat} {n : Int} {x1 x2 x3 x4 x5 : Nat} {t : List Nat} (h : mm_ck2 own nm fr lo ml pc (.sipush n) x1 x2 x3 x4 x5 t = true) : (Int16.ofInt n).toInt32 = mm_cv x1 x2 := of_decide_eq_true h
theorem mm_cv_n {a b : Nat} (h : b = 0 → False) : mm_cv a b = -(nI a) := by
  unfold mm_cv
  split
  · exact absurd rfl h
  · rfl
theorem mm_k_iinc {own : String} {nm : MethodName} {fr lo ml pc k : Nat} {n : Int} {x1 x2 x3 x4 x5 : Nat} {t : List Nat} (h : mm_ck2 own nm fr lo ml pc (.iinc k n) x1 x2 x3 x4 x5 t = true) : Int32.ofInt n = mm_cv x1 x2 ∧ k < ml := ⟨of_decide_eq_true ((Bool.and_eq_true _ _).mp h).1, of_decide_eq_true ((Bool.and_eq_true _ _).mp h).2⟩
theorem mm_s_iconst (x1 x2 x3 x4 x5 : Nat) (t : List Nat) (n : Int) : mm_Sd (.iconst n) (x1, x2, x3, x4, x5) t (mm_hci x1 x2) := by
  intro Y μ0 pc len rem L st μ bs os j L2 st2 μ2 bs2 os2 c e2 rem2 r μ1 h hc hn k
  unfold mm_hci at h
  split at h
  · cases h
    cases hn
    refine mm_fall ?_ ?_ k
    · intro Γ l p e s m args below meth c H locs ls R cells slots Q hF hlen hck hd hrm hok hl kk
      cases eq_of_beq hlen
      exact lv_iconst hF.1 hF.2.1 hd (mm_k_iconst hck) (kk _ hl)
    · intro hck hwf hL ho
      exact ⟨hL, mm_okl.c (by intro a e; cases e) ho⟩
  · next hb0 =>
    cases h
    cases hn
    refine mm_fall ?_ ?_ k
    · intro Γ l p e s m args below meth c H locs ls R cells slots Q hF hlen hck hd hrm hok hl kk
      cases eq_of_beq hlen
      exact lv_iconst hF.1 hF.2.1 hd ((mm_k_iconst hck).trans (mm_cv_n hb0)) (kk _ hl)
    · intro hck hwf hL ho
      exact ⟨hL, mm_okl.c (by intro a e; cases e) ho⟩
theorem mm_s_bipush (x1 x2 x3 x4 x5 : Nat) (t : List Nat) (n : Int) : mm_Sd (.bipush n) (x1, x2, x3, x4, x5) t (mm_hci x1 x2) := by
  intro Y μ0 pc len rem L st μ bs os j L2 st2 μ2 bs2 os2 c e2 rem2 r μ1 h hc hn k
  unfold mm_hci at h
  split at h
  · cases h
    cases hn
    refine mm_fall ?_ ?_ k
    · intro Γ l p e s m args below meth c H locs ls R cells slots Q hF hlen hck hd hrm hok hl kk
      cases eq_of_beq hlen
      exact lv_bipush hF.1 hF.2.1 hd (mm_k_bipush hck) (kk _ hl)
    · intro hck hwf hL ho
      exact ⟨hL, mm_okl.c (by intro a e; cases e) ho⟩
  · next hb0 =>
    cases h
    cases hn
    refine mm_fall ?_ ?_ k
    · intro Γ l p e s m args below meth c H locs ls R cells slots Q hF hlen hck hd hrm hok hl kk
      cases eq_of_beq hlen
      exact lv_bipush hF.1 hF.2.1 hd ((mm_k_bipush hck).trans (mm_cv_n hb0)) (kk _ hl)
    · intro hck hwf hL ho
      exact ⟨hL, mm_okl.c (by intro a e; cases e) ho⟩
theorem mm_s_sipush (x1 x2 x3 x4 x5 : Nat) (t : List Nat) (n : Int) : mm_Sd (.sipush n) (x1, x2, x3, x4, x5) t (mm_hci x1 x2) := by
  intro Y μ0 pc len rem L st μ bs os j L2 st2 μ2 bs2 os2 c e2 rem2 r μ1 h hc hn k
  unfold mm_hci at h
  split at h
  · cases h
    cases hn
    refine mm_fall ?_ ?_ k
    · intro Γ l p e s m args below meth c H locs ls R cells slots Q hF hlen hck hd hrm hok hl kk
      cases eq_of_beq hlen
      exact lv_sipush hF.1 hF.2.1 hd (mm_k_sipush hck) (kk _ hl)
    · intro hck hwf hL ho
      exact ⟨hL, mm_okl.c (by intro a e; cases e) ho⟩
  · next hb0 =>
    cases h
    cases hn
    refine mm_fall ?_ ?_ k
    · intro Γ l p e s m args below meth c H locs ls R cells slots Q hF hlen hck hd hrm hok hl kk
      cases eq_of_beq hlen
      exact lv_sipush hF.1 hF.2.1 hd ((mm_k_sipush hck).trans (mm_cv_n hb0)) (kk _ hl)
    · intro hck hwf hL ho
      exact ⟨hL, mm_okl.c (by intro a e; cases e) ho⟩
theorem mm_s_lconst (x1 x2 x3 x4 x5 : Nat) (t : List Nat) (n : Fin 2) : mm_Sd (.lconst n) (x1, x2, x3, x4, x5) t (mm_hlc n.val) := by
  intro Y μ0 pc len rem L st μ bs os j L2 st2 μ2 bs2 os2 c e2 rem2 r μ1 h hc hn k
  unfold mm_hlc at h
  split at h
  · next e0 =>
    have e0 : n = 0 := Fin.ext e0
    subst e0
    cases h
    cases hn
    refine mm_fall ?_ ?_ k
    · intro Γ l p e s m args below meth c H locs ls R cells slots Q hF hlen hck hd hrm hok hl kk
      cases eq_of_beq hlen
      exact lv_lconst hF.1 hF.2.1 hd rfl (kk _ hl)
    · intro hck hwf hL ho
      exact ⟨hL, mm_okl.c (by intro a e; cases e) ho⟩
  · next e0 =>
    have e0 : n = 1 := by
      have : n.val ≠ 0 := fun z => e0 z
      exact Fin.ext (by omega)
    subst e0
    cases h
    cases hn
    refine mm_fall ?_ ?_ k
    · intro Γ l p e s m args below meth c H locs ls R cells slots Q hF hlen hck hd hrm hok hl kk
      cases eq_of_beq hlen
      exact lv_lconst hF.1 hF.2.1 hd rfl (kk _ hl)
    · intro hck hwf hL ho
      exact ⟨hL, mm_okl.c (by intro a e; cases e) ho⟩
theorem mm_s_dconst (x1 x2 x3 x4 x5 : Nat) (t : List Nat) (n : Fin 2) : mm_Sd (.dconst n) (x1, x2, x3, x4, x5) t (mm_hdc n.val) := by
  intro Y μ0 pc len rem L st μ bs os j L2 st2 μ2 bs2 os2 c e2 rem2 r μ1 h hc hn k
  unfold mm_hdc at h
  split at h
  · next e0 =>
    have e0 : n = 0 := Fin.ext e0
    subst e0
    cases h
    cases hn
    refine mm_fall ?_ ?_ k
    · intro Γ l p e s m args below meth c H locs ls R cells slots Q hF hlen hck hd hrm hok hl kk
      cases eq_of_beq hlen
      exact lv_dconst0 hF.1 hF.2.1 hd (kk _ hl)
    · intro hck hwf hL ho
      exact ⟨hL, mm_okl.c (by intro a e; cases e) ho⟩
  · next e0 =>
    have e0 : n = 1 := by
      have : n.val ≠ 0 := fun z => e0 z
      exact Fin.ext (by omega)
    subst e0
    cases h
    cases hn
    refine mm_fall ?_ ?_ k
    · intro Γ l p e s m args below meth c H locs ls R cells slots Q hF hlen hck hd hrm hok hl kk
      cases eq_of_beq hlen
      exact lv_dconst1 hF.1 hF.2.1 hd (kk _ hl)
    · intro hck hwf hL ho
      exact ⟨hL, mm_okl.c (by intro a e; cases e) ho⟩
theorem mm_s_fconst (x1 x2 x3 x4 x5 : Nat) (t : List Nat) (n : Fin 3) : mm_Sd (.fconst n) (x1, x2, x3, x4, x5) t (mm_hfc n.val) := by
  intro Y μ0 pc len rem L st μ bs os j L2 st2 μ2 bs2 os2 c e2 rem2 r μ1 h hc hn k
  unfold mm_hfc at h
  split at h
  · next e0 =>
    have e0 : n = 0 := Fin.ext e0
    subst e0
    cases h
    cases hn
    refine mm_fall ?_ ?_ k
    · intro Γ l p e s m args below meth c H locs ls R cells slots Q hF hlen hck hd hrm hok hl kk
      cases eq_of_beq hlen
      exact lv_fconst0 hF.1 hF.2.1 hd (kk _ hl)
    · intro hck hwf hL ho
      exact ⟨hL, mm_okl.c (by intro a e; cases e) ho⟩
  · next e0 =>
    have e0 : n = 1 := Fin.ext e0
    subst e0
    cases h
    cases hn
    refine mm_fall ?_ ?_ k
    · intro Γ l p e s m args below meth c H locs ls R cells slots Q hF hlen hck hd hrm hok hl kk
      cases eq_of_beq hlen
      exact lv_fconst1 hF.1 hF.2.1 hd (kk _ hl)
    · intro hck hwf hL ho
      exact ⟨hL, mm_okl.c (by intro a e; cases e) ho⟩
  · next e0 e1 =>
    have e0 : n = 2 := by
      have : n.val ≠ 0 := fun z => e0 z
      have : n.val ≠ 1 := fun z => e1 z
      exact Fin.ext (by omega)
    subst e0
    cases h
    cases hn
    refine mm_fall ?_ ?_ k
    · intro Γ l p e s m args below meth c H locs ls R cells slots Q hF hlen hck hd hrm hok hl kk
      cases eq_of_beq hlen
      exact lv_fconst2 hF.1 hF.2.1 hd (kk _ hl)
    · intro hck hwf hL ho
      exact ⟨hL, mm_okl.c (by intro a e; cases e) ho⟩
theorem mm_ct_in {own : String} {i k v : Nat} (h : (mm_cts.any fun z => decide (z.1 = own) && (z.2.1 == i) && (z.2.2.1 == k) && (z.2.2.2.1 == v)) = true) : mm_ctc own i k v ∈ tables_1 := by
  obtain ⟨z, hz, h2⟩ := List.any_eq_true.mp h
  simp only [Bool.and_eq_true, decide_eq_true_eq, beq_iff_eq] at h2
  obtain ⟨⟨⟨rfl, rfl⟩, rfl⟩, rfl⟩ := h2
  exact List.mem_of_getElem? (of_decide_eq_true (List.all_eq_true.mp mm_ctw z hz))
theorem mm_s_ldc (x1 x2 x3 x4 x5 : Nat) (t : List Nat) (n : Nat) : mm_Sd (.ldc n) (x1, x2, x3, x4, x5) t (mm_hldc x2) := by
  intro Y μ0 pc len rem L st μ bs os j L2 st2 μ2 bs2 os2 c e2 rem2 r μ1 h hc hn k
  unfold mm_hldc at h
  · cases h
    cases hn
    refine mm_fall ?_ ?_ k
    · intro Γ l p e s m args below meth c H locs ls R cells slots Q hF hlen hck hd hrm hok hl kk
      cases eq_of_beq hlen
      have h3 := (Bool.and_eq_true _ _).mp hck
      exact lv_ldc hF.1 hF.2.1 hF.2.2.2.2.2.1 (hF.2.2.2.2.2.2.2.1 _ (mm_tb (mm_ct_in h3.2) rfl)) hd (kk _ hl)
    · intro hck hwf hL ho
      exact ⟨hL, mm_okl.c (by intro a e; cases e) ho⟩
theorem mm_s_ldc2 (x1 x2 x3 x4 x5 : Nat) (t : List Nat) (n : Nat) : mm_Sd (.ldc2_w n) (x1, x2, x3, x4, x5) t (mm_hld2 x1 x2) := by
  intro Y μ0 pc len rem L st μ bs os j L2 st2 μ2 bs2 os2 c e2 rem2 r μ1 h hc hn k
  unfold mm_hld2 at h
  split at h
  · cases h
    cases hn
    refine mm_fall ?_ ?_ k
    · intro Γ l p e s m args below meth c H locs ls R cells slots Q hF hlen hck hd hrm hok hl kk
      cases eq_of_beq hlen
      have h3 := hck
      simp only [mm_ck2, Bool.and_eq_true] at h3
      exact lv_ldc2 hF.1 hF.2.1 hF.2.2.2.2.2.1 (hF.2.2.2.2.2.2.2.1 _ (mm_tb (mm_ct_in h3.2) rfl)) hd (kk _ hl)
    · intro hck hwf hL ho
      exact ⟨hL, mm_okl.c (by intro a e; cases e) ho⟩
  · cases h
    cases hn
    refine mm_fall ?_ ?_ k
    · intro Γ l p e s m args below meth c H locs ls R cells slots Q hF hlen hck hd hrm hok hl kk
      cases eq_of_beq hlen
      have h3 := hck
      simp only [mm_ck2, Bool.and_eq_true] at h3
      exact lv_ldc2d hF.1 hF.2.1 hF.2.2.2.2.2.1 (hF.2.2.2.2.2.2.2.1 _ (mm_tb (mm_ct_in h3.2) rfl)) hd (kk _ hl)
    · intro hck hwf hL ho
      exact ⟨hL, mm_okl.c (by intro a e; cases e) ho⟩
  · cases h
theorem mm_s_aconst_null (x1 x2 x3 x4 x5 : Nat) (t : List Nat) : mm_Sd .aconst_null (x1, x2, x3, x4, x5) t (mm_hnull) := by
  intro Y μ0 pc len rem L st μ bs os j L2 st2 μ2 bs2 os2 c e2 rem2 r μ1 h hc hn k
  unfold mm_hnull at h
  · cases h
    cases hn
    refine mm_fall ?_ ?_ k
    · intro Γ l p e s m args below meth c H locs ls R cells slots Q hF hlen hck hd hrm hok hl kk
      cases eq_of_beq hlen
      exact lv_null hF.1 hF.2.1 hd (kk _ hl)
    · intro hck hwf hL ho
      exact ⟨hL, mm_okl.c (by intro a e; cases e) ho⟩
theorem mm_s_iload (x1 x2 x3 x4 x5 : Nat) (t : List Nat) (k : Nat) : mm_Sd (.iload k) (x1, x2, x3, x4, x5) t (mm_hiload k) := by
  intro Y μ0 pc len rem L st μ bs os j L2 st2 μ2 bs2 os2 c e2 rem2 r μ1 h hc hn k
  unfold mm_hiload at h
  split at h
  · next v hg =>
    cases h
    cases hn
    refine mm_fall ?_ ?_ k
    · intro Γ l p e s m args below meth c H locs ls R cells slots Q hF hlen hck hd hrm hok hl kk
      cases eq_of_beq hlen
      exact lv_iload hF.1 hF.2.1 hd (mm_has_get hl hg) (kk _ hl)
    · intro hck hwf hL ho
      exact ⟨hL, mm_okl.c (by intro a e; cases e) ho⟩
  · cases h
theorem mm_s_iload_n (x1 x2 x3 x4 x5 : Nat) (t : List Nat) (k : Fin 4) : mm_Sd (.iload_n k) (x1, x2, x3, x4, x5) t (mm_hiload k.val) := by
  intro Y μ0 pc len rem L st μ bs os j L2 st2 μ2 bs2 os2 c e2 rem2 r μ1 h hc hn k
  unfold mm_hiload at h
  split at h
  · next v hg =>
    cases h
    cases hn
    refine mm_fall ?_ ?_ k
    · intro Γ l p e s m args below meth c H locs ls R cells slots Q hF hlen hck hd hrm hok hl kk
      cases eq_of_beq hlen
      exact lv_iload_n hF.1 hF.2.1 hd rfl (mm_has_get hl hg) (kk _ hl)
    · intro hck hwf hL ho
      exact ⟨hL, mm_okl.c (by intro a e; cases e) ho⟩
  · cases h
theorem mm_s_istore (x1 x2 x3 x4 x5 : Nat) (t : List Nat) (k : Nat) : mm_Sd (.istore k) (x1, x2, x3, x4, x5) t (mm_histore k) := by
  intro Y μ0 pc len rem L st μ bs os j L2 st2 μ2 bs2 os2 c e2 rem2 r μ1 h hc hn k
  unfold mm_histore at h
  split at h
  · split at h
    · next L3 hs =>
      cases h
      cases hn
      refine mm_fall ?_ ?_ k
      · intro Γ l p e s m args below meth c H locs ls R cells slots Q hF hlen hck hd hrm hok hl kk
        cases eq_of_beq hlen
        exact lv_istore hF.1 hF.2.1 hd hl (of_decide_eq_true hck) rfl (fun ls2 h2 => kk ls2 (mm_set1_has hs h2))
      · intro hck hwf hL ho
        exact ⟨mm_set1_ok hs hL ho.h, ho.t⟩
    · cases h
  · cases h
theorem mm_s_istore_n (x1 x2 x3 x4 x5 : Nat) (t : List Nat) (k : Fin 4) : mm_Sd (.istore_n k) (x1, x2, x3, x4, x5) t (mm_histore k.val) := by
  intro Y μ0 pc len rem L st μ bs os j L2 st2 μ2 bs2 os2 c e2 rem2 r μ1 h hc hn k
  unfold mm_histore at h
  split at h
  · split at h
    · next L3 hs =>
      cases h
      cases hn
      refine mm_fall ?_ ?_ k
      · intro Γ l p e s m args below meth c H locs ls R cells slots Q hF hlen hck hd hrm hok hl kk
        cases eq_of_beq hlen
        exact lv_istore_n hF.1 hF.2.1 hd rfl hl (of_decide_eq_true hck) rfl (fun ls2 h2 => kk ls2 (mm_set1_has hs h2))
      · intro hck hwf hL ho
        exact ⟨mm_set1_ok hs hL ho.h, ho.t⟩
    · cases h
  · cases h
theorem mm_s_lload (x1 x2 x3 x4 x5 : Nat) (t : List Nat) (k : Nat) : mm_Sd (.lload k) (x1, x2, x3, x4, x5) t (mm_hlload k) := by
  intro Y μ0 pc len rem L st μ bs os j L2 st2 μ2 bs2 os2 c e2 rem2 r μ1 h hc hn k
  unfold mm_hlload at h
  split at h
  · next v hg =>
    cases h
    cases hn
    refine mm_fall ?_ ?_ k
    · intro Γ l p e s m args below meth c H locs ls R cells slots Q hF hlen hck hd hrm hok hl kk
      cases eq_of_beq hlen
      exact lv_lload hF.1 hF.2.1 hd (mm_has_get hl hg) (kk _ hl)
    · intro hck hwf hL ho
      exact ⟨hL, mm_okl.c (by intro a e; cases e) ho⟩
  · cases h
theorem mm_s_lload_n (x1 x2 x3 x4 x5 : Nat) (t : List Nat) (k : Fin 4) : mm_Sd (.lload_n k) (x1, x2, x3, x4, x5) t (mm_hlload k.val) := by
  intro Y μ0 pc len rem L st μ bs os j L2 st2 μ2 bs2 os2 c e2 rem2 r μ1 h hc hn k
  unfold mm_hlload at h
  split at h
  · next v hg =>
    cases h
    cases hn
    refine mm_fall ?_ ?_ k
    · intro Γ l p e s m args below meth c H locs ls R cells slots Q hF hlen hck hd hrm hok hl kk
      cases eq_of_beq hlen
      exact lv_lload_n hF.1 hF.2.1 hd rfl (mm_has_get hl hg) (kk _ hl)
    · intro hck hwf hL ho
      exact ⟨hL, mm_okl.c (by intro a e; cases e) ho⟩
  · cases h
theorem mm_s_lstore (x1 x2 x3 x4 x5 : Nat) (t : List Nat) (k : Nat) : mm_Sd (.lstore k) (x1, x2, x3, x4, x5) t (mm_hlstore k) := by
  intro Y μ0 pc len rem L st μ bs os j L2 st2 μ2 bs2 os2 c e2 rem2 r μ1 h hc hn k
  unfold mm_hlstore at h
  split at h
  · split at h
    · next L3 hs =>
      cases h
      cases hn
      refine mm_fall ?_ ?_ k
      · intro Γ l p e s m args below meth c H locs ls R cells slots Q hF hlen hck hd hrm hok hl kk
        cases eq_of_beq hlen
        exact lv_lstore hF.1 hF.2.1 hd hl (of_decide_eq_true hck) rfl (fun ls2 h2 => kk ls2 (mm_set2_has hs h2))
      · intro hck hwf hL ho
        exact ⟨mm_set2_ok hs hL ho.h, ho.t⟩
    · cases h
  · cases h
theorem mm_s_lstore_n (x1 x2 x3 x4 x5 : Nat) (t : List Nat) (k : Fin 4) : mm_Sd (.lstore_n k) (x1, x2, x3, x4, x5) t (mm_hlstore k.val) := by
  intro Y μ0 pc len rem L st μ bs os j L2 st2 μ2 bs2 os2 c e2 rem2 r μ1 h hc hn k
  unfold mm_hlstore at h
  split at h
  · split at h
    · next L3 hs =>
      cases h
      cases hn
      refine mm_fall ?_ ?_ k
      · intro Γ l p e s m args below meth c H locs ls R cells slots Q hF hlen hck hd hrm hok hl kk
        cases eq_of_beq hlen
        exact lv_lstore_n hF.1 hF.2.1 hd rfl hl (of_decide_eq_true hck) rfl (fun ls2 h2 => kk ls2 (mm_set2_has hs h2))
      · intro hck hwf hL ho
        exact ⟨mm_set2_ok hs hL ho.h, ho.t⟩
    · cases h
  · cases h
theorem mm_s_fload (x1 x2 x3 x4 x5 : Nat) (t : List Nat) (k : Nat) : mm_Sd (.fload k) (x1, x2, x3, x4, x5) t (mm_hfload k) := by
  intro Y μ0 pc len rem L st μ bs os j L2 st2 μ2 bs2 os2 c e2 rem2 r μ1 h hc hn k
  unfold mm_hfload at h
  split at h
  · next v hg =>
    cases h
    cases hn
    refine mm_fall ?_ ?_ k
    · intro Γ l p e s m args below meth c H locs ls R cells slots Q hF hlen hck hd hrm hok hl kk
      cases eq_of_beq hlen
      exact lv_fload hF.1 hF.2.1 hd (mm_has_get hl hg) (kk _ hl)
    · intro hck hwf hL ho
      exact ⟨hL, mm_okl.c (by intro a e; cases e) ho⟩
  · cases h
theorem mm_s_fload_n (x1 x2 x3 x4 x5 : Nat) (t : List Nat) (k : Fin 4) : mm_Sd (.fload_n k) (x1, x2, x3, x4, x5) t (mm_hfload k.val) := by
  intro Y μ0 pc len rem L st μ bs os j L2 st2 μ2 bs2 os2 c e2 rem2 r μ1 h hc hn k
  unfold mm_hfload at h
  split at h
  · next v hg =>
    cases h
    cases hn
    refine mm_fall ?_ ?_ k
    · intro Γ l p e s m args below meth c H locs ls R cells slots Q hF hlen hck hd hrm hok hl kk
      cases eq_of_beq hlen
      exact lv_fload_n hF.1 hF.2.1 hd rfl (mm_has_get hl hg) (kk _ hl)
    · intro hck hwf hL ho
      exact ⟨hL, mm_okl.c (by intro a e; cases e) ho⟩
  · cases h
theorem mm_s_fstore (x1 x2 x3 x4 x5 : Nat) (t : List Nat) (k : Nat) : mm_Sd (.fstore k) (x1, x2, x3, x4, x5) t (mm_hfstore k) := by
  intro Y μ0 pc len rem L st μ bs os j L2 st2 μ2 bs2 os2 c e2 rem2 r μ1 h hc hn k
  unfold mm_hfstore at h
  split at h
  · split at h
    · next L3 hs =>
      cases h
      cases hn
      refine mm_fall ?_ ?_ k
      · intro Γ l p e s m args below meth c H locs ls R cells slots Q hF hlen hck hd hrm hok hl kk
        cases eq_of_beq hlen
        exact lv_fstore hF.1 hF.2.1 hd hl (of_decide_eq_true hck) rfl (fun ls2 h2 => kk ls2 (mm_set1_has hs h2))
      · intro hck hwf hL ho
        exact ⟨mm_set1_ok hs hL ho.h, ho.t⟩
    · cases h
  · cases h
theorem mm_s_fstore_n (x1 x2 x3 x4 x5 : Nat) (t : List Nat) (k : Fin 4) : mm_Sd (.fstore_n k) (x1, x2, x3, x4, x5) t (mm_hfstore k.val) := by
  intro Y μ0 pc len rem L st μ bs os j L2 st2 μ2 bs2 os2 c e2 rem2 r μ1 h hc hn k
  unfold mm_hfstore at h
  split at h
  · split at h
    · next L3 hs =>
      cases h
      cases hn
      refine mm_fall ?_ ?_ k
      · intro Γ l p e s m args below meth c H locs ls R cells slots Q hF hlen hck hd hrm hok hl kk
        cases eq_of_beq hlen
        exact lv_fstore_n hF.1 hF.2.1 hd rfl hl (of_decide_eq_true hck) rfl (fun ls2 h2 => kk ls2 (mm_set1_has hs h2))
      · intro hck hwf hL ho
        exact ⟨mm_set1_ok hs hL ho.h, ho.t⟩
    · cases h
  · cases h
theorem mm_s_dload (x1 x2 x3 x4 x5 : Nat) (t : List Nat) (k : Nat) : mm_Sd (.dload k) (x1, x2, x3, x4, x5) t (mm_hdload k) := by
  intro Y μ0 pc len rem L st μ bs os j L2 st2 μ2 bs2 os2 c e2 rem2 r μ1 h hc hn k
  unfold mm_hdload at h
  split at h
  · next v hg =>
    cases h
    cases hn
    refine mm_fall ?_ ?_ k
    · intro Γ l p e s m args below meth c H locs ls R cells slots Q hF hlen hck hd hrm hok hl kk
      cases eq_of_beq hlen
      exact lv_dload hF.1 hF.2.1 hd (mm_has_get hl hg) (kk _ hl)
    · intro hck hwf hL ho
      exact ⟨hL, mm_okl.c (by intro a e; cases e) ho⟩
  · cases h
theorem mm_s_dload_n (x1 x2 x3 x4 x5 : Nat) (t : List Nat) (k : Fin 4) : mm_Sd (.dload_n k) (x1, x2, x3, x4, x5) t (mm_hdload k.val) := by
  intro Y μ0 pc len rem L st μ bs os j L2 st2 μ2 bs2 os2 c e2 rem2 r μ1 h hc hn k
  unfold mm_hdload at h
  split at h
  · next v hg =>
    cases h
    cases hn
    refine mm_fall ?_ ?_ k
    · intro Γ l p e s m args below meth c H locs ls R cells slots Q hF hlen hck hd hrm hok hl kk
      cases eq_of_beq hlen
      exact lv_dload_n hF.1 hF.2.1 hd rfl (mm_has_get hl hg) (kk _ hl)
    · intro hck hwf hL ho
      exact ⟨hL, mm_okl.c (by intro a e; cases e) ho⟩
  · cases h
theorem mm_s_dstore (x1 x2 x3 x4 x5 : Nat) (t : List Nat) (k : Nat) : mm_Sd (.dstore k) (x1, x2, x3, x4, x5) t (mm_hdstore k) := by
  intro Y μ0 pc len rem L st μ bs os j L2 st2 μ2 bs2 os2 c e2 rem2 r μ1 h hc hn k
  unfold mm_hdstore at h
  split at h
  · split at h
    · next L3 hs =>
      cases h
      cases hn
      refine mm_fall ?_ ?_ k
      · intro Γ l p e s m args below meth c H locs ls R cells slots Q hF hlen hck hd hrm hok hl kk
        cases eq_of_beq hlen
        exact lv_dstore hF.1 hF.2.1 hd hl (of_decide_eq_true hck) rfl (fun ls2 h2 => kk ls2 (mm_set2_has hs h2))
      · intro hck hwf hL ho
        exact ⟨mm_set2_ok hs hL ho.h, ho.t⟩
    · cases h
  · cases h
theorem mm_s_dstore_n (x1 x2 x3 x4 x5 : Nat) (t : List Nat) (k : Fin 4) : mm_Sd (.dstore_n k) (x1, x2, x3, x4, x5) t (mm_hdstore k.val) := by
  intro Y μ0 pc len rem L st μ bs os j L2 st2 μ2 bs2 os2 c e2 rem2 r μ1 h hc hn k
  unfold mm_hdstore at h
  split at h
  · split at h
    · next L3 hs =>
      cases h
      cases hn
      refine mm_fall ?_ ?_ k
      · intro Γ l p e s m args below meth c H locs ls R cells slots Q hF hlen hck hd hrm hok hl kk
        cases eq_of_beq hlen
        exact lv_dstore_n hF.1 hF.2.1 hd rfl hl (of_decide_eq_true hck) rfl (fun ls2 h2 => kk ls2 (mm_set2_has hs h2))
      · intro hck hwf hL ho
        exact ⟨mm_set2_ok hs hL ho.h, ho.t⟩
    · cases h
  · cases h
theorem mm_s_aload (x1 x2 x3 x4 x5 : Nat) (t : List Nat) (k : Nat) : mm_Sd (.aload k) (x1, x2, x3, x4, x5) t (mm_haload k) := by
  intro Y μ0 pc len rem L st μ bs os j L2 st2 μ2 bs2 os2 c e2 rem2 r μ1 h hc hn k
  unfold mm_haload at h
  split at h
  · next q hg =>
    cases h
    cases hn
    refine mm_fall ?_ ?_ k
    · intro Γ l p e s m args below meth c H locs ls R cells slots Q hF hlen hck hd hrm hok hl kk
      cases eq_of_beq hlen
      exact lv_aload hF.1 hF.2.1 hd (mm_has_get hl hg) (kk _ hl)
    · intro hck hwf hL ho
      exact ⟨hL, mm_okl.c (hL _ (mm_get_mem hg)) ho⟩
  · next hg =>
    cases h
    cases hn
    refine mm_fall ?_ ?_ k
    · intro Γ l p e s m args below meth c H locs ls R cells slots Q hF hlen hck hd hrm hok hl kk
      cases eq_of_beq hlen
      exact lv_aloadN hF.1 hF.2.1 hd (mm_has_get hl hg) (kk _ hl)
    · intro hck hwf hL ho
      exact ⟨hL, mm_okl.c (by intro a e; cases e) ho⟩
  · cases h
theorem mm_s_aload_n (x1 x2 x3 x4 x5 : Nat) (t : List Nat) (k : Fin 4) : mm_Sd (.aload_n k) (x1, x2, x3, x4, x5) t (mm_haload k.val) := by
  intro Y μ0 pc len rem L st μ bs os j L2 st2 μ2 bs2 os2 c e2 rem2 r μ1 h hc hn k
  unfold mm_haload at h
  split at h
  · next q hg =>
    cases h
    cases hn
    refine mm_fall ?_ ?_ k
    · intro Γ l p e s m args below meth c H locs ls R cells slots Q hF hlen hck hd hrm hok hl kk
      cases eq_of_beq hlen
      exact lv_aload_n hF.1 hF.2.1 hd rfl (mm_has_get hl hg) (kk _ hl)
    · intro hck hwf hL ho
      exact ⟨hL, mm_okl.c (hL _ (mm_get_mem hg)) ho⟩
  · next hg =>
    cases h
    cases hn
    refine mm_fall ?_ ?_ k
    · intro Γ l p e s m args below meth c H locs ls R cells slots Q hF hlen hck hd hrm hok hl kk
      cases eq_of_beq hlen
      exact lv_aload_nN hF.1 hF.2.1 hd rfl (mm_has_get hl hg) (kk _ hl)
    · intro hck hwf hL ho
      exact ⟨hL, mm_okl.c (by intro a e; cases e) ho⟩
  · cases h
theorem mm_s_astore (x1 x2 x3 x4 x5 : Nat) (t : List Nat) (k : Nat) : mm_Sd (.astore k) (x1, x2, x3, x4, x5) t (mm_hastore k) := by
  intro Y μ0 pc len rem L st μ bs os j L2 st2 μ2 bs2 os2 c e2 rem2 r μ1 h hc hn k
  unfold mm_hastore at h
  split at h
  · split at h
    · next L3 hs =>
      cases h
      cases hn
      refine mm_fall ?_ ?_ k
      · intro Γ l p e s m args below meth c H locs ls R cells slots Q hF hlen hck hd hrm hok hl kk
        cases eq_of_beq hlen
        exact lv_astore hF.1 hF.2.1 hd hl (of_decide_eq_true hck) rfl (fun ls2 h2 => kk ls2 (mm_set1_has hs h2))
      · intro hck hwf hL ho
        exact ⟨mm_set1_ok hs hL ho.h, ho.t⟩
    · cases h
  · split at h
    · next L3 hs =>
      cases h
      cases hn
      refine mm_fall ?_ ?_ k
      · intro Γ l p e s m args below meth c H locs ls R cells slots Q hF hlen hck hd hrm hok hl kk
        cases eq_of_beq hlen
        exact lv_astoreN hF.1 hF.2.1 hd hl (of_decide_eq_true hck) rfl (fun ls2 h2 => kk ls2 (mm_set1_has hs h2))
      · intro hck hwf hL ho
        exact ⟨mm_set1_ok hs hL ho.h, ho.t⟩
    · cases h
  · cases h
theorem mm_s_astore_n (x1 x2 x3 x4 x5 : Nat) (t : List Nat) (k : Fin 4) : mm_Sd (.astore_n k) (x1, x2, x3, x4, x5) t (mm_hastore k.val) := by
  intro Y μ0 pc len rem L st μ bs os j L2 st2 μ2 bs2 os2 c e2 rem2 r μ1 h hc hn k
  unfold mm_hastore at h
  split at h
  · split at h
    · next L3 hs =>
      cases h
      cases hn
      refine mm_fall ?_ ?_ k
      · intro Γ l p e s m args below meth c H locs ls R cells slots Q hF hlen hck hd hrm hok hl kk
        cases eq_of_beq hlen
        exact lv_astore_n hF.1 hF.2.1 hd rfl hl (of_decide_eq_true hck) rfl (fun ls2 h2 => kk ls2 (mm_set1_has hs h2))
      · intro hck hwf hL ho
        exact ⟨mm_set1_ok hs hL ho.h, ho.t⟩
    · cases h
  · split at h
    · next L3 hs =>
      cases h
      cases hn
      refine mm_fall ?_ ?_ k
      · intro Γ l p e s m args below meth c H locs ls R cells slots Q hF hlen hck hd hrm hok hl kk
        cases eq_of_beq hlen
        exact lv_astore_nN hF.1 hF.2.1 hd rfl hl (of_decide_eq_true hck) rfl (fun ls2 h2 => kk ls2 (mm_set1_has hs h2))
      · intro hck hwf hL ho
        exact ⟨mm_set1_ok hs hL ho.h, ho.t⟩
    · cases h
  · cases h
theorem mm_s_iinc (x1 x2 x3 x4 x5 : Nat) (t : List Nat) (k : Nat) (n : Int) : mm_Sd (.iinc k n) (x1, x2, x3, x4, x5) t (mm_hiinc k x1 x2) := by
  intro Y μ0 pc len rem L st μ bs os j L2 st2 μ2 bs2 os2 c e2 rem2 r μ1 h hc hn k
  unfold mm_hiinc at h
  split at h
  · next v hg =>
    split at h
    · split at h
      · next L3 hs =>
        cases h
        cases hn
        refine mm_fall ?_ ?_ k
        · intro Γ l p e s m args below meth c H locs ls R cells slots Q hF hlen hck hd hrm hok hl kk
          cases eq_of_beq hlen
          have hck := mm_k_iinc hck
          obtain ⟨z, hz⟩ := List.getElem?_of_mem (List.mem_map.mpr ⟨_, mm_get_mem hg, rfl⟩ : (_, _) ∈ mm_tL (mm_ad Γ) L)
          exact lv_iinc hF.1 hF.2.1 hd hl hz (by rw [hck.1]; rfl) hck.2 rfl (fun ls2 h2 => kk ls2 (mm_set1_has hs h2))
        · intro hck hwf hL ho
          exact ⟨mm_set1_ok hs hL (by intro a e; cases e), ho⟩
      · cases h
    · next hb0 =>
      split at h
      · next L3 hs =>
        cases h
        cases hn
        refine mm_fall ?_ ?_ k
        · intro Γ l p e s m args below meth c H locs ls R cells slots Q hF hlen hck hd hrm hok hl kk
          cases eq_of_beq hlen
          have hck := mm_k_iinc hck
          obtain ⟨z, hz⟩ := List.getElem?_of_mem (List.mem_map.mpr ⟨_, mm_get_mem hg, rfl⟩ : (_, _) ∈ mm_tL (mm_ad Γ) L)
          exact lv_iinc hF.1 hF.2.1 hd hl hz (by rw [hck.1]; rw [mm_cv_n hb0]; exact (Int32.sub_eq_add_neg _ _).symm) hck.2 rfl (fun ls2 h2 => kk ls2 (mm_set1_has hs h2))
        · intro hck hwf hL ho
          exact ⟨mm_set1_ok hs hL (by intro a e; cases e), ho⟩
      · cases h
  · cases h
theorem mm_s_fcmp (x1 x2 x3 x4 x5 : Nat) (t : List Nat) (op : CmpOp) : mm_Sd (.fcmp op) (x1, x2, x3, x4, x5) t (mm_hfcmp op) := by
  intro Y μ0 pc len rem L st μ bs os j L2 st2 μ2 bs2 os2 c e2 rem2 r μ1 h hc hn k
  unfold mm_hfcmp at h
  split at h
  · cases h
    cases hn
    refine mm_fall ?_ ?_ k
    · intro Γ l p e s m args below meth c H locs ls R cells slots Q hF hlen hck hd hrm hok hl kk
      cases eq_of_beq hlen
      exact lv_fcmp hF.1 hF.2.1 hd (kk _ hl)
    · intro hck hwf hL ho
      exact ⟨hL, mm_okl.c (by intro a e; cases e) ho.t.t⟩
  · cases h
theorem mm_s_dcmp (x1 x2 x3 x4 x5 : Nat) (t : List Nat) (op : CmpOp) : mm_Sd (.dcmp op) (x1, x2, x3, x4, x5) t (mm_hdcmp op) := by
  intro Y μ0 pc len rem L st μ bs os j L2 st2 μ2 bs2 os2 c e2 rem2 r μ1 h hc hn k
  unfold mm_hdcmp at h
  split at h
  · cases h
    cases hn
    refine mm_fall ?_ ?_ k
    · intro Γ l p e s m args below meth c H locs ls R cells slots Q hF hlen hck hd hrm hok hl kk
      cases eq_of_beq hlen
      exact lv_dcmp hF.1 hF.2.1 hd (kk _ hl)
    · intro hck hwf hL ho
      exact ⟨hL, mm_okl.c (by intro a e; cases e) ho.t.t⟩
  · cases h
theorem mm_c21 {ad : Nat → Nat} {v : mm_V} (h : mm_c2 v = false) : (mm_tr ad v).category = 1 := by rw [mm_cat, h]; rfl
theorem mm_s_dup (x1 x2 x3 x4 x5 : Nat) (t : List Nat) : mm_Sd .dup (x1, x2, x3, x4, x5) t (mm_hdup) := by
  intro Y μ0 pc len rem L st μ bs os j L2 st2 μ2 bs2 os2 c e2 rem2 r μ1 h hc hn k
  unfold mm_hdup at h
  split at h
  · split at h
    · next hc2 =>
      cases h
      cases hn
      refine mm_fall ?_ ?_ k
      · intro Γ l p e s m args below meth c H locs ls R cells slots Q hF hlen hck hd hrm hok hl kk
        cases eq_of_beq hlen
        exact lv_dup hF.1 hF.2.1 hd (mm_c21 hc2) (kk _ hl)
      · intro hck hwf hL ho
        exact ⟨hL, mm_okl.c ho.h ho⟩
    · cases h
  · cases h
theorem mm_s_pop (x1 x2 x3 x4 x5 : Nat) (t : List Nat) : mm_Sd .pop (x1, x2, x3, x4, x5) t (mm_hpop) := by
  intro Y μ0 pc len rem L st μ bs os j L2 st2 μ2 bs2 os2 c e2 rem2 r μ1 h hc hn k
  unfold mm_hpop at h
  split at h
  · split at h
    · next hc2 =>
      cases h
      cases hn
      refine mm_fall ?_ ?_ k
      · intro Γ l p e s m args below meth c H locs ls R cells slots Q hF hlen hck hd hrm hok hl kk
        cases eq_of_beq hlen
        exact lv_pop hF.1 hF.2.1 hd (mm_c21 hc2) (kk _ hl)
      · intro hck hwf hL ho
        exact ⟨hL, ho.t⟩
    · cases h
  · cases h
theorem mm_s_dup_x1 (x1 x2 x3 x4 x5 : Nat) (t : List Nat) : mm_Sd .dup_x1 (x1, x2, x3, x4, x5) t (mm_hdup_x1) := by
  intro Y μ0 pc len rem L st μ bs os j L2 st2 μ2 bs2 os2 c e2 rem2 r μ1 h hc hn k
  unfold mm_hdup_x1 at h
  split at h
  · split at h
    · next hc2 =>
      cases h
      cases hn
      refine mm_fall ?_ ?_ k
      · intro Γ l p e s m args below meth c H locs ls R cells slots Q hF hlen hck hd hrm hok hl kk
        cases eq_of_beq hlen
        simp only [Bool.or_eq_false_iff] at hc2
        exact lv_dup_x1 hF.1 hF.2.1 hd (mm_c21 hc2.1) (mm_c21 hc2.2) (kk _ hl)
      · intro hck hwf hL ho
        exact ⟨hL, mm_okl.c ho.h (mm_okl.c ho.t.h (mm_okl.c ho.h ho.t.t))⟩
    · cases h
  · cases h
theorem mm_s_dup2 (x1 x2 x3 x4 x5 : Nat) (t : List Nat) : mm_Sd .dup2 (x1, x2, x3, x4, x5) t (mm_hdup2) := by
  intro Y μ0 pc len rem L st μ bs os j L2 st2 μ2 bs2 os2 c e2 rem2 r μ1 h hc hn k
  unfold mm_hdup2 at h
  split at h
  · split at h
    · next hc2 =>
      cases h
      cases hn
      refine mm_fall ?_ ?_ k
      · intro Γ l p e s m args below meth c H locs ls R cells slots Q hF hlen hck hd hrm hok hl kk
        cases eq_of_beq hlen
        simp only [Bool.or_eq_false_iff] at hc2
        exact lv_dup2_11 hF.1 hF.2.1 hd (mm_c21 hc2.1) (mm_c21 hc2.2) (kk _ hl)
      · intro hck hwf hL ho
        exact ⟨hL, mm_okl.c ho.h (mm_okl.c ho.t.h ho)⟩
    · cases h
  · cases h
theorem mm_s_ifCond (x1 x2 x3 x4 x5 : Nat) (t : List Nat) (q : ClassFile.Cond) (o : Int) : mm_Sd (.ifCond q o) (x1, x2, x3, x4, x5) t (mm_hif q x1) := by
  intro Y μ0 pc len rem L st μ bs os j L2 st2 μ2 bs2 os2 c e2 rem2 r μ1 h hc hn k
  unfold mm_hif at h
  cases q with
  | eq =>
    dsimp only at h
    split at h
    · split at h
      · cases h
        refine mm_jump ?_ ?_ hn k
        · intro Γ l p e s m args below meth c H locs ls R cells slots Q hF hlen hck hd hok kk
          cases eq_of_beq hlen
          exact lv_if_eq hF.1 hF.2.1 hd (of_decide_eq_true hck) (fun _ => kk) (fun z => absurd hc z)
        · intro ho
          exact ho.t
      · cases h
        cases hn
        refine mm_fall ?_ ?_ k
        · intro Γ l p e s m args below meth c H locs ls R cells slots Q hF hlen hck hd hrm hok hl kk
          cases eq_of_beq hlen
          exact lv_if_eq hF.1 hF.2.1 hd (of_decide_eq_true hck) (fun z => absurd z hc) (fun _ => kk _ hl)
        · intro hck hwf hL ho
          exact ⟨hL, ho.t⟩
      · cases h
    · cases h
  | ne =>
    dsimp only at h
    split at h
    · split at h
      · cases h
        refine mm_jump ?_ ?_ hn k
        · intro Γ l p e s m args below meth c H locs ls R cells slots Q hF hlen hck hd hok kk
          cases eq_of_beq hlen
          exact lv_if_ne hF.1 hF.2.1 hd (of_decide_eq_true hck) (fun _ => kk) (fun z => absurd z hc)
        · intro ho
          exact ho.t
      · cases h
        cases hn
        refine mm_fall ?_ ?_ k
        · intro Γ l p e s m args below meth c H locs ls R cells slots Q hF hlen hck hd hrm hok hl kk
          cases eq_of_beq hlen
          exact lv_if_ne hF.1 hF.2.1 hd (of_decide_eq_true hck) (fun z => absurd hc z) (fun _ => kk _ hl)
        · intro hck hwf hL ho
          exact ⟨hL, ho.t⟩
      · cases h
    · cases h
  | lt =>
    dsimp only at h
    split at h
    · split at h
      · cases h
        refine mm_jump ?_ ?_ hn k
        · intro Γ l p e s m args below meth c H locs ls R cells slots Q hF hlen hck hd hok kk
          cases eq_of_beq hlen
          exact lv_if_lt hF.1 hF.2.1 hd (of_decide_eq_true hck) (fun _ => kk) (fun z => absurd hc z)
        · intro ho
          exact ho.t
      · cases h
        cases hn
        refine mm_fall ?_ ?_ k
        · intro Γ l p e s m args below meth c H locs ls R cells slots Q hF hlen hck hd hrm hok hl kk
          cases eq_of_beq hlen
          exact lv_if_lt hF.1 hF.2.1 hd (of_decide_eq_true hck) (fun z => absurd z hc) (fun _ => kk _ hl)
        · intro hck hwf hL ho
          exact ⟨hL, ho.t⟩
      · cases h
    · cases h
  | ge =>
    dsimp only at h
    split at h
    · split at h
      · cases h
        refine mm_jump ?_ ?_ hn k
        · intro Γ l p e s m args below meth c H locs ls R cells slots Q hF hlen hck hd hok kk
          cases eq_of_beq hlen
          exact lv_if_ge hF.1 hF.2.1 hd (of_decide_eq_true hck) (fun _ => kk) (fun z => absurd hc z)
        · intro ho
          exact ho.t
      · cases h
        cases hn
        refine mm_fall ?_ ?_ k
        · intro Γ l p e s m args below meth c H locs ls R cells slots Q hF hlen hck hd hrm hok hl kk
          cases eq_of_beq hlen
          exact lv_if_ge hF.1 hF.2.1 hd (of_decide_eq_true hck) (fun z => absurd z hc) (fun _ => kk _ hl)
        · intro hck hwf hL ho
          exact ⟨hL, ho.t⟩
      · cases h
    · cases h
  | gt =>
    dsimp only at h
    split at h
    · split at h
      · cases h
        refine mm_jump ?_ ?_ hn k
        · intro Γ l p e s m args below meth c H locs ls R cells slots Q hF hlen hck hd hok kk
          cases eq_of_beq hlen
          exact lv_if_gt hF.1 hF.2.1 hd (of_decide_eq_true hck) (fun _ => kk) (fun z => absurd hc z)
        · intro ho
          exact ho.t
      · cases h
        cases hn
        refine mm_fall ?_ ?_ k
        · intro Γ l p e s m args below meth c H locs ls R cells slots Q hF hlen hck hd hrm hok hl kk
          cases eq_of_beq hlen
          exact lv_if_gt hF.1 hF.2.1 hd (of_decide_eq_true hck) (fun z => absurd z hc) (fun _ => kk _ hl)
        · intro hck hwf hL ho
          exact ⟨hL, ho.t⟩
      · cases h
    · cases h
  | le =>
    dsimp only at h
    split at h
    · split at h
      · cases h
        refine mm_jump ?_ ?_ hn k
        · intro Γ l p e s m args below meth c H locs ls R cells slots Q hF hlen hck hd hok kk
          cases eq_of_beq hlen
          exact lv_if_le hF.1 hF.2.1 hd (of_decide_eq_true hck) (fun _ => kk) (fun z => absurd hc z)
        · intro ho
          exact ho.t
      · cases h
        cases hn
        refine mm_fall ?_ ?_ k
        · intro Γ l p e s m args below meth c H locs ls R cells slots Q hF hlen hck hd hrm hok hl kk
          cases eq_of_beq hlen
          exact lv_if_le hF.1 hF.2.1 hd (of_decide_eq_true hck) (fun z => absurd z hc) (fun _ => kk _ hl)
        · intro hck hwf hL ho
          exact ⟨hL, ho.t⟩
      · cases h
    · cases h
theorem mm_s_if_icmp (x1 x2 x3 x4 x5 : Nat) (t : List Nat) (q : ClassFile.Cond) (o : Int) : mm_Sd (.if_icmp q o) (x1, x2, x3, x4, x5) t (mm_hic q x1) := by
  intro Y μ0 pc len rem L st μ bs os j L2 st2 μ2 bs2 os2 c e2 rem2 r μ1 h hc hn k
  unfold mm_hic at h
  cases q with
  | eq =>
    dsimp only at h
    split at h
    · split at h
      · cases h
        refine mm_jump ?_ ?_ hn k
        · intro Γ l p e s m args below meth c H locs ls R cells slots Q hF hlen hck hd hok kk
          cases eq_of_beq hlen
          exact lv_icmp_eq hF.1 hF.2.1 hd (of_decide_eq_true hck) (fun _ => kk) (fun z => absurd hc z)
        · intro ho
          exact ho.t.t
      · cases h
        cases hn
        refine mm_fall ?_ ?_ k
        · intro Γ l p e s m args below meth c H locs ls R cells slots Q hF hlen hck hd hrm hok hl kk
          cases eq_of_beq hlen
          exact lv_icmp_eq hF.1 hF.2.1 hd (of_decide_eq_true hck) (fun z => absurd z hc) (fun _ => kk _ hl)
        · intro hck hwf hL ho
          exact ⟨hL, ho.t.t⟩
      · cases h
    · cases h
  | ne =>
    dsimp only at h
    split at h
    · split at h
      · cases h
        refine mm_jump ?_ ?_ hn k
        · intro Γ l p e s m args below meth c H locs ls R cells slots Q hF hlen hck hd hok kk
          cases eq_of_beq hlen
          exact lv_icmp_ne hF.1 hF.2.1 hd (of_decide_eq_true hck) (fun _ => kk) (fun z => absurd z hc)
        · intro ho
          exact ho.t.t
      · cases h
        cases hn
        refine mm_fall ?_ ?_ k
        · intro Γ l p e s m args below meth c H locs ls R cells slots Q hF hlen hck hd hrm hok hl kk
          cases eq_of_beq hlen
          exact lv_icmp_ne hF.1 hF.2.1 hd (of_decide_eq_true hck) (fun z => absurd hc z) (fun _ => kk _ hl)
        · intro hck hwf hL ho
          exact ⟨hL, ho.t.t⟩
      · cases h
    · cases h
  | lt =>
    dsimp only at h
    split at h
    · split at h
      · cases h
        refine mm_jump ?_ ?_ hn k
        · intro Γ l p e s m args below meth c H locs ls R cells slots Q hF hlen hck hd hok kk
          cases eq_of_beq hlen
          exact lv_icmp_lt hF.1 hF.2.1 hd (of_decide_eq_true hck) (fun _ => kk) (fun z => absurd hc z)
        · intro ho
          exact ho.t.t
      · cases h
        cases hn
        refine mm_fall ?_ ?_ k
        · intro Γ l p e s m args below meth c H locs ls R cells slots Q hF hlen hck hd hrm hok hl kk
          cases eq_of_beq hlen
          exact lv_icmp_lt hF.1 hF.2.1 hd (of_decide_eq_true hck) (fun z => absurd z hc) (fun _ => kk _ hl)
        · intro hck hwf hL ho
          exact ⟨hL, ho.t.t⟩
      · cases h
    · cases h
  | ge =>
    dsimp only at h
    split at h
    · split at h
      · cases h
        refine mm_jump ?_ ?_ hn k
        · intro Γ l p e s m args below meth c H locs ls R cells slots Q hF hlen hck hd hok kk
          cases eq_of_beq hlen
          exact lv_icmp_ge hF.1 hF.2.1 hd (of_decide_eq_true hck) (fun _ => kk) (fun z => absurd hc z)
        · intro ho
          exact ho.t.t
      · cases h
        cases hn
        refine mm_fall ?_ ?_ k
        · intro Γ l p e s m args below meth c H locs ls R cells slots Q hF hlen hck hd hrm hok hl kk
          cases eq_of_beq hlen
          exact lv_icmp_ge hF.1 hF.2.1 hd (of_decide_eq_true hck) (fun z => absurd z hc) (fun _ => kk _ hl)
        · intro hck hwf hL ho
          exact ⟨hL, ho.t.t⟩
      · cases h
    · cases h
  | gt =>
    dsimp only at h
    split at h
    · split at h
      · cases h
        refine mm_jump ?_ ?_ hn k
        · intro Γ l p e s m args below meth c H locs ls R cells slots Q hF hlen hck hd hok kk
          cases eq_of_beq hlen
          exact lv_icmp_gt hF.1 hF.2.1 hd (of_decide_eq_true hck) (fun _ => kk) (fun z => absurd hc z)
        · intro ho
          exact ho.t.t
      · cases h
        cases hn
        refine mm_fall ?_ ?_ k
        · intro Γ l p e s m args below meth c H locs ls R cells slots Q hF hlen hck hd hrm hok hl kk
          cases eq_of_beq hlen
          exact lv_icmp_gt hF.1 hF.2.1 hd (of_decide_eq_true hck) (fun z => absurd z hc) (fun _ => kk _ hl)
        · intro hck hwf hL ho
          exact ⟨hL, ho.t.t⟩
      · cases h
    · cases h
  | le =>
    dsimp only at h
    split at h
    · split at h
      · cases h
        refine mm_jump ?_ ?_ hn k
        · intro Γ l p e s m args below meth c H locs ls R cells slots Q hF hlen hck hd hok kk
          cases eq_of_beq hlen
          exact lv_icmp_le hF.1 hF.2.1 hd (of_decide_eq_true hck) (fun _ => kk) (fun z => absurd hc z)
        · intro ho
          exact ho.t.t
      · cases h
        cases hn
        refine mm_fall ?_ ?_ k
        · intro Γ l p e s m args below meth c H locs ls R cells slots Q hF hlen hck hd hrm hok hl kk
          cases eq_of_beq hlen
          exact lv_icmp_le hF.1 hF.2.1 hd (of_decide_eq_true hck) (fun z => absurd z hc) (fun _ => kk _ hl)
        · intro hck hwf hL ho
          exact ⟨hL, ho.t.t⟩
      · cases h
    · cases h
theorem mm_s_goto (x1 x2 x3 x4 x5 : Nat) (t : List Nat) (o : Int) : mm_Sd (.goto o) (x1, x2, x3, x4, x5) t (mm_hgoto x1) := by
  intro Y μ0 pc len rem L st μ bs os j L2 st2 μ2 bs2 os2 c e2 rem2 r μ1 h hc hn k
  unfold mm_hgoto at h
  cases h
  refine mm_jump ?_ ?_ hn k
  · intro Γ l p e s m args below meth c H locs ls R cells slots Q hF hlen hck hd hok kk
    cases eq_of_beq hlen
    exact lv_goto hF.1 hF.2.1 hd (of_decide_eq_true hck) kk
  · intro ho
    exact ho
theorem mm_s_ifnull (x1 x2 x3 x4 x5 : Nat) (t : List Nat) (o : Int) : mm_Sd (.ifnull o) (x1, x2, x3, x4, x5) t (mm_hifn x1) := by
  intro Y μ0 pc len rem L st μ bs os j L2 st2 μ2 bs2 os2 c e2 rem2 r μ1 h hc hn k
  unfold mm_hifn at h
  split at h
  · cases h
    cases hn
    refine mm_fall ?_ ?_ k
    · intro Γ l p e s m args below meth c H locs ls R cells slots Q hF hlen hck hd hrm hok hl kk
      cases eq_of_beq hlen
      exact lv_ifnull hF.1 hF.2.1 hd (kk _ hl)
    · intro hck hwf hL ho
      exact ⟨hL, ho.t⟩
  · cases h
    refine mm_jump ?_ ?_ hn k
    · intro Γ l p e s m args below meth c H locs ls R cells slots Q hF hlen hck hd hok kk
      cases eq_of_beq hlen
      exact lv_ifnullN hF.1 hF.2.1 hd (of_decide_eq_true hck) kk
    · intro ho
      exact ho.t
  · cases h
theorem mm_s_ifnonnull (x1 x2 x3 x4 x5 : Nat) (t : List Nat) (o : Int) : mm_Sd (.ifnonnull o) (x1, x2, x3, x4, x5) t (mm_hifnn x1) := by
  intro Y μ0 pc len rem L st μ bs os j L2 st2 μ2 bs2 os2 c e2 rem2 r μ1 h hc hn k
  unfold mm_hifnn at h
  split at h
  · cases h
    refine mm_jump ?_ ?_ hn k
    · intro Γ l p e s m args below meth c H locs ls R cells slots Q hF hlen hck hd hok kk
      cases eq_of_beq hlen
      exact lv_ifnonnull hF.1 hF.2.1 hd (of_decide_eq_true hck) kk
    · intro ho
      exact ho.t
  · cases h
    cases hn
    refine mm_fall ?_ ?_ k
    · intro Γ l p e s m args below meth c H locs ls R cells slots Q hF hlen hck hd hrm hok hl kk
      cases eq_of_beq hlen
      exact lv_ifnonnullN hF.1 hF.2.1 hd (kk _ hl)
    · intro hck hwf hL ho
      exact ⟨hL, ho.t⟩
  · cases h
theorem mm_okk.at {Γ : mm_C} {μ : mm_M} {H : Heap} (hR : mm_Rw Γ μ H) {kd n : Nat} (h : mm_okk μ.1 kd n) (hk : kd < 90) : μ.1 n ≠ 0 ∧ 6 ≤ n ∧ n < mm_nx μ := by
  rcases h with h | h
  · omega
  · have h1 := h.2.2.ne h.1
    exact ⟨h1, hR.1.2.1 n h1⟩
theorem mm_ad_inj {Γ : mm_C} (hA : mm_Aw Γ) {μ : mm_M} {H : Heap} (hR : mm_Rw Γ μ H) {k1 k2 a b : Nat} (ha : mm_okk μ.1 k1 a) (hb : mm_okk μ.1 k2 b) (h1 : k1 < 90) (h2 : k2 < 90) (h : mm_ad Γ a = mm_ad Γ b) : a = b := by
  have g1 := (ha.at hR h1).2.1
  have g2 := (hb.at hR h2).2.1
  apply Classical.byContradiction
  intro e
  exact mm_ad_ne hA g2 g1 e h
