/-! contracts and frames: what the rows of the methods are written in -/
def mm_P (Γ : mm_C) (args : List mm_V) (μ : mm_M) : Array Value → State → Prop := fun v U => v = (args.map (mm_tr (mm_ad Γ))).toArray ∧ mm_Sw Γ U ∧ mm_Rw Γ μ U.heap ∧ mm_Zw Γ (mm_A Γ μ) U U.heap
def mm_ws (Y : mm_Y) : List Cond := Cond.code (mm_nm Y) (mm_by Y) (mm_ml Y) (mm_re Y) :: mm_tbl
def mm_Det (Y : mm_Y) (args : List mm_V) (μ : mm_M) (r : Option mm_V) (μ1 : mm_M) : Prop :=
  mm_wf μ → mm_okl μ.1 args → mm_le μ μ1 ∧ mm_wf μ1 ∧ ((mm_okr μ1.1 r ∧ mm_rt Y r) ∧ mm_st Y μ μ1) ∧ ∀ (Γ : mm_C) (l : Launch), mm_Aw Γ → (mm_na Y = false → mm_Lw Γ) → Met l (mm_nm Y) (mm_ws Y) (mm_rm Y μ μ1) (mm_P Γ args μ) (mm_Q Γ μ r μ1) (mm_nx μ1 - mm_nx μ) (mm_sz μ1 - mm_sz μ) (mm_A Γ μ)
/-- a method called: some end that Post holds of -/
def Ct (Y : mm_Y) (args : List mm_V) (μ : mm_M) (Post : Option mm_V → mm_M → Prop) : Prop := ∃ r μ1, Post r μ1 ∧ mm_Det Y args μ r μ1
/-- a frame on its way: some end that Post holds of -/
def Ev (Y : mm_Y) (μ0 : mm_M) (rem : List mm_E) (L : mm_L) (st : List mm_V) (μ : mm_M) (Post : Option mm_V → mm_M → Prop) : Prop := ∃ r μ1, Post r μ1 ∧ mm_Ev0 Y μ0 rem L st μ r μ1
theorem mm_blind (Γ : mm_C) (args : List mm_V) (μ : mm_M) : FrameBlind (mm_P Γ args μ) := by
  intro a U g mk h
  obtain ⟨h1, h2, h3, h4⟩ := h
  exact ⟨h1, h2.moved (u := U) (U := U.calling g mk a) (Vm.Alike.refl U.vm), h3, h4.go (u := U) (U := U.calling g mk a) (Vm.Alike.refl U.vm) (fun _ _ _ => rfl) (fun _ h => h)⟩
def mm_ent : Nat → List mm_V → Option mm_L
  | _, [] => some []
  | k, v :: l => match mm_c2 v with
    | true => match mm_ent (k + 2) l with
      | some L => some ((k, v) :: L)
      | none => none
    | false => match mm_ent (k + 1) l with
      | some L => some ((k, v) :: L)
      | none => none
theorem mm_ent_lv {ad : Nat → Nat} : ∀ (args : List mm_V) (k : Nat) {L : mm_L}, mm_ent k args = some L → lv_args k (args.map (mm_tr ad)) = mm_tL ad L
  | [], k, L, h => by cases h; rfl
  | v :: l, k, L, h => by
    unfold mm_ent at h
    rw [List.map_cons]
    unfold lv_args
    rw [mm_cat]
    split at h
    · next hv =>
      split at h
      · next L1 h1 =>
        cases h
        rw [hv, mm_tL, List.map_cons, if_pos rfl]
        dsimp only
        rw [if_pos rfl, mm_ent_lv l (k + 2) h1]
        rfl
      · cases h
    · next hv =>
      split at h
      · next L1 h1 =>
        cases h
        rw [hv, mm_tL, List.map_cons]
        dsimp only
        rw [show (if (if false = true then 2 else 1) = 2 then k + 2 else k + 1) = k + 1 from rfl, mm_ent_lv l (k + 1) h1]
        rfl
      · cases h
theorem mm_ent_ok {K : Nat → Nat} : ∀ (args : List mm_V) (k : Nat) {L : mm_L}, mm_ent k args = some L → mm_okl K args → mm_okL K L
  | [], k, L, h, ho => by cases h; intro q hq; cases hq
  | v :: l, k, L, h, ho => by
    unfold mm_ent at h
    split at h
    · split at h
      · next L1 h1 =>
        cases h
        intro q hq
        rcases List.mem_cons.mp hq with e | e
        · rw [e]; exact ho.h
        · exact mm_ent_ok l _ h1 ho.t q e
      · cases h
    · split at h
      · next L1 h1 =>
        cases h
        intro q hq
        rcases List.mem_cons.mp hq with e | e
        · rw [e]; exact ho.h
        · exact mm_ent_ok l _ h1 ho.t q e
      · cases h
theorem mm_sl_len {ad : Nat → Nat} : ∀ (l : List mm_V), (lg_sl (l.map (mm_tr ad))).length = mm_cs l
  | [] => rfl
  | v :: l => by
    have ih := mm_sl_len (ad := ad) l
    unfold lg_sl at ih ⊢
    rw [List.map_cons, List.flatMap_cons, List.length_append, ih, mm_cat]
    cases hc : mm_c2 v <;> simp [mm_cs, hc] <;> omega
theorem mm_ofWF {l : Launch} {y : MethodName} {ws ws' : List Cond} {rm : Room} {Pc : Array Value → State → Prop} {Qc : Array Value → State → Outcome → State → Prop} {mc ms : Nat} {free : Addr → Prop} {cc : ByteArray} {maxL : Nat} {ret : Option FieldType} (hy : plainFor y = true) (hw : ws = Cond.code y cc maxL ret :: ws')
    (body : ∀ p e s m args below meth c s₁, BodyLoose p l y (headSpec ws rm) cc maxL ret e s m args below meth c s₁ → c.maxLocals = maxL → Pc args s → W p l e (headSpec ws rm).room s m args below meth c s.heap [] 0 0 (MQ below Qc args s mc ms free) (entryFrame m args maxL)) : Met l y ws rm Pc Qc mc ms free := by
  refine Jvm.Free.MetFree.of_bodySF (code := cc) (maxLocals := maxL) (ret := ret) hy ?_ ?_
  · intro args s m h hn
    obtain ⟨meth, c, h1, h2, h3, h4, h5, h6, -, -⟩ := Cond.code_spec hn (atoms_spec (ws := ws) h _ (by rw [hw]; exact List.mem_cons_self))
    exact ⟨meth, c, h1, h2, h3, h4, h5, h6⟩
  · intro p e s m args below meth c s₁ B hml hP _
    have hh0 : s₁.heap = s.heap := by rw [B.state]; rfl
    obtain ⟨t, a1, o, b1, b2, b3⟩ := body p e s m args below meth c s₁ B hml hP s₁ hh0 (Stand.of_body B)
    exact ⟨t, o, a1, b1, b2, ⟨b3.1, b3.2⟩⟩
/-- a method's contract out of the walk of its body -/
theorem mm_Det.of {Y : mm_Y} {args : List mm_V} {μ : mm_M} {r : Option mm_V} {μ1 : mm_M} {L : mm_L} (hk : mm_ok Y) (hL : mm_ent 0 args = some L) (hm : Nat.ble (mm_cs args) (mm_ml Y) = true) (hn : (mm_nm Y).cls = mm_ow Y) (h : mm_Ev0 Y μ (mm_co Y) L [] μ r μ1) : mm_Det Y args μ r μ1 := by
  intro hwf hok
  obtain ⟨h1, h2, h3, h4⟩ := h hk ⟨[], rfl⟩ hwf (mm_le.rf μ) (mm_ent_ok args 0 hL hok) trivial
  refine ⟨h1, h2, h3, fun Γ l hA hLw => ?_⟩
  refine mm_ofWF (cc := mm_by Y) (maxL := mm_ml Y) (ret := mm_re Y) hk.2.2.1.2.1 rfl ?_
  intro p e s m as below meth c s₁ B hml hv
  obtain ⟨rfl, hSw, hRw, hZw⟩ := hv
  have hts := atoms_spec (ws := mm_ws Y) B.pre
  have hin := (name_of_methodNamed B.named B.method).1
  have hown : s.vm.findClass (mm_ow Y) = some m.cls := by
    have := findClass_of_methodNamed B.named
    rw [hn] at this
    exact this
  have hle := lv_entry (args.map (mm_tr (mm_ad Γ))) (n := mm_ml Y) (by rw [mm_sl_len]; exact Nat.ble_eq.mp hm)
  rw [mm_ent_lv args 0 hL] at hle
  rw [lg_entry_eq]
  have key := h4 Γ l p e s m _ below meth c s.heap [] _ ⟨B.exec, B.bytes, hml, B.returns, B.notSynchronized, hown, ⟨hin, hLw⟩, fun z hz => hts z (List.mem_cons_of_mem _ hz), hA, hSw, hZw, hRw.2.1, hwf.1⟩ hRw va_S.rf hle
  unfold mm_WW at key
  rw [hk.2.2.1.1, Nat.sub_self, Nat.sub_self] at key
  exact key
theorem ct_of {Y : mm_Y} {args : List mm_V} {μ : mm_M} {Post : Option mm_V → mm_M → Prop} {L : mm_L} (hk : mm_ok Y) (hL : mm_ent 0 args = some L) (hm : Nat.ble (mm_cs args) (mm_ml Y) = true) (hn : (mm_nm Y).cls = mm_ow Y) (h : Ev Y μ (mm_co Y) L [] μ Post) : Ct Y args μ Post := by
  obtain ⟨r, μ1, h1, h2⟩ := h
  exact ⟨r, μ1, h1, mm_Det.of hk hL hm hn h2⟩
theorem Ct.mono {Y : mm_Y} {args : List mm_V} {μ : mm_M} {P Q : Option mm_V → mm_M → Prop} (h : Ct Y args μ P) (hpq : ∀ r μ1, P r μ1 → Q r μ1) : Ct Y args μ Q := by
  obtain ⟨r, μ1, h1, h2⟩ := h
  exact ⟨r, μ1, hpq r μ1 h1, h2⟩
theorem Ev.mono {Y : mm_Y} {μ0 : mm_M} {rem : List mm_E} {L : mm_L} {st : List mm_V} {μ : mm_M} {P Q : Option mm_V → mm_M → Prop} (h : Ev Y μ0 rem L st μ P) (hpq : ∀ r μ1, P r μ1 → Q r μ1) : Ev Y μ0 rem L st μ Q := by
  obtain ⟨r, μ1, h1, h2⟩ := h
  exact ⟨r, μ1, hpq r μ1 h1, h2⟩
/-- a stretch -/
theorem ev_go {Y : mm_Y} {μ0 : mm_M} {rem : List mm_E} {L : mm_L} {st : List mm_V} {μ : mm_M} {Post : Option mm_V → mm_M → Prop} (bs : List Bool) (os : List (Option Nat)) {e2 : mm_E} {rem2 : List mm_E} {L2 : mm_L} {st2 : List mm_V} {μ2 : mm_M} {P2 : Prop} (h : mm_go 5000 (mm_co Y) rem L st μ bs os True = some (e2 :: rem2, L2, st2, μ2, P2)) (hp : P2) (k : Ev Y μ0 (e2 :: rem2) L2 st2 μ2 Post) : Ev Y μ0 rem L st μ Post := by
  obtain ⟨r, μ1, h1, h2⟩ := k
  exact ⟨r, μ1, h1, (mm_go_ok 5000 rem L st μ bs os True h hp).2 h2⟩
/-- a stretch of n instructions -/
theorem ev_gon {Y : mm_Y} {μ0 : mm_M} {rem : List mm_E} {L : mm_L} {st : List mm_V} {μ : mm_M} {Post : Option mm_V → mm_M → Prop} (n : Nat) (bs : List Bool) (os : List (Option Nat)) {e2 : mm_E} {rem2 : List mm_E} {L2 : mm_L} {st2 : List mm_V} {μ2 : mm_M} {P2 : Prop} (h : mm_go n (mm_co Y) rem L st μ bs os True = some (e2 :: rem2, L2, st2, μ2, P2)) (hp : P2) (k : Ev Y μ0 (e2 :: rem2) L2 st2 μ2 Post) : Ev Y μ0 rem L st μ Post := by
  obtain ⟨r, μ1, h1, h2⟩ := k
  exact ⟨r, μ1, h1, (mm_go_ok n rem L st μ bs os True h hp).2 h2⟩
theorem ev_sub {Y : mm_Y} {μ0 : mm_M} {rem : List mm_E} {L L1 : mm_L} {st : List mm_V} {μ : mm_M} {Post : Option mm_V → mm_M → Prop} (h : ∀ q ∈ L1, q ∈ L) (k : Ev Y μ0 rem L1 st μ Post) : Ev Y μ0 rem L st μ Post := by
  obtain ⟨r, μ1, h1, h2⟩ := k
  refine ⟨r, μ1, h1, fun hk hs hwf hle hL hst => ?_⟩
  obtain ⟨k1, k2, k4, k3⟩ := h2 hk hs hwf hle (fun q hq => hL q (h q hq)) hst
  refine ⟨k1, k2, k4, fun Γ l p e s m args below meth c H locs ls hF hR hS hl => k3 Γ l p e s m args below meth c H locs ls hF hR hS ⟨hl.1, hl.2.1, fun q hq => ?_⟩⟩
  obtain ⟨z, hz, rfl⟩ := List.mem_map.mp hq
  exact hl.2.2 _ (List.mem_map.mpr ⟨z, h z hz, rfl⟩)
/-! returns -/
theorem mm_ret {Y : mm_Y} {μ0 : mm_M} {pc : Nat} {i : Instr} {len : Nat} {x : mm_X} {t : List Nat} {rem : List mm_E} {L : mm_L} {st : List mm_V} {μ : mm_M} {r : Option mm_V} (hr : ∀ v, r = some v → v ∈ st)
    (hrow : ∀ (Γ : mm_C) (l : Launch) (p : Program) (e : Env) (s : State) (m : MethodId) (args : Array Value) (below : List Frame) (meth : Method) (c : Code) (H : Heap) (locs : List Loc) (ls : Array Slot) (R : Room) (cells slots : Nat) (Qc : Array Value → State → Outcome → State → Prop) (free : Addr → Prop), mm_Fx Γ Y μ0 p s m args meth c → decode (mm_by Y) pc = .ok (i, len) → mm_lok i len = true → (∀ t : State, t.heap = H → s.WarmedH t.vm → Qc args s (.returned (r.map (mm_tr (mm_ad Γ)))) t) → (∀ q ∈ locs, free q.base) → W p l e R s m args below meth c H locs cells slots (MQ below Qc args s cells slots free) (F0 m pc ls (st.map (mm_tr (mm_ad Γ))))) (hrt : mm_rt Y r) : mm_Ev0 Y μ0 ((pc, i, len, x, t) :: rem) L st μ r μ := by
  intro hk hs hwf hle hL hst
  refine ⟨mm_le.rf μ, hwf, ⟨⟨fun v hv => hst.mem v (hr v hv), hrt⟩, fun _ => ⟨rfl, rfl⟩⟩, fun Γ l p e s m args below meth c H locs ls hF hR hS hl => ?_⟩
  obtain ⟨x1, x2, x3, x4, x5⟩ := x
  exact hrow Γ l p e s m args below meth c H locs ls _ _ _ _ _ hF (hs.dec hk) (hs.ck hk).1 (fun t ht _ => ⟨rfl, by rw [ht]; exact hR, hS.F ht⟩) hS.2.2
theorem ev_ret {Y : mm_Y} {μ0 : mm_M} {pc : Nat} {len : Nat} {x : mm_X} {t : List Nat} {rem : List mm_E} {L : mm_L} {μ : mm_M} {Post : Option mm_V → mm_M → Prop} (hr : mm_re Y = none) (h : Post none μ) : Ev Y μ0 ((pc, .return_, len, x, t) :: rem) L [] μ Post :=
  ⟨none, μ, h, mm_ret (fun v hv => by cases hv) (fun Γ l p e s m args below meth c H locs ls R cells slots Qc free hF hd hlen hq hf => by
    cases eq_of_beq hlen
    exact W.vret hF.1 hF.2.1 (hF.2.2.2.1.trans hr) hq hf hd hF.2.2.2.2.1) (by unfold mm_rt; rw [hr]; trivial)⟩
theorem ev_reti {Y : mm_Y} {μ0 : mm_M} {pc : Nat} {len : Nat} {x : mm_X} {t : List Nat} {rem : List mm_E} {L : mm_L} {μ : mm_M} {Post : Option mm_V → mm_M → Prop} {v : Int32} (hr : mm_re Y = some .int) (h : Post (some (vi v)) μ) : Ev Y μ0 ((pc, .ireturn, len, x, t) :: rem) L [vi v] μ Post :=
  ⟨some (vi v), μ, h, mm_ret (fun v hv => by cases hv; exact List.mem_cons_self) (fun Γ l p e s m args below meth c H locs ls R cells slots Qc free hF hd hlen hq hf => by
    cases eq_of_beq hlen
    exact W.iret hF.1 hF.2.1 (hF.2.2.2.1.trans hr) hq hf hd hF.2.2.2.2.1) (by unfold mm_rt; rw [hr]; exact ⟨v, rfl⟩)⟩
theorem ev_retz {Y : mm_Y} {μ0 : mm_M} {pc : Nat} {len : Nat} {x : mm_X} {t : List Nat} {rem : List mm_E} {L : mm_L} {μ : mm_M} {Post : Option mm_V → mm_M → Prop} {v : Int32} (hr : mm_re Y = some .boolean) (hn : v = 0 ∨ v = 1) (h : Post (some (vi v)) μ) : Ev Y μ0 ((pc, .ireturn, len, x, t) :: rem) L [vi v] μ Post :=
  ⟨some (vi v), μ, h, mm_ret (fun v hv => by cases hv; exact List.mem_cons_self) (fun Γ l p e s m args below meth c H locs ls R cells slots Qc free hF hd hlen hq hf => by
    cases eq_of_beq hlen
    exact W.zret hF.1 hF.2.1 (hF.2.2.2.1.trans hr) (by rcases hn with rfl | rfl <;> rfl) hq hf hd hF.2.2.2.2.1) (by unfold mm_rt; rw [hr]; trivial)⟩
theorem ev_retl {Y : mm_Y} {μ0 : mm_M} {pc : Nat} {len : Nat} {x : mm_X} {t : List Nat} {rem : List mm_E} {L : mm_L} {μ : mm_M} {Post : Option mm_V → mm_M → Prop} {v : Int64} (hr : mm_re Y = some .long) (h : Post (some (vl v)) μ) : Ev Y μ0 ((pc, .lreturn, len, x, t) :: rem) L [vl v] μ Post :=
  ⟨some (vl v), μ, h, mm_ret (fun v hv => by cases hv; exact List.mem_cons_self) (fun Γ l p e s m args below meth c H locs ls R cells slots Qc free hF hd hlen hq hf => by
    cases eq_of_beq hlen
    exact W.lret hF.1 hF.2.1 (hF.2.2.2.1.trans hr) hq hf hd hF.2.2.2.2.1) (by unfold mm_rt; rw [hr]; exact ⟨v, rfl⟩)⟩
theorem ev_retf {Y : mm_Y} {μ0 : mm_M} {pc : Nat} {len : Nat} {x : mm_X} {t : List Nat} {rem : List mm_E} {L : mm_L} {μ : mm_M} {Post : Option mm_V → mm_M → Prop} {v : UInt32} (hr : mm_re Y = some .float) (h : Post (some (vf v)) μ) : Ev Y μ0 ((pc, .freturn, len, x, t) :: rem) L [vf v] μ Post :=
  ⟨some (vf v), μ, h, mm_ret (fun v hv => by cases hv; exact List.mem_cons_self) (fun Γ l p e s m args below meth c H locs ls R cells slots Qc free hF hd hlen hq hf => by
    cases eq_of_beq hlen
    exact W.fret hF.1 hF.2.1 (hF.2.2.2.1.trans hr) hq hf hd hF.2.2.2.2.1) (by unfold mm_rt; rw [hr]; trivial)⟩
theorem ev_retd {Y : mm_Y} {μ0 : mm_M} {pc : Nat} {len : Nat} {x : mm_X} {t : List Nat} {rem : List mm_E} {L : mm_L} {μ : mm_M} {Post : Option mm_V → mm_M → Prop} {v : UInt64} (hr : mm_re Y = some .double) (h : Post (some (vd v)) μ) : Ev Y μ0 ((pc, .dreturn, len, x, t) :: rem) L [vd v] μ Post :=
  ⟨some (vd v), μ, h, mm_ret (fun v hv => by cases hv; exact List.mem_cons_self) (fun Γ l p e s m args below meth c H locs ls R cells slots Qc free hF hd hlen hq hf => by
    cases eq_of_beq hlen
    exact W.dret hF.1 hF.2.1 (hF.2.2.2.1.trans hr) hq hf hd hF.2.2.2.2.1) (by unfold mm_rt; rw [hr]; trivial)⟩
theorem ev_reta {Y : mm_Y} {μ0 : mm_M} {pc : Nat} {len : Nat} {x : mm_X} {t : List Nat} {rem : List mm_E} {L : mm_L} {μ : mm_M} {Post : Option mm_V → mm_M → Prop} {q : Nat × Nat} {C : String} (hr : mm_re Y = some (.object C)) (h : Post (some (.inl q)) μ) : Ev Y μ0 ((pc, .areturn, len, x, t) :: rem) L [.inl q] μ Post :=
  ⟨some (.inl q), μ, h, mm_ret (fun v hv => by cases hv; exact List.mem_cons_self) (fun Γ l p e s m args below meth c H locs ls R cells slots Qc free hF hd hlen hq hf => by
    cases eq_of_beq hlen
    exact W.aret hF.1 hF.2.1 (hF.2.2.2.1.trans hr) (Or.inl ⟨_, rfl⟩) (Or.inr ⟨_, rfl⟩) hq hf hd hF.2.2.2.2.1) (by unfold mm_rt; rw [hr]; trivial)⟩
theorem ev_retn {Y : mm_Y} {μ0 : mm_M} {pc : Nat} {len : Nat} {x : mm_X} {t : List Nat} {rem : List mm_E} {L : mm_L} {μ : mm_M} {Post : Option mm_V → mm_M → Prop} {C : String} (hr : mm_re Y = some (.object C)) (h : Post (some vn) μ) : Ev Y μ0 ((pc, .areturn, len, x, t) :: rem) L [vn] μ Post :=
  ⟨some vn, μ, h, mm_ret (fun v hv => by cases hv; exact List.mem_cons_self) (fun Γ l p e s m args below meth c H locs ls R cells slots Qc free hF hd hlen hq hf => by
    cases eq_of_beq hlen
    exact W.aret hF.1 hF.2.1 (hF.2.2.2.1.trans hr) (Or.inl ⟨_, rfl⟩) (Or.inl rfl) hq hf hd hF.2.2.2.2.1) (by unfold mm_rt; rw [hr]; trivial)⟩
/-! calls -/
def mm_lkS (own : String) (i : Nat) (Y : mm_Y) (n : Nat) : Prop := (Cond.methodLink own i (mm_nm Y) ∈ tables_1 ∧ Cond.static (mm_nm Y) ∈ tables_1 ∧ Cond.initialized (mm_nm Y).cls ∈ tables_1 ∧ Cond.code (mm_nm Y) (mm_by Y) (mm_ml Y) (mm_re Y) ∈ tables_1) ∧ (((mm_nm Y).cls ≠ "java/lang/invoke/MethodHandle" ∧ (mm_nm Y).cls ≠ "java/lang/invoke/VarHandle" ∧ (parseMethodDescriptor (mm_nm Y).desc).map (fun d => d.parameters.length) = some n) ∧ (mm_nac own = true → mm_na Y = true))
def mm_lkV (own : String) (i : Nat) (Y : mm_Y) (n c : Nat) : Prop := (Cond.methodLink own i (mm_nm Y) ∈ tables_1 ∧ Cond.instanceMethod (mm_nm Y) ∈ tables_1 ∧ Cond.selects (mm_nm Y).cls (mm_nm Y) (mm_nm Y) ∈ lw_tbl ∧ Cond.initialized (mm_nm Y).cls ∈ tables_1 ∧ Cond.code (mm_nm Y) (mm_by Y) (mm_ml Y) (mm_re Y) ∈ tables_1) ∧ (((mm_nm Y).cls ≠ "java/lang/invoke/MethodHandle" ∧ (mm_nm Y).cls ≠ "java/lang/invoke/VarHandle" ∧ (parseMethodDescriptor (mm_nm Y).desc).map (fun d => d.parameters.length) = some n) ∧ (mm_nac own = true → mm_na Y = true)) ∧ c < 11 ∧ (mm_cls[c]?).map (fun q => q.1) = some (mm_nm Y).cls
def mm_lkI (own : String) (i : Nat) (Y : mm_Y) (n c : Nat) : Prop := (Cond.methodLink own i (mm_nm Y) ∈ tables_1 ∧ Cond.instanceMethod (mm_nm Y) ∈ tables_1 ∧ Cond.initialized (mm_nm Y).cls ∈ tables_1 ∧ Cond.code (mm_nm Y) (mm_by Y) (mm_ml Y) (mm_re Y) ∈ tables_1) ∧ (((mm_nm Y).cls ≠ "java/lang/invoke/MethodHandle" ∧ (mm_nm Y).cls ≠ "java/lang/invoke/VarHandle" ∧ (parseMethodDescriptor (mm_nm Y).desc).map (fun d => d.parameters.length) = some n) ∧ (mm_nac own = true → mm_na Y = true)) ∧ ((mm_nm Y).name = "<init>" ∧ mm_re Y = none) ∧ c < 11
def mm_rmk (Y Yc : mm_Y) : Prop := mm_fr Yc + 1 ≤ mm_fr Y ∧ 8 + (mm_ml Yc + 11) + mm_lo Yc ≤ mm_lo Y
theorem mm_tb_good : ∀ z ∈ mm_tbl, z ∈ mm_tbl ∧ ((z.onTables && z.keeps) = true ∨ ∃ ty, z = .arrayClass ty) := fun z hz => ⟨hz, good_of_word (List.mem_filter.mp hz).2⟩
theorem mm_goodIn {ws : List Cond} (h : ∀ z ∈ ws, z ∈ mm_tbl) : GoodIn mm_tbl ws := fun z hz => mm_tb_good z (h z hz)
theorem mm_call {Y Yc : mm_Y} {μ0 : mm_M} {pc : Nat} {i : Instr} {x : mm_X} {t : List Nat} {e2 : mm_E} {rem : List mm_E} {L : mm_L} {st st2 : List mm_V} {μ : mm_M} {cargs : List mm_V} {r : Option mm_V} {μ2 : mm_M} {r3 : Option mm_V} {μ3 : mm_M} (hna : mm_na Y = true → mm_na Yc = true) (hD : mm_Det Yc cargs μ r μ2) (hcs : Nat.ble (mm_cs st2) 8 = true) (hcok : mm_okl μ.1 st → mm_okl μ.1 cargs ∧ mm_okl μ.1 st2)
    (hrun : ∀ (Γ : mm_C) (l : Launch) (p : Program) (e : Env) (s : State) (m : MethodId) (args : Array Value) (below : List Frame) (meth : Method) (c : Code) (H : Heap) (locs : List Loc) (ls : Array Slot) (R : Room) (cells slots : Nat), mm_Fx Γ Y μ0 p s m args meth c → mm_Rw Γ μ H → mm_okl μ.1 st → decode (mm_by Y) pc = .ok (i, 3) → R.frames = mm_fr Y → R.locals = mm_lo Y → ls.size = mm_ml Y → (cells + (mm_nx μ2 - mm_nx μ) ≤ R.cells ∧ slots + (mm_sz μ2 - mm_sz μ) ≤ R.slots) → ((st2.map (mm_tr (mm_ad Γ))).map fun v => v.category).sum ≤ 8 → Met l (mm_nm Yc) (mm_ws Yc) (mm_rm Yc μ μ2) (mm_P Γ cargs μ) (mm_Q Γ μ r μ2) (mm_nx μ2 - mm_nx μ) (mm_sz μ2 - mm_sz μ) (mm_A Γ μ) → (∀ U : State, U.heap = H → s.WarmedH U.vm → mm_P Γ cargs μ (cargs.map (mm_tr (mm_ad Γ))).toArray U) → va_Run p l e R s m args below meth c H locs cells slots (mm_nx μ2 - mm_nx μ) (mm_sz μ2 - mm_sz μ) (F0 m pc ls (st.map (mm_tr (mm_ad Γ)))) (st2.map (mm_tr (mm_ad Γ))) (mm_Q Γ μ r μ2 (cargs.map (mm_tr (mm_ad Γ))).toArray) (mm_A Γ μ))
    {st3 : List mm_V} (hst3 : ∀ Γ : mm_C, st3.map (mm_tr (mm_ad Γ)) = (r.map (mm_tr (mm_ad Γ))).toList ++ st2.map (mm_tr (mm_ad Γ))) (hok3 : mm_okl μ2.1 st2 → mm_okr μ2.1 r → mm_okl μ2.1 st3) (k : mm_Ev0 Y μ0 (e2 :: rem) L st3 μ2 r3 μ3) : mm_Ev0 Y μ0 ((pc, i, 3, x, t) :: e2 :: rem) L st μ r3 μ3 := by
  intro hk hs hwf hle hL hst
  obtain ⟨o1, o2⟩ := hcok hst
  obtain ⟨d1, d2, d3, d4⟩ := hD hwf o1
  obtain ⟨k1, k2, k4, k3⟩ := k hk hs.tl d2 (hle.tr d1) (hL.up d1) (hok3 (o2.up d1) d3.1.1)
  refine ⟨d1.tr k1, k2, ⟨k4.1, fun hn => ⟨(k4.2 hn).1.trans (d3.2 (hna hn)).1, (k4.2 hn).2.trans (d3.2 (hna hn)).2⟩⟩, fun Γ l p e s m args below meth c H locs ls hF hR hS hl => ?_⟩
  have hpre : ∀ U : State, U.heap = H → s.WarmedH U.vm → mm_P Γ cargs μ (cargs.map (mm_tr (mm_ad Γ))).toArray U := fun U hU hW =>
    ⟨rfl, hF.2.2.2.2.2.2.2.2.2.1.moved hW.alike, by rw [hU]; exact hR, by
      rw [hU]
      exact hF.2.2.2.2.2.2.2.2.2.2.1.go hW.alike (fun a g1 g2 => hS.2.1 a g1 g2) (fun q hq => mm_A.up hF.2.2.2.2.2.2.2.2.1 hF.2.2.2.2.2.2.2.2.2.2.2.2 hle hq)⟩
  have run := hrun Γ l p e s m args below meth c H locs ls (mm_rm Y μ0 μ3) (mm_nx μ - mm_nx μ0) (mm_sz μ - mm_sz μ0) hF hR hst (hs.dec hk) rfl rfl hl.1 ⟨?_, ?_⟩ (by rw [mm_cs_le]; exact Nat.ble_eq.mp hcs) (d4 Γ l hF.2.2.2.2.2.2.2.2.1 (fun h => hF.2.2.2.2.2.2.1.2 (by
    cases hn : mm_na Y with
    | false => rfl
    | true => exact absurd (h.symm.trans (hna hn)) (by decide)))) hpre
  · intro T hT X
    obtain ⟨v, st₀, tt, T', L', h0, X', hL', e1, e2', ⟨hv, hRt, hFt⟩, stp⟩ := run T hT X
    have hv : v = r.map (mm_tr (mm_ad Γ)) := by cases hv; rfl
    subst hv
    have hS2 : va_S (mm_A Γ μ0) s.heap T'.heap (locs ++ L') := by
      refine ⟨?_, fun q g1 g2 => ?_, fun q hq => ?_⟩
      · rw [e1]
        refine Nat.le_trans hS.1 ?_
        rw [← h0]
        exact hFt.1
      · have hq : q < H.size := Nat.lt_of_lt_of_le g1 hS.1
        rw [e1, hFt.2 q (by rw [h0]; exact hq) (fun z => g2 (mm_A.up hF.2.2.2.2.2.2.2.2.1 hF.2.2.2.2.2.2.2.2.2.2.2.2 hle z)), h0]
        exact hS.2.1 q g1 g2
      · rcases List.mem_append.mp hq with g | g
        · exact hS.2.2 q g
        · exact mm_A.up hF.2.2.2.2.2.2.2.2.1 hF.2.2.2.2.2.2.2.2.2.2.2.2 hle (hL' q g)
    have key := k3 Γ l p e s m args below meth c T'.heap (locs ++ L') ls hF (by rw [e1]; exact hRt) hS2 hl
    unfold mm_WW at key
    rw [← hs.adj hk, hst3] at key
    have c1 : mm_nx μ - mm_nx μ0 + (mm_nx μ2 - mm_nx μ) = mm_nx μ2 - mm_nx μ0 := by have := hle.1; have := d1.1; omega
    have c2 : mm_sz μ - mm_sz μ0 + (mm_sz μ2 - mm_sz μ) = mm_sz μ2 - mm_sz μ0 := by have := hle.2.1; have := d1.2.1; omega
    rw [c1, c2] at X'
    obtain ⟨t2, a1, b1⟩ := key T' rfl X'
    exact ⟨t2, stp t2 a1, b1⟩
  · have := hle.1; have := d1.1; have := k1.1; show _ ≤ mm_nx μ3 - mm_nx μ0; omega
  · have := hle.2.1; have := d1.2.1; have := k1.2.1; show _ ≤ mm_sz μ3 - mm_sz μ0; omega
theorem mm_okl.rev {K : Nat → Nat} {a b : List mm_V} (h : mm_okl K (a.reverse ++ b)) : mm_okl K a ∧ mm_okl K b := by
  obtain ⟨h1, h2⟩ := mm_okl.app h
  refine ⟨?_, h2⟩
  have : ∀ l : List mm_V, (∀ v ∈ l, mm_okv K v) → mm_okl K l := by
    intro l
    induction l with
    | nil => intro _; exact trivial
    | cons v l ih => intro g; exact mm_okl.c (g v List.mem_cons_self) (ih (fun u hu => g u (List.mem_cons_of_mem _ hu)))
  exact this a (fun v hv => h1.mem v (List.mem_reverse.mpr hv))
theorem mm_room (m : MethodId) (pc : Nat) (ls : Array Slot) (st : List Value) {n : Nat} (h : n ≤ 8) : 2 * (F0 m pc ls st).monitorRoom + n ≤ 8 := by
  show 2 * 0 + n ≤ 8
  omega
theorem ev_callS {Y Yc : mm_Y} {μ0 : mm_M} {pc idx : Nat} {x : mm_X} {t : List Nat} {e2 : mm_E} {rem : List mm_E} {L : mm_L} {st st2 : List mm_V} {μ : mm_M} {cargs : List mm_V} {Post Q : Option mm_V → mm_M → Prop} (hlk : mm_lkS (mm_ow Y) idx Yc cargs.length) (hc : Ct Yc cargs μ Q) (hst : st = cargs.reverse ++ st2) (hrm : mm_rmk Y Yc) (hcs : Nat.ble (mm_cs st2) 8 = true) (k : ∀ r μ2, Q r μ2 → Ev Y μ0 (e2 :: rem) L (r.toList ++ st2) μ2 Post) : Ev Y μ0 ((pc, .invokestatic idx, 3, x, t) :: e2 :: rem) L st μ Post := by
  obtain ⟨r, μ2, h1, hD⟩ := hc
  obtain ⟨r3, μ3, h2, hE⟩ := k r μ2 h1
  refine ⟨r3, μ3, h2, mm_call (fun h => hlk.2.2 (mm_na_own h)) hD hcs (fun h => by rw [hst] at h; exact h.rev) ?_ (st3 := r.toList ++ st2) (fun Γ => by rw [List.map_append]; cases r <;> rfl) (fun g1 g2 => by cases r with | none => exact g1 | some v => exact mm_okl.c (g2 v rfl) g1) hE⟩
  intro Γ l p e s m args below meth c H locs ls R cells slots hF hR ho hd hfr hlo hls hf hw hM hpre
  have hts := hF.2.2.2.2.2.2.2.1
  obtain ⟨⟨w1, w2, w3, w4⟩, hnm, -⟩ := hlk
  have hG : GoodIn mm_tbl (va_wsS (mm_ow Y) idx (mm_nm Yc) (mm_ws Yc)) := mm_goodIn (fun z hz => by
    rcases List.mem_append.mp hz with g | g
    · rcases List.mem_cons.mp g with rfl | g
      · exact mm_tb w1 rfl
      rcases List.mem_cons.mp g with rfl | g
      · exact mm_tb w2 rfl
      rcases List.mem_cons.mp g with rfl | g
      · exact mm_tb w3 rfl
      · cases g
    · rcases List.mem_cons.mp g with rfl | g
      · exact mm_tb w4 rfl
      · exact g)
  exact va_runS (nL := mm_ml Y) (Ts := mm_tbl) (As := cargs.map (mm_tr (mm_ad Γ))) ⟨hF.1, hF.2.1, hF.2.2.1, hF.2.2.2.2.2.1, hts⟩ hM (va_cwS cargs.length hts hG rfl rfl rfl hnm (by rw [hfr, hlo]; exact hrm)) ⟨mm_blind Γ cargs μ, hpre⟩ rfl (by rw [List.length_map]) hls (by rw [hst]; show List.map _ _ = _; rw [List.map_append, List.map_reverse]) (mm_room m pc ls _ hw) hd hf
theorem ev_callV {Y Yc : mm_Y} {μ0 : mm_M} {pc idx : Nat} {x : mm_X} {t : List Nat} {e2 : mm_E} {rem : List mm_E} {L : mm_L} {st st2 : List mm_V} {μ : mm_M} {c0 kd a : Nat} {cargs : List mm_V} {Post Q : Option mm_V → mm_M → Prop} (hlk : mm_lkV (mm_ow Y) idx Yc cargs.length c0) (hc : Ct Yc (vr kd a :: cargs) μ Q) (hkd : (Nat.beq kd (c0 + 1) || Nat.beq kd (c0 + 21)) = true) (hst : st = cargs.reverse ++ vr kd a :: st2) (hrm : mm_rmk Y Yc) (hcs : Nat.ble (mm_cs st2) 8 = true) (k : ∀ r μ2, Q r μ2 → Ev Y μ0 (e2 :: rem) L (r.toList ++ st2) μ2 Post) : Ev Y μ0 ((pc, .invokevirtual idx, 3, x, t) :: e2 :: rem) L st μ Post := by
  obtain ⟨r, μ2, h1, hD⟩ := hc
  obtain ⟨r3, μ3, h2, hE⟩ := k r μ2 h1
  refine ⟨r3, μ3, h2, mm_call (fun h => hlk.2.1.2 (mm_na_own h)) hD hcs (fun h => by rw [hst] at h; obtain ⟨g1, g2⟩ := h.rev; exact ⟨mm_okl.c g2.h g1, g2.t⟩) ?_ (st3 := r.toList ++ st2) (fun Γ => by rw [List.map_append]; cases r <;> rfl) (fun g1 g2 => by cases r with | none => exact g1 | some v => exact mm_okl.c (g2 v rfl) g1) hE⟩
  intro Γ l p e s m args below meth c H locs ls R cells slots hF hR ho hd hfr hlo hls hf hw hM hpre
  have hts := hF.2.2.2.2.2.2.2.1
  obtain ⟨⟨w1, w2, w3, w4, w5⟩, ⟨hnm, -⟩, hc11, hcn⟩ := hlk
  have hG : GoodIn mm_tbl (wsV (mm_ow Y) idx (mm_nm Yc).cls (mm_nm Yc) (mm_ws Yc)) := mm_goodIn (fun z hz => by
    rcases List.mem_append.mp hz with g | g
    · rcases List.mem_cons.mp g with rfl | g
      · exact mm_tb w1 rfl
      rcases List.mem_cons.mp g with rfl | g
      · exact mm_tb w2 rfl
      rcases List.mem_cons.mp g with rfl | g
      · exact List.mem_filter.mpr ⟨w3, rfl⟩
      rcases List.mem_cons.mp g with rfl | g
      · exact mm_tb w4 rfl
      · cases g
    · rcases List.mem_cons.mp g with rfl | g
      · exact mm_tb w5 rfl
      · exact g)
  rw [hst] at ho
  have hkc := (mm_kc_of (show mm_okk μ.1 kd a from (ho.rev).2.h) hkd hc11).1
  obtain ⟨q, hq, cell, g1, g2, g3, -⟩ := hR.obj hkc
  rw [hq] at hcn
  have hqn : q.1 = (mm_nm Yc).cls := Option.some.inj hcn
  exact va_runV (nL := mm_ml Y) (Ts := mm_tbl) (b := mm_ad Γ a) (As := cargs.map (mm_tr (mm_ad Γ))) ⟨hF.1, hF.2.1, hF.2.2.1, hF.2.2.2.2.2.1, hts⟩ hM (cwV cargs.length hts hG rfl rfl rfl ⟨rfl, hnm⟩ (by rw [hfr, hlo]; exact hrm)) ⟨mm_blind Γ _ μ, ⟨cell, g1, by rw [g3]; rfl, by rw [g2, ← hqn]; exact (hF.2.2.2.2.2.2.2.2.2.1.1 c0 q hq).2.1⟩, hpre⟩ rfl (by rw [List.length_map]) hls (by rw [hst]; show List.map _ _ = _; rw [List.map_append, List.map_reverse]; rfl) (mm_room m pc ls _ hw) hd hf
theorem ev_callI {Y Yc : mm_Y} {μ0 : mm_M} {pc idx : Nat} {x : mm_X} {t : List Nat} {e2 : mm_E} {rem : List mm_E} {L : mm_L} {st st2 : List mm_V} {μ : mm_M} {c0 a : Nat} {cargs : List mm_V} {Post Q : Option mm_V → mm_M → Prop} (hlk : mm_lkI (mm_ow Y) idx Yc cargs.length c0) (hc : Ct Yc (vr (c0 + 21) a :: cargs) μ Q) (hst : st = cargs.reverse ++ vr (c0 + 21) a :: vr (c0 + 21) a :: st2) (hrm : mm_rmk Y Yc) (hcs : Nat.ble (mm_cs (vr (c0 + 21) a :: st2)) 8 = true) (k : ∀ r μ2, Q r μ2 → r = none ∧ μ2.1 a = c0 + 1 ∧ Ev Y μ0 (e2 :: rem) L (vr (c0 + 1) a :: st2) μ2 Post) : Ev Y μ0 ((pc, .invokespecial idx, 3, x, t) :: e2 :: rem) L st μ Post := by
  obtain ⟨r, μ2, h1, hD⟩ := hc
  obtain ⟨hr, hka, r3, μ3, h2, hE⟩ := k r μ2 h1
  subst hr
  have hc11 := hlk.2.2.2
  refine ⟨r3, μ3, h2, mm_call (fun h => hlk.2.1.2 (mm_na_own h)) hD hcs (fun h => by rw [hst] at h; obtain ⟨g1, g2⟩ := h.rev; exact ⟨mm_okl.c g2.h g1, g2.t⟩) ?_ (st3 := vr (c0 + 1) a :: st2) (fun Γ => rfl) (fun g1 g2 => mm_okl.c (Or.inr ⟨Nat.succ_ne_zero _, by show c0 + 1 < 90; omega, Or.inl hka⟩) g1.t) hE⟩
  intro Γ l p e s m args below meth c H locs ls R cells slots hF hR ho hd hfr hlo hls hf hw hM hpre
  have hts := hF.2.2.2.2.2.2.2.1
  obtain ⟨⟨w1, w2, w3, w4⟩, ⟨hnm, -⟩, ⟨hin, hre⟩, -⟩ := hlk
  have hG : GoodIn mm_tbl (mm_ws Yc) := mm_goodIn (fun z hz => by
    rcases List.mem_cons.mp hz with rfl | g
    · exact mm_tb w4 rfl
    · exact g)
  exact va_runI (nL := mm_ml Y) (Ts := mm_tbl) (b := mm_ad Γ a) (As := cargs.map (mm_tr (mm_ad Γ))) ⟨hF.1, hF.2.1, hF.2.2.1, hF.2.2.2.2.2.1, hts⟩ hM (cwI (bytes := mm_by Yc) (maxL := mm_ml Yc) (ws' := mm_tbl) cargs.length hts hG (by show _ :: _ = _; rw [hre]) rfl rfl (hF.wd w3 rfl) (hF.wd w1 rfl) (hF.wd w2 rfl) hin hnm (by rw [hfr, hlo]; exact hrm)) ⟨mm_blind Γ _ μ, hpre⟩ rfl (by rw [List.length_map]) hls (by rw [hst]; show List.map _ _ = _; rw [List.map_append, List.map_reverse]; rfl) (mm_room m pc ls _ hw) hd hf
/-- an object that was being made is made -/
theorem ev_fin {Y : mm_Y} {μ0 : mm_M} {rem : List mm_E} {L : mm_L} {st : List mm_V} {K : Nat → Nat} {I : Nat → Nat → Int32} {J : Nat → Nat → Int64} {F : Nat → Nat → UInt32} {D : Nat → Nat → UInt64} {R : Nat → Nat → Option Nat} {nx sl a c0 : Nat} {Post : Option mm_V → mm_M → Prop} (hc : c0 < 11) (hk : K a = c0 + 21) (hstr : ∀ k, ((mm_ft c0 k).1 = 5 → R a k = some (a + (mm_ft c0 k).2.2)) ∧ ((mm_ft c0 k).1 = 6 → R a k = some (mm_ft c0 k).2.2)) (k : Ev Y μ0 rem L st (mm_uk K a (c0 + 1), I, J, F, D, R, nx, sl) Post) : Ev Y μ0 rem L st (K, I, J, F, D, R, nx, sl) Post := by
  obtain ⟨r, μ1, h1, h2⟩ := k
  refine ⟨r, μ1, h1, fun hkY hs hwf hle hL hst => ?_⟩
  have hkc : mm_kc (K a) = some c0 := by rw [hk]; exact mm_kc_raw hc
  have hne : ∀ n, n ≠ a → mm_uk K a (c0 + 1) n = K n := fun n hn => mm_uk_ne hn
  have hle2 : mm_le (K, I, J, F, D, R, nx, sl) (mm_uk K a (c0 + 1), I, J, F, D, R, nx, sl) := by
    refine ⟨Nat.le_refl _, Nat.le_refl _, fun n _ => ?_, fun n hn => ?_⟩
    · by_cases e : n = a
      · subst e
        show mm_kle (K n) (mm_uk K n (c0 + 1) n)
        rw [mm_uk_eq, hk]
        exact Or.inr ⟨by omega, by omega, by omega⟩
      · show mm_kle (K n) (mm_uk K a (c0 + 1) n)
        rw [hne n e]
        exact mm_kle.rf _
    · refine Or.inl ?_
      by_cases e : n = a
      · subst e
        show K n ≠ 0
        omega
      · have hn : mm_uk K a (c0 + 1) n ≠ 0 := hn
        rw [hne n e] at hn
        exact hn
  have hwf2 : mm_wf (mm_uk K a (c0 + 1), I, J, F, D, R, nx, sl) := by
    refine ⟨hwf.1, fun n hn => hwf.2.1 n ?_, fun n => ?_⟩
    · by_cases e : n = a
      · subst e
        show K n ≠ 0
        omega
      · have hn : mm_uk K a (c0 + 1) n ≠ 0 := hn
        rw [hne n e] at hn
        exact hn
    · have hb2 : ∀ b k, K b = k → k ≠ 0 → ¬ (21 ≤ k ∧ k ≤ 31) → mm_uk K a (c0 + 1) b = k := fun b k g1 g2 g3 => by
        rw [hne b (fun e => by subst e; omega)]
        exact g1
      by_cases e : n = a
      · subst e
        have old := hwf.2.2 n
        show mm_ty (mm_uk K n (c0 + 1)) R n
        unfold mm_ty at old ⊢
        rw [show mm_kc _ = some c0 from hkc] at old
        rw [mm_uk_eq, mm_kc_fin hc]
        exact ⟨fun k b g1 g2 g3 => hb2 b _ (old.1 k b g1 g2 g3) (mm_ft_ne c0 k g1 g2) (mm_ft_nr c0 k g1 g2), fun _ => hstr⟩
      · exact mm_ty.up (hne n e) (fun _ => rfl) hb2 (hwf.2.2 n)
  obtain ⟨k1, k2, k4, k3⟩ := h2 hkY hs hwf2 (hle.tr hle2) (hL.up hle2) (hst.up hle2)
  refine ⟨hle2.tr k1, k2, k4, fun Γ l p e s m args below meth c H locs ls hF hR hS hl => k3 Γ l p e s m args below meth c H locs ls hF ⟨hwf2, hR.2.1, fun n => ?_⟩ hS hl⟩
  by_cases e : n = a
  · subst e
    have old := hR.2.2 n
    unfold mm_ce at old ⊢
    rw [show mm_kc _ = some c0 from hkc] at old
    rw [show mm_kc (((mm_uk K n (c0 + 1), I, J, F, D, R, nx, sl) : mm_M).1 n) = some c0 by show mm_kc (mm_uk K n (c0 + 1) n) = _; rw [mm_uk_eq]; exact mm_kc_fin hc]
    exact old
  · exact mm_ce.keep (μ := (K, I, J, F, D, R, nx, sl)) (hne n e) (fun _ => rfl) (fun _ => rfl) (fun _ => rfl) (fun _ => rfl) (fun _ => rfl) (fun _ => rfl) (hR.2.2 n)
