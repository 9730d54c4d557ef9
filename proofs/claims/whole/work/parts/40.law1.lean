/-! THE CLAIM OUT OF ONE WALK OF THE LAW'S BODY. Your part is whole_start (and what it stands on); all else here is the same for every law, but numbers. -/
def R_law : String := "MachineWitnessLaw"
def lw_P (b : Addr) (xs : List Int32) (args : Array Value) (s : State) : Prop := args = #[.ref b] ∧ s.IntsAt b xs ∧ xs.length ≤ 3072 ∧ (Jvm.Cond.and given_1 narrow_1).before args s = true
/-- what a walk over the start with the record d0 says of its end, said of the start itself -/
theorem lw_closed {s t : State} {o : Outcome} {d0 : Drawn} {L : List Loc} {k n : Nat} (hd0 : s.drawn.sameBut d0 lw_cs) (hv : ∃ v, o = .returned v) (hW : (s.setDrawn d0).WarmedH t.vm) (hs : (s.setDrawn d0).sameButNew ({ t with vm := s.vm } : State) L k n) : State.butDraws s t lw_cs (fun t1 => Framed s o t1 L k n) := by
  have h2 : t.drawn = d0 := congrArg State.drawn hs.1
  refine ⟨⟨hv, hW, State.sameButNew.setDrawn hs s.drawn⟩, ?_, by decide⟩
  rw [h2]
  exact hd0
def lw_Q (_ : Array Value) (s : State) (o : Outcome) (t : State) : Prop := o = .returned (some (.int 1)) ∧ State.butDraws s t lw_cs (fun t1 => Framed s o t1 [] 600000 7302250)
def lw_Z (below : List Frame) (a : Array Value) (s : State) : State → Prop := fun t => ∃ o, t.status = .running ∧ Ended t below o ∧ lw_Q a s o t
/-- the law's own end, with 1 on the stack, nothing written that was there before, its room as the claim has it; d0: the record of draws at this point (at the entry s.drawn: begin with 'refine W.base ?_' and 'have hd0 := Drawn.sameBut.refl s.drawn lw_cs') -/
theorem lw_ret {p : Program} {l : Launch} {e : Env} {s : State} {m : MethodId} {below : List Frame} {meth : Method} {c : Code} {b : Nat} {d0 : Drawn} (hd0 : s.drawn.sameBut d0 lw_cs) (hx : p.tables.exec = Jvm.exec) (hb : c.code = code) (hr : meth.sig.returnType = ret) (hlocks : meth.locks = false) {pc : Nat} {H : Heap} {ls : Array Slot} (hdg : decode code pc = .ok (.ireturn, 1)) : W p l e room_1 (s.setDrawn d0) m #[Value.ref b] below meth c H [] 600000 7302250 (lw_Z below #[Value.ref b] s) (F0 m pc ls [.int 1]) := by
  intro T hT X
  obtain ⟨fs, hret, hrun, hended, hW, hframe⟩ := X.leave (v := some (.int 1)) (hlocks := hlocks) (fun h => by rw [hr] at h; cases h)
  have hmeth' : T.vm.method? m = some meth := X.method'
  refine ⟨T.setFrames fs, ?_, .returned (some (.int 1)), hrun, hended, rfl, lw_closed hd0 ⟨_, rfl⟩ hW hframe⟩
  jvm_step X.here [X.here.top, hx, hb, hdg, hmeth', hr, ret, narrow_b1]
  (try refine ⟨rfl, ?_⟩); (try refine ⟨rfl, ?_⟩)
  first | (intro acts; rw [hret _ acts rfl rfl rfl]) | rw [hret _ _ rfl rfl rfl]
  exact Steps.refl _
/-- what holds at the law's entry: the machine, the code, the tables' words (any of lw_tbl by 'hts w (by decide +kernel)'), the script of L ints xs at the cell b, what the Statement gives of the start (any of its parts by flat_of_before) -/
def lw_At (p : Program) (s : State) (m : MethodId) (meth : Method) (c : Code) (b L : Nat) (xs : Nat → Int32) : Prop :=
  p.tables.exec = Jvm.exec ∧ c.code = code ∧ meth.sig.returnType = ret ∧ c.maxLocals = 4 ∧ s.vm.findClass R_law = some m.cls ∧ (∀ w ∈ lw_tbl, w.before #[Value.ref b] s = true) ∧ va_X b L xs s s.heap ∧ b < s.heap.size ∧ meth.locks = false ∧ (Jvm.Cond.and given_1 narrow_1).before #[Value.ref b] s = true

theorem lw_hts {b : Nat} {s : State} (hts : ∀ w ∈ lw_tbl, w.before #[Value.ref b] s = true) : ∀ z ∈ mm_tbl, z.before #[Value.ref b] s = true := fun z hz => hts z (List.mem_filter.mp hz).1
set_option maxHeartbeats 4000000 in
theorem lw_call {p : Program} {l : Launch} {e : Env} {s : State} {m : MethodId} {below : List Frame} {meth : Method} {c : Code} {b L : Nat} {xs : Nat → Int32} {H : Heap} {locs : List Loc} {cells slots : Nat} {Q : State → Prop} {ls : Array Slot} {pc idx c0 kd a : Nat} {Γ : mm_C} {μ μ1 : mm_M} {Yc : mm_Y} {cargs : List mm_V} {r : Option mm_V} {st2 : List Value} (C0 : lw_At p s m meth c b L xs) (hA : mm_Aw Γ) (hLw : mm_na Yc = false → mm_Lw Γ) (hSw : mm_Sw Γ s) (hZw : mm_Zw Γ (fun q => s.heap.size ≤ q) s s.heap) (hR : mm_Rw Γ μ H) (hin : ∀ q, mm_A Γ μ q → s.heap.size ≤ q) (hS : va_S (fun q => s.heap.size ≤ q) s.heap H locs) (hls : ls.size = 4) (hlk : mm_lkV R_law idx Yc cargs.length c0) (hD : mm_Det Yc (vr kd a :: cargs) μ r μ1) (hok : mm_okl μ.1 (vr kd a :: cargs)) (hkd : (Nat.beq kd (c0 + 1) || Nat.beq kd (c0 + 21)) = true) (hrm : mm_fr Yc + 1 ≤ 10 ∧ 8 + (mm_ml Yc + 11) + mm_lo Yc ≤ 434) (hd : decode code pc = .ok (.invokevirtual idx, 3)) (hcs : (st2.map fun v => v.category).sum ≤ 8) (hf : cells + (mm_nx μ1 - mm_nx μ) ≤ 600000 ∧ slots + (mm_sz μ1 - mm_sz μ) ≤ 7302250) {stk : List Value} (hstk : stk = (cargs.map (mm_tr (mm_ad Γ))).reverse ++ .ref (mm_ad Γ a) :: st2) (k : ∀ (H1 : Heap) (locs1 : List Loc), mm_le μ μ1 → mm_st Yc μ μ1 → mm_rt Yc r → mm_Rw Γ μ1 H1 → (H.size ≤ H1.size ∧ ∀ q : Nat, q < H.size → ¬ mm_A Γ μ q → H1[q]? = H[q]?) → va_S (fun q => s.heap.size ≤ q) s.heap H1 locs1 → W p l e room_1 s m #[Value.ref b] below meth c H1 locs1 (cells + (mm_nx μ1 - mm_nx μ)) (slots + (mm_sz μ1 - mm_sz μ)) Q (F0 m (pc + 3) ls ((r.map (mm_tr (mm_ad Γ))).toList ++ st2))) : W p l e room_1 s m #[Value.ref b] below meth c H locs cells slots Q (F0 m pc ls stk) := by
  subst hstk
  obtain ⟨hx, hb, hr, hml, hown, hts, hX, hbl, hlocks, hgv⟩ := C0
  have hts2 := lw_hts hts
  obtain ⟨d1, d2, d3, d4⟩ := hD hR.1 hok
  obtain ⟨⟨w1, w2, w3, w4, w5⟩, ⟨hnm, -⟩, hc11, hcn⟩ := hlk
  have hG : GoodIn mm_tbl (wsV R_law idx (mm_nm Yc).cls (mm_nm Yc) (mm_ws Yc)) := mm_goodIn (fun z hz => by
    rcases List.mem_append.mp hz with g | g
    · rcases List.mem_cons.mp g with rfl | g
      · exact mm_tb w1 rfl
      rcases List.mem_cons.mp g with rfl | g
      · exact mm_tb w2 rfl
      rcases List.mem_cons.mp g with rfl | g
      · exact List.mem_filter.mpr ⟨w3, rfl⟩
      rcases List.mem_cons.mp g with rfl | g
      · exact mm_tb w4 rfl
      · cases g
    · rcases List.mem_cons.mp g with rfl | g
      · exact mm_tb w5 rfl
      · exact g)
  have hkc := (mm_kc_of (show mm_okk μ.1 kd a from hok.h) hkd hc11).1
  obtain ⟨q, hq, cell, g1, g2, g3, -⟩ := hR.obj hkc
  rw [hq] at hcn
  have hqn : q.1 = (mm_nm Yc).cls := Option.some.inj hcn
  have hpre : ∀ U : State, U.heap = H → s.WarmedH U.vm → mm_P Γ (vr kd a :: cargs) μ ((vr kd a :: cargs).map (mm_tr (mm_ad Γ))).toArray U := fun U hU hW =>
    ⟨rfl, hSw.moved hW.alike, by rw [hU]; exact hR, by rw [hU]; exact hZw.go hW.alike (fun a g1 g2 => hS.2.1 a g1 g2) hin⟩
  have run := va_runV (p := p) (l := l) (e := e) (R := room_1) (below := below) (H := H) (locs := locs) (cells := cells) (slots := slots) (meth := meth) (nL := 4) (Ts := mm_tbl) (b := mm_ad Γ a) (As := cargs.map (mm_tr (mm_ad Γ))) (rest := st2) (g := F0 m pc ls ((cargs.map (mm_tr (mm_ad Γ))).reverse ++ .ref (mm_ad Γ a) :: st2)) ⟨hx, hb, hml, hown, hts2⟩ (d4 Γ l hA hLw) (cwV cargs.length hts2 hG rfl rfl rfl ⟨rfl, hnm⟩ hrm) ⟨mm_blind Γ _ μ, ⟨cell, g1, by rw [g3]; rfl, by rw [g2, ← hqn]; exact (hSw.1 c0 q hq).2.1⟩, hpre⟩ rfl (by rw [List.length_map]) hls rfl (mm_room m pc ls _ hcs) hd hf
  intro T hT X
  obtain ⟨v, st₀, tt, T', L', h0, X', hL', e1, e2', ⟨hv, hRt, hFt⟩, stp⟩ := run T hT X
  have hv : v = r.map (mm_tr (mm_ad Γ)) := by cases hv; rfl
  subst hv
  have hfr : H.size ≤ T'.heap.size ∧ ∀ q : Nat, q < H.size → ¬ mm_A Γ μ q → T'.heap[q]? = H[q]? := ⟨by rw [e1, ← h0]; exact hFt.1, fun q g1 g2 => by rw [e1, hFt.2 q (by rw [h0]; exact g1) g2, h0]⟩
  have hS2 : va_S (fun q => s.heap.size ≤ q) s.heap T'.heap (locs ++ L') := by
    refine ⟨Nat.le_trans hS.1 hfr.1, fun q g1 g2 => ?_, fun q hq => ?_⟩
    · rw [hfr.2 q (Nat.lt_of_lt_of_le g1 hS.1) (fun z => g2 (hin q z))]
      exact hS.2.1 q g1 g2
    · rcases List.mem_append.mp hq with g | g
      · exact hS.2.2 q g
      · exact hin _ (hL' q g)
  obtain ⟨t2, a1, b1⟩ := k T'.heap (locs ++ L') d1 d3.2 d3.1.2 (by rw [e1]; exact hRt) hfr hS2 T' rfl X'
  exact ⟨t2, stp t2 a1, b1⟩
set_option maxHeartbeats 4000000 in
theorem lw_callI {p : Program} {l : Launch} {e : Env} {s : State} {m : MethodId} {below : List Frame} {meth : Method} {c : Code} {b L : Nat} {xs : Nat → Int32} {H : Heap} {locs : List Loc} {cells slots : Nat} {Q : State → Prop} {ls : Array Slot} {pc idx c0 a : Nat} {Γ : mm_C} {μ μ1 : mm_M} {Yc : mm_Y} {r : Option mm_V} {st2 : List Value} (C0 : lw_At p s m meth c b L xs) (hA : mm_Aw Γ) (hLw : mm_na Yc = false → mm_Lw Γ) (hSw : mm_Sw Γ s) (hZw : mm_Zw Γ (fun q => s.heap.size ≤ q) s s.heap) (hR : mm_Rw Γ μ H) (hin : ∀ q, mm_A Γ μ q → s.heap.size ≤ q) (hS : va_S (fun q => s.heap.size ≤ q) s.heap H locs) (hls : ls.size = 4) {kd : Nat} (hlk : mm_lkI R_law idx Yc 0 c0) (hD : mm_Det Yc [vr kd a] μ r μ1) (hok : mm_okl μ.1 [vr kd a]) (hrm : mm_fr Yc + 1 ≤ 10 ∧ 8 + (mm_ml Yc + 11) + mm_lo Yc ≤ 434) (hd : decode code pc = .ok (.invokespecial idx, 3)) (hcs : (st2.map fun v => v.category).sum ≤ 8) (hf : cells + (mm_nx μ1 - mm_nx μ) ≤ 600000 ∧ slots + (mm_sz μ1 - mm_sz μ) ≤ 7302250) (k : ∀ (H1 : Heap) (locs1 : List Loc), mm_le μ μ1 → mm_st Yc μ μ1 → mm_rt Yc r → mm_Rw Γ μ1 H1 → (H.size ≤ H1.size ∧ ∀ q : Nat, q < H.size → ¬ mm_A Γ μ q → H1[q]? = H[q]?) → va_S (fun q => s.heap.size ≤ q) s.heap H1 locs1 → W p l e room_1 s m #[Value.ref b] below meth c H1 locs1 (cells + (mm_nx μ1 - mm_nx μ)) (slots + (mm_sz μ1 - mm_sz μ)) Q (F0 m (pc + 3) ls ((r.map (mm_tr (mm_ad Γ))).toList ++ st2))) : W p l e room_1 s m #[Value.ref b] below meth c H locs cells slots Q (F0 m pc ls (.ref (mm_ad Γ a) :: st2)) := by
  obtain ⟨hx, hb, hr, hml, hown, hts, hX, hbl, hlocks, hgv⟩ := C0
  have hts2 := lw_hts hts
  have htt : ∀ {w : Cond}, w ∈ tables_1 → w.before #[Value.ref b] s = true := fun h => hts _ (List.mem_append_right _ h)
  obtain ⟨d1, d2, d3, d4⟩ := hD hR.1 hok
  obtain ⟨⟨w1, w2, w3, w4⟩, ⟨hnm, -⟩, ⟨hnin, hre⟩, -⟩ := hlk
  have hG : GoodIn mm_tbl (mm_ws Yc) := mm_goodIn (fun z hz => by
    rcases List.mem_cons.mp hz with rfl | g
    · exact mm_tb w4 rfl
    · exact g)
  have hpre : ∀ U : State, U.heap = H → s.WarmedH U.vm → mm_P Γ (vr kd a :: []) μ ((vr kd a :: []).map (mm_tr (mm_ad Γ))).toArray U := fun U hU hW =>
    ⟨rfl, hSw.moved hW.alike, by rw [hU]; exact hR, by rw [hU]; exact hZw.go hW.alike (fun a g1 g2 => hS.2.1 a g1 g2) hin⟩
  have run := va_runI (p := p) (l := l) (e := e) (R := room_1) (below := below) (H := H) (locs := locs) (cells := cells) (slots := slots) (meth := meth) (nL := 4) (Ts := mm_tbl) (b := mm_ad Γ a) (As := []) (rest := st2) (g := F0 m pc ls (.ref (mm_ad Γ a) :: st2)) ⟨hx, hb, hml, hown, hts2⟩ (d4 Γ l hA hLw) (cwI (bytes := mm_by Yc) (maxL := mm_ml Yc) (ws' := mm_tbl) 0 hts2 hG (by show _ :: _ = _; rw [hre]) rfl rfl (htt w3) (htt w1) (htt w2) hnin hnm hrm) ⟨mm_blind Γ _ μ, hpre⟩ rfl rfl hls rfl (mm_room m pc ls _ hcs) hd hf
  intro T hT X
  obtain ⟨v, st₀, tt, T', L', h0, X', hL', e1, e2', ⟨hv, hRt, hFt⟩, stp⟩ := run T hT X
  have hv : v = r.map (mm_tr (mm_ad Γ)) := by cases hv; rfl
  subst hv
  have hfr : H.size ≤ T'.heap.size ∧ ∀ q : Nat, q < H.size → ¬ mm_A Γ μ q → T'.heap[q]? = H[q]? := ⟨by rw [e1, ← h0]; exact hFt.1, fun q g1 g2 => by rw [e1, hFt.2 q (by rw [h0]; exact g1) g2, h0]⟩
  have hS2 : va_S (fun q => s.heap.size ≤ q) s.heap T'.heap (locs ++ L') := by
    refine ⟨Nat.le_trans hS.1 hfr.1, fun q g1 g2 => ?_, fun q hq => ?_⟩
    · rw [hfr.2 q (Nat.lt_of_lt_of_le g1 hS.1) (fun z => g2 (hin q z))]
      exact hS.2.1 q g1 g2
    · rcases List.mem_append.mp hq with g | g
      · exact hS.2.2 q g
      · exact hin _ (hL' q g)
  obtain ⟨t2, a1, b1⟩ := k T'.heap (locs ++ L') d1 d3.2 d3.1.2 (by rw [e1]; exact hRt) hfr hS2 T' rfl X'
  exact ⟨t2, stp t2 a1, b1⟩
