theorem mm_k_getf {own : String} {nm : MethodName} {fr lo ml pc : Nat} {i0 : Nat} {x1 x2 x3 x4 x5 : Nat} {t : List Nat} (h : mm_ck2 own nm fr lo ml pc (.getfield i0) x1 x2 x3 x4 x5 t = true) : (mm_fls.any fun z => decide (z.1 = own) && (z.2.1 == i0) && (z.2.2.1 == x1) && (z.2.2.2.1 == x2)) = true ∧ mm_ft x1 x2 = (x3, x4, x5) := by
  simp only [mm_ck2, Bool.and_eq_true, decide_eq_true_eq] at h
  exact h
theorem mm_k_putf {own : String} {nm : MethodName} {fr lo ml pc : Nat} {i0 : Nat} {x1 x2 x3 x4 x5 : Nat} {t : List Nat} (h : mm_ck2 own nm fr lo ml pc (.putfield i0) x1 x2 x3 x4 x5 t = true) : (mm_fls.any fun z => decide (z.1 = own) && (z.2.1 == i0) && (z.2.2.1 == x1) && (z.2.2.2.1 == x2)) = true ∧ mm_ft x1 x2 = (x3, x4, x5) ∧ ∀ q : vw_C, mm_cls[x1]? = some q → (q.2.1 x2).2.2.2 = true → nm.name = "<init>" ∧ q.1 = own := by
  simp only [mm_ck2, Bool.and_eq_true, decide_eq_true_eq] at h
  refine ⟨h.1.1, h.1.2, fun q hq hf => ?_⟩
  have h2 := h.2
  rw [hq] at h2
  dsimp only at h2
  rw [hf] at h2
  simp only [Bool.not_true, Bool.false_or, Bool.and_eq_true, decide_eq_true_eq] at h2
  exact h2
theorem mm_getf {Γ : mm_C} {Y : mm_Y} {μ0 : mm_M} {p : Program} {l : Launch} {e : Env} {R0 : Room} {s : State} {m : MethodId} {args : Array Value} {below : List Frame} {meth : Method} {c : Code} {H : Heap} {locs : List Loc} {cells slots : Nat} {Q : State → Prop} {pc : Nat} {ls : Array Slot} {rest : List Value} {μ : mm_M} (hF : mm_Fx Γ Y μ0 p s m args meth c) (hR : mm_Rw Γ μ H) {a x1 x2 i0 : Nat} (hkc : mm_kc (μ.1 a) = some x1) (hfl : (mm_fls.any fun z => decide (z.1 = mm_ow Y) && (z.2.1 == i0) && (z.2.2.1 == x1) && (z.2.2.2.1 == x2)) = true) (hd : decode (mm_by Y) pc = .ok (.getfield i0, 3)) (kk : W p l e R0 s m args below meth c H locs cells slots Q (F0 m (pc + 3) ls (mm_fv (mm_ad Γ) μ x1 a x2 :: rest))) : W p l e R0 s m args below meth c H locs cells slots Q (F0 m pc ls (.ref (mm_ad Γ a) :: rest)) := by
  obtain ⟨q, hq, hk, hlk⟩ := mm_fl_in hfl
  obtain ⟨q', hq', cell, q1, q2, q3, q4⟩ := hR.obj hkc
  cases hq.symm.trans hq'
  obtain ⟨hS, hfc, kC, hkC, hkind⟩ := hF.2.2.2.2.2.2.2.2.2.1.1 x1 q hq
  obtain ⟨cf, kf, fi, f, hi, hsl⟩ := hS x2 hk
  refine W.getf hF.1 hF.2.1 hF.2.2.2.2.2.1 (hF.wd hlk rfl) hi (u_facts hfc hkC (u_lays hF.2.2.2.2.2.2.2.1 (mm_lay_tb hq) hk) hi).1 q1 (by rw [q3]; exact fun h => by cases h) (v := mm_fv (mm_ad Γ) μ x1 a x2) ?_ rfl rfl hd kk
  rw [hsl]
  exact q4 x2 hk
theorem mm_okk_ref {μ : mm_M} (hwf : mm_wf μ) {a c k b tc kd off : Nat} (hkc : mm_kc (μ.1 a) = some c) (hft : mm_ft c k = (tc, kd, off)) (h4 : 4 ≤ tc) (h6 : tc ≤ 6) (hR : μ.2.2.2.2.2.1 a k = some b) : mm_okk μ.1 kd b := by
  have h1 := hwf.2.2 a
  unfold mm_ty at h1
  rw [hkc] at h1
  have h2 := h1.1 k b (by rw [hft]; exact h4) (by rw [hft]; exact h6) hR
  have h3 := mm_ft_lt c k (by rw [hft]; exact h4) (by rw [hft]; exact h6)
  rw [hft] at h2 h3
  exact Or.inr ⟨h3.1, h3.2, Or.inl h2⟩
theorem mm_fin_ref {μ : mm_M} (hwf : mm_wf μ) {a c k tc kd off : Nat} (hc : c < 11) (hka : μ.1 a = c + 1) (hft : mm_ft c k = (tc, kd, off)) : (tc = 5 → μ.2.2.2.2.2.1 a k = some (a + off)) ∧ (tc = 6 → μ.2.2.2.2.2.1 a k = some off) := by
  have h1 := hwf.2.2 a
  unfold mm_ty at h1
  rw [show mm_kc (μ.1 a) = some c by rw [hka]; exact mm_kc_fin hc] at h1
  have h2 := h1.2 (by rw [hka]; omega) k
  rw [hft] at h2
  exact h2
set_option maxHeartbeats 4000000 in
theorem mm_s_getfield (x1 x2 x3 x4 x5 : Nat) (t : List Nat) (i0 : Nat) : mm_Sd (.getfield i0) (x1, x2, x3, x4, x5) t (mm_hgetf x1 x2 x3 x4 x5) := by
  intro Y μ0 pc len rem L st μ bs os j L2 st2 μ2 bs2 os2 c e2 rem2 r μ1 h hc hn k
  unfold mm_hgetf at h
  split at h
  · next kd a r0 K I J F D Rm nx sl =>
    split at h
    · next hkd =>
      split at h
      · cases h
        cases hn
        refine mm_fall ?_ ?_ k
        · intro Γ l p e s m args below meth c H locs ls R cells slots Q hF hlen hck hd hrm hok hl kk
          cases eq_of_beq hlen
          obtain ⟨hfl, hft⟩ := mm_k_getf hck
          obtain ⟨q, hq, -, -⟩ := mm_fl_in hfl
          have hkc := (mm_kc_of (show mm_okk K kd a from hok.2.1.h) hkd (mm_cls_lt hq)).1
          refine mm_getf hF hok.2.2.1 hkc hfl hd ?_
          have hv : mm_fv (mm_ad Γ) (K, I, J, F, D, Rm, nx, sl) x1 a x2 = .int (I a x2) := by
            unfold mm_fv
            rw [hft]
            rfl
          rw [hv]
          exact kk _ hl
        · intro hck hwf hL ho
          exact ⟨hL, mm_okl.c (by intro a e; cases e) ho.t⟩
      · cases h
        cases hn
        refine mm_fall ?_ ?_ k
        · intro Γ l p e s m args below meth c H locs ls R cells slots Q hF hlen hck hd hrm hok hl kk
          cases eq_of_beq hlen
          obtain ⟨hfl, hft⟩ := mm_k_getf hck
          obtain ⟨q, hq, -, -⟩ := mm_fl_in hfl
          have hkc := (mm_kc_of (show mm_okk K kd a from hok.2.1.h) hkd (mm_cls_lt hq)).1
          refine mm_getf hF hok.2.2.1 hkc hfl hd ?_
          have hv : mm_fv (mm_ad Γ) (K, I, J, F, D, Rm, nx, sl) x1 a x2 = .long (J a x2) := by
            unfold mm_fv
            rw [hft]
            rfl
          rw [hv]
          exact kk _ hl
        · intro hck hwf hL ho
          exact ⟨hL, mm_okl.c (by intro a e; cases e) ho.t⟩
      · cases h
        cases hn
        refine mm_fall ?_ ?_ k
        · intro Γ l p e s m args below meth c H locs ls R cells slots Q hF hlen hck hd hrm hok hl kk
          cases eq_of_beq hlen
          obtain ⟨hfl, hft⟩ := mm_k_getf hck
          obtain ⟨q, hq, -, -⟩ := mm_fl_in hfl
          have hkc := (mm_kc_of (show mm_okk K kd a from hok.2.1.h) hkd (mm_cls_lt hq)).1
          refine mm_getf hF hok.2.2.1 hkc hfl hd ?_
          have hv : mm_fv (mm_ad Γ) (K, I, J, F, D, Rm, nx, sl) x1 a x2 = .float (F a x2) := by
            unfold mm_fv
            rw [hft]
            rfl
          rw [hv]
          exact kk _ hl
        · intro hck hwf hL ho
          exact ⟨hL, mm_okl.c (by intro a e; cases e) ho.t⟩
      · cases h
        cases hn
        refine mm_fall ?_ ?_ k
        · intro Γ l p e s m args below meth c H locs ls R cells slots Q hF hlen hck hd hrm hok hl kk
          cases eq_of_beq hlen
          obtain ⟨hfl, hft⟩ := mm_k_getf hck
          obtain ⟨q, hq, -, -⟩ := mm_fl_in hfl
          have hkc := (mm_kc_of (show mm_okk K kd a from hok.2.1.h) hkd (mm_cls_lt hq)).1
          refine mm_getf hF hok.2.2.1 hkc hfl hd ?_
          have hv : mm_fv (mm_ad Γ) (K, I, J, F, D, Rm, nx, sl) x1 a x2 = .double (D a x2) := by
            unfold mm_fv
            rw [hft]
            rfl
          rw [hv]
          exact kk _ hl
        · intro hck hwf hL ho
          exact ⟨hL, mm_okl.c (by intro a e; cases e) ho.t⟩
      · split at h
        · next b0 o2 =>
          cases h
          cases hn
          refine mm_fall ?_ ?_ k
          · intro Γ l p e s m args below meth c H locs ls R cells slots Q hF hlen hck hd hrm hok hl kk
            cases eq_of_beq hlen
            obtain ⟨hfl, hft⟩ := mm_k_getf hck
            obtain ⟨q, hq, -, -⟩ := mm_fl_in hfl
            have hkc := (mm_kc_of (show mm_okk K kd a from hok.2.1.h) hkd (mm_cls_lt hq)).1
            refine mm_getf hF hok.2.2.1 hkc hfl hd ?_
            have hv : mm_fv (mm_ad Γ) (K, I, J, F, D, Rm, nx, sl) x1 a x2 = .ref (mm_ad Γ b0) := by
              unfold mm_fv
              rw [hft]
              show va_rf ((Rm a x2).map _) = _
              rw [show Rm a x2 = some _ from hc]
              rfl
            rw [hv]
            exact kk _ hl
          · intro hck hwf hL ho
            exact ⟨hL, mm_okl.c (by
              obtain ⟨hfl, hft⟩ := mm_k_getf hck
              obtain ⟨q, hq, -, -⟩ := mm_fl_in hfl
              exact mm_okk_ref hwf (mm_kc_of (show mm_okk K kd a from ho.h) hkd (mm_cls_lt hq)).1 hft (by decide) (by decide) hc) ho.t⟩
        · cases h
          cases hn
          refine mm_fall ?_ ?_ k
          · intro Γ l p e s m args below meth c H locs ls R cells slots Q hF hlen hck hd hrm hok hl kk
            cases eq_of_beq hlen
            obtain ⟨hfl, hft⟩ := mm_k_getf hck
            obtain ⟨q, hq, -, -⟩ := mm_fl_in hfl
            have hkc := (mm_kc_of (show mm_okk K kd a from hok.2.1.h) hkd (mm_cls_lt hq)).1
            refine mm_getf hF hok.2.2.1 hkc hfl hd ?_
            have hv : mm_fv (mm_ad Γ) (K, I, J, F, D, Rm, nx, sl) x1 a x2 = .null := by
              unfold mm_fv
              rw [hft]
              show va_rf ((Rm a x2).map _) = _
              rw [show Rm a x2 = none from hc]
              rfl
            rw [hv]
            exact kk _ hl
          · intro hck hwf hL ho
            exact ⟨hL, mm_okl.c (by intro a e; cases e) ho.t⟩
        · cases h
      · split at h
        · next hfin =>
          cases h
          cases hn
          refine mm_fall ?_ ?_ k
          · intro Γ l p e s m args below meth c H locs ls R cells slots Q hF hlen hck hd hrm hok hl kk
            cases eq_of_beq hlen
            obtain ⟨hfl, hft⟩ := mm_k_getf hck
            obtain ⟨q, hq, -, -⟩ := mm_fl_in hfl
            have hkc := (mm_kc_of (show mm_okk K kd a from hok.2.1.h) hkd (mm_cls_lt hq)).1
            have hRf := mm_fin_ref (μ := (K, I, J, F, D, Rm, nx, sl)) hok.2.2.1.1 (mm_cls_lt hq) (mm_fin_of (show mm_okk K kd a from hok.2.1.h) (Nat.eq_of_beq_eq_true hfin) (mm_cls_lt hq)) hft
            refine mm_getf hF hok.2.2.1 hkc hfl hd ?_
            have hv : mm_fv (mm_ad Γ) (K, I, J, F, D, Rm, nx, sl) x1 a x2 = .ref (mm_ad Γ (a + x5)) := by
              unfold mm_fv
              rw [hft]
              show va_rf ((Rm a x2).map _) = _
              rw [show Rm a x2 = some _ from hRf.1 rfl]
              rfl
            rw [hv]
            exact kk _ hl
          · intro hck hwf hL ho
            exact ⟨hL, mm_okl.c (by
              obtain ⟨hfl, hft⟩ := mm_k_getf hck
              obtain ⟨q, hq, -, -⟩ := mm_fl_in hfl
              exact mm_okk_ref hwf (mm_kc_of (show mm_okk K kd a from ho.h) hkd (mm_cls_lt hq)).1 hft (by decide) (by decide) ((mm_fin_ref (μ := (K, I, J, F, D, Rm, nx, sl)) hwf (mm_cls_lt hq) (mm_fin_of (show mm_okk K kd a from ho.h) (Nat.eq_of_beq_eq_true hfin) (mm_cls_lt hq)) hft).1 rfl)) ho.t⟩
        · cases h
      · split at h
        · next hfin =>
          cases h
          cases hn
          refine mm_fall ?_ ?_ k
          · intro Γ l p e s m args below meth c H locs ls R cells slots Q hF hlen hck hd hrm hok hl kk
            cases eq_of_beq hlen
            obtain ⟨hfl, hft⟩ := mm_k_getf hck
            obtain ⟨q, hq, -, -⟩ := mm_fl_in hfl
            have hkc := (mm_kc_of (show mm_okk K kd a from hok.2.1.h) hkd (mm_cls_lt hq)).1
            have hRf := mm_fin_ref (μ := (K, I, J, F, D, Rm, nx, sl)) hok.2.2.1.1 (mm_cls_lt hq) (mm_fin_of (show mm_okk K kd a from hok.2.1.h) (Nat.eq_of_beq_eq_true hfin) (mm_cls_lt hq)) hft
            refine mm_getf hF hok.2.2.1 hkc hfl hd ?_
            have hv : mm_fv (mm_ad Γ) (K, I, J, F, D, Rm, nx, sl) x1 a x2 = .ref (mm_ad Γ x5) := by
              unfold mm_fv
              rw [hft]
              show va_rf ((Rm a x2).map _) = _
              rw [show Rm a x2 = some _ from hRf.2 rfl]
              rfl
            rw [hv]
            exact kk _ hl
          · intro hck hwf hL ho
            exact ⟨hL, mm_okl.c (by
              obtain ⟨hfl, hft⟩ := mm_k_getf hck
              obtain ⟨q, hq, -, -⟩ := mm_fl_in hfl
              exact mm_okk_ref hwf (mm_kc_of (show mm_okk K kd a from ho.h) hkd (mm_cls_lt hq)).1 hft (by decide) (by decide) ((mm_fin_ref (μ := (K, I, J, F, D, Rm, nx, sl)) hwf (mm_cls_lt hq) (mm_fin_of (show mm_okk K kd a from ho.h) (Nat.eq_of_beq_eq_true hfin) (mm_cls_lt hq)) hft).2 rfl)) ho.t⟩
        · cases h
      · cases h
    · cases h
  · cases h
theorem mm_k_gets {own : String} {nm : MethodName} {fr lo ml pc : Nat} {i0 : Nat} {x1 x2 x3 x4 x5 : Nat} {t : List Nat} (h : mm_ck2 own nm fr lo ml pc (.getstatic i0) x1 x2 x3 x4 x5 t = true) : ∃ n, mm_sn[x1]? = some n ∧ Cond.fieldLink own i0 "MachineWitness$Shapes" n "[I" ∈ tables_1 ∧ x1 < 6 := by
  simp only [mm_ck2, Bool.and_eq_true, decide_eq_true_eq] at h
  obtain ⟨z, hz, h2⟩ := List.any_eq_true.mp h.1
  simp only [Bool.and_eq_true, decide_eq_true_eq, beq_iff_eq] at h2
  obtain ⟨⟨rfl, rfl⟩, rfl⟩ := h2
  have h3 := List.all_eq_true.mp mm_sfw z hz
  cases hq : mm_sn[z.2.2.1]? with
  | none => rw [hq] at h3; cases h3
  | some n =>
    rw [hq] at h3
    exact ⟨n, rfl, List.mem_of_getElem? (of_decide_eq_true h3), h.2⟩
set_option maxHeartbeats 4000000 in
theorem mm_s_getstatic (x1 x2 x3 x4 x5 : Nat) (t : List Nat) (i0 : Nat) : mm_Sd (.getstatic i0) (x1, x2, x3, x4, x5) t (mm_hgets x1) := by
  intro Y μ0 pc len rem L st μ bs os j L2 st2 μ2 bs2 os2 c e2 rem2 r μ1 h hc hn k
  unfold mm_hgets at h
  · cases h
    cases hn
    refine mm_fall ?_ ?_ k
    · intro Γ l p e s m args below meth c H locs ls R cells slots Q hF hlen hck hd hrm hok hl kk
      cases eq_of_beq hlen
      obtain ⟨n, h1, h2, h3⟩ := mm_k_gets hck
      exact va_gets hF.1 hF.2.1 (hF.2.2.2.2.2.2.2.2.2.2.1 x1 n h1).1 hok.2.2.2 hF.2.2.2.2.2.1 (hF.wd h2 rfl) (fun _ z => z) hd (kk _ hl)
    · intro hck hwf hL ho
      exact ⟨hL, mm_okl.c (Or.inl ⟨Nat.le_add_right _ _, rfl, by obtain ⟨n, h1, h2, h3⟩ := mm_k_gets hck; exact h3⟩) ho⟩
set_option maxHeartbeats 4000000 in
theorem mm_s_laload (x1 x2 x3 x4 x5 : Nat) (t : List Nat) : mm_Sd .laload (x1, x2, x3, x4, x5) t (mm_hlaload) := by
  intro Y μ0 pc len rem L st μ bs os j L2 st2 μ2 bs2 os2 c e2 rem2 r μ1 h hc hn k
  unfold mm_hlaload at h
  split at h
  · next j0 kd a r0 K I J F D Rm nx sl =>
    split at h
    · next len0 hka =>
      cases h
      cases hn
      refine mm_fall ?_ ?_ k
      · intro Γ l p e s m args below meth c H locs ls R cells slots Q hF hlen hck hd hrm hok hl kk
        cases eq_of_beq hlen
        have h1 := (hok.2.2.1.arr (show mm_okk K kd a from hok.2.1.t.h) hka).1
        exact W.lald (v := .long (J a j0.toNatClampNeg)) hF.1 hF.2.1 h1 ((hF.2.2.2.2.2.2.2.2.2.1.2 1 (by decide)).1 len0 _) (fun q => by cases q) (mm_vp_arr hc) (arrV_read _ _ (mm_vp_lt hc)) rfl rfl hd (kk _ hl)
      · intro hck hwf hL ho
        exact ⟨hL, mm_okl.c (by intro a e; cases e) ho.t.t⟩
    · cases h
  · cases h
set_option maxHeartbeats 4000000 in
theorem mm_s_faload (x1 x2 x3 x4 x5 : Nat) (t : List Nat) : mm_Sd .faload (x1, x2, x3, x4, x5) t (mm_hfaload) := by
  intro Y μ0 pc len rem L st μ bs os j L2 st2 μ2 bs2 os2 c e2 rem2 r μ1 h hc hn k
  unfold mm_hfaload at h
  split at h
  · next j0 kd a r0 K I J F D Rm nx sl =>
    split at h
    · next len0 hka =>
      cases h
      cases hn
      refine mm_fall ?_ ?_ k
      · intro Γ l p e s m args below meth c H locs ls R cells slots Q hF hlen hck hd hrm hok hl kk
        cases eq_of_beq hlen
        have h1 := (hok.2.2.1.arr (show mm_okk K kd a from hok.2.1.t.h) hka).1
        exact W.fald (v := .float (F a j0.toNatClampNeg)) hF.1 hF.2.1 h1 ((hF.2.2.2.2.2.2.2.2.2.1.2 2 (by decide)).1 len0 _) (fun q => by cases q) (mm_vp_arr hc) (arrV_read _ _ (mm_vp_lt hc)) rfl rfl hd (kk _ hl)
      · intro hck hwf hL ho
        exact ⟨hL, mm_okl.c (by intro a e; cases e) ho.t.t⟩
    · cases h
  · cases h
set_option maxHeartbeats 4000000 in
theorem mm_s_daload (x1 x2 x3 x4 x5 : Nat) (t : List Nat) : mm_Sd .daload (x1, x2, x3, x4, x5) t (mm_hdaload) := by
  intro Y μ0 pc len rem L st μ bs os j L2 st2 μ2 bs2 os2 c e2 rem2 r μ1 h hc hn k
  unfold mm_hdaload at h
  split at h
  · next j0 kd a r0 K I J F D Rm nx sl =>
    split at h
    · next len0 hka =>
      cases h
      cases hn
      refine mm_fall ?_ ?_ k
      · intro Γ l p e s m args below meth c H locs ls R cells slots Q hF hlen hck hd hrm hok hl kk
        cases eq_of_beq hlen
        have h1 := (hok.2.2.1.arr (show mm_okk K kd a from hok.2.1.t.h) hka).1
        exact W.dald (v := .double (D a j0.toNatClampNeg)) hF.1 hF.2.1 h1 ((hF.2.2.2.2.2.2.2.2.2.1.2 3 (by decide)).1 len0 _) (fun q => by cases q) (mm_vp_arr hc) (arrV_read _ _ (mm_vp_lt hc)) rfl rfl hd (kk _ hl)
      · intro hck hwf hL ho
        exact ⟨hL, mm_okl.c (by intro a e; cases e) ho.t.t⟩
    · cases h
  · cases h
set_option maxHeartbeats 4000000 in
theorem mm_s_baload (x1 x2 x3 x4 x5 : Nat) (t : List Nat) : mm_Sd .baload (x1, x2, x3, x4, x5) t (mm_hbaload) := by
  intro Y μ0 pc len rem L st μ bs os j L2 st2 μ2 bs2 os2 c e2 rem2 r μ1 h hc hn k
  unfold mm_hbaload at h
  split at h
  · next j0 kd a r0 K I J F D Rm nx sl =>
    split at h
    · next len0 hka =>
      cases h
      cases hn
      refine mm_fall ?_ ?_ k
      · intro Γ l p e s m args below meth c H locs ls R cells slots Q hF hlen hck hd hrm hok hl kk
        cases eq_of_beq hlen
        have h1 := (hok.2.2.1.arr (show mm_okk K kd a from hok.2.1.t.h) hka).1
        exact W.zald (v := .int (I a j0.toNatClampNeg)) hF.1 hF.2.1 h1 ((hF.2.2.2.2.2.2.2.2.2.1.2 4 (by decide)).1 len0 _) (fun q => by cases q) (mm_vp_arr hc) (arrV_read _ _ (mm_vp_lt hc)) rfl rfl hd (kk _ hl)
      · intro hck hwf hL ho
        exact ⟨hL, mm_okl.c (by intro a e; cases e) ho.t.t⟩
    · cases h
  · cases h
set_option maxHeartbeats 4000000 in
theorem mm_s_iaload (x1 x2 x3 x4 x5 : Nat) (t : List Nat) : mm_Sd .iaload (x1, x2, x3, x4, x5) t (mm_hiaload) := by
  intro Y μ0 pc len rem L st μ bs os j L2 st2 μ2 bs2 os2 c e2 rem2 r μ1 h hc hn k
  unfold mm_hiaload at h
  split at h
  · next j0 kd a r0 K I J F D Rm nx sl =>
    split at h
    · next h90 =>
      cases h
      cases hn
      refine mm_fall ?_ ?_ k
      · intro Γ l p e s m args below meth c H locs ls R cells slots Q hF hlen hck hd hrm hok hl kk
        cases eq_of_beq hlen
        have h9 : 90 ≤ kd := Nat.ble_eq.mp h90
        have ha : a < 6 := by
          rcases (show mm_okk K kd a from hok.2.1.t.h) with g | g
          · exact g.2.2
          · omega
        obtain ⟨n, hn6⟩ : ∃ n, mm_sn[a]? = some n := ⟨mm_sn[a]'ha, List.getElem?_eq_getElem ha⟩
        obtain ⟨cell, c1, c2, c3, c4, c5, c6, c7⟩ := (hF.2.2.2.2.2.2.2.2.2.2.1 a n hn6).2
        have hH := hok.2.2.2.2.1 _ (Array.getElem?_eq_some_iff.mp c1).1 c7
        exact W.iald (v := .int (mm_sv a j0.toNatClampNeg)) hF.1 hF.2.1 (hH.trans c1) c2 c3 (fun z => by
          rcases z with z | z
          · exact hc (Or.inl z)
          · exact hc (Or.inr (Nat.le_trans c4 z))) (c6 _ (mm_vp_lt hc)) rfl rfl hd (kk _ hl)
      · intro hck hwf hL ho
        exact ⟨hL, mm_okl.c (by intro a e; cases e) ho.t.t⟩
    · split at h
      · next len0 hka =>
        cases h
        cases hn
        refine mm_fall ?_ ?_ k
        · intro Γ l p e s m args below meth c H locs ls R cells slots Q hF hlen hck hd hrm hok hl kk
          cases eq_of_beq hlen
          have h1 := (hok.2.2.1.arr (show mm_okk K kd a from hok.2.1.t.h) hka).1
          exact W.iald (v := .int (I a j0.toNatClampNeg)) hF.1 hF.2.1 h1 ((hF.2.2.2.2.2.2.2.2.2.1.2 0 (by decide)).1 len0 _) (fun q => by cases q) (mm_vp_arr hc) (arrV_read _ _ (mm_vp_lt hc)) rfl rfl hd (kk _ hl)
        · intro hck hwf hL ho
          exact ⟨hL, mm_okl.c (by intro a e; cases e) ho.t.t⟩
      · cases h
  · cases h
theorem mm_ek5 {et ek : Nat} (h : mm_ek et = ek + 1) : et = 5 ∨ et = 6 ∨ et = 7 := by
  unfold mm_ek at h
  split at h <;> first | omega | cases h
theorem mm_ac_ref {cA : ClassId} {ad : Nat → Nat} {μ : mm_M} {et len n : Nat} (h : et = 5 ∨ et = 6 ∨ et = 7) : mm_ac cA ad μ et len n = arrV cA len (fun j => va_rf ((μ.2.2.2.2.2.1 n j).map ad)) := by
  rcases h with rfl | rfl | rfl <;> rfl
theorem mm_ety_ref {et : Nat} (h : et = 5 ∨ et = 6 ∨ et = 7) : ∃ C, mm_ety et = .object C := by
  rcases h with rfl | rfl | rfl <;> exact ⟨_, rfl⟩
theorem mm_okk_arr {μ : mm_M} (hwf : mm_wf μ) {kd a et len j b : Nat} (h : mm_okk μ.1 kd a) (hka : mm_ka kd = some (et, len)) (h5 : et = 5 ∨ et = 6 ∨ et = 7) (hR : μ.2.2.2.2.2.1 a j = some b) : mm_okk μ.1 (mm_ek et) b := by
  have hk := mm_arr_of h hka
  have h2 := hwf.2.2 a
  unfold mm_ty at h2
  rw [hk, (mm_kc_ka hka).1] at h2
  dsimp only at h2
  rw [hka] at h2
  have h3 := h2 (by dsimp only; omega) j b hR
  exact Or.inr ⟨mm_ek_ne hka (by dsimp only; omega), by rcases h5 with rfl | rfl | rfl <;> decide, Or.inl h3⟩
set_option maxHeartbeats 4000000 in
theorem mm_s_aaload (x1 x2 x3 x4 x5 : Nat) (t : List Nat) : mm_Sd .aaload (x1, x2, x3, x4, x5) t (mm_haaload) := by
  intro Y μ0 pc len rem L st μ bs os j L2 st2 μ2 bs2 os2 c e2 rem2 r μ1 h hc hn k
  unfold mm_haaload at h
  split at h
  · next j0 kd a r0 K I J F D Rm nx sl =>
    split at h
    · next et0 len0 hka =>
      split at h
      · cases h
      · next ek0 hek =>
        split at h
        · next b0 o2 =>
          cases h
          cases hn
          refine mm_fall ?_ ?_ k
          · intro Γ l p e s m args below meth c H locs ls R cells slots Q hF hlen hck hd hrm hok hl kk
            cases eq_of_beq hlen
            have h5 := mm_ek5 hek
            obtain ⟨C, hC⟩ := mm_ety_ref h5
            have h1 := (hok.2.2.1.arr (show mm_okk K kd a from hok.2.1.t.h) hka).1
            rw [mm_ac_ref h5] at h1
            have h2 := (hF.2.2.2.2.2.2.2.2.2.1.2 et0 (by omega)).1 len0
            rw [hC] at h2
            exact W.aald (v := .ref (mm_ad Γ b0)) (ty := .object C) hF.1 hF.2.1 h1 (h2 _) rfl (fun q => by cases q) (mm_vp_arr hc.1) (by rw [arrV_read _ _ (mm_vp_lt hc.1)]; dsimp only; rw [hc.2]; rfl) rfl rfl hd (kk _ hl)
          · intro hck hwf hL ho
            exact ⟨hL, mm_okl.c (by have g := mm_okk_arr hwf (show mm_okk K kd a from ho.t.h) hka (mm_ek5 hek) hc.2; rw [hek] at g; exact g) ho.t.t⟩
        · cases h
          cases hn
          refine mm_fall ?_ ?_ k
          · intro Γ l p e s m args below meth c H locs ls R cells slots Q hF hlen hck hd hrm hok hl kk
            cases eq_of_beq hlen
            have h5 := mm_ek5 hek
            obtain ⟨C, hC⟩ := mm_ety_ref h5
            have h1 := (hok.2.2.1.arr (show mm_okk K kd a from hok.2.1.t.h) hka).1
            rw [mm_ac_ref h5] at h1
            have h2 := (hF.2.2.2.2.2.2.2.2.2.1.2 et0 (by omega)).1 len0
            rw [hC] at h2
            exact W.aald (v := .null) (ty := .object C) hF.1 hF.2.1 h1 (h2 _) rfl (fun q => by cases q) (mm_vp_arr hc.1) (by rw [arrV_read _ _ (mm_vp_lt hc.1)]; dsimp only; rw [hc.2]; rfl) rfl rfl hd (kk _ hl)
          · intro hck hwf hL ho
            exact ⟨hL, mm_okl.c (by intro a e; cases e) ho.t.t⟩
        · cases h
    · cases h
  · cases h
theorem mm_ac_arr (cA : ClassId) (ad : Nat → Nat) (μ : mm_M) (et len n : Nat) : ∃ f, mm_ac cA ad μ et len n = arrV cA len f := by
  unfold mm_ac
  split <;> exact ⟨_, rfl⟩
set_option maxHeartbeats 4000000 in
theorem mm_s_arraylength (x1 x2 x3 x4 x5 : Nat) (t : List Nat) : mm_Sd .arraylength (x1, x2, x3, x4, x5) t (mm_halen) := by
  intro Y μ0 pc len rem L st μ bs os j L2 st2 μ2 bs2 os2 c e2 rem2 r μ1 h hc hn k
  unfold mm_halen at h
  split at h
  · next kd a r0 =>
    split at h
    · next h90 =>
      cases h
      cases hn
      refine mm_fall ?_ ?_ k
      · intro Γ l p e s m args below meth c H locs ls R cells slots Q hF hlen hck hd hrm hok hl kk
        cases eq_of_beq hlen
        have h9 : 90 ≤ kd := Nat.ble_eq.mp h90
        have ha : a < 6 := by
          rcases (show mm_okk μ.1 kd a from hok.2.1.h) with g | g
          · exact g.2.2
          · omega
        obtain ⟨n, hn6⟩ : ∃ n, mm_sn[a]? = some n := ⟨mm_sn[a]'ha, List.getElem?_eq_getElem ha⟩
        obtain ⟨cell, c1, c2, c3, c4, c5, c6, c7⟩ := (hF.2.2.2.2.2.2.2.2.2.2.1 a n hn6).2
        have hH := hok.2.2.2.2.1 _ (Array.getElem?_eq_some_iff.mp c1).1 c7
        exact W.alen hF.1 hF.2.1 (hH.trans c1) c2 c5 rfl rfl hd (kk _ hl)
      · intro hck hwf hL ho
        exact ⟨hL, mm_okl.c (by intro a e; cases e) ho.t⟩
    · split at h
      · next et0 len0 hka =>
        cases h
        cases hn
        refine mm_fall ?_ ?_ k
        · intro Γ l p e s m args below meth c H locs ls R cells slots Q hF hlen hck hd hrm hok hl kk
          cases eq_of_beq hlen
          have h1 := (hok.2.2.1.arr (show mm_okk μ.1 kd a from hok.2.1.h) hka).1
          dsimp only at h1
          obtain ⟨f, hf⟩ := mm_ac_arr (Γ.2.2.1 et0) (mm_ad Γ) μ et0 len0 a
          rw [hf] at h1
          exact W.alen hF.1 hF.2.1 h1 ((hF.2.2.2.2.2.2.2.2.2.1.2 et0 (mm_ka_lt hka).1).1 len0 _) (by rw [arrV_size]; rfl) rfl rfl hd (kk _ hl)
        · intro hck hwf hL ho
          exact ⟨hL, mm_okl.c (by intro a e; cases e) ho.t⟩
      · cases h
  · cases h
