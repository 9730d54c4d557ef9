theorem mm_zst (v : Int32) : narrow .boolean (.int v) = .int (vp_nar .boolean v) := rfl
set_option maxHeartbeats 4000000 in
theorem mm_s_bastore (x1 x2 x3 x4 x5 : Nat) (t : List Nat) : mm_Sd .bastore (x1, x2, x3, x4, x5) t (mm_hbastore) := by
  intro Y μ0 pc len rem L st μ bs os j L2 st2 μ2 bs2 os2 c e2 rem2 r μ1 h hc hn k
  unfold mm_hbastore at h
  split at h
  · next v0 j0 kd a r0 K I J F D Rm nx sl =>
    split at h
    · next len0 hka =>
      cases h
      cases hn
      refine mm_fallM ?_ ?_ ?_ k
      · intro Γ l p e s m args below meth c H locs ls R Q hF hlen hck hd hrm hok hls kk
        cases eq_of_beq hlen
        have hka2 := mm_arr_of (show mm_okk K kd a from hok.2.1.t.t.h) hka
        have h1 := (hok.2.2.1.arr (show mm_okk K kd a from hok.2.1.t.t.h) hka).1
        have ha : K a ≠ 0 := by rw [hka2]; exact (mm_kc_ka hka).2
        refine W.zast hF.1 hF.2.1 h1 ((hF.2.2.2.2.2.2.2.2.2.1.2 4 (by decide)).1 len0 _) (fun q => by cases q) (mm_vp_arr hc) rfl rfl hd fun H2 he hz hoq => kk H2 _ ?_ (hok.2.2.2.1.put hz hoq (mm_Aof hF.2.2.2.2.2.2.2.2.1 hF.2.2.2.2.2.2.2.2.2.2.2.2 hok.2.2.2.2.1 ha))
        refine hok.2.2.1.put hF.2.2.2.2.2.2.2.2.1 hok.2.2.2.2.2 ha rfl rfl (fun n hn j => mm_up_ne hn j) (fun n hn j => rfl) (fun n hn j => rfl) (fun n hn j => rfl) (fun n hn j => rfl) hz hoq (mm_ce_arr hka2 hka ?_)
        rw [he]
        dsimp only
        rw [mm_ac4, mm_ac4, arrV_store, mm_zst]
        congr 2
        funext q
        by_cases hq : q = j0.toNatClampNeg
        · subst hq
          simp [updV, mm_up]
        · simp [updV, mm_up, hq]
      · intro hck hwf ho
        exact ⟨mm_le.same rfl rfl rfl, hwf.same rfl rfl rfl⟩
      · intro hck hu ho hwf
        exact ho.t.t.t
    · cases h
  · cases h
theorem mm_ty_ast {K : Nat → Nat} {Rm : Nat → Nat → Option Nat} {a kd j : Nat} {z : Nat × Nat} {v : Option Nat} (hk : K a = kd) (hz : mm_ka kd = some z) (hold : mm_ty K Rm a) (hv : ∀ b, v = some b → K b = mm_ek z.1) : mm_ty K (mm_up Rm a j v) a := by
  unfold mm_ty at hold ⊢
  rw [hk, (mm_kc_ka hz).1] at hold ⊢
  dsimp only at hold ⊢
  rw [hz] at hold ⊢
  intro g k b hb
  by_cases e : k = j
  · subst e
    rw [show mm_up Rm a k v a k = v by simp [mm_up]] at hb
    exact hv b hb
  · rw [show mm_up Rm a j v a k = Rm a k by simp [mm_up, e]] at hb
    exact hold g k b hb
theorem mm_et5 {et : Nat} {kd len : Nat} (hz : mm_ka kd = some (et, len)) (h : 5 ≤ et) : et = 5 ∨ et = 6 ∨ et = 7 := by
  have := (mm_ka_lt hz).1
  dsimp only at this
  omega
theorem mm_ecl {et : Nat} (h5 : et = 5 ∨ et = 6 ∨ et = 7) : ∃ (c : Nat) (q : vw_C), mm_ek et = c + 1 ∧ c < 11 ∧ mm_cls[c]? = some q ∧ mm_ety et = .object q.1 := by
  rcases h5 with rfl | rfl | rfl
  · exact ⟨4, _, rfl, by decide, rfl, rfl⟩
  · exact ⟨7, _, rfl, by decide, rfl, rfl⟩
  · exact ⟨8, _, rfl, by decide, rfl, rfl⟩
set_option maxHeartbeats 4000000 in
theorem mm_s_aastore (x1 x2 x3 x4 x5 : Nat) (t : List Nat) : mm_Sd .aastore (x1, x2, x3, x4, x5) t (mm_haastore) := by
  intro Y μ0 pc len rem L st μ bs os j L2 st2 μ2 bs2 os2 c e2 rem2 r μ1 h hc hn k
  unfold mm_haastore at h
  split at h
  · next kb b j0 kd a r0 K I J F D Rm nx sl =>
    split at h
    · next et0 len0 hka =>
      split at h
      · next hkb =>
        rw [Bool.and_eq_true] at hkb
        have hkbe : kb = mm_ek et0 := Nat.eq_of_beq_eq_true hkb.2
        cases h
        cases hn
        refine mm_fallM ?_ ?_ ?_ k
        · intro Γ l p e s m args below meth c H locs ls R Q hF hlen hck hd hrm hok hls kk
          cases eq_of_beq hlen
          have hka2 := mm_arr_of (show mm_okk K kd a from hok.2.1.t.t.h) hka
          have h5 := mm_et5 hka (Nat.ble_eq.mp hkb.1)
          have h1 := (hok.2.2.1.arr (show mm_okk K kd a from hok.2.1.t.t.h) hka).1
          rw [mm_ac_ref h5] at h1
          have ha : K a ≠ 0 := by rw [hka2]; exact (mm_kc_ka hka).2
          obtain ⟨c0, q0, e1, e2, e3, e4⟩ := mm_ecl h5
          have hKb : K b = c0 + 1 := mm_fin_of (show mm_okk K kb b from hok.2.1.h) (hkbe.trans e1) e2
          have hkcb : mm_kc (K b) = some c0 := by rw [hKb]; exact mm_kc_fin e2
          obtain ⟨q', hq', cellV, g1, g2, g3, -⟩ := mm_Rw.obj (μ := (K, I, J, F, D, Rm, nx, sl)) hok.2.2.1 hkcb
          cases e3.symm.trans hq'
          have hcls := (hF.2.2.2.2.2.2.2.2.2.1.1 c0 q0 e3).2
          have hra := (hF.2.2.2.2.2.2.2.2.2.1.2 et0 (by omega)).2.1
          rw [e4] at hra
          obtain ⟨kA, comp, k1, k2, k3, -⟩ := hra
          have hcomp : comp = Γ.1 c0 := Option.some.inj (k3.symm.trans hcls.1)
          subst hcomp
          obtain ⟨kC, hkC, -⟩ := hcls.2
          have h0 : ¬ j0 < 0 := fun q => hc (Or.inl q)
          refine W.aast hF.1 hF.2.1 h1 (fun q h => by cases h) (fun h => by cases h) k1 k2 rfl hkC ⟨h0, by show _ < (arrV _ _ _).slots.size; rw [arrV_size]; exact mm_vp_lt hc⟩ g1 (fun q h => by rw [g3] at h; cases h) (by rw [g2]; exact hkC) (by rw [g2]; exact va_assign hcls) rfl rfl hd fun H2 he hz hoq => kk H2 _ ?_ (hok.2.2.2.1.put hz hoq (mm_Aof hF.2.2.2.2.2.2.2.2.1 hF.2.2.2.2.2.2.2.2.2.2.2.2 hok.2.2.2.2.1 ha))
          refine hok.2.2.1.put hF.2.2.2.2.2.2.2.2.1 hok.2.2.2.2.2 ha rfl rfl (fun n hn j => rfl) (fun n hn j => rfl) (fun n hn j => rfl) (fun n hn j => rfl) (fun n hn j => mm_up_ne hn j) hz hoq (mm_ce_arr hka2 hka ?_)
          rw [he]
          dsimp only
          rw [mm_ac_ref h5, arrV_store]
          congr 2
          funext q
          by_cases hq : q = j0.toNatClampNeg
          · subst hq
            simp [updV, mm_up, va_rf]
          · simp [updV, mm_up, hq]
        · intro hck hwf ho
          refine ⟨mm_le.same rfl rfl rfl, hwf.putR rfl rfl (a := a) (fun n hn k => mm_up_ne hn k) ?_⟩
          have hka2 := mm_arr_of (show mm_okk K kd a from ho.t.t.h) hka
          have h5 := mm_et5 hka (Nat.ble_eq.mp hkb.1)
          obtain ⟨c0, q0, e1, e2, e3, e4⟩ := mm_ecl h5
          refine mm_ty_ast hka2 hka (hwf.2.2 a) (fun b2 e => ?_)
          cases e
          show K b = mm_ek et0
          rw [e1]
          exact mm_fin_of (show mm_okk K kb b from ho.h) (hkbe.trans e1) e2
        · intro hck hu ho hwf
          exact ho.t.t.t
      · cases h
    · cases h
  · next j0 kd a r0 K I J F D Rm nx sl =>
    split at h
    · next et0 len0 hka =>
      split at h
      · next hkb =>
        cases h
        cases hn
        refine mm_fallM ?_ ?_ ?_ k
        · intro Γ l p e s m args below meth c H locs ls R Q hF hlen hck hd hrm hok hls kk
          cases eq_of_beq hlen
          have hka2 := mm_arr_of (show mm_okk K kd a from hok.2.1.t.t.h) hka
          have h5 := mm_et5 hka (Nat.ble_eq.mp hkb)
          have h1 := (hok.2.2.1.arr (show mm_okk K kd a from hok.2.1.t.t.h) hka).1
          rw [mm_ac_ref h5] at h1
          have ha : K a ≠ 0 := by rw [hka2]; exact (mm_kc_ka hka).2
          obtain ⟨C, hC⟩ := mm_ety_ref h5
          have h2 := (hF.2.2.2.2.2.2.2.2.2.1.2 et0 (by omega)).1 len0
          rw [hC] at h2
          refine va_WaastN (C := C) hF.1 hF.2.1 h1 (h2 _) (fun h => by cases h) (mm_vp_arr hc) rfl rfl hd fun H2 he hz hoq => kk H2 _ ?_ (hok.2.2.2.1.put hz hoq (mm_Aof hF.2.2.2.2.2.2.2.2.1 hF.2.2.2.2.2.2.2.2.2.2.2.2 hok.2.2.2.2.1 ha))
          refine hok.2.2.1.put hF.2.2.2.2.2.2.2.2.1 hok.2.2.2.2.2 ha rfl rfl (fun n hn j => rfl) (fun n hn j => rfl) (fun n hn j => rfl) (fun n hn j => rfl) (fun n hn j => mm_up_ne hn j) hz hoq (mm_ce_arr hka2 hka ?_)
          rw [he]
          dsimp only
          rw [mm_ac_ref h5, arrV_store]
          congr 2
          funext q
          by_cases hq : q = j0.toNatClampNeg
          · subst hq
            simp [updV, mm_up, va_rf]
          · simp [updV, mm_up, hq]
        · intro hck hwf ho
          refine ⟨mm_le.same rfl rfl rfl, hwf.putR rfl rfl (a := a) (fun n hn k => mm_up_ne hn k) ?_⟩
          exact mm_ty_ast (mm_arr_of (show mm_okk K kd a from ho.t.t.h) hka) hka (hwf.2.2 a) (fun b2 e => by cases e)
        · intro hck hu ho hwf
          exact ho.t.t.t
      · cases h
    · cases h
  · cases h
theorem mm_uk_ne {f : Nat → Nat} {a n v : Nat} (h : n ≠ a) : mm_uk f a v n = f n := by simp [mm_uk, h]
theorem mm_uk_eq {f : Nat → Nat} {a v : Nat} : mm_uk f a v a = v := by simp [mm_uk]
theorem mm_cl_ne {α : Type} {f : Nat → Nat → α} {a n : Nat} {v : α} (h : n ≠ a) (j : Nat) : mm_cl f a v n j = f n j := by simp [mm_cl, h]
theorem mm_cl_eq {α : Type} {f : Nat → Nat → α} {a : Nat} {v : α} (j : Nat) : mm_cl f a v a j = v := by simp [mm_cl]
theorem mm_k_new {own : String} {nm : MethodName} {fr lo ml pc : Nat} {i0 : Nat} {x1 x2 x3 x4 x5 : Nat} {t : List Nat} (h : mm_ck2 own nm fr lo ml pc (.new i0) x1 x2 x3 x4 x5 t = true) : ∃ q : vw_C, mm_cls[x1]? = some q ∧ q.2.2 = x2 ∧ Cond.classLink own i0 q.1 ∈ tables_1 := by
  simp only [mm_ck2, Bool.and_eq_true] at h
  obtain ⟨q, hq, h2⟩ := mm_cl_in h.1
  have h3 := h.2
  rw [hq] at h3
  exact ⟨q, hq, eq_of_beq h3, h2⟩
def mm_dv : Nat → Value
  | 0 => .int 0
  | 1 => .long 0
  | 2 => .float 0
  | 3 => .double 0
  | _ => .null
theorem mm_def : ∀ (tc : Nat) {ty : FieldType} (h : mm_tc ty tc = true), defaultValue ty = mm_dv tc
  | 0, ty, h => by rw [show ty = .int from of_decide_eq_true h]; rfl
  | 1, ty, h => by rw [show ty = .long from of_decide_eq_true h]; rfl
  | 2, ty, h => by rw [show ty = .float from of_decide_eq_true h]; rfl
  | 3, ty, h => by rw [show ty = .double from of_decide_eq_true h]; rfl
  | n + 4, ty, h => by cases ty <;> first | rfl | cases h
theorem mm_fv_new {ad : Nat → Nat} {K : Nat → Nat} {I : Nat → Nat → Int32} {J : Nat → Nat → Int64} {F : Nat → Nat → UInt32} {D : Nat → Nat → UInt64} {Rm : Nat → Nat → Option Nat} {nx nx2 sl c k : Nat} : mm_fv ad (K, mm_cl I nx 0, mm_cl J nx 0, mm_cl F nx 0, mm_cl D nx 0, mm_cl Rm nx none, nx2, sl) c nx k = mm_dv (mm_ft c k).1 := by
  unfold mm_fv mm_dv
  dsimp only
  rw [mm_cl_eq, mm_cl_eq, mm_cl_eq, mm_cl_eq, mm_cl_eq]
  rfl
set_option maxHeartbeats 4000000 in
theorem mm_s_new (x1 x2 x3 x4 x5 : Nat) (t : List Nat) (i0 : Nat) : mm_Sd (.new i0) (x1, x2, x3, x4, x5) t (mm_hnew x1 x2) := by
  intro Y μ0 pc len rem L st μ bs os j L2 st2 μ2 bs2 os2 c e2 rem2 r μ1 h hc hn k
  unfold mm_hnew at h
  split at h
  next K I J F D Rm nx sl =>
    cases h
    cases hn
    refine mm_fallM ?_ ?_ ?_ k
    · intro Γ l p e s m args below meth c H locs ls R Q hF hlen hck hd hrm hok hls kk
      cases eq_of_beq hlen
      obtain ⟨q, hq, hN, hlk⟩ := mm_k_new hck
      subst hN
      have hKn := hF.2.2.2.2.2.2.2.2.2.1.1 x1 q hq
      have hsz : H.size = mm_ad Γ nx := hok.2.2.1.2.1
      have hnx : mm_nx μ0 ≤ nx := hok.2.2.2.2.1.1
      have hsl : mm_sz μ0 ≤ sl := hok.2.2.2.2.1.2.1
      have r1 : nx - mm_nx μ0 + 1 ≤ R.cells := by
        have := hrm.2.2.1
        simp only [mm_nx] at this ⊢
        simp only [mm_nx] at hnx
        omega
      have r2 : sl - mm_sz μ0 + q.2.2 ≤ R.slots := by
        have := hrm.2.2.2
        simp only [mm_sz] at this ⊢
        simp only [mm_sz] at hsl
        omega
      refine W.newcK hF.1 hF.2.1 hF.2.2.2.2.2.1 (hF.wd hlk rfl) (hF.wd (mm_ins_in hq).1 rfl) (hF.wd (mm_ins_in hq).2 rfl) rfl hd r1 r2 hKn.2.1 hsz fun H2 kC hkC he hz hoq => ?_
      have key := kk H2 locs ?_ ?_
      · have e1 : mm_nx (mm_uk K nx (x1 + 21), mm_cl I nx 0, mm_cl J nx 0, mm_cl F nx 0, mm_cl D nx 0, mm_cl Rm nx none, nx + 1, sl + q.2.2) - mm_nx μ0 = nx - mm_nx μ0 + 1 := by
          show nx + 1 - mm_nx μ0 = _
          omega
        have e2 : mm_sz (mm_uk K nx (x1 + 21), mm_cl I nx 0, mm_cl J nx 0, mm_cl F nx 0, mm_cl D nx 0, mm_cl Rm nx none, nx + 1, sl + q.2.2) - mm_sz μ0 = sl - mm_sz μ0 + q.2.2 := by
          show sl + q.2.2 - mm_sz μ0 = _
          omega
        rw [e1, e2] at key
        exact key
      · refine mm_Rw.new (μ := (K, I, J, F, D, Rm, nx, sl)) hF.2.2.2.2.2.2.2.2.1 (hok.1.2 rfl) hok.2.2.1 hok.2.2.2.2.2 (fun n hn => mm_uk_ne hn) rfl (fun n hn j => mm_cl_ne hn j) (fun n hn j => mm_cl_ne hn j) (fun n hn j => mm_cl_ne hn j) (fun n hn j => mm_cl_ne hn j) (fun n hn j => mm_cl_ne hn j) (by rw [hz, hsz]) (fun q hq2 => hoq q (by rw [← hsz]; exact hq2)) (mm_ce_obj (c := x1) (by show mm_kc (mm_uk K nx (x1 + 21) nx) = _; rw [mm_uk_eq]; exact mm_kc_raw (mm_cls_lt hq)) ?_)
        refine ⟨q, hq, (u_born (mm_cty x1) hF.2.2.2.2.2.2.2.1 (mm_lay_tb hq) hKn hkC he (mm_ty_ok hq)).to (fun k hk => ?_)⟩
        rw [mm_def _ (mm_tc_ok hq k hk).1]
        exact mm_fv_new.symm
      · exact ⟨Nat.le_trans hok.2.2.2.1.1 (by omega), fun q g1 g2 => (hoq q (by rw [← hsz]; exact Nat.lt_of_lt_of_le g1 hok.2.2.2.1.1)).trans (hok.2.2.2.1.2.1 q g1 g2), hok.2.2.2.1.2.2⟩
    · intro hck hwf ho
      obtain ⟨q, hq, hN, hlk⟩ := mm_k_new hck
      refine ⟨mm_le.new hwf (fun n hn => mm_uk_ne hn) rfl (Nat.le_add_right _ _), hwf.new (fun n hn => mm_uk_ne hn) rfl (fun n hn k => mm_cl_ne hn k) ?_⟩
      show mm_ty (mm_uk K nx (x1 + 21)) (mm_cl Rm nx none) nx
      unfold mm_ty
      rw [mm_uk_eq, mm_kc_raw (mm_cls_lt hq)]
      exact ⟨fun k b g1 g2 g3 => (by rw [mm_cl_eq] at g3; cases g3), fun g => (by omega)⟩
    · intro hck hu ho hwf
      obtain ⟨q, hq, hN, hlk⟩ := mm_k_new hck
      refine mm_okl.c (Or.inr ⟨Nat.succ_ne_zero _, ?_, Or.inl mm_uk_eq⟩) hu
      have := mm_cls_lt hq
      show x1 + 21 < 90
      omega
theorem mm_k_newa {own : String} {nm : MethodName} {fr lo ml pc : Nat} {ty : ArrayType} {x1 x2 x3 x4 x5 : Nat} {t : List Nat} (h : mm_ck2 own nm fr lo ml pc (.newarray ty) x1 x2 x3 x4 x5 t = true) : newarray.typeOf ty = mm_ety x2 ∧ x2 < 5 ∧ mm_ka x3 = some (x2, x4) ∧ x4 ≤ 2000 := by
  simp only [mm_ck2, Bool.and_eq_true, decide_eq_true_eq] at h
  exact ⟨h.1.1.1, h.1.1.2, h.1.2, h.2⟩
theorem mm_k_anew {own : String} {nm : MethodName} {fr lo ml pc : Nat} {i0 : Nat} {x1 x2 x3 x4 x5 : Nat} {t : List Nat} (h : mm_ck2 own nm fr lo ml pc (.anewarray i0) x1 x2 x3 x4 x5 t = true) : ∃ q : vw_C, mm_cls[x1]? = some q ∧ Cond.classLink own i0 q.1 ∈ tables_1 ∧ mm_ety x2 = .object q.1 ∧ 5 ≤ x2 ∧ mm_ka x3 = some (x2, x4) ∧ x4 ≤ 2000 := by
  simp only [mm_ck2, Bool.and_eq_true, decide_eq_true_eq] at h
  obtain ⟨q, hq, h2⟩ := mm_cl_in h.1.1.1.1
  have h3 := h.1.1.1.2
  rw [hq] at h3
  exact ⟨q, hq, h2, of_decide_eq_true h3, h.1.1.2, h.1.2, h.2⟩
theorem mm_aw {et : Nat} (h : et < 5) : Cond.arrayClass (mm_ety et) ∈ tables_1 := by
  obtain ⟨⟨h0, h1, h2, h3, h4⟩, -⟩ := mm_aws
  have : et = 0 ∨ et = 1 ∨ et = 2 ∨ et = 3 ∨ et = 4 := by omega
  rcases this with rfl | rfl | rfl | rfl | rfl
  · exact h0
  · exact h1
  · exact h2
  · exact h3
  · exact h4
theorem mm_ao {et : Nat} (h : et = 5 ∨ et = 6 ∨ et = 7) : Cond.arrayOver (mm_ety et) ∈ tables_1 := by
  obtain ⟨-, h0, h1, h2⟩ := mm_aws
  rcases h with rfl | rfl | rfl
  · exact h0
  · exact h1
  · exact h2
theorem mm_nIc {n : Nat} (h : n ≤ 2000) : ¬ nI n < 0 ∧ (nI n).toNatClampNeg = n := ⟨nI_pos (by omega), nI_clamp (by omega)⟩
theorem mm_cb (ty : FieldType) : componentBytes ty ≤ 8 := by cases ty <;> exact Nat.le_of_ble_eq_true rfl
theorem mm_ra_prim {U : State} {cA : ClassId} {et : Nat} (h : et < 5) (hr : va_RA U cA (mm_ety et)) : U.vm.findClass ("[" ++ (mm_ety et).toString) = some cA := by
  have : et = 0 ∨ et = 1 ∨ et = 2 ∨ et = 3 ∨ et = 4 := by omega
  rcases this with rfl | rfl | rfl | rfl | rfl <;> exact hr
theorem mm_ty_newa {K : Nat → Nat} {Rm : Nat → Nat → Option Nat} {nx kd et len : Nat} (hka : mm_ka kd = some (et, len)) (h : 5 ≤ et → ∀ k, Rm nx k = none) : mm_ty (mm_uk K nx kd) Rm nx := by
  unfold mm_ty
  rw [mm_uk_eq, (mm_kc_ka hka).1]
  dsimp only
  rw [hka]
  intro g k b hb
  rw [h g k] at hb
  cases hb
theorem mm_newa_no {Y : mm_Y} {μ0 : mm_M} {pc len x1 x2 x3 x4 x5 : Nat} {t : List Nat} {rem : List mm_E} {L : mm_L} {st : List mm_V} {μ : mm_M} {r : Option mm_V} {μ1 : mm_M} {ty : ArrayType} (g0 : x2 = 0 → False) (g1 : x2 = 1 → False) (g2 : x2 = 2 → False) (g3 : x2 = 3 → False) (g4 : x2 = 4 → False) : mm_Ev0 Y μ0 ((pc, .newarray ty, len, (x1, x2, x3, x4, x5), t) :: rem) L st μ r μ1 := by
  intro hk hs
  obtain ⟨hty, hx2, hka, hx4⟩ := mm_k_newa (hs.ck hk).2
  exfalso
  have : x2 = 0 ∨ x2 = 1 ∨ x2 = 2 ∨ x2 = 3 ∨ x2 = 4 := by omega
  rcases this with e | e | e | e | e
  · exact g0 e
  · exact g1 e
  · exact g2 e
  · exact g3 e
  · exact g4 e
theorem mm_anew_no {Y : mm_Y} {μ0 : mm_M} {pc len x1 x2 x3 x4 x5 i0 : Nat} {t : List Nat} {rem : List mm_E} {L : mm_L} {st : List mm_V} {μ : mm_M} {r : Option mm_V} {μ1 : mm_M} (h : x2 < 5) : mm_Ev0 Y μ0 ((pc, .anewarray i0, len, (x1, x2, x3, x4, x5), t) :: rem) L st μ r μ1 := by
  intro hk hs
  obtain ⟨q, hq, hlk, hety, hx2, hka, hx4⟩ := mm_k_anew (hs.ck hk).2
  omega
set_option maxHeartbeats 4000000 in
theorem mm_s_newarray (x1 x2 x3 x4 x5 : Nat) (t : List Nat) (ty : ArrayType) : mm_Sd (.newarray ty) (x1, x2, x3, x4, x5) t (mm_hnewa x2 x3 x4) := by
  intro Y μ0 pc len rem L st μ bs os j L2 st2 μ2 bs2 os2 c e2 rem2 r μ1 h hc hn k
  unfold mm_hnewa at h
  split at h
  · next n0 r0 K I J F D Rm nx sl =>
    split at h
    · cases h
      cases hn
      refine mm_fallM ?_ ?_ ?_ k
      · intro Γ l p e s m args below meth c H locs ls R Q hF hlen hck hd hrm hok hls kk
        cases eq_of_beq hlen
        obtain ⟨hty, hx2, hka, hx4⟩ := mm_k_newa hck
        obtain ⟨hn0, hnc⟩ := mm_nIc hx4
        have hc : _ = nI x4 := hc
        subst hc
        have hsz : H.size = mm_ad Γ nx := hok.2.2.1.2.1
        have hnx : mm_nx μ0 ≤ nx := hok.2.2.2.2.1.1
        have hsl : mm_sz μ0 ≤ sl := hok.2.2.2.2.1.2.1
        have r1 : nx - mm_nx μ0 + 1 ≤ R.cells := by
          have := hrm.2.2.1
          simp only [mm_nx] at this ⊢
          simp only [mm_nx] at hnx
          omega
        have r2 : sl - mm_sz μ0 + x4 ≤ R.slots := by
          have := hrm.2.2.2
          simp only [mm_sz] at this ⊢
          simp only [mm_sz] at hsl
          omega
        have fin : ∀ H2 : Heap, H2[mm_ad Γ nx]? = some (mm_ac (Γ.2.2.1 0) (mm_ad Γ) (mm_uk K nx x3, mm_cl I nx 0, J, F, D, Rm, nx + 1, sl + x4) 0 x4 nx) → H2.size = mm_ad Γ nx + 1 → (∀ q, q < mm_ad Γ nx → H2[q]? = H[q]?) → W p l e R s m args below meth c H2 locs (nx - mm_nx μ0 + 1) (sl - mm_sz μ0 + x4) Q (F0 m (pc + 2) ls (.ref (mm_ad Γ nx) :: List.map (mm_tr (mm_ad Γ)) r0)) := by
          intro H2 he hz hoq
          have key := kk H2 locs ?_ ?_
          · have e1 : mm_nx (mm_uk K nx x3, mm_cl I nx 0, J, F, D, Rm, nx + 1, sl + x4) - mm_nx μ0 = nx - mm_nx μ0 + 1 := by
              show nx + 1 - mm_nx μ0 = _
              omega
            have e2 : mm_sz (mm_uk K nx x3, mm_cl I nx 0, J, F, D, Rm, nx + 1, sl + x4) - mm_sz μ0 = sl - mm_sz μ0 + x4 := by
              show sl + x4 - mm_sz μ0 = _
              omega
            rw [e1, e2] at key
            exact key
          · exact mm_Rw.new (μ := (K, I, J, F, D, Rm, nx, sl)) hF.2.2.2.2.2.2.2.2.1 (hok.1.2 rfl) hok.2.2.1 hok.2.2.2.2.2 (fun n hn => mm_uk_ne hn) rfl (fun n hn j => mm_cl_ne hn j) (fun n hn j => rfl) (fun n hn j => rfl) (fun n hn j => rfl) (fun n hn j => rfl) (by rw [hz, hsz]) (fun q hq2 => hoq q (by rw [← hsz]; exact hq2)) (mm_ce_arr (kd := x3) mm_uk_eq hka he)
          · exact ⟨Nat.le_trans hok.2.2.2.1.1 (by omega), fun q g1 g2 => (hoq q (by rw [← hsz]; exact Nat.lt_of_lt_of_le g1 hok.2.2.2.1.1)).trans (hok.2.2.2.1.2.1 q g1 g2), hok.2.2.2.1.2.2⟩
        refine va_newaK hF.1 hF.2.1 (hF.wd (by rw [hty]; exact mm_aw hx2) rfl) rfl hd rfl hn0 hnc (by have := mm_cb (newarray.typeOf ty); have := Nat.mul_le_mul hx4 this; omega) r1 r2 hsz fun H2 cA he hz hoq hAr hNm => fin H2 ?_ hz hoq
        have hr := mm_ra_prim hx2 (hF.2.2.2.2.2.2.2.2.2.1.2 _ (Nat.lt_trans hx2 (by decide))).2.1
        rw [hty] at hNm he
        cases hr.symm.trans hNm
        rw [he]
        rw [mm_ac0]
        congr 2
        funext j
        simp [mm_cl_eq, mm_ety, defaultValue]
      · intro hck hwf ho
        obtain ⟨hty, hx2, hka, hx4⟩ := mm_k_newa hck
        refine ⟨mm_le.new hwf (fun n hn => mm_uk_ne hn) rfl (Nat.le_add_right _ _), hwf.new (fun n hn => mm_uk_ne hn) rfl (fun n hn k => rfl) (mm_ty_newa hka (fun g k => (by omega)))⟩
      · intro hck hu ho hwf
        obtain ⟨hty, hx2, hka, hx4⟩ := mm_k_newa hck
        refine mm_okl.c (Or.inr ⟨(mm_kc_ka hka).2, (mm_ka_hi hka).2, Or.inl mm_uk_eq⟩) hu.t
    · cases h
      cases hn
      refine mm_fallM ?_ ?_ ?_ k
      · intro Γ l p e s m args below meth c H locs ls R Q hF hlen hck hd hrm hok hls kk
        cases eq_of_beq hlen
        obtain ⟨hty, hx2, hka, hx4⟩ := mm_k_newa hck
        obtain ⟨hn0, hnc⟩ := mm_nIc hx4
        have hc : _ = nI x4 := hc
        subst hc
        have hsz : H.size = mm_ad Γ nx := hok.2.2.1.2.1
        have hnx : mm_nx μ0 ≤ nx := hok.2.2.2.2.1.1
        have hsl : mm_sz μ0 ≤ sl := hok.2.2.2.2.1.2.1
        have r1 : nx - mm_nx μ0 + 1 ≤ R.cells := by
          have := hrm.2.2.1
          simp only [mm_nx] at this ⊢
          simp only [mm_nx] at hnx
          omega
        have r2 : sl - mm_sz μ0 + x4 ≤ R.slots := by
          have := hrm.2.2.2
          simp only [mm_sz] at this ⊢
          simp only [mm_sz] at hsl
          omega
        have fin : ∀ H2 : Heap, H2[mm_ad Γ nx]? = some (mm_ac (Γ.2.2.1 1) (mm_ad Γ) (mm_uk K nx x3, I, mm_cl J nx 0, F, D, Rm, nx + 1, sl + x4) 1 x4 nx) → H2.size = mm_ad Γ nx + 1 → (∀ q, q < mm_ad Γ nx → H2[q]? = H[q]?) → W p l e R s m args below meth c H2 locs (nx - mm_nx μ0 + 1) (sl - mm_sz μ0 + x4) Q (F0 m (pc + 2) ls (.ref (mm_ad Γ nx) :: List.map (mm_tr (mm_ad Γ)) r0)) := by
          intro H2 he hz hoq
          have key := kk H2 locs ?_ ?_
          · have e1 : mm_nx (mm_uk K nx x3, I, mm_cl J nx 0, F, D, Rm, nx + 1, sl + x4) - mm_nx μ0 = nx - mm_nx μ0 + 1 := by
              show nx + 1 - mm_nx μ0 = _
              omega
            have e2 : mm_sz (mm_uk K nx x3, I, mm_cl J nx 0, F, D, Rm, nx + 1, sl + x4) - mm_sz μ0 = sl - mm_sz μ0 + x4 := by
              show sl + x4 - mm_sz μ0 = _
              omega
            rw [e1, e2] at key
            exact key
          · exact mm_Rw.new (μ := (K, I, J, F, D, Rm, nx, sl)) hF.2.2.2.2.2.2.2.2.1 (hok.1.2 rfl) hok.2.2.1 hok.2.2.2.2.2 (fun n hn => mm_uk_ne hn) rfl (fun n hn j => rfl) (fun n hn j => mm_cl_ne hn j) (fun n hn j => rfl) (fun n hn j => rfl) (fun n hn j => rfl) (by rw [hz, hsz]) (fun q hq2 => hoq q (by rw [← hsz]; exact hq2)) (mm_ce_arr (kd := x3) mm_uk_eq hka he)
          · exact ⟨Nat.le_trans hok.2.2.2.1.1 (by omega), fun q g1 g2 => (hoq q (by rw [← hsz]; exact Nat.lt_of_lt_of_le g1 hok.2.2.2.1.1)).trans (hok.2.2.2.1.2.1 q g1 g2), hok.2.2.2.1.2.2⟩
        refine va_newaK hF.1 hF.2.1 (hF.wd (by rw [hty]; exact mm_aw hx2) rfl) rfl hd rfl hn0 hnc (by have := mm_cb (newarray.typeOf ty); have := Nat.mul_le_mul hx4 this; omega) r1 r2 hsz fun H2 cA he hz hoq hAr hNm => fin H2 ?_ hz hoq
        have hr := mm_ra_prim hx2 (hF.2.2.2.2.2.2.2.2.2.1.2 _ (Nat.lt_trans hx2 (by decide))).2.1
        rw [hty] at hNm he
        cases hr.symm.trans hNm
        rw [he]
        rw [mm_ac1]
        congr 2
        funext j
        simp [mm_cl_eq, mm_ety, defaultValue]
      · intro hck hwf ho
        obtain ⟨hty, hx2, hka, hx4⟩ := mm_k_newa hck
        refine ⟨mm_le.new hwf (fun n hn => mm_uk_ne hn) rfl (Nat.le_add_right _ _), hwf.new (fun n hn => mm_uk_ne hn) rfl (fun n hn k => rfl) (mm_ty_newa hka (fun g k => (by omega)))⟩
      · intro hck hu ho hwf
        obtain ⟨hty, hx2, hka, hx4⟩ := mm_k_newa hck
        refine mm_okl.c (Or.inr ⟨(mm_kc_ka hka).2, (mm_ka_hi hka).2, Or.inl mm_uk_eq⟩) hu.t
    · cases h
      cases hn
      refine mm_fallM ?_ ?_ ?_ k
      · intro Γ l p e s m args below meth c H locs ls R Q hF hlen hck hd hrm hok hls kk
        cases eq_of_beq hlen
        obtain ⟨hty, hx2, hka, hx4⟩ := mm_k_newa hck
        obtain ⟨hn0, hnc⟩ := mm_nIc hx4
        have hc : _ = nI x4 := hc
        subst hc
        have hsz : H.size = mm_ad Γ nx := hok.2.2.1.2.1
        have hnx : mm_nx μ0 ≤ nx := hok.2.2.2.2.1.1
        have hsl : mm_sz μ0 ≤ sl := hok.2.2.2.2.1.2.1
        have r1 : nx - mm_nx μ0 + 1 ≤ R.cells := by
          have := hrm.2.2.1
          simp only [mm_nx] at this ⊢
          simp only [mm_nx] at hnx
          omega
        have r2 : sl - mm_sz μ0 + x4 ≤ R.slots := by
          have := hrm.2.2.2
          simp only [mm_sz] at this ⊢
          simp only [mm_sz] at hsl
          omega
        have fin : ∀ H2 : Heap, H2[mm_ad Γ nx]? = some (mm_ac (Γ.2.2.1 2) (mm_ad Γ) (mm_uk K nx x3, I, J, mm_cl F nx 0, D, Rm, nx + 1, sl + x4) 2 x4 nx) → H2.size = mm_ad Γ nx + 1 → (∀ q, q < mm_ad Γ nx → H2[q]? = H[q]?) → W p l e R s m args below meth c H2 locs (nx - mm_nx μ0 + 1) (sl - mm_sz μ0 + x4) Q (F0 m (pc + 2) ls (.ref (mm_ad Γ nx) :: List.map (mm_tr (mm_ad Γ)) r0)) := by
          intro H2 he hz hoq
          have key := kk H2 locs ?_ ?_
          · have e1 : mm_nx (mm_uk K nx x3, I, J, mm_cl F nx 0, D, Rm, nx + 1, sl + x4) - mm_nx μ0 = nx - mm_nx μ0 + 1 := by
              show nx + 1 - mm_nx μ0 = _
              omega
            have e2 : mm_sz (mm_uk K nx x3, I, J, mm_cl F nx 0, D, Rm, nx + 1, sl + x4) - mm_sz μ0 = sl - mm_sz μ0 + x4 := by
              show sl + x4 - mm_sz μ0 = _
              omega
            rw [e1, e2] at key
            exact key
          · exact mm_Rw.new (μ := (K, I, J, F, D, Rm, nx, sl)) hF.2.2.2.2.2.2.2.2.1 (hok.1.2 rfl) hok.2.2.1 hok.2.2.2.2.2 (fun n hn => mm_uk_ne hn) rfl (fun n hn j => rfl) (fun n hn j => rfl) (fun n hn j => mm_cl_ne hn j) (fun n hn j => rfl) (fun n hn j => rfl) (by rw [hz, hsz]) (fun q hq2 => hoq q (by rw [← hsz]; exact hq2)) (mm_ce_arr (kd := x3) mm_uk_eq hka he)
          · exact ⟨Nat.le_trans hok.2.2.2.1.1 (by omega), fun q g1 g2 => (hoq q (by rw [← hsz]; exact Nat.lt_of_lt_of_le g1 hok.2.2.2.1.1)).trans (hok.2.2.2.1.2.1 q g1 g2), hok.2.2.2.1.2.2⟩
        refine va_newaK hF.1 hF.2.1 (hF.wd (by rw [hty]; exact mm_aw hx2) rfl) rfl hd rfl hn0 hnc (by have := mm_cb (newarray.typeOf ty); have := Nat.mul_le_mul hx4 this; omega) r1 r2 hsz fun H2 cA he hz hoq hAr hNm => fin H2 ?_ hz hoq
        have hr := mm_ra_prim hx2 (hF.2.2.2.2.2.2.2.2.2.1.2 _ (Nat.lt_trans hx2 (by decide))).2.1
        rw [hty] at hNm he
        cases hr.symm.trans hNm
        rw [he]
        rw [mm_ac2]
        congr 2
        funext j
        simp [mm_cl_eq, mm_ety, defaultValue]
      · intro hck hwf ho
        obtain ⟨hty, hx2, hka, hx4⟩ := mm_k_newa hck
        refine ⟨mm_le.new hwf (fun n hn => mm_uk_ne hn) rfl (Nat.le_add_right _ _), hwf.new (fun n hn => mm_uk_ne hn) rfl (fun n hn k => rfl) (mm_ty_newa hka (fun g k => (by omega)))⟩
      · intro hck hu ho hwf
        obtain ⟨hty, hx2, hka, hx4⟩ := mm_k_newa hck
        refine mm_okl.c (Or.inr ⟨(mm_kc_ka hka).2, (mm_ka_hi hka).2, Or.inl mm_uk_eq⟩) hu.t
    · cases h
      cases hn
      refine mm_fallM ?_ ?_ ?_ k
      · intro Γ l p e s m args below meth c H locs ls R Q hF hlen hck hd hrm hok hls kk
        cases eq_of_beq hlen
        obtain ⟨hty, hx2, hka, hx4⟩ := mm_k_newa hck
        obtain ⟨hn0, hnc⟩ := mm_nIc hx4
        have hc : _ = nI x4 := hc
        subst hc
        have hsz : H.size = mm_ad Γ nx := hok.2.2.1.2.1
        have hnx : mm_nx μ0 ≤ nx := hok.2.2.2.2.1.1
        have hsl : mm_sz μ0 ≤ sl := hok.2.2.2.2.1.2.1
        have r1 : nx - mm_nx μ0 + 1 ≤ R.cells := by
          have := hrm.2.2.1
          simp only [mm_nx] at this ⊢
          simp only [mm_nx] at hnx
          omega
        have r2 : sl - mm_sz μ0 + x4 ≤ R.slots := by
          have := hrm.2.2.2
          simp only [mm_sz] at this ⊢
          simp only [mm_sz] at hsl
          omega
        have fin : ∀ H2 : Heap, H2[mm_ad Γ nx]? = some (mm_ac (Γ.2.2.1 3) (mm_ad Γ) (mm_uk K nx x3, I, J, F, mm_cl D nx 0, Rm, nx + 1, sl + x4) 3 x4 nx) → H2.size = mm_ad Γ nx + 1 → (∀ q, q < mm_ad Γ nx → H2[q]? = H[q]?) → W p l e R s m args below meth c H2 locs (nx - mm_nx μ0 + 1) (sl - mm_sz μ0 + x4) Q (F0 m (pc + 2) ls (.ref (mm_ad Γ nx) :: List.map (mm_tr (mm_ad Γ)) r0)) := by
          intro H2 he hz hoq
          have key := kk H2 locs ?_ ?_
          · have e1 : mm_nx (mm_uk K nx x3, I, J, F, mm_cl D nx 0, Rm, nx + 1, sl + x4) - mm_nx μ0 = nx - mm_nx μ0 + 1 := by
              show nx + 1 - mm_nx μ0 = _
              omega
            have e2 : mm_sz (mm_uk K nx x3, I, J, F, mm_cl D nx 0, Rm, nx + 1, sl + x4) - mm_sz μ0 = sl - mm_sz μ0 + x4 := by
              show sl + x4 - mm_sz μ0 = _
              omega
            rw [e1, e2] at key
            exact key
          · exact mm_Rw.new (μ := (K, I, J, F, D, Rm, nx, sl)) hF.2.2.2.2.2.2.2.2.1 (hok.1.2 rfl) hok.2.2.1 hok.2.2.2.2.2 (fun n hn => mm_uk_ne hn) rfl (fun n hn j => rfl) (fun n hn j => rfl) (fun n hn j => rfl) (fun n hn j => mm_cl_ne hn j) (fun n hn j => rfl) (by rw [hz, hsz]) (fun q hq2 => hoq q (by rw [← hsz]; exact hq2)) (mm_ce_arr (kd := x3) mm_uk_eq hka he)
          · exact ⟨Nat.le_trans hok.2.2.2.1.1 (by omega), fun q g1 g2 => (hoq q (by rw [← hsz]; exact Nat.lt_of_lt_of_le g1 hok.2.2.2.1.1)).trans (hok.2.2.2.1.2.1 q g1 g2), hok.2.2.2.1.2.2⟩
        refine va_newaK hF.1 hF.2.1 (hF.wd (by rw [hty]; exact mm_aw hx2) rfl) rfl hd rfl hn0 hnc (by have := mm_cb (newarray.typeOf ty); have := Nat.mul_le_mul hx4 this; omega) r1 r2 hsz fun H2 cA he hz hoq hAr hNm => fin H2 ?_ hz hoq
        have hr := mm_ra_prim hx2 (hF.2.2.2.2.2.2.2.2.2.1.2 _ (Nat.lt_trans hx2 (by decide))).2.1
        rw [hty] at hNm he
        cases hr.symm.trans hNm
        rw [he]
        rw [mm_ac3]
        congr 2
        funext j
        simp [mm_cl_eq, mm_ety, defaultValue]
      · intro hck hwf ho
        obtain ⟨hty, hx2, hka, hx4⟩ := mm_k_newa hck
        refine ⟨mm_le.new hwf (fun n hn => mm_uk_ne hn) rfl (Nat.le_add_right _ _), hwf.new (fun n hn => mm_uk_ne hn) rfl (fun n hn k => rfl) (mm_ty_newa hka (fun g k => (by omega)))⟩
      · intro hck hu ho hwf
        obtain ⟨hty, hx2, hka, hx4⟩ := mm_k_newa hck
        refine mm_okl.c (Or.inr ⟨(mm_kc_ka hka).2, (mm_ka_hi hka).2, Or.inl mm_uk_eq⟩) hu.t
    · cases h
      cases hn
      refine mm_fallM ?_ ?_ ?_ k
      · intro Γ l p e s m args below meth c H locs ls R Q hF hlen hck hd hrm hok hls kk
        cases eq_of_beq hlen
        obtain ⟨hty, hx2, hka, hx4⟩ := mm_k_newa hck
        obtain ⟨hn0, hnc⟩ := mm_nIc hx4
        have hc : _ = nI x4 := hc
        subst hc
        have hsz : H.size = mm_ad Γ nx := hok.2.2.1.2.1
        have hnx : mm_nx μ0 ≤ nx := hok.2.2.2.2.1.1
        have hsl : mm_sz μ0 ≤ sl := hok.2.2.2.2.1.2.1
        have r1 : nx - mm_nx μ0 + 1 ≤ R.cells := by
          have := hrm.2.2.1
          simp only [mm_nx] at this ⊢
          simp only [mm_nx] at hnx
          omega
        have r2 : sl - mm_sz μ0 + x4 ≤ R.slots := by
          have := hrm.2.2.2
          simp only [mm_sz] at this ⊢
          simp only [mm_sz] at hsl
          omega
        have fin : ∀ H2 : Heap, H2[mm_ad Γ nx]? = some (mm_ac (Γ.2.2.1 4) (mm_ad Γ) (mm_uk K nx x3, mm_cl I nx 0, J, F, D, Rm, nx + 1, sl + x4) 4 x4 nx) → H2.size = mm_ad Γ nx + 1 → (∀ q, q < mm_ad Γ nx → H2[q]? = H[q]?) → W p l e R s m args below meth c H2 locs (nx - mm_nx μ0 + 1) (sl - mm_sz μ0 + x4) Q (F0 m (pc + 2) ls (.ref (mm_ad Γ nx) :: List.map (mm_tr (mm_ad Γ)) r0)) := by
          intro H2 he hz hoq
          have key := kk H2 locs ?_ ?_
          · have e1 : mm_nx (mm_uk K nx x3, mm_cl I nx 0, J, F, D, Rm, nx + 1, sl + x4) - mm_nx μ0 = nx - mm_nx μ0 + 1 := by
              show nx + 1 - mm_nx μ0 = _
              omega
            have e2 : mm_sz (mm_uk K nx x3, mm_cl I nx 0, J, F, D, Rm, nx + 1, sl + x4) - mm_sz μ0 = sl - mm_sz μ0 + x4 := by
              show sl + x4 - mm_sz μ0 = _
              omega
            rw [e1, e2] at key
            exact key
          · exact mm_Rw.new (μ := (K, I, J, F, D, Rm, nx, sl)) hF.2.2.2.2.2.2.2.2.1 (hok.1.2 rfl) hok.2.2.1 hok.2.2.2.2.2 (fun n hn => mm_uk_ne hn) rfl (fun n hn j => mm_cl_ne hn j) (fun n hn j => rfl) (fun n hn j => rfl) (fun n hn j => rfl) (fun n hn j => rfl) (by rw [hz, hsz]) (fun q hq2 => hoq q (by rw [← hsz]; exact hq2)) (mm_ce_arr (kd := x3) mm_uk_eq hka he)
          · exact ⟨Nat.le_trans hok.2.2.2.1.1 (by omega), fun q g1 g2 => (hoq q (by rw [← hsz]; exact Nat.lt_of_lt_of_le g1 hok.2.2.2.1.1)).trans (hok.2.2.2.1.2.1 q g1 g2), hok.2.2.2.1.2.2⟩
        refine va_newaK hF.1 hF.2.1 (hF.wd (by rw [hty]; exact mm_aw hx2) rfl) rfl hd rfl hn0 hnc (by have := mm_cb (newarray.typeOf ty); have := Nat.mul_le_mul hx4 this; omega) r1 r2 hsz fun H2 cA he hz hoq hAr hNm => fin H2 ?_ hz hoq
        have hr := mm_ra_prim hx2 (hF.2.2.2.2.2.2.2.2.2.1.2 _ (Nat.lt_trans hx2 (by decide))).2.1
        rw [hty] at hNm he
        cases hr.symm.trans hNm
        rw [he]
        rw [mm_ac4]
        congr 2
        funext j
        simp [mm_cl_eq, mm_ety, defaultValue]
      · intro hck hwf ho
        obtain ⟨hty, hx2, hka, hx4⟩ := mm_k_newa hck
        refine ⟨mm_le.new hwf (fun n hn => mm_uk_ne hn) rfl (Nat.le_add_right _ _), hwf.new (fun n hn => mm_uk_ne hn) rfl (fun n hn k => rfl) (mm_ty_newa hka (fun g k => (by omega)))⟩
      · intro hck hu ho hwf
        obtain ⟨hty, hx2, hka, hx4⟩ := mm_k_newa hck
        refine mm_okl.c (Or.inr ⟨(mm_kc_ka hka).2, (mm_ka_hi hka).2, Or.inl mm_uk_eq⟩) hu.t
    · next g0 g1 g2 g3 g4 =>
      exact mm_newa_no g0 g1 g2 g3 g4
  · cases h
set_option maxHeartbeats 4000000 in
theorem mm_s_anewarray (x1 x2 x3 x4 x5 : Nat) (t : List Nat) (i0 : Nat) : mm_Sd (.anewarray i0) (x1, x2, x3, x4, x5) t (mm_hnewa x2 x3 x4) := by
  intro Y μ0 pc len rem L st μ bs os j L2 st2 μ2 bs2 os2 c e2 rem2 r μ1 h hc hn k
  unfold mm_hnewa at h
  split at h
  · next n0 r0 K I J F D Rm nx sl =>
    split at h
    · exact mm_anew_no (by decide)
    · exact mm_anew_no (by decide)
    · exact mm_anew_no (by decide)
    · exact mm_anew_no (by decide)
    · exact mm_anew_no (by decide)
    · cases h
      cases hn
      refine mm_fallM ?_ ?_ ?_ k
      · intro Γ l p e s m args below meth c H locs ls R Q hF hlen hck hd hrm hok hls kk
        cases eq_of_beq hlen
        obtain ⟨q, hq, hlk, hety, hx2, hka, hx4⟩ := mm_k_anew hck
        have h5 := mm_et5 hka hx2
        obtain ⟨hn0, hnc⟩ := mm_nIc hx4
        have hc : _ = nI x4 := hc
        subst hc
        have hsz : H.size = mm_ad Γ nx := hok.2.2.1.2.1
        have hnx : mm_nx μ0 ≤ nx := hok.2.2.2.2.1.1
        have hsl : mm_sz μ0 ≤ sl := hok.2.2.2.2.1.2.1
        have r1 : nx - mm_nx μ0 + 1 ≤ R.cells := by
          have := hrm.2.2.1
          simp only [mm_nx] at this ⊢
          simp only [mm_nx] at hnx
          omega
        have r2 : sl - mm_sz μ0 + x4 ≤ R.slots := by
          have := hrm.2.2.2
          simp only [mm_sz] at this ⊢
          simp only [mm_sz] at hsl
          omega
        have fin : ∀ H2 : Heap, H2[mm_ad Γ nx]? = some (mm_ac (Γ.2.2.1 x2) (mm_ad Γ) (mm_uk K nx x3, I, J, F, D, mm_cl Rm nx none, nx + 1, sl + x4) x2 x4 nx) → H2.size = mm_ad Γ nx + 1 → (∀ q, q < mm_ad Γ nx → H2[q]? = H[q]?) → W p l e R s m args below meth c H2 locs (nx - mm_nx μ0 + 1) (sl - mm_sz μ0 + x4) Q (F0 m (pc + 3) ls (.ref (mm_ad Γ nx) :: List.map (mm_tr (mm_ad Γ)) r0)) := by
          intro H2 he hz hoq
          have key := kk H2 locs ?_ ?_
          · have e1 : mm_nx (mm_uk K nx x3, I, J, F, D, mm_cl Rm nx none, nx + 1, sl + x4) - mm_nx μ0 = nx - mm_nx μ0 + 1 := by
              show nx + 1 - mm_nx μ0 = _
              omega
            have e2 : mm_sz (mm_uk K nx x3, I, J, F, D, mm_cl Rm nx none, nx + 1, sl + x4) - mm_sz μ0 = sl - mm_sz μ0 + x4 := by
              show sl + x4 - mm_sz μ0 = _
              omega
            rw [e1, e2] at key
            exact key
          · exact mm_Rw.new (μ := (K, I, J, F, D, Rm, nx, sl)) hF.2.2.2.2.2.2.2.2.1 (hok.1.2 rfl) hok.2.2.1 hok.2.2.2.2.2 (fun n hn => mm_uk_ne hn) rfl (fun n hn j => rfl) (fun n hn j => rfl) (fun n hn j => rfl) (fun n hn j => rfl) (fun n hn j => mm_cl_ne hn j) (by rw [hz, hsz]) (fun q hq2 => hoq q (by rw [← hsz]; exact hq2)) (mm_ce_arr (kd := x3) mm_uk_eq hka he)
          · exact ⟨Nat.le_trans hok.2.2.2.1.1 (by omega), fun q g1 g2 => (hoq q (by rw [← hsz]; exact Nat.lt_of_lt_of_le g1 hok.2.2.2.1.1)).trans (hok.2.2.2.1.2.1 q g1 g2), hok.2.2.2.1.2.2⟩
        refine W.anew hF.1 hF.2.1 hF.2.2.2.2.2.1 (hF.wd hlk rfl) ((hF.2.2.2.2.2.2.2.2.2.1.2 x2 (by omega)).2.2 _ hety).use rfl hd rfl hn0 (by rw [hnc]; omega) r1 (by rw [hnc]; exact r2) fun cA kA comp h1 h2 h3 h4 => ?_
        rw [hnc, hsz]
        refine fin _ ?_ (by simp [hsz]) (fun q hq => by rw [Array.getElem?_push, if_neg (by rw [hsz]; omega)])
        have hr := (hF.2.2.2.2.2.2.2.2.2.1.2 x2 (by omega)).2.1
        rw [hety] at hr
        obtain ⟨kA2, comp2, k1, k2, k3, k4⟩ := hr
        cases k4.symm.trans h1
        rw [mm_ac_ref h5, ← hsz]
        simp only [Array.getElem?_push_size]
        rw [arrV_new]
        congr 2
        funext j
        show Value.null = va_rf ((mm_cl Rm nx none nx j).map _)
        rw [mm_cl_eq]
        rfl
      · intro hck hwf ho
        obtain ⟨q, hq, hlk, hety, hx2, hka, hx4⟩ := mm_k_anew hck
        refine ⟨mm_le.new hwf (fun n hn => mm_uk_ne hn) rfl (Nat.le_add_right _ _), hwf.new (fun n hn => mm_uk_ne hn) rfl (fun n hn k => mm_cl_ne hn k) (mm_ty_newa hka (fun g k => mm_cl_eq k))⟩
      · intro hck hu ho hwf
        obtain ⟨q, hq, hlk, hety, hx2, hka, hx4⟩ := mm_k_anew hck
        refine mm_okl.c (Or.inr ⟨(mm_kc_ka hka).2, (mm_ka_hi hka).2, Or.inl mm_uk_eq⟩) hu.t
  · cases h
theorem mm_cs_le {ad : Nat → Nat} : ∀ (l : List mm_V), ((l.map (mm_tr ad)).map fun v => v.category).sum = mm_cs l
  | [] => rfl
  | v :: l => by
    rw [List.map_cons, List.map_cons, List.sum_cons, mm_cs_le l, mm_cat]
    cases hc : mm_c2 v <;> simp [mm_cs, hc] <;> omega
theorem mm_k_oi {own : String} {nm : MethodName} {fr lo ml pc : Nat} {i0 : Nat} {x1 x2 x3 x4 x5 : Nat} {t : List Nat} (h : mm_ck2 own nm fr lo ml pc (.invokespecial i0) x1 x2 x3 x4 x5 t = true) (hx : x1 = 1) : Cond.methodLink own i0 objectInit ∈ tables_1 ∧ 1 ≤ fr ∧ 20 ≤ lo := by
  subst hx
  simp only [mm_ck2, Bool.or_eq_true, Bool.and_eq_true] at h
  rcases h with h | h
  · cases h
  · obtain ⟨z, hz, h2⟩ := List.any_eq_true.mp h.1.1
    simp only [Bool.and_eq_true, decide_eq_true_eq, beq_iff_eq] at h2
    obtain ⟨rfl, rfl⟩ := h2
    exact ⟨List.mem_of_getElem? (of_decide_eq_true (List.all_eq_true.mp mm_oiw z hz)), Nat.ble_eq.mp h.1.2, Nat.ble_eq.mp h.2⟩
theorem mm_k_pr {own : String} {nm : MethodName} {fr lo ml pc : Nat} {i0 : Nat} {x1 x2 x3 x4 x5 : Nat} {t : List Nat} (h : mm_ck2 own nm fr lo ml pc (.invokestatic i0) x1 x2 x3 x4 x5 t = true) (hx : x1 ≠ 0) : Cond.methodLink own i0 (mm_prn (if x1 = 8 then 7 else x1)) ∈ tables_1 ∧ 1 ≤ fr ∧ 60 ≤ lo := by
  simp only [mm_ck2, Bool.or_eq_true, Bool.and_eq_true] at h
  rcases h with h | h
  · exact absurd (eq_of_beq h) hx
  · obtain ⟨z, hz, h2⟩ := List.any_eq_true.mp h.1.1
    simp only [Bool.and_eq_true, decide_eq_true_eq, beq_iff_eq] at h2
    obtain ⟨⟨rfl, rfl⟩, h3⟩ := h2
    refine ⟨?_, Nat.ble_eq.mp h.1.2, Nat.ble_eq.mp h.2⟩
    rw [← h3]
    exact List.mem_of_getElem? (of_decide_eq_true (List.all_eq_true.mp mm_prw z hz))
set_option maxHeartbeats 4000000 in
theorem mm_s_objinit (x1 x2 x3 x4 x5 : Nat) (t : List Nat) (i0 : Nat) : mm_Sd (.invokespecial i0) (x1, x2, x3, x4, x5) t (mm_hoinit x1) := by
  intro Y μ0 pc len rem L st μ bs os j L2 st2 μ2 bs2 os2 c e2 rem2 r μ1 h hc hn k
  unfold mm_hoinit at h
  split at h
  · split at h
    · next hcs =>
      have hcs := Nat.ble_eq.mp hcs
      cases h
      cases hn
      refine mm_fall ?_ ?_ k
      · intro Γ l p e s m args below meth c H locs ls R cells slots Q hF hlen hck hd hrm hok hl kk
        cases eq_of_beq hlen
        obtain ⟨h1, h2, h3⟩ := mm_k_oi hck rfl
        exact W.objInit hF.1 hF.2.1 hF.2.2.2.2.2.1 (hF.wd h1 rfl) (hF.wd mm_oi2.1 rfl) (hF.wd mm_oi2.2 rfl) rfl (hl.1.trans hF.2.2.1.symm) rfl hd (by rw [hrm.1]; exact h2) (by rw [mm_cs_le, hrm.2.1]; show 2 * 0 + _ + _ ≤ _; omega) (kk _ hl)
      · intro hck hwf hL ho
        exact ⟨hL, ho.t⟩
    · cases h
  · cases h
theorem mm_acopy {Γ : mm_C} {Y : mm_Y} {μ0 : mm_M} {p : Program} {l : Launch} {e : Env} {R0 : Room} {s : State} {m : MethodId} {args : Array Value} {below : List Frame} {meth : Method} {c : Code} {H : Heap} {locs : List Loc} {cells slots : Nat} {Q : State → Prop} {pc : Nat} {ls : Array Slot} {rest : List Value} {μ : mm_M} {α : Type} (mk : α → Value) {a0 a n0 n1 : Nat} {c0 c1 : ClassId} {f g : Nat → α} {ty : FieldType} (hF : mm_Fx Γ Y μ0 p s m args meth c) (hls : ls.size = mm_ml Y) {i0 : Nat} (hlink : (Cond.methodLink (mm_ow Y) i0 arraycopyName).before args s = true) (hc0 : H[a0]? = some (arrV c0 n0 (fun j => mk (f j)))) (hc1 : H[a]? = some (arrV c1 n1 (fun j => mk (g j)))) (hk0 : ArrOfT s c0 ty) (hk1 : ArrOfT s c1 ty) (hprim : refKind ty = false)
    {sp dp n : Int32} (h1 : ¬ sp < 0) (h2 : ¬ dp < 0) (h3 : ¬ n < 0) (h4 : sp.toNatClampNeg + n.toNatClampNeg ≤ n0) (h5 : dp.toNatClampNeg + n.toNatClampNeg ≤ n1) (hfit : ∀ i, fits ty (mk (f i)) = true ∧ ∀ b, mk (f i) ≠ .ref b)
    (hframes : 1 ≤ R0.frames) (hlocals : (rest.map fun v => v.category).sum + 30 ≤ R0.locals) (hd : decode (mm_by Y) pc = .ok (.invokestatic i0, 3))
    (kk : ∀ (H2 : Heap) (locs2 : List Loc), H2[a]? = some (arrV c1 n1 (fun j => mk (va_cpy f g sp.toNatClampNeg dp.toNatClampNeg n.toNatClampNeg j))) → H2.size = H.size → (∀ q, q ≠ a → H2[q]? = H[q]?) → (∀ q ∈ locs2, q ∈ locs ∨ q.base = a) → W p l e R0 s m args below meth c H2 locs2 cells slots Q (F0 m (pc + 3) ls (rest))) : W p l e R0 s m args below meth c H locs cells slots Q (F0 m pc ls (.int n :: .int dp :: .ref a :: .int sp :: .ref a0 :: rest)) := by
  have nn : ∀ z : Int32, ¬ z < 0 → z.toInt = (z.toNatClampNeg : Int) := by
    intro z hz
    have hz0 : (0 : Int) ≤ z.toInt := by
      have := Int32.not_lt.mp hz
      simpa using Int32.le_iff_toInt_le.mp this
    show z.toInt = ((z.toInt.toNat : Nat) : Int)
    omega
  intro T hT X
  obtain ⟨-, k0, g0, cm0, hkk0⟩ := hk0 n0 (fun j => mk (f j))
  obtain ⟨-, k1, g1, cm1, hkk1⟩ := hk1 n1 (fun j => mk (g j))
  obtain ⟨-, -, -, -, p1, p2⟩ := mm_prc.2
  obtain ⟨vm', X', step⟩ := X.arraycopy hF.1 hF.2.2.2.2.2.1 hlink (hF.wd p2 rfl) (hF.wd p1 rfl) (hF.wd mm_prc.2.2.2.1 rfl) (src := a0) (dst := a) (cs := arrV c0 n0 (fun j => mk (f j))) (cd := arrV c1 n1 (fun j => mk (g j))) (srcPos := sp) (destPos := dp) (n := n) (by rw [hT]; exact hc0) (by rw [hT]; exact hc1)
    (fun _ h => by cases h) (fun _ h => by cases h) (fun h => by cases h) (fun h => by cases h) g0 g1 hkk0 hkk1 (by simp [hprim]) h1 h2 h3
    (by rw [nn sp h1, nn n h3, arrV_size]; omega)
    (by rw [nn dp h2, nn n h3, arrV_size]; omega)
    (fun vm₁ _ i hi => by
      have e : (arrV c0 n0 (fun j => mk (f j))).slots.getD (sp.toNatClampNeg + i) .null = mk (f (sp.toNatClampNeg + i)) := by
        rw [Array.getD_eq_getD_getElem?, arrV_read _ _ (by omega)]
        rfl
      rw [e]
      refine ⟨(hfit _).1, ?_⟩
      have g := (hfit (sp.toNatClampNeg + i)).2
      cases hv : mk (f (sp.toNatClampNeg + i)) with
      | ref b => exact absurd hv (g b)
      | _ => exact trivial)
    (g := F0 m pc ls (.int n :: .int dp :: .ref a :: .int sp :: .ref a0 :: rest)) rfl (hls.trans hF.2.2.1.symm) (rest := rest) rfl (by rw [hF.2.1]; exact hd) hframes (by
      have hw : nativeFrameWords "java/lang/System" "arraycopy" 5 = 7 := by decide +kernel
      rw [hw]
      show 2 * 0 + _ + _ ≤ _
      omega)
  have e1 : copied (arrV c0 n0 (fun j => mk (f j))) (arrV c1 n1 (fun j => mk (g j))) sp dp n = arrV c1 n1 (fun j => mk (va_cpy f g sp.toNatClampNeg dp.toNatClampNeg n.toNatClampNeg j)) := va_copied mk c0 c1 f g h4
  rw [e1] at X' step
  have hl : a < H.size := (Array.getElem?_eq_some_iff.mp hc1).1
  obtain ⟨t, a1, b1⟩ := kk (H.setIfInBounds a (arrV c1 n1 (fun j => mk (va_cpy f g sp.toNatClampNeg dp.toNatClampNeg n.toNatClampNeg j)))) _ (by simp [Array.getElem?_setIfInBounds, hl]) (by simp) (fun q hq => by simp [Array.getElem?_setIfInBounds, Ne.symm hq]) (fun q hq => by
    rcases List.mem_append.mp hq with h | h
    · exact Or.inl h
    · obtain ⟨z, -, hz⟩ := List.mem_map.mp h
      exact Or.inr (by rw [← hz])) _ (by rw [← hT]; rfl) X'
  exact ⟨t, step t a1, b1⟩
theorem mm_cp_ne {α : Type} {f : Nat → Nat → α} {a0 a sp dp k n : Nat} (h : n ≠ a) (j : Nat) : mm_cp f a0 a sp dp k n j = f n j := by simp [mm_cp, h]
set_option maxHeartbeats 4000000 in
theorem mm_s_invokestatic (x1 x2 x3 x4 x5 : Nat) (t : List Nat) (i0 : Nat) : mm_Sd (.invokestatic i0) (x1, x2, x3, x4, x5) t (mm_hstat x1) := by
  intro Y μ0 pc len rem L st μ bs os j L2 st2 μ2 bs2 os2 c e2 rem2 r μ1 h hc hn k
  unfold mm_hstat at h
  split at h
  · split at h
    · next hcs =>
      have hcs := Nat.ble_eq.mp hcs
      cases h
      cases hn
      refine mm_fall ?_ ?_ k
      · intro Γ l p e s m args below meth c H locs ls R cells slots Q hF hlen hck hd hrm hok hl kk
        cases eq_of_beq hlen
        obtain ⟨h1, h2, h3⟩ := mm_k_pr hck (by decide)
        exact va_mmax hF.1 hF.2.1 (hF.2.2.1.trans hl.1.symm) hF.2.2.2.2.2.1 (hF.wd h1 rfl) (hF.wd mm_prc.1.1.1 rfl) (hF.wd mm_prc.2.1 rfl) (hF.wd mm_prc.1.1.2 rfl) (by rw [hrm.1]; exact h2) (by rw [mm_cs_le, hrm.2.1]; omega) hrm.2.2.1 hrm.2.2.2 hd (kk _ hl)
      · intro hck hwf hL ho
        exact ⟨hL, mm_okl.c (by intro a e; cases e) ho.t.t⟩
    · cases h
  · split at h
    · next hcs =>
      have hcs := Nat.ble_eq.mp hcs
      cases h
      cases hn
      refine mm_fall ?_ ?_ k
      · intro Γ l p e s m args below meth c H locs ls R cells slots Q hF hlen hck hd hrm hok hl kk
        cases eq_of_beq hlen
        obtain ⟨h1, h2, h3⟩ := mm_k_pr hck (by decide)
        exact va_mmin hF.1 hF.2.1 (hF.2.2.1.trans hl.1.symm) hF.2.2.2.2.2.1 (hF.wd h1 rfl) (hF.wd mm_prc.1.2.1.1 rfl) (hF.wd mm_prc.2.1 rfl) (hF.wd mm_prc.1.2.1.2 rfl) (by rw [hrm.1]; exact h2) (by rw [mm_cs_le, hrm.2.1]; omega) hrm.2.2.1 hrm.2.2.2 hd (kk _ hl)
      · intro hck hwf hL ho
        exact ⟨hL, mm_okl.c (by intro a e; cases e) ho.t.t⟩
    · cases h
  · split at h
    · next hcs =>
      have hcs := Nat.ble_eq.mp hcs
      cases h
      cases hn
      refine mm_fall ?_ ?_ k
      · intro Γ l p e s m args below meth c H locs ls R cells slots Q hF hlen hck hd hrm hok hl kk
        cases eq_of_beq hlen
        obtain ⟨h1, h2, h3⟩ := mm_k_pr hck (by decide)
        exact va_mabs hF.1 hF.2.1 (hF.2.2.1.trans hl.1.symm) hF.2.2.2.2.2.1 (hF.wd h1 rfl) (hF.wd mm_prc.1.2.2.1.1 rfl) (hF.wd mm_prc.2.1 rfl) (hF.wd mm_prc.1.2.2.1.2 rfl) (by rw [hrm.1]; exact h2) (by rw [mm_cs_le, hrm.2.1]; omega) hrm.2.2.1 hrm.2.2.2 hd (kk _ hl)
      · intro hck hwf hL ho
        exact ⟨hL, mm_okl.c (by intro a e; cases e) ho.t⟩
    · cases h
  · split at h
    · next hcs =>
      have hcs := Nat.ble_eq.mp hcs
      cases h
      cases hn
      refine mm_fall ?_ ?_ k
      · intro Γ l p e s m args below meth c H locs ls R cells slots Q hF hlen hck hd hrm hok hl kk
        cases eq_of_beq hlen
        obtain ⟨h1, h2, h3⟩ := mm_k_pr hck (by decide)
        exact va_mmax_long hF.1 hF.2.1 (hF.2.2.1.trans hl.1.symm) hF.2.2.2.2.2.1 (hF.wd h1 rfl) (hF.wd mm_prc.1.2.2.2.1 rfl) (hF.wd mm_prc.2.1 rfl) (hF.wd mm_prc.1.2.2.2.2 rfl) (by rw [hrm.1]; exact h2) (by rw [mm_cs_le, hrm.2.1]; omega) hrm.2.2.1 hrm.2.2.2 hd (kk _ hl)
      · intro hck hwf hL ho
        exact ⟨hL, mm_okl.c (by intro a e; cases e) ho.t.t⟩
    · cases h
  · split at h
    · next hcs =>
      have hcs := Nat.ble_eq.mp hcs
      cases h
      cases hn
      refine mm_fall ?_ ?_ k
      · intro Γ l p e s m args below meth c H locs ls R cells slots Q hF hlen hck hd hrm hok hl kk
        cases eq_of_beq hlen
        obtain ⟨h1, h2, h3⟩ := mm_k_pr hck (by decide)
        exact vn_d2l hF.1 hF.2.1 (hF.2.2.1.trans hl.1.symm) hF.2.2.2.2.2.1 (hF.wd h1 rfl) (hF.wd mm_prc.2.2.2.2.1.2 rfl) (hF.wd mm_prc.2.2.2.2.1.1 rfl) (hF.wd mm_prc.2.2.1 rfl) (by rw [hrm.1]; exact h2) (by rw [mm_cs_le, hrm.2.1]; omega) hd (kk _ hl)
      · intro hck hwf hL ho
        exact ⟨hL, mm_okl.c (by intro a e; cases e) ho.t⟩
    · cases h
  · next n0 dp0 k1 a sp0 k0 a0 r0 K I J F D Rm nx sl =>
    split at h
    · next l0 l1 hka0 hka1 hcs =>
      have hcs := Nat.ble_eq.mp hcs
      cases h
      cases hn
      refine mm_fallM ?_ ?_ ?_ k
      · intro Γ l p e s m args below meth c H locs ls R Q hF hlen hck hd hrm hok hls kk
        cases eq_of_beq hlen
        obtain ⟨h1, h2, h3⟩ := mm_k_pr hck (by decide)
        have hka2 := mm_arr_of (show mm_okk K k1 a from hok.2.1.t.t.h) hka1
        have q0 := (hok.2.2.1.arr (show mm_okk K k0 a0 from hok.2.1.t.t.t.t.h) hka0).1
        have q1 := (hok.2.2.1.arr (show mm_okk K k1 a from hok.2.1.t.t.h) hka1).1
        have ha : K a ≠ 0 := by rw [hka2]; exact (mm_kc_ka hka1).2
        refine mm_acopy (μ := μ0) (fun z => Value.long z) hF hls (hF.wd h1 rfl) q0 q1 (hF.2.2.2.2.2.2.2.2.2.1.2 1 (by decide)).1 (hF.2.2.2.2.2.2.2.2.2.1.2 1 (by decide)).1 rfl hc.1 hc.2.1 hc.2.2.1 hc.2.2.2.1 hc.2.2.2.2 (fun i => ⟨rfl, fun b e => by cases e⟩) (by rw [hrm.1]; exact h2) (by rw [mm_cs_le, hrm.2.1]; omega) hd fun H2 locs2 he hz hoq hlo => kk H2 locs2 ?_ ?_
        · refine hok.2.2.1.put hF.2.2.2.2.2.2.2.2.1 hok.2.2.2.2.2 ha rfl rfl (fun n hn j => rfl) (fun n hn j => mm_cp_ne hn j) (fun n hn j => rfl) (fun n hn j => rfl) (fun n hn j => rfl) hz hoq (mm_ce_arr hka2 hka1 ?_)
          rw [he]
          dsimp only
          rw [mm_ac1]
          congr 2
          funext q
          simp [mm_cp]
        · refine ⟨by rw [hz]; exact hok.2.2.2.1.1, fun q g1 g2 => ?_, fun q hq => ?_⟩
          · rw [hoq q (fun e => g2 (by rw [e]; exact (mm_Aof hF.2.2.2.2.2.2.2.2.1 hF.2.2.2.2.2.2.2.2.2.2.2.2 hok.2.2.2.2.1 ha))), hok.2.2.2.1.2.1 q g1 g2]
          · rcases hlo q hq with g | g
            · exact hok.2.2.2.1.2.2 q g
            · rw [g]; exact (mm_Aof hF.2.2.2.2.2.2.2.2.1 hF.2.2.2.2.2.2.2.2.2.2.2.2 hok.2.2.2.2.1 ha)
      · intro hck hwf ho
        exact ⟨mm_le.same rfl rfl rfl, hwf.same rfl rfl rfl⟩
      · intro hck hu ho hwf
        exact ho.t.t.t.t.t
    · cases h
  · next n0 dp0 k1 a sp0 k0 a0 r0 K I J F D Rm nx sl =>
    split at h
    · next l0 l1 hka0 hka1 hcs =>
      have hcs := Nat.ble_eq.mp hcs
      cases h
      cases hn
      refine mm_fallM ?_ ?_ ?_ k
      · intro Γ l p e s m args below meth c H locs ls R Q hF hlen hck hd hrm hok hls kk
        cases eq_of_beq hlen
        obtain ⟨h1, h2, h3⟩ := mm_k_pr hck (by decide)
        have hka2 := mm_arr_of (show mm_okk K k1 a from hok.2.1.t.t.h) hka1
        have q0 := (hok.2.2.1.arr (show mm_okk K k0 a0 from hok.2.1.t.t.t.t.h) hka0).1
        have q1 := (hok.2.2.1.arr (show mm_okk K k1 a from hok.2.1.t.t.h) hka1).1
        have ha : K a ≠ 0 := by rw [hka2]; exact (mm_kc_ka hka1).2
        refine mm_acopy (μ := μ0) (fun z => Value.double z) hF hls (hF.wd h1 rfl) q0 q1 (hF.2.2.2.2.2.2.2.2.2.1.2 3 (by decide)).1 (hF.2.2.2.2.2.2.2.2.2.1.2 3 (by decide)).1 rfl hc.1 hc.2.1 hc.2.2.1 hc.2.2.2.1 hc.2.2.2.2 (fun i => ⟨rfl, fun b e => by cases e⟩) (by rw [hrm.1]; exact h2) (by rw [mm_cs_le, hrm.2.1]; omega) hd fun H2 locs2 he hz hoq hlo => kk H2 locs2 ?_ ?_
        · refine hok.2.2.1.put hF.2.2.2.2.2.2.2.2.1 hok.2.2.2.2.2 ha rfl rfl (fun n hn j => rfl) (fun n hn j => rfl) (fun n hn j => rfl) (fun n hn j => mm_cp_ne hn j) (fun n hn j => rfl) hz hoq (mm_ce_arr hka2 hka1 ?_)
          rw [he]
          dsimp only
          rw [mm_ac3]
          congr 2
          funext q
          simp [mm_cp]
        · refine ⟨by rw [hz]; exact hok.2.2.2.1.1, fun q g1 g2 => ?_, fun q hq => ?_⟩
          · rw [hoq q (fun e => g2 (by rw [e]; exact (mm_Aof hF.2.2.2.2.2.2.2.2.1 hF.2.2.2.2.2.2.2.2.2.2.2.2 hok.2.2.2.2.1 ha))), hok.2.2.2.1.2.1 q g1 g2]
          · rcases hlo q hq with g | g
            · exact hok.2.2.2.1.2.2 q g
            · rw [g]; exact (mm_Aof hF.2.2.2.2.2.2.2.2.1 hF.2.2.2.2.2.2.2.2.2.2.2.2 hok.2.2.2.2.1 ha)
      · intro hck hwf ho
        exact ⟨mm_le.same rfl rfl rfl, hwf.same rfl rfl rfl⟩
      · intro hck hu ho hwf
        exact ho.t.t.t.t.t
    · cases h
  · cases h
set_option maxHeartbeats 4000000 in
theorem mm_one_ok (i : Instr) (x1 x2 x3 x4 x5 : Nat) (t : List Nat) : mm_Sd i (x1, x2, x3, x4, x5) t (mm_one i x1 x2 x3 x4 x5 t) := by
  cases i with
  | iconst a0 => exact mm_s_iconst x1 x2 x3 x4 x5 t a0
  | bipush a0 => exact mm_s_bipush x1 x2 x3 x4 x5 t a0
  | sipush a0 => exact mm_s_sipush x1 x2 x3 x4 x5 t a0
  | lconst a0 => exact mm_s_lconst x1 x2 x3 x4 x5 t a0
  | dconst a0 => exact mm_s_dconst x1 x2 x3 x4 x5 t a0
  | fconst a0 => exact mm_s_fconst x1 x2 x3 x4 x5 t a0
  | ldc a0 => exact mm_s_ldc x1 x2 x3 x4 x5 t a0
  | ldc2_w a0 => exact mm_s_ldc2 x1 x2 x3 x4 x5 t a0
  | aconst_null => exact mm_s_aconst_null x1 x2 x3 x4 x5 t 
  | iload a0 => exact mm_s_iload x1 x2 x3 x4 x5 t a0
  | iload_n a0 => exact mm_s_iload_n x1 x2 x3 x4 x5 t a0
  | istore a0 => exact mm_s_istore x1 x2 x3 x4 x5 t a0
  | istore_n a0 => exact mm_s_istore_n x1 x2 x3 x4 x5 t a0
  | lload a0 => exact mm_s_lload x1 x2 x3 x4 x5 t a0
  | lload_n a0 => exact mm_s_lload_n x1 x2 x3 x4 x5 t a0
  | lstore a0 => exact mm_s_lstore x1 x2 x3 x4 x5 t a0
  | lstore_n a0 => exact mm_s_lstore_n x1 x2 x3 x4 x5 t a0
  | fload a0 => exact mm_s_fload x1 x2 x3 x4 x5 t a0
  | fload_n a0 => exact mm_s_fload_n x1 x2 x3 x4 x5 t a0
  | fstore a0 => exact mm_s_fstore x1 x2 x3 x4 x5 t a0
  | fstore_n a0 => exact mm_s_fstore_n x1 x2 x3 x4 x5 t a0
  | dload a0 => exact mm_s_dload x1 x2 x3 x4 x5 t a0
  | dload_n a0 => exact mm_s_dload_n x1 x2 x3 x4 x5 t a0
  | dstore a0 => exact mm_s_dstore x1 x2 x3 x4 x5 t a0
  | dstore_n a0 => exact mm_s_dstore_n x1 x2 x3 x4 x5 t a0
  | aload a0 => exact mm_s_aload x1 x2 x3 x4 x5 t a0
  | aload_n a0 => exact mm_s_aload_n x1 x2 x3 x4 x5 t a0
  | astore a0 => exact mm_s_astore x1 x2 x3 x4 x5 t a0
  | astore_n a0 => exact mm_s_astore_n x1 x2 x3 x4 x5 t a0
  | iinc a0 a1 => exact mm_s_iinc x1 x2 x3 x4 x5 t a0 a1
  | iadd => exact mm_s_iadd x1 x2 x3 x4 x5 t 
  | isub => exact mm_s_isub x1 x2 x3 x4 x5 t 
  | imul => exact mm_s_imul x1 x2 x3 x4 x5 t 
  | iand => exact mm_s_iand x1 x2 x3 x4 x5 t 
  | ior => exact mm_s_ior x1 x2 x3 x4 x5 t 
  | ixor => exact mm_s_ixor x1 x2 x3 x4 x5 t 
  | ishl => exact mm_s_ishl x1 x2 x3 x4 x5 t 
  | ishr => exact mm_s_ishr x1 x2 x3 x4 x5 t 
  | iushr => exact mm_s_iushr x1 x2 x3 x4 x5 t 
  | idiv => exact mm_s_idiv x1 x2 x3 x4 x5 t 
  | irem => exact mm_s_irem x1 x2 x3 x4 x5 t 
  | ladd => exact mm_s_ladd x1 x2 x3 x4 x5 t 
  | lsub => exact mm_s_lsub x1 x2 x3 x4 x5 t 
  | lmul => exact mm_s_lmul x1 x2 x3 x4 x5 t 
  | land => exact mm_s_land x1 x2 x3 x4 x5 t 
  | lor => exact mm_s_lor x1 x2 x3 x4 x5 t 
  | lxor => exact mm_s_lxor x1 x2 x3 x4 x5 t 
  | ldiv => exact mm_s_ldiv x1 x2 x3 x4 x5 t 
  | lrem => exact mm_s_lrem x1 x2 x3 x4 x5 t 
  | lshl => exact mm_s_lshl x1 x2 x3 x4 x5 t 
  | lshr => exact mm_s_lshr x1 x2 x3 x4 x5 t 
  | lushr => exact mm_s_lushr x1 x2 x3 x4 x5 t 
  | ineg => exact mm_s_ineg x1 x2 x3 x4 x5 t 
  | i2l => exact mm_s_i2l x1 x2 x3 x4 x5 t 
  | l2i => exact mm_s_l2i x1 x2 x3 x4 x5 t 
  | i2b => exact mm_s_i2b x1 x2 x3 x4 x5 t 
  | i2s => exact mm_s_i2s x1 x2 x3 x4 x5 t 
  | i2c => exact mm_s_i2c x1 x2 x3 x4 x5 t 
  | fadd => exact mm_s_fadd x1 x2 x3 x4 x5 t 
  | fsub => exact mm_s_fsub x1 x2 x3 x4 x5 t 
  | fmul => exact mm_s_fmul x1 x2 x3 x4 x5 t 
  | fdiv => exact mm_s_fdiv x1 x2 x3 x4 x5 t 
  | frem => exact mm_s_frem x1 x2 x3 x4 x5 t 
  | dadd => exact mm_s_dadd x1 x2 x3 x4 x5 t 
  | dsub => exact mm_s_dsub x1 x2 x3 x4 x5 t 
  | dmul => exact mm_s_dmul x1 x2 x3 x4 x5 t 
  | ddiv => exact mm_s_ddiv x1 x2 x3 x4 x5 t 
  | drem => exact mm_s_drem x1 x2 x3 x4 x5 t 
  | dneg => exact mm_s_dneg x1 x2 x3 x4 x5 t 
  | i2f => exact mm_s_i2f x1 x2 x3 x4 x5 t 
  | l2f => exact mm_s_l2f x1 x2 x3 x4 x5 t 
  | f2i => exact mm_s_f2i x1 x2 x3 x4 x5 t 
  | f2l => exact mm_s_f2l x1 x2 x3 x4 x5 t 
  | i2d => exact mm_s_i2d x1 x2 x3 x4 x5 t 
  | l2d => exact mm_s_l2d x1 x2 x3 x4 x5 t 
  | d2i => exact mm_s_d2i x1 x2 x3 x4 x5 t 
  | d2l => exact mm_s_d2l x1 x2 x3 x4 x5 t 
  | f2d => exact mm_s_f2d x1 x2 x3 x4 x5 t 
  | d2f => exact mm_s_d2f x1 x2 x3 x4 x5 t 
  | fcmp a0 => exact mm_s_fcmp x1 x2 x3 x4 x5 t a0
  | dcmp a0 => exact mm_s_dcmp x1 x2 x3 x4 x5 t a0
  | lcmp => exact mm_s_lcmp x1 x2 x3 x4 x5 t 
  | dup => exact mm_s_dup x1 x2 x3 x4 x5 t 
  | pop => exact mm_s_pop x1 x2 x3 x4 x5 t 
  | dup_x1 => exact mm_s_dup_x1 x1 x2 x3 x4 x5 t 
  | dup2 => exact mm_s_dup2 x1 x2 x3 x4 x5 t 
  | ifCond a0 a1 => exact mm_s_ifCond x1 x2 x3 x4 x5 t a0 a1
  | if_icmp a0 a1 => exact mm_s_if_icmp x1 x2 x3 x4 x5 t a0 a1
  | goto a0 => exact mm_s_goto x1 x2 x3 x4 x5 t a0
  | ifnull a0 => exact mm_s_ifnull x1 x2 x3 x4 x5 t a0
  | ifnonnull a0 => exact mm_s_ifnonnull x1 x2 x3 x4 x5 t a0
  | if_acmp a0 a1 =>
    cases a0 with
    | ne => exact mm_s_acne x1 x2 x3 x4 x5 t a1
    | eq => exact mm_Sd.no _ _ _
  | tableswitch a0 a1 a2 a3 => exact mm_s_tab x1 x2 x3 x4 x5 t a0 a1 a2 a3
  | lookupswitch a0 a1 => exact mm_s_look x1 x2 x3 x4 x5 t a0 a1
  | getfield a0 => exact mm_s_getfield x1 x2 x3 x4 x5 t a0
  | getstatic a0 => exact mm_s_getstatic x1 x2 x3 x4 x5 t a0
  | iaload => exact mm_s_iaload x1 x2 x3 x4 x5 t 
  | laload => exact mm_s_laload x1 x2 x3 x4 x5 t 
  | faload => exact mm_s_faload x1 x2 x3 x4 x5 t 
  | daload => exact mm_s_daload x1 x2 x3 x4 x5 t 
  | baload => exact mm_s_baload x1 x2 x3 x4 x5 t 
  | aaload => exact mm_s_aaload x1 x2 x3 x4 x5 t 
  | arraylength => exact mm_s_arraylength x1 x2 x3 x4 x5 t 
  | putfield a0 => exact mm_s_putfield x1 x2 x3 x4 x5 t a0
  | iastore => exact mm_s_iastore x1 x2 x3 x4 x5 t 
  | lastore => exact mm_s_lastore x1 x2 x3 x4 x5 t 
  | fastore => exact mm_s_fastore x1 x2 x3 x4 x5 t 
  | dastore => exact mm_s_dastore x1 x2 x3 x4 x5 t 
  | bastore => exact mm_s_bastore x1 x2 x3 x4 x5 t 
  | aastore => exact mm_s_aastore x1 x2 x3 x4 x5 t 
  | new a0 => exact mm_s_new x1 x2 x3 x4 x5 t a0
  | newarray a0 => exact mm_s_newarray x1 x2 x3 x4 x5 t a0
  | anewarray a0 => exact mm_s_anewarray x1 x2 x3 x4 x5 t a0
  | invokespecial a0 => exact mm_s_objinit x1 x2 x3 x4 x5 t a0
  | invokestatic a0 => exact mm_s_invokestatic x1 x2 x3 x4 x5 t a0
  | _ => exact mm_Sd.no _ _ _
theorem mm_go_nil {code : List mm_E} {L : mm_L} {st : List mm_V} {μ : mm_M} {bs : List Bool} {os : List (Option Nat)} {P : Prop} {e2 : mm_E} {rem2 : List mm_E} {L2 : mm_L} {st2 : List mm_V} {μ2 : mm_M} {P2 : Prop} (n : Nat) : ¬ mm_go n code [] L st μ bs os P = some (e2 :: rem2, L2, st2, μ2, P2) := by
  intro h
  cases n with
  | zero => unfold mm_go at h; cases h
  | succ n => unfold mm_go at h; cases h
theorem mm_go_ok {Y : mm_Y} {μ0 : mm_M} {r : Option mm_V} {μ1 : mm_M} : ∀ (n : Nat) (rem : List mm_E) (L : mm_L) (st : List mm_V) (μ : mm_M) (bs : List Bool) (os : List (Option Nat)) (P : Prop) {e2 : mm_E} {rem2 : List mm_E} {L2 : mm_L} {st2 : List mm_V} {μ2 : mm_M} {P2 : Prop}, mm_go n (mm_co Y) rem L st μ bs os P = some (e2 :: rem2, L2, st2, μ2, P2) → P2 → P ∧ (mm_Ev0 Y μ0 (e2 :: rem2) L2 st2 μ2 r μ1 → mm_Ev0 Y μ0 rem L st μ r μ1)
  | 0, rem, L, st, μ, bs, os, P, e2, rem2, L2, st2, μ2, P2, h, hp => by
    unfold mm_go at h
    cases h
    exact ⟨hp, id⟩
  | n + 1, rem, L, st, μ, bs, os, P, e2, rem2, L2, st2, μ2, P2, h, hp => by
    unfold mm_go at h
    split at h
    · cases h
    · next pc i len x1 x2 x3 x4 x5 t rem3 =>
      split at h
      · cases h
        exact ⟨hp, id⟩
      · next L3 st3 μ3 bs3 os3 h1 =>
        obtain ⟨g1, g2⟩ := mm_go_ok n _ _ _ _ _ _ _ h hp
        refine ⟨g1, fun k => ?_⟩
        cases rem3 with
        | nil => exact absurd h (mm_go_nil n)
        | cons e4 rem4 => exact mm_one_ok i x1 x2 x3 x4 x5 t Y μ0 pc len _ L st μ bs os none L3 st3 μ3 bs3 os3 none e4 rem4 r μ1 h1 trivial rfl (g2 k)
      · next L3 st3 μ3 bs3 os3 c3 h1 =>
        obtain ⟨g1, g2⟩ := mm_go_ok n _ _ _ _ _ _ _ h hp
        refine ⟨g1.1, fun k => ?_⟩
        cases rem3 with
        | nil => exact absurd h (mm_go_nil n)
        | cons e4 rem4 => exact mm_one_ok i x1 x2 x3 x4 x5 t Y μ0 pc len _ L st μ bs os none L3 st3 μ3 bs3 os3 (some c3) e4 rem4 r μ1 h1 g1.2 rfl (g2 k)
      · next tg L3 st3 μ3 bs3 os3 h1 =>
        obtain ⟨g1, g2⟩ := mm_go_ok n _ _ _ _ _ _ _ h hp
        refine ⟨g1, fun k => ?_⟩
        cases hto : mm_to (mm_co Y) tg with
        | nil => rw [hto] at h; exact absurd h (mm_go_nil n)
        | cons e4 rem4 => exact mm_one_ok i x1 x2 x3 x4 x5 t Y μ0 pc len rem3 L st μ bs os (some tg) L3 st3 μ3 bs3 os3 none e4 rem4 r μ1 h1 trivial hto (by rw [← hto]; exact g2 k)
      · next tg L3 st3 μ3 bs3 os3 c3 h1 =>
        obtain ⟨g1, g2⟩ := mm_go_ok n _ _ _ _ _ _ _ h hp
        refine ⟨g1.1, fun k => ?_⟩
        cases hto : mm_to (mm_co Y) tg with
        | nil => rw [hto] at h; exact absurd h (mm_go_nil n)
        | cons e4 rem4 => exact mm_one_ok i x1 x2 x3 x4 x5 t Y μ0 pc len rem3 L st μ bs os (some tg) L3 st3 μ3 bs3 os3 (some c3) e4 rem4 r μ1 h1 g1.2 hto (by rw [← hto]; exact g2 k)
