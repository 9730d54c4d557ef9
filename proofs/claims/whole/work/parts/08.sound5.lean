theorem mm_putf {Γ : mm_C} {Y : mm_Y} {μ0 : mm_M} {p : Program} {l : Launch} {e : Env} {R0 : Room} {s : State} {m : MethodId} {args : Array Value} {below : List Frame} {meth : Method} {c : Code} {H : Heap} {locs : List Loc} {cells slots : Nat} {Q : State → Prop} {pc : Nat} {ls : Array Slot} {rest : List Value} {μ : mm_M} (hF : mm_Fx Γ Y μ0 p s m args meth c) (hR : mm_Rw Γ μ H) {a x1 x2 x3 x4 x5 i0 fr lo ml pc0 : Nat} {t : List Nat} (hkc : mm_kc (μ.1 a) = some x1) (hck : mm_ck2 (mm_ow Y) (mm_nm Y) fr lo ml pc0 (.putfield i0) x1 x2 x3 x4 x5 t = true) {v : Value} (hfit : ∀ q : vw_C, mm_cls[x1]? = some q → x2 < q.2.2 → narrow (mm_cty x1 x2) v = v ∧ fits (mm_cty x1 x2) v = true) (hd : decode (mm_by Y) pc = .ok (.putfield i0, 3))
    (kk : ∀ (H2 : Heap) (locs2 : List Loc), (∃ q : vw_C, mm_cls[x1]? = some q ∧ t_OB (mm_ad Γ a) (Γ.1 x1) q.2.2 (Γ.2.1 x1) H2 (updV (mm_fv (mm_ad Γ) μ x1 a) x2 v)) → H2.size = H.size → (∀ q, q ≠ mm_ad Γ a → H2[q]? = H[q]?) → (∃ k, locs2 = locs ++ [⟨mm_ad Γ a, k⟩]) → W p l e R0 s m args below meth c H2 locs2 cells slots Q (F0 m (pc + 3) ls (rest))) : W p l e R0 s m args below meth c H locs cells slots Q (F0 m pc ls (v :: .ref (mm_ad Γ a) :: rest)) := by
  obtain ⟨hfl, -, hfin⟩ := mm_k_putf hck
  obtain ⟨q, hq, hk, hlk⟩ := mm_fl_in hfl
  obtain ⟨q', hq', cell, q1, q2, q3, q4⟩ := hR.obj hkc
  cases hq.symm.trans hq'
  obtain ⟨hn, hft⟩ := hfit q hq hk
  obtain ⟨hS, hfc, kC, hkC, hkind⟩ := hF.2.2.2.2.2.2.2.2.2.1.1 x1 q hq
  obtain ⟨cf, kf, fi, f, hi, hsl⟩ := hS x2 hk
  have hts := hF.2.2.2.2.2.2.2.1
  have hap : ∀ x y, x < q.2.2 → y < q.2.2 → x ≠ y → (Γ.2.1 x1) x ≠ (Γ.2.1 x1) y := by
    intro x y hx hy hne
    obtain ⟨_, _, _, fa, hia, ea⟩ := hS x hx
    obtain ⟨_, _, _, fb, hib, eb⟩ := hS y hy
    rw [← ea, ← eb]
    refine u_apart (u_lays hts (mm_lay_tb hq) hx) (u_lays hts (mm_lay_tb hq) hy) hia hib ?_
    rw [(State.fieldFound?_type hia (mm_ty_ok hq x hx)).1, (State.fieldFound?_type hib (mm_ty_ok hq y hy)).1]
    exact mm_nm_ne hq x hx y hy hne
  have hlay := hts _ (mm_lay_tb hq _ (u_in_lay hk))
  have hst := (u_facts hfc hkC (u_lays hts (mm_lay_tb hq) hk) hi).1
  have fin : ∀ H2 : Heap, H2[mm_ad Γ a]? = some (cell.setSlot f.slot v) → H2.size = H.size → (∀ q, q ≠ mm_ad Γ a → H2[q]? = H[q]?) → W p l e R0 s m args below meth c H2 (locs ++ [⟨mm_ad Γ a, f.slot⟩]) cells slots Q (F0 m (pc + 3) ls (rest)) := by
    intro H2 e1 e2 e3
    rw [hsl] at e1
    exact kk H2 _ ⟨q, hq, _, e1, q2, q3, t_set q4 hap hk v⟩ e2 e3 ⟨_, rfl⟩
  by_cases hf : (q.2.1 x2).2.2.2 = true
  · unfold u_lay at hlay
    rw [if_pos hf] at hlay
    obtain ⟨g1, g2⟩ := hfin q hq hf
    have hcf : m.cls = cf := by
      obtain ⟨_, _, c', _, _, _, -, -, hf', -, -, -, hown2, -⟩ := Cond.laysFinal_spec hlay
      have e1 : c' = cf := by have := hi.symm.trans hf'; simp at this; exact this.1.symm
      rw [mm_dc_ok hq x2 hk, g2] at hown2
      rw [← e1]; exact Option.some.inj (hF.2.2.2.2.2.1.symm.trans hown2)
    have h6 := u_fits hfc hkC hkind (Or.inr hlay) hi (mm_ty_ok hq x2 hk) hn hft
    exact W.putFinK hF.1 hF.2.1 hF.2.2.2.2.2.1 (hF.wd hlk rfl) hi hst hcf (hF.2.2.2.2.2.2.1.1.trans g1) (by rw [q2]; exact h6) q1 q3 (by rw [hsl]; exact k2_hasslot (q4 x2 hk)) rfl rfl hd fin
  · unfold u_lay at hlay
    rw [if_neg hf] at hlay
    have h6 := u_store hfc hkC hkind hlay hi (mm_ty_ok hq x2 hk) hn hft
    exact W.putK hF.1 hF.2.1 (f := f) ⟨hF.2.2.2.2.2.1, hF.wd hlk rfl, ⟨_, _, _, hi⟩, hst⟩ (by rw [q2]; exact h6) q1 q3 (by rw [hsl]; exact k2_hasslot (q4 x2 hk)) rfl rfl hd fin
theorem mm_up_ne {α : Type} {f : Nat → Nat → α} {a k n : Nat} {v : α} (h : n ≠ a) (j : Nat) : mm_up f a k v n j = f n j := by simp [mm_up, h]
theorem mm_ce_obj {Γ : mm_C} {μ : mm_M} {H : Heap} {a c : Nat} (hk : mm_kc (μ.1 a) = some c) (h : ∃ q : vw_C, mm_cls[c]? = some q ∧ t_OB (mm_ad Γ a) (Γ.1 c) q.2.2 (Γ.2.1 c) H (mm_fv (mm_ad Γ) μ c a)) : mm_ce Γ μ H a := by
  unfold mm_ce
  rw [hk]
  exact h
theorem mm_ce_arr {Γ : mm_C} {μ : mm_M} {H : Heap} {a kd : Nat} {z : Nat × Nat} (hk : μ.1 a = kd) (hz : mm_ka kd = some z) (h : H[mm_ad Γ a]? = some (mm_ac (Γ.2.2.1 z.1) (mm_ad Γ) μ z.1 z.2 a)) : mm_ce Γ μ H a := by
  unfold mm_ce
  rw [hk, (mm_kc_ka hz).1]
  dsimp only
  rw [hz]
  exact h
theorem mm_tc_ty {c k tc : Nat} {q : vw_C} (h : mm_cls[c]? = some q) (hk : k < q.2.2) (hft : (mm_ft c k).1 = tc) : (tc = 0 → mm_cty c k = .int) ∧ (tc = 1 → mm_cty c k = .long) ∧ (tc = 2 → mm_cty c k = .float) ∧ (tc = 3 → mm_cty c k = .double) ∧ (4 ≤ tc → (∃ C, mm_cty c k = .object C) ∨ ∃ C, mm_cty c k = .array C) := by
  have h1 := (mm_tc_ok h k hk).1
  rw [hft] at h1
  refine ⟨fun e => ?_, fun e => ?_, fun e => ?_, fun e => ?_, fun e => ?_⟩
  · subst e; exact of_decide_eq_true h1
  · subst e; exact of_decide_eq_true h1
  · subst e; exact of_decide_eq_true h1
  · subst e; exact of_decide_eq_true h1
  · unfold mm_tc at h1
    split at h1
    · omega
    · omega
    · omega
    · omega
    · split at h1
      · next C hC => exact Or.inl ⟨C, hC⟩
      · next C hC => exact Or.inr ⟨C, hC⟩
      · cases h1
theorem mm_fv_putI {ad : Nat → Nat} {K : Nat → Nat} {I : Nat → Nat → Int32} {J : Nat → Nat → Int64} {F : Nat → Nat → UInt32} {D : Nat → Nat → UInt64} {Rm : Nat → Nat → Option Nat} {nx sl a x1 x2 : Nat} {v : Int32} (hft : (mm_ft x1 x2).1 = 0) (k : Nat) : mm_fv ad (K, mm_up I a x2 v, J, F, D, Rm, nx, sl) x1 a k = updV (mm_fv ad (K, I, J, F, D, Rm, nx, sl) x1 a) x2 (.int v) k := by
  unfold updV mm_fv
  by_cases hk : k = x2
  · subst hk
    rw [hft]
    simp [mm_up]
  · simp [mm_up, hk]
theorem mm_fv_putJ {ad : Nat → Nat} {K : Nat → Nat} {I : Nat → Nat → Int32} {J : Nat → Nat → Int64} {F : Nat → Nat → UInt32} {D : Nat → Nat → UInt64} {Rm : Nat → Nat → Option Nat} {nx sl a x1 x2 : Nat} {v : Int64} (hft : (mm_ft x1 x2).1 = 1) (k : Nat) : mm_fv ad (K, I, mm_up J a x2 v, F, D, Rm, nx, sl) x1 a k = updV (mm_fv ad (K, I, J, F, D, Rm, nx, sl) x1 a) x2 (.long v) k := by
  unfold updV mm_fv
  by_cases hk : k = x2
  · subst hk
    rw [hft]
    simp [mm_up]
  · simp [mm_up, hk]
theorem mm_fv_putF {ad : Nat → Nat} {K : Nat → Nat} {I : Nat → Nat → Int32} {J : Nat → Nat → Int64} {F : Nat → Nat → UInt32} {D : Nat → Nat → UInt64} {Rm : Nat → Nat → Option Nat} {nx sl a x1 x2 : Nat} {v : UInt32} (hft : (mm_ft x1 x2).1 = 2) (k : Nat) : mm_fv ad (K, I, J, mm_up F a x2 v, D, Rm, nx, sl) x1 a k = updV (mm_fv ad (K, I, J, F, D, Rm, nx, sl) x1 a) x2 (.float v) k := by
  unfold updV mm_fv
  by_cases hk : k = x2
  · subst hk
    rw [hft]
    simp [mm_up]
  · simp [mm_up, hk]
theorem mm_fv_putD {ad : Nat → Nat} {K : Nat → Nat} {I : Nat → Nat → Int32} {J : Nat → Nat → Int64} {F : Nat → Nat → UInt32} {D : Nat → Nat → UInt64} {Rm : Nat → Nat → Option Nat} {nx sl a x1 x2 : Nat} {v : UInt64} (hft : (mm_ft x1 x2).1 = 3) (k : Nat) : mm_fv ad (K, I, J, F, mm_up D a x2 v, Rm, nx, sl) x1 a k = updV (mm_fv ad (K, I, J, F, D, Rm, nx, sl) x1 a) x2 (.double v) k := by
  unfold updV mm_fv
  by_cases hk : k = x2
  · subst hk
    rw [hft]
    simp [mm_up]
  · simp [mm_up, hk]
theorem mm_fv_putR {ad : Nat → Nat} {K : Nat → Nat} {I : Nat → Nat → Int32} {J : Nat → Nat → Int64} {F : Nat → Nat → UInt32} {D : Nat → Nat → UInt64} {Rm : Nat → Nat → Option Nat} {nx sl a x1 x2 : Nat} {v : Option Nat} (hft : 4 ≤ (mm_ft x1 x2).1) (k : Nat) : mm_fv ad (K, I, J, F, D, mm_up Rm a x2 v, nx, sl) x1 a k = updV (mm_fv ad (K, I, J, F, D, Rm, nx, sl) x1 a) x2 (va_rf (v.map ad)) k := by
  unfold updV mm_fv
  by_cases hk : k = x2
  · subst hk
    split <;> first | omega | simp [mm_up]
  · simp [mm_up, hk]
theorem mm_ty_putR {K : Nat → Nat} {Rm : Nat → Nat → Option Nat} {a c k : Nat} {v : Option Nat} (hkc : mm_kc (K a) = some c) (hold : mm_ty K Rm a) (hv : ∀ b, v = some b → K b = (mm_ft c k).2.1) (h4 : 11 < K a ∨ (mm_ft c k).1 = 4) : mm_ty K (mm_up Rm a k v) a := by
  unfold mm_ty at hold ⊢
  rw [hkc] at hold ⊢
  refine ⟨fun k2 b g1 g2 g3 => ?_, fun g k2 => ?_⟩
  · by_cases e : k2 = k
    · subst e
      rw [show mm_up Rm a k2 v a k2 = v by simp [mm_up]] at g3
      exact hv b g3
    · rw [show mm_up Rm a k v a k2 = Rm a k2 by simp [mm_up, e]] at g3
      exact hold.1 k2 b g1 g2 g3
  · have h4 : (mm_ft c k).1 = 4 := by
      rcases h4 with h4 | h4
      · omega
      · exact h4
    by_cases e : k2 = k
    · subst e
      exact ⟨fun g1 => by omega, fun g1 => by omega⟩
    · rw [show mm_up Rm a k v a k2 = Rm a k2 by simp [mm_up, e]]
      exact hold.2 g k2
set_option maxHeartbeats 4000000 in
theorem mm_s_putfield (x1 x2 x3 x4 x5 : Nat) (t : List Nat) (i0 : Nat) : mm_Sd (.putfield i0) (x1, x2, x3, x4, x5) t (mm_hputf x1 x2 x3 x4 x5) := by
  intro Y μ0 pc len rem L st μ bs os j L2 st2 μ2 bs2 os2 c e2 rem2 r μ1 h hc hn k
  unfold mm_hputf at h
  split at h
  · next v0 kd a r0 K I J F D Rm nx sl =>
    split at h
    · next hkd =>
      rw [Bool.and_eq_true] at hkd
      cases h
      cases hn
      refine mm_fallM ?_ ?_ ?_ k
      · intro Γ l p e s m args below meth c H locs ls R Q hF hlen hck hd hrm hok hls kk
        cases eq_of_beq hlen
        obtain ⟨hfl, hft, -⟩ := mm_k_putf hck
        obtain ⟨q, hq, -, -⟩ := mm_fl_in hfl
        have hkc := (mm_kc_of (show mm_okk K kd a from hok.2.1.t.h) hkd.1 (mm_cls_lt hq)).1
        have hk90 := (mm_kc_of (show mm_okk K kd a from hok.2.1.t.h) hkd.1 (mm_cls_lt hq)).2
        have ha := (mm_okk.at (μ := (K, I, J, F, D, Rm, nx, sl)) hok.2.2.1 (show mm_okk K kd a from hok.2.1.t.h) hk90).1
        have hft1 : (mm_ft x1 x2).1 = 0 := by rw [hft]; exact Nat.eq_of_beq_eq_true hkd.2
        refine mm_putf hF hok.2.2.1 hkc hck (fun q hq hk => ?_) hd (fun H2 locs2 hB hz hoq hlo => kk H2 locs2 ?_ ?_)
        · rw [(mm_tc_ty hq hk hft1).1 rfl]
          exact ⟨rfl, rfl⟩
        · refine hok.2.2.1.put hF.2.2.2.2.2.2.2.2.1 hok.2.2.2.2.2 ha rfl rfl (fun n hn j => mm_up_ne hn j) (fun n hn j => rfl) (fun n hn j => rfl) (fun n hn j => rfl) (fun n hn j => rfl) hz hoq (mm_ce_obj hkc ?_)
          obtain ⟨q, hq, hB⟩ := hB
          exact ⟨q, hq, hB.to (fun k _ => (mm_fv_putI hft1 k).symm)⟩
        · obtain ⟨k0, hlo⟩ := hlo
          rw [hlo]
          exact hok.2.2.2.1.put hz hoq (mm_Aof hF.2.2.2.2.2.2.2.2.1 hF.2.2.2.2.2.2.2.2.2.2.2.2 hok.2.2.2.2.1 ha)
      · intro hck hwf ho
        exact ⟨mm_le.same rfl rfl rfl, hwf.same rfl rfl rfl⟩
      · intro hck hu ho hwf
        exact ho.t.t
    · cases h
  · next v0 kd a r0 K I J F D Rm nx sl =>
    split at h
    · next hkd =>
      rw [Bool.and_eq_true] at hkd
      cases h
      cases hn
      refine mm_fallM ?_ ?_ ?_ k
      · intro Γ l p e s m args below meth c H locs ls R Q hF hlen hck hd hrm hok hls kk
        cases eq_of_beq hlen
        obtain ⟨hfl, hft, -⟩ := mm_k_putf hck
        obtain ⟨q, hq, -, -⟩ := mm_fl_in hfl
        have hkc := (mm_kc_of (show mm_okk K kd a from hok.2.1.t.h) hkd.1 (mm_cls_lt hq)).1
        have hk90 := (mm_kc_of (show mm_okk K kd a from hok.2.1.t.h) hkd.1 (mm_cls_lt hq)).2
        have ha := (mm_okk.at (μ := (K, I, J, F, D, Rm, nx, sl)) hok.2.2.1 (show mm_okk K kd a from hok.2.1.t.h) hk90).1
        have hft1 : (mm_ft x1 x2).1 = 1 := by rw [hft]; exact Nat.eq_of_beq_eq_true hkd.2
        refine mm_putf hF hok.2.2.1 hkc hck (fun q hq hk => ?_) hd (fun H2 locs2 hB hz hoq hlo => kk H2 locs2 ?_ ?_)
        · rw [(mm_tc_ty hq hk hft1).2.1 rfl]
          exact ⟨rfl, rfl⟩
        · refine hok.2.2.1.put hF.2.2.2.2.2.2.2.2.1 hok.2.2.2.2.2 ha rfl rfl (fun n hn j => rfl) (fun n hn j => mm_up_ne hn j) (fun n hn j => rfl) (fun n hn j => rfl) (fun n hn j => rfl) hz hoq (mm_ce_obj hkc ?_)
          obtain ⟨q, hq, hB⟩ := hB
          exact ⟨q, hq, hB.to (fun k _ => (mm_fv_putJ hft1 k).symm)⟩
        · obtain ⟨k0, hlo⟩ := hlo
          rw [hlo]
          exact hok.2.2.2.1.put hz hoq (mm_Aof hF.2.2.2.2.2.2.2.2.1 hF.2.2.2.2.2.2.2.2.2.2.2.2 hok.2.2.2.2.1 ha)
      · intro hck hwf ho
        exact ⟨mm_le.same rfl rfl rfl, hwf.same rfl rfl rfl⟩
      · intro hck hu ho hwf
        exact ho.t.t
    · cases h
  · next v0 kd a r0 K I J F D Rm nx sl =>
    split at h
    · next hkd =>
      rw [Bool.and_eq_true] at hkd
      cases h
      cases hn
      refine mm_fallM ?_ ?_ ?_ k
      · intro Γ l p e s m args below meth c H locs ls R Q hF hlen hck hd hrm hok hls kk
        cases eq_of_beq hlen
        obtain ⟨hfl, hft, -⟩ := mm_k_putf hck
        obtain ⟨q, hq, -, -⟩ := mm_fl_in hfl
        have hkc := (mm_kc_of (show mm_okk K kd a from hok.2.1.t.h) hkd.1 (mm_cls_lt hq)).1
        have hk90 := (mm_kc_of (show mm_okk K kd a from hok.2.1.t.h) hkd.1 (mm_cls_lt hq)).2
        have ha := (mm_okk.at (μ := (K, I, J, F, D, Rm, nx, sl)) hok.2.2.1 (show mm_okk K kd a from hok.2.1.t.h) hk90).1
        have hft1 : (mm_ft x1 x2).1 = 2 := by rw [hft]; exact Nat.eq_of_beq_eq_true hkd.2
        refine mm_putf hF hok.2.2.1 hkc hck (fun q hq hk => ?_) hd (fun H2 locs2 hB hz hoq hlo => kk H2 locs2 ?_ ?_)
        · rw [(mm_tc_ty hq hk hft1).2.2.1 rfl]
          exact ⟨rfl, rfl⟩
        · refine hok.2.2.1.put hF.2.2.2.2.2.2.2.2.1 hok.2.2.2.2.2 ha rfl rfl (fun n hn j => rfl) (fun n hn j => rfl) (fun n hn j => mm_up_ne hn j) (fun n hn j => rfl) (fun n hn j => rfl) hz hoq (mm_ce_obj hkc ?_)
          obtain ⟨q, hq, hB⟩ := hB
          exact ⟨q, hq, hB.to (fun k _ => (mm_fv_putF hft1 k).symm)⟩
        · obtain ⟨k0, hlo⟩ := hlo
          rw [hlo]
          exact hok.2.2.2.1.put hz hoq (mm_Aof hF.2.2.2.2.2.2.2.2.1 hF.2.2.2.2.2.2.2.2.2.2.2.2 hok.2.2.2.2.1 ha)
      · intro hck hwf ho
        exact ⟨mm_le.same rfl rfl rfl, hwf.same rfl rfl rfl⟩
      · intro hck hu ho hwf
        exact ho.t.t
    · cases h
  · next v0 kd a r0 K I J F D Rm nx sl =>
    split at h
    · next hkd =>
      rw [Bool.and_eq_true] at hkd
      cases h
      cases hn
      refine mm_fallM ?_ ?_ ?_ k
      · intro Γ l p e s m args below meth c H locs ls R Q hF hlen hck hd hrm hok hls kk
        cases eq_of_beq hlen
        obtain ⟨hfl, hft, -⟩ := mm_k_putf hck
        obtain ⟨q, hq, -, -⟩ := mm_fl_in hfl
        have hkc := (mm_kc_of (show mm_okk K kd a from hok.2.1.t.h) hkd.1 (mm_cls_lt hq)).1
        have hk90 := (mm_kc_of (show mm_okk K kd a from hok.2.1.t.h) hkd.1 (mm_cls_lt hq)).2
        have ha := (mm_okk.at (μ := (K, I, J, F, D, Rm, nx, sl)) hok.2.2.1 (show mm_okk K kd a from hok.2.1.t.h) hk90).1
        have hft1 : (mm_ft x1 x2).1 = 3 := by rw [hft]; exact Nat.eq_of_beq_eq_true hkd.2
        refine mm_putf hF hok.2.2.1 hkc hck (fun q hq hk => ?_) hd (fun H2 locs2 hB hz hoq hlo => kk H2 locs2 ?_ ?_)
        · rw [(mm_tc_ty hq hk hft1).2.2.2.1 rfl]
          exact ⟨rfl, rfl⟩
        · refine hok.2.2.1.put hF.2.2.2.2.2.2.2.2.1 hok.2.2.2.2.2 ha rfl rfl (fun n hn j => rfl) (fun n hn j => rfl) (fun n hn j => rfl) (fun n hn j => mm_up_ne hn j) (fun n hn j => rfl) hz hoq (mm_ce_obj hkc ?_)
          obtain ⟨q, hq, hB⟩ := hB
          exact ⟨q, hq, hB.to (fun k _ => (mm_fv_putD hft1 k).symm)⟩
        · obtain ⟨k0, hlo⟩ := hlo
          rw [hlo]
          exact hok.2.2.2.1.put hz hoq (mm_Aof hF.2.2.2.2.2.2.2.2.1 hF.2.2.2.2.2.2.2.2.2.2.2.2 hok.2.2.2.2.1 ha)
      · intro hck hwf ho
        exact ⟨mm_le.same rfl rfl rfl, hwf.same rfl rfl rfl⟩
      · intro hck hu ho hwf
        exact ho.t.t
    · cases h
  · next kb b kd a r0 K I J F D Rm nx sl =>
    split at h
    · next hkd =>
      simp only [Bool.and_eq_true] at hkd
      have hkb4 : kb = x4 := Nat.eq_of_beq_eq_true hkd.1
      have hkk := hkd.2.1
      have hx34 : x3 = 4 := Nat.eq_of_beq_eq_true hkd.2.2
      have hx3 : 4 ≤ x3 := Nat.le_of_eq hx34.symm
      have hx6 : x3 ≤ 6 := by omega
      cases h
      cases hn
      refine mm_fallM ?_ ?_ ?_ k
      · intro Γ l p e s m args below meth c H locs ls R Q hF hlen hck hd hrm hok hls kk
        cases eq_of_beq hlen
        obtain ⟨hfl, hft, -⟩ := mm_k_putf hck
        obtain ⟨q, hq, -, -⟩ := mm_fl_in hfl
        have hkc := (mm_kc_of (show mm_okk K kd a from hok.2.1.t.h) hkk (mm_cls_lt hq)).1
        have hk90 := (mm_kc_of (show mm_okk K kd a from hok.2.1.t.h) hkk (mm_cls_lt hq)).2
        have ha := (mm_okk.at (μ := (K, I, J, F, D, Rm, nx, sl)) hok.2.2.1 (show mm_okk K kd a from hok.2.1.t.h) hk90).1
        have hft1 : 4 ≤ (mm_ft x1 x2).1 := by rw [hft]; exact hx3
        refine mm_putf hF hok.2.2.1 hkc hck (fun q hq hk => ?_) hd (fun H2 locs2 hB hz hoq hlo => kk H2 locs2 ?_ ?_)
        · rcases (mm_tc_ty hq hk rfl).2.2.2.2 hft1 with ⟨C, hC⟩ | ⟨C, hC⟩ <;> rw [hC] <;> exact ⟨rfl, rfl⟩
        · refine hok.2.2.1.put hF.2.2.2.2.2.2.2.2.1 hok.2.2.2.2.2 ha rfl rfl (fun n hn j => rfl) (fun n hn j => rfl) (fun n hn j => rfl) (fun n hn j => rfl) (fun n hn j => mm_up_ne hn j) hz hoq (mm_ce_obj hkc ?_)
          obtain ⟨q, hq, hB⟩ := hB
          exact ⟨q, hq, hB.to (fun k _ => (mm_fv_putR (v := some b) hft1 k).symm)⟩
        · obtain ⟨k0, hlo⟩ := hlo
          rw [hlo]
          exact hok.2.2.2.1.put hz hoq (mm_Aof hF.2.2.2.2.2.2.2.2.1 hF.2.2.2.2.2.2.2.2.2.2.2.2 hok.2.2.2.2.1 ha)
      · intro hck hwf ho
        obtain ⟨hfl, hft, -⟩ := mm_k_putf hck
        obtain ⟨q, hq, -, -⟩ := mm_fl_in hfl
        have hkc := (mm_kc_of (show mm_okk K kd a from ho.t.h) hkk (mm_cls_lt hq)).1
        refine ⟨mm_le.same rfl rfl rfl, hwf.putR rfl rfl (a := a) (fun n hn k => mm_up_ne hn k) ?_⟩
        have hkb : K b = x4 := by
          rcases (show mm_okk K kb b from ho.h) with g | ⟨-, -, g⟩
          · have := mm_ft_lt x1 x2 (by rw [hft]; exact hx3) (by rw [hft]; exact hx6)
            rw [hft] at this
            dsimp only at this
            omega
          · have := mm_ft_nr x1 x2 (by rw [hft]; exact hx3) (by rw [hft]; exact hx6)
            rw [hft] at this
            dsimp only at this
            unfold mm_kle at g
            omega
        exact mm_ty_putR hkc (hwf.2.2 a) (fun b2 e => by cases e; rw [hft]; exact hkb) (Or.inr (by rw [hft]; exact hx34))
      · intro hck hu ho hwf
        exact ho.t.t
    · split at h
      · next hkd =>
        simp only [Bool.and_eq_true] at hkd
        have hkb4 : kb = x4 := Nat.eq_of_beq_eq_true hkd.1
        have hkk : (Nat.beq kd (x1 + 1) || Nat.beq kd (x1 + 21)) = true := by rw [hkd.2.1, Bool.or_true]
        have hx3 : 4 ≤ x3 := by have := Nat.ble_eq.mp hkd.2.2.1; omega
        have hx6 : x3 ≤ 6 := Nat.ble_eq.mp hkd.2.2.2
        cases h
        cases hn
        refine mm_fallM ?_ ?_ ?_ k
        · intro Γ l p e s m args below meth c H locs ls R Q hF hlen hck hd hrm hok hls kk
          cases eq_of_beq hlen
          obtain ⟨hfl, hft, -⟩ := mm_k_putf hck
          obtain ⟨q, hq, -, -⟩ := mm_fl_in hfl
          have hkc := (mm_kc_of (show mm_okk K kd a from hok.2.1.t.h) hkk (mm_cls_lt hq)).1
          have hk90 := (mm_kc_of (show mm_okk K kd a from hok.2.1.t.h) hkk (mm_cls_lt hq)).2
          have ha := (mm_okk.at (μ := (K, I, J, F, D, Rm, nx, sl)) hok.2.2.1 (show mm_okk K kd a from hok.2.1.t.h) hk90).1
          have hft1 : 4 ≤ (mm_ft x1 x2).1 := by rw [hft]; exact hx3
          refine mm_putf hF hok.2.2.1 hkc hck (fun q hq hk => ?_) hd (fun H2 locs2 hB hz hoq hlo => kk H2 locs2 ?_ ?_)
          · rcases (mm_tc_ty hq hk rfl).2.2.2.2 hft1 with ⟨C, hC⟩ | ⟨C, hC⟩ <;> rw [hC] <;> exact ⟨rfl, rfl⟩
          · refine hok.2.2.1.put hF.2.2.2.2.2.2.2.2.1 hok.2.2.2.2.2 ha rfl rfl (fun n hn j => rfl) (fun n hn j => rfl) (fun n hn j => rfl) (fun n hn j => rfl) (fun n hn j => mm_up_ne hn j) hz hoq (mm_ce_obj hkc ?_)
            obtain ⟨q, hq, hB⟩ := hB
            exact ⟨q, hq, hB.to (fun k _ => (mm_fv_putR (v := some b) hft1 k).symm)⟩
          · obtain ⟨k0, hlo⟩ := hlo
            rw [hlo]
            exact hok.2.2.2.1.put hz hoq (mm_Aof hF.2.2.2.2.2.2.2.2.1 hF.2.2.2.2.2.2.2.2.2.2.2.2 hok.2.2.2.2.1 ha)
        · intro hck hwf ho
          obtain ⟨hfl, hft, -⟩ := mm_k_putf hck
          obtain ⟨q, hq, -, -⟩ := mm_fl_in hfl
          have hkc := (mm_kc_of (show mm_okk K kd a from ho.t.h) hkk (mm_cls_lt hq)).1
          refine ⟨mm_le.same rfl rfl rfl, hwf.putR rfl rfl (a := a) (fun n hn k => mm_up_ne hn k) ?_⟩
          have hkb : K b = x4 := by
            rcases (show mm_okk K kb b from ho.h) with g | ⟨-, -, g⟩
            · have := mm_ft_lt x1 x2 (by rw [hft]; exact hx3) (by rw [hft]; exact hx6)
              rw [hft] at this
              dsimp only at this
              omega
            · have := mm_ft_nr x1 x2 (by rw [hft]; exact hx3) (by rw [hft]; exact hx6)
              rw [hft] at this
              dsimp only at this
              unfold mm_kle at g
              omega
          exact mm_ty_putR hkc (hwf.2.2 a) (fun b2 e => by cases e; rw [hft]; exact hkb) (Or.inl (by show 11 < K a; rw [show K a = x1 + 21 from hc]; omega))
        · intro hck hu ho hwf
          exact ho.t.t
      · cases h
  · next kd a r0 K I J F D Rm nx sl =>
    split at h
    · next hkd =>
      rw [Bool.and_eq_true] at hkd
      have hkk := hkd.1
      have hx3 : 4 ≤ x3 := Nat.le_of_eq (Nat.eq_of_beq_eq_true hkd.2).symm
      cases h
      cases hn
      refine mm_fallM ?_ ?_ ?_ k
      · intro Γ l p e s m args below meth c H locs ls R Q hF hlen hck hd hrm hok hls kk
        cases eq_of_beq hlen
        obtain ⟨hfl, hft, -⟩ := mm_k_putf hck
        obtain ⟨q, hq, -, -⟩ := mm_fl_in hfl
        have hkc := (mm_kc_of (show mm_okk K kd a from hok.2.1.t.h) hkk (mm_cls_lt hq)).1
        have hk90 := (mm_kc_of (show mm_okk K kd a from hok.2.1.t.h) hkk (mm_cls_lt hq)).2
        have ha := (mm_okk.at (μ := (K, I, J, F, D, Rm, nx, sl)) hok.2.2.1 (show mm_okk K kd a from hok.2.1.t.h) hk90).1
        have hft1 : 4 ≤ (mm_ft x1 x2).1 := by rw [hft]; exact hx3
        refine mm_putf hF hok.2.2.1 hkc hck (fun q hq hk => ?_) hd (fun H2 locs2 hB hz hoq hlo => kk H2 locs2 ?_ ?_)
        · rcases (mm_tc_ty hq hk rfl).2.2.2.2 hft1 with ⟨C, hC⟩ | ⟨C, hC⟩ <;> rw [hC] <;> exact ⟨rfl, rfl⟩
        · refine hok.2.2.1.put hF.2.2.2.2.2.2.2.2.1 hok.2.2.2.2.2 ha rfl rfl (fun n hn j => rfl) (fun n hn j => rfl) (fun n hn j => rfl) (fun n hn j => rfl) (fun n hn j => mm_up_ne hn j) hz hoq (mm_ce_obj hkc ?_)
          obtain ⟨q, hq, hB⟩ := hB
          exact ⟨q, hq, hB.to (fun k _ => (mm_fv_putR (v := none) hft1 k).symm)⟩
        · obtain ⟨k0, hlo⟩ := hlo
          rw [hlo]
          exact hok.2.2.2.1.put hz hoq (mm_Aof hF.2.2.2.2.2.2.2.2.1 hF.2.2.2.2.2.2.2.2.2.2.2.2 hok.2.2.2.2.1 ha)
      · intro hck hwf ho
        obtain ⟨hfl, hft, -⟩ := mm_k_putf hck
        obtain ⟨q, hq, -, -⟩ := mm_fl_in hfl
        have hkc := (mm_kc_of (show mm_okk K kd a from ho.t.h) hkk (mm_cls_lt hq)).1
        refine ⟨mm_le.same rfl rfl rfl, hwf.putR rfl rfl (a := a) (fun n hn k => mm_up_ne hn k) ?_⟩
        exact mm_ty_putR hkc (hwf.2.2 a) (fun b e => by cases e) (Or.inr (by rw [hft]; exact Nat.eq_of_beq_eq_true hkd.2))
      · intro hck hu ho hwf
        exact ho.t.t
    · cases h
  · cases h
theorem mm_ac0 (cA : ClassId) (ad : Nat → Nat) (μ : mm_M) (len n : Nat) : mm_ac cA ad μ 0 len n = arrV cA len (fun j => .int (μ.2.1 n j)) := rfl
theorem mm_ac1 (cA : ClassId) (ad : Nat → Nat) (μ : mm_M) (len n : Nat) : mm_ac cA ad μ 1 len n = arrV cA len (fun j => .long (μ.2.2.1 n j)) := rfl
theorem mm_ac2 (cA : ClassId) (ad : Nat → Nat) (μ : mm_M) (len n : Nat) : mm_ac cA ad μ 2 len n = arrV cA len (fun j => .float (μ.2.2.2.1 n j)) := rfl
theorem mm_ac3 (cA : ClassId) (ad : Nat → Nat) (μ : mm_M) (len n : Nat) : mm_ac cA ad μ 3 len n = arrV cA len (fun j => .double (μ.2.2.2.2.1 n j)) := rfl
theorem mm_ac4 (cA : ClassId) (ad : Nat → Nat) (μ : mm_M) (len n : Nat) : mm_ac cA ad μ 4 len n = arrV cA len (fun j => .int (μ.2.1 n j)) := rfl
set_option maxHeartbeats 4000000 in
theorem mm_s_iastore (x1 x2 x3 x4 x5 : Nat) (t : List Nat) : mm_Sd .iastore (x1, x2, x3, x4, x5) t (mm_hiastore) := by
  intro Y μ0 pc len rem L st μ bs os j L2 st2 μ2 bs2 os2 c e2 rem2 r μ1 h hc hn k
  unfold mm_hiastore at h
  split at h
  · next v0 j0 kd a r0 K I J F D Rm nx sl =>
    split at h
    · next len0 hka =>
      cases h
      cases hn
      refine mm_fallM ?_ ?_ ?_ k
      · intro Γ l p e s m args below meth c H locs ls R Q hF hlen hck hd hrm hok hls kk
        cases eq_of_beq hlen
        have hka2 := mm_arr_of (show mm_okk K kd a from hok.2.1.t.t.h) hka
        have h1 := (hok.2.2.1.arr (show mm_okk K kd a from hok.2.1.t.t.h) hka).1
        have ha : K a ≠ 0 := by rw [hka2]; exact (mm_kc_ka hka).2
        refine W.iast hF.1 hF.2.1 h1 ((hF.2.2.2.2.2.2.2.2.2.1.2 0 (by decide)).1 len0 _) (fun q => by cases q) (mm_vp_arr hc) rfl rfl hd fun H2 he hz hoq => kk H2 _ ?_ (hok.2.2.2.1.put hz hoq (mm_Aof hF.2.2.2.2.2.2.2.2.1 hF.2.2.2.2.2.2.2.2.2.2.2.2 hok.2.2.2.2.1 ha))
        refine hok.2.2.1.put hF.2.2.2.2.2.2.2.2.1 hok.2.2.2.2.2 ha rfl rfl (fun n hn j => mm_up_ne hn j) (fun n hn j => rfl) (fun n hn j => rfl) (fun n hn j => rfl) (fun n hn j => rfl) hz hoq (mm_ce_arr hka2 hka ?_)
        rw [he]
        dsimp only
        rw [mm_ac0, mm_ac0, arrV_store]
        congr 2
        funext q
        by_cases hq : q = j0.toNatClampNeg
        · subst hq
          simp [updV, mm_up]
        · simp [updV, mm_up, hq]
      · intro hck hwf ho
        exact ⟨mm_le.same rfl rfl rfl, hwf.same rfl rfl rfl⟩
      · intro hck hu ho hwf
        exact ho.t.t.t
    · cases h
  · cases h
set_option maxHeartbeats 4000000 in
theorem mm_s_lastore (x1 x2 x3 x4 x5 : Nat) (t : List Nat) : mm_Sd .lastore (x1, x2, x3, x4, x5) t (mm_hlastore) := by
  intro Y μ0 pc len rem L st μ bs os j L2 st2 μ2 bs2 os2 c e2 rem2 r μ1 h hc hn k
  unfold mm_hlastore at h
  split at h
  · next v0 j0 kd a r0 K I J F D Rm nx sl =>
    split at h
    · next len0 hka =>
      cases h
      cases hn
      refine mm_fallM ?_ ?_ ?_ k
      · intro Γ l p e s m args below meth c H locs ls R Q hF hlen hck hd hrm hok hls kk
        cases eq_of_beq hlen
        have hka2 := mm_arr_of (show mm_okk K kd a from hok.2.1.t.t.h) hka
        have h1 := (hok.2.2.1.arr (show mm_okk K kd a from hok.2.1.t.t.h) hka).1
        have ha : K a ≠ 0 := by rw [hka2]; exact (mm_kc_ka hka).2
        refine W.last hF.1 hF.2.1 h1 ((hF.2.2.2.2.2.2.2.2.2.1.2 1 (by decide)).1 len0 _) (fun q => by cases q) (mm_vp_arr hc) rfl rfl hd fun H2 he hz hoq => kk H2 _ ?_ (hok.2.2.2.1.put hz hoq (mm_Aof hF.2.2.2.2.2.2.2.2.1 hF.2.2.2.2.2.2.2.2.2.2.2.2 hok.2.2.2.2.1 ha))
        refine hok.2.2.1.put hF.2.2.2.2.2.2.2.2.1 hok.2.2.2.2.2 ha rfl rfl (fun n hn j => rfl) (fun n hn j => mm_up_ne hn j) (fun n hn j => rfl) (fun n hn j => rfl) (fun n hn j => rfl) hz hoq (mm_ce_arr hka2 hka ?_)
        rw [he]
        dsimp only
        rw [mm_ac1, mm_ac1, arrV_store]
        congr 2
        funext q
        by_cases hq : q = j0.toNatClampNeg
        · subst hq
          simp [updV, mm_up]
        · simp [updV, mm_up, hq]
      · intro hck hwf ho
        exact ⟨mm_le.same rfl rfl rfl, hwf.same rfl rfl rfl⟩
      · intro hck hu ho hwf
        exact ho.t.t.t
    · cases h
  · cases h
set_option maxHeartbeats 4000000 in
theorem mm_s_fastore (x1 x2 x3 x4 x5 : Nat) (t : List Nat) : mm_Sd .fastore (x1, x2, x3, x4, x5) t (mm_hfastore) := by
  intro Y μ0 pc len rem L st μ bs os j L2 st2 μ2 bs2 os2 c e2 rem2 r μ1 h hc hn k
  unfold mm_hfastore at h
  split at h
  · next v0 j0 kd a r0 K I J F D Rm nx sl =>
    split at h
    · next len0 hka =>
      cases h
      cases hn
      refine mm_fallM ?_ ?_ ?_ k
      · intro Γ l p e s m args below meth c H locs ls R Q hF hlen hck hd hrm hok hls kk
        cases eq_of_beq hlen
        have hka2 := mm_arr_of (show mm_okk K kd a from hok.2.1.t.t.h) hka
        have h1 := (hok.2.2.1.arr (show mm_okk K kd a from hok.2.1.t.t.h) hka).1
        have ha : K a ≠ 0 := by rw [hka2]; exact (mm_kc_ka hka).2
        refine W.fast hF.1 hF.2.1 h1 ((hF.2.2.2.2.2.2.2.2.2.1.2 2 (by decide)).1 len0 _) (fun q => by cases q) (mm_vp_arr hc) rfl rfl hd fun H2 he hz hoq => kk H2 _ ?_ (hok.2.2.2.1.put hz hoq (mm_Aof hF.2.2.2.2.2.2.2.2.1 hF.2.2.2.2.2.2.2.2.2.2.2.2 hok.2.2.2.2.1 ha))
        refine hok.2.2.1.put hF.2.2.2.2.2.2.2.2.1 hok.2.2.2.2.2 ha rfl rfl (fun n hn j => rfl) (fun n hn j => rfl) (fun n hn j => mm_up_ne hn j) (fun n hn j => rfl) (fun n hn j => rfl) hz hoq (mm_ce_arr hka2 hka ?_)
        rw [he]
        dsimp only
        rw [mm_ac2, mm_ac2, arrV_store]
        congr 2
        funext q
        by_cases hq : q = j0.toNatClampNeg
        · subst hq
          simp [updV, mm_up]
        · simp [updV, mm_up, hq]
      · intro hck hwf ho
        exact ⟨mm_le.same rfl rfl rfl, hwf.same rfl rfl rfl⟩
      · intro hck hu ho hwf
        exact ho.t.t.t
    · cases h
  · cases h
set_option maxHeartbeats 4000000 in
theorem mm_s_dastore (x1 x2 x3 x4 x5 : Nat) (t : List Nat) : mm_Sd .dastore (x1, x2, x3, x4, x5) t (mm_hdastore) := by
  intro Y μ0 pc len rem L st μ bs os j L2 st2 μ2 bs2 os2 c e2 rem2 r μ1 h hc hn k
  unfold mm_hdastore at h
  split at h
  · next v0 j0 kd a r0 K I J F D Rm nx sl =>
    split at h
    · next len0 hka =>
      cases h
      cases hn
      refine mm_fallM ?_ ?_ ?_ k
      · intro Γ l p e s m args below meth c H locs ls R Q hF hlen hck hd hrm hok hls kk
        cases eq_of_beq hlen
        have hka2 := mm_arr_of (show mm_okk K kd a from hok.2.1.t.t.h) hka
        have h1 := (hok.2.2.1.arr (show mm_okk K kd a from hok.2.1.t.t.h) hka).1
        have ha : K a ≠ 0 := by rw [hka2]; exact (mm_kc_ka hka).2
        refine W.dast hF.1 hF.2.1 h1 ((hF.2.2.2.2.2.2.2.2.2.1.2 3 (by decide)).1 len0 _) (fun q => by cases q) (mm_vp_arr hc) rfl rfl hd fun H2 he hz hoq => kk H2 _ ?_ (hok.2.2.2.1.put hz hoq (mm_Aof hF.2.2.2.2.2.2.2.2.1 hF.2.2.2.2.2.2.2.2.2.2.2.2 hok.2.2.2.2.1 ha))
        refine hok.2.2.1.put hF.2.2.2.2.2.2.2.2.1 hok.2.2.2.2.2 ha rfl rfl (fun n hn j => rfl) (fun n hn j => rfl) (fun n hn j => rfl) (fun n hn j => mm_up_ne hn j) (fun n hn j => rfl) hz hoq (mm_ce_arr hka2 hka ?_)
        rw [he]
        dsimp only
        rw [mm_ac3, mm_ac3, arrV_store]
        congr 2
        funext q
        by_cases hq : q = j0.toNatClampNeg
        · subst hq
          simp [updV, mm_up]
        · simp [updV, mm_up, hq]
      · intro hck hwf ho
        exact ⟨mm_le.same rfl rfl rfl, hwf.same rfl rfl rfl⟩
      · intro hck hu ho hwf
        exact ho.t.t.t
    · cases h
  · cases h
