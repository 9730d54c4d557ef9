theorem mm_Fx.wd {Γ : mm_C} {Y : mm_Y} {μ0 : mm_M} {p : Program} {s : State} {m : MethodId} {args : Array Value} {meth : Method} {c : Code} (hF : mm_Fx Γ Y μ0 p s m args meth c) {z : Cond} (h : z ∈ tables_1) (hg : goodWord z = true) : z.before args s = true := hF.2.2.2.2.2.2.2.1 z (mm_tb h hg)
theorem mm_cls_lt {c : Nat} {q : vw_C} (h : mm_cls[c]? = some q) : c < 11 := (List.getElem?_eq_some_iff.mp h).1
theorem mm_fl_in {own : String} {i c k : Nat} (h : (mm_fls.any fun z => decide (z.1 = own) && (z.2.1 == i) && (z.2.2.1 == c) && (z.2.2.2.1 == k)) = true) : ∃ q : vw_C, mm_cls[c]? = some q ∧ k < q.2.2 ∧ Cond.fieldLink own i (q.2.1 k).1 (q.2.1 k).2.1 (q.2.1 k).2.2.1 ∈ tables_1 := by
  obtain ⟨z, hz, h2⟩ := List.any_eq_true.mp h
  simp only [Bool.and_eq_true, decide_eq_true_eq, beq_iff_eq] at h2
  obtain ⟨⟨⟨rfl, rfl⟩, rfl⟩, rfl⟩ := h2
  have h3 := List.all_eq_true.mp mm_flw z hz
  cases hq : mm_cls[z.2.2.1]? with
  | none => rw [hq] at h3; cases h3
  | some q =>
    rw [hq] at h3
    simp only [Bool.and_eq_true, decide_eq_true_eq] at h3
    exact ⟨q, rfl, h3.1, List.mem_of_getElem? h3.2⟩
theorem mm_cl_in {own : String} {i c : Nat} (h : (mm_cls_l.any fun z => decide (z.1 = own) && (z.2.1 == i) && (z.2.2.1 == c)) = true) : ∃ q : vw_C, mm_cls[c]? = some q ∧ Cond.classLink own i q.1 ∈ tables_1 := by
  obtain ⟨z, hz, h2⟩ := List.any_eq_true.mp h
  simp only [Bool.and_eq_true, decide_eq_true_eq, beq_iff_eq] at h2
  obtain ⟨⟨rfl, rfl⟩, rfl⟩ := h2
  have h3 := List.all_eq_true.mp mm_clw z hz
  cases hq : mm_cls[z.2.2.1]? with
  | none => rw [hq] at h3; cases h3
  | some q =>
    rw [hq] at h3
    simp only [decide_eq_true_eq] at h3
    exact ⟨q, rfl, List.mem_of_getElem? h3⟩
theorem mm_lay_in {c : Nat} {q : vw_C} (h : mm_cls[c]? = some q) {z : Cond} (hz : z ∈ u_ws q.1 q.2.1 q.2.2) : z ∈ tables_1 :=
  of_decide_eq_true (List.all_eq_true.mp (List.all_eq_true.mp mm_lays q (List.mem_of_getElem? h)) z hz)
theorem mm_lay_tb {c : Nat} {q : vw_C} (h : mm_cls[c]? = some q) : ∀ z ∈ u_ws q.1 q.2.1 q.2.2, z ∈ mm_tbl := by
  intro z hz
  refine mm_tb (mm_lay_in h hz) ?_
  unfold u_ws at hz
  obtain ⟨k, -, rfl⟩ := List.mem_map.mp hz
  unfold u_lay
  split <;> rfl
theorem mm_nm_ne {c : Nat} {q : vw_C} (h : mm_cls[c]? = some q) : ∀ a, a < q.2.2 → ∀ b, b < q.2.2 → a ≠ b → (q.2.1 a).2.1 ≠ (q.2.1 b).2.1 := by
  intro a ha b hb hab e
  have h1 := List.all_eq_true.mp (List.all_eq_true.mp (List.all_eq_true.mp mm_nms q (List.mem_of_getElem? h)) a (List.mem_range.mpr ha)) b (List.mem_range.mpr hb)
  rw [e] at h1
  simp [hab] at h1
theorem mm_ty_ok {c : Nat} {q : vw_C} (h : mm_cls[c]? = some q) : ∀ k, k < q.2.2 → parseFieldDescriptor (q.2.1 k).2.2.1 = some (mm_cty c k) := by
  intro k hk
  have h1 := List.all_eq_true.mp mm_tys c (List.mem_range.mpr (mm_cls_lt h))
  rw [h] at h1
  exact of_decide_eq_true (List.all_eq_true.mp h1 k (List.mem_range.mpr hk))
theorem mm_tc_ok {c : Nat} {q : vw_C} (h : mm_cls[c]? = some q) : ∀ k, k < q.2.2 → mm_tc (mm_cty c k) (mm_ft c k).1 = true ∧ (mm_ft c k).1 ≤ 6 := by
  intro k hk
  have h1 := List.all_eq_true.mp mm_tcs c (List.mem_range.mpr (mm_cls_lt h))
  rw [h] at h1
  have h2 := (Bool.and_eq_true _ _).mp (List.all_eq_true.mp h1 k (List.mem_range.mpr hk))
  exact ⟨h2.1, Nat.ble_eq.mp h2.2⟩
theorem mm_dc_ok {c : Nat} {q : vw_C} (h : mm_cls[c]? = some q) : ∀ k, k < q.2.2 → (q.2.1 k).1 = q.1 := fun k hk =>
  of_decide_eq_true (List.all_eq_true.mp (List.all_eq_true.mp mm_dcl q (List.mem_of_getElem? h)) k (List.mem_range.mpr hk))
theorem mm_ins_in {c : Nat} {q : vw_C} (h : mm_cls[c]? = some q) : Cond.instantiable q.1 q.2.2 ∈ tables_1 ∧ Cond.initialized q.1 ∈ tables_1 := by
  have h1 := List.all_eq_true.mp mm_insts c (List.mem_range.mpr (mm_cls_lt h))
  rw [h] at h1
  cases hz : mm_ins_w[c]? with
  | none => rw [hz] at h1; cases h1
  | some z =>
    rw [hz] at h1
    simp only [Bool.and_eq_true, decide_eq_true_eq] at h1
    exact ⟨List.mem_of_getElem? h1.1, List.mem_of_getElem? h1.2⟩
theorem mm_kc_fin {c : Nat} (h : c < 11) : mm_kc (c + 1) = some c := by
  unfold mm_kc
  have h1 : Nat.ble 1 (c + 1) = true := Nat.ble_eq.mpr (by omega)
  have h2 : Nat.ble (c + 1) 11 = true := Nat.ble_eq.mpr (by omega)
  rw [h1, h2]
  rfl
theorem mm_kc_raw {c : Nat} (h : c < 11) : mm_kc (c + 21) = some c := by
  unfold mm_kc
  have h2 : Nat.ble (c + 21) 11 = false := by
    cases e : Nat.ble (c + 21) 11 with
    | false => rfl
    | true => have := Nat.ble_eq.mp e; omega
  have h3 : Nat.ble 21 (c + 21) = true := Nat.ble_eq.mpr (by omega)
  have h4 : Nat.ble (c + 21) 31 = true := Nat.ble_eq.mpr (by omega)
  rw [h2, h3, h4, Bool.and_false]
  simp
/-- what a reference to an object says of the memory -/
theorem mm_kc_of {K : Nat → Nat} {kd a c : Nat} (h : mm_okk K kd a) (hk : (Nat.beq kd (c + 1) || Nat.beq kd (c + 21)) = true) (hc : c < 11) : mm_kc (K a) = some c ∧ kd < 90 := by
  have hk : kd = c + 1 ∨ kd = c + 21 := by
    rcases (Bool.or_eq_true _ _).mp hk with g | g
    · exact Or.inl (Nat.eq_of_beq_eq_true g)
    · exact Or.inr (Nat.eq_of_beq_eq_true g)
  rcases h with h | ⟨-, -, h⟩
  · omega
  · rcases h with h | ⟨g1, g2, g3⟩
    · rw [h]
      rcases hk with rfl | rfl
      · exact ⟨mm_kc_fin hc, by omega⟩
      · exact ⟨mm_kc_raw hc, by omega⟩
    · have : K a = c + 1 := by omega
      rw [this]
      exact ⟨mm_kc_fin hc, by omega⟩
theorem mm_fin_of {K : Nat → Nat} {kd a c : Nat} (h : mm_okk K kd a) (hk : kd = c + 1) (hc : c < 11) : K a = c + 1 := by
  rcases h with h | ⟨-, -, h⟩
  · omega
  · rcases h with h | ⟨g1, g2, g3⟩
    · omega
    · omega
theorem mm_Rw.obj {Γ : mm_C} {μ : mm_M} {H : Heap} (hR : mm_Rw Γ μ H) {a c : Nat} (h : mm_kc (μ.1 a) = some c) : ∃ q : vw_C, mm_cls[c]? = some q ∧ t_OB (mm_ad Γ a) (Γ.1 c) q.2.2 (Γ.2.1 c) H (mm_fv (mm_ad Γ) μ c a) := by
  have := hR.2.2 a
  unfold mm_ce at this
  rw [h] at this
  exact this
theorem mm_Rw.tyo {Γ : mm_C} {μ : mm_M} {H : Heap} (hR : mm_Rw Γ μ H) {a c : Nat} (h : mm_kc (μ.1 a) = some c) : (∀ k b, 4 ≤ (mm_ft c k).1 → (mm_ft c k).1 ≤ 6 → μ.2.2.2.2.2.1 a k = some b → μ.1 b = (mm_ft c k).2.1) ∧ (μ.1 a ≤ 11 → ∀ k, ((mm_ft c k).1 = 5 → μ.2.2.2.2.2.1 a k = some (a + (mm_ft c k).2.2)) ∧ ((mm_ft c k).1 = 6 → μ.2.2.2.2.2.1 a k = some (mm_ft c k).2.2)) := by
  have := hR.1.2.2 a
  unfold mm_ty at this
  rw [h] at this
  exact this
theorem mm_kc_ka {kd : Nat} {z : Nat × Nat} (h : mm_ka kd = some z) : mm_kc kd = none ∧ kd ≠ 0 := by
  unfold mm_ka at h
  split at h
  · next hb =>
    have hb := Nat.ble_eq.mp hb
    refine ⟨?_, by omega⟩
    unfold mm_kc
    have h2 : Nat.ble kd 11 = false := by
      cases e : Nat.ble kd 11 with
      | false => rfl
      | true => have := Nat.ble_eq.mp e; omega
    have h3 : Nat.ble kd 31 = false := by
      cases e : Nat.ble kd 31 with
      | false => rfl
      | true => have := Nat.ble_eq.mp e; omega
    rw [h2, h3]
    simp
  · cases h
theorem mm_nth_none {α : Type} : ∀ {l : List α} {k : Nat}, l.length ≤ k → mm_nth l k = none
  | [], _, _ => rfl
  | a :: l, 0, h => by simp at h
  | a :: l, k + 1, h => mm_nth_none (l := l) (k := k) (by simp at h; omega)
theorem mm_ka_hi {kd : Nat} {z : Nat × Nat} (h : mm_ka kd = some z) : 40 ≤ kd ∧ kd < 90 := by
  unfold mm_ka at h
  split at h
  · next hb =>
    have hb := Nat.ble_eq.mp hb
    refine ⟨hb, ?_⟩
    rcases Nat.lt_or_ge kd 90 with g | g
    · exact g
    · have : mm_nth mm_kas (kd - 40) = none := mm_nth_none (by show 26 ≤ _; omega)
      rw [this] at h
      cases h
  · cases h
theorem mm_arr_of {K : Nat → Nat} {kd a : Nat} {z : Nat × Nat} (h : mm_okk K kd a) (hz : mm_ka kd = some z) : K a = kd := by
  have := mm_ka_hi hz
  rcases h with h | ⟨-, -, h⟩
  · omega
  · rcases h with h | h
    · exact h
    · omega
theorem mm_Rw.arr {Γ : mm_C} {μ : mm_M} {H : Heap} (hR : mm_Rw Γ μ H) {kd a : Nat} {z : Nat × Nat} (h : mm_okk μ.1 kd a) (hz : mm_ka kd = some z) : H[mm_ad Γ a]? = some (mm_ac (Γ.2.2.1 z.1) (mm_ad Γ) μ z.1 z.2 a) ∧ (5 ≤ z.1 → ∀ k b, μ.2.2.2.2.2.1 a k = some b → μ.1 b = mm_ek z.1) := by
  have hk := mm_arr_of h hz
  have h1 := hR.2.2 a
  have h2 := hR.1.2.2 a
  unfold mm_ce at h1
  unfold mm_ty at h2
  rw [hk, (mm_kc_ka hz).1] at h1 h2
  dsimp only at h1 h2
  rw [hz] at h1 h2
  exact ⟨h1, h2⟩
theorem mm_vp_arr {j : Int32} {len : Nat} {cA : ClassId} {f : Nat → Value} (h : vp_in j len) : ¬ (j < 0 ∨ (arrV cA len f).slots.size ≤ j.toNatClampNeg) := by
  rw [arrV_size]; exact h
theorem mm_vp_lt {j : Int32} {len : Nat} (h : vp_in j len) : j.toNatClampNeg < len := Nat.not_le.mp fun q => h (Or.inr q)
theorem mm_Aof {Γ : mm_C} (hA : mm_Aw Γ) {μ0 μ : mm_M} (h6 : 6 ≤ mm_nx μ0) (hle : mm_le μ0 μ) {a : Nat} (ha : μ.1 a ≠ 0) : mm_A Γ μ0 (mm_ad Γ a) := mm_A.up hA h6 hle (Or.inl ⟨a, ha, rfl⟩)
theorem mm_acne {p : Program} {l : Launch} {e : Env} {R : Room} {s : State} {m : MethodId} {args : Array Value} {below : List Frame} {meth : Method} {c : Code} {H : Heap} {locs : List Loc} {cells slots : Nat} {Q : State → Prop} {cc : ByteArray} {pc : Nat} {ls : Array Slot} {rest : List Value} (hexec : p.tables.exec = Jvm.exec) (hb : c.code = cc) {rx ry : Option Nat} {off : Int} {tgt : Nat} (hdg : decode cc pc = .ok (.if_acmp .ne off, 3)) (ht : (pc : Int) + off = (tgt : Int)) (kt : ¬ rx = ry → W p l e R s m args below meth c H locs cells slots Q (F0 m tgt ls rest)) (kf : rx = ry → W p l e R s m args below meth c H locs cells slots Q (F0 m (pc + 3) ls rest)) {vx vy : Value} (hx : vx = va_rf rx) (hy : vy = va_rf ry) : W p l e R s m args below meth c H locs cells slots Q (F0 m pc ls (vy :: vx :: rest)) := by
  subst hx; subst hy
  exact lv_acmp_ne hexec hb hdg ht kt kf
theorem mm_s_acne (x1 x2 x3 x4 x5 : Nat) (t : List Nat) (o : Int) : mm_Sd (.if_acmp .ne o) (x1, x2, x3, x4, x5) t (mm_hacne x1) := by
  intro Y μ0 pc len rem L st μ bs os j L2 st2 μ2 bs2 os2 c e2 rem2 r μ1 h hc hn k
  unfold mm_hacne at h
  split at h
  · next kb b ka a r0 =>
    split at h
    · next hkk =>
      rw [Bool.and_eq_true] at hkk
      have hk1 : ka < 90 := Nat.lt_succ_of_le (Nat.ble_eq.mp hkk.1)
      have hk2 : kb < 90 := Nat.lt_succ_of_le (Nat.ble_eq.mp hkk.2)
      split at h
      · cases h
        refine mm_jump ?_ ?_ hn k
        · intro Γ l p e s m args below meth c H locs ls R cells slots Q hF hlen hck hd hok kk
          cases eq_of_beq hlen
          exact mm_acne (rx := some (mm_ad Γ a)) (ry := some (mm_ad Γ b)) hF.1 hF.2.1 hd (of_decide_eq_true hck) (fun _ => kk) (fun z => absurd (mm_ad_inj hF.2.2.2.2.2.2.2.2.1 hok.2 (show mm_okk _ ka a from hok.1.t.h) (show mm_okk _ kb b from hok.1.h) hk1 hk2 (Option.some.inj z)) hc) rfl rfl
        · intro ho
          exact ho.t.t
      · cases h
        cases hn
        refine mm_fall ?_ ?_ k
        · intro Γ l p e s m args below meth c H locs ls R cells slots Q hF hlen hck hd hrm hok hl kk
          cases eq_of_beq hlen
          exact mm_acne (rx := some (mm_ad Γ a)) (ry := some (mm_ad Γ b)) hF.1 hF.2.1 hd (of_decide_eq_true hck) (fun z => absurd (congrArg (fun n => some (mm_ad Γ n)) hc) z) (fun _ => kk _ hl) rfl rfl
        · intro hck hwf hL ho
          exact ⟨hL, ho.t.t⟩
      · cases h
    · cases h
  · cases h
    refine mm_jump ?_ ?_ hn k
    · intro Γ l p e s m args below meth c H locs ls R cells slots Q hF hlen hck hd hok kk
      cases eq_of_beq hlen
      exact mm_acne (rx := some _) (ry := none) hF.1 hF.2.1 hd (of_decide_eq_true hck) (fun _ => kk) (fun z => by cases z) rfl rfl
    · intro ho
      exact ho.t.t
  · cases h
    refine mm_jump ?_ ?_ hn k
    · intro Γ l p e s m args below meth c H locs ls R cells slots Q hF hlen hck hd hok kk
      cases eq_of_beq hlen
      exact mm_acne (rx := none) (ry := some _) hF.1 hF.2.1 hd (of_decide_eq_true hck) (fun _ => kk) (fun z => by cases z) rfl rfl
    · intro ho
      exact ho.t.t
  · cases h
    cases hn
    refine mm_fall ?_ ?_ k
    · intro Γ l p e s m args below meth c H locs ls R cells slots Q hF hlen hck hd hrm hok hl kk
      cases eq_of_beq hlen
      exact mm_acne (rx := none) (ry := none) hF.1 hF.2.1 hd (of_decide_eq_true hck) (fun z => absurd rfl z) (fun _ => kk _ hl) rfl rfl
    · intro hck hwf hL ho
      exact ⟨hL, ho.t.t⟩
  · cases h
theorem mm_nth_get {α : Type} : ∀ (l : List α) (k : Nat), mm_nth l k = l[k]?
  | [], _ => rfl
  | _ :: _, 0 => rfl
  | _ :: l, k + 1 => by rw [mm_nth, mm_nth_get l k]; rfl
theorem mm_nI_toInt {n : Nat} (h : n < 2 ^ 31) : (nI n).toInt = (n : Int) := nI_toInt h
theorem mm_k_tab {own : String} {nm : MethodName} {fr lo ml pc : Nat} {d a b : Int} {os : Array Int} {x1 x2 x3 x4 x5 : Nat} {t : List Nat} (h : mm_ck2 own nm fr lo ml pc (.tableswitch d a b os) x1 x2 x3 x4 x5 t = true) : (pc : Int) + d = (x1 : Int) ∧ a = (x2 : Int) ∧ b = (x3 : Int) ∧ os.toList.map (fun o => (pc : Int) + o) = t.map (fun (n : Nat) => (n : Int)) ∧ t.length = x3 + 1 - x2 ∧ x3 < 1000 := by
  simp only [mm_ck2, Bool.and_eq_true, decide_eq_true_eq] at h
  obtain ⟨⟨⟨⟨⟨h1, h2⟩, h3⟩, h4⟩, h5⟩, h6⟩ := h
  exact ⟨h1, h2, h3, h4, h5, h6⟩
theorem mm_s_tab (x1 x2 x3 x4 x5 : Nat) (t : List Nat) (d a b : Int) (os0 : Array Int) : mm_Sd (.tableswitch d a b os0) (x1, x2, x3, x4, x5) t (mm_htab x1 x2 x3 t) := by
  intro Y μ0 pc len rem L st μ bs os j L2 st2 μ2 bs2 os2 c e2 rem2 r μ1 h hc hn k
  unfold mm_htab at h
  split at h
  · split at h
    · next j0 o2 =>
      split at h
      · next tg htg =>
        cases h
        refine mm_jump ?_ ?_ hn k
        · intro Γ l p e s m args below meth c H locs ls R cells slots Q hF hlen hck hd hok kk
          obtain ⟨h1, h2, h3, h4, h5, h6⟩ := mm_k_tab hck
          rw [mm_nth_get] at htg
          have hj : j0 < t.length := (List.getElem?_eq_some_iff.mp htg).1
          have hv : _ = nI (x2 + j0) := hc
          have hti : (nI (x2 + j0)).toInt = ((x2 + j0 : Nat) : Int) := nI_toInt (by omega)
          have hm : (os0.toList.map (fun o => (pc : Int) + o))[j0]? = some (tg : Int) := by rw [h4, List.getElem?_map, htg]; rfl
          rw [List.getElem?_map] at hm
          cases ho : os0.toList[j0]? with
          | none => rw [ho] at hm; cases hm
          | some off =>
            rw [ho] at hm
            refine lv_tableIn (off := off) hF.1 hF.2.1 hd ?_ ?_ ?_ (Option.some.inj hm) kk
            · rw [hv, hti, h2]; omega
            · rw [hv, hti, h3]; omega
            · rw [hv, hti, h2, show ((x2 + j0 : Nat) : Int) - (x2 : Int) = (j0 : Int) by omega, Int.toNat_natCast, ← Array.getElem?_toList]
              exact ho
        · intro ho
          exact ho.t
      · cases h
    · cases h
      refine mm_jump ?_ ?_ hn k
      · intro Γ l p e s m args below meth c H locs ls R cells slots Q hF hlen hck hd hok kk
        obtain ⟨h1, h2, h3, h4, h5, h6⟩ := mm_k_tab hck
        subst h2; subst h3
        exact lv_tableOut hF.1 hF.2.1 hd hc h1 kk
      · intro ho
        exact ho.t
    · cases h
  · cases h
theorem mm_look_key : ∀ (ps : List (Int × Int)) (pc : Nat) (t : List Nat), ps.flatMap (fun z => [z.1, (pc : Int) + z.2]) = t.map (fun (n : Nat) => (n : Int)) → ∀ (j a : Nat), t[j + j]? = some a → ∃ z ∈ ps, z.1 = (a : Int)
  | [], pc, t, h, j, a, h1 => by
    have : t = [] := by cases t with | nil => rfl | cons => simp at h
    subst this
    simp at h1
  | (k, off) :: ps, pc, t, h, j, a, h1 => by
    rcases t with _ | ⟨t0, _ | ⟨t1, t⟩⟩
    · simp at h
    · simp at h
    · simp only [List.flatMap_cons, List.cons_append, List.nil_append, List.map_cons, List.cons.injEq] at h
      cases j with
      | zero =>
        simp at h1
        subst h1
        exact ⟨(k, off), List.mem_cons_self, h.1⟩
      | succ j =>
        have e1 : j + 1 + (j + 1) = (j + j) + 2 := by omega
        rw [e1] at h1
        simp only [List.getElem?_cons_succ] at h1
        obtain ⟨z, hz, hz2⟩ := mm_look_key ps pc t h.2.2 j a h1
        exact ⟨z, List.mem_cons_of_mem _ hz, hz2⟩
theorem mm_look_in : ∀ (ps : List (Int × Int)) (pc : Nat) (t : List Nat) (d : Int), ps.flatMap (fun z => [z.1, (pc : Int) + z.2]) = t.map (fun (n : Nat) => (n : Int)) → ps.Pairwise (fun a b => a.1 < b.1) → ∀ (j a tg : Nat), t[j + j]? = some a → t[j + j + 1]? = some tg → ∃ off, Op.lookupswitch.offset ps d (a : Int) = off ∧ (pc : Int) + off = (tg : Int)
  | [], pc, t, d, h, hp, j, a, tg, h1, h2 => by
    have : t = [] := by cases t with | nil => rfl | cons => simp at h
    subst this
    simp at h1
  | (k, off) :: ps, pc, t, d, h, hp, j, a, tg, h1, h2 => by
    rcases t with _ | ⟨t0, _ | ⟨t1, t⟩⟩
    · simp at h
    · simp at h
    · simp only [List.flatMap_cons, List.cons_append, List.nil_append, List.map_cons, List.cons.injEq] at h
      cases j with
      | zero =>
        simp at h1 h2
        subst h1; subst h2
        refine ⟨off, ?_, h.2.1⟩
        rw [← h.1]
        simp [Op.lookupswitch.offset]
      | succ j =>
        have e1 : j + 1 + (j + 1) = (j + j) + 2 := by omega
        rw [e1] at h1 h2
        simp only [List.getElem?_cons_succ] at h1 h2
        obtain ⟨o2, g1, g2⟩ := mm_look_in ps pc t d h.2.2 (List.pairwise_cons.mp hp).2 j a tg h1 h2
        refine ⟨o2, ?_, g2⟩
        rw [← g1]
        have hne : ¬ (a : Int) = k := by
          intro e
          have hm : ((a : Nat) : Int) ∈ t.map (fun (n : Nat) => (n : Int)) := List.mem_map.mpr ⟨a, List.mem_of_getElem? h1, rfl⟩
          have ha : ∃ z ∈ ps, z.1 = (a : Int) := mm_look_key ps pc t h.2.2 j a h1
          obtain ⟨z, hz, hz2⟩ := ha
          have := (List.pairwise_cons.mp hp).1 z hz
          omega
        simp [Op.lookupswitch.offset, Ne.symm hne, hne]

theorem mm_look_out : ∀ (ps : List (Int × Int)) (pc : Nat) (t : List Nat) (d : Int) (v : Int32), ps.flatMap (fun z => [z.1, (pc : Int) + z.2]) = t.map (fun (n : Nat) => (n : Int)) → (∀ z ∈ ps, 0 ≤ z.1 ∧ z.1 < 1000) → mm_lkn t v → Op.lookupswitch.offset ps d v.toInt = d
  | [], pc, t, d, v, h, hs, hv => by simp [Op.lookupswitch.offset]
  | (k, off) :: ps, pc, t, d, v, h, hs, hv => by
    rcases t with _ | ⟨t0, _ | ⟨t1, t⟩⟩
    · simp at h
    · simp at h
    · simp only [List.flatMap_cons, List.cons_append, List.nil_append, List.map_cons, List.cons.injEq] at h
      have hk := hs (k, off) List.mem_cons_self
      dsimp only at hk
      have ht : (nI t0).toInt = (t0 : Int) := nI_toInt (by omega)
      have hne : ¬ v.toInt = k := by
        intro e
        refine hv.1 (Int32.toInt_inj.mp ?_)
        rw [ht, e]
        exact h.1
      have ih := mm_look_out ps pc t d v h.2.2 (fun z hz => hs z (List.mem_cons_of_mem _ hz)) hv.2
      simp [Op.lookupswitch.offset, Ne.symm hne, hne]
      exact ih
theorem mm_zip_pw : ∀ (ps : List (Int × Int)), (ps.zip (ps.drop 1)).all (fun (a, next) => a.1 < next.1) = true → ps.Pairwise (fun a b => a.1 < b.1)
  | [], _ => List.Pairwise.nil
  | [a], _ => List.pairwise_singleton _ _
  | a :: b :: l, h => by
    simp only [List.drop_succ_cons, List.drop_zero, List.zip_cons_cons, List.all_cons, Bool.and_eq_true, decide_eq_true_eq] at h
    have ih := mm_zip_pw (b :: l) (by simpa using h.2)
    refine List.pairwise_cons.mpr ⟨fun z hz => ?_, ih⟩
    rcases List.mem_cons.mp hz with e | e
    · rw [e]; exact h.1
    · exact Int.lt_trans h.1 ((List.pairwise_cons.mp ih).1 z e)
theorem mm_k_look {own : String} {nm : MethodName} {fr lo ml pc : Nat} {d : Int} {ps : Array (Int × Int)} {x1 x2 x3 x4 x5 : Nat} {t : List Nat} (h : mm_ck2 own nm fr lo ml pc (.lookupswitch d ps) x1 x2 x3 x4 x5 t = true) : (pc : Int) + d = (x1 : Int) ∧ ps.toList.flatMap (fun z => [z.1, (pc : Int) + z.2]) = t.map (fun (n : Nat) => (n : Int)) ∧ (ps.toList.zip (ps.toList.drop 1)).all (fun (a, next) => a.1 < next.1) = true ∧ ∀ z ∈ ps.toList, 0 ≤ z.1 ∧ z.1 < 1000 := by
  simp only [mm_ck2, Bool.and_eq_true, decide_eq_true_eq] at h
  obtain ⟨⟨⟨h1, h2⟩, h3⟩, h4⟩ := h
  refine ⟨h1, h2, h3, fun z hz => ?_⟩
  have := List.all_eq_true.mp h4 z hz
  simp only [Bool.and_eq_true, decide_eq_true_eq] at this
  exact this
theorem mm_s_look (x1 x2 x3 x4 x5 : Nat) (t : List Nat) (d : Int) (ps : Array (Int × Int)) : mm_Sd (.lookupswitch d ps) (x1, x2, x3, x4, x5) t (mm_hlook x1 t) := by
  intro Y μ0 pc len rem L st μ bs os j L2 st2 μ2 bs2 os2 c e2 rem2 r μ1 h hc hn k
  unfold mm_hlook at h
  split at h
  · split at h
    · next j0 o2 =>
      split at h
      · next a tg ha htg =>
        cases h
        refine mm_jump ?_ ?_ hn k
        · intro Γ l p e s m args below meth c H locs ls R cells slots Q hF hlen hck hd hok kk
          obtain ⟨h1, h2, h3, h4⟩ := mm_k_look hck
          rw [mm_nth_get] at ha htg
          have hv : _ = nI a := hc
          obtain ⟨off, g1, g2⟩ := mm_look_in ps.toList pc t d h2 (mm_zip_pw _ h3) j0 a tg ha htg
          obtain ⟨z, hz, hz2⟩ := mm_look_key ps.toList pc t h2 j0 a ha
          have hz3 := h4 z hz
          have hti : (nI a).toInt = (a : Int) := nI_toInt (by omega)
          exact lv_lookup hF.1 hF.2.1 hd h3 (by rw [hv, hti]; exact g1) g2 kk
        · intro ho
          exact ho.t
      · cases h
    · cases h
      refine mm_jump ?_ ?_ hn k
      · intro Γ l p e s m args below meth c H locs ls R cells slots Q hF hlen hck hd hok kk
        obtain ⟨h1, h2, h3, h4⟩ := mm_k_look hck
        exact lv_lookup hF.1 hF.2.1 hd h3 (mm_look_out ps.toList pc t d _ h2 h4 hc) h1 kk
      · intro ho
        exact ho.t
    · cases h
  · cases h
