/-! calls inlined; numbers -/
def mm_tk : Nat → List mm_V → List mm_V → Option (List mm_V × List mm_V)
  | 0, st, acc => some (acc, st)
  | n + 1, v :: st, acc => mm_tk n st (v :: acc)
  | _ + 1, [], _ => none
theorem mm_tk_spec : ∀ (n : Nat) (st acc c s2 : List mm_V), mm_tk n st acc = some (c, s2) → ∃ m : List mm_V, m.length = n ∧ st = m ++ s2 ∧ c = m.reverse ++ acc
  | 0, st, acc, c, s2, h => by cases h; exact ⟨[], rfl, rfl, rfl⟩
  | n + 1, [], acc, c, s2, h => by cases h
  | n + 1, v :: st, acc, c, s2, h => by
    obtain ⟨m, h1, h2, h3⟩ := mm_tk_spec n st (v :: acc) c s2 h
    exact ⟨v :: m, by rw [List.length_cons, h1], by rw [h2]; rfl, by rw [h3, List.reverse_cons, List.append_assoc]; rfl⟩
theorem mm_tk_e {n : Nat} {st c s2 : List mm_V} (h : mm_tk n st [] = some (c, s2)) : c.length = n ∧ st = c.reverse ++ s2 := by
  obtain ⟨m, h1, h2, h3⟩ := mm_tk_spec n st [] c s2 h
  rw [List.append_nil] at h3
  subst h3
  exact ⟨by rw [List.length_reverse, h1], by rw [List.reverse_reverse, h2]⟩
theorem ev_inS {Y Yc : mm_Y} {μ0 : mm_M} {pc idx : Nat} {x : mm_X} {t : List Nat} {e2 : mm_E} {rem : List mm_E} {L L2 : mm_L} {st st2 : List mm_V} {μ : mm_M} {cargs : List mm_V} {Post : Option mm_V → mm_M → Prop} (n : Nat) (hlk : mm_lkS (mm_ow Y) idx Yc n) (hk : mm_ok Yc) (ht : mm_tk n st [] = some (cargs, st2)) (hL : mm_ent 0 cargs = some L2) (hm : Nat.ble (mm_cs cargs) (mm_ml Yc) = true) (hn : (mm_nm Yc).cls = mm_ow Yc) (hrm : mm_rmk Y Yc) (hcs : Nat.ble (mm_cs st2) 8 = true) (k : Ev Yc μ (mm_co Yc) L2 [] μ (fun r μ2 => Ev Y μ0 (e2 :: rem) L (r.toList ++ st2) μ2 Post)) : Ev Y μ0 ((pc, .invokestatic idx, 3, x, t) :: e2 :: rem) L st μ Post := by
  obtain ⟨h1, h2⟩ := mm_tk_e ht
  exact ev_callS (by rw [h1]; exact hlk) (ct_of hk hL hm hn k) h2 hrm hcs (fun r μ2 h => h)
theorem ev_inV {Y Yc : mm_Y} {μ0 : mm_M} {pc idx : Nat} {x : mm_X} {t : List Nat} {e2 : mm_E} {rem : List mm_E} {L L2 : mm_L} {st st2 : List mm_V} {μ : mm_M} {c0 kd a : Nat} {cargs : List mm_V} {Post : Option mm_V → mm_M → Prop} (n : Nat) (hlk : mm_lkV (mm_ow Y) idx Yc n c0) (hk : mm_ok Yc) (ht : mm_tk n st [] = some (cargs, vr kd a :: st2)) (hL : mm_ent 0 (vr kd a :: cargs) = some L2) (hm : Nat.ble (mm_cs (vr kd a :: cargs)) (mm_ml Yc) = true) (hn : (mm_nm Yc).cls = mm_ow Yc) (hkd : (Nat.beq kd (c0 + 1) || Nat.beq kd (c0 + 21)) = true) (hrm : mm_rmk Y Yc) (hcs : Nat.ble (mm_cs st2) 8 = true) (k : Ev Yc μ (mm_co Yc) L2 [] μ (fun r μ2 => Ev Y μ0 (e2 :: rem) L (r.toList ++ st2) μ2 Post)) : Ev Y μ0 ((pc, .invokevirtual idx, 3, x, t) :: e2 :: rem) L st μ Post := by
  obtain ⟨h1, h2⟩ := mm_tk_e ht
  exact ev_callV (by rw [h1]; exact hlk) (ct_of hk hL hm hn k) hkd h2 hrm hcs (fun r μ2 h => h)
theorem v_in {n N : Nat} (hn : n < 10000) : vp_in (nI n) N ↔ n < N := by
  unfold vp_in
  rw [n_cl hn]
  have := n_lt0 hn
  constructor
  · intro h; apply Nat.lt_of_not_le; intro g; exact h (Or.inr g)
  · intro h g
    rcases g with g | g
    · exact this g
    · omega
theorem up_eq {α : Type} {f : Nat → Nat → α} {n k : Nat} {v : α} {a j : Nat} (h : a = n ∧ j = k) : mm_up f n k v a j = v := if_pos h
theorem up_ne {α : Type} {f : Nat → Nat → α} {n k : Nat} {v : α} {a j : Nat} (h : ¬ (a = n ∧ j = k)) : mm_up f n k v a j = f a j := if_neg h
theorem i_sl (y : Int32) : (y &&& nI 31) &&& 31 = y &&& 31 := by
  rw [show nI 31 = (31 : Int32) from by decide, Int32.and_assoc, Int32.and_self]
theorem i_l1 : (lN 18446744073709551615 : Int64) = (-(nI 1)).toInt64 := by decide
theorem i_l2 : (lN 1 : Int64) = (nI 1).toInt64 := by decide
theorem i_l3 : (lN 0 : Int64) = (nI 0).toInt64 := by decide
theorem i_m1 : ¬ (-(nI 1) : Int32) = 0 := by decide
theorem ev_g0 {Y : mm_Y} {μ0 : mm_M} {rem : List mm_E} {L : mm_L} {st : List mm_V} {μ : mm_M} {Post : Option mm_V → mm_M → Prop} {e2 : mm_E} {rem2 : List mm_E} {L2 : mm_L} {st2 : List mm_V} {μ2 : mm_M} (h : mm_go 5000 (mm_co Y) rem L st μ [] [] True = some (e2 :: rem2, L2, st2, μ2, True)) (k : Ev Y μ0 (e2 :: rem2) L2 st2 μ2 Post) : Ev Y μ0 rem L st μ Post := ev_go [] [] h trivial k
theorem ev_kS {Y Yc : mm_Y} {μ0 : mm_M} {pc idx : Nat} {x : mm_X} {t : List Nat} {e2 : mm_E} {rem : List mm_E} {L : mm_L} {st st2 : List mm_V} {μ μ2 : mm_M} {r : Option mm_V} {cargs : List mm_V} {Post : Option mm_V → mm_M → Prop} (n : Nat) (hlk : mm_lkS (mm_ow Y) idx Yc n) (ht : mm_tk n st [] = some (cargs, st2)) (hD : mm_Det Yc cargs μ r μ2) (hrm : mm_rmk Y Yc) (hcs : Nat.ble (mm_cs st2) 8 = true) (k : Ev Y μ0 (e2 :: rem) L (r.toList ++ st2) μ2 Post) : Ev Y μ0 ((pc, .invokestatic idx, 3, x, t) :: e2 :: rem) L st μ Post := by
  obtain ⟨h1, h2⟩ := mm_tk_e ht
  exact ev_callS (by rw [h1]; exact hlk) (ct_det hD) h2 hrm hcs (fun r3 μ3 h => by obtain ⟨rfl, rfl⟩ := h; exact k)
theorem ev_kV {Y Yc : mm_Y} {μ0 : mm_M} {pc idx : Nat} {x : mm_X} {t : List Nat} {e2 : mm_E} {rem : List mm_E} {L : mm_L} {st st2 : List mm_V} {μ μ2 : mm_M} {r : Option mm_V} {c0 kd a : Nat} {cargs : List mm_V} {Post : Option mm_V → mm_M → Prop} (n : Nat) (hlk : mm_lkV (mm_ow Y) idx Yc n c0) (ht : mm_tk n st [] = some (cargs, vr kd a :: st2)) (hD : mm_Det Yc (vr kd a :: cargs) μ r μ2) (hkd : (Nat.beq kd (c0 + 1) || Nat.beq kd (c0 + 21)) = true) (hrm : mm_rmk Y Yc) (hcs : Nat.ble (mm_cs st2) 8 = true) (k : Ev Y μ0 (e2 :: rem) L (r.toList ++ st2) μ2 Post) : Ev Y μ0 ((pc, .invokevirtual idx, 3, x, t) :: e2 :: rem) L st μ Post := by
  obtain ⟨h1, h2⟩ := mm_tk_e ht
  exact ev_callV (by rw [h1]; exact hlk) (ct_det hD) hkd h2 hrm hcs (fun r3 μ3 h => by obtain ⟨rfl, rfl⟩ := h; exact k)
