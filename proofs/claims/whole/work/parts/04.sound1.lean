theorem mm_nth_some {α : Type} : ∀ {l : List α} {k : Nat} {a : α}, mm_nth l k = some a → a ∈ l
  | [], _, _, h => by cases h
  | b :: l, 0, a, h => by cases h; exact List.mem_cons_self
  | b :: l, k + 1, a, h => List.mem_cons_of_mem _ (mm_nth_some (l := l) (k := k) h)
theorem mm_fts_ok : (mm_fts.all fun l => l.all fun z => !(Nat.ble 4 z.1 && Nat.ble z.1 6) || (!(z.2.1 == 0) && Nat.blt z.2.1 90)) = true := by decide +kernel
theorem mm_ft_lt (c k : Nat) (h1 : 4 ≤ (mm_ft c k).1) (h2 : (mm_ft c k).1 ≤ 6) : (mm_ft c k).2.1 ≠ 0 ∧ (mm_ft c k).2.1 < 90 := by
  unfold mm_ft at h1 h2 ⊢
  cases hl : mm_nth mm_fts c with
  | none => rw [hl] at h2; dsimp only at h2; omega
  | some l =>
    rw [hl] at h1 h2
    dsimp only at h1 h2 ⊢
    cases hz : mm_nth l k with
    | none => rw [hz] at h2; simp at h2
    | some z =>
      rw [hz] at h1 h2
      simp only [Option.getD_some] at h1 h2 ⊢
      have := List.all_eq_true.mp (List.all_eq_true.mp mm_fts_ok l (mm_nth_some hl)) z (mm_nth_some hz)
      simp [Nat.blt] at this
      have g1 : Nat.ble 4 z.1 = true := Nat.ble_eq.mpr h1
      have g2 : Nat.ble z.1 6 = true := Nat.ble_eq.mpr h2
      rw [g1, g2] at this
      simp at this
      omega
theorem mm_ft_ne (c k : Nat) (h1 : 4 ≤ (mm_ft c k).1) (h2 : (mm_ft c k).1 ≤ 6) : (mm_ft c k).2.1 ≠ 0 := (mm_ft_lt c k h1 h2).1
theorem mm_fts_nr : (mm_fts.all fun l => l.all fun z => !(Nat.ble 4 z.1 && Nat.ble z.1 6) || !(Nat.ble 21 z.2.1 && Nat.ble z.2.1 31)) = true := by decide +kernel
theorem mm_ft_nr (c k : Nat) (h1 : 4 ≤ (mm_ft c k).1) (h2 : (mm_ft c k).1 ≤ 6) : ¬ (21 ≤ (mm_ft c k).2.1 ∧ (mm_ft c k).2.1 ≤ 31) := by
  unfold mm_ft at h1 h2 ⊢
  cases hl : mm_nth mm_fts c with
  | none => rw [hl] at h2; dsimp only at h2; omega
  | some l =>
    rw [hl] at h1 h2
    dsimp only at h1 h2 ⊢
    cases hz : mm_nth l k with
    | none => rw [hz] at h2; simp at h2
    | some z =>
      rw [hz] at h1 h2
      simp only [Option.getD_some] at h1 h2 ⊢
      have := List.all_eq_true.mp (List.all_eq_true.mp mm_fts_nr l (mm_nth_some hl)) z (mm_nth_some hz)
      have g1 : Nat.ble 4 z.1 = true := Nat.ble_eq.mpr h1
      have g2 : Nat.ble z.1 6 = true := Nat.ble_eq.mpr h2
      rw [g1, g2] at this
      intro g
      rw [Nat.ble_eq.mpr g.1, Nat.ble_eq.mpr g.2] at this
      simp at this
theorem mm_kas_ok : (mm_kas.all fun z => Nat.blt z.1 8 && Nat.ble z.2 2000) = true := by decide +kernel
theorem mm_ka_lt {kd : Nat} {z : Nat × Nat} (h : mm_ka kd = some z) : z.1 < 8 ∧ z.2 ≤ 2000 := by
  unfold mm_ka at h
  split at h
  · have := List.all_eq_true.mp mm_kas_ok z (mm_nth_some h)
    simp at this
    exact this
  · cases h
theorem mm_ek_ne {kd : Nat} {z : Nat × Nat} (h : mm_ka kd = some z) (h5 : 5 ≤ z.1) : mm_ek z.1 ≠ 0 := by
  have h8 := (mm_ka_lt h).1
  unfold mm_ek
  have : z.1 = 5 ∨ z.1 = 6 ∨ z.1 = 7 := by omega
  rcases this with e | e | e <;> rw [e] <;> decide
theorem mm_ek_nr {kd : Nat} {z : Nat × Nat} (h : mm_ka kd = some z) (h5 : 5 ≤ z.1) : ¬ (21 ≤ mm_ek z.1 ∧ mm_ek z.1 ≤ 31) := by
  have h8 := (mm_ka_lt h).1
  unfold mm_ek
  have : z.1 = 5 ∨ z.1 = 6 ∨ z.1 = 7 := by omega
  rcases this with e | e | e <;> rw [e] <;> decide
/-! the small machine against the machine: worlds -/
abbrev mm_C : Type := (Nat → ClassId) × (Nat → Nat → Nat) × (Nat → ClassId) × (Nat → Nat) × Nat
def mm_ad (Γ : mm_C) : Nat → Nat := Γ.2.2.2.1
def mm_nx (μ : mm_M) : Nat := μ.2.2.2.2.2.2.1
def mm_sz (μ : mm_M) : Nat := μ.2.2.2.2.2.2.2
def mm_tr (ad : Nat → Nat) : mm_V → Value
  | .inl q => .ref (ad q.2)
  | .inr v => v
def mm_tL (ad : Nat → Nat) (L : mm_L) : List (Nat × Value) := L.map fun q => (q.1, mm_tr ad q.2)
def mm_Aw (Γ : mm_C) : Prop := (∀ n m, 6 ≤ n → n < m → mm_ad Γ n < mm_ad Γ m) ∧ ∀ n, n < 6 → mm_ad Γ n < mm_ad Γ 6
/-- numbers go on as the heap does: what making something asks for -/
def mm_Lw (Γ : mm_C) : Prop := ∀ n, 6 ≤ n → mm_ad Γ (n + 1) = mm_ad Γ n + 1
def mm_Sw (Γ : mm_C) (U : State) : Prop := (∀ (c : Nat) (q : vw_C), mm_cls[c]? = some q → u_Kn U q.1 q.2.1 q.2.2 (Γ.1 c) (Γ.2.1 c)) ∧ ∀ et, et < 8 → ArrOfT U (Γ.2.2.1 et) (mm_ety et) ∧ va_RA U (Γ.2.2.1 et) (mm_ety et) ∧ ∀ C, mm_ety et = .object C → va_AO C U
theorem mm_Sw.moved {Γ : mm_C} {u U : State} (hvm : u.vm.Alike U.vm) (h : mm_Sw Γ u) : mm_Sw Γ U := ⟨fun c q hq => u_Kn_moved hvm (h.1 c q hq), fun et he => ⟨arrOfT_moved hvm (h.2 et he).1, (h.2 et he).2.1.moved hvm, fun C hC => ((h.2 et he).2.2 C hC).moved hvm⟩⟩
def mm_A (Γ : mm_C) (μ0 : mm_M) : Nat → Prop := fun q => (∃ n, μ0.1 n ≠ 0 ∧ q = mm_ad Γ n) ∨ mm_ad Γ (mm_nx μ0) ≤ q
def mm_Zw (Γ : mm_C) (A : Nat → Prop) (U : State) (H : Heap) : Prop := ∀ (j : Nat) (n : String), mm_sn[j]? = some n → va_Z "MachineWitness$Shapes" n "[I" (.ref (mm_ad Γ j)) A U H ∧ va_T .int (mm_ad Γ j) (mm_len j) (fun i => .int (mm_sv j i)) A U H
def mm_fv (ad : Nat → Nat) (μ : mm_M) (c n k : Nat) : Value := match (mm_ft c k).1 with
  | 0 => .int (μ.2.1 n k)
  | 1 => .long (μ.2.2.1 n k)
  | 2 => .float (μ.2.2.2.1 n k)
  | 3 => .double (μ.2.2.2.2.1 n k)
  | _ => va_rf ((μ.2.2.2.2.2.1 n k).map ad)
def mm_ac (cA : ClassId) (ad : Nat → Nat) (μ : mm_M) (et len n : Nat) : Cell := match et with
  | 0 => arrV cA len (fun j => .int (μ.2.1 n j))
  | 1 => arrV cA len (fun j => .long (μ.2.2.1 n j))
  | 2 => arrV cA len (fun j => .float (μ.2.2.2.1 n j))
  | 3 => arrV cA len (fun j => .double (μ.2.2.2.2.1 n j))
  | 4 => arrV cA len (fun j => .int (μ.2.1 n j))
  | _ => arrV cA len (fun j => va_rf ((μ.2.2.2.2.2.1 n j).map ad))
def mm_ce (Γ : mm_C) (μ : mm_M) (H : Heap) (n : Nat) : Prop := match mm_kc (μ.1 n) with
  | some c => ∃ q : vw_C, mm_cls[c]? = some q ∧ t_OB (mm_ad Γ n) (Γ.1 c) q.2.2 (Γ.2.1 c) H (mm_fv (mm_ad Γ) μ c n)
  | none => match mm_ka (μ.1 n) with
    | some z => H[mm_ad Γ n]? = some (mm_ac (Γ.2.2.1 z.1) (mm_ad Γ) μ z.1 z.2 n)
    | none => True
def mm_ty (K : Nat → Nat) (R : Nat → Nat → Option Nat) (n : Nat) : Prop := match mm_kc (K n) with
  | some c => (∀ k b, 4 ≤ (mm_ft c k).1 → (mm_ft c k).1 ≤ 6 → R n k = some b → K b = (mm_ft c k).2.1) ∧ (K n ≤ 11 → ∀ k, ((mm_ft c k).1 = 5 → R n k = some (n + (mm_ft c k).2.2)) ∧ ((mm_ft c k).1 = 6 → R n k = some (mm_ft c k).2.2))
  | none => match mm_ka (K n) with
    | some z => 5 ≤ z.1 → ∀ k b, R n k = some b → K b = mm_ek z.1
    | none => True
/-- the memory is well formed: kinds below nx, references of their kinds -/
def mm_wf (μ : mm_M) : Prop := 6 ≤ mm_nx μ ∧ (∀ n, μ.1 n ≠ 0 → 6 ≤ n ∧ n < mm_nx μ) ∧ ∀ n, mm_ty μ.1 μ.2.2.2.2.2.1 n
def mm_Rw (Γ : mm_C) (μ : mm_M) (H : Heap) : Prop := mm_wf μ ∧ H.size = mm_ad Γ (mm_nx μ) ∧ ∀ n, mm_ce Γ μ H n
/-- kinds grow: from 'being made' to 'made' -/
def mm_kle (a b : Nat) : Prop := b = a ∨ (21 ≤ a ∧ a ≤ 31 ∧ b + 20 = a)
def mm_le (μ μ1 : mm_M) : Prop := mm_nx μ ≤ mm_nx μ1 ∧ mm_sz μ ≤ mm_sz μ1 ∧ (∀ n, μ.1 n ≠ 0 → mm_kle (μ.1 n) (μ1.1 n)) ∧ ∀ n, μ1.1 n ≠ 0 → μ.1 n ≠ 0 ∨ mm_nx μ ≤ n
def mm_okk (K : Nat → Nat) (kd n : Nat) : Prop := (90 ≤ kd ∧ kd = 90 + n ∧ n < 6) ∨ (kd ≠ 0 ∧ kd < 90 ∧ mm_kle kd (K n))
def mm_okv (K : Nat → Nat) : mm_V → Prop
  | .inl q => mm_okk K q.1 q.2
  | .inr v => ∀ a, v ≠ .ref a
def mm_okl (K : Nat → Nat) : List mm_V → Prop
  | [] => True
  | v :: l => mm_okv K v ∧ mm_okl K l
def mm_okL (K : Nat → Nat) (L : mm_L) : Prop := ∀ q ∈ L, mm_okv K q.2
def mm_okr (K : Nat → Nat) (r : Option mm_V) : Prop := ∀ v, r = some v → mm_okv K v
theorem mm_kle.rf (a : Nat) : mm_kle a a := Or.inl rfl
theorem mm_kle.ne {a b : Nat} (h : mm_kle a b) (ha : a ≠ 0) : b ≠ 0 := by
  rcases h with h | h <;> omega
theorem mm_kle.tr {a b c : Nat} (h : mm_kle a b) (h2 : mm_kle b c) : mm_kle a c := by
  unfold mm_kle at *
  omega
theorem mm_le.rf (μ : mm_M) : mm_le μ μ := ⟨Nat.le_refl _, Nat.le_refl _, fun _ _ => mm_kle.rf _, fun _ h => Or.inl h⟩
theorem mm_le.tr {a b c : mm_M} (h : mm_le a b) (h2 : mm_le b c) : mm_le a c := ⟨Nat.le_trans h.1 h2.1, Nat.le_trans h.2.1 h2.2.1, fun n hn => (h.2.2.1 n hn).tr (h2.2.2.1 n ((h.2.2.1 n hn).ne hn)), fun n hn => by
  rcases h2.2.2.2 n hn with h3 | h3
  · exact h.2.2.2 n h3
  · exact Or.inr (Nat.le_trans h.1 h3)⟩
theorem mm_le.same {μ μ1 : mm_M} (hk : μ1.1 = μ.1) (hn : mm_nx μ1 = mm_nx μ) (hs : mm_sz μ1 = mm_sz μ) : mm_le μ μ1 := ⟨by rw [hn]; exact Nat.le_refl _, by rw [hs]; exact Nat.le_refl _, fun n _ => by rw [hk]; exact mm_kle.rf _, fun n h => by rw [hk] at h; exact Or.inl h⟩
theorem mm_okk.up {μ μ1 : mm_M} (h : mm_le μ μ1) {kd n : Nat} (ho : mm_okk μ.1 kd n) : mm_okk μ1.1 kd n := by
  rcases ho with ho | ⟨h1, h2, h3⟩
  · exact Or.inl ho
  · exact Or.inr ⟨h1, h2, h3.tr (h.2.2.1 n (h3.ne h1))⟩
theorem mm_okv.up {μ μ1 : mm_M} (h : mm_le μ μ1) {v : mm_V} (ho : mm_okv μ.1 v) : mm_okv μ1.1 v := by
  cases v with
  | inl q => exact mm_okk.up h ho
  | inr v => exact ho
theorem mm_okl.up {μ μ1 : mm_M} (h : mm_le μ μ1) : ∀ {l : List mm_V}, mm_okl μ.1 l → mm_okl μ1.1 l
  | [], _ => trivial
  | _ :: _, ho => ⟨ho.1.up h, mm_okl.up h ho.2⟩
theorem mm_okL.up {μ μ1 : mm_M} (h : mm_le μ μ1) {L : mm_L} (ho : mm_okL μ.1 L) : mm_okL μ1.1 L := fun q hq => (ho q hq).up h
theorem mm_okl.mem {K : Nat → Nat} : ∀ {l : List mm_V}, mm_okl K l → ∀ v ∈ l, mm_okv K v
  | [], _, v, h => by cases h
  | a :: l, ho, v, h => by
    rcases List.mem_cons.mp h with h | h
    · rw [h]; exact ho.1
    · exact mm_okl.mem ho.2 v h
theorem mm_okl.app {K : Nat → Nat} : ∀ {a b : List mm_V}, mm_okl K (a ++ b) → mm_okl K a ∧ mm_okl K b
  | [], _, h => ⟨trivial, h⟩
  | _ :: _, _, h => ⟨⟨h.1, (mm_okl.app h.2).1⟩, (mm_okl.app h.2).2⟩
theorem mm_A.up {Γ : mm_C} (hA : mm_Aw Γ) {μ μ1 : mm_M} (h6 : 6 ≤ mm_nx μ) (h : mm_le μ μ1) {q : Nat} (hq : mm_A Γ μ1 q) : mm_A Γ μ q := by
  rcases hq with ⟨n, hn, rfl⟩ | hq
  · rcases h.2.2.2 n hn with h3 | h3
    · exact Or.inl ⟨n, h3, rfl⟩
    · refine Or.inr ?_
      rcases Nat.eq_or_lt_of_le h3 with e | e
      · rw [e]; exact Nat.le_refl _
      · exact Nat.le_of_lt (hA.1 _ _ h6 e)
  · refine Or.inr (Nat.le_trans ?_ hq)
    rcases Nat.eq_or_lt_of_le h.1 with e | e
    · rw [e]; exact Nat.le_refl _
    · exact Nat.le_of_lt (hA.1 _ _ h6 e)
theorem mm_Zw.go {Γ : mm_C} {A B : Nat → Prop} {u U : State} {H H1 : Heap} (hvm : u.vm.Alike U.vm) (hq : ∀ a : Nat, a < H.size → ¬ A a → H1[a]? = H[a]?) (hAB : ∀ q, B q → A q) (h : mm_Zw Γ A u H) : mm_Zw Γ B U H1 := fun j n hj =>
  ⟨(((h j n hj).1.moved hvm).kept hq).narrow hAB, (((h j n hj).2.moved hvm).kept hq).narrow hAB⟩
theorem mm_fv_eq {ad : Nat → Nat} {μ μ1 : mm_M} {n : Nat} (hI : ∀ j, μ1.2.1 n j = μ.2.1 n j) (hJ : ∀ j, μ1.2.2.1 n j = μ.2.2.1 n j) (hF : ∀ j, μ1.2.2.2.1 n j = μ.2.2.2.1 n j) (hD : ∀ j, μ1.2.2.2.2.1 n j = μ.2.2.2.2.1 n j) (hR : ∀ j, μ1.2.2.2.2.2.1 n j = μ.2.2.2.2.2.1 n j) (c : Nat) : mm_fv ad μ1 c n = mm_fv ad μ c n := by
  funext k
  unfold mm_fv
  rw [hI, hJ, hF, hD, hR]
theorem mm_ac_eq {ad : Nat → Nat} {cA : ClassId} {μ μ1 : mm_M} {n : Nat} (hI : ∀ j, μ1.2.1 n j = μ.2.1 n j) (hJ : ∀ j, μ1.2.2.1 n j = μ.2.2.1 n j) (hF : ∀ j, μ1.2.2.2.1 n j = μ.2.2.2.1 n j) (hD : ∀ j, μ1.2.2.2.2.1 n j = μ.2.2.2.2.1 n j) (hR : ∀ j, μ1.2.2.2.2.2.1 n j = μ.2.2.2.2.2.1 n j) (et len : Nat) : mm_ac cA ad μ1 et len n = mm_ac cA ad μ et len n := by
  unfold mm_ac
  simp only [hI, hJ, hF, hD, hR]
theorem mm_ce.keep {Γ : mm_C} {μ μ1 : mm_M} {H H1 : Heap} {n : Nat} (hk : μ1.1 n = μ.1 n) (hI : ∀ j, μ1.2.1 n j = μ.2.1 n j) (hJ : ∀ j, μ1.2.2.1 n j = μ.2.2.1 n j) (hF : ∀ j, μ1.2.2.2.1 n j = μ.2.2.2.1 n j) (hD : ∀ j, μ1.2.2.2.2.1 n j = μ.2.2.2.2.1 n j) (hR : ∀ j, μ1.2.2.2.2.2.1 n j = μ.2.2.2.2.2.1 n j) (hH : μ.1 n ≠ 0 → H1[mm_ad Γ n]? = H[mm_ad Γ n]?) (h : mm_ce Γ μ H n) : mm_ce Γ μ1 H1 n := by
  unfold mm_ce at h ⊢
  rw [hk]
  by_cases h0 : μ.1 n = 0
  · rw [h0]
    exact trivial
  · have hH := hH h0
    cases hc : mm_kc (μ.1 n) with
    | some c =>
      rw [hc] at h
      obtain ⟨q, h1, h2⟩ := h
      exact ⟨q, h1, by rw [mm_fv_eq hI hJ hF hD hR]; exact h2.kept hH⟩
    | none =>
      rw [hc] at h
      dsimp only at h ⊢
      cases hz : mm_ka (μ.1 n) with
      | some z =>
        rw [hz] at h
        dsimp only at h ⊢
        rw [hH, mm_ac_eq hI hJ hF hD hR]
        exact h
      | none => exact trivial
theorem mm_ad_ne {Γ : mm_C} (hA : mm_Aw Γ) {a n : Nat} (ha : 6 ≤ a) (hn : 6 ≤ n) (h : n ≠ a) : mm_ad Γ n ≠ mm_ad Γ a := by
  rcases Nat.lt_or_gt_of_ne h with e | e
  · exact Nat.ne_of_lt (hA.1 _ _ hn e)
  · exact Ne.symm (Nat.ne_of_lt (hA.1 _ _ ha e))
/-- a cell is written: the world behind it -/
theorem mm_Rw.put {Γ : mm_C} (hA : mm_Aw Γ) {μ μ1 : mm_M} {H H1 : Heap} (h : mm_Rw Γ μ H) (hw : mm_wf μ1) {a : Nat} (ha : μ.1 a ≠ 0) (hK : μ1.1 = μ.1) (hx : mm_nx μ1 = mm_nx μ) (hI : ∀ n, n ≠ a → ∀ j, μ1.2.1 n j = μ.2.1 n j) (hJ : ∀ n, n ≠ a → ∀ j, μ1.2.2.1 n j = μ.2.2.1 n j) (hF : ∀ n, n ≠ a → ∀ j, μ1.2.2.2.1 n j = μ.2.2.2.1 n j) (hD : ∀ n, n ≠ a → ∀ j, μ1.2.2.2.2.1 n j = μ.2.2.2.2.1 n j) (hR : ∀ n, n ≠ a → ∀ j, μ1.2.2.2.2.2.1 n j = μ.2.2.2.2.2.1 n j)
    (hz : H1.size = H.size) (ho : ∀ q, q ≠ mm_ad Γ a → H1[q]? = H[q]?) (hc : mm_ce Γ μ1 H1 a) : mm_Rw Γ μ1 H1 := by
  obtain ⟨⟨-, h3, -⟩, h2, h4⟩ := h
  refine ⟨hw, by rw [hz, hx]; exact h2, fun n => ?_⟩
  by_cases hn : n = a
  · rw [hn]; exact hc
  · exact (h4 n).keep (by rw [hK]) (hI n hn) (hJ n hn) (hF n hn) (hD n hn) (hR n hn) (fun h0 => ho _ (mm_ad_ne hA (h3 a ha).1 (h3 n h0).1 hn))
/-- a cell is made: the world behind it -/
theorem mm_Rw.new {Γ : mm_C} (hA : mm_Aw Γ) (hL : mm_Lw Γ) {μ μ1 : mm_M} {H H1 : Heap} (h : mm_Rw Γ μ H) (hw : mm_wf μ1) (hK : ∀ n, n ≠ mm_nx μ → μ1.1 n = μ.1 n) (hx : mm_nx μ1 = mm_nx μ + 1) (hI : ∀ n, n ≠ mm_nx μ → ∀ j, μ1.2.1 n j = μ.2.1 n j) (hJ : ∀ n, n ≠ mm_nx μ → ∀ j, μ1.2.2.1 n j = μ.2.2.1 n j) (hF : ∀ n, n ≠ mm_nx μ → ∀ j, μ1.2.2.2.1 n j = μ.2.2.2.1 n j) (hD : ∀ n, n ≠ mm_nx μ → ∀ j, μ1.2.2.2.2.1 n j = μ.2.2.2.2.1 n j) (hR : ∀ n, n ≠ mm_nx μ → ∀ j, μ1.2.2.2.2.2.1 n j = μ.2.2.2.2.2.1 n j)
    (hz : H1.size = H.size + 1) (ho : ∀ q, q < H.size → H1[q]? = H[q]?) (hc : mm_ce Γ μ1 H1 (mm_nx μ)) : mm_Rw Γ μ1 H1 := by
  obtain ⟨⟨h1, h3, -⟩, h2, h4⟩ := h
  refine ⟨hw, ?_, fun n => ?_⟩
  · rw [hz, h2, hx]
    exact (hL _ h1).symm
  · by_cases hn : n = mm_nx μ
    · rw [hn]; exact hc
    · refine (h4 n).keep (hK n hn) (hI n hn) (hJ n hn) (hF n hn) (hD n hn) (hR n hn) (fun h0 => ho _ ?_)
      have := h3 n h0
      rw [h2]
      exact hA.1 _ _ this.1 this.2
theorem mm_wf.same {μ μ1 : mm_M} (h : mm_wf μ) (hk : μ1.1 = μ.1) (hr : μ1.2.2.2.2.2.1 = μ.2.2.2.2.2.1) (hn : mm_nx μ1 = mm_nx μ) : mm_wf μ1 := by
  unfold mm_wf
  rw [hk, hr, hn]
  exact h
/-- typing is kept where nothing about a number changes and kinds stay or come new -/
theorem mm_ty.up {K K1 : Nat → Nat} {R R1 : Nat → Nat → Option Nat} {n : Nat} (hk : K1 n = K n) (hr : ∀ k, R1 n k = R n k) (hb2 : ∀ b k, K b = k → k ≠ 0 → ¬ (21 ≤ k ∧ k ≤ 31) → K1 b = k) (h : mm_ty K R n) : mm_ty K1 R1 n := by
  unfold mm_ty at h ⊢
  rw [hk]
  simp only [hr]
  cases hc2 : mm_kc (K n) with
  | some c =>
    rw [hc2] at h
    exact ⟨fun k b g1 g2 g3 => hb2 b _ (h.1 k b g1 g2 g3) (mm_ft_ne c k g1 g2) (mm_ft_nr c k g1 g2), h.2⟩
  | none =>
    rw [hc2] at h
    dsimp only at h ⊢
    cases hz2 : mm_ka (K n) with
    | some z =>
      rw [hz2] at h
      exact fun g k b g3 => hb2 b _ (h g k b g3) (mm_ek_ne hz2 g) (mm_ek_nr hz2 g)
    | none => exact trivial
theorem mm_wf.putR {μ μ1 : mm_M} (h : mm_wf μ) (hk : μ1.1 = μ.1) (hn : mm_nx μ1 = mm_nx μ) {a : Nat} (hr : ∀ n, n ≠ a → ∀ k, μ1.2.2.2.2.2.1 n k = μ.2.2.2.2.2.1 n k) (ha : mm_ty μ.1 μ1.2.2.2.2.2.1 a) : mm_wf μ1 := by
  unfold mm_wf
  rw [hk, hn]
  refine ⟨h.1, h.2.1, fun n => ?_⟩
  by_cases e : n = a
  · rw [e]; exact ha
  · exact mm_ty.up rfl (hr n e) (fun b k g1 g2 g3 => g1) (h.2.2 n)
theorem mm_wf.new {μ μ1 : mm_M} (h : mm_wf μ) (hk : ∀ n, n ≠ mm_nx μ → μ1.1 n = μ.1 n) (hn : mm_nx μ1 = mm_nx μ + 1) (hr : ∀ n, n ≠ mm_nx μ → ∀ k, μ1.2.2.2.2.2.1 n k = μ.2.2.2.2.2.1 n k) (ha : mm_ty μ1.1 μ1.2.2.2.2.2.1 (mm_nx μ)) : mm_wf μ1 := by
  have h1 := h.1
  refine ⟨by omega, fun n h0 => ?_, fun n => ?_⟩
  · by_cases e : n = mm_nx μ
    · omega
    · rw [hk n e] at h0
      have := h.2.1 n h0
      omega
  · by_cases e : n = mm_nx μ
    · rw [e]; exact ha
    · have hne : ∀ b k, μ.1 b = k → k ≠ 0 → μ1.1 b = k := fun b k g1 g2 => by
        rw [hk b (fun e2 => by have := h.2.1 b (by rw [g1]; exact g2); omega)]
        exact g1
      exact mm_ty.up (hk n e) (hr n e) (fun b k g1 g2 g3 => hne b k g1 g2) (h.2.2 n)
theorem mm_le.new {μ μ1 : mm_M} (h : mm_wf μ) (hk : ∀ n, n ≠ mm_nx μ → μ1.1 n = μ.1 n) (hn : mm_nx μ1 = mm_nx μ + 1) (hs : mm_sz μ ≤ mm_sz μ1) : mm_le μ μ1 := by
  refine ⟨by omega, hs, fun n h0 => ?_, fun n h0 => ?_⟩
  · rw [hk n (fun e => by have := h.2.1 n h0; omega)]
    exact mm_kle.rf _
  · by_cases e : n = mm_nx μ
    · exact Or.inr (by omega)
    · rw [hk n e] at h0
      exact Or.inl h0
