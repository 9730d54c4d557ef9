theorem lw_el0 : ∀ k, k < 198 → (flatC (Jvm.Cond.and given_1 narrow_1))[7 + k]? = some (Cond.eq (.elem (.static "MachineWitness$Shapes" "OF_OPS" "[I") (.int (Int32.ofNat k))) (.int (mm_sv 0 k))) := by decide +kernel
theorem lw_el1 : ∀ k, k < 21 → (flatC (Jvm.Cond.and given_1 narrow_1))[208 + k]? = some (Cond.eq (.elem (.static "MachineWitness$Shapes" "LEAST" "[I") (.int (Int32.ofNat k))) (.int (mm_sv 1 k))) := by decide +kernel
theorem lw_el2 : ∀ k, k < 21 → (flatC (Jvm.Cond.and given_1 narrow_1))[232 + k]? = some (Cond.eq (.elem (.static "MachineWitness$Shapes" "MOST" "[I") (.int (Int32.ofNat k))) (.int (mm_sv 2 k))) := by decide +kernel
theorem lw_el3 : ∀ k, k < 12 → (flatC (Jvm.Cond.and given_1 narrow_1))[256 + k]? = some (Cond.eq (.elem (.static "MachineWitness$Shapes" "CHANGE_TO" "[I") (.int (Int32.ofNat k))) (.int (mm_sv 3 k))) := by decide +kernel
theorem lw_el4 : ∀ k, k < 12 → (flatC (Jvm.Cond.and given_1 narrow_1))[271 + k]? = some (Cond.eq (.elem (.static "MachineWitness$Shapes" "CHANGE_FROM" "[I") (.int (Int32.ofNat k))) (.int (mm_sv 4 k))) := by decide +kernel
theorem lw_el5 : ∀ k, k < 9 → (flatC (Jvm.Cond.and given_1 narrow_1))[286 + k]? = some (Cond.eq (.elem (.static "MachineWitness$Shapes" "OF_FIELDS" "[I") (.int (Int32.ofNat k))) (.int (mm_sv 5 k))) := by decide +kernel
theorem lw_k3 {b : Nat} {s : State} (htt : ∀ {w : Cond}, w ∈ tables_1 → w.before #[Value.ref b] s = true) (hgv : (Jvm.Cond.and given_1 narrow_1).before #[Value.ref b] s = true) : ∀ j : Nat, ∃ t : Nat, ∀ n, mm_sn[j]? = some n → va_Z "MachineWitness$Shapes" n "[I" (.ref t) (fun q => s.heap.size ≤ q) s s.heap ∧ va_T .int t (mm_len j) (fun i => .int (mm_sv j i)) (fun q => s.heap.size ≤ q) s s.heap := by
  intro j
  have hs := flat_of_before _ hgv
  have hA : ∀ a : Nat, a < s.heap.size → ¬ (fun q => s.heap.size ≤ q) a := fun a h => Nat.not_le.mpr h
  rcases (by omega : j = 0 ∨ j = 1 ∨ j = 2 ∨ j = 3 ∨ j = 4 ∨ j = 5 ∨ 6 ≤ j) with rfl | rfl | rfl | rfl | rfl | rfl | h6
  · obtain ⟨t, ht, hT⟩ := va_Tof (N := 198) (tm := (.static "MachineWitness$Shapes" "OF_OPS" "[I")) (ty := .int) (f := fun i => .int (mm_sv 0 i)) (A := (fun q => s.heap.size ≤ q)) (by decide) (hs _ (List.mem_of_getElem? (i := 5) (by decide +kernel))) (va_eqt (hs _ (List.mem_of_getElem? (i := 6) (by decide +kernel)))) (fun k hk => va_eqt (hs _ (List.mem_of_getElem? (lw_el0 k hk)))) hA
    exact ⟨t, fun n hn => by
      obtain rfl : "OF_OPS" = n := Option.some.inj hn
      exact ⟨va_Zref (htt (mm_m1 (List.mem_of_getElem? (i := 237) (by decide +kernel)))) (htt (mm_m1 (List.mem_of_getElem? (i := 11) (by decide +kernel)))) ht hA, hT⟩⟩
  · obtain ⟨t, ht, hT⟩ := va_Tof (N := 21) (tm := (.static "MachineWitness$Shapes" "LEAST" "[I")) (ty := .int) (f := fun i => .int (mm_sv 1 i)) (A := (fun q => s.heap.size ≤ q)) (by decide) (hs _ (List.mem_of_getElem? (i := 206) (by decide +kernel))) (va_eqt (hs _ (List.mem_of_getElem? (i := 207) (by decide +kernel)))) (fun k hk => va_eqt (hs _ (List.mem_of_getElem? (lw_el1 k hk)))) hA
    exact ⟨t, fun n hn => by
      obtain rfl : "LEAST" = n := Option.some.inj hn
      exact ⟨va_Zref (htt (mm_m2 (List.mem_of_getElem? (i := 5) (by decide +kernel)))) (htt (mm_m1 (List.mem_of_getElem? (i := 11) (by decide +kernel)))) ht hA, hT⟩⟩
  · obtain ⟨t, ht, hT⟩ := va_Tof (N := 21) (tm := (.static "MachineWitness$Shapes" "MOST" "[I")) (ty := .int) (f := fun i => .int (mm_sv 2 i)) (A := (fun q => s.heap.size ≤ q)) (by decide) (hs _ (List.mem_of_getElem? (i := 230) (by decide +kernel))) (va_eqt (hs _ (List.mem_of_getElem? (i := 231) (by decide +kernel)))) (fun k hk => va_eqt (hs _ (List.mem_of_getElem? (lw_el2 k hk)))) hA
    exact ⟨t, fun n hn => by
      obtain rfl : "MOST" = n := Option.some.inj hn
      exact ⟨va_Zref (htt (mm_m2 (List.mem_of_getElem? (i := 7) (by decide +kernel)))) (htt (mm_m1 (List.mem_of_getElem? (i := 11) (by decide +kernel)))) ht hA, hT⟩⟩
  · obtain ⟨t, ht, hT⟩ := va_Tof (N := 12) (tm := (.static "MachineWitness$Shapes" "CHANGE_TO" "[I")) (ty := .int) (f := fun i => .int (mm_sv 3 i)) (A := (fun q => s.heap.size ≤ q)) (by decide) (hs _ (List.mem_of_getElem? (i := 254) (by decide +kernel))) (va_eqt (hs _ (List.mem_of_getElem? (i := 255) (by decide +kernel)))) (fun k hk => va_eqt (hs _ (List.mem_of_getElem? (lw_el3 k hk)))) hA
    exact ⟨t, fun n hn => by
      obtain rfl : "CHANGE_TO" = n := Option.some.inj hn
      exact ⟨va_Zref (htt (mm_m2 (List.mem_of_getElem? (i := 12) (by decide +kernel)))) (htt (mm_m1 (List.mem_of_getElem? (i := 11) (by decide +kernel)))) ht hA, hT⟩⟩
  · obtain ⟨t, ht, hT⟩ := va_Tof (N := 12) (tm := (.static "MachineWitness$Shapes" "CHANGE_FROM" "[I")) (ty := .int) (f := fun i => .int (mm_sv 4 i)) (A := (fun q => s.heap.size ≤ q)) (by decide) (hs _ (List.mem_of_getElem? (i := 269) (by decide +kernel))) (va_eqt (hs _ (List.mem_of_getElem? (i := 270) (by decide +kernel)))) (fun k hk => va_eqt (hs _ (List.mem_of_getElem? (lw_el4 k hk)))) hA
    exact ⟨t, fun n hn => by
      obtain rfl : "CHANGE_FROM" = n := Option.some.inj hn
      exact ⟨va_Zref (htt (mm_m2 (List.mem_of_getElem? (i := 14) (by decide +kernel)))) (htt (mm_m1 (List.mem_of_getElem? (i := 11) (by decide +kernel)))) ht hA, hT⟩⟩
  · obtain ⟨t, ht, hT⟩ := va_Tof (N := 9) (tm := (.static "MachineWitness$Shapes" "OF_FIELDS" "[I")) (ty := .int) (f := fun i => .int (mm_sv 5 i)) (A := (fun q => s.heap.size ≤ q)) (by decide) (hs _ (List.mem_of_getElem? (i := 284) (by decide +kernel))) (va_eqt (hs _ (List.mem_of_getElem? (i := 285) (by decide +kernel)))) (fun k hk => va_eqt (hs _ (List.mem_of_getElem? (lw_el5 k hk)))) hA
    exact ⟨t, fun n hn => by
      obtain rfl : "OF_FIELDS" = n := Option.some.inj hn
      exact ⟨va_Zref (htt (mm_m2 (List.mem_of_getElem? (i := 16) (by decide +kernel)))) (htt (mm_m1 (List.mem_of_getElem? (i := 11) (by decide +kernel)))) ht hA, hT⟩⟩
  · exact ⟨0, fun n hn => absurd (sn6 hn) (by omega)⟩
theorem lw_env {p : Program} {s : State} {m : MethodId} {meth : Method} {c : Code} {b L : Nat} {xs : Nat → Int32} (C0 : lw_At p s m meth c b L xs) : ∃ (cl : Nat → ClassId) (fl : Nat → Nat → Nat) (ar : Nat → ClassId) (sa : Nat → Nat), lw_E s cl fl ar sa := by
  obtain ⟨hx, hb, hr, hml, hown, hts, hX, hbl, hlocks, hgv⟩ := C0
  have hts2 := lw_hts hts
  have htt : ∀ {w : Cond}, w ∈ tables_1 → w.before #[Value.ref b] s = true := fun h => hts _ (List.mem_append_right _ h)
  have k1 : ∀ c : Nat, ∃ z : ClassId × (Nat → Nat), ∀ q : vw_C, mm_cls[c]? = some q → u_Kn s q.1 q.2.1 q.2.2 z.1 z.2 := by
    intro c
    cases hq : mm_cls[c]? with
    | none => exact ⟨(0, fun _ => 0), fun q h => by cases h⟩
    | some q =>
      obtain ⟨cC, iS, h⟩ := u_known hts2 (mm_lay_tb hq) (htt (mm_ins_in hq).1)
      exact ⟨(cC, iS), fun q2 h2 => by cases h2; exact h⟩
  obtain ⟨f1, hf1⟩ := Classical.axiomOfChoice k1
  have k2 : ∀ et : Nat, ∃ cA : ClassId, et < 8 → ArrOfT s cA (mm_ety et) ∧ va_RA s cA (mm_ety et) ∧ ∀ C, mm_ety et = .object C → va_AO C s := by
    intro et
    by_cases h5 : et < 5
    · obtain ⟨cA, kA, comp, e1, e2, e3⟩ := Cond.arrayClass_spec (htt (mm_aw h5))
      refine ⟨cA, fun _ => ⟨fun n z => ⟨fun k h => (by cases h), kA, e2, comp, e3⟩, ?_⟩⟩
      rcases (by omega : et = 0 ∨ et = 1 ∨ et = 2 ∨ et = 3 ∨ et = 4) with rfl | rfl | rfl | rfl | rfl
      · exact ⟨e1, fun C hC => by cases hC⟩
      · exact ⟨e1, fun C hC => by cases hC⟩
      · exact ⟨e1, fun C hC => by cases hC⟩
      · exact ⟨e1, fun C hC => by cases hC⟩
      · exact ⟨e1, fun C hC => by cases hC⟩
    · by_cases h8 : et < 8
      · have h : et = 5 ∨ et = 6 ∨ et = 7 := by omega
        have ho := htt (mm_ao h)
        rcases h with rfl | rfl | rfl
        · obtain ⟨comp, cA, kA, e1, -, e3, e4, e5⟩ := Cond.arrayOver_spec ho
          exact ⟨cA, fun _ => ⟨fun n z => ⟨fun k h => (by cases h), kA, e3, comp, e4⟩, ⟨kA, comp, e3, e4, e1, e5⟩, fun C hC => by cases hC; exact ho⟩⟩
        · obtain ⟨comp, cA, kA, e1, -, e3, e4, e5⟩ := Cond.arrayOver_spec ho
          exact ⟨cA, fun _ => ⟨fun n z => ⟨fun k h => (by cases h), kA, e3, comp, e4⟩, ⟨kA, comp, e3, e4, e1, e5⟩, fun C hC => by cases hC; exact ho⟩⟩
        · obtain ⟨comp, cA, kA, e1, -, e3, e4, e5⟩ := Cond.arrayOver_spec ho
          exact ⟨cA, fun _ => ⟨fun n z => ⟨fun k h => (by cases h), kA, e3, comp, e4⟩, ⟨kA, comp, e3, e4, e1, e5⟩, fun C hC => by cases hC; exact ho⟩⟩
      · exact ⟨0, fun h => absurd h h8⟩
  obtain ⟨f2, hf2⟩ := Classical.axiomOfChoice k2
  obtain ⟨f3, hf3⟩ := Classical.axiomOfChoice (lw_k3 htt hgv)
  refine ⟨fun c => (f1 c).1, fun c => (f1 c).2, f2, f3, fun n hn => ?_, ⟨fun c q hq => hf1 c q hq, fun et h => hf2 et h⟩, fun j n hj => ?_⟩
  · have e6 : mm_sn.length = 6 := by decide
    have hl : n < mm_sn.length := by omega
    have this : ∃ nm, mm_sn[n]? = some nm := ⟨mm_sn[n], List.getElem?_eq_getElem hl⟩
    obtain ⟨nm, hnm⟩ := this
    obtain ⟨cell, hc, -⟩ := (hf3 n nm hnm).2
    exact (Array.getElem?_eq_some_iff.mp hc).1
  · rw [gC_st (sn6 hj)]
    exact hf3 j n hj
