theorem R_reckons {ci : Nat → Nat → Nat → Int32} {cn : Nat → Nat → Nat → Nat} {co : Nat → Option Nat} {xj : Nat → Nat → Nat → Int64} {xd : Nat → Nat → Nat → UInt64} {xf : Nat → Nat → Nat → UInt32} {xo : Nat → Nat → Nat → Option Nat} {xi : Nat → Nat → Nat → Int32} {xn : Nat → Nat → Nat → Nat} {K : Nat → Nat} {I : Nat → Nat → Int32} {J : Nat → Nat → Int64} {F : Nat → Nat → UInt32} {D : Nat → Nat → UInt64} {R : Nat → Nat → Option Nat} {nx sl : Nat} {Km : Nat → Nat} {Im : Nat → Nat → Int32} {Jm : Nat → Nat → Int64} {Fm : Nat → Nat → UInt32} {Dm : Nat → Nat → UInt64} {Rm : Nat → Nat → Option Nat} {nxm slm : Nat} (hC : RC ci cn co xj xd xf xo xi xn I J F D R nx sl) (hM : RM ci cn co xj xd xf xo xi xn Im Jm Dm) {t op : Nat} {a b c go : Int32} (ht : t < 3) (hok : OKA op a b c) (hop : 0 ≤ op ∧ op < 12) (x1 : Im 6 39 = nI t) (x2 : Im 6 40 = a) (x3 : Im 6 41 = b) (x4 : Im 6 42 = c) (x5 : Im 6 43 = nI 0) (x6 : Im 6 44 = go) : Ct Y_NA_perform [vr 3 54, vr 8 (32 + 7 * t), vi (nI op), vi a, vi b, vi c] (K, I, J, F, D, R, nx, sl) (fun r μ1 => Ct Y_MM_reckons [vr 11 6, vi (nI op)] (Km, Im, Jm, Fm, Dm, Rm, nxm, slm) (fun r2 μ2 => r2 = none ∧ QA ci cn co go r μ1 μ2)) := by
  rcases (by omega : op = 0 ∨ op = 1 ∨ op = 2 ∨ op = 3 ∨ op = 4 ∨ op = 5 ∨ op = 6 ∨ op = 7 ∨ op = 8 ∨ op = 9 ∨ op = 10 ∨ op = 11) with rfl | rfl | rfl | rfl | rfl | rfl | rfl | rfl | rfl | rfl | rfl | rfl
  · obtain ⟨a1, ha, rfl⟩ := hok
    exact A0 hC hM ht ha x1 x2 x3 x4 x5 x6
  · obtain ⟨⟨a1, ha, rfl⟩, n1, hN, rfl | rfl⟩ := hok
    · exact A1P hC hM ht ha hN x1 x2 x3 x4 x5 x6
    · cases n1 with
      | zero =>
        rw [← ng_00] at x4 ⊢
        exact A1P hC hM ht ha hN x1 x2 x3 x4 x5 x6
      | succ n1 => exact A1N hC hM ht ha hN x1 x2 x3 x4 x5 x6
  · obtain ⟨⟨a1, ha, rfl⟩, n1, hN, rfl | rfl⟩ := hok
    · exact A2P hC hM ht ha hN x1 x2 x3 x4 x5 x6
    · cases n1 with
      | zero =>
        rw [← ng_00] at x4 ⊢
        exact A2P hC hM ht ha hN x1 x2 x3 x4 x5 x6
      | succ n1 => exact A2N hC hM ht ha hN x1 x2 x3 x4 x5 x6
  · obtain ⟨⟨a1, ha, rfl⟩, ⟨b1, hb, rfl⟩, ⟨c1, hc, rfl⟩⟩ := hok
    rcases (by omega : b1 = 0 ∨ b1 = 1 ∨ b1 = 2 ∨ b1 = 3 ∨ b1 = 4 ∨ b1 = 5 ∨ b1 = 6 ∨ b1 = 7 ∨ b1 = 8 ∨ b1 = 9 ∨ b1 = 10 ∨ b1 = 11) with rfl | rfl | rfl | rfl | rfl | rfl | rfl | rfl | rfl | rfl | rfl | rfl
    · exact A3_0 hC hM ht ha hc x1 x2 x3 x4 x5 x6
    · exact A3_1 hC hM ht ha hc x1 x2 x3 x4 x5 x6
    · exact A3_2 hC hM ht ha hc x1 x2 x3 x4 x5 x6
    · exact A3_3 hC hM ht ha hc x1 x2 x3 x4 x5 x6
    · exact A3_4 hC hM ht ha hc x1 x2 x3 x4 x5 x6
    · exact A3_5 hC hM ht ha hc x1 x2 x3 x4 x5 x6
    · exact A3_6 hC hM ht ha hc x1 x2 x3 x4 x5 x6
    · exact A3_7 hC hM ht ha hc x1 x2 x3 x4 x5 x6
    · exact A3_8 hC hM ht ha hc x1 x2 x3 x4 x5 x6
    · exact A3_9 hC hM ht ha hc x1 x2 x3 x4 x5 x6
    · exact A3_10 hC hM ht ha hc x1 x2 x3 x4 x5 x6
    · exact A3_11 hC hM ht ha hc x1 x2 x3 x4 x5 x6
  · obtain ⟨⟨a1, ha, rfl⟩, ⟨b1, hb, rfl⟩, ⟨c1, hc, rfl⟩⟩ := hok
    rcases (by omega : b1 = 0 ∨ b1 = 1 ∨ b1 = 2 ∨ b1 = 3 ∨ b1 = 4 ∨ b1 = 5 ∨ b1 = 6 ∨ b1 = 7 ∨ b1 = 8 ∨ b1 = 9 ∨ b1 = 10 ∨ b1 = 11) with rfl | rfl | rfl | rfl | rfl | rfl | rfl | rfl | rfl | rfl | rfl | rfl
    · exact A4_0 hC hM ht ha hc x1 x2 x3 x4 x5 x6
    · exact A4_1 hC hM ht ha hc x1 x2 x3 x4 x5 x6
    · exact A4_2 hC hM ht ha hc x1 x2 x3 x4 x5 x6
    · exact A4_3 hC hM ht ha hc x1 x2 x3 x4 x5 x6
    · exact A4_4 hC hM ht ha hc x1 x2 x3 x4 x5 x6
    · exact A4_5 hC hM ht ha hc x1 x2 x3 x4 x5 x6
    · exact A4_6 hC hM ht ha hc x1 x2 x3 x4 x5 x6
    · exact A4_7 hC hM ht ha hc x1 x2 x3 x4 x5 x6
    · exact A4_8 hC hM ht ha hc x1 x2 x3 x4 x5 x6
    · exact A4_9 hC hM ht ha hc x1 x2 x3 x4 x5 x6
    · exact A4_10 hC hM ht ha hc x1 x2 x3 x4 x5 x6
    · exact A4_11 hC hM ht ha hc x1 x2 x3 x4 x5 x6
  · obtain ⟨⟨a1, ha, rfl⟩, ⟨b1, hb, rfl⟩, ⟨c1, hc, rfl⟩⟩ := hok
    rcases (by omega : b1 = 0 ∨ b1 = 1 ∨ b1 = 2 ∨ b1 = 3 ∨ b1 = 4 ∨ b1 = 5 ∨ b1 = 6 ∨ b1 = 7) with rfl | rfl | rfl | rfl | rfl | rfl | rfl | rfl
    · exact A5_0 hC hM ht ha hc x1 x2 x3 x4 x5 x6
    · exact A5_1 hC hM ht ha hc x1 x2 x3 x4 x5 x6
    · exact A5_2 hC hM ht ha hc x1 x2 x3 x4 x5 x6
    · exact A5_3 hC hM ht ha hc x1 x2 x3 x4 x5 x6
    · exact A5_4 hC hM ht ha hc x1 x2 x3 x4 x5 x6
    · exact A5_5 hC hM ht ha hc x1 x2 x3 x4 x5 x6
    · exact A5_6 hC hM ht ha hc x1 x2 x3 x4 x5 x6
    · exact A5_7 hC hM ht ha hc x1 x2 x3 x4 x5 x6
  · obtain ⟨⟨a1, ha, rfl⟩, ⟨b1, hb, rfl⟩, ⟨c1, hc, rfl⟩⟩ := hok
    rcases (by omega : b1 = 0 ∨ b1 = 1 ∨ b1 = 2 ∨ b1 = 3 ∨ b1 = 4 ∨ b1 = 5 ∨ b1 = 6 ∨ b1 = 7) with rfl | rfl | rfl | rfl | rfl | rfl | rfl | rfl
    · exact A6_0 hC hM ht ha hc x1 x2 x3 x4 x5 x6
    · exact A6_1 hC hM ht ha hc x1 x2 x3 x4 x5 x6
    · exact A6_2 hC hM ht ha hc x1 x2 x3 x4 x5 x6
    · exact A6_3 hC hM ht ha hc x1 x2 x3 x4 x5 x6
    · exact A6_4 hC hM ht ha hc x1 x2 x3 x4 x5 x6
    · exact A6_5 hC hM ht ha hc x1 x2 x3 x4 x5 x6
    · exact A6_6 hC hM ht ha hc x1 x2 x3 x4 x5 x6
    · exact A6_7 hC hM ht ha hc x1 x2 x3 x4 x5 x6
  · obtain ⟨⟨a1, ha, rfl⟩, ⟨b1, hb, rfl⟩, ⟨c1, hc, rfl⟩⟩ := hok
    rcases (by omega : b1 = 0 ∨ b1 = 1 ∨ b1 = 2 ∨ b1 = 3 ∨ b1 = 4 ∨ b1 = 5) with rfl | rfl | rfl | rfl | rfl | rfl
    · exact A7_0 hC hM ht ha hc x1 x2 x3 x4 x5 x6
    · exact A7_1 hC hM ht ha hc x1 x2 x3 x4 x5 x6
    · exact A7_2 hC hM ht ha hc x1 x2 x3 x4 x5 x6
    · exact A7_3 hC hM ht ha hc x1 x2 x3 x4 x5 x6
    · exact A7_4 hC hM ht ha hc x1 x2 x3 x4 x5 x6
    · exact A7_5 hC hM ht ha hc x1 x2 x3 x4 x5 x6
  · obtain ⟨⟨a1, ha, rfl⟩, ⟨b1, hb, rfl⟩, ⟨c1, hc, rfl⟩⟩ := hok
    rcases (by omega : b1 = 0 ∨ b1 = 1 ∨ b1 = 2 ∨ b1 = 3 ∨ b1 = 4 ∨ b1 = 5) with rfl | rfl | rfl | rfl | rfl | rfl
    · exact A8_0 hC hM ht ha hc x1 x2 x3 x4 x5 x6
    · exact A8_1 hC hM ht ha hc x1 x2 x3 x4 x5 x6
    · exact A8_2 hC hM ht ha hc x1 x2 x3 x4 x5 x6
    · exact A8_3 hC hM ht ha hc x1 x2 x3 x4 x5 x6
    · exact A8_4 hC hM ht ha hc x1 x2 x3 x4 x5 x6
    · exact A8_5 hC hM ht ha hc x1 x2 x3 x4 x5 x6
  · obtain ⟨⟨a1, ha, rfl⟩, ⟨b1, hb, rfl⟩, ⟨c1, hc, rfl⟩⟩ := hok
    exact A9 hC hM ht ha hb hc x1 x2 x3 x4 x5 x6
  · obtain ⟨⟨a1, ha, rfl⟩, ⟨b1, hb, rfl⟩, ⟨c1, hc, rfl⟩⟩ := hok
    exact A10 hC hM ht ha hb hc x1 x2 x3 x4 x5 x6
  · rcases hok with ⟨rfl, ⟨a1, ha, rfl⟩, ⟨c1, hc, rfl⟩⟩ | ⟨rfl, ⟨a1, ha, rfl⟩, ⟨c1, hc, rfl⟩⟩ | ⟨rfl, ⟨a1, ha, rfl⟩, ⟨c1, hc, rfl⟩⟩ | ⟨rfl, ⟨a1, ha, rfl⟩, ⟨c1, hc, rfl⟩⟩ | ⟨rfl, ⟨a1, ha, rfl⟩, ⟨c1, hc, rfl⟩⟩ | ⟨rfl, ⟨a1, ha, rfl⟩, ⟨c1, hc, rfl⟩⟩ | ⟨rfl, ⟨a1, ha, rfl⟩, ⟨c1, hc, rfl⟩⟩ | ⟨rfl, ⟨a1, ha, rfl⟩, ⟨c1, hc, rfl⟩⟩ | ⟨rfl, ⟨a1, ha, rfl⟩, ⟨c1, hc, rfl⟩⟩ | ⟨rfl, ⟨a1, ha, rfl⟩, ⟨c1, hc, rfl⟩⟩ | ⟨rfl, ⟨a1, ha, rfl⟩, ⟨c1, hc, rfl⟩⟩ | ⟨rfl, ⟨a1, ha, rfl⟩, ⟨c1, hc, rfl⟩⟩
    · exact A11_0 hC hM ht ha hc x1 x2 x3 x4 x5 x6
    · exact A11_1 hC hM ht ha hc x1 x2 x3 x4 x5 x6
    · exact A11_2 hC hM ht ha hc x1 x2 x3 x4 x5 x6
    · exact A11_3 hC hM ht ha hc x1 x2 x3 x4 x5 x6
    · exact A11_4 hC hM ht ha hc x1 x2 x3 x4 x5 x6
    · exact A11_5 hC hM ht ha hc x1 x2 x3 x4 x5 x6
    · exact A11_6 hC hM ht ha hc x1 x2 x3 x4 x5 x6
    · exact A11_7 hC hM ht ha hc x1 x2 x3 x4 x5 x6
    · exact A11_8 hC hM ht ha hc x1 x2 x3 x4 x5 x6
    · exact A11_9 hC hM ht ha hc x1 x2 x3 x4 x5 x6
    · exact A11_10 hC hM ht ha hc x1 x2 x3 x4 x5 x6
    · exact A11_11 hC hM ht ha hc x1 x2 x3 x4 x5 x6
theorem R_makes {ci : Nat → Nat → Nat → Int32} {cn : Nat → Nat → Nat → Nat} {co : Nat → Option Nat} {xj : Nat → Nat → Nat → Int64} {xd : Nat → Nat → Nat → UInt64} {xf : Nat → Nat → Nat → UInt32} {xo : Nat → Nat → Nat → Option Nat} {xi : Nat → Nat → Nat → Int32} {xn : Nat → Nat → Nat → Nat} {K : Nat → Nat} {I : Nat → Nat → Int32} {J : Nat → Nat → Int64} {F : Nat → Nat → UInt32} {D : Nat → Nat → UInt64} {R : Nat → Nat → Option Nat} {nx sl : Nat} {Km : Nat → Nat} {Im : Nat → Nat → Int32} {Jm : Nat → Nat → Int64} {Fm : Nat → Nat → UInt32} {Dm : Nat → Nat → UInt64} {Rm : Nat → Nat → Option Nat} {nxm slm : Nat} (hC : RC ci cn co xj xd xf xo xi xn I J F D R nx sl) (hM : RM ci cn co xj xd xf xo xi xn Im Jm Dm) {t op : Nat} {a b c go : Int32} (ht : t < 3) (hok : OKA op a b c) (hop : 12 ≤ op ∧ op < 19) (x1 : Im 6 39 = nI t) (x2 : Im 6 40 = a) (x3 : Im 6 41 = b) (x4 : Im 6 42 = c) (x5 : Im 6 43 = nI 0) (x6 : Im 6 44 = go) : Ct Y_HA_perform [vr 1 55, vr 8 (32 + 7 * t), vi (nI op), vi a, vi b, vi c] (K, I, J, F, D, R, nx, sl) (fun r μ1 => Ct Y_MM_makes [vr 11 6, vi (nI op)] (Km, Im, Jm, Fm, Dm, Rm, nxm, slm) (fun r2 μ2 => r2 = none ∧ QA ci cn co go r μ1 μ2)) := by
  rcases (by omega : op = 12 ∨ op = 13 ∨ op = 14 ∨ op = 15 ∨ op = 16 ∨ op = 17 ∨ op = 18) with rfl | rfl | rfl | rfl | rfl | rfl | rfl
  · obtain ⟨⟨a1, ha, rfl⟩, ⟨c1, hc, rfl⟩⟩ := hok
    exact A12 hC hM ht ha hc x1 x2 x3 x4 x5 x6
  · obtain ⟨a1, ha, rfl⟩ := hok
    exact A13 hC hM ht ha x1 x2 x3 x4 x5 x6
  · obtain ⟨⟨a1, ha, rfl⟩, ⟨b1, hb, rfl⟩, ⟨c1, hc, rfl⟩⟩ := hok
    exact A14 hC hM ht ha hb hc x1 x2 x3 x4 x5 x6
  · obtain ⟨⟨a1, ha, rfl⟩, ⟨b1, hb, rfl⟩, ⟨c1, hc, rfl⟩⟩ := hok
    exact A15 hC hM ht ha hb hc x1 x2 x3 x4 x5 x6
  · obtain ⟨⟨a1, ha, rfl⟩, ⟨b1, hb, rfl⟩, ⟨c1, hc, rfl⟩⟩ := hok
    exact A16 hC hM ht ha hb hc x1 x2 x3 x4 x5 x6
  · obtain ⟨⟨a1, ha, rfl⟩, ⟨b1, hb, rfl⟩, ⟨c1, hc, rfl⟩⟩ := hok
    exact A17 hC hM ht ha hb hc x1 x2 x3 x4 x5 x6
  · obtain ⟨⟨a1, ha, rfl⟩, ⟨b1, hb, rfl⟩⟩ := hok
    exact A18 hC hM ht ha hb x1 x2 x3 x4 x5 x6
theorem R_loads {ci : Nat → Nat → Nat → Int32} {cn : Nat → Nat → Nat → Nat} {co : Nat → Option Nat} {xj : Nat → Nat → Nat → Int64} {xd : Nat → Nat → Nat → UInt64} {xf : Nat → Nat → Nat → UInt32} {xo : Nat → Nat → Nat → Option Nat} {xi : Nat → Nat → Nat → Int32} {xn : Nat → Nat → Nat → Nat} {K : Nat → Nat} {I : Nat → Nat → Int32} {J : Nat → Nat → Int64} {F : Nat → Nat → UInt32} {D : Nat → Nat → UInt64} {R : Nat → Nat → Option Nat} {nx sl : Nat} {Km : Nat → Nat} {Im : Nat → Nat → Int32} {Jm : Nat → Nat → Int64} {Fm : Nat → Nat → UInt32} {Dm : Nat → Nat → UInt64} {Rm : Nat → Nat → Option Nat} {nxm slm : Nat} (hC : RC ci cn co xj xd xf xo xi xn I J F D R nx sl) (hM : RM ci cn co xj xd xf xo xi xn Im Jm Dm) {t op : Nat} {a b c go : Int32} (ht : t < 3) (hok : OKA op a b c) (hop : 20 ≤ op ∧ op < 28) (x1 : Im 6 39 = nI t) (x2 : Im 6 40 = a) (x3 : Im 6 41 = b) (x4 : Im 6 42 = c) (x5 : Im 6 43 = nI 0) (x6 : Im 6 44 = go) : Ct Y_IA_perform [vr 8 (32 + 7 * t), vi (nI op), vi a, vi b, vi c] (K, I, J, F, D, R, nx, sl) (fun r μ1 => Ct Y_MM_loads [vr 11 6, vi (nI op - nI 20)] (Km, Im, Jm, Fm, Dm, Rm, nxm, slm) (fun r2 μ2 => r2 = none ∧ QA ci cn co go r μ1 μ2)) := by
  rcases (by omega : op = 20 ∨ op = 21 ∨ op = 22 ∨ op = 23 ∨ op = 24 ∨ op = 25 ∨ op = 26 ∨ op = 27) with rfl | rfl | rfl | rfl | rfl | rfl | rfl | rfl
  · rw [show nI 20 - nI 20 = nI 0 from by decide]
    obtain ⟨⟨a1, ha, rfl⟩, ⟨b1, hb, rfl⟩, ⟨c1, hc, rfl⟩⟩ := hok
    exact A20 hC hM ht ha hb hc x1 x2 x3 x4 x5 x6
  · rw [show nI 21 - nI 20 = nI 1 from by decide]
    obtain ⟨⟨a1, ha, rfl⟩, ⟨b1, hb, rfl⟩, ⟨c1, hc, rfl⟩⟩ := hok
    exact A21 hC hM ht ha hb hc x1 x2 x3 x4 x5 x6
  · rw [show nI 22 - nI 20 = nI 2 from by decide]
    obtain ⟨⟨a1, ha, rfl⟩, ⟨b1, hb, rfl⟩, ⟨c1, hc, rfl⟩⟩ := hok
    exact A22 hC hM ht ha hb hc x1 x2 x3 x4 x5 x6
  · rw [show nI 23 - nI 20 = nI 3 from by decide]
    obtain ⟨⟨a1, ha, rfl⟩, ⟨b1, hb, rfl⟩, ⟨c1, hc, rfl⟩⟩ := hok
    exact A23 hC hM ht ha hb hc x1 x2 x3 x4 x5 x6
  · rw [show nI 24 - nI 20 = nI 4 from by decide]
    obtain ⟨⟨a1, ha, rfl⟩, ⟨b1, hb, rfl⟩, ⟨c1, hc, rfl⟩⟩ := hok
    exact A24 hC hM ht ha hb hc x1 x2 x3 x4 x5 x6
  · rw [show nI 25 - nI 20 = nI 5 from by decide]
    obtain ⟨⟨a1, ha, rfl⟩, ⟨b1, hb, rfl⟩, ⟨c1, hc, rfl⟩⟩ := hok
    exact A25 hC hM ht ha hb hc x1 x2 x3 x4 x5 x6
  · rw [show nI 26 - nI 20 = nI 6 from by decide]
    obtain ⟨⟨a1, ha, rfl⟩, ⟨b1, hb, rfl⟩, ⟨c1, hc, rfl⟩⟩ := hok
    exact A26 hC hM ht ha hb hc x1 x2 x3 x4 x5 x6
  · rw [show nI 27 - nI 20 = nI 7 from by decide]
    obtain ⟨⟨a1, ha, rfl⟩, ⟨b1, hb, rfl⟩, ⟨c1, hc, rfl⟩⟩ := hok
    exact A27 hC hM ht ha hb hc x1 x2 x3 x4 x5 x6
theorem R_stores {ci : Nat → Nat → Nat → Int32} {cn : Nat → Nat → Nat → Nat} {co : Nat → Option Nat} {xj : Nat → Nat → Nat → Int64} {xd : Nat → Nat → Nat → UInt64} {xf : Nat → Nat → Nat → UInt32} {xo : Nat → Nat → Nat → Option Nat} {xi : Nat → Nat → Nat → Int32} {xn : Nat → Nat → Nat → Nat} {K : Nat → Nat} {I : Nat → Nat → Int32} {J : Nat → Nat → Int64} {F : Nat → Nat → UInt32} {D : Nat → Nat → UInt64} {R : Nat → Nat → Option Nat} {nx sl : Nat} {Km : Nat → Nat} {Im : Nat → Nat → Int32} {Jm : Nat → Nat → Int64} {Fm : Nat → Nat → UInt32} {Dm : Nat → Nat → UInt64} {Rm : Nat → Nat → Option Nat} {nxm slm : Nat} (hC : RC ci cn co xj xd xf xo xi xn I J F D R nx sl) (hM : RM ci cn co xj xd xf xo xi xn Im Jm Dm) {t op : Nat} {a b c go : Int32} (ht : t < 3) (hok : OKA op a b c) (hop : 28 ≤ op ∧ op < 36) (x1 : Im 6 39 = nI t) (x2 : Im 6 40 = a) (x3 : Im 6 41 = b) (x4 : Im 6 42 = c) (x5 : Im 6 43 = nI 0) (x6 : Im 6 44 = go) : Ct Y_IA_perform [vr 8 (32 + 7 * t), vi (nI op), vi a, vi b, vi c] (K, I, J, F, D, R, nx, sl) (fun r μ1 => Ct Y_MM_stores [vr 11 6, vi (nI op - nI 28)] (Km, Im, Jm, Fm, Dm, Rm, nxm, slm) (fun r2 μ2 => r2 = none ∧ QA ci cn co go r μ1 μ2)) := by
  rcases (by omega : op = 28 ∨ op = 29 ∨ op = 30 ∨ op = 31 ∨ op = 32 ∨ op = 33 ∨ op = 34 ∨ op = 35) with rfl | rfl | rfl | rfl | rfl | rfl | rfl | rfl
  · rw [show nI 28 - nI 28 = nI 0 from by decide]
    obtain ⟨⟨a1, ha, rfl⟩, ⟨b1, hb, rfl⟩, ⟨c1, hc, rfl⟩⟩ := hok
    exact A28 hC hM ht ha hb hc x1 x2 x3 x4 x5 x6
  · rw [show nI 29 - nI 28 = nI 1 from by decide]
    obtain ⟨⟨a1, ha, rfl⟩, ⟨b1, hb, rfl⟩, ⟨c1, hc, rfl⟩⟩ := hok
    exact A29 hC hM ht ha hb hc x1 x2 x3 x4 x5 x6
  · rw [show nI 30 - nI 28 = nI 2 from by decide]
    obtain ⟨⟨a1, ha, rfl⟩, ⟨b1, hb, rfl⟩, ⟨c1, hc, rfl⟩⟩ := hok
    exact A30 hC hM ht ha hb hc x1 x2 x3 x4 x5 x6
  · rw [show nI 31 - nI 28 = nI 3 from by decide]
    obtain ⟨⟨a1, ha, rfl⟩, ⟨b1, hb, rfl⟩, ⟨c1, hc, rfl⟩⟩ := hok
    exact A31 hC hM ht ha hb hc x1 x2 x3 x4 x5 x6
  · rw [show nI 32 - nI 28 = nI 4 from by decide]
    obtain ⟨⟨a1, ha, rfl⟩, ⟨b1, hb, rfl⟩, ⟨c1, hc, rfl⟩⟩ := hok
    exact A32 hC hM ht ha hb hc x1 x2 x3 x4 x5 x6
  · rw [show nI 33 - nI 28 = nI 5 from by decide]
    obtain ⟨⟨a1, ha, rfl⟩, ⟨b1, hb, rfl⟩, ⟨c1, hc, rfl⟩⟩ := hok
    exact A33 hC hM ht ha hb hc x1 x2 x3 x4 x5 x6
  · rw [show nI 34 - nI 28 = nI 6 from by decide]
    obtain ⟨⟨a1, ha, rfl⟩, ⟨b1, hb, rfl⟩, ⟨c1, hc, rfl⟩⟩ := hok
    exact A34 hC hM ht ha hb hc x1 x2 x3 x4 x5 x6
  · rw [show nI 35 - nI 28 = nI 7 from by decide]
    obtain ⟨⟨a1, ha, rfl⟩, ⟨b1, hb, rfl⟩, ⟨c1, hc, rfl⟩⟩ := hok
    exact A35 hC hM ht ha hb hc x1 x2 x3 x4 x5 x6
theorem R_handles1 {ci : Nat → Nat → Nat → Int32} {cn : Nat → Nat → Nat → Nat} {co : Nat → Option Nat} {xj : Nat → Nat → Nat → Int64} {xd : Nat → Nat → Nat → UInt64} {xf : Nat → Nat → Nat → UInt32} {xo : Nat → Nat → Nat → Option Nat} {xi : Nat → Nat → Nat → Int32} {xn : Nat → Nat → Nat → Nat} {K : Nat → Nat} {I : Nat → Nat → Int32} {J : Nat → Nat → Int64} {F : Nat → Nat → UInt32} {D : Nat → Nat → UInt64} {R : Nat → Nat → Option Nat} {nx sl : Nat} {Km : Nat → Nat} {Im : Nat → Nat → Int32} {Jm : Nat → Nat → Int64} {Fm : Nat → Nat → UInt32} {Dm : Nat → Nat → UInt64} {Rm : Nat → Nat → Option Nat} {nxm slm : Nat} (hC : RC ci cn co xj xd xf xo xi xn I J F D R nx sl) (hM : RM ci cn co xj xd xf xo xi xn Im Jm Dm) {t op : Nat} {a b c go : Int32} (ht : t < 3) (hok : OKA op a b c) (hop : 36 ≤ op ∧ op < 46) (x1 : Im 6 39 = nI t) (x2 : Im 6 40 = a) (x3 : Im 6 41 = b) (x4 : Im 6 42 = c) (x5 : Im 6 43 = nI 0) (x6 : Im 6 44 = go) : Ct Y_IA_perform [vr 8 (32 + 7 * t), vi (nI op), vi a, vi b, vi c] (K, I, J, F, D, R, nx, sl) (fun r μ1 => Ct Y_MM_handles [vr 11 6, vi (nI op)] (Km, Im, Jm, Fm, Dm, Rm, nxm, slm) (fun r2 μ2 => r2 = none ∧ QA ci cn co go r μ1 μ2)) := by
  rcases (by omega : op = 36 ∨ op = 37 ∨ op = 38 ∨ op = 39 ∨ op = 40 ∨ op = 41 ∨ op = 42 ∨ op = 43 ∨ op = 44 ∨ op = 45) with rfl | rfl | rfl | rfl | rfl | rfl | rfl | rfl | rfl | rfl
  · obtain ⟨⟨a1, ha, rfl⟩, ⟨b1, hb, rfl⟩, ⟨c1, hc, rfl⟩⟩ := hok
    exact A36 hC hM ht ha hb hc x1 x2 x3 x4 x5 x6
  · obtain ⟨⟨a1, ha, rfl⟩, ⟨b1, hb, rfl⟩, ⟨c1, hc, rfl⟩⟩ := hok
    exact A37 hC hM ht ha hb hc x1 x2 x3 x4 x5 x6
  · obtain ⟨⟨a1, ha, rfl⟩, ⟨b1, hb, rfl⟩, ⟨c1, hc, rfl⟩⟩ := hok
    exact A38 hC hM ht ha hb hc x1 x2 x3 x4 x5 x6
  · obtain ⟨⟨a1, ha, rfl⟩, ⟨b1, hb, rfl⟩, ⟨c1, hc, rfl⟩⟩ := hok
    exact A39 hC hM ht ha hb hc x1 x2 x3 x4 x5 x6
  · obtain ⟨⟨a1, ha, rfl⟩, ⟨b1, hb, rfl⟩, ⟨c1, hc, rfl⟩⟩ := hok
    exact A40 hC hM ht ha hb hc x1 x2 x3 x4 x5 x6
  · obtain ⟨⟨a1, ha, rfl⟩, ⟨b1, hb, rfl⟩, ⟨c1, hc, rfl⟩⟩ := hok
    exact A41 hC hM ht ha hb hc x1 x2 x3 x4 x5 x6
  · obtain ⟨⟨a1, ha, rfl⟩, ⟨b1, hb, rfl⟩⟩ := hok
    exact A42 hC hM ht ha hb x1 x2 x3 x4 x5 x6
  · obtain ⟨⟨a1, ha, rfl⟩, ⟨b1, hb, rfl⟩, ⟨c1, hc, rfl⟩⟩ := hok
    exact A43 hC hM ht ha hb hc x1 x2 x3 x4 x5 x6
  · obtain ⟨⟨a1, ha, rfl⟩, ⟨b1, hb, rfl⟩, ⟨c1, hc, rfl⟩⟩ := hok
    exact A44 hC hM ht ha hb hc x1 x2 x3 x4 x5 x6
  · obtain ⟨⟨a1, ha, rfl⟩, ⟨b1, hb, rfl⟩, ⟨c1, hc, rfl⟩⟩ := hok
    exact A45 hC hM ht ha hb hc x1 x2 x3 x4 x5 x6
theorem R_handles2 {ci : Nat → Nat → Nat → Int32} {cn : Nat → Nat → Nat → Nat} {co : Nat → Option Nat} {xj : Nat → Nat → Nat → Int64} {xd : Nat → Nat → Nat → UInt64} {xf : Nat → Nat → Nat → UInt32} {xo : Nat → Nat → Nat → Option Nat} {xi : Nat → Nat → Nat → Int32} {xn : Nat → Nat → Nat → Nat} {K : Nat → Nat} {I : Nat → Nat → Int32} {J : Nat → Nat → Int64} {F : Nat → Nat → UInt32} {D : Nat → Nat → UInt64} {R : Nat → Nat → Option Nat} {nx sl : Nat} {Km : Nat → Nat} {Im : Nat → Nat → Int32} {Jm : Nat → Nat → Int64} {Fm : Nat → Nat → UInt32} {Dm : Nat → Nat → UInt64} {Rm : Nat → Nat → Option Nat} {nxm slm : Nat} (hC : RC ci cn co xj xd xf xo xi xn I J F D R nx sl) (hM : RM ci cn co xj xd xf xo xi xn Im Jm Dm) {t op : Nat} {a b c go : Int32} (ht : t < 3) (hok : OKA op a b c) (hop : 46 ≤ op ∧ op < 51) (x1 : Im 6 39 = nI t) (x2 : Im 6 40 = a) (x3 : Im 6 41 = b) (x4 : Im 6 42 = c) (x5 : Im 6 43 = nI 0) (x6 : Im 6 44 = go) : Ct Y_HA_perform [vr 1 55, vr 8 (32 + 7 * t), vi (nI op), vi a, vi b, vi c] (K, I, J, F, D, R, nx, sl) (fun r μ1 => Ct Y_MM_handles [vr 11 6, vi (nI op)] (Km, Im, Jm, Fm, Dm, Rm, nxm, slm) (fun r2 μ2 => r2 = none ∧ QA ci cn co go r μ1 μ2)) := by
  rcases (by omega : op = 46 ∨ op = 47 ∨ op = 48 ∨ op = 49 ∨ op = 50) with rfl | rfl | rfl | rfl | rfl
  · obtain ⟨⟨a1, ha, rfl⟩, ⟨b1, hb, rfl⟩⟩ := hok
    exact A46 hC hM ht ha hb x1 x2 x3 x4 x5 x6
  · obtain ⟨⟨a1, ha, rfl⟩, ⟨b1, hb, rfl⟩⟩ := hok
    exact A47 hC hM ht ha hb x1 x2 x3 x4 x5 x6
  · obtain ⟨⟨a1, ha, rfl⟩, ⟨b1, hb, rfl⟩, ⟨c1, hc, rfl⟩, hne⟩ := hok
    have hc15 : ¬ c1 = 15 := fun e => hne (by rw [e])
    rcases (by omega : c1 = 0 ∨ c1 = 1 ∨ c1 = 2 ∨ c1 = 3 ∨ c1 = 4 ∨ c1 = 5 ∨ c1 = 6 ∨ c1 = 7 ∨ c1 = 8 ∨ c1 = 9 ∨ c1 = 10 ∨ c1 = 11 ∨ c1 = 12 ∨ c1 = 13 ∨ c1 = 14 ∨ c1 = 16 ∨ c1 = 17 ∨ c1 = 18 ∨ c1 = 19 ∨ c1 = 20 ∨ c1 = 21 ∨ c1 = 22 ∨ c1 = 23 ∨ c1 = 24 ∨ c1 = 25) with rfl | rfl | rfl | rfl | rfl | rfl | rfl | rfl | rfl | rfl | rfl | rfl | rfl | rfl | rfl | rfl | rfl | rfl | rfl | rfl | rfl | rfl | rfl | rfl | rfl
    · exact A48_0 hC hM ht ha hb x1 x2 x3 x4 x5 x6
    · exact A48_1 hC hM ht ha hb x1 x2 x3 x4 x5 x6
    · exact A48_2 hC hM ht ha hb x1 x2 x3 x4 x5 x6
    · exact A48_3 hC hM ht ha hb x1 x2 x3 x4 x5 x6
    · exact A48_4 hC hM ht ha hb x1 x2 x3 x4 x5 x6
    · exact A48_5 hC hM ht ha hb x1 x2 x3 x4 x5 x6
    · exact A48_6 hC hM ht ha hb x1 x2 x3 x4 x5 x6
    · exact A48_7 hC hM ht ha hb x1 x2 x3 x4 x5 x6
    · exact A48_8 hC hM ht ha hb x1 x2 x3 x4 x5 x6
    · exact A48_9 hC hM ht ha hb x1 x2 x3 x4 x5 x6
    · exact A48_10 hC hM ht ha hb x1 x2 x3 x4 x5 x6
    · exact A48_11 hC hM ht ha hb x1 x2 x3 x4 x5 x6
    · exact A48_12 hC hM ht ha hb x1 x2 x3 x4 x5 x6
    · exact A48_13 hC hM ht ha hb x1 x2 x3 x4 x5 x6
    · exact A48_14 hC hM ht ha hb x1 x2 x3 x4 x5 x6
    · exact A48_16 hC hM ht ha hb x1 x2 x3 x4 x5 x6
    · exact A48_17 hC hM ht ha hb x1 x2 x3 x4 x5 x6
    · exact A48_18 hC hM ht ha hb x1 x2 x3 x4 x5 x6
    · exact A48_19 hC hM ht ha hb x1 x2 x3 x4 x5 x6
    · exact A48_20 hC hM ht ha hb x1 x2 x3 x4 x5 x6
    · exact A48_21 hC hM ht ha hb x1 x2 x3 x4 x5 x6
    · exact A48_22 hC hM ht ha hb x1 x2 x3 x4 x5 x6
    · exact A48_23 hC hM ht ha hb x1 x2 x3 x4 x5 x6
    · exact A48_24 hC hM ht ha hb x1 x2 x3 x4 x5 x6
    · exact A48_25 hC hM ht ha hb x1 x2 x3 x4 x5 x6
  · obtain ⟨⟨a1, ha, rfl⟩, ⟨b1, hb, rfl⟩, ⟨c1, hc, rfl⟩, hne⟩ := hok
    have hc15 : ¬ c1 = 15 := fun e => hne (by rw [e])
    rcases (by omega : c1 = 0 ∨ c1 = 1 ∨ c1 = 2 ∨ c1 = 3 ∨ c1 = 4 ∨ c1 = 5 ∨ c1 = 6 ∨ c1 = 7 ∨ c1 = 8 ∨ c1 = 9 ∨ c1 = 10 ∨ c1 = 11 ∨ c1 = 12 ∨ c1 = 13 ∨ c1 = 14 ∨ c1 = 16 ∨ c1 = 17 ∨ c1 = 18 ∨ c1 = 19 ∨ c1 = 20 ∨ c1 = 21 ∨ c1 = 22 ∨ c1 = 23 ∨ c1 = 24 ∨ c1 = 25) with rfl | rfl | rfl | rfl | rfl | rfl | rfl | rfl | rfl | rfl | rfl | rfl | rfl | rfl | rfl | rfl | rfl | rfl | rfl | rfl | rfl | rfl | rfl | rfl | rfl
    · exact A49_0 hC hM ht ha hb x1 x2 x3 x4 x5 x6
    · exact A49_1 hC hM ht ha hb x1 x2 x3 x4 x5 x6
    · exact A49_2 hC hM ht ha hb x1 x2 x3 x4 x5 x6
    · exact A49_3 hC hM ht ha hb x1 x2 x3 x4 x5 x6
    · exact A49_4 hC hM ht ha hb x1 x2 x3 x4 x5 x6
    · exact A49_5 hC hM ht ha hb x1 x2 x3 x4 x5 x6
    · exact A49_6 hC hM ht ha hb x1 x2 x3 x4 x5 x6
    · exact A49_7 hC hM ht ha hb x1 x2 x3 x4 x5 x6
    · exact A49_8 hC hM ht ha hb x1 x2 x3 x4 x5 x6
    · exact A49_9 hC hM ht ha hb x1 x2 x3 x4 x5 x6
    · exact A49_10 hC hM ht ha hb x1 x2 x3 x4 x5 x6
    · exact A49_11 hC hM ht ha hb x1 x2 x3 x4 x5 x6
    · exact A49_12 hC hM ht ha hb x1 x2 x3 x4 x5 x6
    · exact A49_13 hC hM ht ha hb x1 x2 x3 x4 x5 x6
    · exact A49_14 hC hM ht ha hb x1 x2 x3 x4 x5 x6
    · exact A49_16 hC hM ht ha hb x1 x2 x3 x4 x5 x6
    · exact A49_17 hC hM ht ha hb x1 x2 x3 x4 x5 x6
    · exact A49_18 hC hM ht ha hb x1 x2 x3 x4 x5 x6
    · exact A49_19 hC hM ht ha hb x1 x2 x3 x4 x5 x6
    · exact A49_20 hC hM ht ha hb x1 x2 x3 x4 x5 x6
    · exact A49_21 hC hM ht ha hb x1 x2 x3 x4 x5 x6
    · exact A49_22 hC hM ht ha hb x1 x2 x3 x4 x5 x6
    · exact A49_23 hC hM ht ha hb x1 x2 x3 x4 x5 x6
    · exact A49_24 hC hM ht ha hb x1 x2 x3 x4 x5 x6
    · exact A49_25 hC hM ht ha hb x1 x2 x3 x4 x5 x6
  · obtain ⟨⟨a1, ha, rfl⟩, ⟨b1, hb, rfl⟩, ⟨c1, hc, rfl⟩⟩ := hok
    exact A50 hC hM ht ha hb hc x1 x2 x3 x4 x5 x6
theorem R_meets {ci : Nat → Nat → Nat → Int32} {cn : Nat → Nat → Nat → Nat} {co : Nat → Option Nat} {xj : Nat → Nat → Nat → Int64} {xd : Nat → Nat → Nat → UInt64} {xf : Nat → Nat → Nat → UInt32} {xo : Nat → Nat → Nat → Option Nat} {xi : Nat → Nat → Nat → Int32} {xn : Nat → Nat → Nat → Nat} {K : Nat → Nat} {I : Nat → Nat → Int32} {J : Nat → Nat → Int64} {F : Nat → Nat → UInt32} {D : Nat → Nat → UInt64} {R : Nat → Nat → Option Nat} {nx sl : Nat} {Km : Nat → Nat} {Im : Nat → Nat → Int32} {Jm : Nat → Nat → Int64} {Fm : Nat → Nat → UInt32} {Dm : Nat → Nat → UInt64} {Rm : Nat → Nat → Option Nat} {nxm slm : Nat} (hC : RC ci cn co xj xd xf xo xi xn I J F D R nx sl) (hM : RM ci cn co xj xd xf xo xi xn Im Jm Dm) {t op : Nat} {a b c go : Int32} (ht : t < 3) (hok : OKA op a b c) (hop : 51 ≤ op ∧ op < 58) (x1 : Im 6 39 = nI t) (x2 : Im 6 40 = a) (x3 : Im 6 41 = b) (x4 : Im 6 42 = c) (x5 : Im 6 43 = nI 0) (x6 : Im 6 44 = go) : Ct Y_OA_perform [vr 4 13, vr 8 (32 + 7 * t), vi (nI op), vi a, vi b, vi c] (K, I, J, F, D, R, nx, sl) (fun r μ1 => Ct Y_MM_meets [vr 11 6, vi (nI op)] (Km, Im, Jm, Fm, Dm, Rm, nxm, slm) (fun r2 μ2 => r2 = none ∧ QA ci cn co go r μ1 μ2)) := by
  rcases (by omega : op = 51 ∨ op = 52 ∨ op = 53 ∨ op = 54 ∨ op = 55 ∨ op = 56 ∨ op = 57) with rfl | rfl | rfl | rfl | rfl | rfl | rfl
  · rcases hok with ⟨rfl, ⟨a1, ha, rfl⟩, ⟨c1, hc, rfl⟩⟩ | ⟨rfl, ⟨a1, ha, rfl⟩, ⟨c1, hc, rfl⟩⟩ | ⟨rfl, ⟨a1, ha, rfl⟩, ⟨c1, hc, rfl⟩⟩ | ⟨rfl, ⟨a1, ha, rfl⟩, ⟨c1, hc, rfl⟩⟩ | ⟨rfl, ⟨a1, ha, rfl⟩, ⟨c1, hc, rfl⟩⟩ | ⟨rfl, ⟨a1, ha, rfl⟩, ⟨c1, hc, rfl⟩⟩ | ⟨rfl, ⟨a1, ha, rfl⟩, ⟨c1, hc, rfl⟩⟩ | ⟨rfl, ⟨a1, ha, rfl⟩, ⟨c1, hc, rfl⟩⟩ | ⟨rfl, ⟨a1, ha, rfl⟩, ⟨c1, hc, rfl⟩⟩
    · exact A51_0 hC hM ht ha hc x1 x2 x3 x4 x5 x6
    · exact A51_1 hC hM ht ha hc x1 x2 x3 x4 x5 x6
    · exact A51_2 hC hM ht ha hc x1 x2 x3 x4 x5 x6
    · exact A51_3 hC hM ht ha hc x1 x2 x3 x4 x5 x6
    · exact A51_4 hC hM ht ha hc x1 x2 x3 x4 x5 x6
    · exact A51_5 hC hM ht ha hc x1 x2 x3 x4 x5 x6
    · exact A51_6 hC hM ht ha hc x1 x2 x3 x4 x5 x6
    · exact A51_7 hC hM ht ha hc x1 x2 x3 x4 x5 x6
    · exact A51_8 hC hM ht ha hc x1 x2 x3 x4 x5 x6
  · rcases hok with ⟨rfl, ⟨a1, ha, rfl⟩, ⟨c1, hc, rfl⟩⟩ | ⟨rfl, ⟨a1, ha, rfl⟩, ⟨c1, hc, rfl⟩⟩ | ⟨rfl, ⟨a1, ha, rfl⟩, ⟨c1, hc, rfl⟩⟩ | ⟨rfl, ⟨a1, ha, rfl⟩, ⟨c1, hc, rfl⟩⟩ | ⟨rfl, ⟨a1, ha, rfl⟩, ⟨c1, hc, rfl⟩⟩ | ⟨rfl, ⟨a1, ha, rfl⟩, ⟨c1, hc, rfl⟩⟩ | ⟨rfl, ⟨a1, ha, rfl⟩, ⟨c1, hc, rfl⟩⟩ | ⟨rfl, ⟨a1, ha, rfl⟩, ⟨c1, hc, rfl⟩⟩
    · exact A52_0 hC hM ht ha hc x1 x2 x3 x4 x5 x6
    · exact A52_1 hC hM ht ha hc x1 x2 x3 x4 x5 x6
    · exact A52_2 hC hM ht ha hc x1 x2 x3 x4 x5 x6
    · exact A52_3 hC hM ht ha hc x1 x2 x3 x4 x5 x6
    · exact A52_4 hC hM ht ha hc x1 x2 x3 x4 x5 x6
    · exact A52_6 hC hM ht ha hc x1 x2 x3 x4 x5 x6
    · exact A52_7 hC hM ht ha hc x1 x2 x3 x4 x5 x6
    · exact A52_8 hC hM ht ha hc x1 x2 x3 x4 x5 x6
  · obtain ⟨⟨a1, ha, rfl⟩, ⟨b1, hb, rfl⟩, ⟨c1, hc, rfl⟩⟩ := hok
    exact A53 hC hM ht ha hb hc x1 x2 x3 x4 x5 x6
  · obtain ⟨⟨a1, ha, rfl⟩, ⟨b1, hb, rfl⟩⟩ := hok
    exact A54 hC hM ht ha hb x1 x2 x3 x4 x5 x6
  · obtain ⟨⟨a1, ha, rfl⟩, ⟨b1, hb, rfl⟩⟩ := hok
    exact A55 hC hM ht ha hb x1 x2 x3 x4 x5 x6
  · obtain ⟨⟨a1, ha, rfl⟩, ⟨b1, hb, rfl⟩, ⟨c1, hc, rfl⟩⟩ := hok
    exact A56 hC hM ht ha hb hc x1 x2 x3 x4 x5 x6
  · obtain ⟨⟨a1, ha, rfl⟩, ⟨b1, hb, rfl⟩⟩ := hok
    exact A57 hC hM ht ha hb x1 x2 x3 x4 x5 x6
theorem RR_all : RR := ⟨R_reckons, R_makes, R_loads, R_stores, R_handles1, R_handles2, R_meets⟩
