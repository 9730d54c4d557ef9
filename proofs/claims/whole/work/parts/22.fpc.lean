theorem ev_cg {Y : mm_Y} {μ0 : mm_M} {rem : List mm_E} {L L2 : mm_L} {st st2 : List mm_V} {μ μ2 : mm_M} {Post : Option mm_V → mm_M → Prop} (hL : L = L2) (hs : st = st2) (hm : μ = μ2) (h : Ev Y μ0 rem L2 st2 μ2 Post) : Ev Y μ0 rem L st μ Post := by subst hL; subst hs; subst hm; exact h
theorem dv_mulp {s : Bool} {r j : Nat} {p : Int} (hj : j < 10) (hr : r < 9007199254740992) (h1 : -1074 ≤ p) (h2 : p ≤ 971) : FP.dmul (dv s r p) (pw2 j) = dv s r (p + ((2 ^ j : Nat) : Int)) := dv_mul hr h1 h2 (pw2_v hj)
theorem dv_divp {s : Bool} {r j : Nat} {p : Int} (hj : j < 10) (hr : r < 9007199254740992) (h1 : -1074 ≤ p) (h2 : p ≤ 971) : FP.ddiv (dv s r p) (pw2 j) = dv s r (p - ((2 ^ j : Nat) : Int)) := dv_div hr h1 h2 (pw2_v hj)
theorem dv_mul2 {s : Bool} {r : Nat} {p : Int} (hr : r < 9007199254740992) (h1 : -1074 ≤ p) (h2 : p ≤ 971) : FP.dmul (dv s r p) (UInt64.ofNat 4611686018427387904) = dv s r (p + 1) := dv_mul hr h1 h2 two_v
theorem dv_div2 {s : Bool} {r : Nat} {p : Int} (hr : r < 9007199254740992) (h1 : -1074 ≤ p) (h2 : p ≤ 971) : FP.ddiv (dv s r p) (UInt64.ofNat 4611686018427387904) = dv s r (p - 1) := dv_div hr h1 h2 two_v
theorem dv_mul52 {s : Bool} {r : Nat} {p : Int} (hr : r < 9007199254740992) (h1 : -1074 ≤ p) (h2 : p ≤ 971) : FP.dmul (dv s r p) (UInt64.ofNat 4841369599423283200) = dv s r (p + 52) := dv_mul hr h1 h2 p52_v
theorem dv_div52 {s : Bool} {r : Nat} {p : Int} (hr : r < 9007199254740992) (h1 : -1074 ≤ p) (h2 : p ≤ 971) : FP.ddiv (dv s r p) (UInt64.ofNat 4841369599423283200) = dv s r (p - 52) := dv_div hr h1 h2 p52_v
theorem dv_mul50 {s : Bool} {r : Nat} {p : Int} (hr : r < 9007199254740992) (h1 : -1074 ≤ p) (h2 : p ≤ 971) : FP.dmul (dv s r p) (UInt64.ofNat 4832362400168542208) = dv s r (p + 50) := dv_mul hr h1 h2 p50_v
theorem sc_bit : ∀ j, j < 10 → ∀ N, N < 1024 → ((nI N >>> (nI j &&& 31)) &&& nI 1) = nI (N / 2 ^ j % 2) := by decide +kernel
theorem bs_shl : ∀ j, j < 10 → (nI 1 <<< (nI j &&& 31)) = nI (2 ^ j) := by decide +kernel
theorem sh52 : ∀ E, E < 2048 → ((nI E).toInt64 <<< ((nI 52).toInt64 &&& 63)) = lN (E * 4503599627370496) := by decide +kernel
theorem ng_abs : ∀ N, N < 1024 → (if 0 ≤ -(nI (N + 1)) then -(nI (N + 1)) else 0 - -(nI (N + 1))) = nI (N + 1) := by decide +kernel
theorem ng_lt0 : ∀ N, N < 1024 → -(nI (N + 1)) < 0 := by decide +kernel
theorem ng_ge0 : ∀ N, N < 1024 → ¬ 0 ≤ -(nI (N + 1)) := by decide +kernel
theorem ng_le : ∀ a, a < 61 → ∀ b, b < 61 → (-(nI a) ≤ -(nI b) ↔ b ≤ a) := by decide +kernel
theorem ng_s1 : ∀ a, a < 61 → -(nI a) - nI 1 = -(nI (a + 1)) := by decide +kernel
theorem ng_0 : ∀ a, a < 61 → (-(nI a) ≤ nI 0) := by decide +kernel
theorem ng_00 : nI 0 = -(nI 0) := by decide
theorem p2le {j : Nat} (hj : j < 10) : 1 ≤ 2 ^ j ∧ 2 ^ j ≤ 512 := (by decide +kernel : ∀ j, j < 10 → 1 ≤ 2 ^ j ∧ 2 ^ j ≤ 512) j hj
theorem p2s (j : Nat) : 2 ^ (j + 1) = 2 * 2 ^ j := by rw [Nat.pow_succ, Nat.mul_comm]
theorem sc_loopP {K : Nat → Nat} {I : Nat → Nat → Int32} {J : Nat → Nat → Int64} {F : Nat → Nat → UInt32} {D : Nat → Nat → UInt64} {R : Nat → Nat → Option Nat} {nx sl : Nat} (hP : ∀ j, j < 10 → D 12 j = pw2 j) {μ0 : mm_M} {Post : Option mm_V → mm_M → Prop} {s : Bool} {r N : Nat} {p : Int} {x : UInt64} (hN : N < 1024) (hr : r < 9007199254740992) (h1 : -1074 ≤ p) (h3 : p + ((N : Nat) : Int) ≤ 971) (hPost : Post (some (vd (dv s r (p + ((N : Nat) : Int))))) (K, I, J, F, D, R, nx, sl)) : ∀ (n j : Nat), n + j = 10 → Ev Y_RE_scaled μ0 (mm_to (mm_co Y_RE_scaled) 16) [(0, vr 6 11), (1, vd x), (3, vi (nI N)), (4, vi (nI N)), (5, vd (dv s r (p + ((N % 2 ^ j : Nat) : Int)))), (7, vi (nI (j)))] [vi (nI 10), vi (nI j)] (K, I, J, F, D, R, nx, sl) Post := by
  have hk : 0 ≤ nI N := n_ge0 (by omega)
  intro n
  induction n with
  | zero =>
    intro j hj
    obtain rfl : j = 10 := by omega
    refine ev_go [true] [] rfl ⟨trivial, by decide⟩ ?_
    refine ev_retd rfl ?_
    rw [show N % 2 ^ 10 = N from Nat.mod_eq_of_lt hN]
    exact hPost
  | succ n ih =>
    intro j hj
    have hj10 : j < 10 := by omega
    have hb := sc_bit j hj10 N hN
    have hms : N % 2 ^ (j + 1) = N % 2 ^ j + 2 ^ j * (N / 2 ^ j % 2) := Nat.mod_pow_succ
    have hle : N % 2 ^ (j + 1) ≤ N := Nat.mod_le _ _
    have hc : ¬ nI 10 ≤ nI j := by rw [i_le (by decide) (by omega)]; omega
    have hp := p2le hj10
    have hin : vp_in (nI j) 10 := (v_in (by omega)).mpr hj10
    have hD : D 12 (nI j).toNatClampNeg = pw2 j := by rw [n_cl (by omega)]; exact hP j hj10
    rcases Nat.mod_two_eq_zero_or_one (N / 2 ^ j) with hz | hz
    · rw [hz] at hb hms
      refine ev_go [false, true] [] rfl ⟨⟨trivial, hc⟩, hb⟩ ?_
      refine ev_cg ?_ ?_ rfl (ih (j + 1) (by omega))
      · rw [show N % 2 ^ (j + 1) = N % 2 ^ j from hms, i_add] <;> rfl
      · rw [i_add] <;> rfl
    · rw [hz] at hb hms
      rw [Nat.mul_one] at hms
      have hb2 : ¬ (nI N >>> (nI j &&& 31)) &&& nI 1 = 0 := by rw [hb]; decide
      have hd : FP.dmul (dv s r (p + ((N % 2 ^ j : Nat) : Int))) (D 12 (nI j).toNatClampNeg) = dv s r (p + ((N % 2 ^ (j + 1) : Nat) : Int)) := by
        rw [hD, dv_mulp hj10 hr (by omega) (by omega)]
        congr 1
        omega
      refine ev_go [false, false, true] [] rfl ⟨⟨⟨⟨⟨trivial, hc⟩, hb2⟩, hk⟩, hin⟩, by rw [hd]; exact dv_n _ _ _⟩ ?_
      refine ev_cg ?_ ?_ rfl (ih (j + 1) (by omega))
      · rw [hd, i_add] <;> rfl
      · rw [i_add] <;> rfl
theorem C_RE_scaledP {K : Nat → Nat} {I : Nat → Nat → Int32} {J : Nat → Nat → Int64} {F : Nat → Nat → UInt32} {D : Nat → Nat → UInt64} {R : Nat → Nat → Option Nat} {nx sl : Nat} (hP : ∀ j, j < 10 → D 12 j = pw2 j) {s : Bool} {r N : Nat} {p : Int} (hN : N < 1024) (hr : r < 9007199254740992) (h1 : -1074 ≤ p) (h3 : p + ((N : Nat) : Int) ≤ 971) : mm_Det Y_RE_scaled [vr 6 11, vd (dv s r p), vi (nI N)] (K, I, J, F, D, R, nx, sl) (some (vd (dv s r (p + ((N : Nat) : Int))))) (K, I, J, F, D, R, nx, sl) := by
  refine det_of h_RE_scaled rfl rfl rfl ?_
  refine ev_go [] [] rfl trivial ?_
  refine ev_cg ?_ rfl rfl (sc_loopP hP (x := dv s r p) hN hr h1 h3 ⟨rfl, rfl⟩ 10 0 rfl)
  rw [if_pos (n_ge0 (by omega)), show N % 2 ^ 0 = 0 from Nat.mod_one _, show p + ((0 : Nat) : Int) = p by omega]
theorem sc_loopN {K : Nat → Nat} {I : Nat → Nat → Int32} {J : Nat → Nat → Int64} {F : Nat → Nat → UInt32} {D : Nat → Nat → UInt64} {R : Nat → Nat → Option Nat} {nx sl : Nat} (hP : ∀ j, j < 10 → D 12 j = pw2 j) {μ0 : mm_M} {Post : Option mm_V → mm_M → Prop} {s : Bool} {r n1 : Nat} {p : Int} {x : UInt64} (hN : n1 + 1 < 1024) (hr : r < 9007199254740992) (h2 : p ≤ 971) (h3 : -1074 ≤ p - (((n1 + 1) : Nat) : Int)) (hPost : Post (some (vd (dv s r (p - (((n1 + 1) : Nat) : Int))))) (K, I, J, F, D, R, nx, sl)) : ∀ (n j : Nat), n + j = 10 → Ev Y_RE_scaled μ0 (mm_to (mm_co Y_RE_scaled) 16) [(0, vr 6 11), (1, vd x), (3, vi (-(nI (n1 + 1)))), (4, vi (nI (n1 + 1))), (5, vd (dv s r (p - (((n1 + 1) % 2 ^ j : Nat) : Int)))), (7, vi (nI (j)))] [vi (nI 10), vi (nI j)] (K, I, J, F, D, R, nx, sl) Post := by
  have hk : ¬ 0 ≤ -(nI (n1 + 1)) := ng_ge0 n1 (by omega)
  intro n
  induction n with
  | zero =>
    intro j hj
    obtain rfl : j = 10 := by omega
    refine ev_go [true] [] rfl ⟨trivial, by decide⟩ ?_
    refine ev_retd rfl ?_
    rw [show (n1 + 1) % 2 ^ 10 = (n1 + 1) from Nat.mod_eq_of_lt hN]
    exact hPost
  | succ n ih =>
    intro j hj
    have hj10 : j < 10 := by omega
    have hb := sc_bit j hj10 (n1 + 1) hN
    have hms : (n1 + 1) % 2 ^ (j + 1) = (n1 + 1) % 2 ^ j + 2 ^ j * ((n1 + 1) / 2 ^ j % 2) := Nat.mod_pow_succ
    have hle : (n1 + 1) % 2 ^ (j + 1) ≤ (n1 + 1) := Nat.mod_le _ _
    have hc : ¬ nI 10 ≤ nI j := by rw [i_le (by decide) (by omega)]; omega
    have hp := p2le hj10
    have hin : vp_in (nI j) 10 := (v_in (by omega)).mpr hj10
    have hD : D 12 (nI j).toNatClampNeg = pw2 j := by rw [n_cl (by omega)]; exact hP j hj10
    rcases Nat.mod_two_eq_zero_or_one ((n1 + 1) / 2 ^ j) with hz | hz
    · rw [hz] at hb hms
      refine ev_go [false, true] [] rfl ⟨⟨trivial, hc⟩, hb⟩ ?_
      refine ev_cg ?_ ?_ rfl (ih (j + 1) (by omega))
      · rw [show (n1 + 1) % 2 ^ (j + 1) = (n1 + 1) % 2 ^ j from hms, i_add] <;> rfl
      · rw [i_add] <;> rfl
    · rw [hz] at hb hms
      rw [Nat.mul_one] at hms
      have hb2 : ¬ (nI (n1 + 1) >>> (nI j &&& 31)) &&& nI 1 = 0 := by rw [hb]; decide
      have hd : FP.ddiv (dv s r (p - (((n1 + 1) % 2 ^ j : Nat) : Int))) (D 12 (nI j).toNatClampNeg) = dv s r (p - (((n1 + 1) % 2 ^ (j + 1) : Nat) : Int)) := by
        rw [hD, dv_divp hj10 hr (by omega) (by omega)]
        congr 1
        omega
      refine ev_go [false, false, false] [] rfl ⟨⟨⟨⟨⟨trivial, hc⟩, hb2⟩, hk⟩, hin⟩, by rw [hd]; exact dv_n _ _ _⟩ ?_
      refine ev_cg ?_ ?_ rfl (ih (j + 1) (by omega))
      · rw [hd, i_add] <;> rfl
      · rw [i_add] <;> rfl
theorem C_RE_scaledN {K : Nat → Nat} {I : Nat → Nat → Int32} {J : Nat → Nat → Int64} {F : Nat → Nat → UInt32} {D : Nat → Nat → UInt64} {R : Nat → Nat → Option Nat} {nx sl : Nat} (hP : ∀ j, j < 10 → D 12 j = pw2 j) {s : Bool} {r n1 : Nat} {p : Int} (hN : n1 + 1 < 1024) (hr : r < 9007199254740992) (h2 : p ≤ 971) (h3 : -1074 ≤ p - (((n1 + 1) : Nat) : Int)) : mm_Det Y_RE_scaled [vr 6 11, vd (dv s r p), vi (-(nI (n1 + 1)))] (K, I, J, F, D, R, nx, sl) (some (vd (dv s r (p - (((n1 + 1) : Nat) : Int))))) (K, I, J, F, D, R, nx, sl) := by
  refine det_of h_RE_scaled rfl rfl rfl ?_
  refine ev_go [] [] rfl trivial ?_
  refine ev_cg ?_ rfl rfl (sc_loopN hP (x := dv s r p) hN hr h2 h3 ⟨rfl, rfl⟩ 10 0 rfl)
  rw [ng_abs n1 (by omega), show (n1 + 1) % 2 ^ 0 = 0 from Nat.mod_one _, show p - ((0 : Nat) : Int) = p by omega]
theorem mv_loopP {μ μ0 : mm_M} {Post : Option mm_V → mm_M → Prop} {s : Bool} {r N : Nat} {b : Int32} (hN : N < 61) (hr : r < 9007199254740992) (hPost : Post (some (vd (dv s r ((N : Nat) : Int)))) μ) : ∀ (n j : Nat), n + j = N → Ev Y_MM_moved μ0 (mm_to (mm_co Y_MM_moved) 9) [(0, vi b), (1, vi (nI N)), (2, vd (dv s r ((j : Nat) : Int))), (4, vi (nI j))] [vi (nI N), vi (nI j)] μ Post := by
  intro n
  induction n with
  | zero =>
    intro j hj
    obtain rfl : j = N := by omega
    refine ev_go [true, true] [] rfl ⟨⟨trivial, Int32.le_refl _⟩, by rw [i_le (by decide) (by omega)]; omega⟩ ?_
    exact ev_retd rfl hPost
  | succ n ih =>
    intro j hj
    have hc : ¬ nI N ≤ nI j := by rw [i_le (by omega) (by omega)]; omega
    have hd : FP.dmul (dv s r ((j : Nat) : Int)) (UInt64.ofNat 4611686018427387904) = dv s r (((j + 1 : Nat) : Nat) : Int) := by
      rw [dv_mul2 hr (by omega) (by omega)]
      congr 1
    refine ev_go [false] [] rfl ⟨⟨trivial, hc⟩, by rw [hd]; exact dv_n _ _ _⟩ ?_
    refine ev_cg ?_ ?_ rfl (ih (j + 1) (by omega))
    · rw [hd, i_add] <;> rfl
    · rw [i_add] <;> rfl
theorem mv_loopN {μ μ0 : mm_M} {Post : Option mm_V → mm_M → Prop} {s : Bool} {r N : Nat} {b : Int32} (hN : N < 61) (hr : r < 9007199254740992) (hPost : Post (some (vd (dv s r (0 - ((N : Nat) : Int))))) μ) : ∀ (n j : Nat), n + j = N → Ev Y_MM_moved μ0 (mm_to (mm_co Y_MM_moved) 30) [(0, vi b), (1, vi (-(nI N))), (2, vd (dv s r (0 - ((j : Nat) : Int)))), (4, vi (-(nI j)))] [vi (-(nI N)), vi (-(nI j))] μ Post := by
  intro n
  induction n with
  | zero =>
    intro j hj
    obtain rfl : j = N := by omega
    refine ev_go [true] [] rfl ⟨trivial, Int32.le_refl _⟩ ?_
    exact ev_retd rfl hPost
  | succ n ih =>
    intro j hj
    have hc : ¬ -(nI j) ≤ -(nI N) := by rw [ng_le j (by omega) N hN]; omega
    have hd : FP.ddiv (dv s r (0 - ((j : Nat) : Int))) (UInt64.ofNat 4611686018427387904) = dv s r (0 - ((j + 1 : Nat) : Int)) := by
      rw [dv_div2 hr (by omega) (by omega)]
      congr 1
      omega
    refine ev_go [false] [] rfl ⟨⟨trivial, hc⟩, by rw [hd]; exact dv_n _ _ _⟩ ?_
    refine ev_cg ?_ ?_ rfl (ih (j + 1) (by omega))
    · rw [hd, ng_s1 j (by omega)] <;> rfl
    · rw [ng_s1 j (by omega)] <;> rfl
theorem i31 (b : Int32) : b.toInt.natAbs < 9007199254740992 := by
  have h1 := b.toInt_lt
  have h2 := b.le_toInt
  omega
theorem C_MM_movedP {μ : mm_M} {N : Nat} {b : Int32} (hN : N < 61) : mm_Det Y_MM_moved [vi b, vi (nI N)] μ (some (vd (dv (decide (b.toInt < 0)) b.toInt.natAbs ((N : Nat) : Int)))) μ := by
  refine det_of h_MM_moved rfl rfl rfl ?_
  refine ev_go [] [] rfl trivial ?_
  exact ev_cg (by rw [i2d_dv]; rfl) rfl rfl (mv_loopP hN (i31 b) ⟨rfl, rfl⟩ N 0 rfl)
theorem C_MM_movedN {μ : mm_M} {N : Nat} {b : Int32} (hN : N < 61) : mm_Det Y_MM_moved [vi b, vi (-(nI N))] μ (some (vd (dv (decide (b.toInt < 0)) b.toInt.natAbs (0 - ((N : Nat) : Int))))) μ := by
  refine det_of h_MM_moved rfl rfl rfl ?_
  refine ev_go [true] [] rfl ⟨trivial, ng_0 N hN⟩ ?_
  exact ev_cg (by rw [i2d_dv, ← ng_00]; rfl) (by rw [← ng_00]) rfl (mv_loopN hN (i31 b) ⟨rfl, rfl⟩ N 0 rfl)
theorem C_RE_scIP {K : Nat → Nat} {I : Nat → Nat → Int32} {J : Nat → Nat → Int64} {F : Nat → Nat → UInt32} {D : Nat → Nat → UInt64} {R : Nat → Nat → Option Nat} {nx sl : Nat} (hP : ∀ j, j < 10 → D 12 j = pw2 j) {N : Nat} {b : Int32} (hN : N < 61) : mm_Det Y_RE_scaled [vr 6 11, vd (FP.i2d b), vi (nI N)] (K, I, J, F, D, R, nx, sl) (some (vd (dv (decide (b.toInt < 0)) b.toInt.natAbs ((N : Nat) : Int)))) (K, I, J, F, D, R, nx, sl) := by
  have h := C_RE_scaledP hP (K := K) (I := I) (J := J) (F := F) (R := R) (nx := nx) (sl := sl) (s := decide (b.toInt < 0)) (r := b.toInt.natAbs) (p := 0) (N := N) (by omega) (i31 b) (by omega) (by omega)
  rw [Int.zero_add, ← i2d_dv] at h
  exact h
theorem C_RE_scIN {K : Nat → Nat} {I : Nat → Nat → Int32} {J : Nat → Nat → Int64} {F : Nat → Nat → UInt32} {D : Nat → Nat → UInt64} {R : Nat → Nat → Option Nat} {nx sl : Nat} (hP : ∀ j, j < 10 → D 12 j = pw2 j) {n1 : Nat} {b : Int32} (hN : n1 + 1 < 61) : mm_Det Y_RE_scaled [vr 6 11, vd (FP.i2d b), vi (-(nI (n1 + 1)))] (K, I, J, F, D, R, nx, sl) (some (vd (dv (decide (b.toInt < 0)) b.toInt.natAbs (0 - ((n1 + 1 : Nat) : Int))))) (K, I, J, F, D, R, nx, sl) := by
  have h := C_RE_scaledN hP (K := K) (I := I) (J := J) (F := F) (R := R) (nx := nx) (sl := sl) (s := decide (b.toInt < 0)) (r := b.toInt.natAbs) (p := 0) (n1 := n1) (by omega) (i31 b) (by omega) (by omega)
  rw [← i2d_dv] at h
  exact h
theorem bs_loop {K : Nat → Nat} {I : Nat → Nat → Int32} {J : Nat → Nat → Int64} {F : Nat → Nat → UInt32} {D : Nat → Nat → UInt64} {R : Nat → Nat → Option Nat} {nx sl : Nat} (hP : ∀ j, j < 10 → D 12 j = pw2 j) {μ0 : mm_M} {Post : Option mm_V → mm_M → Prop} {x : UInt64} {E0 T : Nat} (hT : T < 4503599627370496) (h0 : 1 ≤ E0) (h1 : E0 ≤ 2046) (hPost : Post (some (vl (lN (E0 * 4503599627370496 + T)))) (K, I, J, F, D, R, nx, sl)) : ∀ (n E e : Nat), n ≤ 10 → e + E = E0 + 1023 → 1023 < E + 2 ^ n → E < 1023 + 2 ^ n → 1 ≤ E → E ≤ 2046 → Ev Y_RE_bitsOfSize μ0 (mm_to (mm_co Y_RE_bitsOfSize) 44) [(0, vr 6 11), (1, vd x), (3, vd (N64 E T)), (5, vi (nI e)), (6, vi (nI n - nI 1))] [vi (nI n - nI 1)] (K, I, J, F, D, R, nx, sl) Post := by
  intro n
  induction n with
  | zero =>
    intro E e hn he h3 h4 h5 h6
    rw [Nat.pow_zero] at h3 h4
    obtain rfl : E = 1023 := by omega
    obtain rfl : e = E0 := by omega
    have hd : FP.dmul (dv false T (-52)) (UInt64.ofNat 4841369599423283200) = dv false T 0 := by
      rw [dv_mul52 (by omega) (by omega) (by omega)]; rfl
    refine ev_go [true] [] rfl ⟨⟨⟨trivial, by decide⟩, by rw [N64_sub1 hT]; exact dv_n _ _ _⟩, by rw [N64_sub1 hT, hd]; exact dv_n _ _ _⟩ ?_
    refine ev_retl rfl ?_
    rw [N64_sub1 hT, hd, dv_d2l (by omega), sh52 e (by omega), show lN (e * 4503599627370496) + lN T = lN (e * 4503599627370496 + T) from (Int64.ofNat_add _ _).symm]
    exact hPost
  | succ j ih =>
    intro E e hn he h3 h4 h5 h6
    have hj10 : j < 10 := by omega
    have hp := p2le hj10
    rw [p2s] at h3 h4
    have hv : nI (j + 1) - nI 1 = nI j := i_sub (by omega)
    rw [hv]
    have hc : ¬ nI j < 0 := n_lt0 (by omega)
    have hin : vp_in (nI j) 10 := (v_in (by omega)).mpr hj10
    have hD : D 12 (nI j).toNatClampNeg = pw2 j := by rw [n_cl (by omega)]; exact hP j hj10
    have hs := bs_shl j hj10
    have k1 := N64_key (E := E) (T := T) h6 hT
    have k2 := N64_key (E := 1023 + 2 ^ j) (T := 0) (by omega) (by omega)
    have n1 := N64_n (E := E) (T := T) h6 hT
    have n2 := N64_n (E := 1023 + 2 ^ j) (T := 0) (by omega) (by omega)
    by_cases hA : E < 1023 + 2 ^ j
    · have g1 : Op.cmpValue (FP.dcmp (N64 E T) (D 12 (nI j).toNatClampNeg)) .l < 0 := by
        rw [hD, pw2_N, dc_lt n1 n2, k1, k2]; omega
      have hm : FP.dmul (N64 E T) (D 12 (nI j).toNatClampNeg) = N64 (E + 2 ^ j) T := by rw [hD]; exact N64_mul hj10 h5 (by omega) hT
      have k3 := N64_key (E := E + 2 ^ j) (T := T) (by omega) hT
      have n3 := N64_n (E := E + 2 ^ j) (T := T) (by omega) hT
      by_cases hB : E + 2 ^ j < 1024
      · have g2 : ¬ 0 ≤ Op.cmpValue (FP.dcmp (FP.dmul (N64 E T) (D 12 (nI j).toNatClampNeg)) (UInt64.ofNat 4611686018427387904)) .g := by
          rw [hm, dc_ge n3 nc_4611686018427387904, k3, fk_4611686018427387904]; omega
        refine ev_go [false, true, false] [] rfl ⟨⟨⟨⟨⟨⟨⟨⟨trivial, hc⟩, hin⟩, g1⟩, hin⟩, by rw [hm]; exact n3⟩, g2⟩, hin⟩, by rw [hm]; exact n3⟩ ?_
        refine ev_cg ?_ rfl rfl (ih (E + 2 ^ j) (e - 2 ^ j) (by omega) (by omega) (by omega) (by omega) (by omega) (by omega))
        rw [hm, hs, i_sub (by omega)] <;> rfl
      · have g2 : 0 ≤ Op.cmpValue (FP.dcmp (FP.dmul (N64 E T) (D 12 (nI j).toNatClampNeg)) (UInt64.ofNat 4611686018427387904)) .g := by
          rw [hm, dc_ge n3 nc_4611686018427387904, k3, fk_4611686018427387904]; omega
        refine ev_go [false, true, true] [] rfl ⟨⟨⟨⟨⟨⟨trivial, hc⟩, hin⟩, g1⟩, hin⟩, by rw [hm]; exact n3⟩, g2⟩ ?_
        exact ev_cg rfl rfl rfl (ih E e (by omega) he (by omega) (by omega) h5 h6)
    · have g1 : ¬ Op.cmpValue (FP.dcmp (N64 E T) (D 12 (nI j).toNatClampNeg)) .l < 0 := by
        rw [hD, pw2_N, dc_lt n1 n2, k1, k2]; omega
      have hm : FP.ddiv (N64 E T) (D 12 (nI j).toNatClampNeg) = N64 (E - 2 ^ j) T := by rw [hD]; exact N64_div hj10 (by omega) h6 hT
      refine ev_go [false, false] [] rfl ⟨⟨⟨⟨⟨trivial, hc⟩, hin⟩, g1⟩, hin⟩, by rw [hm]; exact N64_n (by omega) hT⟩ ?_
      refine ev_cg ?_ rfl rfl (ih (E - 2 ^ j) (e + 2 ^ j) (by omega) (by omega) (by omega) (by omega) (by omega) (by omega))
      rw [hm, hs, i_add] <;> rfl
theorem C_RE_bitsOfSize {K : Nat → Nat} {I : Nat → Nat → Int32} {J : Nat → Nat → Int64} {F : Nat → Nat → UInt32} {D : Nat → Nat → UInt64} {R : Nat → Nat → Option Nat} {nx sl : Nat} (hP : ∀ j, j < 10 → D 12 j = pw2 j) {x : UInt64} (hx : x.toNat < 9218868437227405312) : mm_Det Y_RE_bitsOfSize [vr 6 11, vd x] (K, I, J, F, D, R, nx, sl) (some (vl (lN x.toNat))) (K, I, J, F, D, R, nx, sl) := by
  have hn : vf_n64 x := (n64i x).mpr (by omega)
  have hk := fkd x
  refine det_of h_RE_bitsOfSize rfl rfl rfl ?_
  by_cases hs : x.toNat < 4503599627370496
  · have g1 : ¬ 0 ≤ Op.cmpValue (FP.dcmp x (UInt64.ofNat 4503599627370496)) .g := by
      rw [dc_ge hn nc_4503599627370496, fk_4503599627370496]; omega
    have hx2 : x = dv false x.toNat (-1074) := by
      have h := dv_self (x := x) (by omega)
      unfold mtO exO at h
      rw [if_pos (by omega), if_pos (by omega), show fM x = false from fM_f.mpr (by omega), show x.toNat % 2 ^ 63 % 4503599627370496 = x.toNat by omega] at h
      exact h
    have hD : D 12 (nI 9).toNatClampNeg = pw2 9 := by rw [n_cl (by omega)]; exact hP 9 (by decide)
    have m1 : FP.dmul x (D 12 (nI 9).toNatClampNeg) = dv false x.toNat (-562) := by
      rw [hD]; refine (congrArg (fun z => FP.dmul z (pw2 9)) hx2).trans ?_
      exact dv_mulp (by decide) (by omega) (by omega) (by omega)
    have m2 : FP.dmul (dv false x.toNat (-562)) (D 12 (nI 9).toNatClampNeg) = dv false x.toNat (-50) := by
      rw [hD]; exact dv_mulp (by decide) (by omega) (by omega) (by omega)
    have m3 : FP.dmul (dv false x.toNat (-50)) (UInt64.ofNat 4832362400168542208) = dv false x.toNat 0 := dv_mul50 (by omega) (by omega) (by omega)
    have hin : vp_in (nI 9) 10 := (v_in (by decide)).mpr (by decide)
    refine ev_go [false] [] rfl ⟨⟨⟨⟨⟨⟨trivial, g1⟩, hin⟩, by rw [m1]; exact dv_n _ _ _⟩, hin⟩, by rw [m1, m2]; exact dv_n _ _ _⟩, by rw [m1, m2, m3]; exact dv_n _ _ _⟩ ?_
    refine ev_retl rfl ?_
    rw [m1, m2, m3, dv_d2l (by omega)]
    exact ⟨rfl, rfl⟩
  · have g1 : 0 ≤ Op.cmpValue (FP.dcmp x (UInt64.ofNat 4503599627370496)) .g := by
      rw [dc_ge hn nc_4503599627370496, fk_4503599627370496]; omega
    have hx2 : x = N64 (x.toNat / 4503599627370496) (x.toNat % 4503599627370496) := u64e (by rw [N64_nat (by omega) (by omega)]; omega)
    have hx3 : x.toNat = x.toNat / 4503599627370496 * 4503599627370496 + x.toNat % 4503599627370496 := by omega
    refine ev_go [true] [] rfl ⟨trivial, g1⟩ ?_
    refine ev_cg (L2 := [(0, vr 6 11), (1, vd x), (3, vd (N64 (x.toNat / 4503599627370496) (x.toNat % 4503599627370496))), (5, vi (nI 1023)), (6, vi (nI 10 - nI 1))]) (st2 := [vi (nI 10 - nI 1)]) ?_ ?_ rfl (bs_loop hP (by omega) (E0 := x.toNat / 4503599627370496) (by omega) (by omega) ⟨?_, rfl⟩ 10 _ 1023 (by omega) (by omega) (by omega) (by omega) (by omega) (by omega))
    · rw [← hx2, show nI 10 - nI 1 = nI 9 from i_sub (by decide)] <;> rfl
    · rw [show nI 10 - nI 1 = nI 9 from i_sub (by decide)] <;> rfl
    · rw [← hx3]
theorem lN_u (n : Nat) : (lN n).toUInt64 = UInt64.ofNat n := rfl
theorem u_lN (n : Nat) : (UInt64.ofNat n).toInt64 = lN n := rfl
theorem lN_ush52 {b : Nat} (hb : b < 18446744073709551616) : ((lN b).toUInt64 >>> ((nI 52).toInt64.toUInt64 &&& Int64.toUInt64 63)).toInt64 = lN (b / 4503599627370496) := by
  rw [lN_u, ← u_lN]
  refine congrArg UInt64.toInt64 (u64e ?_)
  rw [UInt64.toNat_shiftRight, show ((nI 52).toInt64.toUInt64 &&& Int64.toUInt64 63).toNat % 64 = 52 by decide +kernel, UInt64.toNat_ofNat', UInt64.toNat_ofNat', Nat.mod_eq_of_lt (by omega), Nat.shiftRight_eq_div_pow, p52, Nat.mod_eq_of_lt (by omega)]
theorem lN_ush29 {b : Nat} (hb : b < 18446744073709551616) : ((lN b).toUInt64 >>> ((nI 29).toInt64.toUInt64 &&& Int64.toUInt64 63)).toInt64 = lN (b / 536870912) := by
  rw [lN_u, ← u_lN]
  refine congrArg UInt64.toInt64 (u64e ?_)
  rw [UInt64.toNat_shiftRight, show ((nI 29).toInt64.toUInt64 &&& Int64.toUInt64 63).toNat % 64 = 29 by decide +kernel, UInt64.toNat_ofNat', UInt64.toNat_ofNat', Nat.mod_eq_of_lt (by omega), Nat.shiftRight_eq_div_pow, show (2 : Nat) ^ 29 = 536870912 by decide, Nat.mod_eq_of_lt (by omega)]
theorem lN_bv (n : Nat) : (lN n).toBitVec = BitVec.ofNat 64 n := rfl
theorem lN_and {b k m : Nat} (hb : b < 18446744073709551616) (hm : m = 2 ^ k - 1) (hk : k < 64) : lN b &&& lN m = lN (b % 2 ^ k) := by
  subst hm
  have h2 : 2 ^ k ≤ 2 ^ 63 := Nat.pow_le_pow_right (by decide) (by omega)
  have h3 : b % 2 ^ k ≤ b := Nat.mod_le _ _
  apply Int64.toBitVec_inj.mp
  apply BitVec.eq_of_toNat_eq
  rw [Int64.toBitVec_and, BitVec.toNat_and, lN_bv, lN_bv, lN_bv, BitVec.toNat_ofNat, BitVec.toNat_ofNat, BitVec.toNat_ofNat, Nat.mod_eq_of_lt (by omega), Nat.mod_eq_of_lt (a := 2 ^ k - 1) (by omega), Nat.mod_eq_of_lt (a := b % 2 ^ k) (by omega)]
  exact Nat.and_two_pow_sub_one_eq_mod b k
theorem lN_or {b k m : Nat} (hm : m = 2 ^ k) (hb : b < 2 ^ k) (hk : k < 64) : lN b ||| lN m = lN (b + m) := by
  subst hm
  have h2 : 2 ^ k ≤ 2 ^ 63 := Nat.pow_le_pow_right (by decide) (by omega)
  apply Int64.toBitVec_inj.mp
  apply BitVec.eq_of_toNat_eq
  rw [Int64.toBitVec_or, BitVec.toNat_or, lN_bv, lN_bv, lN_bv, BitVec.toNat_ofNat, BitVec.toNat_ofNat, BitVec.toNat_ofNat, Nat.mod_eq_of_lt (by omega), Nat.mod_eq_of_lt (a := 2 ^ k) (by omega), Nat.mod_eq_of_lt (a := b + 2 ^ k) (by omega)]
  have h := Nat.two_pow_add_eq_or_of_lt hb 1
  rw [Nat.mul_one] at h
  rw [Nat.or_comm, ← h, Nat.add_comm]
theorem lN_e {a b : Nat} (ha : a < 9223372036854775808) (hb : b < 9223372036854775808) : lN a = lN b ↔ a = b := by
  constructor
  · intro h
    have h1 := congrArg Int64.toInt h
    rw [show (lN a).toInt = (a : Int) from lg_ofNat_toInt (by omega), show (lN b).toInt = (b : Int) from lg_ofNat_toInt (by omega)] at h1
    omega
  · rintro rfl; rfl
theorem lN_i32 {m : Nat} (h : m < 10000) : (lN m).toInt32 = nI m := by
  have e : (lN m).toInt = (m : Int) := lg_ofNat_toInt (by omega)
  apply Int32.toInt_inj.mp
  rw [FP.Core.int64_toInt32 (by rw [e]; omega) (by rw [e]; omega), e, nI_toInt (by omega)]
theorem lN_rem {a d : Nat} (ha : a < 9223372036854775808) (hd : 0 < d) (hd2 : d < 9223372036854775808) : lN a - lN a / lN d * lN d = lN (a % d) := by
  have ea : (lN a).toInt = (a : Int) := lg_ofNat_toInt (by omega)
  have ed : (lN d).toInt = (d : Int) := lg_ofNat_toInt (by omega)
  have hq : (lN a / lN d).toInt = ((a / d : Nat) : Int) := by
    rw [Int64.toInt_div_of_ne_right _ _ (by intro h; have := congrArg Int64.toInt h; rw [ed, show (-1 : Int64).toInt = -1 by decide] at this; omega), ea, ed]
    rfl
  have hle : a / d * d ≤ a := Nat.div_mul_le_self a d
  have hm : (lN a / lN d * lN d).toInt = ((a / d * d : Nat) : Int) := by
    rw [FP.Core.int64_mul (by rw [hq, ed, ← Int.natCast_mul]; omega) (by rw [hq, ed, ← Int.natCast_mul]; omega), hq, ed, ← Int.natCast_mul]
  have hdm := Nat.div_add_mod a d
  rw [Nat.mul_comm] at hdm
  apply Int64.toInt_inj.mp
  rw [FP.Core.int64_sub (by rw [ea, hm]; omega) (by rw [ea, hm]; omega), ea, hm, show (lN (a % d)).toInt = ((a % d : Nat) : Int) from lg_ofNat_toInt (by omega)]
  omega
theorem lN_shl {r m : Nat} (hm : m < 11) (hr : r < 9007199254740992) : lN r <<< ((nI m).toInt64 &&& 63) = lN (r * 2 ^ m) := by
  have h1 : ∀ m, m < 11 → ((nI m).toInt64 &&& 63).toBitVec.smod 64 = BitVec.ofNat 64 m := by decide +kernel
  have h2 : ∀ m, m < 11 → 2 ^ m ≤ 1024 := by decide +kernel
  have h3 := h2 m hm
  have h4 : r * 2 ^ m ≤ 9007199254740992 * 1024 := Nat.mul_le_mul (by omega) h3
  apply Int64.toBitVec_inj.mp
  apply BitVec.eq_of_toNat_eq
  rw [Int64.toBitVec_shiftLeft]
  rw [show ((nI m).toInt64 &&& 63).toBitVec.smod 64 = BitVec.ofNat 64 m from h1 m hm, BitVec.shiftLeft_eq', BitVec.toNat_shiftLeft, lN_bv, lN_bv, BitVec.toNat_ofNat, BitVec.toNat_ofNat, BitVec.toNat_ofNat, Nat.mod_eq_of_lt (a := m) (by omega), Nat.mod_eq_of_lt (a := r) (by omega), Nat.shiftLeft_eq]
theorem C_RE_mantissaOf {μ : mm_M} {b : Nat} (hb : b < 9218868437227405312) : mm_Det Y_RE_mantissaOf [vl (lN b)] μ (some (vl (lN (mtO b)))) μ := by
  have e1 := lN_ush52 (b := b) (by omega)
  have e2 : lN b &&& lN 4503599627370495 = lN (b % 4503599627370496) := lN_and (k := 52) (by omega) (by decide) (by decide)
  refine det_of h_RE_mantissaOf rfl rfl rfl ?_
  by_cases h0 : b / 4503599627370496 = 0
  · refine ev_go [false] [] rfl ⟨trivial, by rw [e1, lg_cmp_eq, h0]⟩ ?_
    refine ev_retl rfl ⟨?_, rfl⟩
    rw [e2]; unfold mtO; rw [if_pos h0]
  · refine ev_go [true] [] rfl ⟨trivial, by rw [e1, lg_cmp_eq, lN_e (by omega) (by omega)]; exact h0⟩ ?_
    refine ev_retl rfl ⟨?_, rfl⟩
    rw [e2, lN_or (k := 52) (by decide) (by omega) (by decide)]; unfold mtO; rw [if_neg h0]
theorem C_RE_exponentOf {μ : mm_M} {b : Nat} (hb : b < 9218868437227405312) : mm_Det Y_RE_exponentOf [vl (lN b)] μ (some (vi (nI (exO b)))) μ := by
  have e1 := lN_ush52 (b := b) (by omega)
  refine det_of h_RE_exponentOf rfl rfl rfl ?_
  refine ev_go [] [] rfl trivial ?_
  refine ev_reti rfl ⟨?_, rfl⟩
  rw [e1, lN_i32 (by omega)]
  unfold exO
  by_cases h0 : b / 4503599627370496 = 0
  · rw [if_pos h0, h0]; rfl
  · rw [if_neg h0]
    by_cases h1 : 1 < b / 4503599627370496
    · rw [if_pos ((i_lt (by decide) (by omega)).mpr h1)]
    · rw [if_neg (fun h => h1 ((i_lt (by decide) (by omega)).mp h)), show b / 4503599627370496 = 1 by omega]
theorem C_RE_bitsOfA {K : Nat → Nat} {I : Nat → Nat → Int32} {J : Nat → Nat → Int64} {F : Nat → Nat → UInt32} {D : Nat → Nat → UInt64} {R : Nat → Nat → Option Nat} {nx sl : Nat} (hP : ∀ j, j < 10 → D 12 j = pw2 j) {x : UInt64} {a : Nat} (hx : x.toNat = a) (ha : a < 9218868437227405312) : mm_Det Y_RE_bitsOfSize [vr 6 11, vd x] (K, I, J, F, D, R, nx, sl) (some (vl (lN a))) (K, I, J, F, D, R, nx, sl) := by
  subst hx; exact C_RE_bitsOfSize hP ha
theorem rm_loop {μ μ0 : mm_M} {Post : Option mm_V → mm_M → Prop} {x y sz bz : UInt64} {a b c d tot : Nat} (hd : 0 < d) (hd2 : d < 9007199254740992) (hX : ∀ v : Int32, v ≤ 0 → Ev Y_RE_remainder μ0 (mm_to (mm_co Y_RE_remainder) 95) [(0, vr 6 11), (1, vd x), (3, vd y), (5, vd sz), (7, vd bz), (9, vl (lN a)), (11, vl (lN b)), (13, vl (lN d)), (15, vl (lN (c * 2 ^ tot % d))), (17, vi (v))] [vi v] μ Post) : ∀ (n left k : Nat), left ≤ n → k + left = tot → 0 < left → left < 10000 → Ev Y_RE_remainder μ0 (mm_to (mm_co Y_RE_remainder) 95) [(0, vr 6 11), (1, vd x), (3, vd y), (5, vd sz), (7, vd bz), (9, vl (lN a)), (11, vl (lN b)), (13, vl (lN d)), (15, vl (lN (c * 2 ^ k % d))), (17, vi (nI left))] [vi (nI left)] μ Post := by
  intro n
  induction n with
  | zero => intro left k h1 h2 h3 h4; omega
  | succ n ih =>
    intro left k h1 h2 h3 h4
    have hc : ¬ nI left ≤ 0 := by rw [i_le0 h4]; omega
    have hr : c * 2 ^ k % d < d := Nat.mod_lt _ hd
    have hd0 : ¬ lN d = 0 := by rw [show (0 : Int64) = lN 0 from rfl, lN_e (by omega) (by omega)]; omega
    obtain ⟨m, hm, hmm⟩ : ∃ m, m < 11 ∧ ((left ≤ 10 ∧ m = left) ∨ (10 < left ∧ m = 10)) := by
      by_cases h9 : left ≤ 10
      · exact ⟨left, by omega, Or.inl ⟨h9, rfl⟩⟩
      · exact ⟨10, by decide, Or.inr ⟨by omega, rfl⟩⟩
    have hmin : (if nI 10 < nI left then nI 10 else nI left) = nI m := by
      rcases hmm with ⟨g1, rfl⟩ | ⟨g1, rfl⟩
      · rw [if_neg (fun h => by rw [i_lt (by decide) h4] at h; omega)]
      · rw [if_pos ((i_lt (by decide) h4).mpr g1)]
    have h2m : ∀ m, m < 11 → 2 ^ m ≤ 1024 := by decide +kernel
    have hb : c * 2 ^ k % d * 2 ^ m ≤ 9007199254740990 * 1024 := Nat.mul_le_mul (by omega) (h2m m hm)
    have hsh : lN (c * 2 ^ k % d) <<< ((if nI 10 < nI left then nI 10 else nI left).toInt64 &&& 63) = lN (c * 2 ^ k % d * 2 ^ m) := by
      rw [hmin]; exact lN_shl hm (by omega)
    have hre : lN (c * 2 ^ k % d * 2 ^ m) - lN (c * 2 ^ k % d * 2 ^ m) / lN d * lN d = lN (c * 2 ^ (k + m) % d) := by
      rw [lN_rem (by omega) hd (by omega), Nat.pow_add, ← Nat.mul_assoc, Nat.mul_mod, Nat.mod_mod, ← Nat.mul_mod]
    refine ev_go [false] [] rfl ⟨⟨trivial, hc⟩, hd0⟩ ?_
    rcases hmm with ⟨g1, rfl⟩ | ⟨g1, rfl⟩
    · refine ev_cg ?_ rfl rfl (hX (nI m - nI 10) ?_)
      · rw [hsh, hre, h2] <;> rfl
      · exact (by decide +kernel : ∀ m, m < 11 → nI m - nI 10 ≤ 0) m hm
    · have hs : nI left - nI 10 = nI (left - 10) := i_sub (by omega)
      refine ev_cg ?_ ?_ rfl (ih (left - 10) (k + 10) (by omega) (by omega) (by omega) (by omega))
      · rw [hsh, hre, hs] <;> rfl
      · rw [hs] <;> rfl
theorem C_RE_remainder {K : Nat → Nat} {I : Nat → Nat → Int32} {J : Nat → Nat → Int64} {F : Nat → Nat → UInt32} {D : Nat → Nat → UInt64} {R : Nat → Nat → Option Nat} {nx sl : Nat} (hP : ∀ j, j < 10 → D 12 j = pw2 j) {x y : UInt64} (hx : x.toNat % 2 ^ 63 < 9218868437227405312) (hy : vf_n64 y) (hy0 : ¬ y.toNat % 2 ^ 63 = 0) : mm_Det Y_RE_remainder [vr 6 11, vd x, vd y] (K, I, J, F, D, R, nx, sl) (some (vd (FP.drem x y))) (K, I, J, F, D, R, nx, sl) := by
  have hxn : vf_n64 x := (n64i x).mpr (by omega)
  have hyb := (n64i y).mp hy
  have kx := fkd x
  have ky := fkd y
  have nx1 := dneg_nat x
  have ny1 := dneg_nat y
  have kx2 := dneg_key x
  have ky2 := dneg_key y
  have hxm := dneg_n hxn
  have hym := dneg_n hy
  have main : ∀ sz bz : UInt64, vf_n64 sz → vf_n64 bz → FP.Core.dkey sz = ((x.toNat % 2 ^ 63 : Nat) : Int) → bz.toNat = y.toNat % 2 ^ 63 → (¬ x.toNat % 2 ^ 63 = 0 → sz.toNat = x.toNat % 2 ^ 63) → Ev Y_RE_remainder (K, I, J, F, D, R, nx, sl) (mm_to (mm_co Y_RE_remainder) 33) [(0, vr 6 11), (1, vd x), (3, vd y), (5, vd sz), (7, vd bz)] [vi (Op.cmpValue (FP.dcmp sz bz) .g)] (K, I, J, F, D, R, nx, sl) (fun r2 μ2 => r2 = some (vd (FP.drem x y)) ∧ μ2 = (K, I, J, F, D, R, nx, sl)) := by
    intro sz bz hsn hbn hsk hbt hst
    have kb := fkd bz
    by_cases hlt : x.toNat % 2 ^ 63 < y.toNat % 2 ^ 63
    · refine ev_go [false] [] rfl ⟨trivial, by rw [dc_ge hsn hbn]; omega⟩ ?_
      refine ev_retd rfl ⟨?_, rfl⟩
      by_cases hyi : y.toNat % 2 ^ 63 = 9218868437227405312
      · obtain ⟨t, ht⟩ := (dinf hy).mp hyi
        rw [drem_inf (fin_val hx) ht]
      · have hyf : y.toNat % 2 ^ 63 < 9218868437227405312 := by omega
        have hl := (size_lt hx hyf).mp hlt
        have h1 := exO_le hx
        have h2 := exO_le hyf
        rw [drem_lt (fin_val hx) (fin_val hyf)]
        rw [show (((exO (x.toNat % 2 ^ 63) : Nat) : Int) - 1075 - min (((exO (x.toNat % 2 ^ 63) : Nat) : Int) - 1075) (((exO (y.toNat % 2 ^ 63) : Nat) : Int) - 1075)).toNat = exO (x.toNat % 2 ^ 63) - min (exO (x.toNat % 2 ^ 63)) (exO (y.toNat % 2 ^ 63)) by omega, show (((exO (y.toNat % 2 ^ 63) : Nat) : Int) - 1075 - min (((exO (x.toNat % 2 ^ 63) : Nat) : Int) - 1075) (((exO (y.toNat % 2 ^ 63) : Nat) : Int) - 1075)).toNat = exO (y.toNat % 2 ^ 63) - min (exO (x.toNat % 2 ^ 63)) (exO (y.toNat % 2 ^ 63)) by omega]
        exact hl
    · have hyf : y.toNat % 2 ^ 63 < 9218868437227405312 := by omega
      have hge := size_ge hx hyf hlt
      have h1 := exO_le hx
      have h2 := exO_le hyf
      have hs := hst (by omega)
      have hmd : 0 < mtO (y.toNat % 2 ^ 63) := by unfold mtO; split <;> omega
      have hm1 := mtO_lt (x.toNat % 2 ^ 63)
      have hm2 := mtO_lt (y.toNat % 2 ^ 63)
      have hdr : FP.drem x y = dv (fM x) (mtO (x.toNat % 2 ^ 63) * 2 ^ (exO (x.toNat % 2 ^ 63) - exO (y.toNat % 2 ^ 63)) % mtO (y.toNat % 2 ^ 63)) (((exO (y.toNat % 2 ^ 63) : Nat) : Int) - 1075) := by
        rw [drem_dv (fin_val hx) (fin_val hyf) (by omega) (by omega)]
        rw [show (((exO (x.toNat % 2 ^ 63) : Nat) : Int) - 1075 - (((exO (y.toNat % 2 ^ 63) : Nat) : Int) - 1075)).toNat = exO (x.toNat % 2 ^ 63) - exO (y.toNat % 2 ^ 63) by omega]
      rw [hdr]
      generalize hga : x.toNat % 2 ^ 63 = a at *
      generalize hgb : y.toNat % 2 ^ 63 = b at *
      have hdl : ¬ lN (mtO b) = 0 := by rw [show (0 : Int64) = lN 0 from rfl, lN_e (by omega) (by omega)]; omega
      refine ev_go [true] [] rfl ⟨trivial, by rw [dc_ge hsn hbn]; omega⟩ ?_
      refine ev_kV 1 k_RE_49 rfl (C_RE_bitsOfA hP hs hx) rfl ⟨by decide, by decide⟩ rfl ?_
      refine ev_go [] [] rfl trivial ?_
      refine ev_kV 1 k_RE_49 rfl (C_RE_bitsOfA hP hbt hyf) rfl ⟨by decide, by decide⟩ rfl ?_
      refine ev_go [] [] rfl trivial ?_
      refine ev_kS 1 k_RE_53 rfl (C_RE_mantissaOf hyf) ⟨by decide, by decide⟩ rfl ?_
      refine ev_go [true] [] rfl ⟨trivial, by rw [lg_cmp_eq]; exact hdl⟩ ?_
      refine ev_kS 1 k_RE_53 rfl (C_RE_mantissaOf hx) ⟨by decide, by decide⟩ rfl ?_
      refine ev_go [] [] rfl ⟨trivial, hdl⟩ ?_
      refine ev_kS 1 k_RE_57 rfl (C_RE_exponentOf hx) ⟨by decide, by decide⟩ rfl ?_
      refine ev_go [] [] rfl trivial ?_
      refine ev_kS 1 k_RE_57 rfl (C_RE_exponentOf hyf) ⟨by decide, by decide⟩ rfl ?_
      refine ev_go [] [] rfl trivial ?_
      have hX : ∀ v : Int32, v ≤ 0 → Ev Y_RE_remainder (K, I, J, F, D, R, nx, sl) (mm_to (mm_co Y_RE_remainder) 95) [(0, vr 6 11), (1, vd x), (3, vd y), (5, vd sz), (7, vd bz), (9, vl (lN a)), (11, vl (lN b)), (13, vl (lN (mtO b))), (15, vl (lN (mtO a * 2 ^ (exO a - exO b) % mtO b))), (17, vi v)] [vi v] (K, I, J, F, D, R, nx, sl) (fun r2 μ2 => r2 = some (vd (dv (fM x) (mtO a * 2 ^ (exO a - exO b) % mtO b) (((exO b : Nat) : Int) - 1075))) ∧ μ2 = (K, I, J, F, D, R, nx, sl)) := by
        intro v hv
        have hrl : mtO a * 2 ^ (exO a - exO b) % mtO b < mtO b := Nat.mod_lt _ hmd
        generalize mtO a * 2 ^ (exO a - exO b) % mtO b = rest at *
        have hq : FP.ddiv (FP.l2d (lN rest)) (UInt64.ofNat 4841369599423283200) = dv false rest (-52) := by
          rw [← dv_l2d (by omega), dv_div52 (by omega) (by omega) (by omega)]; rfl
        have tail : ∀ w : UInt64, w = dv false rest (((exO b : Nat) : Int) - 1075) → Ev Y_RE_remainder (K, I, J, F, D, R, nx, sl) (mm_to (mm_co Y_RE_remainder) 139) [(0, vr 6 11), (1, vd x), (3, vd y), (5, vd sz), (7, vd bz), (9, vl (lN a)), (11, vl (lN b)), (13, vl (lN (mtO b))), (15, vl (lN rest)), (17, vi v)] [vd w] (K, I, J, F, D, R, nx, sl) (fun r2 μ2 => r2 = some (vd (dv (fM x) rest (((exO b : Nat) : Int) - 1075))) ∧ μ2 = (K, I, J, F, D, R, nx, sl)) := by
          intro w hw
          subst hw
          refine ev_go [] [] rfl trivial ?_
          refine ev_kS 1 k_RE_19 rfl (C_RE_isMinus hxn) ⟨by decide, by decide⟩ rfl ?_
          cases hfm : fM x with
          | true =>
            refine ev_go [false] [] rfl ⟨trivial, by decide⟩ ?_
            refine ev_retd rfl ⟨?_, rfl⟩
            rw [dv_neg]; rfl
          | false =>
            refine ev_go [true] [] rfl ⟨trivial, by decide⟩ ?_
            exact ev_retd rfl ⟨rfl, rfl⟩
        refine ev_go [true] [] rfl ⟨⟨trivial, hv⟩, by rw [hq]; exact dv_n _ _ _⟩ ?_
        refine ev_kS 1 k_RE_57 rfl (C_RE_exponentOf hyf) ⟨by decide, by decide⟩ rfl ?_
        refine ev_go [] [] rfl trivial ?_
        by_cases hE : 1023 ≤ exO b
        · refine ev_cg rfl (st2 := [vi (nI (exO b - 1023)), vd (dv false rest (-52)), vr 6 11]) (by rw [hq]; show [vi (nI (exO b) - nI 1023), _, _] = _; rw [i_sub hE]) rfl ?_
          refine ev_kV 2 k_RE_65 rfl (C_RE_scaledP hP (by omega) (by omega) (by omega) (by omega)) rfl ⟨by decide, by decide⟩ rfl ?_
          exact tail _ (congrArg (dv false rest) (by omega))
        · obtain ⟨n1, hn1⟩ : ∃ n1, exO b + (n1 + 1) = 1023 := ⟨1022 - exO b, by omega⟩
          have hng : nI (exO b) - nI 1023 = -(nI (n1 + 1)) := by
            rw [← hn1, ← i_add]
            generalize nI (exO b) = u
            generalize nI (n1 + 1) = w
            rw [Int32.sub_eq_add_neg, Int32.neg_add, Int32.sub_eq_add_neg, ← Int32.add_assoc, Int32.add_right_neg, Int32.zero_add]
          refine ev_cg rfl (st2 := [vi (-(nI (n1 + 1))), vd (dv false rest (-52)), vr 6 11]) (by rw [hq]; show [vi (nI (exO b) - nI 1023), _, _] = _; rw [hng]) rfl ?_
          refine ev_kV 2 k_RE_65 rfl (C_RE_scaledN hP (by omega) (by omega) (by omega) (by omega)) rfl ⟨by decide, by decide⟩ rfl ?_
          exact tail _ (congrArg (dv false rest) (by omega))
      have hfst : lN (mtO a) - lN (mtO a) / lN (mtO b) * lN (mtO b) = lN (mtO a * 2 ^ 0 % mtO b) := by
        rw [lN_rem (by omega) hmd (by omega), Nat.pow_zero, Nat.mul_one]
      have hsb : nI (exO a) - nI (exO b) = nI (exO a - exO b) := i_sub hge
      by_cases hz : exO a - exO b = 0
      · refine ev_cg ?_ rfl rfl (hX (nI (exO a) - nI (exO b)) ?_)
        · rw [hfst, hz] <;> rfl
        · rw [hsb, hz]; decide
      · refine ev_cg ?_ ?_ rfl (rm_loop hmd hm2 hX (exO a - exO b) (exO a - exO b) 0 (by omega) (by omega) (by omega) (by omega))
        · rw [hfst, hsb] <;> rfl
        · rw [hsb] <;> rfl
  refine det_of h_RE_remainder rfl rfl rfl ?_
  by_cases c1 : FP.Core.dkey x < 0
  · by_cases c2 : FP.Core.dkey y < 0
    · refine ev_go [false, false] [] rfl ⟨⟨trivial, by rw [dc_ge hxn nc_0, fk_0]; omega⟩, by rw [dc_ge hy nc_0, fk_0]; omega⟩ ?_
      exact main _ _ hxm hym (by omega) (by omega) (fun _ => by omega)
    · refine ev_go [false, true] [] rfl ⟨⟨trivial, by rw [dc_ge hxn nc_0, fk_0]; omega⟩, by rw [dc_ge hy nc_0, fk_0]; omega⟩ ?_
      exact main _ _ hxm hy (by omega) (by omega) (fun _ => by omega)
  · by_cases c2 : FP.Core.dkey y < 0
    · refine ev_go [true, false] [] rfl ⟨⟨trivial, by rw [dc_ge hxn nc_0, fk_0]; omega⟩, by rw [dc_ge hy nc_0, fk_0]; omega⟩ ?_
      exact main _ _ hxn hym (by omega) (by omega) (fun _ => by omega)
    · refine ev_go [true, true] [] rfl ⟨⟨trivial, by rw [dc_ge hxn nc_0, fk_0]; omega⟩, by rw [dc_ge hy nc_0, fk_0]; omega⟩ ?_
      exact main _ _ hxn hy (by omega) (by omega) (fun _ => by omega)
