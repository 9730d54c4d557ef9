/-! one abstract state beside both memories: control (ci cn co), data (xj xd xf xo xi xn) -/
def u3 {α : Type} (f : Nat → Nat → Nat → α) (c i k : Nat) (v : α) : Nat → Nat → Nat → α := fun c1 i1 k1 => if c1 = c ∧ i1 = i ∧ k1 = k then v else f c1 i1 k1
def u1 {α : Type} (f : Nat → α) (i : Nat) (v : α) : Nat → α := fun j => if j = i then v else f j
def eI : Option Nat → Int32
  | none => -(nI 1)
  | some i => nI i
def eL (o : Option Nat) : Int64 := (eI o).toInt64
def tR : Option Nat → Option Nat
  | none => none
  | some i => some (94 + 4 * i)
def pw2 (j : Nat) : UInt64 := UInt64.ofNat ((1023 + 2 ^ j) * 2 ^ 52)
def cJ (xj : Nat → Nat → Nat → Int64) (xn : Nat → Nat → Nat → Nat) (J : Nat → Nat → Int64) : Prop := (∀ t, t < 3 → ∀ k, k < 8 → J (32 + 7 * t + 1) (k) = xj 0 t k) ∧ (∀ i, i < xn 2 0 0 → ∀ k, k < xn 1 i 0 → xn 0 i 0 < 6 → J (94 + 4 * i + 1) (k) = xj 1 i k) ∧ (∀ i, i < xn 2 0 0 → J (94 + 4 * i) (8) = xj 2 i 0)
def cD (xd : Nat → Nat → Nat → UInt64) (xn : Nat → Nat → Nat → Nat) (D : Nat → Nat → UInt64) : Prop := (∀ t, t < 3 → ∀ k, k < 4 → D (32 + 7 * t + 2) (k) = xd 0 t k) ∧ (∀ i, i < xn 2 0 0 → ∀ k, k < xn 1 i 0 → 6 ≤ xn 0 i 0 → xn 0 i 0 < 8 → D (94 + 4 * i + 2) (k) = xd 1 i k) ∧ (∀ i, i < xn 2 0 0 → D (94 + 4 * i) (9) = xd 2 i 0) ∧ (∀ j, j < 10 → D (12) (j) = pw2 j)
def cF (xf : Nat → Nat → Nat → UInt32) (xn : Nat → Nat → Nat → Nat) (F : Nat → Nat → UInt32) : Prop := (∀ t, t < 3 → ∀ k, k < 4 → F (32 + 7 * t + 3) (k) = xf 0 t k) ∧ (∀ i, i < xn 2 0 0 → F (94 + 4 * i) (10) = xf 1 i 0)
def cR (cn : Nat → Nat → Nat → Nat) (co : Nat → Option Nat) (xo : Nat → Nat → Nat → Option Nat) (xn : Nat → Nat → Nat → Nat) (R : Nat → Nat → Option Nat) : Prop := (∀ t, t < 3 → ∀ k, k < 8 → R (32 + 7 * t + 4) (k) = tR (xo 0 t k)) ∧ (∀ i, i < xn 2 0 0 → ∀ k, k < xn 1 i 0 → 8 ≤ xn 0 i 0 → R (94 + 4 * i + 3) (k) = tR (xo 1 i k)) ∧ (∀ i, i < xn 2 0 0 → R (94 + 4 * i) (11) = tR (xo 2 i 0)) ∧ (∀ i, i < xn 2 0 0 → R (94 + 4 * i) (12) = tR (xo 3 i 0)) ∧ (∀ t, t < 3 → R (32 + 7 * t) (14) = tR (co t)) ∧ (∀ t, t < 3 → ∀ k, k < cn 0 t 0 → R (32 + 7 * t + 5) (k) = some (14 + 3 * cn 1 t k)) ∧ (∀ i, i < xn 3 0 0 → R (10) (i) = some (94 + 4 * i)) ∧ (∀ i, i < 160 → xn 3 0 0 ≤ i → R (10) (i) = none) ∧ (∀ p, p < 6 → R (7) (p) = some (14 + 3 * p)) ∧ (∀ t, t < 3 → R (8) (t) = some (32 + 7 * t))
def cI (ci : Nat → Nat → Nat → Int32) (cn : Nat → Nat → Nat → Nat) (xo : Nat → Nat → Nat → Option Nat) (xi : Nat → Nat → Nat → Int32) (xn : Nat → Nat → Nat → Nat) (I : Nat → Nat → Int32) : Prop := (∀ p, p < 6 → I (14 + 3 * p) (0) = nI p) ∧ (∀ p, p < 6 → I (14 + 3 * p) (1) = nI (cn 3 p 0)) ∧ (∀ p, p < 6 → I (14 + 3 * p) (2) = nI (cn 4 p 0)) ∧ (∀ p, p < 6 → ∀ k, k < cn 3 p 0 → I (14 + 3 * p + 1) (4 * k) = nI (cn 5 p k)) ∧ (∀ p, p < 6 → ∀ k, k < cn 3 p 0 → I (14 + 3 * p + 1) (4 * k + 1) = ci 6 p k) ∧ (∀ p, p < 6 → ∀ k, k < cn 3 p 0 → I (14 + 3 * p + 1) (4 * k + 2) = ci 7 p k) ∧ (∀ p, p < 6 → ∀ k, k < cn 3 p 0 → I (14 + 3 * p + 1) (4 * k + 3) = ci 8 p k) ∧ (∀ p, p < 6 → ∀ k, k < cn 4 p 0 → I (14 + 3 * p + 2) (4 * k) = nI (cn 6 p k)) ∧ (∀ p, p < 6 → ∀ k, k < cn 4 p 0 → I (14 + 3 * p + 2) (4 * k + 1) = nI (cn 7 p k)) ∧ (∀ p, p < 6 → ∀ k, k < cn 4 p 0 → I (14 + 3 * p + 2) (4 * k + 2) = ci 9 p k) ∧ (∀ p, p < 6 → ∀ k, k < cn 4 p 0 → I (14 + 3 * p + 2) (4 * k + 3) = nI (cn 8 p k)) ∧ (∀ t, t < 3 → I (32 + 7 * t) (0) = nI t) ∧ (∀ t, t < 3 → I (32 + 7 * t) (7) = nI (cn 0 t 0)) ∧ (∀ t, t < 3 → ∀ k, k < cn 0 t 0 → I (32 + 7 * t + 6) (k) = nI (cn 2 t k)) ∧ (∀ t, t < 3 → I (32 + 7 * t) (8) = ci 0 t 0) ∧ (∀ t, t < 3 → I (32 + 7 * t) (9) = ci 1 t 0) ∧ (∀ t, t < 3 → I (32 + 7 * t) (10) = ci 5 t 0) ∧ (∀ t, t < 3 → I (32 + 7 * t) (11) = ci 2 t 0) ∧ (∀ t, t < 3 → I (32 + 7 * t) (12) = ci 3 t 0) ∧ (∀ t, t < 3 → I (32 + 7 * t) (13) = ci 4 t 0) ∧ (I (9) (1) = nI (xn 2 0 0)) ∧ (I (13) (1) = xi 3 0 0) ∧ (∀ i, i < xn 3 0 0 → I (94 + 4 * i) (0) = nI i) ∧ (∀ i, i < xn 2 0 0 → I (94 + 4 * i) (1) = nI (xn 0 i 0)) ∧ (∀ i, i < xn 2 0 0 → I (94 + 4 * i) (2) = nI (xn 1 i 0)) ∧ (∀ i, i < xn 2 0 0 → I (94 + 4 * i) (3) = eI (xo 4 i 0)) ∧ (∀ i, i < xn 2 0 0 → I (94 + 4 * i) (4) = xi 0 i 0) ∧ (∀ i, i < xn 2 0 0 → I (94 + 4 * i) (13) = xi 1 i 0) ∧ (∀ i, i < xn 2 0 0 → I (94 + 4 * i) (14) = xi 2 i 0) ∧ (∀ i, i < xn 2 0 0 → I (94 + 4 * i) (15) = xi 2 i 1) ∧ (∀ i, i < xn 2 0 0 → I (94 + 4 * i) (16) = xi 2 i 2)
def mJ (xj : Nat → Nat → Nat → Int64) (xo : Nat → Nat → Nat → Option Nat) (xn : Nat → Nat → Nat → Nat) (J : Nat → Nat → Int64) : Prop := (∀ t, t < 3 → ∀ k, k < 8 → J (30) (8 * t + k) = xj 0 t k) ∧ (∀ i, i < xn 2 0 0 → ∀ k, k < xn 1 i 0 → xn 0 i 0 < 6 → J (9) (12 * i + k) = xj 1 i k) ∧ (∀ i, i < xn 2 0 0 → ∀ k, k < xn 1 i 0 → 8 ≤ xn 0 i 0 → J (9) (12 * i + k) = eL (xo 1 i k)) ∧ (∀ i, i < xn 2 0 0 → J (11) (i) = xj 2 i 0)
def mD (xd : Nat → Nat → Nat → UInt64) (xf : Nat → Nat → Nat → UInt32) (xn : Nat → Nat → Nat → Nat) (D : Nat → Nat → UInt64) : Prop := (∀ t, t < 3 → ∀ k, k < 4 → D (31) (4 * t + k) = xd 0 t k) ∧ (∀ t, t < 3 → ∀ k, k < 4 → D (32) (4 * t + k) = FP.f2d (xf 0 t k)) ∧ (∀ i, i < xn 2 0 0 → ∀ k, k < xn 1 i 0 → 6 ≤ xn 0 i 0 → xn 0 i 0 < 8 → D (10) (12 * i + k) = xd 1 i k) ∧ (∀ i, i < xn 2 0 0 → D (12) (i) = xd 2 i 0) ∧ (∀ i, i < xn 2 0 0 → D (13) (i) = FP.f2d (xf 1 i 0))
def mI (ci : Nat → Nat → Nat → Int32) (cn : Nat → Nat → Nat → Nat) (co : Nat → Option Nat) (xo : Nat → Nat → Nat → Option Nat) (xi : Nat → Nat → Nat → Int32) (xn : Nat → Nat → Nat → Nat) (I : Nat → Nat → Int32) : Prop := (I (6) (0) = nI (xn 2 0 0)) ∧ (I (6) (14) = xi 3 0 0) ∧ (∀ i, i < xn 2 0 0 → I (7) (i) = nI (xn 0 i 0)) ∧ (∀ i, i < xn 2 0 0 → I (8) (i) = nI (xn 1 i 0)) ∧ (∀ i, i < xn 2 0 0 → I (14) (i) = eI (xo 2 i 0)) ∧ (∀ i, i < xn 2 0 0 → I (15) (i) = eI (xo 3 i 0)) ∧ (∀ i, i < xn 2 0 0 → I (16) (i) = xi 1 i 0) ∧ (∀ i, i < xn 2 0 0 → ∀ k, k < 3 → I (17) (3 * i + k) = xi 2 i k) ∧ (∀ i, i < xn 2 0 0 → I (18) (i) = eI (xo 4 i 0)) ∧ (∀ i, i < xn 2 0 0 → I (19) (i) = xi 0 i 0) ∧ (∀ p, p < 6 → I (20) (p) = nI (cn 3 p 0)) ∧ (∀ p, p < 6 → ∀ k, k < cn 3 p 0 → I (21) (40 * p + k) = nI (cn 5 p k)) ∧ (∀ p, p < 6 → ∀ k, k < cn 3 p 0 → I (22) (40 * p + k) = ci 6 p k) ∧ (∀ p, p < 6 → ∀ k, k < cn 3 p 0 → I (23) (40 * p + k) = ci 7 p k) ∧ (∀ p, p < 6 → ∀ k, k < cn 3 p 0 → I (24) (40 * p + k) = ci 8 p k) ∧ (∀ p, p < 6 → I (25) (p) = nI (cn 4 p 0)) ∧ (∀ p, p < 6 → ∀ k, k < cn 4 p 0 → I (26) (6 * p + k) = nI (cn 6 p k)) ∧ (∀ p, p < 6 → ∀ k, k < cn 4 p 0 → I (27) (6 * p + k) = nI (cn 7 p k)) ∧ (∀ p, p < 6 → ∀ k, k < cn 4 p 0 → I (28) (6 * p + k) = ci 9 p k) ∧ (∀ p, p < 6 → ∀ k, k < cn 4 p 0 → I (29) (6 * p + k) = nI (cn 8 p k)) ∧ (∀ t, t < 3 → ∀ k, k < 8 → I (33) (8 * t + k) = eI (xo 0 t k)) ∧ (∀ t, t < 3 → I (34) (t) = zb (decide (0 < cn 0 t 0))) ∧ (∀ t, t < 3 → I (35) (t) = nI (cn 0 t 0)) ∧ (∀ t, t < 3 → ∀ k, k < cn 0 t 0 → I (36) (8 * t + k) = nI (cn 1 t k)) ∧ (∀ t, t < 3 → ∀ k, k < cn 0 t 0 → I (37) (8 * t + k) = nI (cn 2 t k)) ∧ (∀ t, t < 3 → I (38) (t) = ci 0 t 0) ∧ (∀ t, t < 3 → I (39) (t) = ci 1 t 0) ∧ (∀ t, t < 3 → I (40) (t) = ci 2 t 0) ∧ (∀ t, t < 3 → I (41) (t) = ci 3 t 0) ∧ (∀ t, t < 3 → I (42) (t) = ci 4 t 0) ∧ (∀ t, t < 3 → I (43) (t) = eI (co t))
def IX (co : Nat → Option Nat) (xd : Nat → Nat → Nat → UInt64) (xf : Nat → Nat → Nat → UInt32) (xo : Nat → Nat → Nat → Option Nat) (xn : Nat → Nat → Nat → Nat) : Prop := (∀ t, t < 3 → ∀ k, k < 8 → ∀ q, xo 0 t k = some q → q < xn 2 0 0) ∧ (∀ i, i < xn 2 0 0 → ∀ k, k < xn 1 i 0 → 8 ≤ xn 0 i 0 → ∀ q, xo 1 i k = some q → q < xn 2 0 0) ∧ (∀ i, i < xn 2 0 0 → ∀ q, xo 2 i 0 = some q → q < xn 2 0 0) ∧ (∀ i, i < xn 2 0 0 → ∀ q, xo 3 i 0 = some q → q < xn 2 0 0) ∧ (∀ i, i < xn 2 0 0 → ∀ q, xo 4 i 0 = some q → q < 3) ∧ (∀ i, i < xn 2 0 0 → xn 0 i 0 ≤ 20 ∧ xn 0 i 0 ≠ 15 ∧ xn 1 i 0 ≤ 12 ∧ (16 ≤ xn 0 i 0 → xn 1 i 0 = 0)) ∧ (∀ t, t < 3 → ∀ k, k < 4 → vf_n64 (xd 0 t k)) ∧ (∀ i, i < xn 2 0 0 → ∀ k, k < xn 1 i 0 → 6 ≤ xn 0 i 0 → xn 0 i 0 < 8 → vf_n64 (xd 1 i k)) ∧ (∀ i, i < xn 2 0 0 → vf_n64 (xd 2 i 0)) ∧ (∀ t, t < 3 → ∀ k, k < 4 → vf_n32 (xf 0 t k)) ∧ (∀ i, i < xn 2 0 0 → vf_n32 (xf 1 i 0)) ∧ (xn 2 0 0 ≤ xn 3 0 0 ∧ xn 3 0 0 ≤ 160) ∧ (∀ t, t < 3 → ∀ q, co t = some q → q < xn 2 0 0)
def RC (ci : Nat → Nat → Nat → Int32) (cn : Nat → Nat → Nat → Nat) (co : Nat → Option Nat) (xj : Nat → Nat → Nat → Int64) (xd : Nat → Nat → Nat → UInt64) (xf : Nat → Nat → Nat → UInt32) (xo : Nat → Nat → Nat → Option Nat) (xi : Nat → Nat → Nat → Int32) (xn : Nat → Nat → Nat → Nat) (I : Nat → Nat → Int32) (J : Nat → Nat → Int64) (F : Nat → Nat → UInt32) (D : Nat → Nat → UInt64) (R : Nat → Nat → Option Nat) (nx sl : Nat) : Prop := (cJ xj xn J) ∧ (cD xd xn D) ∧ (cF xf xn F) ∧ (cR cn co xo xn R) ∧ (cI ci cn xo xi xn I) ∧ IX co xd xf xo xn ∧ nx = 94 + 4 * xn 3 0 0 ∧ sl = 53 * xn 3 0 0
def RM (ci : Nat → Nat → Nat → Int32) (cn : Nat → Nat → Nat → Nat) (co : Nat → Option Nat) (xj : Nat → Nat → Nat → Int64) (xd : Nat → Nat → Nat → UInt64) (xf : Nat → Nat → Nat → UInt32) (xo : Nat → Nat → Nat → Option Nat) (xi : Nat → Nat → Nat → Int32) (xn : Nat → Nat → Nat → Nat) (I : Nat → Nat → Int32) (J : Nat → Nat → Int64) (D : Nat → Nat → UInt64) : Prop := (mJ xj xo xn J) ∧ (mD xd xf xn D) ∧ (mI ci cn co xo xi xn I)
theorem rc_num {ci : Nat → Nat → Nat → Int32} {cn : Nat → Nat → Nat → Nat} {co : Nat → Option Nat} {xj : Nat → Nat → Nat → Int64} {xd : Nat → Nat → Nat → UInt64} {xf : Nat → Nat → Nat → UInt32} {xo : Nat → Nat → Nat → Option Nat} {xi : Nat → Nat → Nat → Int32} {xn : Nat → Nat → Nat → Nat} {I : Nat → Nat → Int32} {J : Nat → Nat → Int64} {F : Nat → Nat → UInt32} {D : Nat → Nat → UInt64} {R : Nat → Nat → Option Nat} {nx sl : Nat} (h : RC ci cn co xj xd xf xo xi xn I J F D R nx sl) {t : Nat} {k : Nat} (ht : t < 3) (hk : k < 8)  : J (32 + 7 * t + 1) (k) = xj 0 t k := h.1.1 t ht k hk 
theorem rc_who {ci : Nat → Nat → Nat → Int32} {cn : Nat → Nat → Nat → Nat} {co : Nat → Option Nat} {xj : Nat → Nat → Nat → Int64} {xd : Nat → Nat → Nat → UInt64} {xf : Nat → Nat → Nat → UInt32} {xo : Nat → Nat → Nat → Option Nat} {xi : Nat → Nat → Nat → Int32} {xn : Nat → Nat → Nat → Nat} {I : Nat → Nat → Int32} {J : Nat → Nat → Int64} {F : Nat → Nat → UInt32} {D : Nat → Nat → UInt64} {R : Nat → Nat → Option Nat} {nx sl : Nat} (h : RC ci cn co xj xd xf xo xi xn I J F D R nx sl) {i : Nat} {k : Nat} (hi : i < xn 2 0 0) (hk : k < xn 1 i 0) (e0 : xn 0 i 0 < 6) : J (94 + 4 * i + 1) (k) = xj 1 i k := h.1.2.1 i hi k hk e0
theorem rc_nn {ci : Nat → Nat → Nat → Int32} {cn : Nat → Nat → Nat → Nat} {co : Nat → Option Nat} {xj : Nat → Nat → Nat → Int64} {xd : Nat → Nat → Nat → UInt64} {xf : Nat → Nat → Nat → UInt32} {xo : Nat → Nat → Nat → Option Nat} {xi : Nat → Nat → Nat → Int32} {xn : Nat → Nat → Nat → Nat} {I : Nat → Nat → Int32} {J : Nat → Nat → Int64} {F : Nat → Nat → UInt32} {D : Nat → Nat → UInt64} {R : Nat → Nat → Option Nat} {nx sl : Nat} (h : RC ci cn co xj xd xf xo xi xn I J F D R nx sl) {i : Nat} (hi : i < xn 2 0 0)  : J (94 + 4 * i) (8) = xj 2 i 0 := h.1.2.2 i hi 
theorem rc_dbl {ci : Nat → Nat → Nat → Int32} {cn : Nat → Nat → Nat → Nat} {co : Nat → Option Nat} {xj : Nat → Nat → Nat → Int64} {xd : Nat → Nat → Nat → UInt64} {xf : Nat → Nat → Nat → UInt32} {xo : Nat → Nat → Nat → Option Nat} {xi : Nat → Nat → Nat → Int32} {xn : Nat → Nat → Nat → Nat} {I : Nat → Nat → Int32} {J : Nat → Nat → Int64} {F : Nat → Nat → UInt32} {D : Nat → Nat → UInt64} {R : Nat → Nat → Option Nat} {nx sl : Nat} (h : RC ci cn co xj xd xf xo xi xn I J F D R nx sl) {t : Nat} {k : Nat} (ht : t < 3) (hk : k < 4)  : D (32 + 7 * t + 2) (k) = xd 0 t k := h.2.1.1 t ht k hk 
theorem rc_rea {ci : Nat → Nat → Nat → Int32} {cn : Nat → Nat → Nat → Nat} {co : Nat → Option Nat} {xj : Nat → Nat → Nat → Int64} {xd : Nat → Nat → Nat → UInt64} {xf : Nat → Nat → Nat → UInt32} {xo : Nat → Nat → Nat → Option Nat} {xi : Nat → Nat → Nat → Int32} {xn : Nat → Nat → Nat → Nat} {I : Nat → Nat → Int32} {J : Nat → Nat → Int64} {F : Nat → Nat → UInt32} {D : Nat → Nat → UInt64} {R : Nat → Nat → Option Nat} {nx sl : Nat} (h : RC ci cn co xj xd xf xo xi xn I J F D R nx sl) {i : Nat} {k : Nat} (hi : i < xn 2 0 0) (hk : k < xn 1 i 0) (e0 : 6 ≤ xn 0 i 0) (e1 : xn 0 i 0 < 8) : D (94 + 4 * i + 2) (k) = xd 1 i k := h.2.1.2.1 i hi k hk e0 e1
theorem rc_xx {ci : Nat → Nat → Nat → Int32} {cn : Nat → Nat → Nat → Nat} {co : Nat → Option Nat} {xj : Nat → Nat → Nat → Int64} {xd : Nat → Nat → Nat → UInt64} {xf : Nat → Nat → Nat → UInt32} {xo : Nat → Nat → Nat → Option Nat} {xi : Nat → Nat → Nat → Int32} {xn : Nat → Nat → Nat → Nat} {I : Nat → Nat → Int32} {J : Nat → Nat → Int64} {F : Nat → Nat → UInt32} {D : Nat → Nat → UInt64} {R : Nat → Nat → Option Nat} {nx sl : Nat} (h : RC ci cn co xj xd xf xo xi xn I J F D R nx sl) {i : Nat} (hi : i < xn 2 0 0)  : D (94 + 4 * i) (9) = xd 2 i 0 := h.2.1.2.2.1 i hi 
theorem rc_pow {ci : Nat → Nat → Nat → Int32} {cn : Nat → Nat → Nat → Nat} {co : Nat → Option Nat} {xj : Nat → Nat → Nat → Int64} {xd : Nat → Nat → Nat → UInt64} {xf : Nat → Nat → Nat → UInt32} {xo : Nat → Nat → Nat → Option Nat} {xi : Nat → Nat → Nat → Int32} {xn : Nat → Nat → Nat → Nat} {I : Nat → Nat → Int32} {J : Nat → Nat → Int64} {F : Nat → Nat → UInt32} {D : Nat → Nat → UInt64} {R : Nat → Nat → Option Nat} {nx sl : Nat} (h : RC ci cn co xj xd xf xo xi xn I J F D R nx sl) {j : Nat} (hj : j < 10)  : D (12) (j) = pw2 j := h.2.1.2.2.2 j hj 
theorem rc_flt {ci : Nat → Nat → Nat → Int32} {cn : Nat → Nat → Nat → Nat} {co : Nat → Option Nat} {xj : Nat → Nat → Nat → Int64} {xd : Nat → Nat → Nat → UInt64} {xf : Nat → Nat → Nat → UInt32} {xo : Nat → Nat → Nat → Option Nat} {xi : Nat → Nat → Nat → Int32} {xn : Nat → Nat → Nat → Nat} {I : Nat → Nat → Int32} {J : Nat → Nat → Int64} {F : Nat → Nat → UInt32} {D : Nat → Nat → UInt64} {R : Nat → Nat → Option Nat} {nx sl : Nat} (h : RC ci cn co xj xd xf xo xi xn I J F D R nx sl) {t : Nat} {k : Nat} (ht : t < 3) (hk : k < 4)  : F (32 + 7 * t + 3) (k) = xf 0 t k := h.2.2.1.1 t ht k hk 
theorem rc_ff {ci : Nat → Nat → Nat → Int32} {cn : Nat → Nat → Nat → Nat} {co : Nat → Option Nat} {xj : Nat → Nat → Nat → Int64} {xd : Nat → Nat → Nat → UInt64} {xf : Nat → Nat → Nat → UInt32} {xo : Nat → Nat → Nat → Option Nat} {xi : Nat → Nat → Nat → Int32} {xn : Nat → Nat → Nat → Nat} {I : Nat → Nat → Int32} {J : Nat → Nat → Int64} {F : Nat → Nat → UInt32} {D : Nat → Nat → UInt64} {R : Nat → Nat → Option Nat} {nx sl : Nat} (h : RC ci cn co xj xd xf xo xi xn I J F D R nx sl) {i : Nat} (hi : i < xn 2 0 0)  : F (94 + 4 * i) (10) = xf 1 i 0 := h.2.2.1.2 i hi 
theorem rc_hol {ci : Nat → Nat → Nat → Int32} {cn : Nat → Nat → Nat → Nat} {co : Nat → Option Nat} {xj : Nat → Nat → Nat → Int64} {xd : Nat → Nat → Nat → UInt64} {xf : Nat → Nat → Nat → UInt32} {xo : Nat → Nat → Nat → Option Nat} {xi : Nat → Nat → Nat → Int32} {xn : Nat → Nat → Nat → Nat} {I : Nat → Nat → Int32} {J : Nat → Nat → Int64} {F : Nat → Nat → UInt32} {D : Nat → Nat → UInt64} {R : Nat → Nat → Option Nat} {nx sl : Nat} (h : RC ci cn co xj xd xf xo xi xn I J F D R nx sl) {t : Nat} {k : Nat} (ht : t < 3) (hk : k < 8)  : R (32 + 7 * t + 4) (k) = tR (xo 0 t k) := h.2.2.2.1.1 t ht k hk 
theorem rc_par {ci : Nat → Nat → Nat → Int32} {cn : Nat → Nat → Nat → Nat} {co : Nat → Option Nat} {xj : Nat → Nat → Nat → Int64} {xd : Nat → Nat → Nat → UInt64} {xf : Nat → Nat → Nat → UInt32} {xo : Nat → Nat → Nat → Option Nat} {xi : Nat → Nat → Nat → Int32} {xn : Nat → Nat → Nat → Nat} {I : Nat → Nat → Int32} {J : Nat → Nat → Int64} {F : Nat → Nat → UInt32} {D : Nat → Nat → UInt64} {R : Nat → Nat → Option Nat} {nx sl : Nat} (h : RC ci cn co xj xd xf xo xi xn I J F D R nx sl) {i : Nat} {k : Nat} (hi : i < xn 2 0 0) (hk : k < xn 1 i 0) (e0 : 8 ≤ xn 0 i 0) : R (94 + 4 * i + 3) (k) = tR (xo 1 i k) := h.2.2.2.1.2.1 i hi k hk e0
theorem rc_nxt {ci : Nat → Nat → Nat → Int32} {cn : Nat → Nat → Nat → Nat} {co : Nat → Option Nat} {xj : Nat → Nat → Nat → Int64} {xd : Nat → Nat → Nat → UInt64} {xf : Nat → Nat → Nat → UInt32} {xo : Nat → Nat → Nat → Option Nat} {xi : Nat → Nat → Nat → Int32} {xn : Nat → Nat → Nat → Nat} {I : Nat → Nat → Int32} {J : Nat → Nat → Int64} {F : Nat → Nat → UInt32} {D : Nat → Nat → UInt64} {R : Nat → Nat → Option Nat} {nx sl : Nat} (h : RC ci cn co xj xd xf xo xi xn I J F D R nx sl) {i : Nat} (hi : i < xn 2 0 0)  : R (94 + 4 * i) (11) = tR (xo 2 i 0) := h.2.2.2.1.2.2.1 i hi 
theorem rc_lin {ci : Nat → Nat → Nat → Int32} {cn : Nat → Nat → Nat → Nat} {co : Nat → Option Nat} {xj : Nat → Nat → Nat → Int64} {xd : Nat → Nat → Nat → UInt64} {xf : Nat → Nat → Nat → UInt32} {xo : Nat → Nat → Nat → Option Nat} {xi : Nat → Nat → Nat → Int32} {xn : Nat → Nat → Nat → Nat} {I : Nat → Nat → Int32} {J : Nat → Nat → Int64} {F : Nat → Nat → UInt32} {D : Nat → Nat → UInt64} {R : Nat → Nat → Option Nat} {nx sl : Nat} (h : RC ci cn co xj xd xf xo xi xn I J F D R nx sl) {i : Nat} (hi : i < xn 2 0 0)  : R (94 + 4 * i) (12) = tR (xo 3 i 0) := h.2.2.2.1.2.2.2.1 i hi 
theorem rc_wan {ci : Nat → Nat → Nat → Int32} {cn : Nat → Nat → Nat → Nat} {co : Nat → Option Nat} {xj : Nat → Nat → Nat → Int64} {xd : Nat → Nat → Nat → UInt64} {xf : Nat → Nat → Nat → UInt32} {xo : Nat → Nat → Nat → Option Nat} {xi : Nat → Nat → Nat → Int32} {xn : Nat → Nat → Nat → Nat} {I : Nat → Nat → Int32} {J : Nat → Nat → Int64} {F : Nat → Nat → UInt32} {D : Nat → Nat → UInt64} {R : Nat → Nat → Option Nat} {nx sl : Nat} (h : RC ci cn co xj xd xf xo xi xn I J F D R nx sl) {t : Nat} (ht : t < 3)  : R (32 + 7 * t) (14) = tR (co t) := h.2.2.2.1.2.2.2.2.1 t ht 
theorem rc_cal {ci : Nat → Nat → Nat → Int32} {cn : Nat → Nat → Nat → Nat} {co : Nat → Option Nat} {xj : Nat → Nat → Nat → Int64} {xd : Nat → Nat → Nat → UInt64} {xf : Nat → Nat → Nat → UInt32} {xo : Nat → Nat → Nat → Option Nat} {xi : Nat → Nat → Nat → Int32} {xn : Nat → Nat → Nat → Nat} {I : Nat → Nat → Int32} {J : Nat → Nat → Int64} {F : Nat → Nat → UInt32} {D : Nat → Nat → UInt64} {R : Nat → Nat → Option Nat} {nx sl : Nat} (h : RC ci cn co xj xd xf xo xi xn I J F D R nx sl) {t : Nat} {k : Nat} (ht : t < 3) (hk : k < cn 0 t 0)  : R (32 + 7 * t + 5) (k) = some (14 + 3 * cn 1 t k) := h.2.2.2.1.2.2.2.2.2.1 t ht k hk 
theorem rc_thg {ci : Nat → Nat → Nat → Int32} {cn : Nat → Nat → Nat → Nat} {co : Nat → Option Nat} {xj : Nat → Nat → Nat → Int64} {xd : Nat → Nat → Nat → UInt64} {xf : Nat → Nat → Nat → UInt32} {xo : Nat → Nat → Nat → Option Nat} {xi : Nat → Nat → Nat → Int32} {xn : Nat → Nat → Nat → Nat} {I : Nat → Nat → Int32} {J : Nat → Nat → Int64} {F : Nat → Nat → UInt32} {D : Nat → Nat → UInt64} {R : Nat → Nat → Option Nat} {nx sl : Nat} (h : RC ci cn co xj xd xf xo xi xn I J F D R nx sl) {i : Nat} (hi : i < xn 3 0 0)  : R (10) (i) = some (94 + 4 * i) := h.2.2.2.1.2.2.2.2.2.2.1 i hi 
theorem rc_thn {ci : Nat → Nat → Nat → Int32} {cn : Nat → Nat → Nat → Nat} {co : Nat → Option Nat} {xj : Nat → Nat → Nat → Int64} {xd : Nat → Nat → Nat → UInt64} {xf : Nat → Nat → Nat → UInt32} {xo : Nat → Nat → Nat → Option Nat} {xi : Nat → Nat → Nat → Int32} {xn : Nat → Nat → Nat → Nat} {I : Nat → Nat → Int32} {J : Nat → Nat → Int64} {F : Nat → Nat → UInt32} {D : Nat → Nat → UInt64} {R : Nat → Nat → Option Nat} {nx sl : Nat} (h : RC ci cn co xj xd xf xo xi xn I J F D R nx sl) {i : Nat} (hi : i < 160) (e0 : xn 3 0 0 ≤ i) : R (10) (i) = none := h.2.2.2.1.2.2.2.2.2.2.2.1 i hi e0
theorem rc_prg {ci : Nat → Nat → Nat → Int32} {cn : Nat → Nat → Nat → Nat} {co : Nat → Option Nat} {xj : Nat → Nat → Nat → Int64} {xd : Nat → Nat → Nat → UInt64} {xf : Nat → Nat → Nat → UInt32} {xo : Nat → Nat → Nat → Option Nat} {xi : Nat → Nat → Nat → Int32} {xn : Nat → Nat → Nat → Nat} {I : Nat → Nat → Int32} {J : Nat → Nat → Int64} {F : Nat → Nat → UInt32} {D : Nat → Nat → UInt64} {R : Nat → Nat → Option Nat} {nx sl : Nat} (h : RC ci cn co xj xd xf xo xi xn I J F D R nx sl) {p : Nat} (hp : p < 6)  : R (7) (p) = some (14 + 3 * p) := h.2.2.2.1.2.2.2.2.2.2.2.2.1 p hp 
theorem rc_str {ci : Nat → Nat → Nat → Int32} {cn : Nat → Nat → Nat → Nat} {co : Nat → Option Nat} {xj : Nat → Nat → Nat → Int64} {xd : Nat → Nat → Nat → UInt64} {xf : Nat → Nat → Nat → UInt32} {xo : Nat → Nat → Nat → Option Nat} {xi : Nat → Nat → Nat → Int32} {xn : Nat → Nat → Nat → Nat} {I : Nat → Nat → Int32} {J : Nat → Nat → Int64} {F : Nat → Nat → UInt32} {D : Nat → Nat → UInt64} {R : Nat → Nat → Option Nat} {nx sl : Nat} (h : RC ci cn co xj xd xf xo xi xn I J F D R nx sl) {t : Nat} (ht : t < 3)  : R (8) (t) = some (32 + 7 * t) := h.2.2.2.1.2.2.2.2.2.2.2.2.2 t ht 
theorem rc_pix {ci : Nat → Nat → Nat → Int32} {cn : Nat → Nat → Nat → Nat} {co : Nat → Option Nat} {xj : Nat → Nat → Nat → Int64} {xd : Nat → Nat → Nat → UInt64} {xf : Nat → Nat → Nat → UInt32} {xo : Nat → Nat → Nat → Option Nat} {xi : Nat → Nat → Nat → Int32} {xn : Nat → Nat → Nat → Nat} {I : Nat → Nat → Int32} {J : Nat → Nat → Int64} {F : Nat → Nat → UInt32} {D : Nat → Nat → UInt64} {R : Nat → Nat → Option Nat} {nx sl : Nat} (h : RC ci cn co xj xd xf xo xi xn I J F D R nx sl) {p : Nat} (hp : p < 6)  : I (14 + 3 * p) (0) = nI p := h.2.2.2.2.1.1 p hp 
theorem rc_psz {ci : Nat → Nat → Nat → Int32} {cn : Nat → Nat → Nat → Nat} {co : Nat → Option Nat} {xj : Nat → Nat → Nat → Int64} {xd : Nat → Nat → Nat → UInt64} {xf : Nat → Nat → Nat → UInt32} {xo : Nat → Nat → Nat → Option Nat} {xi : Nat → Nat → Nat → Int32} {xn : Nat → Nat → Nat → Nat} {I : Nat → Nat → Int32} {J : Nat → Nat → Int64} {F : Nat → Nat → UInt32} {D : Nat → Nat → UInt64} {R : Nat → Nat → Option Nat} {nx sl : Nat} (h : RC ci cn co xj xd xf xo xi xn I J F D R nx sl) {p : Nat} (hp : p < 6)  : I (14 + 3 * p) (1) = nI (cn 3 p 0) := h.2.2.2.2.1.2.1 p hp 
theorem rc_phn {ci : Nat → Nat → Nat → Int32} {cn : Nat → Nat → Nat → Nat} {co : Nat → Option Nat} {xj : Nat → Nat → Nat → Int64} {xd : Nat → Nat → Nat → UInt64} {xf : Nat → Nat → Nat → UInt32} {xo : Nat → Nat → Nat → Option Nat} {xi : Nat → Nat → Nat → Int32} {xn : Nat → Nat → Nat → Nat} {I : Nat → Nat → Int32} {J : Nat → Nat → Int64} {F : Nat → Nat → UInt32} {D : Nat → Nat → UInt64} {R : Nat → Nat → Option Nat} {nx sl : Nat} (h : RC ci cn co xj xd xf xo xi xn I J F D R nx sl) {p : Nat} (hp : p < 6)  : I (14 + 3 * p) (2) = nI (cn 4 p 0) := h.2.2.2.2.1.2.2.1 p hp 
theorem rc_pop {ci : Nat → Nat → Nat → Int32} {cn : Nat → Nat → Nat → Nat} {co : Nat → Option Nat} {xj : Nat → Nat → Nat → Int64} {xd : Nat → Nat → Nat → UInt64} {xf : Nat → Nat → Nat → UInt32} {xo : Nat → Nat → Nat → Option Nat} {xi : Nat → Nat → Nat → Int32} {xn : Nat → Nat → Nat → Nat} {I : Nat → Nat → Int32} {J : Nat → Nat → Int64} {F : Nat → Nat → UInt32} {D : Nat → Nat → UInt64} {R : Nat → Nat → Option Nat} {nx sl : Nat} (h : RC ci cn co xj xd xf xo xi xn I J F D R nx sl) {p : Nat} {k : Nat} (hp : p < 6) (hk : k < cn 3 p 0)  : I (14 + 3 * p + 1) (4 * k) = nI (cn 5 p k) := h.2.2.2.2.1.2.2.2.1 p hp k hk 
theorem rc_paa {ci : Nat → Nat → Nat → Int32} {cn : Nat → Nat → Nat → Nat} {co : Nat → Option Nat} {xj : Nat → Nat → Nat → Int64} {xd : Nat → Nat → Nat → UInt64} {xf : Nat → Nat → Nat → UInt32} {xo : Nat → Nat → Nat → Option Nat} {xi : Nat → Nat → Nat → Int32} {xn : Nat → Nat → Nat → Nat} {I : Nat → Nat → Int32} {J : Nat → Nat → Int64} {F : Nat → Nat → UInt32} {D : Nat → Nat → UInt64} {R : Nat → Nat → Option Nat} {nx sl : Nat} (h : RC ci cn co xj xd xf xo xi xn I J F D R nx sl) {p : Nat} {k : Nat} (hp : p < 6) (hk : k < cn 3 p 0)  : I (14 + 3 * p + 1) (4 * k + 1) = ci 6 p k := h.2.2.2.2.1.2.2.2.2.1 p hp k hk 
theorem rc_pbb {ci : Nat → Nat → Nat → Int32} {cn : Nat → Nat → Nat → Nat} {co : Nat → Option Nat} {xj : Nat → Nat → Nat → Int64} {xd : Nat → Nat → Nat → UInt64} {xf : Nat → Nat → Nat → UInt32} {xo : Nat → Nat → Nat → Option Nat} {xi : Nat → Nat → Nat → Int32} {xn : Nat → Nat → Nat → Nat} {I : Nat → Nat → Int32} {J : Nat → Nat → Int64} {F : Nat → Nat → UInt32} {D : Nat → Nat → UInt64} {R : Nat → Nat → Option Nat} {nx sl : Nat} (h : RC ci cn co xj xd xf xo xi xn I J F D R nx sl) {p : Nat} {k : Nat} (hp : p < 6) (hk : k < cn 3 p 0)  : I (14 + 3 * p + 1) (4 * k + 2) = ci 7 p k := h.2.2.2.2.1.2.2.2.2.2.1 p hp k hk 
theorem rc_pcc {ci : Nat → Nat → Nat → Int32} {cn : Nat → Nat → Nat → Nat} {co : Nat → Option Nat} {xj : Nat → Nat → Nat → Int64} {xd : Nat → Nat → Nat → UInt64} {xf : Nat → Nat → Nat → UInt32} {xo : Nat → Nat → Nat → Option Nat} {xi : Nat → Nat → Nat → Int32} {xn : Nat → Nat → Nat → Nat} {I : Nat → Nat → Int32} {J : Nat → Nat → Int64} {F : Nat → Nat → UInt32} {D : Nat → Nat → UInt64} {R : Nat → Nat → Option Nat} {nx sl : Nat} (h : RC ci cn co xj xd xf xo xi xn I J F D R nx sl) {p : Nat} {k : Nat} (hp : p < 6) (hk : k < cn 3 p 0)  : I (14 + 3 * p + 1) (4 * k + 3) = ci 8 p k := h.2.2.2.2.1.2.2.2.2.2.2.1 p hp k hk 
theorem rc_hfr {ci : Nat → Nat → Nat → Int32} {cn : Nat → Nat → Nat → Nat} {co : Nat → Option Nat} {xj : Nat → Nat → Nat → Int64} {xd : Nat → Nat → Nat → UInt64} {xf : Nat → Nat → Nat → UInt32} {xo : Nat → Nat → Nat → Option Nat} {xi : Nat → Nat → Nat → Int32} {xn : Nat → Nat → Nat → Nat} {I : Nat → Nat → Int32} {J : Nat → Nat → Int64} {F : Nat → Nat → UInt32} {D : Nat → Nat → UInt64} {R : Nat → Nat → Option Nat} {nx sl : Nat} (h : RC ci cn co xj xd xf xo xi xn I J F D R nx sl) {p : Nat} {k : Nat} (hp : p < 6) (hk : k < cn 4 p 0)  : I (14 + 3 * p + 2) (4 * k) = nI (cn 6 p k) := h.2.2.2.2.1.2.2.2.2.2.2.2.1 p hp k hk 
theorem rc_hto {ci : Nat → Nat → Nat → Int32} {cn : Nat → Nat → Nat → Nat} {co : Nat → Option Nat} {xj : Nat → Nat → Nat → Int64} {xd : Nat → Nat → Nat → UInt64} {xf : Nat → Nat → Nat → UInt32} {xo : Nat → Nat → Nat → Option Nat} {xi : Nat → Nat → Nat → Int32} {xn : Nat → Nat → Nat → Nat} {I : Nat → Nat → Int32} {J : Nat → Nat → Int64} {F : Nat → Nat → UInt32} {D : Nat → Nat → UInt64} {R : Nat → Nat → Option Nat} {nx sl : Nat} (h : RC ci cn co xj xd xf xo xi xn I J F D R nx sl) {p : Nat} {k : Nat} (hp : p < 6) (hk : k < cn 4 p 0)  : I (14 + 3 * p + 2) (4 * k + 1) = nI (cn 7 p k) := h.2.2.2.2.1.2.2.2.2.2.2.2.2.1 p hp k hk 
theorem rc_hfl {ci : Nat → Nat → Nat → Int32} {cn : Nat → Nat → Nat → Nat} {co : Nat → Option Nat} {xj : Nat → Nat → Nat → Int64} {xd : Nat → Nat → Nat → UInt64} {xf : Nat → Nat → Nat → UInt32} {xo : Nat → Nat → Nat → Option Nat} {xi : Nat → Nat → Nat → Int32} {xn : Nat → Nat → Nat → Nat} {I : Nat → Nat → Int32} {J : Nat → Nat → Int64} {F : Nat → Nat → UInt32} {D : Nat → Nat → UInt64} {R : Nat → Nat → Option Nat} {nx sl : Nat} (h : RC ci cn co xj xd xf xo xi xn I J F D R nx sl) {p : Nat} {k : Nat} (hp : p < 6) (hk : k < cn 4 p 0)  : I (14 + 3 * p + 2) (4 * k + 2) = ci 9 p k := h.2.2.2.2.1.2.2.2.2.2.2.2.2.2.1 p hp k hk 
theorem rc_hpl {ci : Nat → Nat → Nat → Int32} {cn : Nat → Nat → Nat → Nat} {co : Nat → Option Nat} {xj : Nat → Nat → Nat → Int64} {xd : Nat → Nat → Nat → UInt64} {xf : Nat → Nat → Nat → UInt32} {xo : Nat → Nat → Nat → Option Nat} {xi : Nat → Nat → Nat → Int32} {xn : Nat → Nat → Nat → Nat} {I : Nat → Nat → Int32} {J : Nat → Nat → Int64} {F : Nat → Nat → UInt32} {D : Nat → Nat → UInt64} {R : Nat → Nat → Option Nat} {nx sl : Nat} (h : RC ci cn co xj xd xf xo xi xn I J F D R nx sl) {p : Nat} {k : Nat} (hp : p < 6) (hk : k < cn 4 p 0)  : I (14 + 3 * p + 2) (4 * k + 3) = nI (cn 8 p k) := h.2.2.2.2.1.2.2.2.2.2.2.2.2.2.2.1 p hp k hk 
theorem rc_six {ci : Nat → Nat → Nat → Int32} {cn : Nat → Nat → Nat → Nat} {co : Nat → Option Nat} {xj : Nat → Nat → Nat → Int64} {xd : Nat → Nat → Nat → UInt64} {xf : Nat → Nat → Nat → UInt32} {xo : Nat → Nat → Nat → Option Nat} {xi : Nat → Nat → Nat → Int32} {xn : Nat → Nat → Nat → Nat} {I : Nat → Nat → Int32} {J : Nat → Nat → Int64} {F : Nat → Nat → UInt32} {D : Nat → Nat → UInt64} {R : Nat → Nat → Option Nat} {nx sl : Nat} (h : RC ci cn co xj xd xf xo xi xn I J F D R nx sl) {t : Nat} (ht : t < 3)  : I (32 + 7 * t) (0) = nI t := h.2.2.2.2.1.2.2.2.2.2.2.2.2.2.2.2.1 t ht 
theorem rc_dep {ci : Nat → Nat → Nat → Int32} {cn : Nat → Nat → Nat → Nat} {co : Nat → Option Nat} {xj : Nat → Nat → Nat → Int64} {xd : Nat → Nat → Nat → UInt64} {xf : Nat → Nat → Nat → UInt32} {xo : Nat → Nat → Nat → Option Nat} {xi : Nat → Nat → Nat → Int32} {xn : Nat → Nat → Nat → Nat} {I : Nat → Nat → Int32} {J : Nat → Nat → Int64} {F : Nat → Nat → UInt32} {D : Nat → Nat → UInt64} {R : Nat → Nat → Option Nat} {nx sl : Nat} (h : RC ci cn co xj xd xf xo xi xn I J F D R nx sl) {t : Nat} (ht : t < 3)  : I (32 + 7 * t) (7) = nI (cn 0 t 0) := h.2.2.2.2.1.2.2.2.2.2.2.2.2.2.2.2.2.1 t ht 
theorem rc_pla {ci : Nat → Nat → Nat → Int32} {cn : Nat → Nat → Nat → Nat} {co : Nat → Option Nat} {xj : Nat → Nat → Nat → Int64} {xd : Nat → Nat → Nat → UInt64} {xf : Nat → Nat → Nat → UInt32} {xo : Nat → Nat → Nat → Option Nat} {xi : Nat → Nat → Nat → Int32} {xn : Nat → Nat → Nat → Nat} {I : Nat → Nat → Int32} {J : Nat → Nat → Int64} {F : Nat → Nat → UInt32} {D : Nat → Nat → UInt64} {R : Nat → Nat → Option Nat} {nx sl : Nat} (h : RC ci cn co xj xd xf xo xi xn I J F D R nx sl) {t : Nat} {k : Nat} (ht : t < 3) (hk : k < cn 0 t 0)  : I (32 + 7 * t + 6) (k) = nI (cn 2 t k) := h.2.2.2.2.1.2.2.2.2.2.2.2.2.2.2.2.2.2.1 t ht k hk 
theorem rc_don {ci : Nat → Nat → Nat → Int32} {cn : Nat → Nat → Nat → Nat} {co : Nat → Option Nat} {xj : Nat → Nat → Nat → Int64} {xd : Nat → Nat → Nat → UInt64} {xf : Nat → Nat → Nat → UInt32} {xo : Nat → Nat → Nat → Option Nat} {xi : Nat → Nat → Nat → Int32} {xn : Nat → Nat → Nat → Nat} {I : Nat → Nat → Int32} {J : Nat → Nat → Int64} {F : Nat → Nat → UInt32} {D : Nat → Nat → UInt64} {R : Nat → Nat → Option Nat} {nx sl : Nat} (h : RC ci cn co xj xd xf xo xi xn I J F D R nx sl) {t : Nat} (ht : t < 3)  : I (32 + 7 * t) (8) = ci 0 t 0 := h.2.2.2.2.1.2.2.2.2.2.2.2.2.2.2.2.2.2.2.1 t ht 
theorem rc_fai {ci : Nat → Nat → Nat → Int32} {cn : Nat → Nat → Nat → Nat} {co : Nat → Option Nat} {xj : Nat → Nat → Nat → Int64} {xd : Nat → Nat → Nat → UInt64} {xf : Nat → Nat → Nat → UInt32} {xo : Nat → Nat → Nat → Option Nat} {xi : Nat → Nat → Nat → Int32} {xn : Nat → Nat → Nat → Nat} {I : Nat → Nat → Int32} {J : Nat → Nat → Int64} {F : Nat → Nat → UInt32} {D : Nat → Nat → UInt64} {R : Nat → Nat → Option Nat} {nx sl : Nat} (h : RC ci cn co xj xd xf xo xi xn I J F D R nx sl) {t : Nat} (ht : t < 3)  : I (32 + 7 * t) (9) = ci 1 t 0 := h.2.2.2.2.1.2.2.2.2.2.2.2.2.2.2.2.2.2.2.2.1 t ht 
theorem rc_fno {ci : Nat → Nat → Nat → Int32} {cn : Nat → Nat → Nat → Nat} {co : Nat → Option Nat} {xj : Nat → Nat → Nat → Int64} {xd : Nat → Nat → Nat → UInt64} {xf : Nat → Nat → Nat → UInt32} {xo : Nat → Nat → Nat → Option Nat} {xi : Nat → Nat → Nat → Int32} {xn : Nat → Nat → Nat → Nat} {I : Nat → Nat → Int32} {J : Nat → Nat → Int64} {F : Nat → Nat → UInt32} {D : Nat → Nat → UInt64} {R : Nat → Nat → Option Nat} {nx sl : Nat} (h : RC ci cn co xj xd xf xo xi xn I J F D R nx sl) {t : Nat} (ht : t < 3)  : I (32 + 7 * t) (10) = ci 5 t 0 := h.2.2.2.2.1.2.2.2.2.2.2.2.2.2.2.2.2.2.2.2.2.1 t ht 
theorem rc_lat {ci : Nat → Nat → Nat → Int32} {cn : Nat → Nat → Nat → Nat} {co : Nat → Option Nat} {xj : Nat → Nat → Nat → Int64} {xd : Nat → Nat → Nat → UInt64} {xf : Nat → Nat → Nat → UInt32} {xo : Nat → Nat → Nat → Option Nat} {xi : Nat → Nat → Nat → Int32} {xn : Nat → Nat → Nat → Nat} {I : Nat → Nat → Int32} {J : Nat → Nat → Int64} {F : Nat → Nat → UInt32} {D : Nat → Nat → UInt64} {R : Nat → Nat → Option Nat} {nx sl : Nat} (h : RC ci cn co xj xd xf xo xi xn I J F D R nx sl) {t : Nat} (ht : t < 3)  : I (32 + 7 * t) (11) = ci 2 t 0 := h.2.2.2.2.1.2.2.2.2.2.2.2.2.2.2.2.2.2.2.2.2.2.1 t ht 
theorem rc_lpr {ci : Nat → Nat → Nat → Int32} {cn : Nat → Nat → Nat → Nat} {co : Nat → Option Nat} {xj : Nat → Nat → Nat → Int64} {xd : Nat → Nat → Nat → UInt64} {xf : Nat → Nat → Nat → UInt32} {xo : Nat → Nat → Nat → Option Nat} {xi : Nat → Nat → Nat → Int32} {xn : Nat → Nat → Nat → Nat} {I : Nat → Nat → Int32} {J : Nat → Nat → Int64} {F : Nat → Nat → UInt32} {D : Nat → Nat → UInt64} {R : Nat → Nat → Option Nat} {nx sl : Nat} (h : RC ci cn co xj xd xf xo xi xn I J F D R nx sl) {t : Nat} (ht : t < 3)  : I (32 + 7 * t) (12) = ci 3 t 0 := h.2.2.2.2.1.2.2.2.2.2.2.2.2.2.2.2.2.2.2.2.2.2.2.1 t ht 
theorem rc_lpl {ci : Nat → Nat → Nat → Int32} {cn : Nat → Nat → Nat → Nat} {co : Nat → Option Nat} {xj : Nat → Nat → Nat → Int64} {xd : Nat → Nat → Nat → UInt64} {xf : Nat → Nat → Nat → UInt32} {xo : Nat → Nat → Nat → Option Nat} {xi : Nat → Nat → Nat → Int32} {xn : Nat → Nat → Nat → Nat} {I : Nat → Nat → Int32} {J : Nat → Nat → Int64} {F : Nat → Nat → UInt32} {D : Nat → Nat → UInt64} {R : Nat → Nat → Option Nat} {nx sl : Nat} (h : RC ci cn co xj xd xf xo xi xn I J F D R nx sl) {t : Nat} (ht : t < 3)  : I (32 + 7 * t) (13) = ci 4 t 0 := h.2.2.2.2.1.2.2.2.2.2.2.2.2.2.2.2.2.2.2.2.2.2.2.2.1 t ht 
theorem rc_mad {ci : Nat → Nat → Nat → Int32} {cn : Nat → Nat → Nat → Nat} {co : Nat → Option Nat} {xj : Nat → Nat → Nat → Int64} {xd : Nat → Nat → Nat → UInt64} {xf : Nat → Nat → Nat → UInt32} {xo : Nat → Nat → Nat → Option Nat} {xi : Nat → Nat → Nat → Int32} {xn : Nat → Nat → Nat → Nat} {I : Nat → Nat → Int32} {J : Nat → Nat → Int64} {F : Nat → Nat → UInt32} {D : Nat → Nat → UInt64} {R : Nat → Nat → Option Nat} {nx sl : Nat} (h : RC ci cn co xj xd xf xo xi xn I J F D R nx sl)    : I (9) (1) = nI (xn 2 0 0) := h.2.2.2.2.1.2.2.2.2.2.2.2.2.2.2.2.2.2.2.2.2.2.2.2.2.1  
theorem rc_trc {ci : Nat → Nat → Nat → Int32} {cn : Nat → Nat → Nat → Nat} {co : Nat → Option Nat} {xj : Nat → Nat → Nat → Int64} {xd : Nat → Nat → Nat → UInt64} {xf : Nat → Nat → Nat → UInt32} {xo : Nat → Nat → Nat → Option Nat} {xi : Nat → Nat → Nat → Int32} {xn : Nat → Nat → Nat → Nat} {I : Nat → Nat → Int32} {J : Nat → Nat → Int64} {F : Nat → Nat → UInt32} {D : Nat → Nat → UInt64} {R : Nat → Nat → Option Nat} {nx sl : Nat} (h : RC ci cn co xj xd xf xo xi xn I J F D R nx sl)    : I (13) (1) = xi 3 0 0 := h.2.2.2.2.1.2.2.2.2.2.2.2.2.2.2.2.2.2.2.2.2.2.2.2.2.2.1  
theorem rc_tix {ci : Nat → Nat → Nat → Int32} {cn : Nat → Nat → Nat → Nat} {co : Nat → Option Nat} {xj : Nat → Nat → Nat → Int64} {xd : Nat → Nat → Nat → UInt64} {xf : Nat → Nat → Nat → UInt32} {xo : Nat → Nat → Nat → Option Nat} {xi : Nat → Nat → Nat → Int32} {xn : Nat → Nat → Nat → Nat} {I : Nat → Nat → Int32} {J : Nat → Nat → Int64} {F : Nat → Nat → UInt32} {D : Nat → Nat → UInt64} {R : Nat → Nat → Option Nat} {nx sl : Nat} (h : RC ci cn co xj xd xf xo xi xn I J F D R nx sl) {i : Nat} (hi : i < xn 3 0 0)  : I (94 + 4 * i) (0) = nI i := h.2.2.2.2.1.2.2.2.2.2.2.2.2.2.2.2.2.2.2.2.2.2.2.2.2.2.2.1 i hi 
theorem rc_sor {ci : Nat → Nat → Nat → Int32} {cn : Nat → Nat → Nat → Nat} {co : Nat → Option Nat} {xj : Nat → Nat → Nat → Int64} {xd : Nat → Nat → Nat → UInt64} {xf : Nat → Nat → Nat → UInt32} {xo : Nat → Nat → Nat → Option Nat} {xi : Nat → Nat → Nat → Int32} {xn : Nat → Nat → Nat → Nat} {I : Nat → Nat → Int32} {J : Nat → Nat → Int64} {F : Nat → Nat → UInt32} {D : Nat → Nat → UInt64} {R : Nat → Nat → Option Nat} {nx sl : Nat} (h : RC ci cn co xj xd xf xo xi xn I J F D R nx sl) {i : Nat} (hi : i < xn 2 0 0)  : I (94 + 4 * i) (1) = nI (xn 0 i 0) := h.2.2.2.2.1.2.2.2.2.2.2.2.2.2.2.2.2.2.2.2.2.2.2.2.2.2.2.2.1 i hi 
theorem rc_len {ci : Nat → Nat → Nat → Int32} {cn : Nat → Nat → Nat → Nat} {co : Nat → Option Nat} {xj : Nat → Nat → Nat → Int64} {xd : Nat → Nat → Nat → UInt64} {xf : Nat → Nat → Nat → UInt32} {xo : Nat → Nat → Nat → Option Nat} {xi : Nat → Nat → Nat → Int32} {xn : Nat → Nat → Nat → Nat} {I : Nat → Nat → Int32} {J : Nat → Nat → Int64} {F : Nat → Nat → UInt32} {D : Nat → Nat → UInt64} {R : Nat → Nat → Option Nat} {nx sl : Nat} (h : RC ci cn co xj xd xf xo xi xn I J F D R nx sl) {i : Nat} (hi : i < xn 2 0 0)  : I (94 + 4 * i) (2) = nI (xn 1 i 0) := h.2.2.2.2.1.2.2.2.2.2.2.2.2.2.2.2.2.2.2.2.2.2.2.2.2.2.2.2.2.1 i hi 
theorem rc_own {ci : Nat → Nat → Nat → Int32} {cn : Nat → Nat → Nat → Nat} {co : Nat → Option Nat} {xj : Nat → Nat → Nat → Int64} {xd : Nat → Nat → Nat → UInt64} {xf : Nat → Nat → Nat → UInt32} {xo : Nat → Nat → Nat → Option Nat} {xi : Nat → Nat → Nat → Int32} {xn : Nat → Nat → Nat → Nat} {I : Nat → Nat → Int32} {J : Nat → Nat → Int64} {F : Nat → Nat → UInt32} {D : Nat → Nat → UInt64} {R : Nat → Nat → Option Nat} {nx sl : Nat} (h : RC ci cn co xj xd xf xo xi xn I J F D R nx sl) {i : Nat} (hi : i < xn 2 0 0)  : I (94 + 4 * i) (3) = eI (xo 4 i 0) := h.2.2.2.2.1.2.2.2.2.2.2.2.2.2.2.2.2.2.2.2.2.2.2.2.2.2.2.2.2.2.1 i hi 
theorem rc_tim {ci : Nat → Nat → Nat → Int32} {cn : Nat → Nat → Nat → Nat} {co : Nat → Option Nat} {xj : Nat → Nat → Nat → Int64} {xd : Nat → Nat → Nat → UInt64} {xf : Nat → Nat → Nat → UInt32} {xo : Nat → Nat → Nat → Option Nat} {xi : Nat → Nat → Nat → Int32} {xn : Nat → Nat → Nat → Nat} {I : Nat → Nat → Int32} {J : Nat → Nat → Int64} {F : Nat → Nat → UInt32} {D : Nat → Nat → UInt64} {R : Nat → Nat → Option Nat} {nx sl : Nat} (h : RC ci cn co xj xd xf xo xi xn I J F D R nx sl) {i : Nat} (hi : i < xn 2 0 0)  : I (94 + 4 * i) (4) = xi 0 i 0 := h.2.2.2.2.1.2.2.2.2.2.2.2.2.2.2.2.2.2.2.2.2.2.2.2.2.2.2.2.2.2.2.1 i hi 
theorem rc_tal {ci : Nat → Nat → Nat → Int32} {cn : Nat → Nat → Nat → Nat} {co : Nat → Option Nat} {xj : Nat → Nat → Nat → Int64} {xd : Nat → Nat → Nat → UInt64} {xf : Nat → Nat → Nat → UInt32} {xo : Nat → Nat → Nat → Option Nat} {xi : Nat → Nat → Nat → Int32} {xn : Nat → Nat → Nat → Nat} {I : Nat → Nat → Int32} {J : Nat → Nat → Int64} {F : Nat → Nat → UInt32} {D : Nat → Nat → UInt64} {R : Nat → Nat → Option Nat} {nx sl : Nat} (h : RC ci cn co xj xd xf xo xi xn I J F D R nx sl) {i : Nat} (hi : i < xn 2 0 0)  : I (94 + 4 * i) (13) = xi 1 i 0 := h.2.2.2.2.1.2.2.2.2.2.2.2.2.2.2.2.2.2.2.2.2.2.2.2.2.2.2.2.2.2.2.2.1 i hi 
theorem rc_mk0 {ci : Nat → Nat → Nat → Int32} {cn : Nat → Nat → Nat → Nat} {co : Nat → Option Nat} {xj : Nat → Nat → Nat → Int64} {xd : Nat → Nat → Nat → UInt64} {xf : Nat → Nat → Nat → UInt32} {xo : Nat → Nat → Nat → Option Nat} {xi : Nat → Nat → Nat → Int32} {xn : Nat → Nat → Nat → Nat} {I : Nat → Nat → Int32} {J : Nat → Nat → Int64} {F : Nat → Nat → UInt32} {D : Nat → Nat → UInt64} {R : Nat → Nat → Option Nat} {nx sl : Nat} (h : RC ci cn co xj xd xf xo xi xn I J F D R nx sl) {i : Nat} (hi : i < xn 2 0 0)  : I (94 + 4 * i) (14) = xi 2 i 0 := h.2.2.2.2.1.2.2.2.2.2.2.2.2.2.2.2.2.2.2.2.2.2.2.2.2.2.2.2.2.2.2.2.2.1 i hi 
theorem rc_mk1 {ci : Nat → Nat → Nat → Int32} {cn : Nat → Nat → Nat → Nat} {co : Nat → Option Nat} {xj : Nat → Nat → Nat → Int64} {xd : Nat → Nat → Nat → UInt64} {xf : Nat → Nat → Nat → UInt32} {xo : Nat → Nat → Nat → Option Nat} {xi : Nat → Nat → Nat → Int32} {xn : Nat → Nat → Nat → Nat} {I : Nat → Nat → Int32} {J : Nat → Nat → Int64} {F : Nat → Nat → UInt32} {D : Nat → Nat → UInt64} {R : Nat → Nat → Option Nat} {nx sl : Nat} (h : RC ci cn co xj xd xf xo xi xn I J F D R nx sl) {i : Nat} (hi : i < xn 2 0 0)  : I (94 + 4 * i) (15) = xi 2 i 1 := h.2.2.2.2.1.2.2.2.2.2.2.2.2.2.2.2.2.2.2.2.2.2.2.2.2.2.2.2.2.2.2.2.2.2.1 i hi 
theorem rc_mk2 {ci : Nat → Nat → Nat → Int32} {cn : Nat → Nat → Nat → Nat} {co : Nat → Option Nat} {xj : Nat → Nat → Nat → Int64} {xd : Nat → Nat → Nat → UInt64} {xf : Nat → Nat → Nat → UInt32} {xo : Nat → Nat → Nat → Option Nat} {xi : Nat → Nat → Nat → Int32} {xn : Nat → Nat → Nat → Nat} {I : Nat → Nat → Int32} {J : Nat → Nat → Int64} {F : Nat → Nat → UInt32} {D : Nat → Nat → UInt64} {R : Nat → Nat → Option Nat} {nx sl : Nat} (h : RC ci cn co xj xd xf xo xi xn I J F D R nx sl) {i : Nat} (hi : i < xn 2 0 0)  : I (94 + 4 * i) (16) = xi 2 i 2 := h.2.2.2.2.1.2.2.2.2.2.2.2.2.2.2.2.2.2.2.2.2.2.2.2.2.2.2.2.2.2.2.2.2.2.2 i hi 
theorem rm_num {ci : Nat → Nat → Nat → Int32} {cn : Nat → Nat → Nat → Nat} {co : Nat → Option Nat} {xj : Nat → Nat → Nat → Int64} {xd : Nat → Nat → Nat → UInt64} {xf : Nat → Nat → Nat → UInt32} {xo : Nat → Nat → Nat → Option Nat} {xi : Nat → Nat → Nat → Int32} {xn : Nat → Nat → Nat → Nat} {I : Nat → Nat → Int32} {J : Nat → Nat → Int64} {D : Nat → Nat → UInt64} (h : RM ci cn co xj xd xf xo xi xn I J D) {t : Nat} {k : Nat} (ht : t < 3) (hk : k < 8)  : J (30) (8 * t + k) = xj 0 t k := h.1.1 t ht k hk 
theorem rm_who {ci : Nat → Nat → Nat → Int32} {cn : Nat → Nat → Nat → Nat} {co : Nat → Option Nat} {xj : Nat → Nat → Nat → Int64} {xd : Nat → Nat → Nat → UInt64} {xf : Nat → Nat → Nat → UInt32} {xo : Nat → Nat → Nat → Option Nat} {xi : Nat → Nat → Nat → Int32} {xn : Nat → Nat → Nat → Nat} {I : Nat → Nat → Int32} {J : Nat → Nat → Int64} {D : Nat → Nat → UInt64} (h : RM ci cn co xj xd xf xo xi xn I J D) {i : Nat} {k : Nat} (hi : i < xn 2 0 0) (hk : k < xn 1 i 0) (e0 : xn 0 i 0 < 6) : J (9) (12 * i + k) = xj 1 i k := h.1.2.1 i hi k hk e0
theorem rm_par {ci : Nat → Nat → Nat → Int32} {cn : Nat → Nat → Nat → Nat} {co : Nat → Option Nat} {xj : Nat → Nat → Nat → Int64} {xd : Nat → Nat → Nat → UInt64} {xf : Nat → Nat → Nat → UInt32} {xo : Nat → Nat → Nat → Option Nat} {xi : Nat → Nat → Nat → Int32} {xn : Nat → Nat → Nat → Nat} {I : Nat → Nat → Int32} {J : Nat → Nat → Int64} {D : Nat → Nat → UInt64} (h : RM ci cn co xj xd xf xo xi xn I J D) {i : Nat} {k : Nat} (hi : i < xn 2 0 0) (hk : k < xn 1 i 0) (e0 : 8 ≤ xn 0 i 0) : J (9) (12 * i + k) = eL (xo 1 i k) := h.1.2.2.1 i hi k hk e0
theorem rm_nn {ci : Nat → Nat → Nat → Int32} {cn : Nat → Nat → Nat → Nat} {co : Nat → Option Nat} {xj : Nat → Nat → Nat → Int64} {xd : Nat → Nat → Nat → UInt64} {xf : Nat → Nat → Nat → UInt32} {xo : Nat → Nat → Nat → Option Nat} {xi : Nat → Nat → Nat → Int32} {xn : Nat → Nat → Nat → Nat} {I : Nat → Nat → Int32} {J : Nat → Nat → Int64} {D : Nat → Nat → UInt64} (h : RM ci cn co xj xd xf xo xi xn I J D) {i : Nat} (hi : i < xn 2 0 0)  : J (11) (i) = xj 2 i 0 := h.1.2.2.2 i hi 
theorem rm_dbl {ci : Nat → Nat → Nat → Int32} {cn : Nat → Nat → Nat → Nat} {co : Nat → Option Nat} {xj : Nat → Nat → Nat → Int64} {xd : Nat → Nat → Nat → UInt64} {xf : Nat → Nat → Nat → UInt32} {xo : Nat → Nat → Nat → Option Nat} {xi : Nat → Nat → Nat → Int32} {xn : Nat → Nat → Nat → Nat} {I : Nat → Nat → Int32} {J : Nat → Nat → Int64} {D : Nat → Nat → UInt64} (h : RM ci cn co xj xd xf xo xi xn I J D) {t : Nat} {k : Nat} (ht : t < 3) (hk : k < 4)  : D (31) (4 * t + k) = xd 0 t k := h.2.1.1 t ht k hk 
theorem rm_flt {ci : Nat → Nat → Nat → Int32} {cn : Nat → Nat → Nat → Nat} {co : Nat → Option Nat} {xj : Nat → Nat → Nat → Int64} {xd : Nat → Nat → Nat → UInt64} {xf : Nat → Nat → Nat → UInt32} {xo : Nat → Nat → Nat → Option Nat} {xi : Nat → Nat → Nat → Int32} {xn : Nat → Nat → Nat → Nat} {I : Nat → Nat → Int32} {J : Nat → Nat → Int64} {D : Nat → Nat → UInt64} (h : RM ci cn co xj xd xf xo xi xn I J D) {t : Nat} {k : Nat} (ht : t < 3) (hk : k < 4)  : D (32) (4 * t + k) = FP.f2d (xf 0 t k) := h.2.1.2.1 t ht k hk 
theorem rm_rea {ci : Nat → Nat → Nat → Int32} {cn : Nat → Nat → Nat → Nat} {co : Nat → Option Nat} {xj : Nat → Nat → Nat → Int64} {xd : Nat → Nat → Nat → UInt64} {xf : Nat → Nat → Nat → UInt32} {xo : Nat → Nat → Nat → Option Nat} {xi : Nat → Nat → Nat → Int32} {xn : Nat → Nat → Nat → Nat} {I : Nat → Nat → Int32} {J : Nat → Nat → Int64} {D : Nat → Nat → UInt64} (h : RM ci cn co xj xd xf xo xi xn I J D) {i : Nat} {k : Nat} (hi : i < xn 2 0 0) (hk : k < xn 1 i 0) (e0 : 6 ≤ xn 0 i 0) (e1 : xn 0 i 0 < 8) : D (10) (12 * i + k) = xd 1 i k := h.2.1.2.2.1 i hi k hk e0 e1
theorem rm_xx {ci : Nat → Nat → Nat → Int32} {cn : Nat → Nat → Nat → Nat} {co : Nat → Option Nat} {xj : Nat → Nat → Nat → Int64} {xd : Nat → Nat → Nat → UInt64} {xf : Nat → Nat → Nat → UInt32} {xo : Nat → Nat → Nat → Option Nat} {xi : Nat → Nat → Nat → Int32} {xn : Nat → Nat → Nat → Nat} {I : Nat → Nat → Int32} {J : Nat → Nat → Int64} {D : Nat → Nat → UInt64} (h : RM ci cn co xj xd xf xo xi xn I J D) {i : Nat} (hi : i < xn 2 0 0)  : D (12) (i) = xd 2 i 0 := h.2.1.2.2.2.1 i hi 
theorem rm_ff {ci : Nat → Nat → Nat → Int32} {cn : Nat → Nat → Nat → Nat} {co : Nat → Option Nat} {xj : Nat → Nat → Nat → Int64} {xd : Nat → Nat → Nat → UInt64} {xf : Nat → Nat → Nat → UInt32} {xo : Nat → Nat → Nat → Option Nat} {xi : Nat → Nat → Nat → Int32} {xn : Nat → Nat → Nat → Nat} {I : Nat → Nat → Int32} {J : Nat → Nat → Int64} {D : Nat → Nat → UInt64} (h : RM ci cn co xj xd xf xo xi xn I J D) {i : Nat} (hi : i < xn 2 0 0)  : D (13) (i) = FP.f2d (xf 1 i 0) := h.2.1.2.2.2.2 i hi 
theorem rm_mad {ci : Nat → Nat → Nat → Int32} {cn : Nat → Nat → Nat → Nat} {co : Nat → Option Nat} {xj : Nat → Nat → Nat → Int64} {xd : Nat → Nat → Nat → UInt64} {xf : Nat → Nat → Nat → UInt32} {xo : Nat → Nat → Nat → Option Nat} {xi : Nat → Nat → Nat → Int32} {xn : Nat → Nat → Nat → Nat} {I : Nat → Nat → Int32} {J : Nat → Nat → Int64} {D : Nat → Nat → UInt64} (h : RM ci cn co xj xd xf xo xi xn I J D)    : I (6) (0) = nI (xn 2 0 0) := h.2.2.1  
theorem rm_trc {ci : Nat → Nat → Nat → Int32} {cn : Nat → Nat → Nat → Nat} {co : Nat → Option Nat} {xj : Nat → Nat → Nat → Int64} {xd : Nat → Nat → Nat → UInt64} {xf : Nat → Nat → Nat → UInt32} {xo : Nat → Nat → Nat → Option Nat} {xi : Nat → Nat → Nat → Int32} {xn : Nat → Nat → Nat → Nat} {I : Nat → Nat → Int32} {J : Nat → Nat → Int64} {D : Nat → Nat → UInt64} (h : RM ci cn co xj xd xf xo xi xn I J D)    : I (6) (14) = xi 3 0 0 := h.2.2.2.1  
theorem rm_sor {ci : Nat → Nat → Nat → Int32} {cn : Nat → Nat → Nat → Nat} {co : Nat → Option Nat} {xj : Nat → Nat → Nat → Int64} {xd : Nat → Nat → Nat → UInt64} {xf : Nat → Nat → Nat → UInt32} {xo : Nat → Nat → Nat → Option Nat} {xi : Nat → Nat → Nat → Int32} {xn : Nat → Nat → Nat → Nat} {I : Nat → Nat → Int32} {J : Nat → Nat → Int64} {D : Nat → Nat → UInt64} (h : RM ci cn co xj xd xf xo xi xn I J D) {i : Nat} (hi : i < xn 2 0 0)  : I (7) (i) = nI (xn 0 i 0) := h.2.2.2.2.1 i hi 
theorem rm_len {ci : Nat → Nat → Nat → Int32} {cn : Nat → Nat → Nat → Nat} {co : Nat → Option Nat} {xj : Nat → Nat → Nat → Int64} {xd : Nat → Nat → Nat → UInt64} {xf : Nat → Nat → Nat → UInt32} {xo : Nat → Nat → Nat → Option Nat} {xi : Nat → Nat → Nat → Int32} {xn : Nat → Nat → Nat → Nat} {I : Nat → Nat → Int32} {J : Nat → Nat → Int64} {D : Nat → Nat → UInt64} (h : RM ci cn co xj xd xf xo xi xn I J D) {i : Nat} (hi : i < xn 2 0 0)  : I (8) (i) = nI (xn 1 i 0) := h.2.2.2.2.2.1 i hi 
theorem rm_nxt {ci : Nat → Nat → Nat → Int32} {cn : Nat → Nat → Nat → Nat} {co : Nat → Option Nat} {xj : Nat → Nat → Nat → Int64} {xd : Nat → Nat → Nat → UInt64} {xf : Nat → Nat → Nat → UInt32} {xo : Nat → Nat → Nat → Option Nat} {xi : Nat → Nat → Nat → Int32} {xn : Nat → Nat → Nat → Nat} {I : Nat → Nat → Int32} {J : Nat → Nat → Int64} {D : Nat → Nat → UInt64} (h : RM ci cn co xj xd xf xo xi xn I J D) {i : Nat} (hi : i < xn 2 0 0)  : I (14) (i) = eI (xo 2 i 0) := h.2.2.2.2.2.2.1 i hi 
theorem rm_lin {ci : Nat → Nat → Nat → Int32} {cn : Nat → Nat → Nat → Nat} {co : Nat → Option Nat} {xj : Nat → Nat → Nat → Int64} {xd : Nat → Nat → Nat → UInt64} {xf : Nat → Nat → Nat → UInt32} {xo : Nat → Nat → Nat → Option Nat} {xi : Nat → Nat → Nat → Int32} {xn : Nat → Nat → Nat → Nat} {I : Nat → Nat → Int32} {J : Nat → Nat → Int64} {D : Nat → Nat → UInt64} (h : RM ci cn co xj xd xf xo xi xn I J D) {i : Nat} (hi : i < xn 2 0 0)  : I (15) (i) = eI (xo 3 i 0) := h.2.2.2.2.2.2.2.1 i hi 
theorem rm_tal {ci : Nat → Nat → Nat → Int32} {cn : Nat → Nat → Nat → Nat} {co : Nat → Option Nat} {xj : Nat → Nat → Nat → Int64} {xd : Nat → Nat → Nat → UInt64} {xf : Nat → Nat → Nat → UInt32} {xo : Nat → Nat → Nat → Option Nat} {xi : Nat → Nat → Nat → Int32} {xn : Nat → Nat → Nat → Nat} {I : Nat → Nat → Int32} {J : Nat → Nat → Int64} {D : Nat → Nat → UInt64} (h : RM ci cn co xj xd xf xo xi xn I J D) {i : Nat} (hi : i < xn 2 0 0)  : I (16) (i) = xi 1 i 0 := h.2.2.2.2.2.2.2.2.1 i hi 
theorem rm_mk {ci : Nat → Nat → Nat → Int32} {cn : Nat → Nat → Nat → Nat} {co : Nat → Option Nat} {xj : Nat → Nat → Nat → Int64} {xd : Nat → Nat → Nat → UInt64} {xf : Nat → Nat → Nat → UInt32} {xo : Nat → Nat → Nat → Option Nat} {xi : Nat → Nat → Nat → Int32} {xn : Nat → Nat → Nat → Nat} {I : Nat → Nat → Int32} {J : Nat → Nat → Int64} {D : Nat → Nat → UInt64} (h : RM ci cn co xj xd xf xo xi xn I J D) {i : Nat} {k : Nat} (hi : i < xn 2 0 0) (hk : k < 3)  : I (17) (3 * i + k) = xi 2 i k := h.2.2.2.2.2.2.2.2.2.1 i hi k hk 
theorem rm_own {ci : Nat → Nat → Nat → Int32} {cn : Nat → Nat → Nat → Nat} {co : Nat → Option Nat} {xj : Nat → Nat → Nat → Int64} {xd : Nat → Nat → Nat → UInt64} {xf : Nat → Nat → Nat → UInt32} {xo : Nat → Nat → Nat → Option Nat} {xi : Nat → Nat → Nat → Int32} {xn : Nat → Nat → Nat → Nat} {I : Nat → Nat → Int32} {J : Nat → Nat → Int64} {D : Nat → Nat → UInt64} (h : RM ci cn co xj xd xf xo xi xn I J D) {i : Nat} (hi : i < xn 2 0 0)  : I (18) (i) = eI (xo 4 i 0) := h.2.2.2.2.2.2.2.2.2.2.1 i hi 
theorem rm_tim {ci : Nat → Nat → Nat → Int32} {cn : Nat → Nat → Nat → Nat} {co : Nat → Option Nat} {xj : Nat → Nat → Nat → Int64} {xd : Nat → Nat → Nat → UInt64} {xf : Nat → Nat → Nat → UInt32} {xo : Nat → Nat → Nat → Option Nat} {xi : Nat → Nat → Nat → Int32} {xn : Nat → Nat → Nat → Nat} {I : Nat → Nat → Int32} {J : Nat → Nat → Int64} {D : Nat → Nat → UInt64} (h : RM ci cn co xj xd xf xo xi xn I J D) {i : Nat} (hi : i < xn 2 0 0)  : I (19) (i) = xi 0 i 0 := h.2.2.2.2.2.2.2.2.2.2.2.1 i hi 
theorem rm_psz {ci : Nat → Nat → Nat → Int32} {cn : Nat → Nat → Nat → Nat} {co : Nat → Option Nat} {xj : Nat → Nat → Nat → Int64} {xd : Nat → Nat → Nat → UInt64} {xf : Nat → Nat → Nat → UInt32} {xo : Nat → Nat → Nat → Option Nat} {xi : Nat → Nat → Nat → Int32} {xn : Nat → Nat → Nat → Nat} {I : Nat → Nat → Int32} {J : Nat → Nat → Int64} {D : Nat → Nat → UInt64} (h : RM ci cn co xj xd xf xo xi xn I J D) {p : Nat} (hp : p < 6)  : I (20) (p) = nI (cn 3 p 0) := h.2.2.2.2.2.2.2.2.2.2.2.2.1 p hp 
theorem rm_pop {ci : Nat → Nat → Nat → Int32} {cn : Nat → Nat → Nat → Nat} {co : Nat → Option Nat} {xj : Nat → Nat → Nat → Int64} {xd : Nat → Nat → Nat → UInt64} {xf : Nat → Nat → Nat → UInt32} {xo : Nat → Nat → Nat → Option Nat} {xi : Nat → Nat → Nat → Int32} {xn : Nat → Nat → Nat → Nat} {I : Nat → Nat → Int32} {J : Nat → Nat → Int64} {D : Nat → Nat → UInt64} (h : RM ci cn co xj xd xf xo xi xn I J D) {p : Nat} {k : Nat} (hp : p < 6) (hk : k < cn 3 p 0)  : I (21) (40 * p + k) = nI (cn 5 p k) := h.2.2.2.2.2.2.2.2.2.2.2.2.2.1 p hp k hk 
theorem rm_paa {ci : Nat → Nat → Nat → Int32} {cn : Nat → Nat → Nat → Nat} {co : Nat → Option Nat} {xj : Nat → Nat → Nat → Int64} {xd : Nat → Nat → Nat → UInt64} {xf : Nat → Nat → Nat → UInt32} {xo : Nat → Nat → Nat → Option Nat} {xi : Nat → Nat → Nat → Int32} {xn : Nat → Nat → Nat → Nat} {I : Nat → Nat → Int32} {J : Nat → Nat → Int64} {D : Nat → Nat → UInt64} (h : RM ci cn co xj xd xf xo xi xn I J D) {p : Nat} {k : Nat} (hp : p < 6) (hk : k < cn 3 p 0)  : I (22) (40 * p + k) = ci 6 p k := h.2.2.2.2.2.2.2.2.2.2.2.2.2.2.1 p hp k hk 
theorem rm_pbb {ci : Nat → Nat → Nat → Int32} {cn : Nat → Nat → Nat → Nat} {co : Nat → Option Nat} {xj : Nat → Nat → Nat → Int64} {xd : Nat → Nat → Nat → UInt64} {xf : Nat → Nat → Nat → UInt32} {xo : Nat → Nat → Nat → Option Nat} {xi : Nat → Nat → Nat → Int32} {xn : Nat → Nat → Nat → Nat} {I : Nat → Nat → Int32} {J : Nat → Nat → Int64} {D : Nat → Nat → UInt64} (h : RM ci cn co xj xd xf xo xi xn I J D) {p : Nat} {k : Nat} (hp : p < 6) (hk : k < cn 3 p 0)  : I (23) (40 * p + k) = ci 7 p k := h.2.2.2.2.2.2.2.2.2.2.2.2.2.2.2.1 p hp k hk 
theorem rm_pcc {ci : Nat → Nat → Nat → Int32} {cn : Nat → Nat → Nat → Nat} {co : Nat → Option Nat} {xj : Nat → Nat → Nat → Int64} {xd : Nat → Nat → Nat → UInt64} {xf : Nat → Nat → Nat → UInt32} {xo : Nat → Nat → Nat → Option Nat} {xi : Nat → Nat → Nat → Int32} {xn : Nat → Nat → Nat → Nat} {I : Nat → Nat → Int32} {J : Nat → Nat → Int64} {D : Nat → Nat → UInt64} (h : RM ci cn co xj xd xf xo xi xn I J D) {p : Nat} {k : Nat} (hp : p < 6) (hk : k < cn 3 p 0)  : I (24) (40 * p + k) = ci 8 p k := h.2.2.2.2.2.2.2.2.2.2.2.2.2.2.2.2.1 p hp k hk 
theorem rm_phn {ci : Nat → Nat → Nat → Int32} {cn : Nat → Nat → Nat → Nat} {co : Nat → Option Nat} {xj : Nat → Nat → Nat → Int64} {xd : Nat → Nat → Nat → UInt64} {xf : Nat → Nat → Nat → UInt32} {xo : Nat → Nat → Nat → Option Nat} {xi : Nat → Nat → Nat → Int32} {xn : Nat → Nat → Nat → Nat} {I : Nat → Nat → Int32} {J : Nat → Nat → Int64} {D : Nat → Nat → UInt64} (h : RM ci cn co xj xd xf xo xi xn I J D) {p : Nat} (hp : p < 6)  : I (25) (p) = nI (cn 4 p 0) := h.2.2.2.2.2.2.2.2.2.2.2.2.2.2.2.2.2.1 p hp 
theorem rm_hfr {ci : Nat → Nat → Nat → Int32} {cn : Nat → Nat → Nat → Nat} {co : Nat → Option Nat} {xj : Nat → Nat → Nat → Int64} {xd : Nat → Nat → Nat → UInt64} {xf : Nat → Nat → Nat → UInt32} {xo : Nat → Nat → Nat → Option Nat} {xi : Nat → Nat → Nat → Int32} {xn : Nat → Nat → Nat → Nat} {I : Nat → Nat → Int32} {J : Nat → Nat → Int64} {D : Nat → Nat → UInt64} (h : RM ci cn co xj xd xf xo xi xn I J D) {p : Nat} {k : Nat} (hp : p < 6) (hk : k < cn 4 p 0)  : I (26) (6 * p + k) = nI (cn 6 p k) := h.2.2.2.2.2.2.2.2.2.2.2.2.2.2.2.2.2.2.1 p hp k hk 
theorem rm_hto {ci : Nat → Nat → Nat → Int32} {cn : Nat → Nat → Nat → Nat} {co : Nat → Option Nat} {xj : Nat → Nat → Nat → Int64} {xd : Nat → Nat → Nat → UInt64} {xf : Nat → Nat → Nat → UInt32} {xo : Nat → Nat → Nat → Option Nat} {xi : Nat → Nat → Nat → Int32} {xn : Nat → Nat → Nat → Nat} {I : Nat → Nat → Int32} {J : Nat → Nat → Int64} {D : Nat → Nat → UInt64} (h : RM ci cn co xj xd xf xo xi xn I J D) {p : Nat} {k : Nat} (hp : p < 6) (hk : k < cn 4 p 0)  : I (27) (6 * p + k) = nI (cn 7 p k) := h.2.2.2.2.2.2.2.2.2.2.2.2.2.2.2.2.2.2.2.1 p hp k hk 
theorem rm_hfl {ci : Nat → Nat → Nat → Int32} {cn : Nat → Nat → Nat → Nat} {co : Nat → Option Nat} {xj : Nat → Nat → Nat → Int64} {xd : Nat → Nat → Nat → UInt64} {xf : Nat → Nat → Nat → UInt32} {xo : Nat → Nat → Nat → Option Nat} {xi : Nat → Nat → Nat → Int32} {xn : Nat → Nat → Nat → Nat} {I : Nat → Nat → Int32} {J : Nat → Nat → Int64} {D : Nat → Nat → UInt64} (h : RM ci cn co xj xd xf xo xi xn I J D) {p : Nat} {k : Nat} (hp : p < 6) (hk : k < cn 4 p 0)  : I (28) (6 * p + k) = ci 9 p k := h.2.2.2.2.2.2.2.2.2.2.2.2.2.2.2.2.2.2.2.2.1 p hp k hk 
theorem rm_hpl {ci : Nat → Nat → Nat → Int32} {cn : Nat → Nat → Nat → Nat} {co : Nat → Option Nat} {xj : Nat → Nat → Nat → Int64} {xd : Nat → Nat → Nat → UInt64} {xf : Nat → Nat → Nat → UInt32} {xo : Nat → Nat → Nat → Option Nat} {xi : Nat → Nat → Nat → Int32} {xn : Nat → Nat → Nat → Nat} {I : Nat → Nat → Int32} {J : Nat → Nat → Int64} {D : Nat → Nat → UInt64} (h : RM ci cn co xj xd xf xo xi xn I J D) {p : Nat} {k : Nat} (hp : p < 6) (hk : k < cn 4 p 0)  : I (29) (6 * p + k) = nI (cn 8 p k) := h.2.2.2.2.2.2.2.2.2.2.2.2.2.2.2.2.2.2.2.2.2.1 p hp k hk 
theorem rm_hol {ci : Nat → Nat → Nat → Int32} {cn : Nat → Nat → Nat → Nat} {co : Nat → Option Nat} {xj : Nat → Nat → Nat → Int64} {xd : Nat → Nat → Nat → UInt64} {xf : Nat → Nat → Nat → UInt32} {xo : Nat → Nat → Nat → Option Nat} {xi : Nat → Nat → Nat → Int32} {xn : Nat → Nat → Nat → Nat} {I : Nat → Nat → Int32} {J : Nat → Nat → Int64} {D : Nat → Nat → UInt64} (h : RM ci cn co xj xd xf xo xi xn I J D) {t : Nat} {k : Nat} (ht : t < 3) (hk : k < 8)  : I (33) (8 * t + k) = eI (xo 0 t k) := h.2.2.2.2.2.2.2.2.2.2.2.2.2.2.2.2.2.2.2.2.2.2.1 t ht k hk 
theorem rm_isn {ci : Nat → Nat → Nat → Int32} {cn : Nat → Nat → Nat → Nat} {co : Nat → Option Nat} {xj : Nat → Nat → Nat → Int64} {xd : Nat → Nat → Nat → UInt64} {xf : Nat → Nat → Nat → UInt32} {xo : Nat → Nat → Nat → Option Nat} {xi : Nat → Nat → Nat → Int32} {xn : Nat → Nat → Nat → Nat} {I : Nat → Nat → Int32} {J : Nat → Nat → Int64} {D : Nat → Nat → UInt64} (h : RM ci cn co xj xd xf xo xi xn I J D) {t : Nat} (ht : t < 3)  : I (34) (t) = zb (decide (0 < cn 0 t 0)) := h.2.2.2.2.2.2.2.2.2.2.2.2.2.2.2.2.2.2.2.2.2.2.2.1 t ht 
theorem rm_dep {ci : Nat → Nat → Nat → Int32} {cn : Nat → Nat → Nat → Nat} {co : Nat → Option Nat} {xj : Nat → Nat → Nat → Int64} {xd : Nat → Nat → Nat → UInt64} {xf : Nat → Nat → Nat → UInt32} {xo : Nat → Nat → Nat → Option Nat} {xi : Nat → Nat → Nat → Int32} {xn : Nat → Nat → Nat → Nat} {I : Nat → Nat → Int32} {J : Nat → Nat → Int64} {D : Nat → Nat → UInt64} (h : RM ci cn co xj xd xf xo xi xn I J D) {t : Nat} (ht : t < 3)  : I (35) (t) = nI (cn 0 t 0) := h.2.2.2.2.2.2.2.2.2.2.2.2.2.2.2.2.2.2.2.2.2.2.2.2.1 t ht 
theorem rm_cal {ci : Nat → Nat → Nat → Int32} {cn : Nat → Nat → Nat → Nat} {co : Nat → Option Nat} {xj : Nat → Nat → Nat → Int64} {xd : Nat → Nat → Nat → UInt64} {xf : Nat → Nat → Nat → UInt32} {xo : Nat → Nat → Nat → Option Nat} {xi : Nat → Nat → Nat → Int32} {xn : Nat → Nat → Nat → Nat} {I : Nat → Nat → Int32} {J : Nat → Nat → Int64} {D : Nat → Nat → UInt64} (h : RM ci cn co xj xd xf xo xi xn I J D) {t : Nat} {k : Nat} (ht : t < 3) (hk : k < cn 0 t 0)  : I (36) (8 * t + k) = nI (cn 1 t k) := h.2.2.2.2.2.2.2.2.2.2.2.2.2.2.2.2.2.2.2.2.2.2.2.2.2.1 t ht k hk 
theorem rm_pla {ci : Nat → Nat → Nat → Int32} {cn : Nat → Nat → Nat → Nat} {co : Nat → Option Nat} {xj : Nat → Nat → Nat → Int64} {xd : Nat → Nat → Nat → UInt64} {xf : Nat → Nat → Nat → UInt32} {xo : Nat → Nat → Nat → Option Nat} {xi : Nat → Nat → Nat → Int32} {xn : Nat → Nat → Nat → Nat} {I : Nat → Nat → Int32} {J : Nat → Nat → Int64} {D : Nat → Nat → UInt64} (h : RM ci cn co xj xd xf xo xi xn I J D) {t : Nat} {k : Nat} (ht : t < 3) (hk : k < cn 0 t 0)  : I (37) (8 * t + k) = nI (cn 2 t k) := h.2.2.2.2.2.2.2.2.2.2.2.2.2.2.2.2.2.2.2.2.2.2.2.2.2.2.1 t ht k hk 
theorem rm_don {ci : Nat → Nat → Nat → Int32} {cn : Nat → Nat → Nat → Nat} {co : Nat → Option Nat} {xj : Nat → Nat → Nat → Int64} {xd : Nat → Nat → Nat → UInt64} {xf : Nat → Nat → Nat → UInt32} {xo : Nat → Nat → Nat → Option Nat} {xi : Nat → Nat → Nat → Int32} {xn : Nat → Nat → Nat → Nat} {I : Nat → Nat → Int32} {J : Nat → Nat → Int64} {D : Nat → Nat → UInt64} (h : RM ci cn co xj xd xf xo xi xn I J D) {t : Nat} (ht : t < 3)  : I (38) (t) = ci 0 t 0 := h.2.2.2.2.2.2.2.2.2.2.2.2.2.2.2.2.2.2.2.2.2.2.2.2.2.2.2.1 t ht 
theorem rm_fai {ci : Nat → Nat → Nat → Int32} {cn : Nat → Nat → Nat → Nat} {co : Nat → Option Nat} {xj : Nat → Nat → Nat → Int64} {xd : Nat → Nat → Nat → UInt64} {xf : Nat → Nat → Nat → UInt32} {xo : Nat → Nat → Nat → Option Nat} {xi : Nat → Nat → Nat → Int32} {xn : Nat → Nat → Nat → Nat} {I : Nat → Nat → Int32} {J : Nat → Nat → Int64} {D : Nat → Nat → UInt64} (h : RM ci cn co xj xd xf xo xi xn I J D) {t : Nat} (ht : t < 3)  : I (39) (t) = ci 1 t 0 := h.2.2.2.2.2.2.2.2.2.2.2.2.2.2.2.2.2.2.2.2.2.2.2.2.2.2.2.2.1 t ht 
theorem rm_lat {ci : Nat → Nat → Nat → Int32} {cn : Nat → Nat → Nat → Nat} {co : Nat → Option Nat} {xj : Nat → Nat → Nat → Int64} {xd : Nat → Nat → Nat → UInt64} {xf : Nat → Nat → Nat → UInt32} {xo : Nat → Nat → Nat → Option Nat} {xi : Nat → Nat → Nat → Int32} {xn : Nat → Nat → Nat → Nat} {I : Nat → Nat → Int32} {J : Nat → Nat → Int64} {D : Nat → Nat → UInt64} (h : RM ci cn co xj xd xf xo xi xn I J D) {t : Nat} (ht : t < 3)  : I (40) (t) = ci 2 t 0 := h.2.2.2.2.2.2.2.2.2.2.2.2.2.2.2.2.2.2.2.2.2.2.2.2.2.2.2.2.2.1 t ht 
theorem rm_lpr {ci : Nat → Nat → Nat → Int32} {cn : Nat → Nat → Nat → Nat} {co : Nat → Option Nat} {xj : Nat → Nat → Nat → Int64} {xd : Nat → Nat → Nat → UInt64} {xf : Nat → Nat → Nat → UInt32} {xo : Nat → Nat → Nat → Option Nat} {xi : Nat → Nat → Nat → Int32} {xn : Nat → Nat → Nat → Nat} {I : Nat → Nat → Int32} {J : Nat → Nat → Int64} {D : Nat → Nat → UInt64} (h : RM ci cn co xj xd xf xo xi xn I J D) {t : Nat} (ht : t < 3)  : I (41) (t) = ci 3 t 0 := h.2.2.2.2.2.2.2.2.2.2.2.2.2.2.2.2.2.2.2.2.2.2.2.2.2.2.2.2.2.2.1 t ht 
theorem rm_lpl {ci : Nat → Nat → Nat → Int32} {cn : Nat → Nat → Nat → Nat} {co : Nat → Option Nat} {xj : Nat → Nat → Nat → Int64} {xd : Nat → Nat → Nat → UInt64} {xf : Nat → Nat → Nat → UInt32} {xo : Nat → Nat → Nat → Option Nat} {xi : Nat → Nat → Nat → Int32} {xn : Nat → Nat → Nat → Nat} {I : Nat → Nat → Int32} {J : Nat → Nat → Int64} {D : Nat → Nat → UInt64} (h : RM ci cn co xj xd xf xo xi xn I J D) {t : Nat} (ht : t < 3)  : I (42) (t) = ci 4 t 0 := h.2.2.2.2.2.2.2.2.2.2.2.2.2.2.2.2.2.2.2.2.2.2.2.2.2.2.2.2.2.2.2.1 t ht 
theorem rm_wan {ci : Nat → Nat → Nat → Int32} {cn : Nat → Nat → Nat → Nat} {co : Nat → Option Nat} {xj : Nat → Nat → Nat → Int64} {xd : Nat → Nat → Nat → UInt64} {xf : Nat → Nat → Nat → UInt32} {xo : Nat → Nat → Nat → Option Nat} {xi : Nat → Nat → Nat → Int32} {xn : Nat → Nat → Nat → Nat} {I : Nat → Nat → Int32} {J : Nat → Nat → Int64} {D : Nat → Nat → UInt64} (h : RM ci cn co xj xd xf xo xi xn I J D) {t : Nat} (ht : t < 3)  : I (43) (t) = eI (co t) := h.2.2.2.2.2.2.2.2.2.2.2.2.2.2.2.2.2.2.2.2.2.2.2.2.2.2.2.2.2.2.2.2 t ht 
theorem rc_ihol {ci : Nat → Nat → Nat → Int32} {cn : Nat → Nat → Nat → Nat} {co : Nat → Option Nat} {xj : Nat → Nat → Nat → Int64} {xd : Nat → Nat → Nat → UInt64} {xf : Nat → Nat → Nat → UInt32} {xo : Nat → Nat → Nat → Option Nat} {xi : Nat → Nat → Nat → Int32} {xn : Nat → Nat → Nat → Nat} {I : Nat → Nat → Int32} {J : Nat → Nat → Int64} {F : Nat → Nat → UInt32} {D : Nat → Nat → UInt64} {R : Nat → Nat → Option Nat} {nx sl : Nat} (h : RC ci cn co xj xd xf xo xi xn I J F D R nx sl) {t : Nat} {k : Nat} (ht : t < 3) (hk : k < 8)  : ∀ q, xo 0 t k = some q → q < xn 2 0 0 := h.2.2.2.2.2.1.1 t ht k hk 
theorem rc_ipar {ci : Nat → Nat → Nat → Int32} {cn : Nat → Nat → Nat → Nat} {co : Nat → Option Nat} {xj : Nat → Nat → Nat → Int64} {xd : Nat → Nat → Nat → UInt64} {xf : Nat → Nat → Nat → UInt32} {xo : Nat → Nat → Nat → Option Nat} {xi : Nat → Nat → Nat → Int32} {xn : Nat → Nat → Nat → Nat} {I : Nat → Nat → Int32} {J : Nat → Nat → Int64} {F : Nat → Nat → UInt32} {D : Nat → Nat → UInt64} {R : Nat → Nat → Option Nat} {nx sl : Nat} (h : RC ci cn co xj xd xf xo xi xn I J F D R nx sl) {i : Nat} {k : Nat} (hi : i < xn 2 0 0) (hk : k < xn 1 i 0) (e0 : 8 ≤ xn 0 i 0) : ∀ q, xo 1 i k = some q → q < xn 2 0 0 := h.2.2.2.2.2.1.2.1 i hi k hk e0
theorem rc_inxt {ci : Nat → Nat → Nat → Int32} {cn : Nat → Nat → Nat → Nat} {co : Nat → Option Nat} {xj : Nat → Nat → Nat → Int64} {xd : Nat → Nat → Nat → UInt64} {xf : Nat → Nat → Nat → UInt32} {xo : Nat → Nat → Nat → Option Nat} {xi : Nat → Nat → Nat → Int32} {xn : Nat → Nat → Nat → Nat} {I : Nat → Nat → Int32} {J : Nat → Nat → Int64} {F : Nat → Nat → UInt32} {D : Nat → Nat → UInt64} {R : Nat → Nat → Option Nat} {nx sl : Nat} (h : RC ci cn co xj xd xf xo xi xn I J F D R nx sl) {i : Nat} (hi : i < xn 2 0 0)  : ∀ q, xo 2 i 0 = some q → q < xn 2 0 0 := h.2.2.2.2.2.1.2.2.1 i hi 
theorem rc_ilin {ci : Nat → Nat → Nat → Int32} {cn : Nat → Nat → Nat → Nat} {co : Nat → Option Nat} {xj : Nat → Nat → Nat → Int64} {xd : Nat → Nat → Nat → UInt64} {xf : Nat → Nat → Nat → UInt32} {xo : Nat → Nat → Nat → Option Nat} {xi : Nat → Nat → Nat → Int32} {xn : Nat → Nat → Nat → Nat} {I : Nat → Nat → Int32} {J : Nat → Nat → Int64} {F : Nat → Nat → UInt32} {D : Nat → Nat → UInt64} {R : Nat → Nat → Option Nat} {nx sl : Nat} (h : RC ci cn co xj xd xf xo xi xn I J F D R nx sl) {i : Nat} (hi : i < xn 2 0 0)  : ∀ q, xo 3 i 0 = some q → q < xn 2 0 0 := h.2.2.2.2.2.1.2.2.2.1 i hi 
theorem rc_iown {ci : Nat → Nat → Nat → Int32} {cn : Nat → Nat → Nat → Nat} {co : Nat → Option Nat} {xj : Nat → Nat → Nat → Int64} {xd : Nat → Nat → Nat → UInt64} {xf : Nat → Nat → Nat → UInt32} {xo : Nat → Nat → Nat → Option Nat} {xi : Nat → Nat → Nat → Int32} {xn : Nat → Nat → Nat → Nat} {I : Nat → Nat → Int32} {J : Nat → Nat → Int64} {F : Nat → Nat → UInt32} {D : Nat → Nat → UInt64} {R : Nat → Nat → Option Nat} {nx sl : Nat} (h : RC ci cn co xj xd xf xo xi xn I J F D R nx sl) {i : Nat} (hi : i < xn 2 0 0)  : ∀ q, xo 4 i 0 = some q → q < 3 := h.2.2.2.2.2.1.2.2.2.2.1 i hi 
theorem rc_isor {ci : Nat → Nat → Nat → Int32} {cn : Nat → Nat → Nat → Nat} {co : Nat → Option Nat} {xj : Nat → Nat → Nat → Int64} {xd : Nat → Nat → Nat → UInt64} {xf : Nat → Nat → Nat → UInt32} {xo : Nat → Nat → Nat → Option Nat} {xi : Nat → Nat → Nat → Int32} {xn : Nat → Nat → Nat → Nat} {I : Nat → Nat → Int32} {J : Nat → Nat → Int64} {F : Nat → Nat → UInt32} {D : Nat → Nat → UInt64} {R : Nat → Nat → Option Nat} {nx sl : Nat} (h : RC ci cn co xj xd xf xo xi xn I J F D R nx sl) {i : Nat} (hi : i < xn 2 0 0)  : xn 0 i 0 ≤ 20 ∧ xn 0 i 0 ≠ 15 ∧ xn 1 i 0 ≤ 12 ∧ (16 ≤ xn 0 i 0 → xn 1 i 0 = 0) := h.2.2.2.2.2.1.2.2.2.2.2.1 i hi 
theorem rc_idbl {ci : Nat → Nat → Nat → Int32} {cn : Nat → Nat → Nat → Nat} {co : Nat → Option Nat} {xj : Nat → Nat → Nat → Int64} {xd : Nat → Nat → Nat → UInt64} {xf : Nat → Nat → Nat → UInt32} {xo : Nat → Nat → Nat → Option Nat} {xi : Nat → Nat → Nat → Int32} {xn : Nat → Nat → Nat → Nat} {I : Nat → Nat → Int32} {J : Nat → Nat → Int64} {F : Nat → Nat → UInt32} {D : Nat → Nat → UInt64} {R : Nat → Nat → Option Nat} {nx sl : Nat} (h : RC ci cn co xj xd xf xo xi xn I J F D R nx sl) {t : Nat} {k : Nat} (ht : t < 3) (hk : k < 4)  : vf_n64 (xd 0 t k) := h.2.2.2.2.2.1.2.2.2.2.2.2.1 t ht k hk 
theorem rc_irea {ci : Nat → Nat → Nat → Int32} {cn : Nat → Nat → Nat → Nat} {co : Nat → Option Nat} {xj : Nat → Nat → Nat → Int64} {xd : Nat → Nat → Nat → UInt64} {xf : Nat → Nat → Nat → UInt32} {xo : Nat → Nat → Nat → Option Nat} {xi : Nat → Nat → Nat → Int32} {xn : Nat → Nat → Nat → Nat} {I : Nat → Nat → Int32} {J : Nat → Nat → Int64} {F : Nat → Nat → UInt32} {D : Nat → Nat → UInt64} {R : Nat → Nat → Option Nat} {nx sl : Nat} (h : RC ci cn co xj xd xf xo xi xn I J F D R nx sl) {i : Nat} {k : Nat} (hi : i < xn 2 0 0) (hk : k < xn 1 i 0) (e0 : 6 ≤ xn 0 i 0) (e1 : xn 0 i 0 < 8) : vf_n64 (xd 1 i k) := h.2.2.2.2.2.1.2.2.2.2.2.2.2.1 i hi k hk e0 e1
theorem rc_ixx {ci : Nat → Nat → Nat → Int32} {cn : Nat → Nat → Nat → Nat} {co : Nat → Option Nat} {xj : Nat → Nat → Nat → Int64} {xd : Nat → Nat → Nat → UInt64} {xf : Nat → Nat → Nat → UInt32} {xo : Nat → Nat → Nat → Option Nat} {xi : Nat → Nat → Nat → Int32} {xn : Nat → Nat → Nat → Nat} {I : Nat → Nat → Int32} {J : Nat → Nat → Int64} {F : Nat → Nat → UInt32} {D : Nat → Nat → UInt64} {R : Nat → Nat → Option Nat} {nx sl : Nat} (h : RC ci cn co xj xd xf xo xi xn I J F D R nx sl) {i : Nat} (hi : i < xn 2 0 0)  : vf_n64 (xd 2 i 0) := h.2.2.2.2.2.1.2.2.2.2.2.2.2.2.1 i hi 
theorem rc_iflt {ci : Nat → Nat → Nat → Int32} {cn : Nat → Nat → Nat → Nat} {co : Nat → Option Nat} {xj : Nat → Nat → Nat → Int64} {xd : Nat → Nat → Nat → UInt64} {xf : Nat → Nat → Nat → UInt32} {xo : Nat → Nat → Nat → Option Nat} {xi : Nat → Nat → Nat → Int32} {xn : Nat → Nat → Nat → Nat} {I : Nat → Nat → Int32} {J : Nat → Nat → Int64} {F : Nat → Nat → UInt32} {D : Nat → Nat → UInt64} {R : Nat → Nat → Option Nat} {nx sl : Nat} (h : RC ci cn co xj xd xf xo xi xn I J F D R nx sl) {t : Nat} {k : Nat} (ht : t < 3) (hk : k < 4)  : vf_n32 (xf 0 t k) := h.2.2.2.2.2.1.2.2.2.2.2.2.2.2.2.1 t ht k hk 
theorem rc_iff {ci : Nat → Nat → Nat → Int32} {cn : Nat → Nat → Nat → Nat} {co : Nat → Option Nat} {xj : Nat → Nat → Nat → Int64} {xd : Nat → Nat → Nat → UInt64} {xf : Nat → Nat → Nat → UInt32} {xo : Nat → Nat → Nat → Option Nat} {xi : Nat → Nat → Nat → Int32} {xn : Nat → Nat → Nat → Nat} {I : Nat → Nat → Int32} {J : Nat → Nat → Int64} {F : Nat → Nat → UInt32} {D : Nat → Nat → UInt64} {R : Nat → Nat → Option Nat} {nx sl : Nat} (h : RC ci cn co xj xd xf xo xi xn I J F D R nx sl) {i : Nat} (hi : i < xn 2 0 0)  : vf_n32 (xf 1 i 0) := h.2.2.2.2.2.1.2.2.2.2.2.2.2.2.2.2.1 i hi 
theorem rc_imad {ci : Nat → Nat → Nat → Int32} {cn : Nat → Nat → Nat → Nat} {co : Nat → Option Nat} {xj : Nat → Nat → Nat → Int64} {xd : Nat → Nat → Nat → UInt64} {xf : Nat → Nat → Nat → UInt32} {xo : Nat → Nat → Nat → Option Nat} {xi : Nat → Nat → Nat → Int32} {xn : Nat → Nat → Nat → Nat} {I : Nat → Nat → Int32} {J : Nat → Nat → Int64} {F : Nat → Nat → UInt32} {D : Nat → Nat → UInt64} {R : Nat → Nat → Option Nat} {nx sl : Nat} (h : RC ci cn co xj xd xf xo xi xn I J F D R nx sl)    : xn 2 0 0 ≤ xn 3 0 0 ∧ xn 3 0 0 ≤ 160 := h.2.2.2.2.2.1.2.2.2.2.2.2.2.2.2.2.2.1  
theorem rc_iwan {ci : Nat → Nat → Nat → Int32} {cn : Nat → Nat → Nat → Nat} {co : Nat → Option Nat} {xj : Nat → Nat → Nat → Int64} {xd : Nat → Nat → Nat → UInt64} {xf : Nat → Nat → Nat → UInt32} {xo : Nat → Nat → Nat → Option Nat} {xi : Nat → Nat → Nat → Int32} {xn : Nat → Nat → Nat → Nat} {I : Nat → Nat → Int32} {J : Nat → Nat → Int64} {F : Nat → Nat → UInt32} {D : Nat → Nat → UInt64} {R : Nat → Nat → Option Nat} {nx sl : Nat} (h : RC ci cn co xj xd xf xo xi xn I J F D R nx sl) {t : Nat} (ht : t < 3)  : ∀ q, co t = some q → q < xn 2 0 0 := h.2.2.2.2.2.1.2.2.2.2.2.2.2.2.2.2.2.2 t ht 
theorem rc_nx {ci : Nat → Nat → Nat → Int32} {cn : Nat → Nat → Nat → Nat} {co : Nat → Option Nat} {xj : Nat → Nat → Nat → Int64} {xd : Nat → Nat → Nat → UInt64} {xf : Nat → Nat → Nat → UInt32} {xo : Nat → Nat → Nat → Option Nat} {xi : Nat → Nat → Nat → Int32} {xn : Nat → Nat → Nat → Nat} {I : Nat → Nat → Int32} {J : Nat → Nat → Int64} {F : Nat → Nat → UInt32} {D : Nat → Nat → UInt64} {R : Nat → Nat → Option Nat} {nx sl : Nat} (h : RC ci cn co xj xd xf xo xi xn I J F D R nx sl) : nx = 94 + 4 * xn 3 0 0 := h.2.2.2.2.2.2.1
theorem rc_sl {ci : Nat → Nat → Nat → Int32} {cn : Nat → Nat → Nat → Nat} {co : Nat → Option Nat} {xj : Nat → Nat → Nat → Int64} {xd : Nat → Nat → Nat → UInt64} {xf : Nat → Nat → Nat → UInt32} {xo : Nat → Nat → Nat → Option Nat} {xi : Nat → Nat → Nat → Int32} {xn : Nat → Nat → Nat → Nat} {I : Nat → Nat → Int32} {J : Nat → Nat → Int64} {F : Nat → Nat → UInt32} {D : Nat → Nat → UInt64} {R : Nat → Nat → Option Nat} {nx sl : Nat} (h : RC ci cn co xj xd xf xo xi xn I J F D R nx sl) : sl = 53 * xn 3 0 0 := h.2.2.2.2.2.2.2
theorem CU_num {ci : Nat → Nat → Nat → Int32} {cn : Nat → Nat → Nat → Nat} {co : Nat → Option Nat} {xj : Nat → Nat → Nat → Int64} {xd : Nat → Nat → Nat → UInt64} {xf : Nat → Nat → Nat → UInt32} {xo : Nat → Nat → Nat → Option Nat} {xi : Nat → Nat → Nat → Int32} {xn : Nat → Nat → Nat → Nat} {I : Nat → Nat → Int32} {J : Nat → Nat → Int64} {F : Nat → Nat → UInt32} {D : Nat → Nat → UInt64} {R : Nat → Nat → Option Nat} {nx sl : Nat} (h : RC ci cn co xj xd xf xo xi xn I J F D R nx sl) {t a : Nat} (ht : t < 3) (ha : a < 8) {v : Int64}  {j : Nat} {z : Int64} (hj : j = a) (hz : z = v) : RC ci cn co (u3 xj 0 t a v) xd xf xo xi xn I (mm_up J (32 + 7 * t + 1) j z) F D R nx sl := by
  subst hj; subst hz
  have isr := fun i hi => (rc_isor h (i := i) hi).2.2.1
  obtain ⟨hJ, hD, hF, hR, hI, hX, hN, hS⟩ := h
  exact ⟨⟨fun t1 ht1 k1 hk1 => by
      have g0 := hJ.1 t1 ht1 k1 hk1
      simp only [mm_up, u3, true_and, and_true, false_and, and_false, if_true, if_false] <;> (repeat' split) <;> first | exact g0 | rfl | (exfalso; omega) | (exfalso; have e9 : i1 = i := (by omega); subst e9; omega) | (exfalso; simp_all; done),
    fun i1 hi1 k1 hk1 e0 => by
      have z1 := isr i1 hi1; have g0 := hJ.2.1 i1 hi1 k1 hk1 e0
      simp only [mm_up, u3, true_and, and_true, false_and, and_false, if_true, if_false] <;> (repeat' split) <;> first | exact g0 | rfl | (exfalso; omega) | (exfalso; have e9 : i1 = i := (by omega); subst e9; omega) | (exfalso; simp_all; done),
    fun i1 hi1 => by
      have g0 := hJ.2.2 i1 hi1
      simp only [mm_up, u3, true_and, and_true, false_and, and_false, if_true, if_false] <;> (repeat' split) <;> first | exact g0 | rfl | (exfalso; omega) | (exfalso; have e9 : i1 = i := (by omega); subst e9; omega) | (exfalso; simp_all; done)⟩,
   hD,
   hF,
   hR,
   hI,
   hX,
   hN,
   hS⟩
theorem MU_num {ci : Nat → Nat → Nat → Int32} {cn : Nat → Nat → Nat → Nat} {co : Nat → Option Nat} {xj : Nat → Nat → Nat → Int64} {xd : Nat → Nat → Nat → UInt64} {xf : Nat → Nat → Nat → UInt32} {xo : Nat → Nat → Nat → Option Nat} {xi : Nat → Nat → Nat → Int32} {xn : Nat → Nat → Nat → Nat} {I : Nat → Nat → Int32} {J : Nat → Nat → Int64} {D : Nat → Nat → UInt64} (h : RM ci cn co xj xd xf xo xi xn I J D) {t a : Nat} (ht : t < 3) (ha : a < 8) {v : Int64}  {j : Nat} {z : Int64} (hj : j = 8 * t + a) (hz : z = v) (isr : ∀ i, i < xn 2 0 0 → xn 1 i 0 ≤ 12) : RM ci cn co (u3 xj 0 t a v) xd xf xo xi xn I (mm_up J (30) j z) D := by
  subst hj; subst hz
  obtain ⟨hJ, hD, hI⟩ := h
  exact ⟨⟨fun t1 ht1 k1 hk1 => by
      have g0 := hJ.1 t1 ht1 k1 hk1
      simp only [mm_up, u3, true_and, and_true, false_and, and_false, if_true, if_false] <;> (repeat' split) <;> first | exact g0 | rfl | (exfalso; omega) | (exfalso; have e9 : i1 = i := (by omega); subst e9; omega) | (exfalso; simp_all; done),
    fun i1 hi1 k1 hk1 e0 => by
      have z1 := isr i1 hi1; have g0 := hJ.2.1 i1 hi1 k1 hk1 e0
      simp only [mm_up, u3, true_and, and_true, false_and, and_false, if_true, if_false] <;> (repeat' split) <;> first | exact g0 | rfl | (exfalso; omega) | (exfalso; have e9 : i1 = i := (by omega); subst e9; omega) | (exfalso; simp_all; done),
    fun i1 hi1 k1 hk1 e0 => by
      have z1 := isr i1 hi1; have g0 := hJ.2.2.1 i1 hi1 k1 hk1 e0
      simp only [mm_up, u3, true_and, and_true, false_and, and_false, if_true, if_false] <;> (repeat' split) <;> first | exact g0 | rfl | (exfalso; omega) | (exfalso; have e9 : i1 = i := (by omega); subst e9; omega) | (exfalso; simp_all; done),
    fun i1 hi1 => by
      have g0 := hJ.2.2.2 i1 hi1
      simp only [mm_up, u3, true_and, and_true, false_and, and_false, if_true, if_false] <;> (repeat' split) <;> first | exact g0 | rfl | (exfalso; omega) | (exfalso; have e9 : i1 = i := (by omega); subst e9; omega) | (exfalso; simp_all; done)⟩,
   hD,
   hI⟩
theorem CU_dbl {ci : Nat → Nat → Nat → Int32} {cn : Nat → Nat → Nat → Nat} {co : Nat → Option Nat} {xj : Nat → Nat → Nat → Int64} {xd : Nat → Nat → Nat → UInt64} {xf : Nat → Nat → Nat → UInt32} {xo : Nat → Nat → Nat → Option Nat} {xi : Nat → Nat → Nat → Int32} {xn : Nat → Nat → Nat → Nat} {I : Nat → Nat → Int32} {J : Nat → Nat → Int64} {F : Nat → Nat → UInt32} {D : Nat → Nat → UInt64} {R : Nat → Nat → Option Nat} {nx sl : Nat} (h : RC ci cn co xj xd xf xo xi xn I J F D R nx sl) {t a : Nat} (ht : t < 3) (ha : a < 4) {v : UInt64} (hv : vf_n64 v) {j : Nat} {z : UInt64} (hj : j = a) (hz : z = v) : RC ci cn co xj (u3 xd 0 t a v) xf xo xi xn I J F (mm_up D (32 + 7 * t + 2) j z) R nx sl := by
  subst hj; subst hz
  have isr := fun i hi => (rc_isor h (i := i) hi).2.2.1
  obtain ⟨hJ, hD, hF, hR, hI, hX, hN, hS⟩ := h
  exact ⟨hJ,
   ⟨fun t1 ht1 k1 hk1 => by
      have g0 := hD.1 t1 ht1 k1 hk1
      simp only [mm_up, u3, true_and, and_true, false_and, and_false, if_true, if_false] <;> (repeat' split) <;> first | exact g0 | rfl | (exfalso; omega) | (exfalso; have e9 : i1 = i := (by omega); subst e9; omega) | (exfalso; simp_all; done),
    fun i1 hi1 k1 hk1 e0 e1 => by
      have z1 := isr i1 hi1; have g0 := hD.2.1 i1 hi1 k1 hk1 e0 e1
      simp only [mm_up, u3, true_and, and_true, false_and, and_false, if_true, if_false] <;> (repeat' split) <;> first | exact g0 | rfl | (exfalso; omega) | (exfalso; have e9 : i1 = i := (by omega); subst e9; omega) | (exfalso; simp_all; done),
    fun i1 hi1 => by
      have g0 := hD.2.2.1 i1 hi1
      simp only [mm_up, u3, true_and, and_true, false_and, and_false, if_true, if_false] <;> (repeat' split) <;> first | exact g0 | rfl | (exfalso; omega) | (exfalso; have e9 : i1 = i := (by omega); subst e9; omega) | (exfalso; simp_all; done),
    fun j1 hj1 => by
      have g0 := hD.2.2.2 j1 hj1
      simp only [mm_up, u3, true_and, and_true, false_and, and_false, if_true, if_false] <;> (repeat' split) <;> first | exact g0 | rfl | (exfalso; omega) | (exfalso; have e9 : i1 = i := (by omega); subst e9; omega) | (exfalso; simp_all; done)⟩,
   hF,
   hR,
   hI,
   ⟨hX.1,
    hX.2.1,
    hX.2.2.1,
    hX.2.2.2.1,
    hX.2.2.2.2.1,
    hX.2.2.2.2.2.1,
    fun t1 ht1 k1 hk1 => by
      have g0 := hX.2.2.2.2.2.2.1 t1 ht1 k1 hk1
      simp only [u3, true_and, and_true, false_and, and_false, if_true, if_false] <;> (repeat' split) <;> first | exact g0 | exact hv | (exfalso; omega) | (exfalso; have e9 : i1 = i := (by omega); subst e9; omega) | (exfalso; simp_all; done),
    fun i1 hi1 k1 hk1 e0 e1 => by
      have z1 := isr i1 hi1; have g0 := hX.2.2.2.2.2.2.2.1 i1 hi1 k1 hk1 e0 e1
      simp only [u3, true_and, and_true, false_and, and_false, if_true, if_false] <;> (repeat' split) <;> first | exact g0 | exact hv | (exfalso; omega) | (exfalso; have e9 : i1 = i := (by omega); subst e9; omega) | (exfalso; simp_all; done),
    fun i1 hi1 => by
      have g0 := hX.2.2.2.2.2.2.2.2.1 i1 hi1
      simp only [u3, true_and, and_true, false_and, and_false, if_true, if_false] <;> (repeat' split) <;> first | exact g0 | exact hv | (exfalso; omega) | (exfalso; have e9 : i1 = i := (by omega); subst e9; omega) | (exfalso; simp_all; done),
    hX.2.2.2.2.2.2.2.2.2.1,
    hX.2.2.2.2.2.2.2.2.2.2.1,
    hX.2.2.2.2.2.2.2.2.2.2.2.1,
    hX.2.2.2.2.2.2.2.2.2.2.2.2⟩,
   hN,
   hS⟩
theorem MU_dbl {ci : Nat → Nat → Nat → Int32} {cn : Nat → Nat → Nat → Nat} {co : Nat → Option Nat} {xj : Nat → Nat → Nat → Int64} {xd : Nat → Nat → Nat → UInt64} {xf : Nat → Nat → Nat → UInt32} {xo : Nat → Nat → Nat → Option Nat} {xi : Nat → Nat → Nat → Int32} {xn : Nat → Nat → Nat → Nat} {I : Nat → Nat → Int32} {J : Nat → Nat → Int64} {D : Nat → Nat → UInt64} (h : RM ci cn co xj xd xf xo xi xn I J D) {t a : Nat} (ht : t < 3) (ha : a < 4) {v : UInt64}  {j : Nat} {z : UInt64} (hj : j = 4 * t + a) (hz : z = v) (isr : ∀ i, i < xn 2 0 0 → xn 1 i 0 ≤ 12) : RM ci cn co xj (u3 xd 0 t a v) xf xo xi xn I J (mm_up D (31) j z) := by
  subst hj; subst hz
  obtain ⟨hJ, hD, hI⟩ := h
  exact ⟨hJ,
   ⟨fun t1 ht1 k1 hk1 => by
      have g0 := hD.1 t1 ht1 k1 hk1
      simp only [mm_up, u3, true_and, and_true, false_and, and_false, if_true, if_false] <;> (repeat' split) <;> first | exact g0 | rfl | (exfalso; omega) | (exfalso; have e9 : i1 = i := (by omega); subst e9; omega) | (exfalso; simp_all; done),
    fun t1 ht1 k1 hk1 => by
      have g0 := hD.2.1 t1 ht1 k1 hk1
      simp only [mm_up, u3, true_and, and_true, false_and, and_false, if_true, if_false] <;> (repeat' split) <;> first | exact g0 | rfl | (exfalso; omega) | (exfalso; have e9 : i1 = i := (by omega); subst e9; omega) | (exfalso; simp_all; done),
    fun i1 hi1 k1 hk1 e0 e1 => by
      have z1 := isr i1 hi1; have g0 := hD.2.2.1 i1 hi1 k1 hk1 e0 e1
      simp only [mm_up, u3, true_and, and_true, false_and, and_false, if_true, if_false] <;> (repeat' split) <;> first | exact g0 | rfl | (exfalso; omega) | (exfalso; have e9 : i1 = i := (by omega); subst e9; omega) | (exfalso; simp_all; done),
    fun i1 hi1 => by
      have g0 := hD.2.2.2.1 i1 hi1
      simp only [mm_up, u3, true_and, and_true, false_and, and_false, if_true, if_false] <;> (repeat' split) <;> first | exact g0 | rfl | (exfalso; omega) | (exfalso; have e9 : i1 = i := (by omega); subst e9; omega) | (exfalso; simp_all; done),
    fun i1 hi1 => by
      have g0 := hD.2.2.2.2 i1 hi1
      simp only [mm_up, u3, true_and, and_true, false_and, and_false, if_true, if_false] <;> (repeat' split) <;> first | exact g0 | rfl | (exfalso; omega) | (exfalso; have e9 : i1 = i := (by omega); subst e9; omega) | (exfalso; simp_all; done)⟩,
   hI⟩
theorem CU_flt {ci : Nat → Nat → Nat → Int32} {cn : Nat → Nat → Nat → Nat} {co : Nat → Option Nat} {xj : Nat → Nat → Nat → Int64} {xd : Nat → Nat → Nat → UInt64} {xf : Nat → Nat → Nat → UInt32} {xo : Nat → Nat → Nat → Option Nat} {xi : Nat → Nat → Nat → Int32} {xn : Nat → Nat → Nat → Nat} {I : Nat → Nat → Int32} {J : Nat → Nat → Int64} {F : Nat → Nat → UInt32} {D : Nat → Nat → UInt64} {R : Nat → Nat → Option Nat} {nx sl : Nat} (h : RC ci cn co xj xd xf xo xi xn I J F D R nx sl) {t a : Nat} (ht : t < 3) (ha : a < 4) {v : UInt32} (hv : vf_n32 v) {j : Nat} {z : UInt32} (hj : j = a) (hz : z = v) : RC ci cn co xj xd (u3 xf 0 t a v) xo xi xn I J (mm_up F (32 + 7 * t + 3) j z) D R nx sl := by
  subst hj; subst hz
  have isr := fun i hi => (rc_isor h (i := i) hi).2.2.1
  obtain ⟨hJ, hD, hF, hR, hI, hX, hN, hS⟩ := h
  exact ⟨hJ,
   hD,
   ⟨fun t1 ht1 k1 hk1 => by
      have g0 := hF.1 t1 ht1 k1 hk1
      simp only [mm_up, u3, true_and, and_true, false_and, and_false, if_true, if_false] <;> (repeat' split) <;> first | exact g0 | rfl | (exfalso; omega) | (exfalso; have e9 : i1 = i := (by omega); subst e9; omega) | (exfalso; simp_all; done),
    fun i1 hi1 => by
      have g0 := hF.2 i1 hi1
      simp only [mm_up, u3, true_and, and_true, false_and, and_false, if_true, if_false] <;> (repeat' split) <;> first | exact g0 | rfl | (exfalso; omega) | (exfalso; have e9 : i1 = i := (by omega); subst e9; omega) | (exfalso; simp_all; done)⟩,
   hR,
   hI,
   ⟨hX.1,
    hX.2.1,
    hX.2.2.1,
    hX.2.2.2.1,
    hX.2.2.2.2.1,
    hX.2.2.2.2.2.1,
    hX.2.2.2.2.2.2.1,
    hX.2.2.2.2.2.2.2.1,
    hX.2.2.2.2.2.2.2.2.1,
    fun t1 ht1 k1 hk1 => by
      have g0 := hX.2.2.2.2.2.2.2.2.2.1 t1 ht1 k1 hk1
      simp only [u3, true_and, and_true, false_and, and_false, if_true, if_false] <;> (repeat' split) <;> first | exact g0 | exact hv | (exfalso; omega) | (exfalso; have e9 : i1 = i := (by omega); subst e9; omega) | (exfalso; simp_all; done),
    fun i1 hi1 => by
      have g0 := hX.2.2.2.2.2.2.2.2.2.2.1 i1 hi1
      simp only [u3, true_and, and_true, false_and, and_false, if_true, if_false] <;> (repeat' split) <;> first | exact g0 | exact hv | (exfalso; omega) | (exfalso; have e9 : i1 = i := (by omega); subst e9; omega) | (exfalso; simp_all; done),
    hX.2.2.2.2.2.2.2.2.2.2.2.1,
    hX.2.2.2.2.2.2.2.2.2.2.2.2⟩,
   hN,
   hS⟩
theorem MU_flt {ci : Nat → Nat → Nat → Int32} {cn : Nat → Nat → Nat → Nat} {co : Nat → Option Nat} {xj : Nat → Nat → Nat → Int64} {xd : Nat → Nat → Nat → UInt64} {xf : Nat → Nat → Nat → UInt32} {xo : Nat → Nat → Nat → Option Nat} {xi : Nat → Nat → Nat → Int32} {xn : Nat → Nat → Nat → Nat} {I : Nat → Nat → Int32} {J : Nat → Nat → Int64} {D : Nat → Nat → UInt64} (h : RM ci cn co xj xd xf xo xi xn I J D) {t a : Nat} (ht : t < 3) (ha : a < 4) {v : UInt32}  {j : Nat} {z : UInt64} (hj : j = 4 * t + a) (hz : z = FP.f2d v) (isr : ∀ i, i < xn 2 0 0 → xn 1 i 0 ≤ 12) : RM ci cn co xj xd (u3 xf 0 t a v) xo xi xn I J (mm_up D (32) j z) := by
  subst hj; subst hz
  obtain ⟨hJ, hD, hI⟩ := h
  exact ⟨hJ,
   ⟨fun t1 ht1 k1 hk1 => by
      have g0 := hD.1 t1 ht1 k1 hk1
      simp only [mm_up, u3, true_and, and_true, false_and, and_false, if_true, if_false] <;> (repeat' split) <;> first | exact g0 | rfl | (exfalso; omega) | (exfalso; have e9 : i1 = i := (by omega); subst e9; omega) | (exfalso; simp_all; done),
    fun t1 ht1 k1 hk1 => by
      have g0 := hD.2.1 t1 ht1 k1 hk1
      simp only [mm_up, u3, true_and, and_true, false_and, and_false, if_true, if_false] <;> (repeat' split) <;> first | exact g0 | rfl | (exfalso; omega) | (exfalso; have e9 : i1 = i := (by omega); subst e9; omega) | (exfalso; simp_all; done),
    fun i1 hi1 k1 hk1 e0 e1 => by
      have z1 := isr i1 hi1; have g0 := hD.2.2.1 i1 hi1 k1 hk1 e0 e1
      simp only [mm_up, u3, true_and, and_true, false_and, and_false, if_true, if_false] <;> (repeat' split) <;> first | exact g0 | rfl | (exfalso; omega) | (exfalso; have e9 : i1 = i := (by omega); subst e9; omega) | (exfalso; simp_all; done),
    fun i1 hi1 => by
      have g0 := hD.2.2.2.1 i1 hi1
      simp only [mm_up, u3, true_and, and_true, false_and, and_false, if_true, if_false] <;> (repeat' split) <;> first | exact g0 | rfl | (exfalso; omega) | (exfalso; have e9 : i1 = i := (by omega); subst e9; omega) | (exfalso; simp_all; done),
    fun i1 hi1 => by
      have g0 := hD.2.2.2.2 i1 hi1
      simp only [mm_up, u3, true_and, and_true, false_and, and_false, if_true, if_false] <;> (repeat' split) <;> first | exact g0 | rfl | (exfalso; omega) | (exfalso; have e9 : i1 = i := (by omega); subst e9; omega) | (exfalso; simp_all; done)⟩,
   hI⟩
theorem CU_hol {ci : Nat → Nat → Nat → Int32} {cn : Nat → Nat → Nat → Nat} {co : Nat → Option Nat} {xj : Nat → Nat → Nat → Int64} {xd : Nat → Nat → Nat → UInt64} {xf : Nat → Nat → Nat → UInt32} {xo : Nat → Nat → Nat → Option Nat} {xi : Nat → Nat → Nat → Int32} {xn : Nat → Nat → Nat → Nat} {I : Nat → Nat → Int32} {J : Nat → Nat → Int64} {F : Nat → Nat → UInt32} {D : Nat → Nat → UInt64} {R : Nat → Nat → Option Nat} {nx sl : Nat} (h : RC ci cn co xj xd xf xo xi xn I J F D R nx sl) {t a : Nat} (ht : t < 3) (ha : a < 8) {v : Option Nat} (hv : ∀ q, v = some q → q < xn 2 0 0) {j : Nat} {z : Option Nat} (hj : j = a) (hz : z = tR v) : RC ci cn co xj xd xf (u3 xo 0 t a v) xi xn I J F D (mm_up R (32 + 7 * t + 4) j z) nx sl := by
  subst hj; subst hz
  have isr := fun i hi => (rc_isor h (i := i) hi).2.2.1
  obtain ⟨hJ, hD, hF, hR, hI, hX, hN, hS⟩ := h
  exact ⟨hJ,
   hD,
   hF,
   ⟨fun t1 ht1 k1 hk1 => by
      have g0 := hR.1 t1 ht1 k1 hk1
      simp only [mm_up, u3, true_and, and_true, false_and, and_false, if_true, if_false] <;> (repeat' split) <;> first | exact g0 | rfl | (exfalso; omega) | (exfalso; have e9 : i1 = i := (by omega); subst e9; omega) | (exfalso; simp_all; done),
    fun i1 hi1 k1 hk1 e0 => by
      have z1 := isr i1 hi1; have g0 := hR.2.1 i1 hi1 k1 hk1 e0
      simp only [mm_up, u3, true_and, and_true, false_and, and_false, if_true, if_false] <;> (repeat' split) <;> first | exact g0 | rfl | (exfalso; omega) | (exfalso; have e9 : i1 = i := (by omega); subst e9; omega) | (exfalso; simp_all; done),
    fun i1 hi1 => by
      have g0 := hR.2.2.1 i1 hi1
      simp only [mm_up, u3, true_and, and_true, false_and, and_false, if_true, if_false] <;> (repeat' split) <;> first | exact g0 | rfl | (exfalso; omega) | (exfalso; have e9 : i1 = i := (by omega); subst e9; omega) | (exfalso; simp_all; done),
    fun i1 hi1 => by
      have g0 := hR.2.2.2.1 i1 hi1
      simp only [mm_up, u3, true_and, and_true, false_and, and_false, if_true, if_false] <;> (repeat' split) <;> first | exact g0 | rfl | (exfalso; omega) | (exfalso; have e9 : i1 = i := (by omega); subst e9; omega) | (exfalso; simp_all; done),
    fun t1 ht1 => by
      have g0 := hR.2.2.2.2.1 t1 ht1
      simp only [mm_up, u3, true_and, and_true, false_and, and_false, if_true, if_false] <;> (repeat' split) <;> first | exact g0 | rfl | (exfalso; omega) | (exfalso; have e9 : i1 = i := (by omega); subst e9; omega) | (exfalso; simp_all; done),
    fun t1 ht1 k1 hk1 => by
      have g0 := hR.2.2.2.2.2.1 t1 ht1 k1 hk1
      simp only [mm_up, u3, true_and, and_true, false_and, and_false, if_true, if_false] <;> (repeat' split) <;> first | exact g0 | rfl | (exfalso; omega) | (exfalso; have e9 : i1 = i := (by omega); subst e9; omega) | (exfalso; simp_all; done),
    fun i1 hi1 => by
      have g0 := hR.2.2.2.2.2.2.1 i1 hi1
      simp only [mm_up, u3, true_and, and_true, false_and, and_false, if_true, if_false] <;> (repeat' split) <;> first | exact g0 | rfl | (exfalso; omega) | (exfalso; have e9 : i1 = i := (by omega); subst e9; omega) | (exfalso; simp_all; done),
    fun i1 hi1 e0 => by
      have g0 := hR.2.2.2.2.2.2.2.1 i1 hi1 e0
      simp only [mm_up, u3, true_and, and_true, false_and, and_false, if_true, if_false] <;> (repeat' split) <;> first | exact g0 | rfl | (exfalso; omega) | (exfalso; have e9 : i1 = i := (by omega); subst e9; omega) | (exfalso; simp_all; done),
    fun p1 hp1 => by
      have g0 := hR.2.2.2.2.2.2.2.2.1 p1 hp1
      simp only [mm_up, u3, true_and, and_true, false_and, and_false, if_true, if_false] <;> (repeat' split) <;> first | exact g0 | rfl | (exfalso; omega) | (exfalso; have e9 : i1 = i := (by omega); subst e9; omega) | (exfalso; simp_all; done),
    fun t1 ht1 => by
      have g0 := hR.2.2.2.2.2.2.2.2.2 t1 ht1
      simp only [mm_up, u3, true_and, and_true, false_and, and_false, if_true, if_false] <;> (repeat' split) <;> first | exact g0 | rfl | (exfalso; omega) | (exfalso; have e9 : i1 = i := (by omega); subst e9; omega) | (exfalso; simp_all; done)⟩,
   ⟨hI.1,
    hI.2.1,
    hI.2.2.1,
    hI.2.2.2.1,
    hI.2.2.2.2.1,
    hI.2.2.2.2.2.1,
    hI.2.2.2.2.2.2.1,
    hI.2.2.2.2.2.2.2.1,
    hI.2.2.2.2.2.2.2.2.1,
    hI.2.2.2.2.2.2.2.2.2.1,
    hI.2.2.2.2.2.2.2.2.2.2.1,
    hI.2.2.2.2.2.2.2.2.2.2.2.1,
    hI.2.2.2.2.2.2.2.2.2.2.2.2.1,
    hI.2.2.2.2.2.2.2.2.2.2.2.2.2.1,
    hI.2.2.2.2.2.2.2.2.2.2.2.2.2.2.1,
    hI.2.2.2.2.2.2.2.2.2.2.2.2.2.2.2.1,
    hI.2.2.2.2.2.2.2.2.2.2.2.2.2.2.2.2.1,
    hI.2.2.2.2.2.2.2.2.2.2.2.2.2.2.2.2.2.1,
    hI.2.2.2.2.2.2.2.2.2.2.2.2.2.2.2.2.2.2.1,
    hI.2.2.2.2.2.2.2.2.2.2.2.2.2.2.2.2.2.2.2.1,
    hI.2.2.2.2.2.2.2.2.2.2.2.2.2.2.2.2.2.2.2.2.1,
    hI.2.2.2.2.2.2.2.2.2.2.2.2.2.2.2.2.2.2.2.2.2.1,
    hI.2.2.2.2.2.2.2.2.2.2.2.2.2.2.2.2.2.2.2.2.2.2.1,
    hI.2.2.2.2.2.2.2.2.2.2.2.2.2.2.2.2.2.2.2.2.2.2.2.1,
    hI.2.2.2.2.2.2.2.2.2.2.2.2.2.2.2.2.2.2.2.2.2.2.2.2.1,
    fun i1 hi1 => by
      have g0 := hI.2.2.2.2.2.2.2.2.2.2.2.2.2.2.2.2.2.2.2.2.2.2.2.2.2.1 i1 hi1
      simp only [mm_up, u3, true_and, and_true, false_and, and_false, if_true, if_false] <;> (repeat' split) <;> first | exact g0 | rfl | (exfalso; omega) | (exfalso; have e9 : i1 = i := (by omega); subst e9; omega) | (exfalso; simp_all; done),
    hI.2.2.2.2.2.2.2.2.2.2.2.2.2.2.2.2.2.2.2.2.2.2.2.2.2.2.1,
    hI.2.2.2.2.2.2.2.2.2.2.2.2.2.2.2.2.2.2.2.2.2.2.2.2.2.2.2.1,
    hI.2.2.2.2.2.2.2.2.2.2.2.2.2.2.2.2.2.2.2.2.2.2.2.2.2.2.2.2.1,
    hI.2.2.2.2.2.2.2.2.2.2.2.2.2.2.2.2.2.2.2.2.2.2.2.2.2.2.2.2.2.1,
    hI.2.2.2.2.2.2.2.2.2.2.2.2.2.2.2.2.2.2.2.2.2.2.2.2.2.2.2.2.2.2⟩,
   ⟨fun t1 ht1 k1 hk1 => by
      have g0 := hX.1 t1 ht1 k1 hk1
      simp only [u3, true_and, and_true, false_and, and_false, if_true, if_false] <;> (repeat' split) <;> first | exact g0 | exact hv | (exfalso; omega) | (exfalso; have e9 : i1 = i := (by omega); subst e9; omega) | (exfalso; simp_all; done),
    fun i1 hi1 k1 hk1 e0 => by
      have z1 := isr i1 hi1; have g0 := hX.2.1 i1 hi1 k1 hk1 e0
      simp only [u3, true_and, and_true, false_and, and_false, if_true, if_false] <;> (repeat' split) <;> first | exact g0 | exact hv | (exfalso; omega) | (exfalso; have e9 : i1 = i := (by omega); subst e9; omega) | (exfalso; simp_all; done),
    fun i1 hi1 => by
      have g0 := hX.2.2.1 i1 hi1
      simp only [u3, true_and, and_true, false_and, and_false, if_true, if_false] <;> (repeat' split) <;> first | exact g0 | exact hv | (exfalso; omega) | (exfalso; have e9 : i1 = i := (by omega); subst e9; omega) | (exfalso; simp_all; done),
    fun i1 hi1 => by
      have g0 := hX.2.2.2.1 i1 hi1
      simp only [u3, true_and, and_true, false_and, and_false, if_true, if_false] <;> (repeat' split) <;> first | exact g0 | exact hv | (exfalso; omega) | (exfalso; have e9 : i1 = i := (by omega); subst e9; omega) | (exfalso; simp_all; done),
    fun i1 hi1 => by
      have g0 := hX.2.2.2.2.1 i1 hi1
      simp only [u3, true_and, and_true, false_and, and_false, if_true, if_false] <;> (repeat' split) <;> first | exact g0 | exact hv | (exfalso; omega) | (exfalso; have e9 : i1 = i := (by omega); subst e9; omega) | (exfalso; simp_all; done),
    hX.2.2.2.2.2.1,
    hX.2.2.2.2.2.2.1,
    hX.2.2.2.2.2.2.2.1,
    hX.2.2.2.2.2.2.2.2.1,
    hX.2.2.2.2.2.2.2.2.2.1,
    hX.2.2.2.2.2.2.2.2.2.2.1,
    hX.2.2.2.2.2.2.2.2.2.2.2.1,
    hX.2.2.2.2.2.2.2.2.2.2.2.2⟩,
   hN,
   hS⟩
theorem MU_hol {ci : Nat → Nat → Nat → Int32} {cn : Nat → Nat → Nat → Nat} {co : Nat → Option Nat} {xj : Nat → Nat → Nat → Int64} {xd : Nat → Nat → Nat → UInt64} {xf : Nat → Nat → Nat → UInt32} {xo : Nat → Nat → Nat → Option Nat} {xi : Nat → Nat → Nat → Int32} {xn : Nat → Nat → Nat → Nat} {I : Nat → Nat → Int32} {J : Nat → Nat → Int64} {D : Nat → Nat → UInt64} (h : RM ci cn co xj xd xf xo xi xn I J D) {t a : Nat} (ht : t < 3) (ha : a < 8) {v : Option Nat}  {j : Nat} {z : Int32} (hj : j = 8 * t + a) (hz : z = eI v) (isr : ∀ i, i < xn 2 0 0 → xn 1 i 0 ≤ 12) : RM ci cn co xj xd xf (u3 xo 0 t a v) xi xn (mm_up I (33) j z) J D := by
  subst hj; subst hz
  obtain ⟨hJ, hD, hI⟩ := h
  exact ⟨⟨hJ.1,
    hJ.2.1,
    fun i1 hi1 k1 hk1 e0 => by
      have z1 := isr i1 hi1; have g0 := hJ.2.2.1 i1 hi1 k1 hk1 e0
      simp only [mm_up, u3, true_and, and_true, false_and, and_false, if_true, if_false] <;> (repeat' split) <;> first | exact g0 | rfl | (exfalso; omega) | (exfalso; have e9 : i1 = i := (by omega); subst e9; omega) | (exfalso; simp_all; done),
    hJ.2.2.2⟩,
   hD,
   ⟨by
      have g0 := hI.1
      simp only [mm_up, u3, true_and, and_true, false_and, and_false, if_true, if_false] <;> (repeat' split) <;> first | exact g0 | rfl | (exfalso; omega) | (exfalso; have e9 : i1 = i := (by omega); subst e9; omega) | (exfalso; simp_all; done),
    by
      have g0 := hI.2.1
      simp only [mm_up, u3, true_and, and_true, false_and, and_false, if_true, if_false] <;> (repeat' split) <;> first | exact g0 | rfl | (exfalso; omega) | (exfalso; have e9 : i1 = i := (by omega); subst e9; omega) | (exfalso; simp_all; done),
    fun i1 hi1 => by
      have g0 := hI.2.2.1 i1 hi1
      simp only [mm_up, u3, true_and, and_true, false_and, and_false, if_true, if_false] <;> (repeat' split) <;> first | exact g0 | rfl | (exfalso; omega) | (exfalso; have e9 : i1 = i := (by omega); subst e9; omega) | (exfalso; simp_all; done),
    fun i1 hi1 => by
      have g0 := hI.2.2.2.1 i1 hi1
      simp only [mm_up, u3, true_and, and_true, false_and, and_false, if_true, if_false] <;> (repeat' split) <;> first | exact g0 | rfl | (exfalso; omega) | (exfalso; have e9 : i1 = i := (by omega); subst e9; omega) | (exfalso; simp_all; done),
    fun i1 hi1 => by
      have g0 := hI.2.2.2.2.1 i1 hi1
      simp only [mm_up, u3, true_and, and_true, false_and, and_false, if_true, if_false] <;> (repeat' split) <;> first | exact g0 | rfl | (exfalso; omega) | (exfalso; have e9 : i1 = i := (by omega); subst e9; omega) | (exfalso; simp_all; done),
    fun i1 hi1 => by
      have g0 := hI.2.2.2.2.2.1 i1 hi1
      simp only [mm_up, u3, true_and, and_true, false_and, and_false, if_true, if_false] <;> (repeat' split) <;> first | exact g0 | rfl | (exfalso; omega) | (exfalso; have e9 : i1 = i := (by omega); subst e9; omega) | (exfalso; simp_all; done),
    fun i1 hi1 => by
      have g0 := hI.2.2.2.2.2.2.1 i1 hi1
      simp only [mm_up, u3, true_and, and_true, false_and, and_false, if_true, if_false] <;> (repeat' split) <;> first | exact g0 | rfl | (exfalso; omega) | (exfalso; have e9 : i1 = i := (by omega); subst e9; omega) | (exfalso; simp_all; done),
    fun i1 hi1 k1 hk1 => by
      have g0 := hI.2.2.2.2.2.2.2.1 i1 hi1 k1 hk1
      simp only [mm_up, u3, true_and, and_true, false_and, and_false, if_true, if_false] <;> (repeat' split) <;> first | exact g0 | rfl | (exfalso; omega) | (exfalso; have e9 : i1 = i := (by omega); subst e9; omega) | (exfalso; simp_all; done),
    fun i1 hi1 => by
      have g0 := hI.2.2.2.2.2.2.2.2.1 i1 hi1
      simp only [mm_up, u3, true_and, and_true, false_and, and_false, if_true, if_false] <;> (repeat' split) <;> first | exact g0 | rfl | (exfalso; omega) | (exfalso; have e9 : i1 = i := (by omega); subst e9; omega) | (exfalso; simp_all; done),
    fun i1 hi1 => by
      have g0 := hI.2.2.2.2.2.2.2.2.2.1 i1 hi1
      simp only [mm_up, u3, true_and, and_true, false_and, and_false, if_true, if_false] <;> (repeat' split) <;> first | exact g0 | rfl | (exfalso; omega) | (exfalso; have e9 : i1 = i := (by omega); subst e9; omega) | (exfalso; simp_all; done),
    fun p1 hp1 => by
      have g0 := hI.2.2.2.2.2.2.2.2.2.2.1 p1 hp1
      simp only [mm_up, u3, true_and, and_true, false_and, and_false, if_true, if_false] <;> (repeat' split) <;> first | exact g0 | rfl | (exfalso; omega) | (exfalso; have e9 : i1 = i := (by omega); subst e9; omega) | (exfalso; simp_all; done),
    fun p1 hp1 k1 hk1 => by
      have g0 := hI.2.2.2.2.2.2.2.2.2.2.2.1 p1 hp1 k1 hk1
      simp only [mm_up, u3, true_and, and_true, false_and, and_false, if_true, if_false] <;> (repeat' split) <;> first | exact g0 | rfl | (exfalso; omega) | (exfalso; have e9 : i1 = i := (by omega); subst e9; omega) | (exfalso; simp_all; done),
    fun p1 hp1 k1 hk1 => by
      have g0 := hI.2.2.2.2.2.2.2.2.2.2.2.2.1 p1 hp1 k1 hk1
      simp only [mm_up, u3, true_and, and_true, false_and, and_false, if_true, if_false] <;> (repeat' split) <;> first | exact g0 | rfl | (exfalso; omega) | (exfalso; have e9 : i1 = i := (by omega); subst e9; omega) | (exfalso; simp_all; done),
    fun p1 hp1 k1 hk1 => by
      have g0 := hI.2.2.2.2.2.2.2.2.2.2.2.2.2.1 p1 hp1 k1 hk1
      simp only [mm_up, u3, true_and, and_true, false_and, and_false, if_true, if_false] <;> (repeat' split) <;> first | exact g0 | rfl | (exfalso; omega) | (exfalso; have e9 : i1 = i := (by omega); subst e9; omega) | (exfalso; simp_all; done),
    fun p1 hp1 k1 hk1 => by
      have g0 := hI.2.2.2.2.2.2.2.2.2.2.2.2.2.2.1 p1 hp1 k1 hk1
      simp only [mm_up, u3, true_and, and_true, false_and, and_false, if_true, if_false] <;> (repeat' split) <;> first | exact g0 | rfl | (exfalso; omega) | (exfalso; have e9 : i1 = i := (by omega); subst e9; omega) | (exfalso; simp_all; done),
    fun p1 hp1 => by
      have g0 := hI.2.2.2.2.2.2.2.2.2.2.2.2.2.2.2.1 p1 hp1
      simp only [mm_up, u3, true_and, and_true, false_and, and_false, if_true, if_false] <;> (repeat' split) <;> first | exact g0 | rfl | (exfalso; omega) | (exfalso; have e9 : i1 = i := (by omega); subst e9; omega) | (exfalso; simp_all; done),
    fun p1 hp1 k1 hk1 => by
      have g0 := hI.2.2.2.2.2.2.2.2.2.2.2.2.2.2.2.2.1 p1 hp1 k1 hk1
      simp only [mm_up, u3, true_and, and_true, false_and, and_false, if_true, if_false] <;> (repeat' split) <;> first | exact g0 | rfl | (exfalso; omega) | (exfalso; have e9 : i1 = i := (by omega); subst e9; omega) | (exfalso; simp_all; done),
    fun p1 hp1 k1 hk1 => by
      have g0 := hI.2.2.2.2.2.2.2.2.2.2.2.2.2.2.2.2.2.1 p1 hp1 k1 hk1
      simp only [mm_up, u3, true_and, and_true, false_and, and_false, if_true, if_false] <;> (repeat' split) <;> first | exact g0 | rfl | (exfalso; omega) | (exfalso; have e9 : i1 = i := (by omega); subst e9; omega) | (exfalso; simp_all; done),
    fun p1 hp1 k1 hk1 => by
      have g0 := hI.2.2.2.2.2.2.2.2.2.2.2.2.2.2.2.2.2.2.1 p1 hp1 k1 hk1
      simp only [mm_up, u3, true_and, and_true, false_and, and_false, if_true, if_false] <;> (repeat' split) <;> first | exact g0 | rfl | (exfalso; omega) | (exfalso; have e9 : i1 = i := (by omega); subst e9; omega) | (exfalso; simp_all; done),
    fun p1 hp1 k1 hk1 => by
      have g0 := hI.2.2.2.2.2.2.2.2.2.2.2.2.2.2.2.2.2.2.2.1 p1 hp1 k1 hk1
      simp only [mm_up, u3, true_and, and_true, false_and, and_false, if_true, if_false] <;> (repeat' split) <;> first | exact g0 | rfl | (exfalso; omega) | (exfalso; have e9 : i1 = i := (by omega); subst e9; omega) | (exfalso; simp_all; done),
    fun t1 ht1 k1 hk1 => by
      have g0 := hI.2.2.2.2.2.2.2.2.2.2.2.2.2.2.2.2.2.2.2.2.1 t1 ht1 k1 hk1
      simp only [mm_up, u3, true_and, and_true, false_and, and_false, if_true, if_false] <;> (repeat' split) <;> first | exact g0 | rfl | (exfalso; omega) | (exfalso; have e9 : i1 = i := (by omega); subst e9; omega) | (exfalso; simp_all; done),
    fun t1 ht1 => by
      have g0 := hI.2.2.2.2.2.2.2.2.2.2.2.2.2.2.2.2.2.2.2.2.2.1 t1 ht1
      simp only [mm_up, u3, true_and, and_true, false_and, and_false, if_true, if_false] <;> (repeat' split) <;> first | exact g0 | rfl | (exfalso; omega) | (exfalso; have e9 : i1 = i := (by omega); subst e9; omega) | (exfalso; simp_all; done),
    fun t1 ht1 => by
      have g0 := hI.2.2.2.2.2.2.2.2.2.2.2.2.2.2.2.2.2.2.2.2.2.2.1 t1 ht1
      simp only [mm_up, u3, true_and, and_true, false_and, and_false, if_true, if_false] <;> (repeat' split) <;> first | exact g0 | rfl | (exfalso; omega) | (exfalso; have e9 : i1 = i := (by omega); subst e9; omega) | (exfalso; simp_all; done),
    fun t1 ht1 k1 hk1 => by
      have g0 := hI.2.2.2.2.2.2.2.2.2.2.2.2.2.2.2.2.2.2.2.2.2.2.2.1 t1 ht1 k1 hk1
      simp only [mm_up, u3, true_and, and_true, false_and, and_false, if_true, if_false] <;> (repeat' split) <;> first | exact g0 | rfl | (exfalso; omega) | (exfalso; have e9 : i1 = i := (by omega); subst e9; omega) | (exfalso; simp_all; done),
    fun t1 ht1 k1 hk1 => by
      have g0 := hI.2.2.2.2.2.2.2.2.2.2.2.2.2.2.2.2.2.2.2.2.2.2.2.2.1 t1 ht1 k1 hk1
      simp only [mm_up, u3, true_and, and_true, false_and, and_false, if_true, if_false] <;> (repeat' split) <;> first | exact g0 | rfl | (exfalso; omega) | (exfalso; have e9 : i1 = i := (by omega); subst e9; omega) | (exfalso; simp_all; done),
    fun t1 ht1 => by
      have g0 := hI.2.2.2.2.2.2.2.2.2.2.2.2.2.2.2.2.2.2.2.2.2.2.2.2.2.1 t1 ht1
      simp only [mm_up, u3, true_and, and_true, false_and, and_false, if_true, if_false] <;> (repeat' split) <;> first | exact g0 | rfl | (exfalso; omega) | (exfalso; have e9 : i1 = i := (by omega); subst e9; omega) | (exfalso; simp_all; done),
    fun t1 ht1 => by
      have g0 := hI.2.2.2.2.2.2.2.2.2.2.2.2.2.2.2.2.2.2.2.2.2.2.2.2.2.2.1 t1 ht1
      simp only [mm_up, u3, true_and, and_true, false_and, and_false, if_true, if_false] <;> (repeat' split) <;> first | exact g0 | rfl | (exfalso; omega) | (exfalso; have e9 : i1 = i := (by omega); subst e9; omega) | (exfalso; simp_all; done),
    fun t1 ht1 => by
      have g0 := hI.2.2.2.2.2.2.2.2.2.2.2.2.2.2.2.2.2.2.2.2.2.2.2.2.2.2.2.1 t1 ht1
      simp only [mm_up, u3, true_and, and_true, false_and, and_false, if_true, if_false] <;> (repeat' split) <;> first | exact g0 | rfl | (exfalso; omega) | (exfalso; have e9 : i1 = i := (by omega); subst e9; omega) | (exfalso; simp_all; done),
    fun t1 ht1 => by
      have g0 := hI.2.2.2.2.2.2.2.2.2.2.2.2.2.2.2.2.2.2.2.2.2.2.2.2.2.2.2.2.1 t1 ht1
      simp only [mm_up, u3, true_and, and_true, false_and, and_false, if_true, if_false] <;> (repeat' split) <;> first | exact g0 | rfl | (exfalso; omega) | (exfalso; have e9 : i1 = i := (by omega); subst e9; omega) | (exfalso; simp_all; done),
    fun t1 ht1 => by
      have g0 := hI.2.2.2.2.2.2.2.2.2.2.2.2.2.2.2.2.2.2.2.2.2.2.2.2.2.2.2.2.2.1 t1 ht1
      simp only [mm_up, u3, true_and, and_true, false_and, and_false, if_true, if_false] <;> (repeat' split) <;> first | exact g0 | rfl | (exfalso; omega) | (exfalso; have e9 : i1 = i := (by omega); subst e9; omega) | (exfalso; simp_all; done),
    fun t1 ht1 => by
      have g0 := hI.2.2.2.2.2.2.2.2.2.2.2.2.2.2.2.2.2.2.2.2.2.2.2.2.2.2.2.2.2.2 t1 ht1
      simp only [mm_up, u3, true_and, and_true, false_and, and_false, if_true, if_false] <;> (repeat' split) <;> first | exact g0 | rfl | (exfalso; omega) | (exfalso; have e9 : i1 = i := (by omega); subst e9; omega) | (exfalso; simp_all; done)⟩⟩
theorem CU_who {ci : Nat → Nat → Nat → Int32} {cn : Nat → Nat → Nat → Nat} {co : Nat → Option Nat} {xj : Nat → Nat → Nat → Int64} {xd : Nat → Nat → Nat → UInt64} {xf : Nat → Nat → Nat → UInt32} {xo : Nat → Nat → Nat → Option Nat} {xi : Nat → Nat → Nat → Int32} {xn : Nat → Nat → Nat → Nat} {I : Nat → Nat → Int32} {J : Nat → Nat → Int64} {F : Nat → Nat → UInt32} {D : Nat → Nat → UInt64} {R : Nat → Nat → Option Nat} {nx sl : Nat} (h : RC ci cn co xj xd xf xo xi xn I J F D R nx sl) {i a : Nat} (hi : i < xn 2 0 0) (ha : a < xn 1 i 0) (hs : xn 0 i 0 < 6) {v : Int64}  {j : Nat} {z : Int64} (hj : j = a) (hz : z = v) : RC ci cn co (u3 xj 1 i a v) xd xf xo xi xn I (mm_up J (94 + 4 * i + 1) j z) F D R nx sl := by
  subst hj; subst hz
  have isr := fun i hi => (rc_isor h (i := i) hi).2.2.1
  obtain ⟨hJ, hD, hF, hR, hI, hX, hN, hS⟩ := h
  have z0 := isr i hi
  exact ⟨⟨fun t1 ht1 k1 hk1 => by
      have g0 := hJ.1 t1 ht1 k1 hk1
      simp only [mm_up, u3, true_and, and_true, false_and, and_false, if_true, if_false] <;> (repeat' split) <;> first | exact g0 | rfl | (exfalso; omega) | (exfalso; have e9 : i1 = i := (by omega); subst e9; omega) | (exfalso; simp_all; done),
    fun i1 hi1 k1 hk1 e0 => by
      have z1 := isr i1 hi1; have g0 := hJ.2.1 i1 hi1 k1 hk1 e0
      simp only [mm_up, u3, true_and, and_true, false_and, and_false, if_true, if_false] <;> (repeat' split) <;> first | exact g0 | rfl | (exfalso; omega) | (exfalso; have e9 : i1 = i := (by omega); subst e9; omega) | (exfalso; simp_all; done),
    fun i1 hi1 => by
      have g0 := hJ.2.2 i1 hi1
      simp only [mm_up, u3, true_and, and_true, false_and, and_false, if_true, if_false] <;> (repeat' split) <;> first | exact g0 | rfl | (exfalso; omega) | (exfalso; have e9 : i1 = i := (by omega); subst e9; omega) | (exfalso; simp_all; done)⟩,
   hD,
   hF,
   hR,
   hI,
   hX,
   hN,
   hS⟩
theorem MU_who {ci : Nat → Nat → Nat → Int32} {cn : Nat → Nat → Nat → Nat} {co : Nat → Option Nat} {xj : Nat → Nat → Nat → Int64} {xd : Nat → Nat → Nat → UInt64} {xf : Nat → Nat → Nat → UInt32} {xo : Nat → Nat → Nat → Option Nat} {xi : Nat → Nat → Nat → Int32} {xn : Nat → Nat → Nat → Nat} {I : Nat → Nat → Int32} {J : Nat → Nat → Int64} {D : Nat → Nat → UInt64} (h : RM ci cn co xj xd xf xo xi xn I J D) {i a : Nat} (hi : i < xn 2 0 0) (ha : a < xn 1 i 0) (hs : xn 0 i 0 < 6) {v : Int64}  {j : Nat} {z : Int64} (hj : j = 12 * i + a) (hz : z = v) (isr : ∀ i, i < xn 2 0 0 → xn 1 i 0 ≤ 12) : RM ci cn co (u3 xj 1 i a v) xd xf xo xi xn I (mm_up J (9) j z) D := by
  subst hj; subst hz
  obtain ⟨hJ, hD, hI⟩ := h
  have z0 := isr i hi
  exact ⟨⟨fun t1 ht1 k1 hk1 => by
      have g0 := hJ.1 t1 ht1 k1 hk1
      simp only [mm_up, u3, true_and, and_true, false_and, and_false, if_true, if_false] <;> (repeat' split) <;> first | exact g0 | rfl | (exfalso; omega) | (exfalso; have e9 : i1 = i := (by omega); subst e9; omega) | (exfalso; simp_all; done),
    fun i1 hi1 k1 hk1 e0 => by
      have z1 := isr i1 hi1; have g0 := hJ.2.1 i1 hi1 k1 hk1 e0
      simp only [mm_up, u3, true_and, and_true, false_and, and_false, if_true, if_false] <;> (repeat' split) <;> first | exact g0 | rfl | (exfalso; omega) | (exfalso; have e9 : i1 = i := (by omega); subst e9; omega) | (exfalso; simp_all; done),
    fun i1 hi1 k1 hk1 e0 => by
      have z1 := isr i1 hi1; have g0 := hJ.2.2.1 i1 hi1 k1 hk1 e0
      simp only [mm_up, u3, true_and, and_true, false_and, and_false, if_true, if_false] <;> (repeat' split) <;> first | exact g0 | rfl | (exfalso; omega) | (exfalso; have e9 : i1 = i := (by omega); subst e9; omega) | (exfalso; simp_all; done),
    fun i1 hi1 => by
      have g0 := hJ.2.2.2 i1 hi1
      simp only [mm_up, u3, true_and, and_true, false_and, and_false, if_true, if_false] <;> (repeat' split) <;> first | exact g0 | rfl | (exfalso; omega) | (exfalso; have e9 : i1 = i := (by omega); subst e9; omega) | (exfalso; simp_all; done)⟩,
   hD,
   hI⟩
theorem CU_rea {ci : Nat → Nat → Nat → Int32} {cn : Nat → Nat → Nat → Nat} {co : Nat → Option Nat} {xj : Nat → Nat → Nat → Int64} {xd : Nat → Nat → Nat → UInt64} {xf : Nat → Nat → Nat → UInt32} {xo : Nat → Nat → Nat → Option Nat} {xi : Nat → Nat → Nat → Int32} {xn : Nat → Nat → Nat → Nat} {I : Nat → Nat → Int32} {J : Nat → Nat → Int64} {F : Nat → Nat → UInt32} {D : Nat → Nat → UInt64} {R : Nat → Nat → Option Nat} {nx sl : Nat} (h : RC ci cn co xj xd xf xo xi xn I J F D R nx sl) {i a : Nat} (hi : i < xn 2 0 0) (ha : a < xn 1 i 0) (hs : 6 ≤ xn 0 i 0) (hs2 : xn 0 i 0 < 8) {v : UInt64} (hv : vf_n64 v) {j : Nat} {z : UInt64} (hj : j = a) (hz : z = v) : RC ci cn co xj (u3 xd 1 i a v) xf xo xi xn I J F (mm_up D (94 + 4 * i + 2) j z) R nx sl := by
  subst hj; subst hz
  have isr := fun i hi => (rc_isor h (i := i) hi).2.2.1
  obtain ⟨hJ, hD, hF, hR, hI, hX, hN, hS⟩ := h
  have z0 := isr i hi
  exact ⟨hJ,
   ⟨fun t1 ht1 k1 hk1 => by
      have g0 := hD.1 t1 ht1 k1 hk1
      simp only [mm_up, u3, true_and, and_true, false_and, and_false, if_true, if_false] <;> (repeat' split) <;> first | exact g0 | rfl | (exfalso; omega) | (exfalso; have e9 : i1 = i := (by omega); subst e9; omega) | (exfalso; simp_all; done),
    fun i1 hi1 k1 hk1 e0 e1 => by
      have z1 := isr i1 hi1; have g0 := hD.2.1 i1 hi1 k1 hk1 e0 e1
      simp only [mm_up, u3, true_and, and_true, false_and, and_false, if_true, if_false] <;> (repeat' split) <;> first | exact g0 | rfl | (exfalso; omega) | (exfalso; have e9 : i1 = i := (by omega); subst e9; omega) | (exfalso; simp_all; done),
    fun i1 hi1 => by
      have g0 := hD.2.2.1 i1 hi1
      simp only [mm_up, u3, true_and, and_true, false_and, and_false, if_true, if_false] <;> (repeat' split) <;> first | exact g0 | rfl | (exfalso; omega) | (exfalso; have e9 : i1 = i := (by omega); subst e9; omega) | (exfalso; simp_all; done),
    fun j1 hj1 => by
      have g0 := hD.2.2.2 j1 hj1
      simp only [mm_up, u3, true_and, and_true, false_and, and_false, if_true, if_false] <;> (repeat' split) <;> first | exact g0 | rfl | (exfalso; omega) | (exfalso; have e9 : i1 = i := (by omega); subst e9; omega) | (exfalso; simp_all; done)⟩,
   hF,
   hR,
   hI,
   ⟨hX.1,
    hX.2.1,
    hX.2.2.1,
    hX.2.2.2.1,
    hX.2.2.2.2.1,
    hX.2.2.2.2.2.1,
    fun t1 ht1 k1 hk1 => by
      have g0 := hX.2.2.2.2.2.2.1 t1 ht1 k1 hk1
      simp only [u3, true_and, and_true, false_and, and_false, if_true, if_false] <;> (repeat' split) <;> first | exact g0 | exact hv | (exfalso; omega) | (exfalso; have e9 : i1 = i := (by omega); subst e9; omega) | (exfalso; simp_all; done),
    fun i1 hi1 k1 hk1 e0 e1 => by
      have z1 := isr i1 hi1; have g0 := hX.2.2.2.2.2.2.2.1 i1 hi1 k1 hk1 e0 e1
      simp only [u3, true_and, and_true, false_and, and_false, if_true, if_false] <;> (repeat' split) <;> first | exact g0 | exact hv | (exfalso; omega) | (exfalso; have e9 : i1 = i := (by omega); subst e9; omega) | (exfalso; simp_all; done),
    fun i1 hi1 => by
      have g0 := hX.2.2.2.2.2.2.2.2.1 i1 hi1
      simp only [u3, true_and, and_true, false_and, and_false, if_true, if_false] <;> (repeat' split) <;> first | exact g0 | exact hv | (exfalso; omega) | (exfalso; have e9 : i1 = i := (by omega); subst e9; omega) | (exfalso; simp_all; done),
    hX.2.2.2.2.2.2.2.2.2.1,
    hX.2.2.2.2.2.2.2.2.2.2.1,
    hX.2.2.2.2.2.2.2.2.2.2.2.1,
    hX.2.2.2.2.2.2.2.2.2.2.2.2⟩,
   hN,
   hS⟩
theorem MU_rea {ci : Nat → Nat → Nat → Int32} {cn : Nat → Nat → Nat → Nat} {co : Nat → Option Nat} {xj : Nat → Nat → Nat → Int64} {xd : Nat → Nat → Nat → UInt64} {xf : Nat → Nat → Nat → UInt32} {xo : Nat → Nat → Nat → Option Nat} {xi : Nat → Nat → Nat → Int32} {xn : Nat → Nat → Nat → Nat} {I : Nat → Nat → Int32} {J : Nat → Nat → Int64} {D : Nat → Nat → UInt64} (h : RM ci cn co xj xd xf xo xi xn I J D) {i a : Nat} (hi : i < xn 2 0 0) (ha : a < xn 1 i 0) (hs : 6 ≤ xn 0 i 0) (hs2 : xn 0 i 0 < 8) {v : UInt64}  {j : Nat} {z : UInt64} (hj : j = 12 * i + a) (hz : z = v) (isr : ∀ i, i < xn 2 0 0 → xn 1 i 0 ≤ 12) : RM ci cn co xj (u3 xd 1 i a v) xf xo xi xn I J (mm_up D (10) j z) := by
  subst hj; subst hz
  obtain ⟨hJ, hD, hI⟩ := h
  have z0 := isr i hi
  exact ⟨hJ,
   ⟨fun t1 ht1 k1 hk1 => by
      have g0 := hD.1 t1 ht1 k1 hk1
      simp only [mm_up, u3, true_and, and_true, false_and, and_false, if_true, if_false] <;> (repeat' split) <;> first | exact g0 | rfl | (exfalso; omega) | (exfalso; have e9 : i1 = i := (by omega); subst e9; omega) | (exfalso; simp_all; done),
    fun t1 ht1 k1 hk1 => by
      have g0 := hD.2.1 t1 ht1 k1 hk1
      simp only [mm_up, u3, true_and, and_true, false_and, and_false, if_true, if_false] <;> (repeat' split) <;> first | exact g0 | rfl | (exfalso; omega) | (exfalso; have e9 : i1 = i := (by omega); subst e9; omega) | (exfalso; simp_all; done),
    fun i1 hi1 k1 hk1 e0 e1 => by
      have z1 := isr i1 hi1; have g0 := hD.2.2.1 i1 hi1 k1 hk1 e0 e1
      simp only [mm_up, u3, true_and, and_true, false_and, and_false, if_true, if_false] <;> (repeat' split) <;> first | exact g0 | rfl | (exfalso; omega) | (exfalso; have e9 : i1 = i := (by omega); subst e9; omega) | (exfalso; simp_all; done),
    fun i1 hi1 => by
      have g0 := hD.2.2.2.1 i1 hi1
      simp only [mm_up, u3, true_and, and_true, false_and, and_false, if_true, if_false] <;> (repeat' split) <;> first | exact g0 | rfl | (exfalso; omega) | (exfalso; have e9 : i1 = i := (by omega); subst e9; omega) | (exfalso; simp_all; done),
    fun i1 hi1 => by
      have g0 := hD.2.2.2.2 i1 hi1
      simp only [mm_up, u3, true_and, and_true, false_and, and_false, if_true, if_false] <;> (repeat' split) <;> first | exact g0 | rfl | (exfalso; omega) | (exfalso; have e9 : i1 = i := (by omega); subst e9; omega) | (exfalso; simp_all; done)⟩,
   hI⟩
theorem CU_par {ci : Nat → Nat → Nat → Int32} {cn : Nat → Nat → Nat → Nat} {co : Nat → Option Nat} {xj : Nat → Nat → Nat → Int64} {xd : Nat → Nat → Nat → UInt64} {xf : Nat → Nat → Nat → UInt32} {xo : Nat → Nat → Nat → Option Nat} {xi : Nat → Nat → Nat → Int32} {xn : Nat → Nat → Nat → Nat} {I : Nat → Nat → Int32} {J : Nat → Nat → Int64} {F : Nat → Nat → UInt32} {D : Nat → Nat → UInt64} {R : Nat → Nat → Option Nat} {nx sl : Nat} (h : RC ci cn co xj xd xf xo xi xn I J F D R nx sl) {i a : Nat} (hi : i < xn 2 0 0) (ha : a < xn 1 i 0) (hs : 8 ≤ xn 0 i 0) {v : Option Nat} (hv : ∀ q, v = some q → q < xn 2 0 0) {j : Nat} {z : Option Nat} (hj : j = a) (hz : z = tR v) : RC ci cn co xj xd xf (u3 xo 1 i a v) xi xn I J F D (mm_up R (94 + 4 * i + 3) j z) nx sl := by
  subst hj; subst hz
  have isr := fun i hi => (rc_isor h (i := i) hi).2.2.1
  obtain ⟨hJ, hD, hF, hR, hI, hX, hN, hS⟩ := h
  have z0 := isr i hi
  exact ⟨hJ,
   hD,
   hF,
   ⟨fun t1 ht1 k1 hk1 => by
      have g0 := hR.1 t1 ht1 k1 hk1
      simp only [mm_up, u3, true_and, and_true, false_and, and_false, if_true, if_false] <;> (repeat' split) <;> first | exact g0 | rfl | (exfalso; omega) | (exfalso; have e9 : i1 = i := (by omega); subst e9; omega) | (exfalso; simp_all; done),
    fun i1 hi1 k1 hk1 e0 => by
      have z1 := isr i1 hi1; have g0 := hR.2.1 i1 hi1 k1 hk1 e0
      simp only [mm_up, u3, true_and, and_true, false_and, and_false, if_true, if_false] <;> (repeat' split) <;> first | exact g0 | rfl | (exfalso; omega) | (exfalso; have e9 : i1 = i := (by omega); subst e9; omega) | (exfalso; simp_all; done),
    fun i1 hi1 => by
      have g0 := hR.2.2.1 i1 hi1
      simp only [mm_up, u3, true_and, and_true, false_and, and_false, if_true, if_false] <;> (repeat' split) <;> first | exact g0 | rfl | (exfalso; omega) | (exfalso; have e9 : i1 = i := (by omega); subst e9; omega) | (exfalso; simp_all; done),
    fun i1 hi1 => by
      have g0 := hR.2.2.2.1 i1 hi1
      simp only [mm_up, u3, true_and, and_true, false_and, and_false, if_true, if_false] <;> (repeat' split) <;> first | exact g0 | rfl | (exfalso; omega) | (exfalso; have e9 : i1 = i := (by omega); subst e9; omega) | (exfalso; simp_all; done),
    fun t1 ht1 => by
      have g0 := hR.2.2.2.2.1 t1 ht1
      simp only [mm_up, u3, true_and, and_true, false_and, and_false, if_true, if_false] <;> (repeat' split) <;> first | exact g0 | rfl | (exfalso; omega) | (exfalso; have e9 : i1 = i := (by omega); subst e9; omega) | (exfalso; simp_all; done),
    fun t1 ht1 k1 hk1 => by
      have g0 := hR.2.2.2.2.2.1 t1 ht1 k1 hk1
      simp only [mm_up, u3, true_and, and_true, false_and, and_false, if_true, if_false] <;> (repeat' split) <;> first | exact g0 | rfl | (exfalso; omega) | (exfalso; have e9 : i1 = i := (by omega); subst e9; omega) | (exfalso; simp_all; done),
    fun i1 hi1 => by
      have g0 := hR.2.2.2.2.2.2.1 i1 hi1
      simp only [mm_up, u3, true_and, and_true, false_and, and_false, if_true, if_false] <;> (repeat' split) <;> first | exact g0 | rfl | (exfalso; omega) | (exfalso; have e9 : i1 = i := (by omega); subst e9; omega) | (exfalso; simp_all; done),
    fun i1 hi1 e0 => by
      have g0 := hR.2.2.2.2.2.2.2.1 i1 hi1 e0
      simp only [mm_up, u3, true_and, and_true, false_and, and_false, if_true, if_false] <;> (repeat' split) <;> first | exact g0 | rfl | (exfalso; omega) | (exfalso; have e9 : i1 = i := (by omega); subst e9; omega) | (exfalso; simp_all; done),
    fun p1 hp1 => by
      have g0 := hR.2.2.2.2.2.2.2.2.1 p1 hp1
      simp only [mm_up, u3, true_and, and_true, false_and, and_false, if_true, if_false] <;> (repeat' split) <;> first | exact g0 | rfl | (exfalso; omega) | (exfalso; have e9 : i1 = i := (by omega); subst e9; omega) | (exfalso; simp_all; done),
    fun t1 ht1 => by
      have g0 := hR.2.2.2.2.2.2.2.2.2 t1 ht1
      simp only [mm_up, u3, true_and, and_true, false_and, and_false, if_true, if_false] <;> (repeat' split) <;> first | exact g0 | rfl | (exfalso; omega) | (exfalso; have e9 : i1 = i := (by omega); subst e9; omega) | (exfalso; simp_all; done)⟩,
   ⟨hI.1,
    hI.2.1,
    hI.2.2.1,
    hI.2.2.2.1,
    hI.2.2.2.2.1,
    hI.2.2.2.2.2.1,
    hI.2.2.2.2.2.2.1,
    hI.2.2.2.2.2.2.2.1,
    hI.2.2.2.2.2.2.2.2.1,
    hI.2.2.2.2.2.2.2.2.2.1,
    hI.2.2.2.2.2.2.2.2.2.2.1,
    hI.2.2.2.2.2.2.2.2.2.2.2.1,
    hI.2.2.2.2.2.2.2.2.2.2.2.2.1,
    hI.2.2.2.2.2.2.2.2.2.2.2.2.2.1,
    hI.2.2.2.2.2.2.2.2.2.2.2.2.2.2.1,
    hI.2.2.2.2.2.2.2.2.2.2.2.2.2.2.2.1,
    hI.2.2.2.2.2.2.2.2.2.2.2.2.2.2.2.2.1,
    hI.2.2.2.2.2.2.2.2.2.2.2.2.2.2.2.2.2.1,
    hI.2.2.2.2.2.2.2.2.2.2.2.2.2.2.2.2.2.2.1,
    hI.2.2.2.2.2.2.2.2.2.2.2.2.2.2.2.2.2.2.2.1,
    hI.2.2.2.2.2.2.2.2.2.2.2.2.2.2.2.2.2.2.2.2.1,
    hI.2.2.2.2.2.2.2.2.2.2.2.2.2.2.2.2.2.2.2.2.2.1,
    hI.2.2.2.2.2.2.2.2.2.2.2.2.2.2.2.2.2.2.2.2.2.2.1,
    hI.2.2.2.2.2.2.2.2.2.2.2.2.2.2.2.2.2.2.2.2.2.2.2.1,
    hI.2.2.2.2.2.2.2.2.2.2.2.2.2.2.2.2.2.2.2.2.2.2.2.2.1,
    fun i1 hi1 => by
      have g0 := hI.2.2.2.2.2.2.2.2.2.2.2.2.2.2.2.2.2.2.2.2.2.2.2.2.2.1 i1 hi1
      simp only [mm_up, u3, true_and, and_true, false_and, and_false, if_true, if_false] <;> (repeat' split) <;> first | exact g0 | rfl | (exfalso; omega) | (exfalso; have e9 : i1 = i := (by omega); subst e9; omega) | (exfalso; simp_all; done),
    hI.2.2.2.2.2.2.2.2.2.2.2.2.2.2.2.2.2.2.2.2.2.2.2.2.2.2.1,
    hI.2.2.2.2.2.2.2.2.2.2.2.2.2.2.2.2.2.2.2.2.2.2.2.2.2.2.2.1,
    hI.2.2.2.2.2.2.2.2.2.2.2.2.2.2.2.2.2.2.2.2.2.2.2.2.2.2.2.2.1,
    hI.2.2.2.2.2.2.2.2.2.2.2.2.2.2.2.2.2.2.2.2.2.2.2.2.2.2.2.2.2.1,
    hI.2.2.2.2.2.2.2.2.2.2.2.2.2.2.2.2.2.2.2.2.2.2.2.2.2.2.2.2.2.2⟩,
   ⟨fun t1 ht1 k1 hk1 => by
      have g0 := hX.1 t1 ht1 k1 hk1
      simp only [u3, true_and, and_true, false_and, and_false, if_true, if_false] <;> (repeat' split) <;> first | exact g0 | exact hv | (exfalso; omega) | (exfalso; have e9 : i1 = i := (by omega); subst e9; omega) | (exfalso; simp_all; done),
    fun i1 hi1 k1 hk1 e0 => by
      have z1 := isr i1 hi1; have g0 := hX.2.1 i1 hi1 k1 hk1 e0
      simp only [u3, true_and, and_true, false_and, and_false, if_true, if_false] <;> (repeat' split) <;> first | exact g0 | exact hv | (exfalso; omega) | (exfalso; have e9 : i1 = i := (by omega); subst e9; omega) | (exfalso; simp_all; done),
    fun i1 hi1 => by
      have g0 := hX.2.2.1 i1 hi1
      simp only [u3, true_and, and_true, false_and, and_false, if_true, if_false] <;> (repeat' split) <;> first | exact g0 | exact hv | (exfalso; omega) | (exfalso; have e9 : i1 = i := (by omega); subst e9; omega) | (exfalso; simp_all; done),
    fun i1 hi1 => by
      have g0 := hX.2.2.2.1 i1 hi1
      simp only [u3, true_and, and_true, false_and, and_false, if_true, if_false] <;> (repeat' split) <;> first | exact g0 | exact hv | (exfalso; omega) | (exfalso; have e9 : i1 = i := (by omega); subst e9; omega) | (exfalso; simp_all; done),
    fun i1 hi1 => by
      have g0 := hX.2.2.2.2.1 i1 hi1
      simp only [u3, true_and, and_true, false_and, and_false, if_true, if_false] <;> (repeat' split) <;> first | exact g0 | exact hv | (exfalso; omega) | (exfalso; have e9 : i1 = i := (by omega); subst e9; omega) | (exfalso; simp_all; done),
    hX.2.2.2.2.2.1,
    hX.2.2.2.2.2.2.1,
    hX.2.2.2.2.2.2.2.1,
    hX.2.2.2.2.2.2.2.2.1,
    hX.2.2.2.2.2.2.2.2.2.1,
    hX.2.2.2.2.2.2.2.2.2.2.1,
    hX.2.2.2.2.2.2.2.2.2.2.2.1,
    hX.2.2.2.2.2.2.2.2.2.2.2.2⟩,
   hN,
   hS⟩
theorem MU_par {ci : Nat → Nat → Nat → Int32} {cn : Nat → Nat → Nat → Nat} {co : Nat → Option Nat} {xj : Nat → Nat → Nat → Int64} {xd : Nat → Nat → Nat → UInt64} {xf : Nat → Nat → Nat → UInt32} {xo : Nat → Nat → Nat → Option Nat} {xi : Nat → Nat → Nat → Int32} {xn : Nat → Nat → Nat → Nat} {I : Nat → Nat → Int32} {J : Nat → Nat → Int64} {D : Nat → Nat → UInt64} (h : RM ci cn co xj xd xf xo xi xn I J D) {i a : Nat} (hi : i < xn 2 0 0) (ha : a < xn 1 i 0) (hs : 8 ≤ xn 0 i 0) {v : Option Nat}  {j : Nat} {z : Int64} (hj : j = 12 * i + a) (hz : z = eL v) (isr : ∀ i, i < xn 2 0 0 → xn 1 i 0 ≤ 12) : RM ci cn co xj xd xf (u3 xo 1 i a v) xi xn I (mm_up J (9) j z) D := by
  subst hj; subst hz
  obtain ⟨hJ, hD, hI⟩ := h
  have z0 := isr i hi
  exact ⟨⟨fun t1 ht1 k1 hk1 => by
      have g0 := hJ.1 t1 ht1 k1 hk1
      simp only [mm_up, u3, true_and, and_true, false_and, and_false, if_true, if_false] <;> (repeat' split) <;> first | exact g0 | rfl | (exfalso; omega) | (exfalso; have e9 : i1 = i := (by omega); subst e9; omega) | (exfalso; simp_all; done),
    fun i1 hi1 k1 hk1 e0 => by
      have z1 := isr i1 hi1; have g0 := hJ.2.1 i1 hi1 k1 hk1 e0
      simp only [mm_up, u3, true_and, and_true, false_and, and_false, if_true, if_false] <;> (repeat' split) <;> first | exact g0 | rfl | (exfalso; omega) | (exfalso; have e9 : i1 = i := (by omega); subst e9; omega) | (exfalso; simp_all; done),
    fun i1 hi1 k1 hk1 e0 => by
      have z1 := isr i1 hi1; have g0 := hJ.2.2.1 i1 hi1 k1 hk1 e0
      simp only [mm_up, u3, true_and, and_true, false_and, and_false, if_true, if_false] <;> (repeat' split) <;> first | exact g0 | rfl | (exfalso; omega) | (exfalso; have e9 : i1 = i := (by omega); subst e9; omega) | (exfalso; simp_all; done),
    fun i1 hi1 => by
      have g0 := hJ.2.2.2 i1 hi1
      simp only [mm_up, u3, true_and, and_true, false_and, and_false, if_true, if_false] <;> (repeat' split) <;> first | exact g0 | rfl | (exfalso; omega) | (exfalso; have e9 : i1 = i := (by omega); subst e9; omega) | (exfalso; simp_all; done)⟩,
   hD,
   ⟨hI.1,
    hI.2.1,
    hI.2.2.1,
    hI.2.2.2.1,
    fun i1 hi1 => by
      have g0 := hI.2.2.2.2.1 i1 hi1
      simp only [mm_up, u3, true_and, and_true, false_and, and_false, if_true, if_false] <;> (repeat' split) <;> first | exact g0 | rfl | (exfalso; omega) | (exfalso; have e9 : i1 = i := (by omega); subst e9; omega) | (exfalso; simp_all; done),
    fun i1 hi1 => by
      have g0 := hI.2.2.2.2.2.1 i1 hi1
      simp only [mm_up, u3, true_and, and_true, false_and, and_false, if_true, if_false] <;> (repeat' split) <;> first | exact g0 | rfl | (exfalso; omega) | (exfalso; have e9 : i1 = i := (by omega); subst e9; omega) | (exfalso; simp_all; done),
    hI.2.2.2.2.2.2.1,
    hI.2.2.2.2.2.2.2.1,
    fun i1 hi1 => by
      have g0 := hI.2.2.2.2.2.2.2.2.1 i1 hi1
      simp only [mm_up, u3, true_and, and_true, false_and, and_false, if_true, if_false] <;> (repeat' split) <;> first | exact g0 | rfl | (exfalso; omega) | (exfalso; have e9 : i1 = i := (by omega); subst e9; omega) | (exfalso; simp_all; done),
    hI.2.2.2.2.2.2.2.2.2.1,
    hI.2.2.2.2.2.2.2.2.2.2.1,
    hI.2.2.2.2.2.2.2.2.2.2.2.1,
    hI.2.2.2.2.2.2.2.2.2.2.2.2.1,
    hI.2.2.2.2.2.2.2.2.2.2.2.2.2.1,
    hI.2.2.2.2.2.2.2.2.2.2.2.2.2.2.1,
    hI.2.2.2.2.2.2.2.2.2.2.2.2.2.2.2.1,
    hI.2.2.2.2.2.2.2.2.2.2.2.2.2.2.2.2.1,
    hI.2.2.2.2.2.2.2.2.2.2.2.2.2.2.2.2.2.1,
    hI.2.2.2.2.2.2.2.2.2.2.2.2.2.2.2.2.2.2.1,
    hI.2.2.2.2.2.2.2.2.2.2.2.2.2.2.2.2.2.2.2.1,
    fun t1 ht1 k1 hk1 => by
      have g0 := hI.2.2.2.2.2.2.2.2.2.2.2.2.2.2.2.2.2.2.2.2.1 t1 ht1 k1 hk1
      simp only [mm_up, u3, true_and, and_true, false_and, and_false, if_true, if_false] <;> (repeat' split) <;> first | exact g0 | rfl | (exfalso; omega) | (exfalso; have e9 : i1 = i := (by omega); subst e9; omega) | (exfalso; simp_all; done),
    hI.2.2.2.2.2.2.2.2.2.2.2.2.2.2.2.2.2.2.2.2.2.1,
    hI.2.2.2.2.2.2.2.2.2.2.2.2.2.2.2.2.2.2.2.2.2.2.1,
    hI.2.2.2.2.2.2.2.2.2.2.2.2.2.2.2.2.2.2.2.2.2.2.2.1,
    hI.2.2.2.2.2.2.2.2.2.2.2.2.2.2.2.2.2.2.2.2.2.2.2.2.1,
    hI.2.2.2.2.2.2.2.2.2.2.2.2.2.2.2.2.2.2.2.2.2.2.2.2.2.1,
    hI.2.2.2.2.2.2.2.2.2.2.2.2.2.2.2.2.2.2.2.2.2.2.2.2.2.2.1,
    hI.2.2.2.2.2.2.2.2.2.2.2.2.2.2.2.2.2.2.2.2.2.2.2.2.2.2.2.1,
    hI.2.2.2.2.2.2.2.2.2.2.2.2.2.2.2.2.2.2.2.2.2.2.2.2.2.2.2.2.1,
    hI.2.2.2.2.2.2.2.2.2.2.2.2.2.2.2.2.2.2.2.2.2.2.2.2.2.2.2.2.2.1,
    hI.2.2.2.2.2.2.2.2.2.2.2.2.2.2.2.2.2.2.2.2.2.2.2.2.2.2.2.2.2.2⟩⟩
theorem CU_nn {ci : Nat → Nat → Nat → Int32} {cn : Nat → Nat → Nat → Nat} {co : Nat → Option Nat} {xj : Nat → Nat → Nat → Int64} {xd : Nat → Nat → Nat → UInt64} {xf : Nat → Nat → Nat → UInt32} {xo : Nat → Nat → Nat → Option Nat} {xi : Nat → Nat → Nat → Int32} {xn : Nat → Nat → Nat → Nat} {I : Nat → Nat → Int32} {J : Nat → Nat → Int64} {F : Nat → Nat → UInt32} {D : Nat → Nat → UInt64} {R : Nat → Nat → Option Nat} {nx sl : Nat} (h : RC ci cn co xj xd xf xo xi xn I J F D R nx sl) {i : Nat} (hi : i < xn 2 0 0) {v : Int64}  {j : Nat} {z : Int64} (hj : j = 8) (hz : z = v) : RC ci cn co (u3 xj 2 i 0 v) xd xf xo xi xn I (mm_up J (94 + 4 * i) j z) F D R nx sl := by
  subst hj; subst hz
  have isr := fun i hi => (rc_isor h (i := i) hi).2.2.1
  obtain ⟨hJ, hD, hF, hR, hI, hX, hN, hS⟩ := h
  exact ⟨⟨fun t1 ht1 k1 hk1 => by
      have g0 := hJ.1 t1 ht1 k1 hk1
      simp only [mm_up, u3, true_and, and_true, false_and, and_false, if_true, if_false] <;> (repeat' split) <;> first | exact g0 | rfl | (exfalso; omega) | (exfalso; have e9 : i1 = i := (by omega); subst e9; omega) | (exfalso; simp_all; done),
    fun i1 hi1 k1 hk1 e0 => by
      have z1 := isr i1 hi1; have g0 := hJ.2.1 i1 hi1 k1 hk1 e0
      simp only [mm_up, u3, true_and, and_true, false_and, and_false, if_true, if_false] <;> (repeat' split) <;> first | exact g0 | rfl | (exfalso; omega) | (exfalso; have e9 : i1 = i := (by omega); subst e9; omega) | (exfalso; simp_all; done),
    fun i1 hi1 => by
      have g0 := hJ.2.2 i1 hi1
      simp only [mm_up, u3, true_and, and_true, false_and, and_false, if_true, if_false] <;> (repeat' split) <;> first | exact g0 | rfl | (exfalso; omega) | (exfalso; have e9 : i1 = i := (by omega); subst e9; omega) | (exfalso; simp_all; done)⟩,
   hD,
   hF,
   hR,
   hI,
   hX,
   hN,
   hS⟩
theorem MU_nn {ci : Nat → Nat → Nat → Int32} {cn : Nat → Nat → Nat → Nat} {co : Nat → Option Nat} {xj : Nat → Nat → Nat → Int64} {xd : Nat → Nat → Nat → UInt64} {xf : Nat → Nat → Nat → UInt32} {xo : Nat → Nat → Nat → Option Nat} {xi : Nat → Nat → Nat → Int32} {xn : Nat → Nat → Nat → Nat} {I : Nat → Nat → Int32} {J : Nat → Nat → Int64} {D : Nat → Nat → UInt64} (h : RM ci cn co xj xd xf xo xi xn I J D) {i : Nat} (hi : i < xn 2 0 0) {v : Int64}  {j : Nat} {z : Int64} (hj : j = i) (hz : z = v) (isr : ∀ i, i < xn 2 0 0 → xn 1 i 0 ≤ 12) : RM ci cn co (u3 xj 2 i 0 v) xd xf xo xi xn I (mm_up J (11) j z) D := by
  subst hj; subst hz
  obtain ⟨hJ, hD, hI⟩ := h
  exact ⟨⟨fun t1 ht1 k1 hk1 => by
      have g0 := hJ.1 t1 ht1 k1 hk1
      simp only [mm_up, u3, true_and, and_true, false_and, and_false, if_true, if_false] <;> (repeat' split) <;> first | exact g0 | rfl | (exfalso; omega) | (exfalso; have e9 : i1 = i := (by omega); subst e9; omega) | (exfalso; simp_all; done),
    fun i1 hi1 k1 hk1 e0 => by
      have z1 := isr i1 hi1; have g0 := hJ.2.1 i1 hi1 k1 hk1 e0
      simp only [mm_up, u3, true_and, and_true, false_and, and_false, if_true, if_false] <;> (repeat' split) <;> first | exact g0 | rfl | (exfalso; omega) | (exfalso; have e9 : i1 = i := (by omega); subst e9; omega) | (exfalso; simp_all; done),
    fun i1 hi1 k1 hk1 e0 => by
      have z1 := isr i1 hi1; have g0 := hJ.2.2.1 i1 hi1 k1 hk1 e0
      simp only [mm_up, u3, true_and, and_true, false_and, and_false, if_true, if_false] <;> (repeat' split) <;> first | exact g0 | rfl | (exfalso; omega) | (exfalso; have e9 : i1 = i := (by omega); subst e9; omega) | (exfalso; simp_all; done),
    fun i1 hi1 => by
      have g0 := hJ.2.2.2 i1 hi1
      simp only [mm_up, u3, true_and, and_true, false_and, and_false, if_true, if_false] <;> (repeat' split) <;> first | exact g0 | rfl | (exfalso; omega) | (exfalso; have e9 : i1 = i := (by omega); subst e9; omega) | (exfalso; simp_all; done)⟩,
   hD,
   hI⟩
theorem CU_xx {ci : Nat → Nat → Nat → Int32} {cn : Nat → Nat → Nat → Nat} {co : Nat → Option Nat} {xj : Nat → Nat → Nat → Int64} {xd : Nat → Nat → Nat → UInt64} {xf : Nat → Nat → Nat → UInt32} {xo : Nat → Nat → Nat → Option Nat} {xi : Nat → Nat → Nat → Int32} {xn : Nat → Nat → Nat → Nat} {I : Nat → Nat → Int32} {J : Nat → Nat → Int64} {F : Nat → Nat → UInt32} {D : Nat → Nat → UInt64} {R : Nat → Nat → Option Nat} {nx sl : Nat} (h : RC ci cn co xj xd xf xo xi xn I J F D R nx sl) {i : Nat} (hi : i < xn 2 0 0) {v : UInt64} (hv : vf_n64 v) {j : Nat} {z : UInt64} (hj : j = 9) (hz : z = v) : RC ci cn co xj (u3 xd 2 i 0 v) xf xo xi xn I J F (mm_up D (94 + 4 * i) j z) R nx sl := by
  subst hj; subst hz
  have isr := fun i hi => (rc_isor h (i := i) hi).2.2.1
  obtain ⟨hJ, hD, hF, hR, hI, hX, hN, hS⟩ := h
  exact ⟨hJ,
   ⟨fun t1 ht1 k1 hk1 => by
      have g0 := hD.1 t1 ht1 k1 hk1
      simp only [mm_up, u3, true_and, and_true, false_and, and_false, if_true, if_false] <;> (repeat' split) <;> first | exact g0 | rfl | (exfalso; omega) | (exfalso; have e9 : i1 = i := (by omega); subst e9; omega) | (exfalso; simp_all; done),
    fun i1 hi1 k1 hk1 e0 e1 => by
      have z1 := isr i1 hi1; have g0 := hD.2.1 i1 hi1 k1 hk1 e0 e1
      simp only [mm_up, u3, true_and, and_true, false_and, and_false, if_true, if_false] <;> (repeat' split) <;> first | exact g0 | rfl | (exfalso; omega) | (exfalso; have e9 : i1 = i := (by omega); subst e9; omega) | (exfalso; simp_all; done),
    fun i1 hi1 => by
      have g0 := hD.2.2.1 i1 hi1
      simp only [mm_up, u3, true_and, and_true, false_and, and_false, if_true, if_false] <;> (repeat' split) <;> first | exact g0 | rfl | (exfalso; omega) | (exfalso; have e9 : i1 = i := (by omega); subst e9; omega) | (exfalso; simp_all; done),
    fun j1 hj1 => by
      have g0 := hD.2.2.2 j1 hj1
      simp only [mm_up, u3, true_and, and_true, false_and, and_false, if_true, if_false] <;> (repeat' split) <;> first | exact g0 | rfl | (exfalso; omega) | (exfalso; have e9 : i1 = i := (by omega); subst e9; omega) | (exfalso; simp_all; done)⟩,
   hF,
   hR,
   hI,
   ⟨hX.1,
    hX.2.1,
    hX.2.2.1,
    hX.2.2.2.1,
    hX.2.2.2.2.1,
    hX.2.2.2.2.2.1,
    fun t1 ht1 k1 hk1 => by
      have g0 := hX.2.2.2.2.2.2.1 t1 ht1 k1 hk1
      simp only [u3, true_and, and_true, false_and, and_false, if_true, if_false] <;> (repeat' split) <;> first | exact g0 | exact hv | (exfalso; omega) | (exfalso; have e9 : i1 = i := (by omega); subst e9; omega) | (exfalso; simp_all; done),
    fun i1 hi1 k1 hk1 e0 e1 => by
      have z1 := isr i1 hi1; have g0 := hX.2.2.2.2.2.2.2.1 i1 hi1 k1 hk1 e0 e1
      simp only [u3, true_and, and_true, false_and, and_false, if_true, if_false] <;> (repeat' split) <;> first | exact g0 | exact hv | (exfalso; omega) | (exfalso; have e9 : i1 = i := (by omega); subst e9; omega) | (exfalso; simp_all; done),
    fun i1 hi1 => by
      have g0 := hX.2.2.2.2.2.2.2.2.1 i1 hi1
      simp only [u3, true_and, and_true, false_and, and_false, if_true, if_false] <;> (repeat' split) <;> first | exact g0 | exact hv | (exfalso; omega) | (exfalso; have e9 : i1 = i := (by omega); subst e9; omega) | (exfalso; simp_all; done),
    hX.2.2.2.2.2.2.2.2.2.1,
    hX.2.2.2.2.2.2.2.2.2.2.1,
    hX.2.2.2.2.2.2.2.2.2.2.2.1,
    hX.2.2.2.2.2.2.2.2.2.2.2.2⟩,
   hN,
   hS⟩
theorem MU_xx {ci : Nat → Nat → Nat → Int32} {cn : Nat → Nat → Nat → Nat} {co : Nat → Option Nat} {xj : Nat → Nat → Nat → Int64} {xd : Nat → Nat → Nat → UInt64} {xf : Nat → Nat → Nat → UInt32} {xo : Nat → Nat → Nat → Option Nat} {xi : Nat → Nat → Nat → Int32} {xn : Nat → Nat → Nat → Nat} {I : Nat → Nat → Int32} {J : Nat → Nat → Int64} {D : Nat → Nat → UInt64} (h : RM ci cn co xj xd xf xo xi xn I J D) {i : Nat} (hi : i < xn 2 0 0) {v : UInt64}  {j : Nat} {z : UInt64} (hj : j = i) (hz : z = v) (isr : ∀ i, i < xn 2 0 0 → xn 1 i 0 ≤ 12) : RM ci cn co xj (u3 xd 2 i 0 v) xf xo xi xn I J (mm_up D (12) j z) := by
  subst hj; subst hz
  obtain ⟨hJ, hD, hI⟩ := h
  exact ⟨hJ,
   ⟨fun t1 ht1 k1 hk1 => by
      have g0 := hD.1 t1 ht1 k1 hk1
      simp only [mm_up, u3, true_and, and_true, false_and, and_false, if_true, if_false] <;> (repeat' split) <;> first | exact g0 | rfl | (exfalso; omega) | (exfalso; have e9 : i1 = i := (by omega); subst e9; omega) | (exfalso; simp_all; done),
    fun t1 ht1 k1 hk1 => by
      have g0 := hD.2.1 t1 ht1 k1 hk1
      simp only [mm_up, u3, true_and, and_true, false_and, and_false, if_true, if_false] <;> (repeat' split) <;> first | exact g0 | rfl | (exfalso; omega) | (exfalso; have e9 : i1 = i := (by omega); subst e9; omega) | (exfalso; simp_all; done),
    fun i1 hi1 k1 hk1 e0 e1 => by
      have z1 := isr i1 hi1; have g0 := hD.2.2.1 i1 hi1 k1 hk1 e0 e1
      simp only [mm_up, u3, true_and, and_true, false_and, and_false, if_true, if_false] <;> (repeat' split) <;> first | exact g0 | rfl | (exfalso; omega) | (exfalso; have e9 : i1 = i := (by omega); subst e9; omega) | (exfalso; simp_all; done),
    fun i1 hi1 => by
      have g0 := hD.2.2.2.1 i1 hi1
      simp only [mm_up, u3, true_and, and_true, false_and, and_false, if_true, if_false] <;> (repeat' split) <;> first | exact g0 | rfl | (exfalso; omega) | (exfalso; have e9 : i1 = i := (by omega); subst e9; omega) | (exfalso; simp_all; done),
    fun i1 hi1 => by
      have g0 := hD.2.2.2.2 i1 hi1
      simp only [mm_up, u3, true_and, and_true, false_and, and_false, if_true, if_false] <;> (repeat' split) <;> first | exact g0 | rfl | (exfalso; omega) | (exfalso; have e9 : i1 = i := (by omega); subst e9; omega) | (exfalso; simp_all; done)⟩,
   hI⟩
theorem CU_ff {ci : Nat → Nat → Nat → Int32} {cn : Nat → Nat → Nat → Nat} {co : Nat → Option Nat} {xj : Nat → Nat → Nat → Int64} {xd : Nat → Nat → Nat → UInt64} {xf : Nat → Nat → Nat → UInt32} {xo : Nat → Nat → Nat → Option Nat} {xi : Nat → Nat → Nat → Int32} {xn : Nat → Nat → Nat → Nat} {I : Nat → Nat → Int32} {J : Nat → Nat → Int64} {F : Nat → Nat → UInt32} {D : Nat → Nat → UInt64} {R : Nat → Nat → Option Nat} {nx sl : Nat} (h : RC ci cn co xj xd xf xo xi xn I J F D R nx sl) {i : Nat} (hi : i < xn 2 0 0) {v : UInt32} (hv : vf_n32 v) {j : Nat} {z : UInt32} (hj : j = 10) (hz : z = v) : RC ci cn co xj xd (u3 xf 1 i 0 v) xo xi xn I J (mm_up F (94 + 4 * i) j z) D R nx sl := by
  subst hj; subst hz
  have isr := fun i hi => (rc_isor h (i := i) hi).2.2.1
  obtain ⟨hJ, hD, hF, hR, hI, hX, hN, hS⟩ := h
  exact ⟨hJ,
   hD,
   ⟨fun t1 ht1 k1 hk1 => by
      have g0 := hF.1 t1 ht1 k1 hk1
      simp only [mm_up, u3, true_and, and_true, false_and, and_false, if_true, if_false] <;> (repeat' split) <;> first | exact g0 | rfl | (exfalso; omega) | (exfalso; have e9 : i1 = i := (by omega); subst e9; omega) | (exfalso; simp_all; done),
    fun i1 hi1 => by
      have g0 := hF.2 i1 hi1
      simp only [mm_up, u3, true_and, and_true, false_and, and_false, if_true, if_false] <;> (repeat' split) <;> first | exact g0 | rfl | (exfalso; omega) | (exfalso; have e9 : i1 = i := (by omega); subst e9; omega) | (exfalso; simp_all; done)⟩,
   hR,
   hI,
   ⟨hX.1,
    hX.2.1,
    hX.2.2.1,
    hX.2.2.2.1,
    hX.2.2.2.2.1,
    hX.2.2.2.2.2.1,
    hX.2.2.2.2.2.2.1,
    hX.2.2.2.2.2.2.2.1,
    hX.2.2.2.2.2.2.2.2.1,
    fun t1 ht1 k1 hk1 => by
      have g0 := hX.2.2.2.2.2.2.2.2.2.1 t1 ht1 k1 hk1
      simp only [u3, true_and, and_true, false_and, and_false, if_true, if_false] <;> (repeat' split) <;> first | exact g0 | exact hv | (exfalso; omega) | (exfalso; have e9 : i1 = i := (by omega); subst e9; omega) | (exfalso; simp_all; done),
    fun i1 hi1 => by
      have g0 := hX.2.2.2.2.2.2.2.2.2.2.1 i1 hi1
      simp only [u3, true_and, and_true, false_and, and_false, if_true, if_false] <;> (repeat' split) <;> first | exact g0 | exact hv | (exfalso; omega) | (exfalso; have e9 : i1 = i := (by omega); subst e9; omega) | (exfalso; simp_all; done),
    hX.2.2.2.2.2.2.2.2.2.2.2.1,
    hX.2.2.2.2.2.2.2.2.2.2.2.2⟩,
   hN,
   hS⟩
theorem MU_ff {ci : Nat → Nat → Nat → Int32} {cn : Nat → Nat → Nat → Nat} {co : Nat → Option Nat} {xj : Nat → Nat → Nat → Int64} {xd : Nat → Nat → Nat → UInt64} {xf : Nat → Nat → Nat → UInt32} {xo : Nat → Nat → Nat → Option Nat} {xi : Nat → Nat → Nat → Int32} {xn : Nat → Nat → Nat → Nat} {I : Nat → Nat → Int32} {J : Nat → Nat → Int64} {D : Nat → Nat → UInt64} (h : RM ci cn co xj xd xf xo xi xn I J D) {i : Nat} (hi : i < xn 2 0 0) {v : UInt32}  {j : Nat} {z : UInt64} (hj : j = i) (hz : z = FP.f2d v) (isr : ∀ i, i < xn 2 0 0 → xn 1 i 0 ≤ 12) : RM ci cn co xj xd (u3 xf 1 i 0 v) xo xi xn I J (mm_up D (13) j z) := by
  subst hj; subst hz
  obtain ⟨hJ, hD, hI⟩ := h
  exact ⟨hJ,
   ⟨fun t1 ht1 k1 hk1 => by
      have g0 := hD.1 t1 ht1 k1 hk1
      simp only [mm_up, u3, true_and, and_true, false_and, and_false, if_true, if_false] <;> (repeat' split) <;> first | exact g0 | rfl | (exfalso; omega) | (exfalso; have e9 : i1 = i := (by omega); subst e9; omega) | (exfalso; simp_all; done),
    fun t1 ht1 k1 hk1 => by
      have g0 := hD.2.1 t1 ht1 k1 hk1
      simp only [mm_up, u3, true_and, and_true, false_and, and_false, if_true, if_false] <;> (repeat' split) <;> first | exact g0 | rfl | (exfalso; omega) | (exfalso; have e9 : i1 = i := (by omega); subst e9; omega) | (exfalso; simp_all; done),
    fun i1 hi1 k1 hk1 e0 e1 => by
      have z1 := isr i1 hi1; have g0 := hD.2.2.1 i1 hi1 k1 hk1 e0 e1
      simp only [mm_up, u3, true_and, and_true, false_and, and_false, if_true, if_false] <;> (repeat' split) <;> first | exact g0 | rfl | (exfalso; omega) | (exfalso; have e9 : i1 = i := (by omega); subst e9; omega) | (exfalso; simp_all; done),
    fun i1 hi1 => by
      have g0 := hD.2.2.2.1 i1 hi1
      simp only [mm_up, u3, true_and, and_true, false_and, and_false, if_true, if_false] <;> (repeat' split) <;> first | exact g0 | rfl | (exfalso; omega) | (exfalso; have e9 : i1 = i := (by omega); subst e9; omega) | (exfalso; simp_all; done),
    fun i1 hi1 => by
      have g0 := hD.2.2.2.2 i1 hi1
      simp only [mm_up, u3, true_and, and_true, false_and, and_false, if_true, if_false] <;> (repeat' split) <;> first | exact g0 | rfl | (exfalso; omega) | (exfalso; have e9 : i1 = i := (by omega); subst e9; omega) | (exfalso; simp_all; done)⟩,
   hI⟩
theorem CU_nxt {ci : Nat → Nat → Nat → Int32} {cn : Nat → Nat → Nat → Nat} {co : Nat → Option Nat} {xj : Nat → Nat → Nat → Int64} {xd : Nat → Nat → Nat → UInt64} {xf : Nat → Nat → Nat → UInt32} {xo : Nat → Nat → Nat → Option Nat} {xi : Nat → Nat → Nat → Int32} {xn : Nat → Nat → Nat → Nat} {I : Nat → Nat → Int32} {J : Nat → Nat → Int64} {F : Nat → Nat → UInt32} {D : Nat → Nat → UInt64} {R : Nat → Nat → Option Nat} {nx sl : Nat} (h : RC ci cn co xj xd xf xo xi xn I J F D R nx sl) {i : Nat} (hi : i < xn 2 0 0) {v : Option Nat} (hv : ∀ q, v = some q → q < xn 2 0 0) {j : Nat} {z : Option Nat} (hj : j = 11) (hz : z = tR v) : RC ci cn co xj xd xf (u3 xo 2 i 0 v) xi xn I J F D (mm_up R (94 + 4 * i) j z) nx sl := by
  subst hj; subst hz
  have isr := fun i hi => (rc_isor h (i := i) hi).2.2.1
  obtain ⟨hJ, hD, hF, hR, hI, hX, hN, hS⟩ := h
  exact ⟨hJ,
   hD,
   hF,
   ⟨fun t1 ht1 k1 hk1 => by
      have g0 := hR.1 t1 ht1 k1 hk1
      simp only [mm_up, u3, true_and, and_true, false_and, and_false, if_true, if_false] <;> (repeat' split) <;> first | exact g0 | rfl | (exfalso; omega) | (exfalso; have e9 : i1 = i := (by omega); subst e9; omega) | (exfalso; simp_all; done),
    fun i1 hi1 k1 hk1 e0 => by
      have z1 := isr i1 hi1; have g0 := hR.2.1 i1 hi1 k1 hk1 e0
      simp only [mm_up, u3, true_and, and_true, false_and, and_false, if_true, if_false] <;> (repeat' split) <;> first | exact g0 | rfl | (exfalso; omega) | (exfalso; have e9 : i1 = i := (by omega); subst e9; omega) | (exfalso; simp_all; done),
    fun i1 hi1 => by
      have g0 := hR.2.2.1 i1 hi1
      simp only [mm_up, u3, true_and, and_true, false_and, and_false, if_true, if_false] <;> (repeat' split) <;> first | exact g0 | rfl | (exfalso; omega) | (exfalso; have e9 : i1 = i := (by omega); subst e9; omega) | (exfalso; simp_all; done),
    fun i1 hi1 => by
      have g0 := hR.2.2.2.1 i1 hi1
      simp only [mm_up, u3, true_and, and_true, false_and, and_false, if_true, if_false] <;> (repeat' split) <;> first | exact g0 | rfl | (exfalso; omega) | (exfalso; have e9 : i1 = i := (by omega); subst e9; omega) | (exfalso; simp_all; done),
    fun t1 ht1 => by
      have g0 := hR.2.2.2.2.1 t1 ht1
      simp only [mm_up, u3, true_and, and_true, false_and, and_false, if_true, if_false] <;> (repeat' split) <;> first | exact g0 | rfl | (exfalso; omega) | (exfalso; have e9 : i1 = i := (by omega); subst e9; omega) | (exfalso; simp_all; done),
    fun t1 ht1 k1 hk1 => by
      have g0 := hR.2.2.2.2.2.1 t1 ht1 k1 hk1
      simp only [mm_up, u3, true_and, and_true, false_and, and_false, if_true, if_false] <;> (repeat' split) <;> first | exact g0 | rfl | (exfalso; omega) | (exfalso; have e9 : i1 = i := (by omega); subst e9; omega) | (exfalso; simp_all; done),
    fun i1 hi1 => by
      have g0 := hR.2.2.2.2.2.2.1 i1 hi1
      simp only [mm_up, u3, true_and, and_true, false_and, and_false, if_true, if_false] <;> (repeat' split) <;> first | exact g0 | rfl | (exfalso; omega) | (exfalso; have e9 : i1 = i := (by omega); subst e9; omega) | (exfalso; simp_all; done),
    fun i1 hi1 e0 => by
      have g0 := hR.2.2.2.2.2.2.2.1 i1 hi1 e0
      simp only [mm_up, u3, true_and, and_true, false_and, and_false, if_true, if_false] <;> (repeat' split) <;> first | exact g0 | rfl | (exfalso; omega) | (exfalso; have e9 : i1 = i := (by omega); subst e9; omega) | (exfalso; simp_all; done),
    fun p1 hp1 => by
      have g0 := hR.2.2.2.2.2.2.2.2.1 p1 hp1
      simp only [mm_up, u3, true_and, and_true, false_and, and_false, if_true, if_false] <;> (repeat' split) <;> first | exact g0 | rfl | (exfalso; omega) | (exfalso; have e9 : i1 = i := (by omega); subst e9; omega) | (exfalso; simp_all; done),
    fun t1 ht1 => by
      have g0 := hR.2.2.2.2.2.2.2.2.2 t1 ht1
      simp only [mm_up, u3, true_and, and_true, false_and, and_false, if_true, if_false] <;> (repeat' split) <;> first | exact g0 | rfl | (exfalso; omega) | (exfalso; have e9 : i1 = i := (by omega); subst e9; omega) | (exfalso; simp_all; done)⟩,
   ⟨hI.1,
    hI.2.1,
    hI.2.2.1,
    hI.2.2.2.1,
    hI.2.2.2.2.1,
    hI.2.2.2.2.2.1,
    hI.2.2.2.2.2.2.1,
    hI.2.2.2.2.2.2.2.1,
    hI.2.2.2.2.2.2.2.2.1,
    hI.2.2.2.2.2.2.2.2.2.1,
    hI.2.2.2.2.2.2.2.2.2.2.1,
    hI.2.2.2.2.2.2.2.2.2.2.2.1,
    hI.2.2.2.2.2.2.2.2.2.2.2.2.1,
    hI.2.2.2.2.2.2.2.2.2.2.2.2.2.1,
    hI.2.2.2.2.2.2.2.2.2.2.2.2.2.2.1,
    hI.2.2.2.2.2.2.2.2.2.2.2.2.2.2.2.1,
    hI.2.2.2.2.2.2.2.2.2.2.2.2.2.2.2.2.1,
    hI.2.2.2.2.2.2.2.2.2.2.2.2.2.2.2.2.2.1,
    hI.2.2.2.2.2.2.2.2.2.2.2.2.2.2.2.2.2.2.1,
    hI.2.2.2.2.2.2.2.2.2.2.2.2.2.2.2.2.2.2.2.1,
    hI.2.2.2.2.2.2.2.2.2.2.2.2.2.2.2.2.2.2.2.2.1,
    hI.2.2.2.2.2.2.2.2.2.2.2.2.2.2.2.2.2.2.2.2.2.1,
    hI.2.2.2.2.2.2.2.2.2.2.2.2.2.2.2.2.2.2.2.2.2.2.1,
    hI.2.2.2.2.2.2.2.2.2.2.2.2.2.2.2.2.2.2.2.2.2.2.2.1,
    hI.2.2.2.2.2.2.2.2.2.2.2.2.2.2.2.2.2.2.2.2.2.2.2.2.1,
    fun i1 hi1 => by
      have g0 := hI.2.2.2.2.2.2.2.2.2.2.2.2.2.2.2.2.2.2.2.2.2.2.2.2.2.1 i1 hi1
      simp only [mm_up, u3, true_and, and_true, false_and, and_false, if_true, if_false] <;> (repeat' split) <;> first | exact g0 | rfl | (exfalso; omega) | (exfalso; have e9 : i1 = i := (by omega); subst e9; omega) | (exfalso; simp_all; done),
    hI.2.2.2.2.2.2.2.2.2.2.2.2.2.2.2.2.2.2.2.2.2.2.2.2.2.2.1,
    hI.2.2.2.2.2.2.2.2.2.2.2.2.2.2.2.2.2.2.2.2.2.2.2.2.2.2.2.1,
    hI.2.2.2.2.2.2.2.2.2.2.2.2.2.2.2.2.2.2.2.2.2.2.2.2.2.2.2.2.1,
    hI.2.2.2.2.2.2.2.2.2.2.2.2.2.2.2.2.2.2.2.2.2.2.2.2.2.2.2.2.2.1,
    hI.2.2.2.2.2.2.2.2.2.2.2.2.2.2.2.2.2.2.2.2.2.2.2.2.2.2.2.2.2.2⟩,
   ⟨fun t1 ht1 k1 hk1 => by
      have g0 := hX.1 t1 ht1 k1 hk1
      simp only [u3, true_and, and_true, false_and, and_false, if_true, if_false] <;> (repeat' split) <;> first | exact g0 | exact hv | (exfalso; omega) | (exfalso; have e9 : i1 = i := (by omega); subst e9; omega) | (exfalso; simp_all; done),
    fun i1 hi1 k1 hk1 e0 => by
      have z1 := isr i1 hi1; have g0 := hX.2.1 i1 hi1 k1 hk1 e0
      simp only [u3, true_and, and_true, false_and, and_false, if_true, if_false] <;> (repeat' split) <;> first | exact g0 | exact hv | (exfalso; omega) | (exfalso; have e9 : i1 = i := (by omega); subst e9; omega) | (exfalso; simp_all; done),
    fun i1 hi1 => by
      have g0 := hX.2.2.1 i1 hi1
      simp only [u3, true_and, and_true, false_and, and_false, if_true, if_false] <;> (repeat' split) <;> first | exact g0 | exact hv | (exfalso; omega) | (exfalso; have e9 : i1 = i := (by omega); subst e9; omega) | (exfalso; simp_all; done),
    fun i1 hi1 => by
      have g0 := hX.2.2.2.1 i1 hi1
      simp only [u3, true_and, and_true, false_and, and_false, if_true, if_false] <;> (repeat' split) <;> first | exact g0 | exact hv | (exfalso; omega) | (exfalso; have e9 : i1 = i := (by omega); subst e9; omega) | (exfalso; simp_all; done),
    fun i1 hi1 => by
      have g0 := hX.2.2.2.2.1 i1 hi1
      simp only [u3, true_and, and_true, false_and, and_false, if_true, if_false] <;> (repeat' split) <;> first | exact g0 | exact hv | (exfalso; omega) | (exfalso; have e9 : i1 = i := (by omega); subst e9; omega) | (exfalso; simp_all; done),
    hX.2.2.2.2.2.1,
    hX.2.2.2.2.2.2.1,
    hX.2.2.2.2.2.2.2.1,
    hX.2.2.2.2.2.2.2.2.1,
    hX.2.2.2.2.2.2.2.2.2.1,
    hX.2.2.2.2.2.2.2.2.2.2.1,
    hX.2.2.2.2.2.2.2.2.2.2.2.1,
    hX.2.2.2.2.2.2.2.2.2.2.2.2⟩,
   hN,
   hS⟩
theorem MU_nxt {ci : Nat → Nat → Nat → Int32} {cn : Nat → Nat → Nat → Nat} {co : Nat → Option Nat} {xj : Nat → Nat → Nat → Int64} {xd : Nat → Nat → Nat → UInt64} {xf : Nat → Nat → Nat → UInt32} {xo : Nat → Nat → Nat → Option Nat} {xi : Nat → Nat → Nat → Int32} {xn : Nat → Nat → Nat → Nat} {I : Nat → Nat → Int32} {J : Nat → Nat → Int64} {D : Nat → Nat → UInt64} (h : RM ci cn co xj xd xf xo xi xn I J D) {i : Nat} (hi : i < xn 2 0 0) {v : Option Nat}  {j : Nat} {z : Int32} (hj : j = i) (hz : z = eI v) (isr : ∀ i, i < xn 2 0 0 → xn 1 i 0 ≤ 12) : RM ci cn co xj xd xf (u3 xo 2 i 0 v) xi xn (mm_up I (14) j z) J D := by
  subst hj; subst hz
  obtain ⟨hJ, hD, hI⟩ := h
  exact ⟨⟨hJ.1,
    hJ.2.1,
    fun i1 hi1 k1 hk1 e0 => by
      have z1 := isr i1 hi1; have g0 := hJ.2.2.1 i1 hi1 k1 hk1 e0
      simp only [mm_up, u3, true_and, and_true, false_and, and_false, if_true, if_false] <;> (repeat' split) <;> first | exact g0 | rfl | (exfalso; omega) | (exfalso; have e9 : i1 = i := (by omega); subst e9; omega) | (exfalso; simp_all; done),
    hJ.2.2.2⟩,
   hD,
   ⟨by
      have g0 := hI.1
      simp only [mm_up, u3, true_and, and_true, false_and, and_false, if_true, if_false] <;> (repeat' split) <;> first | exact g0 | rfl | (exfalso; omega) | (exfalso; have e9 : i1 = i := (by omega); subst e9; omega) | (exfalso; simp_all; done),
    by
      have g0 := hI.2.1
      simp only [mm_up, u3, true_and, and_true, false_and, and_false, if_true, if_false] <;> (repeat' split) <;> first | exact g0 | rfl | (exfalso; omega) | (exfalso; have e9 : i1 = i := (by omega); subst e9; omega) | (exfalso; simp_all; done),
    fun i1 hi1 => by
      have g0 := hI.2.2.1 i1 hi1
      simp only [mm_up, u3, true_and, and_true, false_and, and_false, if_true, if_false] <;> (repeat' split) <;> first | exact g0 | rfl | (exfalso; omega) | (exfalso; have e9 : i1 = i := (by omega); subst e9; omega) | (exfalso; simp_all; done),
    fun i1 hi1 => by
      have g0 := hI.2.2.2.1 i1 hi1
      simp only [mm_up, u3, true_and, and_true, false_and, and_false, if_true, if_false] <;> (repeat' split) <;> first | exact g0 | rfl | (exfalso; omega) | (exfalso; have e9 : i1 = i := (by omega); subst e9; omega) | (exfalso; simp_all; done),
    fun i1 hi1 => by
      have g0 := hI.2.2.2.2.1 i1 hi1
      simp only [mm_up, u3, true_and, and_true, false_and, and_false, if_true, if_false] <;> (repeat' split) <;> first | exact g0 | rfl | (exfalso; omega) | (exfalso; have e9 : i1 = i := (by omega); subst e9; omega) | (exfalso; simp_all; done),
    fun i1 hi1 => by
      have g0 := hI.2.2.2.2.2.1 i1 hi1
      simp only [mm_up, u3, true_and, and_true, false_and, and_false, if_true, if_false] <;> (repeat' split) <;> first | exact g0 | rfl | (exfalso; omega) | (exfalso; have e9 : i1 = i := (by omega); subst e9; omega) | (exfalso; simp_all; done),
    fun i1 hi1 => by
      have g0 := hI.2.2.2.2.2.2.1 i1 hi1
      simp only [mm_up, u3, true_and, and_true, false_and, and_false, if_true, if_false] <;> (repeat' split) <;> first | exact g0 | rfl | (exfalso; omega) | (exfalso; have e9 : i1 = i := (by omega); subst e9; omega) | (exfalso; simp_all; done),
    fun i1 hi1 k1 hk1 => by
      have g0 := hI.2.2.2.2.2.2.2.1 i1 hi1 k1 hk1
      simp only [mm_up, u3, true_and, and_true, false_and, and_false, if_true, if_false] <;> (repeat' split) <;> first | exact g0 | rfl | (exfalso; omega) | (exfalso; have e9 : i1 = i := (by omega); subst e9; omega) | (exfalso; simp_all; done),
    fun i1 hi1 => by
      have g0 := hI.2.2.2.2.2.2.2.2.1 i1 hi1
      simp only [mm_up, u3, true_and, and_true, false_and, and_false, if_true, if_false] <;> (repeat' split) <;> first | exact g0 | rfl | (exfalso; omega) | (exfalso; have e9 : i1 = i := (by omega); subst e9; omega) | (exfalso; simp_all; done),
    fun i1 hi1 => by
      have g0 := hI.2.2.2.2.2.2.2.2.2.1 i1 hi1
      simp only [mm_up, u3, true_and, and_true, false_and, and_false, if_true, if_false] <;> (repeat' split) <;> first | exact g0 | rfl | (exfalso; omega) | (exfalso; have e9 : i1 = i := (by omega); subst e9; omega) | (exfalso; simp_all; done),
    fun p1 hp1 => by
      have g0 := hI.2.2.2.2.2.2.2.2.2.2.1 p1 hp1
      simp only [mm_up, u3, true_and, and_true, false_and, and_false, if_true, if_false] <;> (repeat' split) <;> first | exact g0 | rfl | (exfalso; omega) | (exfalso; have e9 : i1 = i := (by omega); subst e9; omega) | (exfalso; simp_all; done),
    fun p1 hp1 k1 hk1 => by
      have g0 := hI.2.2.2.2.2.2.2.2.2.2.2.1 p1 hp1 k1 hk1
      simp only [mm_up, u3, true_and, and_true, false_and, and_false, if_true, if_false] <;> (repeat' split) <;> first | exact g0 | rfl | (exfalso; omega) | (exfalso; have e9 : i1 = i := (by omega); subst e9; omega) | (exfalso; simp_all; done),
    fun p1 hp1 k1 hk1 => by
      have g0 := hI.2.2.2.2.2.2.2.2.2.2.2.2.1 p1 hp1 k1 hk1
      simp only [mm_up, u3, true_and, and_true, false_and, and_false, if_true, if_false] <;> (repeat' split) <;> first | exact g0 | rfl | (exfalso; omega) | (exfalso; have e9 : i1 = i := (by omega); subst e9; omega) | (exfalso; simp_all; done),
    fun p1 hp1 k1 hk1 => by
      have g0 := hI.2.2.2.2.2.2.2.2.2.2.2.2.2.1 p1 hp1 k1 hk1
      simp only [mm_up, u3, true_and, and_true, false_and, and_false, if_true, if_false] <;> (repeat' split) <;> first | exact g0 | rfl | (exfalso; omega) | (exfalso; have e9 : i1 = i := (by omega); subst e9; omega) | (exfalso; simp_all; done),
    fun p1 hp1 k1 hk1 => by
      have g0 := hI.2.2.2.2.2.2.2.2.2.2.2.2.2.2.1 p1 hp1 k1 hk1
      simp only [mm_up, u3, true_and, and_true, false_and, and_false, if_true, if_false] <;> (repeat' split) <;> first | exact g0 | rfl | (exfalso; omega) | (exfalso; have e9 : i1 = i := (by omega); subst e9; omega) | (exfalso; simp_all; done),
    fun p1 hp1 => by
      have g0 := hI.2.2.2.2.2.2.2.2.2.2.2.2.2.2.2.1 p1 hp1
      simp only [mm_up, u3, true_and, and_true, false_and, and_false, if_true, if_false] <;> (repeat' split) <;> first | exact g0 | rfl | (exfalso; omega) | (exfalso; have e9 : i1 = i := (by omega); subst e9; omega) | (exfalso; simp_all; done),
    fun p1 hp1 k1 hk1 => by
      have g0 := hI.2.2.2.2.2.2.2.2.2.2.2.2.2.2.2.2.1 p1 hp1 k1 hk1
      simp only [mm_up, u3, true_and, and_true, false_and, and_false, if_true, if_false] <;> (repeat' split) <;> first | exact g0 | rfl | (exfalso; omega) | (exfalso; have e9 : i1 = i := (by omega); subst e9; omega) | (exfalso; simp_all; done),
    fun p1 hp1 k1 hk1 => by
      have g0 := hI.2.2.2.2.2.2.2.2.2.2.2.2.2.2.2.2.2.1 p1 hp1 k1 hk1
      simp only [mm_up, u3, true_and, and_true, false_and, and_false, if_true, if_false] <;> (repeat' split) <;> first | exact g0 | rfl | (exfalso; omega) | (exfalso; have e9 : i1 = i := (by omega); subst e9; omega) | (exfalso; simp_all; done),
    fun p1 hp1 k1 hk1 => by
      have g0 := hI.2.2.2.2.2.2.2.2.2.2.2.2.2.2.2.2.2.2.1 p1 hp1 k1 hk1
      simp only [mm_up, u3, true_and, and_true, false_and, and_false, if_true, if_false] <;> (repeat' split) <;> first | exact g0 | rfl | (exfalso; omega) | (exfalso; have e9 : i1 = i := (by omega); subst e9; omega) | (exfalso; simp_all; done),
    fun p1 hp1 k1 hk1 => by
      have g0 := hI.2.2.2.2.2.2.2.2.2.2.2.2.2.2.2.2.2.2.2.1 p1 hp1 k1 hk1
      simp only [mm_up, u3, true_and, and_true, false_and, and_false, if_true, if_false] <;> (repeat' split) <;> first | exact g0 | rfl | (exfalso; omega) | (exfalso; have e9 : i1 = i := (by omega); subst e9; omega) | (exfalso; simp_all; done),
    fun t1 ht1 k1 hk1 => by
      have g0 := hI.2.2.2.2.2.2.2.2.2.2.2.2.2.2.2.2.2.2.2.2.1 t1 ht1 k1 hk1
      simp only [mm_up, u3, true_and, and_true, false_and, and_false, if_true, if_false] <;> (repeat' split) <;> first | exact g0 | rfl | (exfalso; omega) | (exfalso; have e9 : i1 = i := (by omega); subst e9; omega) | (exfalso; simp_all; done),
    fun t1 ht1 => by
      have g0 := hI.2.2.2.2.2.2.2.2.2.2.2.2.2.2.2.2.2.2.2.2.2.1 t1 ht1
      simp only [mm_up, u3, true_and, and_true, false_and, and_false, if_true, if_false] <;> (repeat' split) <;> first | exact g0 | rfl | (exfalso; omega) | (exfalso; have e9 : i1 = i := (by omega); subst e9; omega) | (exfalso; simp_all; done),
    fun t1 ht1 => by
      have g0 := hI.2.2.2.2.2.2.2.2.2.2.2.2.2.2.2.2.2.2.2.2.2.2.1 t1 ht1
      simp only [mm_up, u3, true_and, and_true, false_and, and_false, if_true, if_false] <;> (repeat' split) <;> first | exact g0 | rfl | (exfalso; omega) | (exfalso; have e9 : i1 = i := (by omega); subst e9; omega) | (exfalso; simp_all; done),
    fun t1 ht1 k1 hk1 => by
      have g0 := hI.2.2.2.2.2.2.2.2.2.2.2.2.2.2.2.2.2.2.2.2.2.2.2.1 t1 ht1 k1 hk1
      simp only [mm_up, u3, true_and, and_true, false_and, and_false, if_true, if_false] <;> (repeat' split) <;> first | exact g0 | rfl | (exfalso; omega) | (exfalso; have e9 : i1 = i := (by omega); subst e9; omega) | (exfalso; simp_all; done),
    fun t1 ht1 k1 hk1 => by
      have g0 := hI.2.2.2.2.2.2.2.2.2.2.2.2.2.2.2.2.2.2.2.2.2.2.2.2.1 t1 ht1 k1 hk1
      simp only [mm_up, u3, true_and, and_true, false_and, and_false, if_true, if_false] <;> (repeat' split) <;> first | exact g0 | rfl | (exfalso; omega) | (exfalso; have e9 : i1 = i := (by omega); subst e9; omega) | (exfalso; simp_all; done),
    fun t1 ht1 => by
      have g0 := hI.2.2.2.2.2.2.2.2.2.2.2.2.2.2.2.2.2.2.2.2.2.2.2.2.2.1 t1 ht1
      simp only [mm_up, u3, true_and, and_true, false_and, and_false, if_true, if_false] <;> (repeat' split) <;> first | exact g0 | rfl | (exfalso; omega) | (exfalso; have e9 : i1 = i := (by omega); subst e9; omega) | (exfalso; simp_all; done),
    fun t1 ht1 => by
      have g0 := hI.2.2.2.2.2.2.2.2.2.2.2.2.2.2.2.2.2.2.2.2.2.2.2.2.2.2.1 t1 ht1
      simp only [mm_up, u3, true_and, and_true, false_and, and_false, if_true, if_false] <;> (repeat' split) <;> first | exact g0 | rfl | (exfalso; omega) | (exfalso; have e9 : i1 = i := (by omega); subst e9; omega) | (exfalso; simp_all; done),
    fun t1 ht1 => by
      have g0 := hI.2.2.2.2.2.2.2.2.2.2.2.2.2.2.2.2.2.2.2.2.2.2.2.2.2.2.2.1 t1 ht1
      simp only [mm_up, u3, true_and, and_true, false_and, and_false, if_true, if_false] <;> (repeat' split) <;> first | exact g0 | rfl | (exfalso; omega) | (exfalso; have e9 : i1 = i := (by omega); subst e9; omega) | (exfalso; simp_all; done),
    fun t1 ht1 => by
      have g0 := hI.2.2.2.2.2.2.2.2.2.2.2.2.2.2.2.2.2.2.2.2.2.2.2.2.2.2.2.2.1 t1 ht1
      simp only [mm_up, u3, true_and, and_true, false_and, and_false, if_true, if_false] <;> (repeat' split) <;> first | exact g0 | rfl | (exfalso; omega) | (exfalso; have e9 : i1 = i := (by omega); subst e9; omega) | (exfalso; simp_all; done),
    fun t1 ht1 => by
      have g0 := hI.2.2.2.2.2.2.2.2.2.2.2.2.2.2.2.2.2.2.2.2.2.2.2.2.2.2.2.2.2.1 t1 ht1
      simp only [mm_up, u3, true_and, and_true, false_and, and_false, if_true, if_false] <;> (repeat' split) <;> first | exact g0 | rfl | (exfalso; omega) | (exfalso; have e9 : i1 = i := (by omega); subst e9; omega) | (exfalso; simp_all; done),
    fun t1 ht1 => by
      have g0 := hI.2.2.2.2.2.2.2.2.2.2.2.2.2.2.2.2.2.2.2.2.2.2.2.2.2.2.2.2.2.2 t1 ht1
      simp only [mm_up, u3, true_and, and_true, false_and, and_false, if_true, if_false] <;> (repeat' split) <;> first | exact g0 | rfl | (exfalso; omega) | (exfalso; have e9 : i1 = i := (by omega); subst e9; omega) | (exfalso; simp_all; done)⟩⟩
theorem CU_lin {ci : Nat → Nat → Nat → Int32} {cn : Nat → Nat → Nat → Nat} {co : Nat → Option Nat} {xj : Nat → Nat → Nat → Int64} {xd : Nat → Nat → Nat → UInt64} {xf : Nat → Nat → Nat → UInt32} {xo : Nat → Nat → Nat → Option Nat} {xi : Nat → Nat → Nat → Int32} {xn : Nat → Nat → Nat → Nat} {I : Nat → Nat → Int32} {J : Nat → Nat → Int64} {F : Nat → Nat → UInt32} {D : Nat → Nat → UInt64} {R : Nat → Nat → Option Nat} {nx sl : Nat} (h : RC ci cn co xj xd xf xo xi xn I J F D R nx sl) {i : Nat} (hi : i < xn 2 0 0) {v : Option Nat} (hv : ∀ q, v = some q → q < xn 2 0 0) {j : Nat} {z : Option Nat} (hj : j = 12) (hz : z = tR v) : RC ci cn co xj xd xf (u3 xo 3 i 0 v) xi xn I J F D (mm_up R (94 + 4 * i) j z) nx sl := by
  subst hj; subst hz
  have isr := fun i hi => (rc_isor h (i := i) hi).2.2.1
  obtain ⟨hJ, hD, hF, hR, hI, hX, hN, hS⟩ := h
  exact ⟨hJ,
   hD,
   hF,
   ⟨fun t1 ht1 k1 hk1 => by
      have g0 := hR.1 t1 ht1 k1 hk1
      simp only [mm_up, u3, true_and, and_true, false_and, and_false, if_true, if_false] <;> (repeat' split) <;> first | exact g0 | rfl | (exfalso; omega) | (exfalso; have e9 : i1 = i := (by omega); subst e9; omega) | (exfalso; simp_all; done),
    fun i1 hi1 k1 hk1 e0 => by
      have z1 := isr i1 hi1; have g0 := hR.2.1 i1 hi1 k1 hk1 e0
      simp only [mm_up, u3, true_and, and_true, false_and, and_false, if_true, if_false] <;> (repeat' split) <;> first | exact g0 | rfl | (exfalso; omega) | (exfalso; have e9 : i1 = i := (by omega); subst e9; omega) | (exfalso; simp_all; done),
    fun i1 hi1 => by
      have g0 := hR.2.2.1 i1 hi1
      simp only [mm_up, u3, true_and, and_true, false_and, and_false, if_true, if_false] <;> (repeat' split) <;> first | exact g0 | rfl | (exfalso; omega) | (exfalso; have e9 : i1 = i := (by omega); subst e9; omega) | (exfalso; simp_all; done),
    fun i1 hi1 => by
      have g0 := hR.2.2.2.1 i1 hi1
      simp only [mm_up, u3, true_and, and_true, false_and, and_false, if_true, if_false] <;> (repeat' split) <;> first | exact g0 | rfl | (exfalso; omega) | (exfalso; have e9 : i1 = i := (by omega); subst e9; omega) | (exfalso; simp_all; done),
    fun t1 ht1 => by
      have g0 := hR.2.2.2.2.1 t1 ht1
      simp only [mm_up, u3, true_and, and_true, false_and, and_false, if_true, if_false] <;> (repeat' split) <;> first | exact g0 | rfl | (exfalso; omega) | (exfalso; have e9 : i1 = i := (by omega); subst e9; omega) | (exfalso; simp_all; done),
    fun t1 ht1 k1 hk1 => by
      have g0 := hR.2.2.2.2.2.1 t1 ht1 k1 hk1
      simp only [mm_up, u3, true_and, and_true, false_and, and_false, if_true, if_false] <;> (repeat' split) <;> first | exact g0 | rfl | (exfalso; omega) | (exfalso; have e9 : i1 = i := (by omega); subst e9; omega) | (exfalso; simp_all; done),
    fun i1 hi1 => by
      have g0 := hR.2.2.2.2.2.2.1 i1 hi1
      simp only [mm_up, u3, true_and, and_true, false_and, and_false, if_true, if_false] <;> (repeat' split) <;> first | exact g0 | rfl | (exfalso; omega) | (exfalso; have e9 : i1 = i := (by omega); subst e9; omega) | (exfalso; simp_all; done),
    fun i1 hi1 e0 => by
      have g0 := hR.2.2.2.2.2.2.2.1 i1 hi1 e0
      simp only [mm_up, u3, true_and, and_true, false_and, and_false, if_true, if_false] <;> (repeat' split) <;> first | exact g0 | rfl | (exfalso; omega) | (exfalso; have e9 : i1 = i := (by omega); subst e9; omega) | (exfalso; simp_all; done),
    fun p1 hp1 => by
      have g0 := hR.2.2.2.2.2.2.2.2.1 p1 hp1
      simp only [mm_up, u3, true_and, and_true, false_and, and_false, if_true, if_false] <;> (repeat' split) <;> first | exact g0 | rfl | (exfalso; omega) | (exfalso; have e9 : i1 = i := (by omega); subst e9; omega) | (exfalso; simp_all; done),
    fun t1 ht1 => by
      have g0 := hR.2.2.2.2.2.2.2.2.2 t1 ht1
      simp only [mm_up, u3, true_and, and_true, false_and, and_false, if_true, if_false] <;> (repeat' split) <;> first | exact g0 | rfl | (exfalso; omega) | (exfalso; have e9 : i1 = i := (by omega); subst e9; omega) | (exfalso; simp_all; done)⟩,
   ⟨hI.1,
    hI.2.1,
    hI.2.2.1,
    hI.2.2.2.1,
    hI.2.2.2.2.1,
    hI.2.2.2.2.2.1,
    hI.2.2.2.2.2.2.1,
    hI.2.2.2.2.2.2.2.1,
    hI.2.2.2.2.2.2.2.2.1,
    hI.2.2.2.2.2.2.2.2.2.1,
    hI.2.2.2.2.2.2.2.2.2.2.1,
    hI.2.2.2.2.2.2.2.2.2.2.2.1,
    hI.2.2.2.2.2.2.2.2.2.2.2.2.1,
    hI.2.2.2.2.2.2.2.2.2.2.2.2.2.1,
    hI.2.2.2.2.2.2.2.2.2.2.2.2.2.2.1,
    hI.2.2.2.2.2.2.2.2.2.2.2.2.2.2.2.1,
    hI.2.2.2.2.2.2.2.2.2.2.2.2.2.2.2.2.1,
    hI.2.2.2.2.2.2.2.2.2.2.2.2.2.2.2.2.2.1,
    hI.2.2.2.2.2.2.2.2.2.2.2.2.2.2.2.2.2.2.1,
    hI.2.2.2.2.2.2.2.2.2.2.2.2.2.2.2.2.2.2.2.1,
    hI.2.2.2.2.2.2.2.2.2.2.2.2.2.2.2.2.2.2.2.2.1,
    hI.2.2.2.2.2.2.2.2.2.2.2.2.2.2.2.2.2.2.2.2.2.1,
    hI.2.2.2.2.2.2.2.2.2.2.2.2.2.2.2.2.2.2.2.2.2.2.1,
    hI.2.2.2.2.2.2.2.2.2.2.2.2.2.2.2.2.2.2.2.2.2.2.2.1,
    hI.2.2.2.2.2.2.2.2.2.2.2.2.2.2.2.2.2.2.2.2.2.2.2.2.1,
    fun i1 hi1 => by
      have g0 := hI.2.2.2.2.2.2.2.2.2.2.2.2.2.2.2.2.2.2.2.2.2.2.2.2.2.1 i1 hi1
      simp only [mm_up, u3, true_and, and_true, false_and, and_false, if_true, if_false] <;> (repeat' split) <;> first | exact g0 | rfl | (exfalso; omega) | (exfalso; have e9 : i1 = i := (by omega); subst e9; omega) | (exfalso; simp_all; done),
    hI.2.2.2.2.2.2.2.2.2.2.2.2.2.2.2.2.2.2.2.2.2.2.2.2.2.2.1,
    hI.2.2.2.2.2.2.2.2.2.2.2.2.2.2.2.2.2.2.2.2.2.2.2.2.2.2.2.1,
    hI.2.2.2.2.2.2.2.2.2.2.2.2.2.2.2.2.2.2.2.2.2.2.2.2.2.2.2.2.1,
    hI.2.2.2.2.2.2.2.2.2.2.2.2.2.2.2.2.2.2.2.2.2.2.2.2.2.2.2.2.2.1,
    hI.2.2.2.2.2.2.2.2.2.2.2.2.2.2.2.2.2.2.2.2.2.2.2.2.2.2.2.2.2.2⟩,
   ⟨fun t1 ht1 k1 hk1 => by
      have g0 := hX.1 t1 ht1 k1 hk1
      simp only [u3, true_and, and_true, false_and, and_false, if_true, if_false] <;> (repeat' split) <;> first | exact g0 | exact hv | (exfalso; omega) | (exfalso; have e9 : i1 = i := (by omega); subst e9; omega) | (exfalso; simp_all; done),
    fun i1 hi1 k1 hk1 e0 => by
      have z1 := isr i1 hi1; have g0 := hX.2.1 i1 hi1 k1 hk1 e0
      simp only [u3, true_and, and_true, false_and, and_false, if_true, if_false] <;> (repeat' split) <;> first | exact g0 | exact hv | (exfalso; omega) | (exfalso; have e9 : i1 = i := (by omega); subst e9; omega) | (exfalso; simp_all; done),
    fun i1 hi1 => by
      have g0 := hX.2.2.1 i1 hi1
      simp only [u3, true_and, and_true, false_and, and_false, if_true, if_false] <;> (repeat' split) <;> first | exact g0 | exact hv | (exfalso; omega) | (exfalso; have e9 : i1 = i := (by omega); subst e9; omega) | (exfalso; simp_all; done),
    fun i1 hi1 => by
      have g0 := hX.2.2.2.1 i1 hi1
      simp only [u3, true_and, and_true, false_and, and_false, if_true, if_false] <;> (repeat' split) <;> first | exact g0 | exact hv | (exfalso; omega) | (exfalso; have e9 : i1 = i := (by omega); subst e9; omega) | (exfalso; simp_all; done),
    fun i1 hi1 => by
      have g0 := hX.2.2.2.2.1 i1 hi1
      simp only [u3, true_and, and_true, false_and, and_false, if_true, if_false] <;> (repeat' split) <;> first | exact g0 | exact hv | (exfalso; omega) | (exfalso; have e9 : i1 = i := (by omega); subst e9; omega) | (exfalso; simp_all; done),
    hX.2.2.2.2.2.1,
    hX.2.2.2.2.2.2.1,
    hX.2.2.2.2.2.2.2.1,
    hX.2.2.2.2.2.2.2.2.1,
    hX.2.2.2.2.2.2.2.2.2.1,
    hX.2.2.2.2.2.2.2.2.2.2.1,
    hX.2.2.2.2.2.2.2.2.2.2.2.1,
    hX.2.2.2.2.2.2.2.2.2.2.2.2⟩,
   hN,
   hS⟩
theorem MU_lin {ci : Nat → Nat → Nat → Int32} {cn : Nat → Nat → Nat → Nat} {co : Nat → Option Nat} {xj : Nat → Nat → Nat → Int64} {xd : Nat → Nat → Nat → UInt64} {xf : Nat → Nat → Nat → UInt32} {xo : Nat → Nat → Nat → Option Nat} {xi : Nat → Nat → Nat → Int32} {xn : Nat → Nat → Nat → Nat} {I : Nat → Nat → Int32} {J : Nat → Nat → Int64} {D : Nat → Nat → UInt64} (h : RM ci cn co xj xd xf xo xi xn I J D) {i : Nat} (hi : i < xn 2 0 0) {v : Option Nat}  {j : Nat} {z : Int32} (hj : j = i) (hz : z = eI v) (isr : ∀ i, i < xn 2 0 0 → xn 1 i 0 ≤ 12) : RM ci cn co xj xd xf (u3 xo 3 i 0 v) xi xn (mm_up I (15) j z) J D := by
  subst hj; subst hz
  obtain ⟨hJ, hD, hI⟩ := h
  exact ⟨⟨hJ.1,
    hJ.2.1,
    fun i1 hi1 k1 hk1 e0 => by
      have z1 := isr i1 hi1; have g0 := hJ.2.2.1 i1 hi1 k1 hk1 e0
      simp only [mm_up, u3, true_and, and_true, false_and, and_false, if_true, if_false] <;> (repeat' split) <;> first | exact g0 | rfl | (exfalso; omega) | (exfalso; have e9 : i1 = i := (by omega); subst e9; omega) | (exfalso; simp_all; done),
    hJ.2.2.2⟩,
   hD,
   ⟨by
      have g0 := hI.1
      simp only [mm_up, u3, true_and, and_true, false_and, and_false, if_true, if_false] <;> (repeat' split) <;> first | exact g0 | rfl | (exfalso; omega) | (exfalso; have e9 : i1 = i := (by omega); subst e9; omega) | (exfalso; simp_all; done),
    by
      have g0 := hI.2.1
      simp only [mm_up, u3, true_and, and_true, false_and, and_false, if_true, if_false] <;> (repeat' split) <;> first | exact g0 | rfl | (exfalso; omega) | (exfalso; have e9 : i1 = i := (by omega); subst e9; omega) | (exfalso; simp_all; done),
    fun i1 hi1 => by
      have g0 := hI.2.2.1 i1 hi1
      simp only [mm_up, u3, true_and, and_true, false_and, and_false, if_true, if_false] <;> (repeat' split) <;> first | exact g0 | rfl | (exfalso; omega) | (exfalso; have e9 : i1 = i := (by omega); subst e9; omega) | (exfalso; simp_all; done),
    fun i1 hi1 => by
      have g0 := hI.2.2.2.1 i1 hi1
      simp only [mm_up, u3, true_and, and_true, false_and, and_false, if_true, if_false] <;> (repeat' split) <;> first | exact g0 | rfl | (exfalso; omega) | (exfalso; have e9 : i1 = i := (by omega); subst e9; omega) | (exfalso; simp_all; done),
    fun i1 hi1 => by
      have g0 := hI.2.2.2.2.1 i1 hi1
      simp only [mm_up, u3, true_and, and_true, false_and, and_false, if_true, if_false] <;> (repeat' split) <;> first | exact g0 | rfl | (exfalso; omega) | (exfalso; have e9 : i1 = i := (by omega); subst e9; omega) | (exfalso; simp_all; done),
    fun i1 hi1 => by
      have g0 := hI.2.2.2.2.2.1 i1 hi1
      simp only [mm_up, u3, true_and, and_true, false_and, and_false, if_true, if_false] <;> (repeat' split) <;> first | exact g0 | rfl | (exfalso; omega) | (exfalso; have e9 : i1 = i := (by omega); subst e9; omega) | (exfalso; simp_all; done),
    fun i1 hi1 => by
      have g0 := hI.2.2.2.2.2.2.1 i1 hi1
      simp only [mm_up, u3, true_and, and_true, false_and, and_false, if_true, if_false] <;> (repeat' split) <;> first | exact g0 | rfl | (exfalso; omega) | (exfalso; have e9 : i1 = i := (by omega); subst e9; omega) | (exfalso; simp_all; done),
    fun i1 hi1 k1 hk1 => by
      have g0 := hI.2.2.2.2.2.2.2.1 i1 hi1 k1 hk1
      simp only [mm_up, u3, true_and, and_true, false_and, and_false, if_true, if_false] <;> (repeat' split) <;> first | exact g0 | rfl | (exfalso; omega) | (exfalso; have e9 : i1 = i := (by omega); subst e9; omega) | (exfalso; simp_all; done),
    fun i1 hi1 => by
      have g0 := hI.2.2.2.2.2.2.2.2.1 i1 hi1
      simp only [mm_up, u3, true_and, and_true, false_and, and_false, if_true, if_false] <;> (repeat' split) <;> first | exact g0 | rfl | (exfalso; omega) | (exfalso; have e9 : i1 = i := (by omega); subst e9; omega) | (exfalso; simp_all; done),
    fun i1 hi1 => by
      have g0 := hI.2.2.2.2.2.2.2.2.2.1 i1 hi1
      simp only [mm_up, u3, true_and, and_true, false_and, and_false, if_true, if_false] <;> (repeat' split) <;> first | exact g0 | rfl | (exfalso; omega) | (exfalso; have e9 : i1 = i := (by omega); subst e9; omega) | (exfalso; simp_all; done),
    fun p1 hp1 => by
      have g0 := hI.2.2.2.2.2.2.2.2.2.2.1 p1 hp1
      simp only [mm_up, u3, true_and, and_true, false_and, and_false, if_true, if_false] <;> (repeat' split) <;> first | exact g0 | rfl | (exfalso; omega) | (exfalso; have e9 : i1 = i := (by omega); subst e9; omega) | (exfalso; simp_all; done),
    fun p1 hp1 k1 hk1 => by
      have g0 := hI.2.2.2.2.2.2.2.2.2.2.2.1 p1 hp1 k1 hk1
      simp only [mm_up, u3, true_and, and_true, false_and, and_false, if_true, if_false] <;> (repeat' split) <;> first | exact g0 | rfl | (exfalso; omega) | (exfalso; have e9 : i1 = i := (by omega); subst e9; omega) | (exfalso; simp_all; done),
    fun p1 hp1 k1 hk1 => by
      have g0 := hI.2.2.2.2.2.2.2.2.2.2.2.2.1 p1 hp1 k1 hk1
      simp only [mm_up, u3, true_and, and_true, false_and, and_false, if_true, if_false] <;> (repeat' split) <;> first | exact g0 | rfl | (exfalso; omega) | (exfalso; have e9 : i1 = i := (by omega); subst e9; omega) | (exfalso; simp_all; done),
    fun p1 hp1 k1 hk1 => by
      have g0 := hI.2.2.2.2.2.2.2.2.2.2.2.2.2.1 p1 hp1 k1 hk1
      simp only [mm_up, u3, true_and, and_true, false_and, and_false, if_true, if_false] <;> (repeat' split) <;> first | exact g0 | rfl | (exfalso; omega) | (exfalso; have e9 : i1 = i := (by omega); subst e9; omega) | (exfalso; simp_all; done),
    fun p1 hp1 k1 hk1 => by
      have g0 := hI.2.2.2.2.2.2.2.2.2.2.2.2.2.2.1 p1 hp1 k1 hk1
      simp only [mm_up, u3, true_and, and_true, false_and, and_false, if_true, if_false] <;> (repeat' split) <;> first | exact g0 | rfl | (exfalso; omega) | (exfalso; have e9 : i1 = i := (by omega); subst e9; omega) | (exfalso; simp_all; done),
    fun p1 hp1 => by
      have g0 := hI.2.2.2.2.2.2.2.2.2.2.2.2.2.2.2.1 p1 hp1
      simp only [mm_up, u3, true_and, and_true, false_and, and_false, if_true, if_false] <;> (repeat' split) <;> first | exact g0 | rfl | (exfalso; omega) | (exfalso; have e9 : i1 = i := (by omega); subst e9; omega) | (exfalso; simp_all; done),
    fun p1 hp1 k1 hk1 => by
      have g0 := hI.2.2.2.2.2.2.2.2.2.2.2.2.2.2.2.2.1 p1 hp1 k1 hk1
      simp only [mm_up, u3, true_and, and_true, false_and, and_false, if_true, if_false] <;> (repeat' split) <;> first | exact g0 | rfl | (exfalso; omega) | (exfalso; have e9 : i1 = i := (by omega); subst e9; omega) | (exfalso; simp_all; done),
    fun p1 hp1 k1 hk1 => by
      have g0 := hI.2.2.2.2.2.2.2.2.2.2.2.2.2.2.2.2.2.1 p1 hp1 k1 hk1
      simp only [mm_up, u3, true_and, and_true, false_and, and_false, if_true, if_false] <;> (repeat' split) <;> first | exact g0 | rfl | (exfalso; omega) | (exfalso; have e9 : i1 = i := (by omega); subst e9; omega) | (exfalso; simp_all; done),
    fun p1 hp1 k1 hk1 => by
      have g0 := hI.2.2.2.2.2.2.2.2.2.2.2.2.2.2.2.2.2.2.1 p1 hp1 k1 hk1
      simp only [mm_up, u3, true_and, and_true, false_and, and_false, if_true, if_false] <;> (repeat' split) <;> first | exact g0 | rfl | (exfalso; omega) | (exfalso; have e9 : i1 = i := (by omega); subst e9; omega) | (exfalso; simp_all; done),
    fun p1 hp1 k1 hk1 => by
      have g0 := hI.2.2.2.2.2.2.2.2.2.2.2.2.2.2.2.2.2.2.2.1 p1 hp1 k1 hk1
      simp only [mm_up, u3, true_and, and_true, false_and, and_false, if_true, if_false] <;> (repeat' split) <;> first | exact g0 | rfl | (exfalso; omega) | (exfalso; have e9 : i1 = i := (by omega); subst e9; omega) | (exfalso; simp_all; done),
    fun t1 ht1 k1 hk1 => by
      have g0 := hI.2.2.2.2.2.2.2.2.2.2.2.2.2.2.2.2.2.2.2.2.1 t1 ht1 k1 hk1
      simp only [mm_up, u3, true_and, and_true, false_and, and_false, if_true, if_false] <;> (repeat' split) <;> first | exact g0 | rfl | (exfalso; omega) | (exfalso; have e9 : i1 = i := (by omega); subst e9; omega) | (exfalso; simp_all; done),
    fun t1 ht1 => by
      have g0 := hI.2.2.2.2.2.2.2.2.2.2.2.2.2.2.2.2.2.2.2.2.2.1 t1 ht1
      simp only [mm_up, u3, true_and, and_true, false_and, and_false, if_true, if_false] <;> (repeat' split) <;> first | exact g0 | rfl | (exfalso; omega) | (exfalso; have e9 : i1 = i := (by omega); subst e9; omega) | (exfalso; simp_all; done),
    fun t1 ht1 => by
      have g0 := hI.2.2.2.2.2.2.2.2.2.2.2.2.2.2.2.2.2.2.2.2.2.2.1 t1 ht1
      simp only [mm_up, u3, true_and, and_true, false_and, and_false, if_true, if_false] <;> (repeat' split) <;> first | exact g0 | rfl | (exfalso; omega) | (exfalso; have e9 : i1 = i := (by omega); subst e9; omega) | (exfalso; simp_all; done),
    fun t1 ht1 k1 hk1 => by
      have g0 := hI.2.2.2.2.2.2.2.2.2.2.2.2.2.2.2.2.2.2.2.2.2.2.2.1 t1 ht1 k1 hk1
      simp only [mm_up, u3, true_and, and_true, false_and, and_false, if_true, if_false] <;> (repeat' split) <;> first | exact g0 | rfl | (exfalso; omega) | (exfalso; have e9 : i1 = i := (by omega); subst e9; omega) | (exfalso; simp_all; done),
    fun t1 ht1 k1 hk1 => by
      have g0 := hI.2.2.2.2.2.2.2.2.2.2.2.2.2.2.2.2.2.2.2.2.2.2.2.2.1 t1 ht1 k1 hk1
      simp only [mm_up, u3, true_and, and_true, false_and, and_false, if_true, if_false] <;> (repeat' split) <;> first | exact g0 | rfl | (exfalso; omega) | (exfalso; have e9 : i1 = i := (by omega); subst e9; omega) | (exfalso; simp_all; done),
    fun t1 ht1 => by
      have g0 := hI.2.2.2.2.2.2.2.2.2.2.2.2.2.2.2.2.2.2.2.2.2.2.2.2.2.1 t1 ht1
      simp only [mm_up, u3, true_and, and_true, false_and, and_false, if_true, if_false] <;> (repeat' split) <;> first | exact g0 | rfl | (exfalso; omega) | (exfalso; have e9 : i1 = i := (by omega); subst e9; omega) | (exfalso; simp_all; done),
    fun t1 ht1 => by
      have g0 := hI.2.2.2.2.2.2.2.2.2.2.2.2.2.2.2.2.2.2.2.2.2.2.2.2.2.2.1 t1 ht1
      simp only [mm_up, u3, true_and, and_true, false_and, and_false, if_true, if_false] <;> (repeat' split) <;> first | exact g0 | rfl | (exfalso; omega) | (exfalso; have e9 : i1 = i := (by omega); subst e9; omega) | (exfalso; simp_all; done),
    fun t1 ht1 => by
      have g0 := hI.2.2.2.2.2.2.2.2.2.2.2.2.2.2.2.2.2.2.2.2.2.2.2.2.2.2.2.1 t1 ht1
      simp only [mm_up, u3, true_and, and_true, false_and, and_false, if_true, if_false] <;> (repeat' split) <;> first | exact g0 | rfl | (exfalso; omega) | (exfalso; have e9 : i1 = i := (by omega); subst e9; omega) | (exfalso; simp_all; done),
    fun t1 ht1 => by
      have g0 := hI.2.2.2.2.2.2.2.2.2.2.2.2.2.2.2.2.2.2.2.2.2.2.2.2.2.2.2.2.1 t1 ht1
      simp only [mm_up, u3, true_and, and_true, false_and, and_false, if_true, if_false] <;> (repeat' split) <;> first | exact g0 | rfl | (exfalso; omega) | (exfalso; have e9 : i1 = i := (by omega); subst e9; omega) | (exfalso; simp_all; done),
    fun t1 ht1 => by
      have g0 := hI.2.2.2.2.2.2.2.2.2.2.2.2.2.2.2.2.2.2.2.2.2.2.2.2.2.2.2.2.2.1 t1 ht1
      simp only [mm_up, u3, true_and, and_true, false_and, and_false, if_true, if_false] <;> (repeat' split) <;> first | exact g0 | rfl | (exfalso; omega) | (exfalso; have e9 : i1 = i := (by omega); subst e9; omega) | (exfalso; simp_all; done),
    fun t1 ht1 => by
      have g0 := hI.2.2.2.2.2.2.2.2.2.2.2.2.2.2.2.2.2.2.2.2.2.2.2.2.2.2.2.2.2.2 t1 ht1
      simp only [mm_up, u3, true_and, and_true, false_and, and_false, if_true, if_false] <;> (repeat' split) <;> first | exact g0 | rfl | (exfalso; omega) | (exfalso; have e9 : i1 = i := (by omega); subst e9; omega) | (exfalso; simp_all; done)⟩⟩
theorem CU_own {ci : Nat → Nat → Nat → Int32} {cn : Nat → Nat → Nat → Nat} {co : Nat → Option Nat} {xj : Nat → Nat → Nat → Int64} {xd : Nat → Nat → Nat → UInt64} {xf : Nat → Nat → Nat → UInt32} {xo : Nat → Nat → Nat → Option Nat} {xi : Nat → Nat → Nat → Int32} {xn : Nat → Nat → Nat → Nat} {I : Nat → Nat → Int32} {J : Nat → Nat → Int64} {F : Nat → Nat → UInt32} {D : Nat → Nat → UInt64} {R : Nat → Nat → Option Nat} {nx sl : Nat} (h : RC ci cn co xj xd xf xo xi xn I J F D R nx sl) {i : Nat} (hi : i < xn 2 0 0) {v : Option Nat} (hv : ∀ q, v = some q → q < 3) {j : Nat} {z : Int32} (hj : j = 3) (hz : z = eI v) : RC ci cn co xj xd xf (u3 xo 4 i 0 v) xi xn (mm_up I (94 + 4 * i) j z) J F D R nx sl := by
  subst hj; subst hz
  have isr := fun i hi => (rc_isor h (i := i) hi).2.2.1
  obtain ⟨hJ, hD, hF, hR, hI, hX, hN, hS⟩ := h
  exact ⟨hJ,
   hD,
   hF,
   ⟨fun t1 ht1 k1 hk1 => by
      have g0 := hR.1 t1 ht1 k1 hk1
      simp only [mm_up, u3, true_and, and_true, false_and, and_false, if_true, if_false] <;> (repeat' split) <;> first | exact g0 | rfl | (exfalso; omega) | (exfalso; have e9 : i1 = i := (by omega); subst e9; omega) | (exfalso; simp_all; done),
    fun i1 hi1 k1 hk1 e0 => by
      have z1 := isr i1 hi1; have g0 := hR.2.1 i1 hi1 k1 hk1 e0
      simp only [mm_up, u3, true_and, and_true, false_and, and_false, if_true, if_false] <;> (repeat' split) <;> first | exact g0 | rfl | (exfalso; omega) | (exfalso; have e9 : i1 = i := (by omega); subst e9; omega) | (exfalso; simp_all; done),
    fun i1 hi1 => by
      have g0 := hR.2.2.1 i1 hi1
      simp only [mm_up, u3, true_and, and_true, false_and, and_false, if_true, if_false] <;> (repeat' split) <;> first | exact g0 | rfl | (exfalso; omega) | (exfalso; have e9 : i1 = i := (by omega); subst e9; omega) | (exfalso; simp_all; done),
    fun i1 hi1 => by
      have g0 := hR.2.2.2.1 i1 hi1
      simp only [mm_up, u3, true_and, and_true, false_and, and_false, if_true, if_false] <;> (repeat' split) <;> first | exact g0 | rfl | (exfalso; omega) | (exfalso; have e9 : i1 = i := (by omega); subst e9; omega) | (exfalso; simp_all; done),
    hR.2.2.2.2.1,
    hR.2.2.2.2.2.1,
    hR.2.2.2.2.2.2.1,
    hR.2.2.2.2.2.2.2.1,
    hR.2.2.2.2.2.2.2.2.1,
    hR.2.2.2.2.2.2.2.2.2⟩,
   ⟨fun p1 hp1 => by
      have g0 := hI.1 p1 hp1
      simp only [mm_up, u3, true_and, and_true, false_and, and_false, if_true, if_false] <;> (repeat' split) <;> first | exact g0 | rfl | (exfalso; omega) | (exfalso; have e9 : i1 = i := (by omega); subst e9; omega) | (exfalso; simp_all; done),
    fun p1 hp1 => by
      have g0 := hI.2.1 p1 hp1
      simp only [mm_up, u3, true_and, and_true, false_and, and_false, if_true, if_false] <;> (repeat' split) <;> first | exact g0 | rfl | (exfalso; omega) | (exfalso; have e9 : i1 = i := (by omega); subst e9; omega) | (exfalso; simp_all; done),
    fun p1 hp1 => by
      have g0 := hI.2.2.1 p1 hp1
      simp only [mm_up, u3, true_and, and_true, false_and, and_false, if_true, if_false] <;> (repeat' split) <;> first | exact g0 | rfl | (exfalso; omega) | (exfalso; have e9 : i1 = i := (by omega); subst e9; omega) | (exfalso; simp_all; done),
    fun p1 hp1 k1 hk1 => by
      have g0 := hI.2.2.2.1 p1 hp1 k1 hk1
      simp only [mm_up, u3, true_and, and_true, false_and, and_false, if_true, if_false] <;> (repeat' split) <;> first | exact g0 | rfl | (exfalso; omega) | (exfalso; have e9 : i1 = i := (by omega); subst e9; omega) | (exfalso; simp_all; done),
    fun p1 hp1 k1 hk1 => by
      have g0 := hI.2.2.2.2.1 p1 hp1 k1 hk1
      simp only [mm_up, u3, true_and, and_true, false_and, and_false, if_true, if_false] <;> (repeat' split) <;> first | exact g0 | rfl | (exfalso; omega) | (exfalso; have e9 : i1 = i := (by omega); subst e9; omega) | (exfalso; simp_all; done),
    fun p1 hp1 k1 hk1 => by
      have g0 := hI.2.2.2.2.2.1 p1 hp1 k1 hk1
      simp only [mm_up, u3, true_and, and_true, false_and, and_false, if_true, if_false] <;> (repeat' split) <;> first | exact g0 | rfl | (exfalso; omega) | (exfalso; have e9 : i1 = i := (by omega); subst e9; omega) | (exfalso; simp_all; done),
    fun p1 hp1 k1 hk1 => by
      have g0 := hI.2.2.2.2.2.2.1 p1 hp1 k1 hk1
      simp only [mm_up, u3, true_and, and_true, false_and, and_false, if_true, if_false] <;> (repeat' split) <;> first | exact g0 | rfl | (exfalso; omega) | (exfalso; have e9 : i1 = i := (by omega); subst e9; omega) | (exfalso; simp_all; done),
    fun p1 hp1 k1 hk1 => by
      have g0 := hI.2.2.2.2.2.2.2.1 p1 hp1 k1 hk1
      simp only [mm_up, u3, true_and, and_true, false_and, and_false, if_true, if_false] <;> (repeat' split) <;> first | exact g0 | rfl | (exfalso; omega) | (exfalso; have e9 : i1 = i := (by omega); subst e9; omega) | (exfalso; simp_all; done),
    fun p1 hp1 k1 hk1 => by
      have g0 := hI.2.2.2.2.2.2.2.2.1 p1 hp1 k1 hk1
      simp only [mm_up, u3, true_and, and_true, false_and, and_false, if_true, if_false] <;> (repeat' split) <;> first | exact g0 | rfl | (exfalso; omega) | (exfalso; have e9 : i1 = i := (by omega); subst e9; omega) | (exfalso; simp_all; done),
    fun p1 hp1 k1 hk1 => by
      have g0 := hI.2.2.2.2.2.2.2.2.2.1 p1 hp1 k1 hk1
      simp only [mm_up, u3, true_and, and_true, false_and, and_false, if_true, if_false] <;> (repeat' split) <;> first | exact g0 | rfl | (exfalso; omega) | (exfalso; have e9 : i1 = i := (by omega); subst e9; omega) | (exfalso; simp_all; done),
    fun p1 hp1 k1 hk1 => by
      have g0 := hI.2.2.2.2.2.2.2.2.2.2.1 p1 hp1 k1 hk1
      simp only [mm_up, u3, true_and, and_true, false_and, and_false, if_true, if_false] <;> (repeat' split) <;> first | exact g0 | rfl | (exfalso; omega) | (exfalso; have e9 : i1 = i := (by omega); subst e9; omega) | (exfalso; simp_all; done),
    fun t1 ht1 => by
      have g0 := hI.2.2.2.2.2.2.2.2.2.2.2.1 t1 ht1
      simp only [mm_up, u3, true_and, and_true, false_and, and_false, if_true, if_false] <;> (repeat' split) <;> first | exact g0 | rfl | (exfalso; omega) | (exfalso; have e9 : i1 = i := (by omega); subst e9; omega) | (exfalso; simp_all; done),
    fun t1 ht1 => by
      have g0 := hI.2.2.2.2.2.2.2.2.2.2.2.2.1 t1 ht1
      simp only [mm_up, u3, true_and, and_true, false_and, and_false, if_true, if_false] <;> (repeat' split) <;> first | exact g0 | rfl | (exfalso; omega) | (exfalso; have e9 : i1 = i := (by omega); subst e9; omega) | (exfalso; simp_all; done),
    fun t1 ht1 k1 hk1 => by
      have g0 := hI.2.2.2.2.2.2.2.2.2.2.2.2.2.1 t1 ht1 k1 hk1
      simp only [mm_up, u3, true_and, and_true, false_and, and_false, if_true, if_false] <;> (repeat' split) <;> first | exact g0 | rfl | (exfalso; omega) | (exfalso; have e9 : i1 = i := (by omega); subst e9; omega) | (exfalso; simp_all; done),
    fun t1 ht1 => by
      have g0 := hI.2.2.2.2.2.2.2.2.2.2.2.2.2.2.1 t1 ht1
      simp only [mm_up, u3, true_and, and_true, false_and, and_false, if_true, if_false] <;> (repeat' split) <;> first | exact g0 | rfl | (exfalso; omega) | (exfalso; have e9 : i1 = i := (by omega); subst e9; omega) | (exfalso; simp_all; done),
    fun t1 ht1 => by
      have g0 := hI.2.2.2.2.2.2.2.2.2.2.2.2.2.2.2.1 t1 ht1
      simp only [mm_up, u3, true_and, and_true, false_and, and_false, if_true, if_false] <;> (repeat' split) <;> first | exact g0 | rfl | (exfalso; omega) | (exfalso; have e9 : i1 = i := (by omega); subst e9; omega) | (exfalso; simp_all; done),
    fun t1 ht1 => by
      have g0 := hI.2.2.2.2.2.2.2.2.2.2.2.2.2.2.2.2.1 t1 ht1
      simp only [mm_up, u3, true_and, and_true, false_and, and_false, if_true, if_false] <;> (repeat' split) <;> first | exact g0 | rfl | (exfalso; omega) | (exfalso; have e9 : i1 = i := (by omega); subst e9; omega) | (exfalso; simp_all; done),
    fun t1 ht1 => by
      have g0 := hI.2.2.2.2.2.2.2.2.2.2.2.2.2.2.2.2.2.1 t1 ht1
      simp only [mm_up, u3, true_and, and_true, false_and, and_false, if_true, if_false] <;> (repeat' split) <;> first | exact g0 | rfl | (exfalso; omega) | (exfalso; have e9 : i1 = i := (by omega); subst e9; omega) | (exfalso; simp_all; done),
    fun t1 ht1 => by
      have g0 := hI.2.2.2.2.2.2.2.2.2.2.2.2.2.2.2.2.2.2.1 t1 ht1
      simp only [mm_up, u3, true_and, and_true, false_and, and_false, if_true, if_false] <;> (repeat' split) <;> first | exact g0 | rfl | (exfalso; omega) | (exfalso; have e9 : i1 = i := (by omega); subst e9; omega) | (exfalso; simp_all; done),
    fun t1 ht1 => by
      have g0 := hI.2.2.2.2.2.2.2.2.2.2.2.2.2.2.2.2.2.2.2.1 t1 ht1
      simp only [mm_up, u3, true_and, and_true, false_and, and_false, if_true, if_false] <;> (repeat' split) <;> first | exact g0 | rfl | (exfalso; omega) | (exfalso; have e9 : i1 = i := (by omega); subst e9; omega) | (exfalso; simp_all; done),
    by
      have g0 := hI.2.2.2.2.2.2.2.2.2.2.2.2.2.2.2.2.2.2.2.2.1
      simp only [mm_up, u3, true_and, and_true, false_and, and_false, if_true, if_false] <;> (repeat' split) <;> first | exact g0 | rfl | (exfalso; omega) | (exfalso; have e9 : i1 = i := (by omega); subst e9; omega) | (exfalso; simp_all; done),
    by
      have g0 := hI.2.2.2.2.2.2.2.2.2.2.2.2.2.2.2.2.2.2.2.2.2.1
      simp only [mm_up, u3, true_and, and_true, false_and, and_false, if_true, if_false] <;> (repeat' split) <;> first | exact g0 | rfl | (exfalso; omega) | (exfalso; have e9 : i1 = i := (by omega); subst e9; omega) | (exfalso; simp_all; done),
    fun i1 hi1 => by
      have g0 := hI.2.2.2.2.2.2.2.2.2.2.2.2.2.2.2.2.2.2.2.2.2.2.1 i1 hi1
      simp only [mm_up, u3, true_and, and_true, false_and, and_false, if_true, if_false] <;> (repeat' split) <;> first | exact g0 | rfl | (exfalso; omega) | (exfalso; have e9 : i1 = i := (by omega); subst e9; omega) | (exfalso; simp_all; done),
    fun i1 hi1 => by
      have g0 := hI.2.2.2.2.2.2.2.2.2.2.2.2.2.2.2.2.2.2.2.2.2.2.2.1 i1 hi1
      simp only [mm_up, u3, true_and, and_true, false_and, and_false, if_true, if_false] <;> (repeat' split) <;> first | exact g0 | rfl | (exfalso; omega) | (exfalso; have e9 : i1 = i := (by omega); subst e9; omega) | (exfalso; simp_all; done),
    fun i1 hi1 => by
      have g0 := hI.2.2.2.2.2.2.2.2.2.2.2.2.2.2.2.2.2.2.2.2.2.2.2.2.1 i1 hi1
      simp only [mm_up, u3, true_and, and_true, false_and, and_false, if_true, if_false] <;> (repeat' split) <;> first | exact g0 | rfl | (exfalso; omega) | (exfalso; have e9 : i1 = i := (by omega); subst e9; omega) | (exfalso; simp_all; done),
    fun i1 hi1 => by
      have g0 := hI.2.2.2.2.2.2.2.2.2.2.2.2.2.2.2.2.2.2.2.2.2.2.2.2.2.1 i1 hi1
      simp only [mm_up, u3, true_and, and_true, false_and, and_false, if_true, if_false] <;> (repeat' split) <;> first | exact g0 | rfl | (exfalso; omega) | (exfalso; have e9 : i1 = i := (by omega); subst e9; omega) | (exfalso; simp_all; done),
    fun i1 hi1 => by
      have g0 := hI.2.2.2.2.2.2.2.2.2.2.2.2.2.2.2.2.2.2.2.2.2.2.2.2.2.2.1 i1 hi1
      simp only [mm_up, u3, true_and, and_true, false_and, and_false, if_true, if_false] <;> (repeat' split) <;> first | exact g0 | rfl | (exfalso; omega) | (exfalso; have e9 : i1 = i := (by omega); subst e9; omega) | (exfalso; simp_all; done),
    fun i1 hi1 => by
      have g0 := hI.2.2.2.2.2.2.2.2.2.2.2.2.2.2.2.2.2.2.2.2.2.2.2.2.2.2.2.1 i1 hi1
      simp only [mm_up, u3, true_and, and_true, false_and, and_false, if_true, if_false] <;> (repeat' split) <;> first | exact g0 | rfl | (exfalso; omega) | (exfalso; have e9 : i1 = i := (by omega); subst e9; omega) | (exfalso; simp_all; done),
    fun i1 hi1 => by
      have g0 := hI.2.2.2.2.2.2.2.2.2.2.2.2.2.2.2.2.2.2.2.2.2.2.2.2.2.2.2.2.1 i1 hi1
      simp only [mm_up, u3, true_and, and_true, false_and, and_false, if_true, if_false] <;> (repeat' split) <;> first | exact g0 | rfl | (exfalso; omega) | (exfalso; have e9 : i1 = i := (by omega); subst e9; omega) | (exfalso; simp_all; done),
    fun i1 hi1 => by
      have g0 := hI.2.2.2.2.2.2.2.2.2.2.2.2.2.2.2.2.2.2.2.2.2.2.2.2.2.2.2.2.2.1 i1 hi1
      simp only [mm_up, u3, true_and, and_true, false_and, and_false, if_true, if_false] <;> (repeat' split) <;> first | exact g0 | rfl | (exfalso; omega) | (exfalso; have e9 : i1 = i := (by omega); subst e9; omega) | (exfalso; simp_all; done),
    fun i1 hi1 => by
      have g0 := hI.2.2.2.2.2.2.2.2.2.2.2.2.2.2.2.2.2.2.2.2.2.2.2.2.2.2.2.2.2.2 i1 hi1
      simp only [mm_up, u3, true_and, and_true, false_and, and_false, if_true, if_false] <;> (repeat' split) <;> first | exact g0 | rfl | (exfalso; omega) | (exfalso; have e9 : i1 = i := (by omega); subst e9; omega) | (exfalso; simp_all; done)⟩,
   ⟨fun t1 ht1 k1 hk1 => by
      have g0 := hX.1 t1 ht1 k1 hk1
      simp only [u3, true_and, and_true, false_and, and_false, if_true, if_false] <;> (repeat' split) <;> first | exact g0 | exact hv | (exfalso; omega) | (exfalso; have e9 : i1 = i := (by omega); subst e9; omega) | (exfalso; simp_all; done),
    fun i1 hi1 k1 hk1 e0 => by
      have z1 := isr i1 hi1; have g0 := hX.2.1 i1 hi1 k1 hk1 e0
      simp only [u3, true_and, and_true, false_and, and_false, if_true, if_false] <;> (repeat' split) <;> first | exact g0 | exact hv | (exfalso; omega) | (exfalso; have e9 : i1 = i := (by omega); subst e9; omega) | (exfalso; simp_all; done),
    fun i1 hi1 => by
      have g0 := hX.2.2.1 i1 hi1
      simp only [u3, true_and, and_true, false_and, and_false, if_true, if_false] <;> (repeat' split) <;> first | exact g0 | exact hv | (exfalso; omega) | (exfalso; have e9 : i1 = i := (by omega); subst e9; omega) | (exfalso; simp_all; done),
    fun i1 hi1 => by
      have g0 := hX.2.2.2.1 i1 hi1
      simp only [u3, true_and, and_true, false_and, and_false, if_true, if_false] <;> (repeat' split) <;> first | exact g0 | exact hv | (exfalso; omega) | (exfalso; have e9 : i1 = i := (by omega); subst e9; omega) | (exfalso; simp_all; done),
    fun i1 hi1 => by
      have g0 := hX.2.2.2.2.1 i1 hi1
      simp only [u3, true_and, and_true, false_and, and_false, if_true, if_false] <;> (repeat' split) <;> first | exact g0 | exact hv | (exfalso; omega) | (exfalso; have e9 : i1 = i := (by omega); subst e9; omega) | (exfalso; simp_all; done),
    hX.2.2.2.2.2.1,
    hX.2.2.2.2.2.2.1,
    hX.2.2.2.2.2.2.2.1,
    hX.2.2.2.2.2.2.2.2.1,
    hX.2.2.2.2.2.2.2.2.2.1,
    hX.2.2.2.2.2.2.2.2.2.2.1,
    hX.2.2.2.2.2.2.2.2.2.2.2.1,
    hX.2.2.2.2.2.2.2.2.2.2.2.2⟩,
   hN,
   hS⟩
theorem MU_own {ci : Nat → Nat → Nat → Int32} {cn : Nat → Nat → Nat → Nat} {co : Nat → Option Nat} {xj : Nat → Nat → Nat → Int64} {xd : Nat → Nat → Nat → UInt64} {xf : Nat → Nat → Nat → UInt32} {xo : Nat → Nat → Nat → Option Nat} {xi : Nat → Nat → Nat → Int32} {xn : Nat → Nat → Nat → Nat} {I : Nat → Nat → Int32} {J : Nat → Nat → Int64} {D : Nat → Nat → UInt64} (h : RM ci cn co xj xd xf xo xi xn I J D) {i : Nat} (hi : i < xn 2 0 0) {v : Option Nat}  {j : Nat} {z : Int32} (hj : j = i) (hz : z = eI v) (isr : ∀ i, i < xn 2 0 0 → xn 1 i 0 ≤ 12) : RM ci cn co xj xd xf (u3 xo 4 i 0 v) xi xn (mm_up I (18) j z) J D := by
  subst hj; subst hz
  obtain ⟨hJ, hD, hI⟩ := h
  exact ⟨⟨hJ.1,
    hJ.2.1,
    fun i1 hi1 k1 hk1 e0 => by
      have z1 := isr i1 hi1; have g0 := hJ.2.2.1 i1 hi1 k1 hk1 e0
      simp only [mm_up, u3, true_and, and_true, false_and, and_false, if_true, if_false] <;> (repeat' split) <;> first | exact g0 | rfl | (exfalso; omega) | (exfalso; have e9 : i1 = i := (by omega); subst e9; omega) | (exfalso; simp_all; done),
    hJ.2.2.2⟩,
   hD,
   ⟨by
      have g0 := hI.1
      simp only [mm_up, u3, true_and, and_true, false_and, and_false, if_true, if_false] <;> (repeat' split) <;> first | exact g0 | rfl | (exfalso; omega) | (exfalso; have e9 : i1 = i := (by omega); subst e9; omega) | (exfalso; simp_all; done),
    by
      have g0 := hI.2.1
      simp only [mm_up, u3, true_and, and_true, false_and, and_false, if_true, if_false] <;> (repeat' split) <;> first | exact g0 | rfl | (exfalso; omega) | (exfalso; have e9 : i1 = i := (by omega); subst e9; omega) | (exfalso; simp_all; done),
    fun i1 hi1 => by
      have g0 := hI.2.2.1 i1 hi1
      simp only [mm_up, u3, true_and, and_true, false_and, and_false, if_true, if_false] <;> (repeat' split) <;> first | exact g0 | rfl | (exfalso; omega) | (exfalso; have e9 : i1 = i := (by omega); subst e9; omega) | (exfalso; simp_all; done),
    fun i1 hi1 => by
      have g0 := hI.2.2.2.1 i1 hi1
      simp only [mm_up, u3, true_and, and_true, false_and, and_false, if_true, if_false] <;> (repeat' split) <;> first | exact g0 | rfl | (exfalso; omega) | (exfalso; have e9 : i1 = i := (by omega); subst e9; omega) | (exfalso; simp_all; done),
    fun i1 hi1 => by
      have g0 := hI.2.2.2.2.1 i1 hi1
      simp only [mm_up, u3, true_and, and_true, false_and, and_false, if_true, if_false] <;> (repeat' split) <;> first | exact g0 | rfl | (exfalso; omega) | (exfalso; have e9 : i1 = i := (by omega); subst e9; omega) | (exfalso; simp_all; done),
    fun i1 hi1 => by
      have g0 := hI.2.2.2.2.2.1 i1 hi1
      simp only [mm_up, u3, true_and, and_true, false_and, and_false, if_true, if_false] <;> (repeat' split) <;> first | exact g0 | rfl | (exfalso; omega) | (exfalso; have e9 : i1 = i := (by omega); subst e9; omega) | (exfalso; simp_all; done),
    fun i1 hi1 => by
      have g0 := hI.2.2.2.2.2.2.1 i1 hi1
      simp only [mm_up, u3, true_and, and_true, false_and, and_false, if_true, if_false] <;> (repeat' split) <;> first | exact g0 | rfl | (exfalso; omega) | (exfalso; have e9 : i1 = i := (by omega); subst e9; omega) | (exfalso; simp_all; done),
    fun i1 hi1 k1 hk1 => by
      have g0 := hI.2.2.2.2.2.2.2.1 i1 hi1 k1 hk1
      simp only [mm_up, u3, true_and, and_true, false_and, and_false, if_true, if_false] <;> (repeat' split) <;> first | exact g0 | rfl | (exfalso; omega) | (exfalso; have e9 : i1 = i := (by omega); subst e9; omega) | (exfalso; simp_all; done),
    fun i1 hi1 => by
      have g0 := hI.2.2.2.2.2.2.2.2.1 i1 hi1
      simp only [mm_up, u3, true_and, and_true, false_and, and_false, if_true, if_false] <;> (repeat' split) <;> first | exact g0 | rfl | (exfalso; omega) | (exfalso; have e9 : i1 = i := (by omega); subst e9; omega) | (exfalso; simp_all; done),
    fun i1 hi1 => by
      have g0 := hI.2.2.2.2.2.2.2.2.2.1 i1 hi1
      simp only [mm_up, u3, true_and, and_true, false_and, and_false, if_true, if_false] <;> (repeat' split) <;> first | exact g0 | rfl | (exfalso; omega) | (exfalso; have e9 : i1 = i := (by omega); subst e9; omega) | (exfalso; simp_all; done),
    fun p1 hp1 => by
      have g0 := hI.2.2.2.2.2.2.2.2.2.2.1 p1 hp1
      simp only [mm_up, u3, true_and, and_true, false_and, and_false, if_true, if_false] <;> (repeat' split) <;> first | exact g0 | rfl | (exfalso; omega) | (exfalso; have e9 : i1 = i := (by omega); subst e9; omega) | (exfalso; simp_all; done),
    fun p1 hp1 k1 hk1 => by
      have g0 := hI.2.2.2.2.2.2.2.2.2.2.2.1 p1 hp1 k1 hk1
      simp only [mm_up, u3, true_and, and_true, false_and, and_false, if_true, if_false] <;> (repeat' split) <;> first | exact g0 | rfl | (exfalso; omega) | (exfalso; have e9 : i1 = i := (by omega); subst e9; omega) | (exfalso; simp_all; done),
    fun p1 hp1 k1 hk1 => by
      have g0 := hI.2.2.2.2.2.2.2.2.2.2.2.2.1 p1 hp1 k1 hk1
      simp only [mm_up, u3, true_and, and_true, false_and, and_false, if_true, if_false] <;> (repeat' split) <;> first | exact g0 | rfl | (exfalso; omega) | (exfalso; have e9 : i1 = i := (by omega); subst e9; omega) | (exfalso; simp_all; done),
    fun p1 hp1 k1 hk1 => by
      have g0 := hI.2.2.2.2.2.2.2.2.2.2.2.2.2.1 p1 hp1 k1 hk1
      simp only [mm_up, u3, true_and, and_true, false_and, and_false, if_true, if_false] <;> (repeat' split) <;> first | exact g0 | rfl | (exfalso; omega) | (exfalso; have e9 : i1 = i := (by omega); subst e9; omega) | (exfalso; simp_all; done),
    fun p1 hp1 k1 hk1 => by
      have g0 := hI.2.2.2.2.2.2.2.2.2.2.2.2.2.2.1 p1 hp1 k1 hk1
      simp only [mm_up, u3, true_and, and_true, false_and, and_false, if_true, if_false] <;> (repeat' split) <;> first | exact g0 | rfl | (exfalso; omega) | (exfalso; have e9 : i1 = i := (by omega); subst e9; omega) | (exfalso; simp_all; done),
    fun p1 hp1 => by
      have g0 := hI.2.2.2.2.2.2.2.2.2.2.2.2.2.2.2.1 p1 hp1
      simp only [mm_up, u3, true_and, and_true, false_and, and_false, if_true, if_false] <;> (repeat' split) <;> first | exact g0 | rfl | (exfalso; omega) | (exfalso; have e9 : i1 = i := (by omega); subst e9; omega) | (exfalso; simp_all; done),
    fun p1 hp1 k1 hk1 => by
      have g0 := hI.2.2.2.2.2.2.2.2.2.2.2.2.2.2.2.2.1 p1 hp1 k1 hk1
      simp only [mm_up, u3, true_and, and_true, false_and, and_false, if_true, if_false] <;> (repeat' split) <;> first | exact g0 | rfl | (exfalso; omega) | (exfalso; have e9 : i1 = i := (by omega); subst e9; omega) | (exfalso; simp_all; done),
    fun p1 hp1 k1 hk1 => by
      have g0 := hI.2.2.2.2.2.2.2.2.2.2.2.2.2.2.2.2.2.1 p1 hp1 k1 hk1
      simp only [mm_up, u3, true_and, and_true, false_and, and_false, if_true, if_false] <;> (repeat' split) <;> first | exact g0 | rfl | (exfalso; omega) | (exfalso; have e9 : i1 = i := (by omega); subst e9; omega) | (exfalso; simp_all; done),
    fun p1 hp1 k1 hk1 => by
      have g0 := hI.2.2.2.2.2.2.2.2.2.2.2.2.2.2.2.2.2.2.1 p1 hp1 k1 hk1
      simp only [mm_up, u3, true_and, and_true, false_and, and_false, if_true, if_false] <;> (repeat' split) <;> first | exact g0 | rfl | (exfalso; omega) | (exfalso; have e9 : i1 = i := (by omega); subst e9; omega) | (exfalso; simp_all; done),
    fun p1 hp1 k1 hk1 => by
      have g0 := hI.2.2.2.2.2.2.2.2.2.2.2.2.2.2.2.2.2.2.2.1 p1 hp1 k1 hk1
      simp only [mm_up, u3, true_and, and_true, false_and, and_false, if_true, if_false] <;> (repeat' split) <;> first | exact g0 | rfl | (exfalso; omega) | (exfalso; have e9 : i1 = i := (by omega); subst e9; omega) | (exfalso; simp_all; done),
    fun t1 ht1 k1 hk1 => by
      have g0 := hI.2.2.2.2.2.2.2.2.2.2.2.2.2.2.2.2.2.2.2.2.1 t1 ht1 k1 hk1
      simp only [mm_up, u3, true_and, and_true, false_and, and_false, if_true, if_false] <;> (repeat' split) <;> first | exact g0 | rfl | (exfalso; omega) | (exfalso; have e9 : i1 = i := (by omega); subst e9; omega) | (exfalso; simp_all; done),
    fun t1 ht1 => by
      have g0 := hI.2.2.2.2.2.2.2.2.2.2.2.2.2.2.2.2.2.2.2.2.2.1 t1 ht1
      simp only [mm_up, u3, true_and, and_true, false_and, and_false, if_true, if_false] <;> (repeat' split) <;> first | exact g0 | rfl | (exfalso; omega) | (exfalso; have e9 : i1 = i := (by omega); subst e9; omega) | (exfalso; simp_all; done),
    fun t1 ht1 => by
      have g0 := hI.2.2.2.2.2.2.2.2.2.2.2.2.2.2.2.2.2.2.2.2.2.2.1 t1 ht1
      simp only [mm_up, u3, true_and, and_true, false_and, and_false, if_true, if_false] <;> (repeat' split) <;> first | exact g0 | rfl | (exfalso; omega) | (exfalso; have e9 : i1 = i := (by omega); subst e9; omega) | (exfalso; simp_all; done),
    fun t1 ht1 k1 hk1 => by
      have g0 := hI.2.2.2.2.2.2.2.2.2.2.2.2.2.2.2.2.2.2.2.2.2.2.2.1 t1 ht1 k1 hk1
      simp only [mm_up, u3, true_and, and_true, false_and, and_false, if_true, if_false] <;> (repeat' split) <;> first | exact g0 | rfl | (exfalso; omega) | (exfalso; have e9 : i1 = i := (by omega); subst e9; omega) | (exfalso; simp_all; done),
    fun t1 ht1 k1 hk1 => by
      have g0 := hI.2.2.2.2.2.2.2.2.2.2.2.2.2.2.2.2.2.2.2.2.2.2.2.2.1 t1 ht1 k1 hk1
      simp only [mm_up, u3, true_and, and_true, false_and, and_false, if_true, if_false] <;> (repeat' split) <;> first | exact g0 | rfl | (exfalso; omega) | (exfalso; have e9 : i1 = i := (by omega); subst e9; omega) | (exfalso; simp_all; done),
    fun t1 ht1 => by
      have g0 := hI.2.2.2.2.2.2.2.2.2.2.2.2.2.2.2.2.2.2.2.2.2.2.2.2.2.1 t1 ht1
      simp only [mm_up, u3, true_and, and_true, false_and, and_false, if_true, if_false] <;> (repeat' split) <;> first | exact g0 | rfl | (exfalso; omega) | (exfalso; have e9 : i1 = i := (by omega); subst e9; omega) | (exfalso; simp_all; done),
    fun t1 ht1 => by
      have g0 := hI.2.2.2.2.2.2.2.2.2.2.2.2.2.2.2.2.2.2.2.2.2.2.2.2.2.2.1 t1 ht1
      simp only [mm_up, u3, true_and, and_true, false_and, and_false, if_true, if_false] <;> (repeat' split) <;> first | exact g0 | rfl | (exfalso; omega) | (exfalso; have e9 : i1 = i := (by omega); subst e9; omega) | (exfalso; simp_all; done),
    fun t1 ht1 => by
      have g0 := hI.2.2.2.2.2.2.2.2.2.2.2.2.2.2.2.2.2.2.2.2.2.2.2.2.2.2.2.1 t1 ht1
      simp only [mm_up, u3, true_and, and_true, false_and, and_false, if_true, if_false] <;> (repeat' split) <;> first | exact g0 | rfl | (exfalso; omega) | (exfalso; have e9 : i1 = i := (by omega); subst e9; omega) | (exfalso; simp_all; done),
    fun t1 ht1 => by
      have g0 := hI.2.2.2.2.2.2.2.2.2.2.2.2.2.2.2.2.2.2.2.2.2.2.2.2.2.2.2.2.1 t1 ht1
      simp only [mm_up, u3, true_and, and_true, false_and, and_false, if_true, if_false] <;> (repeat' split) <;> first | exact g0 | rfl | (exfalso; omega) | (exfalso; have e9 : i1 = i := (by omega); subst e9; omega) | (exfalso; simp_all; done),
    fun t1 ht1 => by
      have g0 := hI.2.2.2.2.2.2.2.2.2.2.2.2.2.2.2.2.2.2.2.2.2.2.2.2.2.2.2.2.2.1 t1 ht1
      simp only [mm_up, u3, true_and, and_true, false_and, and_false, if_true, if_false] <;> (repeat' split) <;> first | exact g0 | rfl | (exfalso; omega) | (exfalso; have e9 : i1 = i := (by omega); subst e9; omega) | (exfalso; simp_all; done),
    fun t1 ht1 => by
      have g0 := hI.2.2.2.2.2.2.2.2.2.2.2.2.2.2.2.2.2.2.2.2.2.2.2.2.2.2.2.2.2.2 t1 ht1
      simp only [mm_up, u3, true_and, and_true, false_and, and_false, if_true, if_false] <;> (repeat' split) <;> first | exact g0 | rfl | (exfalso; omega) | (exfalso; have e9 : i1 = i := (by omega); subst e9; omega) | (exfalso; simp_all; done)⟩⟩
theorem CU_tim {ci : Nat → Nat → Nat → Int32} {cn : Nat → Nat → Nat → Nat} {co : Nat → Option Nat} {xj : Nat → Nat → Nat → Int64} {xd : Nat → Nat → Nat → UInt64} {xf : Nat → Nat → Nat → UInt32} {xo : Nat → Nat → Nat → Option Nat} {xi : Nat → Nat → Nat → Int32} {xn : Nat → Nat → Nat → Nat} {I : Nat → Nat → Int32} {J : Nat → Nat → Int64} {F : Nat → Nat → UInt32} {D : Nat → Nat → UInt64} {R : Nat → Nat → Option Nat} {nx sl : Nat} (h : RC ci cn co xj xd xf xo xi xn I J F D R nx sl) {i : Nat} (hi : i < xn 2 0 0) {v : Int32}  {j : Nat} {z : Int32} (hj : j = 4) (hz : z = v) : RC ci cn co xj xd xf xo (u3 xi 0 i 0 v) xn (mm_up I (94 + 4 * i) j z) J F D R nx sl := by
  subst hj; subst hz
  have isr := fun i hi => (rc_isor h (i := i) hi).2.2.1
  obtain ⟨hJ, hD, hF, hR, hI, hX, hN, hS⟩ := h
  exact ⟨hJ,
   hD,
   hF,
   hR,
   ⟨fun p1 hp1 => by
      have g0 := hI.1 p1 hp1
      simp only [mm_up, u3, true_and, and_true, false_and, and_false, if_true, if_false] <;> (repeat' split) <;> first | exact g0 | rfl | (exfalso; omega) | (exfalso; have e9 : i1 = i := (by omega); subst e9; omega) | (exfalso; simp_all; done),
    fun p1 hp1 => by
      have g0 := hI.2.1 p1 hp1
      simp only [mm_up, u3, true_and, and_true, false_and, and_false, if_true, if_false] <;> (repeat' split) <;> first | exact g0 | rfl | (exfalso; omega) | (exfalso; have e9 : i1 = i := (by omega); subst e9; omega) | (exfalso; simp_all; done),
    fun p1 hp1 => by
      have g0 := hI.2.2.1 p1 hp1
      simp only [mm_up, u3, true_and, and_true, false_and, and_false, if_true, if_false] <;> (repeat' split) <;> first | exact g0 | rfl | (exfalso; omega) | (exfalso; have e9 : i1 = i := (by omega); subst e9; omega) | (exfalso; simp_all; done),
    fun p1 hp1 k1 hk1 => by
      have g0 := hI.2.2.2.1 p1 hp1 k1 hk1
      simp only [mm_up, u3, true_and, and_true, false_and, and_false, if_true, if_false] <;> (repeat' split) <;> first | exact g0 | rfl | (exfalso; omega) | (exfalso; have e9 : i1 = i := (by omega); subst e9; omega) | (exfalso; simp_all; done),
    fun p1 hp1 k1 hk1 => by
      have g0 := hI.2.2.2.2.1 p1 hp1 k1 hk1
      simp only [mm_up, u3, true_and, and_true, false_and, and_false, if_true, if_false] <;> (repeat' split) <;> first | exact g0 | rfl | (exfalso; omega) | (exfalso; have e9 : i1 = i := (by omega); subst e9; omega) | (exfalso; simp_all; done),
    fun p1 hp1 k1 hk1 => by
      have g0 := hI.2.2.2.2.2.1 p1 hp1 k1 hk1
      simp only [mm_up, u3, true_and, and_true, false_and, and_false, if_true, if_false] <;> (repeat' split) <;> first | exact g0 | rfl | (exfalso; omega) | (exfalso; have e9 : i1 = i := (by omega); subst e9; omega) | (exfalso; simp_all; done),
    fun p1 hp1 k1 hk1 => by
      have g0 := hI.2.2.2.2.2.2.1 p1 hp1 k1 hk1
      simp only [mm_up, u3, true_and, and_true, false_and, and_false, if_true, if_false] <;> (repeat' split) <;> first | exact g0 | rfl | (exfalso; omega) | (exfalso; have e9 : i1 = i := (by omega); subst e9; omega) | (exfalso; simp_all; done),
    fun p1 hp1 k1 hk1 => by
      have g0 := hI.2.2.2.2.2.2.2.1 p1 hp1 k1 hk1
      simp only [mm_up, u3, true_and, and_true, false_and, and_false, if_true, if_false] <;> (repeat' split) <;> first | exact g0 | rfl | (exfalso; omega) | (exfalso; have e9 : i1 = i := (by omega); subst e9; omega) | (exfalso; simp_all; done),
    fun p1 hp1 k1 hk1 => by
      have g0 := hI.2.2.2.2.2.2.2.2.1 p1 hp1 k1 hk1
      simp only [mm_up, u3, true_and, and_true, false_and, and_false, if_true, if_false] <;> (repeat' split) <;> first | exact g0 | rfl | (exfalso; omega) | (exfalso; have e9 : i1 = i := (by omega); subst e9; omega) | (exfalso; simp_all; done),
    fun p1 hp1 k1 hk1 => by
      have g0 := hI.2.2.2.2.2.2.2.2.2.1 p1 hp1 k1 hk1
      simp only [mm_up, u3, true_and, and_true, false_and, and_false, if_true, if_false] <;> (repeat' split) <;> first | exact g0 | rfl | (exfalso; omega) | (exfalso; have e9 : i1 = i := (by omega); subst e9; omega) | (exfalso; simp_all; done),
    fun p1 hp1 k1 hk1 => by
      have g0 := hI.2.2.2.2.2.2.2.2.2.2.1 p1 hp1 k1 hk1
      simp only [mm_up, u3, true_and, and_true, false_and, and_false, if_true, if_false] <;> (repeat' split) <;> first | exact g0 | rfl | (exfalso; omega) | (exfalso; have e9 : i1 = i := (by omega); subst e9; omega) | (exfalso; simp_all; done),
    fun t1 ht1 => by
      have g0 := hI.2.2.2.2.2.2.2.2.2.2.2.1 t1 ht1
      simp only [mm_up, u3, true_and, and_true, false_and, and_false, if_true, if_false] <;> (repeat' split) <;> first | exact g0 | rfl | (exfalso; omega) | (exfalso; have e9 : i1 = i := (by omega); subst e9; omega) | (exfalso; simp_all; done),
    fun t1 ht1 => by
      have g0 := hI.2.2.2.2.2.2.2.2.2.2.2.2.1 t1 ht1
      simp only [mm_up, u3, true_and, and_true, false_and, and_false, if_true, if_false] <;> (repeat' split) <;> first | exact g0 | rfl | (exfalso; omega) | (exfalso; have e9 : i1 = i := (by omega); subst e9; omega) | (exfalso; simp_all; done),
    fun t1 ht1 k1 hk1 => by
      have g0 := hI.2.2.2.2.2.2.2.2.2.2.2.2.2.1 t1 ht1 k1 hk1
      simp only [mm_up, u3, true_and, and_true, false_and, and_false, if_true, if_false] <;> (repeat' split) <;> first | exact g0 | rfl | (exfalso; omega) | (exfalso; have e9 : i1 = i := (by omega); subst e9; omega) | (exfalso; simp_all; done),
    fun t1 ht1 => by
      have g0 := hI.2.2.2.2.2.2.2.2.2.2.2.2.2.2.1 t1 ht1
      simp only [mm_up, u3, true_and, and_true, false_and, and_false, if_true, if_false] <;> (repeat' split) <;> first | exact g0 | rfl | (exfalso; omega) | (exfalso; have e9 : i1 = i := (by omega); subst e9; omega) | (exfalso; simp_all; done),
    fun t1 ht1 => by
      have g0 := hI.2.2.2.2.2.2.2.2.2.2.2.2.2.2.2.1 t1 ht1
      simp only [mm_up, u3, true_and, and_true, false_and, and_false, if_true, if_false] <;> (repeat' split) <;> first | exact g0 | rfl | (exfalso; omega) | (exfalso; have e9 : i1 = i := (by omega); subst e9; omega) | (exfalso; simp_all; done),
    fun t1 ht1 => by
      have g0 := hI.2.2.2.2.2.2.2.2.2.2.2.2.2.2.2.2.1 t1 ht1
      simp only [mm_up, u3, true_and, and_true, false_and, and_false, if_true, if_false] <;> (repeat' split) <;> first | exact g0 | rfl | (exfalso; omega) | (exfalso; have e9 : i1 = i := (by omega); subst e9; omega) | (exfalso; simp_all; done),
    fun t1 ht1 => by
      have g0 := hI.2.2.2.2.2.2.2.2.2.2.2.2.2.2.2.2.2.1 t1 ht1
      simp only [mm_up, u3, true_and, and_true, false_and, and_false, if_true, if_false] <;> (repeat' split) <;> first | exact g0 | rfl | (exfalso; omega) | (exfalso; have e9 : i1 = i := (by omega); subst e9; omega) | (exfalso; simp_all; done),
    fun t1 ht1 => by
      have g0 := hI.2.2.2.2.2.2.2.2.2.2.2.2.2.2.2.2.2.2.1 t1 ht1
      simp only [mm_up, u3, true_and, and_true, false_and, and_false, if_true, if_false] <;> (repeat' split) <;> first | exact g0 | rfl | (exfalso; omega) | (exfalso; have e9 : i1 = i := (by omega); subst e9; omega) | (exfalso; simp_all; done),
    fun t1 ht1 => by
      have g0 := hI.2.2.2.2.2.2.2.2.2.2.2.2.2.2.2.2.2.2.2.1 t1 ht1
      simp only [mm_up, u3, true_and, and_true, false_and, and_false, if_true, if_false] <;> (repeat' split) <;> first | exact g0 | rfl | (exfalso; omega) | (exfalso; have e9 : i1 = i := (by omega); subst e9; omega) | (exfalso; simp_all; done),
    by
      have g0 := hI.2.2.2.2.2.2.2.2.2.2.2.2.2.2.2.2.2.2.2.2.1
      simp only [mm_up, u3, true_and, and_true, false_and, and_false, if_true, if_false] <;> (repeat' split) <;> first | exact g0 | rfl | (exfalso; omega) | (exfalso; have e9 : i1 = i := (by omega); subst e9; omega) | (exfalso; simp_all; done),
    by
      have g0 := hI.2.2.2.2.2.2.2.2.2.2.2.2.2.2.2.2.2.2.2.2.2.1
      simp only [mm_up, u3, true_and, and_true, false_and, and_false, if_true, if_false] <;> (repeat' split) <;> first | exact g0 | rfl | (exfalso; omega) | (exfalso; have e9 : i1 = i := (by omega); subst e9; omega) | (exfalso; simp_all; done),
    fun i1 hi1 => by
      have g0 := hI.2.2.2.2.2.2.2.2.2.2.2.2.2.2.2.2.2.2.2.2.2.2.1 i1 hi1
      simp only [mm_up, u3, true_and, and_true, false_and, and_false, if_true, if_false] <;> (repeat' split) <;> first | exact g0 | rfl | (exfalso; omega) | (exfalso; have e9 : i1 = i := (by omega); subst e9; omega) | (exfalso; simp_all; done),
    fun i1 hi1 => by
      have g0 := hI.2.2.2.2.2.2.2.2.2.2.2.2.2.2.2.2.2.2.2.2.2.2.2.1 i1 hi1
      simp only [mm_up, u3, true_and, and_true, false_and, and_false, if_true, if_false] <;> (repeat' split) <;> first | exact g0 | rfl | (exfalso; omega) | (exfalso; have e9 : i1 = i := (by omega); subst e9; omega) | (exfalso; simp_all; done),
    fun i1 hi1 => by
      have g0 := hI.2.2.2.2.2.2.2.2.2.2.2.2.2.2.2.2.2.2.2.2.2.2.2.2.1 i1 hi1
      simp only [mm_up, u3, true_and, and_true, false_and, and_false, if_true, if_false] <;> (repeat' split) <;> first | exact g0 | rfl | (exfalso; omega) | (exfalso; have e9 : i1 = i := (by omega); subst e9; omega) | (exfalso; simp_all; done),
    fun i1 hi1 => by
      have g0 := hI.2.2.2.2.2.2.2.2.2.2.2.2.2.2.2.2.2.2.2.2.2.2.2.2.2.1 i1 hi1
      simp only [mm_up, u3, true_and, and_true, false_and, and_false, if_true, if_false] <;> (repeat' split) <;> first | exact g0 | rfl | (exfalso; omega) | (exfalso; have e9 : i1 = i := (by omega); subst e9; omega) | (exfalso; simp_all; done),
    fun i1 hi1 => by
      have g0 := hI.2.2.2.2.2.2.2.2.2.2.2.2.2.2.2.2.2.2.2.2.2.2.2.2.2.2.1 i1 hi1
      simp only [mm_up, u3, true_and, and_true, false_and, and_false, if_true, if_false] <;> (repeat' split) <;> first | exact g0 | rfl | (exfalso; omega) | (exfalso; have e9 : i1 = i := (by omega); subst e9; omega) | (exfalso; simp_all; done),
    fun i1 hi1 => by
      have g0 := hI.2.2.2.2.2.2.2.2.2.2.2.2.2.2.2.2.2.2.2.2.2.2.2.2.2.2.2.1 i1 hi1
      simp only [mm_up, u3, true_and, and_true, false_and, and_false, if_true, if_false] <;> (repeat' split) <;> first | exact g0 | rfl | (exfalso; omega) | (exfalso; have e9 : i1 = i := (by omega); subst e9; omega) | (exfalso; simp_all; done),
    fun i1 hi1 => by
      have g0 := hI.2.2.2.2.2.2.2.2.2.2.2.2.2.2.2.2.2.2.2.2.2.2.2.2.2.2.2.2.1 i1 hi1
      simp only [mm_up, u3, true_and, and_true, false_and, and_false, if_true, if_false] <;> (repeat' split) <;> first | exact g0 | rfl | (exfalso; omega) | (exfalso; have e9 : i1 = i := (by omega); subst e9; omega) | (exfalso; simp_all; done),
    fun i1 hi1 => by
      have g0 := hI.2.2.2.2.2.2.2.2.2.2.2.2.2.2.2.2.2.2.2.2.2.2.2.2.2.2.2.2.2.1 i1 hi1
      simp only [mm_up, u3, true_and, and_true, false_and, and_false, if_true, if_false] <;> (repeat' split) <;> first | exact g0 | rfl | (exfalso; omega) | (exfalso; have e9 : i1 = i := (by omega); subst e9; omega) | (exfalso; simp_all; done),
    fun i1 hi1 => by
      have g0 := hI.2.2.2.2.2.2.2.2.2.2.2.2.2.2.2.2.2.2.2.2.2.2.2.2.2.2.2.2.2.2 i1 hi1
      simp only [mm_up, u3, true_and, and_true, false_and, and_false, if_true, if_false] <;> (repeat' split) <;> first | exact g0 | rfl | (exfalso; omega) | (exfalso; have e9 : i1 = i := (by omega); subst e9; omega) | (exfalso; simp_all; done)⟩,
   hX,
   hN,
   hS⟩
theorem MU_tim {ci : Nat → Nat → Nat → Int32} {cn : Nat → Nat → Nat → Nat} {co : Nat → Option Nat} {xj : Nat → Nat → Nat → Int64} {xd : Nat → Nat → Nat → UInt64} {xf : Nat → Nat → Nat → UInt32} {xo : Nat → Nat → Nat → Option Nat} {xi : Nat → Nat → Nat → Int32} {xn : Nat → Nat → Nat → Nat} {I : Nat → Nat → Int32} {J : Nat → Nat → Int64} {D : Nat → Nat → UInt64} (h : RM ci cn co xj xd xf xo xi xn I J D) {i : Nat} (hi : i < xn 2 0 0) {v : Int32}  {j : Nat} {z : Int32} (hj : j = i) (hz : z = v) (isr : ∀ i, i < xn 2 0 0 → xn 1 i 0 ≤ 12) : RM ci cn co xj xd xf xo (u3 xi 0 i 0 v) xn (mm_up I (19) j z) J D := by
  subst hj; subst hz
  obtain ⟨hJ, hD, hI⟩ := h
  exact ⟨hJ,
   hD,
   ⟨by
      have g0 := hI.1
      simp only [mm_up, u3, true_and, and_true, false_and, and_false, if_true, if_false] <;> (repeat' split) <;> first | exact g0 | rfl | (exfalso; omega) | (exfalso; have e9 : i1 = i := (by omega); subst e9; omega) | (exfalso; simp_all; done),
    by
      have g0 := hI.2.1
      simp only [mm_up, u3, true_and, and_true, false_and, and_false, if_true, if_false] <;> (repeat' split) <;> first | exact g0 | rfl | (exfalso; omega) | (exfalso; have e9 : i1 = i := (by omega); subst e9; omega) | (exfalso; simp_all; done),
    fun i1 hi1 => by
      have g0 := hI.2.2.1 i1 hi1
      simp only [mm_up, u3, true_and, and_true, false_and, and_false, if_true, if_false] <;> (repeat' split) <;> first | exact g0 | rfl | (exfalso; omega) | (exfalso; have e9 : i1 = i := (by omega); subst e9; omega) | (exfalso; simp_all; done),
    fun i1 hi1 => by
      have g0 := hI.2.2.2.1 i1 hi1
      simp only [mm_up, u3, true_and, and_true, false_and, and_false, if_true, if_false] <;> (repeat' split) <;> first | exact g0 | rfl | (exfalso; omega) | (exfalso; have e9 : i1 = i := (by omega); subst e9; omega) | (exfalso; simp_all; done),
    fun i1 hi1 => by
      have g0 := hI.2.2.2.2.1 i1 hi1
      simp only [mm_up, u3, true_and, and_true, false_and, and_false, if_true, if_false] <;> (repeat' split) <;> first | exact g0 | rfl | (exfalso; omega) | (exfalso; have e9 : i1 = i := (by omega); subst e9; omega) | (exfalso; simp_all; done),
    fun i1 hi1 => by
      have g0 := hI.2.2.2.2.2.1 i1 hi1
      simp only [mm_up, u3, true_and, and_true, false_and, and_false, if_true, if_false] <;> (repeat' split) <;> first | exact g0 | rfl | (exfalso; omega) | (exfalso; have e9 : i1 = i := (by omega); subst e9; omega) | (exfalso; simp_all; done),
    fun i1 hi1 => by
      have g0 := hI.2.2.2.2.2.2.1 i1 hi1
      simp only [mm_up, u3, true_and, and_true, false_and, and_false, if_true, if_false] <;> (repeat' split) <;> first | exact g0 | rfl | (exfalso; omega) | (exfalso; have e9 : i1 = i := (by omega); subst e9; omega) | (exfalso; simp_all; done),
    fun i1 hi1 k1 hk1 => by
      have g0 := hI.2.2.2.2.2.2.2.1 i1 hi1 k1 hk1
      simp only [mm_up, u3, true_and, and_true, false_and, and_false, if_true, if_false] <;> (repeat' split) <;> first | exact g0 | rfl | (exfalso; omega) | (exfalso; have e9 : i1 = i := (by omega); subst e9; omega) | (exfalso; simp_all; done),
    fun i1 hi1 => by
      have g0 := hI.2.2.2.2.2.2.2.2.1 i1 hi1
      simp only [mm_up, u3, true_and, and_true, false_and, and_false, if_true, if_false] <;> (repeat' split) <;> first | exact g0 | rfl | (exfalso; omega) | (exfalso; have e9 : i1 = i := (by omega); subst e9; omega) | (exfalso; simp_all; done),
    fun i1 hi1 => by
      have g0 := hI.2.2.2.2.2.2.2.2.2.1 i1 hi1
      simp only [mm_up, u3, true_and, and_true, false_and, and_false, if_true, if_false] <;> (repeat' split) <;> first | exact g0 | rfl | (exfalso; omega) | (exfalso; have e9 : i1 = i := (by omega); subst e9; omega) | (exfalso; simp_all; done),
    fun p1 hp1 => by
      have g0 := hI.2.2.2.2.2.2.2.2.2.2.1 p1 hp1
      simp only [mm_up, u3, true_and, and_true, false_and, and_false, if_true, if_false] <;> (repeat' split) <;> first | exact g0 | rfl | (exfalso; omega) | (exfalso; have e9 : i1 = i := (by omega); subst e9; omega) | (exfalso; simp_all; done),
    fun p1 hp1 k1 hk1 => by
      have g0 := hI.2.2.2.2.2.2.2.2.2.2.2.1 p1 hp1 k1 hk1
      simp only [mm_up, u3, true_and, and_true, false_and, and_false, if_true, if_false] <;> (repeat' split) <;> first | exact g0 | rfl | (exfalso; omega) | (exfalso; have e9 : i1 = i := (by omega); subst e9; omega) | (exfalso; simp_all; done),
    fun p1 hp1 k1 hk1 => by
      have g0 := hI.2.2.2.2.2.2.2.2.2.2.2.2.1 p1 hp1 k1 hk1
      simp only [mm_up, u3, true_and, and_true, false_and, and_false, if_true, if_false] <;> (repeat' split) <;> first | exact g0 | rfl | (exfalso; omega) | (exfalso; have e9 : i1 = i := (by omega); subst e9; omega) | (exfalso; simp_all; done),
    fun p1 hp1 k1 hk1 => by
      have g0 := hI.2.2.2.2.2.2.2.2.2.2.2.2.2.1 p1 hp1 k1 hk1
      simp only [mm_up, u3, true_and, and_true, false_and, and_false, if_true, if_false] <;> (repeat' split) <;> first | exact g0 | rfl | (exfalso; omega) | (exfalso; have e9 : i1 = i := (by omega); subst e9; omega) | (exfalso; simp_all; done),
    fun p1 hp1 k1 hk1 => by
      have g0 := hI.2.2.2.2.2.2.2.2.2.2.2.2.2.2.1 p1 hp1 k1 hk1
      simp only [mm_up, u3, true_and, and_true, false_and, and_false, if_true, if_false] <;> (repeat' split) <;> first | exact g0 | rfl | (exfalso; omega) | (exfalso; have e9 : i1 = i := (by omega); subst e9; omega) | (exfalso; simp_all; done),
    fun p1 hp1 => by
      have g0 := hI.2.2.2.2.2.2.2.2.2.2.2.2.2.2.2.1 p1 hp1
      simp only [mm_up, u3, true_and, and_true, false_and, and_false, if_true, if_false] <;> (repeat' split) <;> first | exact g0 | rfl | (exfalso; omega) | (exfalso; have e9 : i1 = i := (by omega); subst e9; omega) | (exfalso; simp_all; done),
    fun p1 hp1 k1 hk1 => by
      have g0 := hI.2.2.2.2.2.2.2.2.2.2.2.2.2.2.2.2.1 p1 hp1 k1 hk1
      simp only [mm_up, u3, true_and, and_true, false_and, and_false, if_true, if_false] <;> (repeat' split) <;> first | exact g0 | rfl | (exfalso; omega) | (exfalso; have e9 : i1 = i := (by omega); subst e9; omega) | (exfalso; simp_all; done),
    fun p1 hp1 k1 hk1 => by
      have g0 := hI.2.2.2.2.2.2.2.2.2.2.2.2.2.2.2.2.2.1 p1 hp1 k1 hk1
      simp only [mm_up, u3, true_and, and_true, false_and, and_false, if_true, if_false] <;> (repeat' split) <;> first | exact g0 | rfl | (exfalso; omega) | (exfalso; have e9 : i1 = i := (by omega); subst e9; omega) | (exfalso; simp_all; done),
    fun p1 hp1 k1 hk1 => by
      have g0 := hI.2.2.2.2.2.2.2.2.2.2.2.2.2.2.2.2.2.2.1 p1 hp1 k1 hk1
      simp only [mm_up, u3, true_and, and_true, false_and, and_false, if_true, if_false] <;> (repeat' split) <;> first | exact g0 | rfl | (exfalso; omega) | (exfalso; have e9 : i1 = i := (by omega); subst e9; omega) | (exfalso; simp_all; done),
    fun p1 hp1 k1 hk1 => by
      have g0 := hI.2.2.2.2.2.2.2.2.2.2.2.2.2.2.2.2.2.2.2.1 p1 hp1 k1 hk1
      simp only [mm_up, u3, true_and, and_true, false_and, and_false, if_true, if_false] <;> (repeat' split) <;> first | exact g0 | rfl | (exfalso; omega) | (exfalso; have e9 : i1 = i := (by omega); subst e9; omega) | (exfalso; simp_all; done),
    fun t1 ht1 k1 hk1 => by
      have g0 := hI.2.2.2.2.2.2.2.2.2.2.2.2.2.2.2.2.2.2.2.2.1 t1 ht1 k1 hk1
      simp only [mm_up, u3, true_and, and_true, false_and, and_false, if_true, if_false] <;> (repeat' split) <;> first | exact g0 | rfl | (exfalso; omega) | (exfalso; have e9 : i1 = i := (by omega); subst e9; omega) | (exfalso; simp_all; done),
    fun t1 ht1 => by
      have g0 := hI.2.2.2.2.2.2.2.2.2.2.2.2.2.2.2.2.2.2.2.2.2.1 t1 ht1
      simp only [mm_up, u3, true_and, and_true, false_and, and_false, if_true, if_false] <;> (repeat' split) <;> first | exact g0 | rfl | (exfalso; omega) | (exfalso; have e9 : i1 = i := (by omega); subst e9; omega) | (exfalso; simp_all; done),
    fun t1 ht1 => by
      have g0 := hI.2.2.2.2.2.2.2.2.2.2.2.2.2.2.2.2.2.2.2.2.2.2.1 t1 ht1
      simp only [mm_up, u3, true_and, and_true, false_and, and_false, if_true, if_false] <;> (repeat' split) <;> first | exact g0 | rfl | (exfalso; omega) | (exfalso; have e9 : i1 = i := (by omega); subst e9; omega) | (exfalso; simp_all; done),
    fun t1 ht1 k1 hk1 => by
      have g0 := hI.2.2.2.2.2.2.2.2.2.2.2.2.2.2.2.2.2.2.2.2.2.2.2.1 t1 ht1 k1 hk1
      simp only [mm_up, u3, true_and, and_true, false_and, and_false, if_true, if_false] <;> (repeat' split) <;> first | exact g0 | rfl | (exfalso; omega) | (exfalso; have e9 : i1 = i := (by omega); subst e9; omega) | (exfalso; simp_all; done),
    fun t1 ht1 k1 hk1 => by
      have g0 := hI.2.2.2.2.2.2.2.2.2.2.2.2.2.2.2.2.2.2.2.2.2.2.2.2.1 t1 ht1 k1 hk1
      simp only [mm_up, u3, true_and, and_true, false_and, and_false, if_true, if_false] <;> (repeat' split) <;> first | exact g0 | rfl | (exfalso; omega) | (exfalso; have e9 : i1 = i := (by omega); subst e9; omega) | (exfalso; simp_all; done),
    fun t1 ht1 => by
      have g0 := hI.2.2.2.2.2.2.2.2.2.2.2.2.2.2.2.2.2.2.2.2.2.2.2.2.2.1 t1 ht1
      simp only [mm_up, u3, true_and, and_true, false_and, and_false, if_true, if_false] <;> (repeat' split) <;> first | exact g0 | rfl | (exfalso; omega) | (exfalso; have e9 : i1 = i := (by omega); subst e9; omega) | (exfalso; simp_all; done),
    fun t1 ht1 => by
      have g0 := hI.2.2.2.2.2.2.2.2.2.2.2.2.2.2.2.2.2.2.2.2.2.2.2.2.2.2.1 t1 ht1
      simp only [mm_up, u3, true_and, and_true, false_and, and_false, if_true, if_false] <;> (repeat' split) <;> first | exact g0 | rfl | (exfalso; omega) | (exfalso; have e9 : i1 = i := (by omega); subst e9; omega) | (exfalso; simp_all; done),
    fun t1 ht1 => by
      have g0 := hI.2.2.2.2.2.2.2.2.2.2.2.2.2.2.2.2.2.2.2.2.2.2.2.2.2.2.2.1 t1 ht1
      simp only [mm_up, u3, true_and, and_true, false_and, and_false, if_true, if_false] <;> (repeat' split) <;> first | exact g0 | rfl | (exfalso; omega) | (exfalso; have e9 : i1 = i := (by omega); subst e9; omega) | (exfalso; simp_all; done),
    fun t1 ht1 => by
      have g0 := hI.2.2.2.2.2.2.2.2.2.2.2.2.2.2.2.2.2.2.2.2.2.2.2.2.2.2.2.2.1 t1 ht1
      simp only [mm_up, u3, true_and, and_true, false_and, and_false, if_true, if_false] <;> (repeat' split) <;> first | exact g0 | rfl | (exfalso; omega) | (exfalso; have e9 : i1 = i := (by omega); subst e9; omega) | (exfalso; simp_all; done),
    fun t1 ht1 => by
      have g0 := hI.2.2.2.2.2.2.2.2.2.2.2.2.2.2.2.2.2.2.2.2.2.2.2.2.2.2.2.2.2.1 t1 ht1
      simp only [mm_up, u3, true_and, and_true, false_and, and_false, if_true, if_false] <;> (repeat' split) <;> first | exact g0 | rfl | (exfalso; omega) | (exfalso; have e9 : i1 = i := (by omega); subst e9; omega) | (exfalso; simp_all; done),
    fun t1 ht1 => by
      have g0 := hI.2.2.2.2.2.2.2.2.2.2.2.2.2.2.2.2.2.2.2.2.2.2.2.2.2.2.2.2.2.2 t1 ht1
      simp only [mm_up, u3, true_and, and_true, false_and, and_false, if_true, if_false] <;> (repeat' split) <;> first | exact g0 | rfl | (exfalso; omega) | (exfalso; have e9 : i1 = i := (by omega); subst e9; omega) | (exfalso; simp_all; done)⟩⟩
theorem CU_tal {ci : Nat → Nat → Nat → Int32} {cn : Nat → Nat → Nat → Nat} {co : Nat → Option Nat} {xj : Nat → Nat → Nat → Int64} {xd : Nat → Nat → Nat → UInt64} {xf : Nat → Nat → Nat → UInt32} {xo : Nat → Nat → Nat → Option Nat} {xi : Nat → Nat → Nat → Int32} {xn : Nat → Nat → Nat → Nat} {I : Nat → Nat → Int32} {J : Nat → Nat → Int64} {F : Nat → Nat → UInt32} {D : Nat → Nat → UInt64} {R : Nat → Nat → Option Nat} {nx sl : Nat} (h : RC ci cn co xj xd xf xo xi xn I J F D R nx sl) {i : Nat} (hi : i < xn 2 0 0) {v : Int32}  {j : Nat} {z : Int32} (hj : j = 13) (hz : z = v) : RC ci cn co xj xd xf xo (u3 xi 1 i 0 v) xn (mm_up I (94 + 4 * i) j z) J F D R nx sl := by
  subst hj; subst hz
  have isr := fun i hi => (rc_isor h (i := i) hi).2.2.1
  obtain ⟨hJ, hD, hF, hR, hI, hX, hN, hS⟩ := h
  exact ⟨hJ,
   hD,
   hF,
   hR,
   ⟨fun p1 hp1 => by
      have g0 := hI.1 p1 hp1
      simp only [mm_up, u3, true_and, and_true, false_and, and_false, if_true, if_false] <;> (repeat' split) <;> first | exact g0 | rfl | (exfalso; omega) | (exfalso; have e9 : i1 = i := (by omega); subst e9; omega) | (exfalso; simp_all; done),
    fun p1 hp1 => by
      have g0 := hI.2.1 p1 hp1
      simp only [mm_up, u3, true_and, and_true, false_and, and_false, if_true, if_false] <;> (repeat' split) <;> first | exact g0 | rfl | (exfalso; omega) | (exfalso; have e9 : i1 = i := (by omega); subst e9; omega) | (exfalso; simp_all; done),
    fun p1 hp1 => by
      have g0 := hI.2.2.1 p1 hp1
      simp only [mm_up, u3, true_and, and_true, false_and, and_false, if_true, if_false] <;> (repeat' split) <;> first | exact g0 | rfl | (exfalso; omega) | (exfalso; have e9 : i1 = i := (by omega); subst e9; omega) | (exfalso; simp_all; done),
    fun p1 hp1 k1 hk1 => by
      have g0 := hI.2.2.2.1 p1 hp1 k1 hk1
      simp only [mm_up, u3, true_and, and_true, false_and, and_false, if_true, if_false] <;> (repeat' split) <;> first | exact g0 | rfl | (exfalso; omega) | (exfalso; have e9 : i1 = i := (by omega); subst e9; omega) | (exfalso; simp_all; done),
    fun p1 hp1 k1 hk1 => by
      have g0 := hI.2.2.2.2.1 p1 hp1 k1 hk1
      simp only [mm_up, u3, true_and, and_true, false_and, and_false, if_true, if_false] <;> (repeat' split) <;> first | exact g0 | rfl | (exfalso; omega) | (exfalso; have e9 : i1 = i := (by omega); subst e9; omega) | (exfalso; simp_all; done),
    fun p1 hp1 k1 hk1 => by
      have g0 := hI.2.2.2.2.2.1 p1 hp1 k1 hk1
      simp only [mm_up, u3, true_and, and_true, false_and, and_false, if_true, if_false] <;> (repeat' split) <;> first | exact g0 | rfl | (exfalso; omega) | (exfalso; have e9 : i1 = i := (by omega); subst e9; omega) | (exfalso; simp_all; done),
    fun p1 hp1 k1 hk1 => by
      have g0 := hI.2.2.2.2.2.2.1 p1 hp1 k1 hk1
      simp only [mm_up, u3, true_and, and_true, false_and, and_false, if_true, if_false] <;> (repeat' split) <;> first | exact g0 | rfl | (exfalso; omega) | (exfalso; have e9 : i1 = i := (by omega); subst e9; omega) | (exfalso; simp_all; done),
    fun p1 hp1 k1 hk1 => by
      have g0 := hI.2.2.2.2.2.2.2.1 p1 hp1 k1 hk1
      simp only [mm_up, u3, true_and, and_true, false_and, and_false, if_true, if_false] <;> (repeat' split) <;> first | exact g0 | rfl | (exfalso; omega) | (exfalso; have e9 : i1 = i := (by omega); subst e9; omega) | (exfalso; simp_all; done),
    fun p1 hp1 k1 hk1 => by
      have g0 := hI.2.2.2.2.2.2.2.2.1 p1 hp1 k1 hk1
      simp only [mm_up, u3, true_and, and_true, false_and, and_false, if_true, if_false] <;> (repeat' split) <;> first | exact g0 | rfl | (exfalso; omega) | (exfalso; have e9 : i1 = i := (by omega); subst e9; omega) | (exfalso; simp_all; done),
    fun p1 hp1 k1 hk1 => by
      have g0 := hI.2.2.2.2.2.2.2.2.2.1 p1 hp1 k1 hk1
      simp only [mm_up, u3, true_and, and_true, false_and, and_false, if_true, if_false] <;> (repeat' split) <;> first | exact g0 | rfl | (exfalso; omega) | (exfalso; have e9 : i1 = i := (by omega); subst e9; omega) | (exfalso; simp_all; done),
    fun p1 hp1 k1 hk1 => by
      have g0 := hI.2.2.2.2.2.2.2.2.2.2.1 p1 hp1 k1 hk1
      simp only [mm_up, u3, true_and, and_true, false_and, and_false, if_true, if_false] <;> (repeat' split) <;> first | exact g0 | rfl | (exfalso; omega) | (exfalso; have e9 : i1 = i := (by omega); subst e9; omega) | (exfalso; simp_all; done),
    fun t1 ht1 => by
      have g0 := hI.2.2.2.2.2.2.2.2.2.2.2.1 t1 ht1
      simp only [mm_up, u3, true_and, and_true, false_and, and_false, if_true, if_false] <;> (repeat' split) <;> first | exact g0 | rfl | (exfalso; omega) | (exfalso; have e9 : i1 = i := (by omega); subst e9; omega) | (exfalso; simp_all; done),
    fun t1 ht1 => by
      have g0 := hI.2.2.2.2.2.2.2.2.2.2.2.2.1 t1 ht1
      simp only [mm_up, u3, true_and, and_true, false_and, and_false, if_true, if_false] <;> (repeat' split) <;> first | exact g0 | rfl | (exfalso; omega) | (exfalso; have e9 : i1 = i := (by omega); subst e9; omega) | (exfalso; simp_all; done),
    fun t1 ht1 k1 hk1 => by
      have g0 := hI.2.2.2.2.2.2.2.2.2.2.2.2.2.1 t1 ht1 k1 hk1
      simp only [mm_up, u3, true_and, and_true, false_and, and_false, if_true, if_false] <;> (repeat' split) <;> first | exact g0 | rfl | (exfalso; omega) | (exfalso; have e9 : i1 = i := (by omega); subst e9; omega) | (exfalso; simp_all; done),
    fun t1 ht1 => by
      have g0 := hI.2.2.2.2.2.2.2.2.2.2.2.2.2.2.1 t1 ht1
      simp only [mm_up, u3, true_and, and_true, false_and, and_false, if_true, if_false] <;> (repeat' split) <;> first | exact g0 | rfl | (exfalso; omega) | (exfalso; have e9 : i1 = i := (by omega); subst e9; omega) | (exfalso; simp_all; done),
    fun t1 ht1 => by
      have g0 := hI.2.2.2.2.2.2.2.2.2.2.2.2.2.2.2.1 t1 ht1
      simp only [mm_up, u3, true_and, and_true, false_and, and_false, if_true, if_false] <;> (repeat' split) <;> first | exact g0 | rfl | (exfalso; omega) | (exfalso; have e9 : i1 = i := (by omega); subst e9; omega) | (exfalso; simp_all; done),
    fun t1 ht1 => by
      have g0 := hI.2.2.2.2.2.2.2.2.2.2.2.2.2.2.2.2.1 t1 ht1
      simp only [mm_up, u3, true_and, and_true, false_and, and_false, if_true, if_false] <;> (repeat' split) <;> first | exact g0 | rfl | (exfalso; omega) | (exfalso; have e9 : i1 = i := (by omega); subst e9; omega) | (exfalso; simp_all; done),
    fun t1 ht1 => by
      have g0 := hI.2.2.2.2.2.2.2.2.2.2.2.2.2.2.2.2.2.1 t1 ht1
      simp only [mm_up, u3, true_and, and_true, false_and, and_false, if_true, if_false] <;> (repeat' split) <;> first | exact g0 | rfl | (exfalso; omega) | (exfalso; have e9 : i1 = i := (by omega); subst e9; omega) | (exfalso; simp_all; done),
    fun t1 ht1 => by
      have g0 := hI.2.2.2.2.2.2.2.2.2.2.2.2.2.2.2.2.2.2.1 t1 ht1
      simp only [mm_up, u3, true_and, and_true, false_and, and_false, if_true, if_false] <;> (repeat' split) <;> first | exact g0 | rfl | (exfalso; omega) | (exfalso; have e9 : i1 = i := (by omega); subst e9; omega) | (exfalso; simp_all; done),
    fun t1 ht1 => by
      have g0 := hI.2.2.2.2.2.2.2.2.2.2.2.2.2.2.2.2.2.2.2.1 t1 ht1
      simp only [mm_up, u3, true_and, and_true, false_and, and_false, if_true, if_false] <;> (repeat' split) <;> first | exact g0 | rfl | (exfalso; omega) | (exfalso; have e9 : i1 = i := (by omega); subst e9; omega) | (exfalso; simp_all; done),
    by
      have g0 := hI.2.2.2.2.2.2.2.2.2.2.2.2.2.2.2.2.2.2.2.2.1
      simp only [mm_up, u3, true_and, and_true, false_and, and_false, if_true, if_false] <;> (repeat' split) <;> first | exact g0 | rfl | (exfalso; omega) | (exfalso; have e9 : i1 = i := (by omega); subst e9; omega) | (exfalso; simp_all; done),
    by
      have g0 := hI.2.2.2.2.2.2.2.2.2.2.2.2.2.2.2.2.2.2.2.2.2.1
      simp only [mm_up, u3, true_and, and_true, false_and, and_false, if_true, if_false] <;> (repeat' split) <;> first | exact g0 | rfl | (exfalso; omega) | (exfalso; have e9 : i1 = i := (by omega); subst e9; omega) | (exfalso; simp_all; done),
    fun i1 hi1 => by
      have g0 := hI.2.2.2.2.2.2.2.2.2.2.2.2.2.2.2.2.2.2.2.2.2.2.1 i1 hi1
      simp only [mm_up, u3, true_and, and_true, false_and, and_false, if_true, if_false] <;> (repeat' split) <;> first | exact g0 | rfl | (exfalso; omega) | (exfalso; have e9 : i1 = i := (by omega); subst e9; omega) | (exfalso; simp_all; done),
    fun i1 hi1 => by
      have g0 := hI.2.2.2.2.2.2.2.2.2.2.2.2.2.2.2.2.2.2.2.2.2.2.2.1 i1 hi1
      simp only [mm_up, u3, true_and, and_true, false_and, and_false, if_true, if_false] <;> (repeat' split) <;> first | exact g0 | rfl | (exfalso; omega) | (exfalso; have e9 : i1 = i := (by omega); subst e9; omega) | (exfalso; simp_all; done),
    fun i1 hi1 => by
      have g0 := hI.2.2.2.2.2.2.2.2.2.2.2.2.2.2.2.2.2.2.2.2.2.2.2.2.1 i1 hi1
      simp only [mm_up, u3, true_and, and_true, false_and, and_false, if_true, if_false] <;> (repeat' split) <;> first | exact g0 | rfl | (exfalso; omega) | (exfalso; have e9 : i1 = i := (by omega); subst e9; omega) | (exfalso; simp_all; done),
    fun i1 hi1 => by
      have g0 := hI.2.2.2.2.2.2.2.2.2.2.2.2.2.2.2.2.2.2.2.2.2.2.2.2.2.1 i1 hi1
      simp only [mm_up, u3, true_and, and_true, false_and, and_false, if_true, if_false] <;> (repeat' split) <;> first | exact g0 | rfl | (exfalso; omega) | (exfalso; have e9 : i1 = i := (by omega); subst e9; omega) | (exfalso; simp_all; done),
    fun i1 hi1 => by
      have g0 := hI.2.2.2.2.2.2.2.2.2.2.2.2.2.2.2.2.2.2.2.2.2.2.2.2.2.2.1 i1 hi1
      simp only [mm_up, u3, true_and, and_true, false_and, and_false, if_true, if_false] <;> (repeat' split) <;> first | exact g0 | rfl | (exfalso; omega) | (exfalso; have e9 : i1 = i := (by omega); subst e9; omega) | (exfalso; simp_all; done),
    fun i1 hi1 => by
      have g0 := hI.2.2.2.2.2.2.2.2.2.2.2.2.2.2.2.2.2.2.2.2.2.2.2.2.2.2.2.1 i1 hi1
      simp only [mm_up, u3, true_and, and_true, false_and, and_false, if_true, if_false] <;> (repeat' split) <;> first | exact g0 | rfl | (exfalso; omega) | (exfalso; have e9 : i1 = i := (by omega); subst e9; omega) | (exfalso; simp_all; done),
    fun i1 hi1 => by
      have g0 := hI.2.2.2.2.2.2.2.2.2.2.2.2.2.2.2.2.2.2.2.2.2.2.2.2.2.2.2.2.1 i1 hi1
      simp only [mm_up, u3, true_and, and_true, false_and, and_false, if_true, if_false] <;> (repeat' split) <;> first | exact g0 | rfl | (exfalso; omega) | (exfalso; have e9 : i1 = i := (by omega); subst e9; omega) | (exfalso; simp_all; done),
    fun i1 hi1 => by
      have g0 := hI.2.2.2.2.2.2.2.2.2.2.2.2.2.2.2.2.2.2.2.2.2.2.2.2.2.2.2.2.2.1 i1 hi1
      simp only [mm_up, u3, true_and, and_true, false_and, and_false, if_true, if_false] <;> (repeat' split) <;> first | exact g0 | rfl | (exfalso; omega) | (exfalso; have e9 : i1 = i := (by omega); subst e9; omega) | (exfalso; simp_all; done),
    fun i1 hi1 => by
      have g0 := hI.2.2.2.2.2.2.2.2.2.2.2.2.2.2.2.2.2.2.2.2.2.2.2.2.2.2.2.2.2.2 i1 hi1
      simp only [mm_up, u3, true_and, and_true, false_and, and_false, if_true, if_false] <;> (repeat' split) <;> first | exact g0 | rfl | (exfalso; omega) | (exfalso; have e9 : i1 = i := (by omega); subst e9; omega) | (exfalso; simp_all; done)⟩,
   hX,
   hN,
   hS⟩
theorem MU_tal {ci : Nat → Nat → Nat → Int32} {cn : Nat → Nat → Nat → Nat} {co : Nat → Option Nat} {xj : Nat → Nat → Nat → Int64} {xd : Nat → Nat → Nat → UInt64} {xf : Nat → Nat → Nat → UInt32} {xo : Nat → Nat → Nat → Option Nat} {xi : Nat → Nat → Nat → Int32} {xn : Nat → Nat → Nat → Nat} {I : Nat → Nat → Int32} {J : Nat → Nat → Int64} {D : Nat → Nat → UInt64} (h : RM ci cn co xj xd xf xo xi xn I J D) {i : Nat} (hi : i < xn 2 0 0) {v : Int32}  {j : Nat} {z : Int32} (hj : j = i) (hz : z = v) (isr : ∀ i, i < xn 2 0 0 → xn 1 i 0 ≤ 12) : RM ci cn co xj xd xf xo (u3 xi 1 i 0 v) xn (mm_up I (16) j z) J D := by
  subst hj; subst hz
  obtain ⟨hJ, hD, hI⟩ := h
  exact ⟨hJ,
   hD,
   ⟨by
      have g0 := hI.1
      simp only [mm_up, u3, true_and, and_true, false_and, and_false, if_true, if_false] <;> (repeat' split) <;> first | exact g0 | rfl | (exfalso; omega) | (exfalso; have e9 : i1 = i := (by omega); subst e9; omega) | (exfalso; simp_all; done),
    by
      have g0 := hI.2.1
      simp only [mm_up, u3, true_and, and_true, false_and, and_false, if_true, if_false] <;> (repeat' split) <;> first | exact g0 | rfl | (exfalso; omega) | (exfalso; have e9 : i1 = i := (by omega); subst e9; omega) | (exfalso; simp_all; done),
    fun i1 hi1 => by
      have g0 := hI.2.2.1 i1 hi1
      simp only [mm_up, u3, true_and, and_true, false_and, and_false, if_true, if_false] <;> (repeat' split) <;> first | exact g0 | rfl | (exfalso; omega) | (exfalso; have e9 : i1 = i := (by omega); subst e9; omega) | (exfalso; simp_all; done),
    fun i1 hi1 => by
      have g0 := hI.2.2.2.1 i1 hi1
      simp only [mm_up, u3, true_and, and_true, false_and, and_false, if_true, if_false] <;> (repeat' split) <;> first | exact g0 | rfl | (exfalso; omega) | (exfalso; have e9 : i1 = i := (by omega); subst e9; omega) | (exfalso; simp_all; done),
    fun i1 hi1 => by
      have g0 := hI.2.2.2.2.1 i1 hi1
      simp only [mm_up, u3, true_and, and_true, false_and, and_false, if_true, if_false] <;> (repeat' split) <;> first | exact g0 | rfl | (exfalso; omega) | (exfalso; have e9 : i1 = i := (by omega); subst e9; omega) | (exfalso; simp_all; done),
    fun i1 hi1 => by
      have g0 := hI.2.2.2.2.2.1 i1 hi1
      simp only [mm_up, u3, true_and, and_true, false_and, and_false, if_true, if_false] <;> (repeat' split) <;> first | exact g0 | rfl | (exfalso; omega) | (exfalso; have e9 : i1 = i := (by omega); subst e9; omega) | (exfalso; simp_all; done),
    fun i1 hi1 => by
      have g0 := hI.2.2.2.2.2.2.1 i1 hi1
      simp only [mm_up, u3, true_and, and_true, false_and, and_false, if_true, if_false] <;> (repeat' split) <;> first | exact g0 | rfl | (exfalso; omega) | (exfalso; have e9 : i1 = i := (by omega); subst e9; omega) | (exfalso; simp_all; done),
    fun i1 hi1 k1 hk1 => by
      have g0 := hI.2.2.2.2.2.2.2.1 i1 hi1 k1 hk1
      simp only [mm_up, u3, true_and, and_true, false_and, and_false, if_true, if_false] <;> (repeat' split) <;> first | exact g0 | rfl | (exfalso; omega) | (exfalso; have e9 : i1 = i := (by omega); subst e9; omega) | (exfalso; simp_all; done),
    fun i1 hi1 => by
      have g0 := hI.2.2.2.2.2.2.2.2.1 i1 hi1
      simp only [mm_up, u3, true_and, and_true, false_and, and_false, if_true, if_false] <;> (repeat' split) <;> first | exact g0 | rfl | (exfalso; omega) | (exfalso; have e9 : i1 = i := (by omega); subst e9; omega) | (exfalso; simp_all; done),
    fun i1 hi1 => by
      have g0 := hI.2.2.2.2.2.2.2.2.2.1 i1 hi1
      simp only [mm_up, u3, true_and, and_true, false_and, and_false, if_true, if_false] <;> (repeat' split) <;> first | exact g0 | rfl | (exfalso; omega) | (exfalso; have e9 : i1 = i := (by omega); subst e9; omega) | (exfalso; simp_all; done),
    fun p1 hp1 => by
      have g0 := hI.2.2.2.2.2.2.2.2.2.2.1 p1 hp1
      simp only [mm_up, u3, true_and, and_true, false_and, and_false, if_true, if_false] <;> (repeat' split) <;> first | exact g0 | rfl | (exfalso; omega) | (exfalso; have e9 : i1 = i := (by omega); subst e9; omega) | (exfalso; simp_all; done),
    fun p1 hp1 k1 hk1 => by
      have g0 := hI.2.2.2.2.2.2.2.2.2.2.2.1 p1 hp1 k1 hk1
      simp only [mm_up, u3, true_and, and_true, false_and, and_false, if_true, if_false] <;> (repeat' split) <;> first | exact g0 | rfl | (exfalso; omega) | (exfalso; have e9 : i1 = i := (by omega); subst e9; omega) | (exfalso; simp_all; done),
    fun p1 hp1 k1 hk1 => by
      have g0 := hI.2.2.2.2.2.2.2.2.2.2.2.2.1 p1 hp1 k1 hk1
      simp only [mm_up, u3, true_and, and_true, false_and, and_false, if_true, if_false] <;> (repeat' split) <;> first | exact g0 | rfl | (exfalso; omega) | (exfalso; have e9 : i1 = i := (by omega); subst e9; omega) | (exfalso; simp_all; done),
    fun p1 hp1 k1 hk1 => by
      have g0 := hI.2.2.2.2.2.2.2.2.2.2.2.2.2.1 p1 hp1 k1 hk1
      simp only [mm_up, u3, true_and, and_true, false_and, and_false, if_true, if_false] <;> (repeat' split) <;> first | exact g0 | rfl | (exfalso; omega) | (exfalso; have e9 : i1 = i := (by omega); subst e9; omega) | (exfalso; simp_all; done),
    fun p1 hp1 k1 hk1 => by
      have g0 := hI.2.2.2.2.2.2.2.2.2.2.2.2.2.2.1 p1 hp1 k1 hk1
      simp only [mm_up, u3, true_and, and_true, false_and, and_false, if_true, if_false] <;> (repeat' split) <;> first | exact g0 | rfl | (exfalso; omega) | (exfalso; have e9 : i1 = i := (by omega); subst e9; omega) | (exfalso; simp_all; done),
    fun p1 hp1 => by
      have g0 := hI.2.2.2.2.2.2.2.2.2.2.2.2.2.2.2.1 p1 hp1
      simp only [mm_up, u3, true_and, and_true, false_and, and_false, if_true, if_false] <;> (repeat' split) <;> first | exact g0 | rfl | (exfalso; omega) | (exfalso; have e9 : i1 = i := (by omega); subst e9; omega) | (exfalso; simp_all; done),
    fun p1 hp1 k1 hk1 => by
      have g0 := hI.2.2.2.2.2.2.2.2.2.2.2.2.2.2.2.2.1 p1 hp1 k1 hk1
      simp only [mm_up, u3, true_and, and_true, false_and, and_false, if_true, if_false] <;> (repeat' split) <;> first | exact g0 | rfl | (exfalso; omega) | (exfalso; have e9 : i1 = i := (by omega); subst e9; omega) | (exfalso; simp_all; done),
    fun p1 hp1 k1 hk1 => by
      have g0 := hI.2.2.2.2.2.2.2.2.2.2.2.2.2.2.2.2.2.1 p1 hp1 k1 hk1
      simp only [mm_up, u3, true_and, and_true, false_and, and_false, if_true, if_false] <;> (repeat' split) <;> first | exact g0 | rfl | (exfalso; omega) | (exfalso; have e9 : i1 = i := (by omega); subst e9; omega) | (exfalso; simp_all; done),
    fun p1 hp1 k1 hk1 => by
      have g0 := hI.2.2.2.2.2.2.2.2.2.2.2.2.2.2.2.2.2.2.1 p1 hp1 k1 hk1
      simp only [mm_up, u3, true_and, and_true, false_and, and_false, if_true, if_false] <;> (repeat' split) <;> first | exact g0 | rfl | (exfalso; omega) | (exfalso; have e9 : i1 = i := (by omega); subst e9; omega) | (exfalso; simp_all; done),
    fun p1 hp1 k1 hk1 => by
      have g0 := hI.2.2.2.2.2.2.2.2.2.2.2.2.2.2.2.2.2.2.2.1 p1 hp1 k1 hk1
      simp only [mm_up, u3, true_and, and_true, false_and, and_false, if_true, if_false] <;> (repeat' split) <;> first | exact g0 | rfl | (exfalso; omega) | (exfalso; have e9 : i1 = i := (by omega); subst e9; omega) | (exfalso; simp_all; done),
    fun t1 ht1 k1 hk1 => by
      have g0 := hI.2.2.2.2.2.2.2.2.2.2.2.2.2.2.2.2.2.2.2.2.1 t1 ht1 k1 hk1
      simp only [mm_up, u3, true_and, and_true, false_and, and_false, if_true, if_false] <;> (repeat' split) <;> first | exact g0 | rfl | (exfalso; omega) | (exfalso; have e9 : i1 = i := (by omega); subst e9; omega) | (exfalso; simp_all; done),
    fun t1 ht1 => by
      have g0 := hI.2.2.2.2.2.2.2.2.2.2.2.2.2.2.2.2.2.2.2.2.2.1 t1 ht1
      simp only [mm_up, u3, true_and, and_true, false_and, and_false, if_true, if_false] <;> (repeat' split) <;> first | exact g0 | rfl | (exfalso; omega) | (exfalso; have e9 : i1 = i := (by omega); subst e9; omega) | (exfalso; simp_all; done),
    fun t1 ht1 => by
      have g0 := hI.2.2.2.2.2.2.2.2.2.2.2.2.2.2.2.2.2.2.2.2.2.2.1 t1 ht1
      simp only [mm_up, u3, true_and, and_true, false_and, and_false, if_true, if_false] <;> (repeat' split) <;> first | exact g0 | rfl | (exfalso; omega) | (exfalso; have e9 : i1 = i := (by omega); subst e9; omega) | (exfalso; simp_all; done),
    fun t1 ht1 k1 hk1 => by
      have g0 := hI.2.2.2.2.2.2.2.2.2.2.2.2.2.2.2.2.2.2.2.2.2.2.2.1 t1 ht1 k1 hk1
      simp only [mm_up, u3, true_and, and_true, false_and, and_false, if_true, if_false] <;> (repeat' split) <;> first | exact g0 | rfl | (exfalso; omega) | (exfalso; have e9 : i1 = i := (by omega); subst e9; omega) | (exfalso; simp_all; done),
    fun t1 ht1 k1 hk1 => by
      have g0 := hI.2.2.2.2.2.2.2.2.2.2.2.2.2.2.2.2.2.2.2.2.2.2.2.2.1 t1 ht1 k1 hk1
      simp only [mm_up, u3, true_and, and_true, false_and, and_false, if_true, if_false] <;> (repeat' split) <;> first | exact g0 | rfl | (exfalso; omega) | (exfalso; have e9 : i1 = i := (by omega); subst e9; omega) | (exfalso; simp_all; done),
    fun t1 ht1 => by
      have g0 := hI.2.2.2.2.2.2.2.2.2.2.2.2.2.2.2.2.2.2.2.2.2.2.2.2.2.1 t1 ht1
      simp only [mm_up, u3, true_and, and_true, false_and, and_false, if_true, if_false] <;> (repeat' split) <;> first | exact g0 | rfl | (exfalso; omega) | (exfalso; have e9 : i1 = i := (by omega); subst e9; omega) | (exfalso; simp_all; done),
    fun t1 ht1 => by
      have g0 := hI.2.2.2.2.2.2.2.2.2.2.2.2.2.2.2.2.2.2.2.2.2.2.2.2.2.2.1 t1 ht1
      simp only [mm_up, u3, true_and, and_true, false_and, and_false, if_true, if_false] <;> (repeat' split) <;> first | exact g0 | rfl | (exfalso; omega) | (exfalso; have e9 : i1 = i := (by omega); subst e9; omega) | (exfalso; simp_all; done),
    fun t1 ht1 => by
      have g0 := hI.2.2.2.2.2.2.2.2.2.2.2.2.2.2.2.2.2.2.2.2.2.2.2.2.2.2.2.1 t1 ht1
      simp only [mm_up, u3, true_and, and_true, false_and, and_false, if_true, if_false] <;> (repeat' split) <;> first | exact g0 | rfl | (exfalso; omega) | (exfalso; have e9 : i1 = i := (by omega); subst e9; omega) | (exfalso; simp_all; done),
    fun t1 ht1 => by
      have g0 := hI.2.2.2.2.2.2.2.2.2.2.2.2.2.2.2.2.2.2.2.2.2.2.2.2.2.2.2.2.1 t1 ht1
      simp only [mm_up, u3, true_and, and_true, false_and, and_false, if_true, if_false] <;> (repeat' split) <;> first | exact g0 | rfl | (exfalso; omega) | (exfalso; have e9 : i1 = i := (by omega); subst e9; omega) | (exfalso; simp_all; done),
    fun t1 ht1 => by
      have g0 := hI.2.2.2.2.2.2.2.2.2.2.2.2.2.2.2.2.2.2.2.2.2.2.2.2.2.2.2.2.2.1 t1 ht1
      simp only [mm_up, u3, true_and, and_true, false_and, and_false, if_true, if_false] <;> (repeat' split) <;> first | exact g0 | rfl | (exfalso; omega) | (exfalso; have e9 : i1 = i := (by omega); subst e9; omega) | (exfalso; simp_all; done),
    fun t1 ht1 => by
      have g0 := hI.2.2.2.2.2.2.2.2.2.2.2.2.2.2.2.2.2.2.2.2.2.2.2.2.2.2.2.2.2.2 t1 ht1
      simp only [mm_up, u3, true_and, and_true, false_and, and_false, if_true, if_false] <;> (repeat' split) <;> first | exact g0 | rfl | (exfalso; omega) | (exfalso; have e9 : i1 = i := (by omega); subst e9; omega) | (exfalso; simp_all; done)⟩⟩
theorem CU_mk0 {ci : Nat → Nat → Nat → Int32} {cn : Nat → Nat → Nat → Nat} {co : Nat → Option Nat} {xj : Nat → Nat → Nat → Int64} {xd : Nat → Nat → Nat → UInt64} {xf : Nat → Nat → Nat → UInt32} {xo : Nat → Nat → Nat → Option Nat} {xi : Nat → Nat → Nat → Int32} {xn : Nat → Nat → Nat → Nat} {I : Nat → Nat → Int32} {J : Nat → Nat → Int64} {F : Nat → Nat → UInt32} {D : Nat → Nat → UInt64} {R : Nat → Nat → Option Nat} {nx sl : Nat} (h : RC ci cn co xj xd xf xo xi xn I J F D R nx sl) {i : Nat} (hi : i < xn 2 0 0) {v : Int32}  {j : Nat} {z : Int32} (hj : j = 14) (hz : z = v) : RC ci cn co xj xd xf xo (u3 xi 2 i 0 v) xn (mm_up I (94 + 4 * i) j z) J F D R nx sl := by
  subst hj; subst hz
  have isr := fun i hi => (rc_isor h (i := i) hi).2.2.1
  obtain ⟨hJ, hD, hF, hR, hI, hX, hN, hS⟩ := h
  exact ⟨hJ,
   hD,
   hF,
   hR,
   ⟨fun p1 hp1 => by
      have g0 := hI.1 p1 hp1
      simp only [mm_up, u3, true_and, and_true, false_and, and_false, if_true, if_false] <;> (repeat' split) <;> first | exact g0 | rfl | (exfalso; omega) | (exfalso; have e9 : i1 = i := (by omega); subst e9; omega) | (exfalso; simp_all; done),
    fun p1 hp1 => by
      have g0 := hI.2.1 p1 hp1
      simp only [mm_up, u3, true_and, and_true, false_and, and_false, if_true, if_false] <;> (repeat' split) <;> first | exact g0 | rfl | (exfalso; omega) | (exfalso; have e9 : i1 = i := (by omega); subst e9; omega) | (exfalso; simp_all; done),
    fun p1 hp1 => by
      have g0 := hI.2.2.1 p1 hp1
      simp only [mm_up, u3, true_and, and_true, false_and, and_false, if_true, if_false] <;> (repeat' split) <;> first | exact g0 | rfl | (exfalso; omega) | (exfalso; have e9 : i1 = i := (by omega); subst e9; omega) | (exfalso; simp_all; done),
    fun p1 hp1 k1 hk1 => by
      have g0 := hI.2.2.2.1 p1 hp1 k1 hk1
      simp only [mm_up, u3, true_and, and_true, false_and, and_false, if_true, if_false] <;> (repeat' split) <;> first | exact g0 | rfl | (exfalso; omega) | (exfalso; have e9 : i1 = i := (by omega); subst e9; omega) | (exfalso; simp_all; done),
    fun p1 hp1 k1 hk1 => by
      have g0 := hI.2.2.2.2.1 p1 hp1 k1 hk1
      simp only [mm_up, u3, true_and, and_true, false_and, and_false, if_true, if_false] <;> (repeat' split) <;> first | exact g0 | rfl | (exfalso; omega) | (exfalso; have e9 : i1 = i := (by omega); subst e9; omega) | (exfalso; simp_all; done),
    fun p1 hp1 k1 hk1 => by
      have g0 := hI.2.2.2.2.2.1 p1 hp1 k1 hk1
      simp only [mm_up, u3, true_and, and_true, false_and, and_false, if_true, if_false] <;> (repeat' split) <;> first | exact g0 | rfl | (exfalso; omega) | (exfalso; have e9 : i1 = i := (by omega); subst e9; omega) | (exfalso; simp_all; done),
    fun p1 hp1 k1 hk1 => by
      have g0 := hI.2.2.2.2.2.2.1 p1 hp1 k1 hk1
      simp only [mm_up, u3, true_and, and_true, false_and, and_false, if_true, if_false] <;> (repeat' split) <;> first | exact g0 | rfl | (exfalso; omega) | (exfalso; have e9 : i1 = i := (by omega); subst e9; omega) | (exfalso; simp_all; done),
    fun p1 hp1 k1 hk1 => by
      have g0 := hI.2.2.2.2.2.2.2.1 p1 hp1 k1 hk1
      simp only [mm_up, u3, true_and, and_true, false_and, and_false, if_true, if_false] <;> (repeat' split) <;> first | exact g0 | rfl | (exfalso; omega) | (exfalso; have e9 : i1 = i := (by omega); subst e9; omega) | (exfalso; simp_all; done),
    fun p1 hp1 k1 hk1 => by
      have g0 := hI.2.2.2.2.2.2.2.2.1 p1 hp1 k1 hk1
      simp only [mm_up, u3, true_and, and_true, false_and, and_false, if_true, if_false] <;> (repeat' split) <;> first | exact g0 | rfl | (exfalso; omega) | (exfalso; have e9 : i1 = i := (by omega); subst e9; omega) | (exfalso; simp_all; done),
    fun p1 hp1 k1 hk1 => by
      have g0 := hI.2.2.2.2.2.2.2.2.2.1 p1 hp1 k1 hk1
      simp only [mm_up, u3, true_and, and_true, false_and, and_false, if_true, if_false] <;> (repeat' split) <;> first | exact g0 | rfl | (exfalso; omega) | (exfalso; have e9 : i1 = i := (by omega); subst e9; omega) | (exfalso; simp_all; done),
    fun p1 hp1 k1 hk1 => by
      have g0 := hI.2.2.2.2.2.2.2.2.2.2.1 p1 hp1 k1 hk1
      simp only [mm_up, u3, true_and, and_true, false_and, and_false, if_true, if_false] <;> (repeat' split) <;> first | exact g0 | rfl | (exfalso; omega) | (exfalso; have e9 : i1 = i := (by omega); subst e9; omega) | (exfalso; simp_all; done),
    fun t1 ht1 => by
      have g0 := hI.2.2.2.2.2.2.2.2.2.2.2.1 t1 ht1
      simp only [mm_up, u3, true_and, and_true, false_and, and_false, if_true, if_false] <;> (repeat' split) <;> first | exact g0 | rfl | (exfalso; omega) | (exfalso; have e9 : i1 = i := (by omega); subst e9; omega) | (exfalso; simp_all; done),
    fun t1 ht1 => by
      have g0 := hI.2.2.2.2.2.2.2.2.2.2.2.2.1 t1 ht1
      simp only [mm_up, u3, true_and, and_true, false_and, and_false, if_true, if_false] <;> (repeat' split) <;> first | exact g0 | rfl | (exfalso; omega) | (exfalso; have e9 : i1 = i := (by omega); subst e9; omega) | (exfalso; simp_all; done),
    fun t1 ht1 k1 hk1 => by
      have g0 := hI.2.2.2.2.2.2.2.2.2.2.2.2.2.1 t1 ht1 k1 hk1
      simp only [mm_up, u3, true_and, and_true, false_and, and_false, if_true, if_false] <;> (repeat' split) <;> first | exact g0 | rfl | (exfalso; omega) | (exfalso; have e9 : i1 = i := (by omega); subst e9; omega) | (exfalso; simp_all; done),
    fun t1 ht1 => by
      have g0 := hI.2.2.2.2.2.2.2.2.2.2.2.2.2.2.1 t1 ht1
      simp only [mm_up, u3, true_and, and_true, false_and, and_false, if_true, if_false] <;> (repeat' split) <;> first | exact g0 | rfl | (exfalso; omega) | (exfalso; have e9 : i1 = i := (by omega); subst e9; omega) | (exfalso; simp_all; done),
    fun t1 ht1 => by
      have g0 := hI.2.2.2.2.2.2.2.2.2.2.2.2.2.2.2.1 t1 ht1
      simp only [mm_up, u3, true_and, and_true, false_and, and_false, if_true, if_false] <;> (repeat' split) <;> first | exact g0 | rfl | (exfalso; omega) | (exfalso; have e9 : i1 = i := (by omega); subst e9; omega) | (exfalso; simp_all; done),
    fun t1 ht1 => by
      have g0 := hI.2.2.2.2.2.2.2.2.2.2.2.2.2.2.2.2.1 t1 ht1
      simp only [mm_up, u3, true_and, and_true, false_and, and_false, if_true, if_false] <;> (repeat' split) <;> first | exact g0 | rfl | (exfalso; omega) | (exfalso; have e9 : i1 = i := (by omega); subst e9; omega) | (exfalso; simp_all; done),
    fun t1 ht1 => by
      have g0 := hI.2.2.2.2.2.2.2.2.2.2.2.2.2.2.2.2.2.1 t1 ht1
      simp only [mm_up, u3, true_and, and_true, false_and, and_false, if_true, if_false] <;> (repeat' split) <;> first | exact g0 | rfl | (exfalso; omega) | (exfalso; have e9 : i1 = i := (by omega); subst e9; omega) | (exfalso; simp_all; done),
    fun t1 ht1 => by
      have g0 := hI.2.2.2.2.2.2.2.2.2.2.2.2.2.2.2.2.2.2.1 t1 ht1
      simp only [mm_up, u3, true_and, and_true, false_and, and_false, if_true, if_false] <;> (repeat' split) <;> first | exact g0 | rfl | (exfalso; omega) | (exfalso; have e9 : i1 = i := (by omega); subst e9; omega) | (exfalso; simp_all; done),
    fun t1 ht1 => by
      have g0 := hI.2.2.2.2.2.2.2.2.2.2.2.2.2.2.2.2.2.2.2.1 t1 ht1
      simp only [mm_up, u3, true_and, and_true, false_and, and_false, if_true, if_false] <;> (repeat' split) <;> first | exact g0 | rfl | (exfalso; omega) | (exfalso; have e9 : i1 = i := (by omega); subst e9; omega) | (exfalso; simp_all; done),
    by
      have g0 := hI.2.2.2.2.2.2.2.2.2.2.2.2.2.2.2.2.2.2.2.2.1
      simp only [mm_up, u3, true_and, and_true, false_and, and_false, if_true, if_false] <;> (repeat' split) <;> first | exact g0 | rfl | (exfalso; omega) | (exfalso; have e9 : i1 = i := (by omega); subst e9; omega) | (exfalso; simp_all; done),
    by
      have g0 := hI.2.2.2.2.2.2.2.2.2.2.2.2.2.2.2.2.2.2.2.2.2.1
      simp only [mm_up, u3, true_and, and_true, false_and, and_false, if_true, if_false] <;> (repeat' split) <;> first | exact g0 | rfl | (exfalso; omega) | (exfalso; have e9 : i1 = i := (by omega); subst e9; omega) | (exfalso; simp_all; done),
    fun i1 hi1 => by
      have g0 := hI.2.2.2.2.2.2.2.2.2.2.2.2.2.2.2.2.2.2.2.2.2.2.1 i1 hi1
      simp only [mm_up, u3, true_and, and_true, false_and, and_false, if_true, if_false] <;> (repeat' split) <;> first | exact g0 | rfl | (exfalso; omega) | (exfalso; have e9 : i1 = i := (by omega); subst e9; omega) | (exfalso; simp_all; done),
    fun i1 hi1 => by
      have g0 := hI.2.2.2.2.2.2.2.2.2.2.2.2.2.2.2.2.2.2.2.2.2.2.2.1 i1 hi1
      simp only [mm_up, u3, true_and, and_true, false_and, and_false, if_true, if_false] <;> (repeat' split) <;> first | exact g0 | rfl | (exfalso; omega) | (exfalso; have e9 : i1 = i := (by omega); subst e9; omega) | (exfalso; simp_all; done),
    fun i1 hi1 => by
      have g0 := hI.2.2.2.2.2.2.2.2.2.2.2.2.2.2.2.2.2.2.2.2.2.2.2.2.1 i1 hi1
      simp only [mm_up, u3, true_and, and_true, false_and, and_false, if_true, if_false] <;> (repeat' split) <;> first | exact g0 | rfl | (exfalso; omega) | (exfalso; have e9 : i1 = i := (by omega); subst e9; omega) | (exfalso; simp_all; done),
    fun i1 hi1 => by
      have g0 := hI.2.2.2.2.2.2.2.2.2.2.2.2.2.2.2.2.2.2.2.2.2.2.2.2.2.1 i1 hi1
      simp only [mm_up, u3, true_and, and_true, false_and, and_false, if_true, if_false] <;> (repeat' split) <;> first | exact g0 | rfl | (exfalso; omega) | (exfalso; have e9 : i1 = i := (by omega); subst e9; omega) | (exfalso; simp_all; done),
    fun i1 hi1 => by
      have g0 := hI.2.2.2.2.2.2.2.2.2.2.2.2.2.2.2.2.2.2.2.2.2.2.2.2.2.2.1 i1 hi1
      simp only [mm_up, u3, true_and, and_true, false_and, and_false, if_true, if_false] <;> (repeat' split) <;> first | exact g0 | rfl | (exfalso; omega) | (exfalso; have e9 : i1 = i := (by omega); subst e9; omega) | (exfalso; simp_all; done),
    fun i1 hi1 => by
      have g0 := hI.2.2.2.2.2.2.2.2.2.2.2.2.2.2.2.2.2.2.2.2.2.2.2.2.2.2.2.1 i1 hi1
      simp only [mm_up, u3, true_and, and_true, false_and, and_false, if_true, if_false] <;> (repeat' split) <;> first | exact g0 | rfl | (exfalso; omega) | (exfalso; have e9 : i1 = i := (by omega); subst e9; omega) | (exfalso; simp_all; done),
    fun i1 hi1 => by
      have g0 := hI.2.2.2.2.2.2.2.2.2.2.2.2.2.2.2.2.2.2.2.2.2.2.2.2.2.2.2.2.1 i1 hi1
      simp only [mm_up, u3, true_and, and_true, false_and, and_false, if_true, if_false] <;> (repeat' split) <;> first | exact g0 | rfl | (exfalso; omega) | (exfalso; have e9 : i1 = i := (by omega); subst e9; omega) | (exfalso; simp_all; done),
    fun i1 hi1 => by
      have g0 := hI.2.2.2.2.2.2.2.2.2.2.2.2.2.2.2.2.2.2.2.2.2.2.2.2.2.2.2.2.2.1 i1 hi1
      simp only [mm_up, u3, true_and, and_true, false_and, and_false, if_true, if_false] <;> (repeat' split) <;> first | exact g0 | rfl | (exfalso; omega) | (exfalso; have e9 : i1 = i := (by omega); subst e9; omega) | (exfalso; simp_all; done),
    fun i1 hi1 => by
      have g0 := hI.2.2.2.2.2.2.2.2.2.2.2.2.2.2.2.2.2.2.2.2.2.2.2.2.2.2.2.2.2.2 i1 hi1
      simp only [mm_up, u3, true_and, and_true, false_and, and_false, if_true, if_false] <;> (repeat' split) <;> first | exact g0 | rfl | (exfalso; omega) | (exfalso; have e9 : i1 = i := (by omega); subst e9; omega) | (exfalso; simp_all; done)⟩,
   hX,
   hN,
   hS⟩
theorem MU_mk0 {ci : Nat → Nat → Nat → Int32} {cn : Nat → Nat → Nat → Nat} {co : Nat → Option Nat} {xj : Nat → Nat → Nat → Int64} {xd : Nat → Nat → Nat → UInt64} {xf : Nat → Nat → Nat → UInt32} {xo : Nat → Nat → Nat → Option Nat} {xi : Nat → Nat → Nat → Int32} {xn : Nat → Nat → Nat → Nat} {I : Nat → Nat → Int32} {J : Nat → Nat → Int64} {D : Nat → Nat → UInt64} (h : RM ci cn co xj xd xf xo xi xn I J D) {i : Nat} (hi : i < xn 2 0 0) {v : Int32}  {j : Nat} {z : Int32} (hj : j = 3 * i) (hz : z = v) (isr : ∀ i, i < xn 2 0 0 → xn 1 i 0 ≤ 12) : RM ci cn co xj xd xf xo (u3 xi 2 i 0 v) xn (mm_up I (17) j z) J D := by
  subst hj; subst hz
  obtain ⟨hJ, hD, hI⟩ := h
  exact ⟨hJ,
   hD,
   ⟨by
      have g0 := hI.1
      simp only [mm_up, u3, true_and, and_true, false_and, and_false, if_true, if_false] <;> (repeat' split) <;> first | exact g0 | rfl | (exfalso; omega) | (exfalso; have e9 : i1 = i := (by omega); subst e9; omega) | (exfalso; simp_all; done),
    by
      have g0 := hI.2.1
      simp only [mm_up, u3, true_and, and_true, false_and, and_false, if_true, if_false] <;> (repeat' split) <;> first | exact g0 | rfl | (exfalso; omega) | (exfalso; have e9 : i1 = i := (by omega); subst e9; omega) | (exfalso; simp_all; done),
    fun i1 hi1 => by
      have g0 := hI.2.2.1 i1 hi1
      simp only [mm_up, u3, true_and, and_true, false_and, and_false, if_true, if_false] <;> (repeat' split) <;> first | exact g0 | rfl | (exfalso; omega) | (exfalso; have e9 : i1 = i := (by omega); subst e9; omega) | (exfalso; simp_all; done),
    fun i1 hi1 => by
      have g0 := hI.2.2.2.1 i1 hi1
      simp only [mm_up, u3, true_and, and_true, false_and, and_false, if_true, if_false] <;> (repeat' split) <;> first | exact g0 | rfl | (exfalso; omega) | (exfalso; have e9 : i1 = i := (by omega); subst e9; omega) | (exfalso; simp_all; done),
    fun i1 hi1 => by
      have g0 := hI.2.2.2.2.1 i1 hi1
      simp only [mm_up, u3, true_and, and_true, false_and, and_false, if_true, if_false] <;> (repeat' split) <;> first | exact g0 | rfl | (exfalso; omega) | (exfalso; have e9 : i1 = i := (by omega); subst e9; omega) | (exfalso; simp_all; done),
    fun i1 hi1 => by
      have g0 := hI.2.2.2.2.2.1 i1 hi1
      simp only [mm_up, u3, true_and, and_true, false_and, and_false, if_true, if_false] <;> (repeat' split) <;> first | exact g0 | rfl | (exfalso; omega) | (exfalso; have e9 : i1 = i := (by omega); subst e9; omega) | (exfalso; simp_all; done),
    fun i1 hi1 => by
      have g0 := hI.2.2.2.2.2.2.1 i1 hi1
      simp only [mm_up, u3, true_and, and_true, false_and, and_false, if_true, if_false] <;> (repeat' split) <;> first | exact g0 | rfl | (exfalso; omega) | (exfalso; have e9 : i1 = i := (by omega); subst e9; omega) | (exfalso; simp_all; done),
    fun i1 hi1 k1 hk1 => by
      have g0 := hI.2.2.2.2.2.2.2.1 i1 hi1 k1 hk1
      simp only [mm_up, u3, true_and, and_true, false_and, and_false, if_true, if_false] <;> (repeat' split) <;> first | exact g0 | rfl | (exfalso; omega) | (exfalso; have e9 : i1 = i := (by omega); subst e9; omega) | (exfalso; simp_all; done),
    fun i1 hi1 => by
      have g0 := hI.2.2.2.2.2.2.2.2.1 i1 hi1
      simp only [mm_up, u3, true_and, and_true, false_and, and_false, if_true, if_false] <;> (repeat' split) <;> first | exact g0 | rfl | (exfalso; omega) | (exfalso; have e9 : i1 = i := (by omega); subst e9; omega) | (exfalso; simp_all; done),
    fun i1 hi1 => by
      have g0 := hI.2.2.2.2.2.2.2.2.2.1 i1 hi1
      simp only [mm_up, u3, true_and, and_true, false_and, and_false, if_true, if_false] <;> (repeat' split) <;> first | exact g0 | rfl | (exfalso; omega) | (exfalso; have e9 : i1 = i := (by omega); subst e9; omega) | (exfalso; simp_all; done),
    fun p1 hp1 => by
      have g0 := hI.2.2.2.2.2.2.2.2.2.2.1 p1 hp1
      simp only [mm_up, u3, true_and, and_true, false_and, and_false, if_true, if_false] <;> (repeat' split) <;> first | exact g0 | rfl | (exfalso; omega) | (exfalso; have e9 : i1 = i := (by omega); subst e9; omega) | (exfalso; simp_all; done),
    fun p1 hp1 k1 hk1 => by
      have g0 := hI.2.2.2.2.2.2.2.2.2.2.2.1 p1 hp1 k1 hk1
      simp only [mm_up, u3, true_and, and_true, false_and, and_false, if_true, if_false] <;> (repeat' split) <;> first | exact g0 | rfl | (exfalso; omega) | (exfalso; have e9 : i1 = i := (by omega); subst e9; omega) | (exfalso; simp_all; done),
    fun p1 hp1 k1 hk1 => by
      have g0 := hI.2.2.2.2.2.2.2.2.2.2.2.2.1 p1 hp1 k1 hk1
      simp only [mm_up, u3, true_and, and_true, false_and, and_false, if_true, if_false] <;> (repeat' split) <;> first | exact g0 | rfl | (exfalso; omega) | (exfalso; have e9 : i1 = i := (by omega); subst e9; omega) | (exfalso; simp_all; done),
    fun p1 hp1 k1 hk1 => by
      have g0 := hI.2.2.2.2.2.2.2.2.2.2.2.2.2.1 p1 hp1 k1 hk1
      simp only [mm_up, u3, true_and, and_true, false_and, and_false, if_true, if_false] <;> (repeat' split) <;> first | exact g0 | rfl | (exfalso; omega) | (exfalso; have e9 : i1 = i := (by omega); subst e9; omega) | (exfalso; simp_all; done),
    fun p1 hp1 k1 hk1 => by
      have g0 := hI.2.2.2.2.2.2.2.2.2.2.2.2.2.2.1 p1 hp1 k1 hk1
      simp only [mm_up, u3, true_and, and_true, false_and, and_false, if_true, if_false] <;> (repeat' split) <;> first | exact g0 | rfl | (exfalso; omega) | (exfalso; have e9 : i1 = i := (by omega); subst e9; omega) | (exfalso; simp_all; done),
    fun p1 hp1 => by
      have g0 := hI.2.2.2.2.2.2.2.2.2.2.2.2.2.2.2.1 p1 hp1
      simp only [mm_up, u3, true_and, and_true, false_and, and_false, if_true, if_false] <;> (repeat' split) <;> first | exact g0 | rfl | (exfalso; omega) | (exfalso; have e9 : i1 = i := (by omega); subst e9; omega) | (exfalso; simp_all; done),
    fun p1 hp1 k1 hk1 => by
      have g0 := hI.2.2.2.2.2.2.2.2.2.2.2.2.2.2.2.2.1 p1 hp1 k1 hk1
      simp only [mm_up, u3, true_and, and_true, false_and, and_false, if_true, if_false] <;> (repeat' split) <;> first | exact g0 | rfl | (exfalso; omega) | (exfalso; have e9 : i1 = i := (by omega); subst e9; omega) | (exfalso; simp_all; done),
    fun p1 hp1 k1 hk1 => by
      have g0 := hI.2.2.2.2.2.2.2.2.2.2.2.2.2.2.2.2.2.1 p1 hp1 k1 hk1
      simp only [mm_up, u3, true_and, and_true, false_and, and_false, if_true, if_false] <;> (repeat' split) <;> first | exact g0 | rfl | (exfalso; omega) | (exfalso; have e9 : i1 = i := (by omega); subst e9; omega) | (exfalso; simp_all; done),
    fun p1 hp1 k1 hk1 => by
      have g0 := hI.2.2.2.2.2.2.2.2.2.2.2.2.2.2.2.2.2.2.1 p1 hp1 k1 hk1
      simp only [mm_up, u3, true_and, and_true, false_and, and_false, if_true, if_false] <;> (repeat' split) <;> first | exact g0 | rfl | (exfalso; omega) | (exfalso; have e9 : i1 = i := (by omega); subst e9; omega) | (exfalso; simp_all; done),
    fun p1 hp1 k1 hk1 => by
      have g0 := hI.2.2.2.2.2.2.2.2.2.2.2.2.2.2.2.2.2.2.2.1 p1 hp1 k1 hk1
      simp only [mm_up, u3, true_and, and_true, false_and, and_false, if_true, if_false] <;> (repeat' split) <;> first | exact g0 | rfl | (exfalso; omega) | (exfalso; have e9 : i1 = i := (by omega); subst e9; omega) | (exfalso; simp_all; done),
    fun t1 ht1 k1 hk1 => by
      have g0 := hI.2.2.2.2.2.2.2.2.2.2.2.2.2.2.2.2.2.2.2.2.1 t1 ht1 k1 hk1
      simp only [mm_up, u3, true_and, and_true, false_and, and_false, if_true, if_false] <;> (repeat' split) <;> first | exact g0 | rfl | (exfalso; omega) | (exfalso; have e9 : i1 = i := (by omega); subst e9; omega) | (exfalso; simp_all; done),
    fun t1 ht1 => by
      have g0 := hI.2.2.2.2.2.2.2.2.2.2.2.2.2.2.2.2.2.2.2.2.2.1 t1 ht1
      simp only [mm_up, u3, true_and, and_true, false_and, and_false, if_true, if_false] <;> (repeat' split) <;> first | exact g0 | rfl | (exfalso; omega) | (exfalso; have e9 : i1 = i := (by omega); subst e9; omega) | (exfalso; simp_all; done),
    fun t1 ht1 => by
      have g0 := hI.2.2.2.2.2.2.2.2.2.2.2.2.2.2.2.2.2.2.2.2.2.2.1 t1 ht1
      simp only [mm_up, u3, true_and, and_true, false_and, and_false, if_true, if_false] <;> (repeat' split) <;> first | exact g0 | rfl | (exfalso; omega) | (exfalso; have e9 : i1 = i := (by omega); subst e9; omega) | (exfalso; simp_all; done),
    fun t1 ht1 k1 hk1 => by
      have g0 := hI.2.2.2.2.2.2.2.2.2.2.2.2.2.2.2.2.2.2.2.2.2.2.2.1 t1 ht1 k1 hk1
      simp only [mm_up, u3, true_and, and_true, false_and, and_false, if_true, if_false] <;> (repeat' split) <;> first | exact g0 | rfl | (exfalso; omega) | (exfalso; have e9 : i1 = i := (by omega); subst e9; omega) | (exfalso; simp_all; done),
    fun t1 ht1 k1 hk1 => by
      have g0 := hI.2.2.2.2.2.2.2.2.2.2.2.2.2.2.2.2.2.2.2.2.2.2.2.2.1 t1 ht1 k1 hk1
      simp only [mm_up, u3, true_and, and_true, false_and, and_false, if_true, if_false] <;> (repeat' split) <;> first | exact g0 | rfl | (exfalso; omega) | (exfalso; have e9 : i1 = i := (by omega); subst e9; omega) | (exfalso; simp_all; done),
    fun t1 ht1 => by
      have g0 := hI.2.2.2.2.2.2.2.2.2.2.2.2.2.2.2.2.2.2.2.2.2.2.2.2.2.1 t1 ht1
      simp only [mm_up, u3, true_and, and_true, false_and, and_false, if_true, if_false] <;> (repeat' split) <;> first | exact g0 | rfl | (exfalso; omega) | (exfalso; have e9 : i1 = i := (by omega); subst e9; omega) | (exfalso; simp_all; done),
    fun t1 ht1 => by
      have g0 := hI.2.2.2.2.2.2.2.2.2.2.2.2.2.2.2.2.2.2.2.2.2.2.2.2.2.2.1 t1 ht1
      simp only [mm_up, u3, true_and, and_true, false_and, and_false, if_true, if_false] <;> (repeat' split) <;> first | exact g0 | rfl | (exfalso; omega) | (exfalso; have e9 : i1 = i := (by omega); subst e9; omega) | (exfalso; simp_all; done),
    fun t1 ht1 => by
      have g0 := hI.2.2.2.2.2.2.2.2.2.2.2.2.2.2.2.2.2.2.2.2.2.2.2.2.2.2.2.1 t1 ht1
      simp only [mm_up, u3, true_and, and_true, false_and, and_false, if_true, if_false] <;> (repeat' split) <;> first | exact g0 | rfl | (exfalso; omega) | (exfalso; have e9 : i1 = i := (by omega); subst e9; omega) | (exfalso; simp_all; done),
    fun t1 ht1 => by
      have g0 := hI.2.2.2.2.2.2.2.2.2.2.2.2.2.2.2.2.2.2.2.2.2.2.2.2.2.2.2.2.1 t1 ht1
      simp only [mm_up, u3, true_and, and_true, false_and, and_false, if_true, if_false] <;> (repeat' split) <;> first | exact g0 | rfl | (exfalso; omega) | (exfalso; have e9 : i1 = i := (by omega); subst e9; omega) | (exfalso; simp_all; done),
    fun t1 ht1 => by
      have g0 := hI.2.2.2.2.2.2.2.2.2.2.2.2.2.2.2.2.2.2.2.2.2.2.2.2.2.2.2.2.2.1 t1 ht1
      simp only [mm_up, u3, true_and, and_true, false_and, and_false, if_true, if_false] <;> (repeat' split) <;> first | exact g0 | rfl | (exfalso; omega) | (exfalso; have e9 : i1 = i := (by omega); subst e9; omega) | (exfalso; simp_all; done),
    fun t1 ht1 => by
      have g0 := hI.2.2.2.2.2.2.2.2.2.2.2.2.2.2.2.2.2.2.2.2.2.2.2.2.2.2.2.2.2.2 t1 ht1
      simp only [mm_up, u3, true_and, and_true, false_and, and_false, if_true, if_false] <;> (repeat' split) <;> first | exact g0 | rfl | (exfalso; omega) | (exfalso; have e9 : i1 = i := (by omega); subst e9; omega) | (exfalso; simp_all; done)⟩⟩
theorem CU_mk1 {ci : Nat → Nat → Nat → Int32} {cn : Nat → Nat → Nat → Nat} {co : Nat → Option Nat} {xj : Nat → Nat → Nat → Int64} {xd : Nat → Nat → Nat → UInt64} {xf : Nat → Nat → Nat → UInt32} {xo : Nat → Nat → Nat → Option Nat} {xi : Nat → Nat → Nat → Int32} {xn : Nat → Nat → Nat → Nat} {I : Nat → Nat → Int32} {J : Nat → Nat → Int64} {F : Nat → Nat → UInt32} {D : Nat → Nat → UInt64} {R : Nat → Nat → Option Nat} {nx sl : Nat} (h : RC ci cn co xj xd xf xo xi xn I J F D R nx sl) {i : Nat} (hi : i < xn 2 0 0) {v : Int32}  {j : Nat} {z : Int32} (hj : j = 15) (hz : z = v) : RC ci cn co xj xd xf xo (u3 xi 2 i 1 v) xn (mm_up I (94 + 4 * i) j z) J F D R nx sl := by
  subst hj; subst hz
  have isr := fun i hi => (rc_isor h (i := i) hi).2.2.1
  obtain ⟨hJ, hD, hF, hR, hI, hX, hN, hS⟩ := h
  exact ⟨hJ,
   hD,
   hF,
   hR,
   ⟨fun p1 hp1 => by
      have g0 := hI.1 p1 hp1
      simp only [mm_up, u3, true_and, and_true, false_and, and_false, if_true, if_false] <;> (repeat' split) <;> first | exact g0 | rfl | (exfalso; omega) | (exfalso; have e9 : i1 = i := (by omega); subst e9; omega) | (exfalso; simp_all; done),
    fun p1 hp1 => by
      have g0 := hI.2.1 p1 hp1
      simp only [mm_up, u3, true_and, and_true, false_and, and_false, if_true, if_false] <;> (repeat' split) <;> first | exact g0 | rfl | (exfalso; omega) | (exfalso; have e9 : i1 = i := (by omega); subst e9; omega) | (exfalso; simp_all; done),
    fun p1 hp1 => by
      have g0 := hI.2.2.1 p1 hp1
      simp only [mm_up, u3, true_and, and_true, false_and, and_false, if_true, if_false] <;> (repeat' split) <;> first | exact g0 | rfl | (exfalso; omega) | (exfalso; have e9 : i1 = i := (by omega); subst e9; omega) | (exfalso; simp_all; done),
    fun p1 hp1 k1 hk1 => by
      have g0 := hI.2.2.2.1 p1 hp1 k1 hk1
      simp only [mm_up, u3, true_and, and_true, false_and, and_false, if_true, if_false] <;> (repeat' split) <;> first | exact g0 | rfl | (exfalso; omega) | (exfalso; have e9 : i1 = i := (by omega); subst e9; omega) | (exfalso; simp_all; done),
    fun p1 hp1 k1 hk1 => by
      have g0 := hI.2.2.2.2.1 p1 hp1 k1 hk1
      simp only [mm_up, u3, true_and, and_true, false_and, and_false, if_true, if_false] <;> (repeat' split) <;> first | exact g0 | rfl | (exfalso; omega) | (exfalso; have e9 : i1 = i := (by omega); subst e9; omega) | (exfalso; simp_all; done),
    fun p1 hp1 k1 hk1 => by
      have g0 := hI.2.2.2.2.2.1 p1 hp1 k1 hk1
      simp only [mm_up, u3, true_and, and_true, false_and, and_false, if_true, if_false] <;> (repeat' split) <;> first | exact g0 | rfl | (exfalso; omega) | (exfalso; have e9 : i1 = i := (by omega); subst e9; omega) | (exfalso; simp_all; done),
    fun p1 hp1 k1 hk1 => by
      have g0 := hI.2.2.2.2.2.2.1 p1 hp1 k1 hk1
      simp only [mm_up, u3, true_and, and_true, false_and, and_false, if_true, if_false] <;> (repeat' split) <;> first | exact g0 | rfl | (exfalso; omega) | (exfalso; have e9 : i1 = i := (by omega); subst e9; omega) | (exfalso; simp_all; done),
    fun p1 hp1 k1 hk1 => by
      have g0 := hI.2.2.2.2.2.2.2.1 p1 hp1 k1 hk1
      simp only [mm_up, u3, true_and, and_true, false_and, and_false, if_true, if_false] <;> (repeat' split) <;> first | exact g0 | rfl | (exfalso; omega) | (exfalso; have e9 : i1 = i := (by omega); subst e9; omega) | (exfalso; simp_all; done),
    fun p1 hp1 k1 hk1 => by
      have g0 := hI.2.2.2.2.2.2.2.2.1 p1 hp1 k1 hk1
      simp only [mm_up, u3, true_and, and_true, false_and, and_false, if_true, if_false] <;> (repeat' split) <;> first | exact g0 | rfl | (exfalso; omega) | (exfalso; have e9 : i1 = i := (by omega); subst e9; omega) | (exfalso; simp_all; done),
    fun p1 hp1 k1 hk1 => by
      have g0 := hI.2.2.2.2.2.2.2.2.2.1 p1 hp1 k1 hk1
      simp only [mm_up, u3, true_and, and_true, false_and, and_false, if_true, if_false] <;> (repeat' split) <;> first | exact g0 | rfl | (exfalso; omega) | (exfalso; have e9 : i1 = i := (by omega); subst e9; omega) | (exfalso; simp_all; done),
    fun p1 hp1 k1 hk1 => by
      have g0 := hI.2.2.2.2.2.2.2.2.2.2.1 p1 hp1 k1 hk1
      simp only [mm_up, u3, true_and, and_true, false_and, and_false, if_true, if_false] <;> (repeat' split) <;> first | exact g0 | rfl | (exfalso; omega) | (exfalso; have e9 : i1 = i := (by omega); subst e9; omega) | (exfalso; simp_all; done),
    fun t1 ht1 => by
      have g0 := hI.2.2.2.2.2.2.2.2.2.2.2.1 t1 ht1
      simp only [mm_up, u3, true_and, and_true, false_and, and_false, if_true, if_false] <;> (repeat' split) <;> first | exact g0 | rfl | (exfalso; omega) | (exfalso; have e9 : i1 = i := (by omega); subst e9; omega) | (exfalso; simp_all; done),
    fun t1 ht1 => by
      have g0 := hI.2.2.2.2.2.2.2.2.2.2.2.2.1 t1 ht1
      simp only [mm_up, u3, true_and, and_true, false_and, and_false, if_true, if_false] <;> (repeat' split) <;> first | exact g0 | rfl | (exfalso; omega) | (exfalso; have e9 : i1 = i := (by omega); subst e9; omega) | (exfalso; simp_all; done),
    fun t1 ht1 k1 hk1 => by
      have g0 := hI.2.2.2.2.2.2.2.2.2.2.2.2.2.1 t1 ht1 k1 hk1
      simp only [mm_up, u3, true_and, and_true, false_and, and_false, if_true, if_false] <;> (repeat' split) <;> first | exact g0 | rfl | (exfalso; omega) | (exfalso; have e9 : i1 = i := (by omega); subst e9; omega) | (exfalso; simp_all; done),
    fun t1 ht1 => by
      have g0 := hI.2.2.2.2.2.2.2.2.2.2.2.2.2.2.1 t1 ht1
      simp only [mm_up, u3, true_and, and_true, false_and, and_false, if_true, if_false] <;> (repeat' split) <;> first | exact g0 | rfl | (exfalso; omega) | (exfalso; have e9 : i1 = i := (by omega); subst e9; omega) | (exfalso; simp_all; done),
    fun t1 ht1 => by
      have g0 := hI.2.2.2.2.2.2.2.2.2.2.2.2.2.2.2.1 t1 ht1
      simp only [mm_up, u3, true_and, and_true, false_and, and_false, if_true, if_false] <;> (repeat' split) <;> first | exact g0 | rfl | (exfalso; omega) | (exfalso; have e9 : i1 = i := (by omega); subst e9; omega) | (exfalso; simp_all; done),
    fun t1 ht1 => by
      have g0 := hI.2.2.2.2.2.2.2.2.2.2.2.2.2.2.2.2.1 t1 ht1
      simp only [mm_up, u3, true_and, and_true, false_and, and_false, if_true, if_false] <;> (repeat' split) <;> first | exact g0 | rfl | (exfalso; omega) | (exfalso; have e9 : i1 = i := (by omega); subst e9; omega) | (exfalso; simp_all; done),
    fun t1 ht1 => by
      have g0 := hI.2.2.2.2.2.2.2.2.2.2.2.2.2.2.2.2.2.1 t1 ht1
      simp only [mm_up, u3, true_and, and_true, false_and, and_false, if_true, if_false] <;> (repeat' split) <;> first | exact g0 | rfl | (exfalso; omega) | (exfalso; have e9 : i1 = i := (by omega); subst e9; omega) | (exfalso; simp_all; done),
    fun t1 ht1 => by
      have g0 := hI.2.2.2.2.2.2.2.2.2.2.2.2.2.2.2.2.2.2.1 t1 ht1
      simp only [mm_up, u3, true_and, and_true, false_and, and_false, if_true, if_false] <;> (repeat' split) <;> first | exact g0 | rfl | (exfalso; omega) | (exfalso; have e9 : i1 = i := (by omega); subst e9; omega) | (exfalso; simp_all; done),
    fun t1 ht1 => by
      have g0 := hI.2.2.2.2.2.2.2.2.2.2.2.2.2.2.2.2.2.2.2.1 t1 ht1
      simp only [mm_up, u3, true_and, and_true, false_and, and_false, if_true, if_false] <;> (repeat' split) <;> first | exact g0 | rfl | (exfalso; omega) | (exfalso; have e9 : i1 = i := (by omega); subst e9; omega) | (exfalso; simp_all; done),
    by
      have g0 := hI.2.2.2.2.2.2.2.2.2.2.2.2.2.2.2.2.2.2.2.2.1
      simp only [mm_up, u3, true_and, and_true, false_and, and_false, if_true, if_false] <;> (repeat' split) <;> first | exact g0 | rfl | (exfalso; omega) | (exfalso; have e9 : i1 = i := (by omega); subst e9; omega) | (exfalso; simp_all; done),
    by
      have g0 := hI.2.2.2.2.2.2.2.2.2.2.2.2.2.2.2.2.2.2.2.2.2.1
      simp only [mm_up, u3, true_and, and_true, false_and, and_false, if_true, if_false] <;> (repeat' split) <;> first | exact g0 | rfl | (exfalso; omega) | (exfalso; have e9 : i1 = i := (by omega); subst e9; omega) | (exfalso; simp_all; done),
    fun i1 hi1 => by
      have g0 := hI.2.2.2.2.2.2.2.2.2.2.2.2.2.2.2.2.2.2.2.2.2.2.1 i1 hi1
      simp only [mm_up, u3, true_and, and_true, false_and, and_false, if_true, if_false] <;> (repeat' split) <;> first | exact g0 | rfl | (exfalso; omega) | (exfalso; have e9 : i1 = i := (by omega); subst e9; omega) | (exfalso; simp_all; done),
    fun i1 hi1 => by
      have g0 := hI.2.2.2.2.2.2.2.2.2.2.2.2.2.2.2.2.2.2.2.2.2.2.2.1 i1 hi1
      simp only [mm_up, u3, true_and, and_true, false_and, and_false, if_true, if_false] <;> (repeat' split) <;> first | exact g0 | rfl | (exfalso; omega) | (exfalso; have e9 : i1 = i := (by omega); subst e9; omega) | (exfalso; simp_all; done),
    fun i1 hi1 => by
      have g0 := hI.2.2.2.2.2.2.2.2.2.2.2.2.2.2.2.2.2.2.2.2.2.2.2.2.1 i1 hi1
      simp only [mm_up, u3, true_and, and_true, false_and, and_false, if_true, if_false] <;> (repeat' split) <;> first | exact g0 | rfl | (exfalso; omega) | (exfalso; have e9 : i1 = i := (by omega); subst e9; omega) | (exfalso; simp_all; done),
    fun i1 hi1 => by
      have g0 := hI.2.2.2.2.2.2.2.2.2.2.2.2.2.2.2.2.2.2.2.2.2.2.2.2.2.1 i1 hi1
      simp only [mm_up, u3, true_and, and_true, false_and, and_false, if_true, if_false] <;> (repeat' split) <;> first | exact g0 | rfl | (exfalso; omega) | (exfalso; have e9 : i1 = i := (by omega); subst e9; omega) | (exfalso; simp_all; done),
    fun i1 hi1 => by
      have g0 := hI.2.2.2.2.2.2.2.2.2.2.2.2.2.2.2.2.2.2.2.2.2.2.2.2.2.2.1 i1 hi1
      simp only [mm_up, u3, true_and, and_true, false_and, and_false, if_true, if_false] <;> (repeat' split) <;> first | exact g0 | rfl | (exfalso; omega) | (exfalso; have e9 : i1 = i := (by omega); subst e9; omega) | (exfalso; simp_all; done),
    fun i1 hi1 => by
      have g0 := hI.2.2.2.2.2.2.2.2.2.2.2.2.2.2.2.2.2.2.2.2.2.2.2.2.2.2.2.1 i1 hi1
      simp only [mm_up, u3, true_and, and_true, false_and, and_false, if_true, if_false] <;> (repeat' split) <;> first | exact g0 | rfl | (exfalso; omega) | (exfalso; have e9 : i1 = i := (by omega); subst e9; omega) | (exfalso; simp_all; done),
    fun i1 hi1 => by
      have g0 := hI.2.2.2.2.2.2.2.2.2.2.2.2.2.2.2.2.2.2.2.2.2.2.2.2.2.2.2.2.1 i1 hi1
      simp only [mm_up, u3, true_and, and_true, false_and, and_false, if_true, if_false] <;> (repeat' split) <;> first | exact g0 | rfl | (exfalso; omega) | (exfalso; have e9 : i1 = i := (by omega); subst e9; omega) | (exfalso; simp_all; done),
    fun i1 hi1 => by
      have g0 := hI.2.2.2.2.2.2.2.2.2.2.2.2.2.2.2.2.2.2.2.2.2.2.2.2.2.2.2.2.2.1 i1 hi1
      simp only [mm_up, u3, true_and, and_true, false_and, and_false, if_true, if_false] <;> (repeat' split) <;> first | exact g0 | rfl | (exfalso; omega) | (exfalso; have e9 : i1 = i := (by omega); subst e9; omega) | (exfalso; simp_all; done),
    fun i1 hi1 => by
      have g0 := hI.2.2.2.2.2.2.2.2.2.2.2.2.2.2.2.2.2.2.2.2.2.2.2.2.2.2.2.2.2.2 i1 hi1
      simp only [mm_up, u3, true_and, and_true, false_and, and_false, if_true, if_false] <;> (repeat' split) <;> first | exact g0 | rfl | (exfalso; omega) | (exfalso; have e9 : i1 = i := (by omega); subst e9; omega) | (exfalso; simp_all; done)⟩,
   hX,
   hN,
   hS⟩
theorem MU_mk1 {ci : Nat → Nat → Nat → Int32} {cn : Nat → Nat → Nat → Nat} {co : Nat → Option Nat} {xj : Nat → Nat → Nat → Int64} {xd : Nat → Nat → Nat → UInt64} {xf : Nat → Nat → Nat → UInt32} {xo : Nat → Nat → Nat → Option Nat} {xi : Nat → Nat → Nat → Int32} {xn : Nat → Nat → Nat → Nat} {I : Nat → Nat → Int32} {J : Nat → Nat → Int64} {D : Nat → Nat → UInt64} (h : RM ci cn co xj xd xf xo xi xn I J D) {i : Nat} (hi : i < xn 2 0 0) {v : Int32}  {j : Nat} {z : Int32} (hj : j = 3 * i + 1) (hz : z = v) (isr : ∀ i, i < xn 2 0 0 → xn 1 i 0 ≤ 12) : RM ci cn co xj xd xf xo (u3 xi 2 i 1 v) xn (mm_up I (17) j z) J D := by
  subst hj; subst hz
  obtain ⟨hJ, hD, hI⟩ := h
  exact ⟨hJ,
   hD,
   ⟨by
      have g0 := hI.1
      simp only [mm_up, u3, true_and, and_true, false_and, and_false, if_true, if_false] <;> (repeat' split) <;> first | exact g0 | rfl | (exfalso; omega) | (exfalso; have e9 : i1 = i := (by omega); subst e9; omega) | (exfalso; simp_all; done),
    by
      have g0 := hI.2.1
      simp only [mm_up, u3, true_and, and_true, false_and, and_false, if_true, if_false] <;> (repeat' split) <;> first | exact g0 | rfl | (exfalso; omega) | (exfalso; have e9 : i1 = i := (by omega); subst e9; omega) | (exfalso; simp_all; done),
    fun i1 hi1 => by
      have g0 := hI.2.2.1 i1 hi1
      simp only [mm_up, u3, true_and, and_true, false_and, and_false, if_true, if_false] <;> (repeat' split) <;> first | exact g0 | rfl | (exfalso; omega) | (exfalso; have e9 : i1 = i := (by omega); subst e9; omega) | (exfalso; simp_all; done),
    fun i1 hi1 => by
      have g0 := hI.2.2.2.1 i1 hi1
      simp only [mm_up, u3, true_and, and_true, false_and, and_false, if_true, if_false] <;> (repeat' split) <;> first | exact g0 | rfl | (exfalso; omega) | (exfalso; have e9 : i1 = i := (by omega); subst e9; omega) | (exfalso; simp_all; done),
    fun i1 hi1 => by
      have g0 := hI.2.2.2.2.1 i1 hi1
      simp only [mm_up, u3, true_and, and_true, false_and, and_false, if_true, if_false] <;> (repeat' split) <;> first | exact g0 | rfl | (exfalso; omega) | (exfalso; have e9 : i1 = i := (by omega); subst e9; omega) | (exfalso; simp_all; done),
    fun i1 hi1 => by
      have g0 := hI.2.2.2.2.2.1 i1 hi1
      simp only [mm_up, u3, true_and, and_true, false_and, and_false, if_true, if_false] <;> (repeat' split) <;> first | exact g0 | rfl | (exfalso; omega) | (exfalso; have e9 : i1 = i := (by omega); subst e9; omega) | (exfalso; simp_all; done),
    fun i1 hi1 => by
      have g0 := hI.2.2.2.2.2.2.1 i1 hi1
      simp only [mm_up, u3, true_and, and_true, false_and, and_false, if_true, if_false] <;> (repeat' split) <;> first | exact g0 | rfl | (exfalso; omega) | (exfalso; have e9 : i1 = i := (by omega); subst e9; omega) | (exfalso; simp_all; done),
    fun i1 hi1 k1 hk1 => by
      have g0 := hI.2.2.2.2.2.2.2.1 i1 hi1 k1 hk1
      simp only [mm_up, u3, true_and, and_true, false_and, and_false, if_true, if_false] <;> (repeat' split) <;> first | exact g0 | rfl | (exfalso; omega) | (exfalso; have e9 : i1 = i := (by omega); subst e9; omega) | (exfalso; simp_all; done),
    fun i1 hi1 => by
      have g0 := hI.2.2.2.2.2.2.2.2.1 i1 hi1
      simp only [mm_up, u3, true_and, and_true, false_and, and_false, if_true, if_false] <;> (repeat' split) <;> first | exact g0 | rfl | (exfalso; omega) | (exfalso; have e9 : i1 = i := (by omega); subst e9; omega) | (exfalso; simp_all; done),
    fun i1 hi1 => by
      have g0 := hI.2.2.2.2.2.2.2.2.2.1 i1 hi1
      simp only [mm_up, u3, true_and, and_true, false_and, and_false, if_true, if_false] <;> (repeat' split) <;> first | exact g0 | rfl | (exfalso; omega) | (exfalso; have e9 : i1 = i := (by omega); subst e9; omega) | (exfalso; simp_all; done),
    fun p1 hp1 => by
      have g0 := hI.2.2.2.2.2.2.2.2.2.2.1 p1 hp1
      simp only [mm_up, u3, true_and, and_true, false_and, and_false, if_true, if_false] <;> (repeat' split) <;> first | exact g0 | rfl | (exfalso; omega) | (exfalso; have e9 : i1 = i := (by omega); subst e9; omega) | (exfalso; simp_all; done),
    fun p1 hp1 k1 hk1 => by
      have g0 := hI.2.2.2.2.2.2.2.2.2.2.2.1 p1 hp1 k1 hk1
      simp only [mm_up, u3, true_and, and_true, false_and, and_false, if_true, if_false] <;> (repeat' split) <;> first | exact g0 | rfl | (exfalso; omega) | (exfalso; have e9 : i1 = i := (by omega); subst e9; omega) | (exfalso; simp_all; done),
    fun p1 hp1 k1 hk1 => by
      have g0 := hI.2.2.2.2.2.2.2.2.2.2.2.2.1 p1 hp1 k1 hk1
      simp only [mm_up, u3, true_and, and_true, false_and, and_false, if_true, if_false] <;> (repeat' split) <;> first | exact g0 | rfl | (exfalso; omega) | (exfalso; have e9 : i1 = i := (by omega); subst e9; omega) | (exfalso; simp_all; done),
    fun p1 hp1 k1 hk1 => by
      have g0 := hI.2.2.2.2.2.2.2.2.2.2.2.2.2.1 p1 hp1 k1 hk1
      simp only [mm_up, u3, true_and, and_true, false_and, and_false, if_true, if_false] <;> (repeat' split) <;> first | exact g0 | rfl | (exfalso; omega) | (exfalso; have e9 : i1 = i := (by omega); subst e9; omega) | (exfalso; simp_all; done),
    fun p1 hp1 k1 hk1 => by
      have g0 := hI.2.2.2.2.2.2.2.2.2.2.2.2.2.2.1 p1 hp1 k1 hk1
      simp only [mm_up, u3, true_and, and_true, false_and, and_false, if_true, if_false] <;> (repeat' split) <;> first | exact g0 | rfl | (exfalso; omega) | (exfalso; have e9 : i1 = i := (by omega); subst e9; omega) | (exfalso; simp_all; done),
    fun p1 hp1 => by
      have g0 := hI.2.2.2.2.2.2.2.2.2.2.2.2.2.2.2.1 p1 hp1
      simp only [mm_up, u3, true_and, and_true, false_and, and_false, if_true, if_false] <;> (repeat' split) <;> first | exact g0 | rfl | (exfalso; omega) | (exfalso; have e9 : i1 = i := (by omega); subst e9; omega) | (exfalso; simp_all; done),
    fun p1 hp1 k1 hk1 => by
      have g0 := hI.2.2.2.2.2.2.2.2.2.2.2.2.2.2.2.2.1 p1 hp1 k1 hk1
      simp only [mm_up, u3, true_and, and_true, false_and, and_false, if_true, if_false] <;> (repeat' split) <;> first | exact g0 | rfl | (exfalso; omega) | (exfalso; have e9 : i1 = i := (by omega); subst e9; omega) | (exfalso; simp_all; done),
    fun p1 hp1 k1 hk1 => by
      have g0 := hI.2.2.2.2.2.2.2.2.2.2.2.2.2.2.2.2.2.1 p1 hp1 k1 hk1
      simp only [mm_up, u3, true_and, and_true, false_and, and_false, if_true, if_false] <;> (repeat' split) <;> first | exact g0 | rfl | (exfalso; omega) | (exfalso; have e9 : i1 = i := (by omega); subst e9; omega) | (exfalso; simp_all; done),
    fun p1 hp1 k1 hk1 => by
      have g0 := hI.2.2.2.2.2.2.2.2.2.2.2.2.2.2.2.2.2.2.1 p1 hp1 k1 hk1
      simp only [mm_up, u3, true_and, and_true, false_and, and_false, if_true, if_false] <;> (repeat' split) <;> first | exact g0 | rfl | (exfalso; omega) | (exfalso; have e9 : i1 = i := (by omega); subst e9; omega) | (exfalso; simp_all; done),
    fun p1 hp1 k1 hk1 => by
      have g0 := hI.2.2.2.2.2.2.2.2.2.2.2.2.2.2.2.2.2.2.2.1 p1 hp1 k1 hk1
      simp only [mm_up, u3, true_and, and_true, false_and, and_false, if_true, if_false] <;> (repeat' split) <;> first | exact g0 | rfl | (exfalso; omega) | (exfalso; have e9 : i1 = i := (by omega); subst e9; omega) | (exfalso; simp_all; done),
    fun t1 ht1 k1 hk1 => by
      have g0 := hI.2.2.2.2.2.2.2.2.2.2.2.2.2.2.2.2.2.2.2.2.1 t1 ht1 k1 hk1
      simp only [mm_up, u3, true_and, and_true, false_and, and_false, if_true, if_false] <;> (repeat' split) <;> first | exact g0 | rfl | (exfalso; omega) | (exfalso; have e9 : i1 = i := (by omega); subst e9; omega) | (exfalso; simp_all; done),
    fun t1 ht1 => by
      have g0 := hI.2.2.2.2.2.2.2.2.2.2.2.2.2.2.2.2.2.2.2.2.2.1 t1 ht1
      simp only [mm_up, u3, true_and, and_true, false_and, and_false, if_true, if_false] <;> (repeat' split) <;> first | exact g0 | rfl | (exfalso; omega) | (exfalso; have e9 : i1 = i := (by omega); subst e9; omega) | (exfalso; simp_all; done),
    fun t1 ht1 => by
      have g0 := hI.2.2.2.2.2.2.2.2.2.2.2.2.2.2.2.2.2.2.2.2.2.2.1 t1 ht1
      simp only [mm_up, u3, true_and, and_true, false_and, and_false, if_true, if_false] <;> (repeat' split) <;> first | exact g0 | rfl | (exfalso; omega) | (exfalso; have e9 : i1 = i := (by omega); subst e9; omega) | (exfalso; simp_all; done),
    fun t1 ht1 k1 hk1 => by
      have g0 := hI.2.2.2.2.2.2.2.2.2.2.2.2.2.2.2.2.2.2.2.2.2.2.2.1 t1 ht1 k1 hk1
      simp only [mm_up, u3, true_and, and_true, false_and, and_false, if_true, if_false] <;> (repeat' split) <;> first | exact g0 | rfl | (exfalso; omega) | (exfalso; have e9 : i1 = i := (by omega); subst e9; omega) | (exfalso; simp_all; done),
    fun t1 ht1 k1 hk1 => by
      have g0 := hI.2.2.2.2.2.2.2.2.2.2.2.2.2.2.2.2.2.2.2.2.2.2.2.2.1 t1 ht1 k1 hk1
      simp only [mm_up, u3, true_and, and_true, false_and, and_false, if_true, if_false] <;> (repeat' split) <;> first | exact g0 | rfl | (exfalso; omega) | (exfalso; have e9 : i1 = i := (by omega); subst e9; omega) | (exfalso; simp_all; done),
    fun t1 ht1 => by
      have g0 := hI.2.2.2.2.2.2.2.2.2.2.2.2.2.2.2.2.2.2.2.2.2.2.2.2.2.1 t1 ht1
      simp only [mm_up, u3, true_and, and_true, false_and, and_false, if_true, if_false] <;> (repeat' split) <;> first | exact g0 | rfl | (exfalso; omega) | (exfalso; have e9 : i1 = i := (by omega); subst e9; omega) | (exfalso; simp_all; done),
    fun t1 ht1 => by
      have g0 := hI.2.2.2.2.2.2.2.2.2.2.2.2.2.2.2.2.2.2.2.2.2.2.2.2.2.2.1 t1 ht1
      simp only [mm_up, u3, true_and, and_true, false_and, and_false, if_true, if_false] <;> (repeat' split) <;> first | exact g0 | rfl | (exfalso; omega) | (exfalso; have e9 : i1 = i := (by omega); subst e9; omega) | (exfalso; simp_all; done),
    fun t1 ht1 => by
      have g0 := hI.2.2.2.2.2.2.2.2.2.2.2.2.2.2.2.2.2.2.2.2.2.2.2.2.2.2.2.1 t1 ht1
      simp only [mm_up, u3, true_and, and_true, false_and, and_false, if_true, if_false] <;> (repeat' split) <;> first | exact g0 | rfl | (exfalso; omega) | (exfalso; have e9 : i1 = i := (by omega); subst e9; omega) | (exfalso; simp_all; done),
    fun t1 ht1 => by
      have g0 := hI.2.2.2.2.2.2.2.2.2.2.2.2.2.2.2.2.2.2.2.2.2.2.2.2.2.2.2.2.1 t1 ht1
      simp only [mm_up, u3, true_and, and_true, false_and, and_false, if_true, if_false] <;> (repeat' split) <;> first | exact g0 | rfl | (exfalso; omega) | (exfalso; have e9 : i1 = i := (by omega); subst e9; omega) | (exfalso; simp_all; done),
    fun t1 ht1 => by
      have g0 := hI.2.2.2.2.2.2.2.2.2.2.2.2.2.2.2.2.2.2.2.2.2.2.2.2.2.2.2.2.2.1 t1 ht1
      simp only [mm_up, u3, true_and, and_true, false_and, and_false, if_true, if_false] <;> (repeat' split) <;> first | exact g0 | rfl | (exfalso; omega) | (exfalso; have e9 : i1 = i := (by omega); subst e9; omega) | (exfalso; simp_all; done),
    fun t1 ht1 => by
      have g0 := hI.2.2.2.2.2.2.2.2.2.2.2.2.2.2.2.2.2.2.2.2.2.2.2.2.2.2.2.2.2.2 t1 ht1
      simp only [mm_up, u3, true_and, and_true, false_and, and_false, if_true, if_false] <;> (repeat' split) <;> first | exact g0 | rfl | (exfalso; omega) | (exfalso; have e9 : i1 = i := (by omega); subst e9; omega) | (exfalso; simp_all; done)⟩⟩
theorem CU_mk2 {ci : Nat → Nat → Nat → Int32} {cn : Nat → Nat → Nat → Nat} {co : Nat → Option Nat} {xj : Nat → Nat → Nat → Int64} {xd : Nat → Nat → Nat → UInt64} {xf : Nat → Nat → Nat → UInt32} {xo : Nat → Nat → Nat → Option Nat} {xi : Nat → Nat → Nat → Int32} {xn : Nat → Nat → Nat → Nat} {I : Nat → Nat → Int32} {J : Nat → Nat → Int64} {F : Nat → Nat → UInt32} {D : Nat → Nat → UInt64} {R : Nat → Nat → Option Nat} {nx sl : Nat} (h : RC ci cn co xj xd xf xo xi xn I J F D R nx sl) {i : Nat} (hi : i < xn 2 0 0) {v : Int32}  {j : Nat} {z : Int32} (hj : j = 16) (hz : z = v) : RC ci cn co xj xd xf xo (u3 xi 2 i 2 v) xn (mm_up I (94 + 4 * i) j z) J F D R nx sl := by
  subst hj; subst hz
  have isr := fun i hi => (rc_isor h (i := i) hi).2.2.1
  obtain ⟨hJ, hD, hF, hR, hI, hX, hN, hS⟩ := h
  exact ⟨hJ,
   hD,
   hF,
   hR,
   ⟨fun p1 hp1 => by
      have g0 := hI.1 p1 hp1
      simp only [mm_up, u3, true_and, and_true, false_and, and_false, if_true, if_false] <;> (repeat' split) <;> first | exact g0 | rfl | (exfalso; omega) | (exfalso; have e9 : i1 = i := (by omega); subst e9; omega) | (exfalso; simp_all; done),
    fun p1 hp1 => by
      have g0 := hI.2.1 p1 hp1
      simp only [mm_up, u3, true_and, and_true, false_and, and_false, if_true, if_false] <;> (repeat' split) <;> first | exact g0 | rfl | (exfalso; omega) | (exfalso; have e9 : i1 = i := (by omega); subst e9; omega) | (exfalso; simp_all; done),
    fun p1 hp1 => by
      have g0 := hI.2.2.1 p1 hp1
      simp only [mm_up, u3, true_and, and_true, false_and, and_false, if_true, if_false] <;> (repeat' split) <;> first | exact g0 | rfl | (exfalso; omega) | (exfalso; have e9 : i1 = i := (by omega); subst e9; omega) | (exfalso; simp_all; done),
    fun p1 hp1 k1 hk1 => by
      have g0 := hI.2.2.2.1 p1 hp1 k1 hk1
      simp only [mm_up, u3, true_and, and_true, false_and, and_false, if_true, if_false] <;> (repeat' split) <;> first | exact g0 | rfl | (exfalso; omega) | (exfalso; have e9 : i1 = i := (by omega); subst e9; omega) | (exfalso; simp_all; done),
    fun p1 hp1 k1 hk1 => by
      have g0 := hI.2.2.2.2.1 p1 hp1 k1 hk1
      simp only [mm_up, u3, true_and, and_true, false_and, and_false, if_true, if_false] <;> (repeat' split) <;> first | exact g0 | rfl | (exfalso; omega) | (exfalso; have e9 : i1 = i := (by omega); subst e9; omega) | (exfalso; simp_all; done),
    fun p1 hp1 k1 hk1 => by
      have g0 := hI.2.2.2.2.2.1 p1 hp1 k1 hk1
      simp only [mm_up, u3, true_and, and_true, false_and, and_false, if_true, if_false] <;> (repeat' split) <;> first | exact g0 | rfl | (exfalso; omega) | (exfalso; have e9 : i1 = i := (by omega); subst e9; omega) | (exfalso; simp_all; done),
    fun p1 hp1 k1 hk1 => by
      have g0 := hI.2.2.2.2.2.2.1 p1 hp1 k1 hk1
      simp only [mm_up, u3, true_and, and_true, false_and, and_false, if_true, if_false] <;> (repeat' split) <;> first | exact g0 | rfl | (exfalso; omega) | (exfalso; have e9 : i1 = i := (by omega); subst e9; omega) | (exfalso; simp_all; done),
    fun p1 hp1 k1 hk1 => by
      have g0 := hI.2.2.2.2.2.2.2.1 p1 hp1 k1 hk1
      simp only [mm_up, u3, true_and, and_true, false_and, and_false, if_true, if_false] <;> (repeat' split) <;> first | exact g0 | rfl | (exfalso; omega) | (exfalso; have e9 : i1 = i := (by omega); subst e9; omega) | (exfalso; simp_all; done),
    fun p1 hp1 k1 hk1 => by
      have g0 := hI.2.2.2.2.2.2.2.2.1 p1 hp1 k1 hk1
      simp only [mm_up, u3, true_and, and_true, false_and, and_false, if_true, if_false] <;> (repeat' split) <;> first | exact g0 | rfl | (exfalso; omega) | (exfalso; have e9 : i1 = i := (by omega); subst e9; omega) | (exfalso; simp_all; done),
    fun p1 hp1 k1 hk1 => by
      have g0 := hI.2.2.2.2.2.2.2.2.2.1 p1 hp1 k1 hk1
      simp only [mm_up, u3, true_and, and_true, false_and, and_false, if_true, if_false] <;> (repeat' split) <;> first | exact g0 | rfl | (exfalso; omega) | (exfalso; have e9 : i1 = i := (by omega); subst e9; omega) | (exfalso; simp_all; done),
    fun p1 hp1 k1 hk1 => by
      have g0 := hI.2.2.2.2.2.2.2.2.2.2.1 p1 hp1 k1 hk1
      simp only [mm_up, u3, true_and, and_true, false_and, and_false, if_true, if_false] <;> (repeat' split) <;> first | exact g0 | rfl | (exfalso; omega) | (exfalso; have e9 : i1 = i := (by omega); subst e9; omega) | (exfalso; simp_all; done),
    fun t1 ht1 => by
      have g0 := hI.2.2.2.2.2.2.2.2.2.2.2.1 t1 ht1
      simp only [mm_up, u3, true_and, and_true, false_and, and_false, if_true, if_false] <;> (repeat' split) <;> first | exact g0 | rfl | (exfalso; omega) | (exfalso; have e9 : i1 = i := (by omega); subst e9; omega) | (exfalso; simp_all; done),
    fun t1 ht1 => by
      have g0 := hI.2.2.2.2.2.2.2.2.2.2.2.2.1 t1 ht1
      simp only [mm_up, u3, true_and, and_true, false_and, and_false, if_true, if_false] <;> (repeat' split) <;> first | exact g0 | rfl | (exfalso; omega) | (exfalso; have e9 : i1 = i := (by omega); subst e9; omega) | (exfalso; simp_all; done),
    fun t1 ht1 k1 hk1 => by
      have g0 := hI.2.2.2.2.2.2.2.2.2.2.2.2.2.1 t1 ht1 k1 hk1
      simp only [mm_up, u3, true_and, and_true, false_and, and_false, if_true, if_false] <;> (repeat' split) <;> first | exact g0 | rfl | (exfalso; omega) | (exfalso; have e9 : i1 = i := (by omega); subst e9; omega) | (exfalso; simp_all; done),
    fun t1 ht1 => by
      have g0 := hI.2.2.2.2.2.2.2.2.2.2.2.2.2.2.1 t1 ht1
      simp only [mm_up, u3, true_and, and_true, false_and, and_false, if_true, if_false] <;> (repeat' split) <;> first | exact g0 | rfl | (exfalso; omega) | (exfalso; have e9 : i1 = i := (by omega); subst e9; omega) | (exfalso; simp_all; done),
    fun t1 ht1 => by
      have g0 := hI.2.2.2.2.2.2.2.2.2.2.2.2.2.2.2.1 t1 ht1
      simp only [mm_up, u3, true_and, and_true, false_and, and_false, if_true, if_false] <;> (repeat' split) <;> first | exact g0 | rfl | (exfalso; omega) | (exfalso; have e9 : i1 = i := (by omega); subst e9; omega) | (exfalso; simp_all; done),
    fun t1 ht1 => by
      have g0 := hI.2.2.2.2.2.2.2.2.2.2.2.2.2.2.2.2.1 t1 ht1
      simp only [mm_up, u3, true_and, and_true, false_and, and_false, if_true, if_false] <;> (repeat' split) <;> first | exact g0 | rfl | (exfalso; omega) | (exfalso; have e9 : i1 = i := (by omega); subst e9; omega) | (exfalso; simp_all; done),
    fun t1 ht1 => by
      have g0 := hI.2.2.2.2.2.2.2.2.2.2.2.2.2.2.2.2.2.1 t1 ht1
      simp only [mm_up, u3, true_and, and_true, false_and, and_false, if_true, if_false] <;> (repeat' split) <;> first | exact g0 | rfl | (exfalso; omega) | (exfalso; have e9 : i1 = i := (by omega); subst e9; omega) | (exfalso; simp_all; done),
    fun t1 ht1 => by
      have g0 := hI.2.2.2.2.2.2.2.2.2.2.2.2.2.2.2.2.2.2.1 t1 ht1
      simp only [mm_up, u3, true_and, and_true, false_and, and_false, if_true, if_false] <;> (repeat' split) <;> first | exact g0 | rfl | (exfalso; omega) | (exfalso; have e9 : i1 = i := (by omega); subst e9; omega) | (exfalso; simp_all; done),
    fun t1 ht1 => by
      have g0 := hI.2.2.2.2.2.2.2.2.2.2.2.2.2.2.2.2.2.2.2.1 t1 ht1
      simp only [mm_up, u3, true_and, and_true, false_and, and_false, if_true, if_false] <;> (repeat' split) <;> first | exact g0 | rfl | (exfalso; omega) | (exfalso; have e9 : i1 = i := (by omega); subst e9; omega) | (exfalso; simp_all; done),
    by
      have g0 := hI.2.2.2.2.2.2.2.2.2.2.2.2.2.2.2.2.2.2.2.2.1
      simp only [mm_up, u3, true_and, and_true, false_and, and_false, if_true, if_false] <;> (repeat' split) <;> first | exact g0 | rfl | (exfalso; omega) | (exfalso; have e9 : i1 = i := (by omega); subst e9; omega) | (exfalso; simp_all; done),
    by
      have g0 := hI.2.2.2.2.2.2.2.2.2.2.2.2.2.2.2.2.2.2.2.2.2.1
      simp only [mm_up, u3, true_and, and_true, false_and, and_false, if_true, if_false] <;> (repeat' split) <;> first | exact g0 | rfl | (exfalso; omega) | (exfalso; have e9 : i1 = i := (by omega); subst e9; omega) | (exfalso; simp_all; done),
    fun i1 hi1 => by
      have g0 := hI.2.2.2.2.2.2.2.2.2.2.2.2.2.2.2.2.2.2.2.2.2.2.1 i1 hi1
      simp only [mm_up, u3, true_and, and_true, false_and, and_false, if_true, if_false] <;> (repeat' split) <;> first | exact g0 | rfl | (exfalso; omega) | (exfalso; have e9 : i1 = i := (by omega); subst e9; omega) | (exfalso; simp_all; done),
    fun i1 hi1 => by
      have g0 := hI.2.2.2.2.2.2.2.2.2.2.2.2.2.2.2.2.2.2.2.2.2.2.2.1 i1 hi1
      simp only [mm_up, u3, true_and, and_true, false_and, and_false, if_true, if_false] <;> (repeat' split) <;> first | exact g0 | rfl | (exfalso; omega) | (exfalso; have e9 : i1 = i := (by omega); subst e9; omega) | (exfalso; simp_all; done),
    fun i1 hi1 => by
      have g0 := hI.2.2.2.2.2.2.2.2.2.2.2.2.2.2.2.2.2.2.2.2.2.2.2.2.1 i1 hi1
      simp only [mm_up, u3, true_and, and_true, false_and, and_false, if_true, if_false] <;> (repeat' split) <;> first | exact g0 | rfl | (exfalso; omega) | (exfalso; have e9 : i1 = i := (by omega); subst e9; omega) | (exfalso; simp_all; done),
    fun i1 hi1 => by
      have g0 := hI.2.2.2.2.2.2.2.2.2.2.2.2.2.2.2.2.2.2.2.2.2.2.2.2.2.1 i1 hi1
      simp only [mm_up, u3, true_and, and_true, false_and, and_false, if_true, if_false] <;> (repeat' split) <;> first | exact g0 | rfl | (exfalso; omega) | (exfalso; have e9 : i1 = i := (by omega); subst e9; omega) | (exfalso; simp_all; done),
    fun i1 hi1 => by
      have g0 := hI.2.2.2.2.2.2.2.2.2.2.2.2.2.2.2.2.2.2.2.2.2.2.2.2.2.2.1 i1 hi1
      simp only [mm_up, u3, true_and, and_true, false_and, and_false, if_true, if_false] <;> (repeat' split) <;> first | exact g0 | rfl | (exfalso; omega) | (exfalso; have e9 : i1 = i := (by omega); subst e9; omega) | (exfalso; simp_all; done),
    fun i1 hi1 => by
      have g0 := hI.2.2.2.2.2.2.2.2.2.2.2.2.2.2.2.2.2.2.2.2.2.2.2.2.2.2.2.1 i1 hi1
      simp only [mm_up, u3, true_and, and_true, false_and, and_false, if_true, if_false] <;> (repeat' split) <;> first | exact g0 | rfl | (exfalso; omega) | (exfalso; have e9 : i1 = i := (by omega); subst e9; omega) | (exfalso; simp_all; done),
    fun i1 hi1 => by
      have g0 := hI.2.2.2.2.2.2.2.2.2.2.2.2.2.2.2.2.2.2.2.2.2.2.2.2.2.2.2.2.1 i1 hi1
      simp only [mm_up, u3, true_and, and_true, false_and, and_false, if_true, if_false] <;> (repeat' split) <;> first | exact g0 | rfl | (exfalso; omega) | (exfalso; have e9 : i1 = i := (by omega); subst e9; omega) | (exfalso; simp_all; done),
    fun i1 hi1 => by
      have g0 := hI.2.2.2.2.2.2.2.2.2.2.2.2.2.2.2.2.2.2.2.2.2.2.2.2.2.2.2.2.2.1 i1 hi1
      simp only [mm_up, u3, true_and, and_true, false_and, and_false, if_true, if_false] <;> (repeat' split) <;> first | exact g0 | rfl | (exfalso; omega) | (exfalso; have e9 : i1 = i := (by omega); subst e9; omega) | (exfalso; simp_all; done),
    fun i1 hi1 => by
      have g0 := hI.2.2.2.2.2.2.2.2.2.2.2.2.2.2.2.2.2.2.2.2.2.2.2.2.2.2.2.2.2.2 i1 hi1
      simp only [mm_up, u3, true_and, and_true, false_and, and_false, if_true, if_false] <;> (repeat' split) <;> first | exact g0 | rfl | (exfalso; omega) | (exfalso; have e9 : i1 = i := (by omega); subst e9; omega) | (exfalso; simp_all; done)⟩,
   hX,
   hN,
   hS⟩
theorem MU_mk2 {ci : Nat → Nat → Nat → Int32} {cn : Nat → Nat → Nat → Nat} {co : Nat → Option Nat} {xj : Nat → Nat → Nat → Int64} {xd : Nat → Nat → Nat → UInt64} {xf : Nat → Nat → Nat → UInt32} {xo : Nat → Nat → Nat → Option Nat} {xi : Nat → Nat → Nat → Int32} {xn : Nat → Nat → Nat → Nat} {I : Nat → Nat → Int32} {J : Nat → Nat → Int64} {D : Nat → Nat → UInt64} (h : RM ci cn co xj xd xf xo xi xn I J D) {i : Nat} (hi : i < xn 2 0 0) {v : Int32}  {j : Nat} {z : Int32} (hj : j = 3 * i + 2) (hz : z = v) (isr : ∀ i, i < xn 2 0 0 → xn 1 i 0 ≤ 12) : RM ci cn co xj xd xf xo (u3 xi 2 i 2 v) xn (mm_up I (17) j z) J D := by
  subst hj; subst hz
  obtain ⟨hJ, hD, hI⟩ := h
  exact ⟨hJ,
   hD,
   ⟨by
      have g0 := hI.1
      simp only [mm_up, u3, true_and, and_true, false_and, and_false, if_true, if_false] <;> (repeat' split) <;> first | exact g0 | rfl | (exfalso; omega) | (exfalso; have e9 : i1 = i := (by omega); subst e9; omega) | (exfalso; simp_all; done),
    by
      have g0 := hI.2.1
      simp only [mm_up, u3, true_and, and_true, false_and, and_false, if_true, if_false] <;> (repeat' split) <;> first | exact g0 | rfl | (exfalso; omega) | (exfalso; have e9 : i1 = i := (by omega); subst e9; omega) | (exfalso; simp_all; done),
    fun i1 hi1 => by
      have g0 := hI.2.2.1 i1 hi1
      simp only [mm_up, u3, true_and, and_true, false_and, and_false, if_true, if_false] <;> (repeat' split) <;> first | exact g0 | rfl | (exfalso; omega) | (exfalso; have e9 : i1 = i := (by omega); subst e9; omega) | (exfalso; simp_all; done),
    fun i1 hi1 => by
      have g0 := hI.2.2.2.1 i1 hi1
      simp only [mm_up, u3, true_and, and_true, false_and, and_false, if_true, if_false] <;> (repeat' split) <;> first | exact g0 | rfl | (exfalso; omega) | (exfalso; have e9 : i1 = i := (by omega); subst e9; omega) | (exfalso; simp_all; done),
    fun i1 hi1 => by
      have g0 := hI.2.2.2.2.1 i1 hi1
      simp only [mm_up, u3, true_and, and_true, false_and, and_false, if_true, if_false] <;> (repeat' split) <;> first | exact g0 | rfl | (exfalso; omega) | (exfalso; have e9 : i1 = i := (by omega); subst e9; omega) | (exfalso; simp_all; done),
    fun i1 hi1 => by
      have g0 := hI.2.2.2.2.2.1 i1 hi1
      simp only [mm_up, u3, true_and, and_true, false_and, and_false, if_true, if_false] <;> (repeat' split) <;> first | exact g0 | rfl | (exfalso; omega) | (exfalso; have e9 : i1 = i := (by omega); subst e9; omega) | (exfalso; simp_all; done),
    fun i1 hi1 => by
      have g0 := hI.2.2.2.2.2.2.1 i1 hi1
      simp only [mm_up, u3, true_and, and_true, false_and, and_false, if_true, if_false] <;> (repeat' split) <;> first | exact g0 | rfl | (exfalso; omega) | (exfalso; have e9 : i1 = i := (by omega); subst e9; omega) | (exfalso; simp_all; done),
    fun i1 hi1 k1 hk1 => by
      have g0 := hI.2.2.2.2.2.2.2.1 i1 hi1 k1 hk1
      simp only [mm_up, u3, true_and, and_true, false_and, and_false, if_true, if_false] <;> (repeat' split) <;> first | exact g0 | rfl | (exfalso; omega) | (exfalso; have e9 : i1 = i := (by omega); subst e9; omega) | (exfalso; simp_all; done),
    fun i1 hi1 => by
      have g0 := hI.2.2.2.2.2.2.2.2.1 i1 hi1
      simp only [mm_up, u3, true_and, and_true, false_and, and_false, if_true, if_false] <;> (repeat' split) <;> first | exact g0 | rfl | (exfalso; omega) | (exfalso; have e9 : i1 = i := (by omega); subst e9; omega) | (exfalso; simp_all; done),
    fun i1 hi1 => by
      have g0 := hI.2.2.2.2.2.2.2.2.2.1 i1 hi1
      simp only [mm_up, u3, true_and, and_true, false_and, and_false, if_true, if_false] <;> (repeat' split) <;> first | exact g0 | rfl | (exfalso; omega) | (exfalso; have e9 : i1 = i := (by omega); subst e9; omega) | (exfalso; simp_all; done),
    fun p1 hp1 => by
      have g0 := hI.2.2.2.2.2.2.2.2.2.2.1 p1 hp1
      simp only [mm_up, u3, true_and, and_true, false_and, and_false, if_true, if_false] <;> (repeat' split) <;> first | exact g0 | rfl | (exfalso; omega) | (exfalso; have e9 : i1 = i := (by omega); subst e9; omega) | (exfalso; simp_all; done),
    fun p1 hp1 k1 hk1 => by
      have g0 := hI.2.2.2.2.2.2.2.2.2.2.2.1 p1 hp1 k1 hk1
      simp only [mm_up, u3, true_and, and_true, false_and, and_false, if_true, if_false] <;> (repeat' split) <;> first | exact g0 | rfl | (exfalso; omega) | (exfalso; have e9 : i1 = i := (by omega); subst e9; omega) | (exfalso; simp_all; done),
    fun p1 hp1 k1 hk1 => by
      have g0 := hI.2.2.2.2.2.2.2.2.2.2.2.2.1 p1 hp1 k1 hk1
      simp only [mm_up, u3, true_and, and_true, false_and, and_false, if_true, if_false] <;> (repeat' split) <;> first | exact g0 | rfl | (exfalso; omega) | (exfalso; have e9 : i1 = i := (by omega); subst e9; omega) | (exfalso; simp_all; done),
    fun p1 hp1 k1 hk1 => by
      have g0 := hI.2.2.2.2.2.2.2.2.2.2.2.2.2.1 p1 hp1 k1 hk1
      simp only [mm_up, u3, true_and, and_true, false_and, and_false, if_true, if_false] <;> (repeat' split) <;> first | exact g0 | rfl | (exfalso; omega) | (exfalso; have e9 : i1 = i := (by omega); subst e9; omega) | (exfalso; simp_all; done),
    fun p1 hp1 k1 hk1 => by
      have g0 := hI.2.2.2.2.2.2.2.2.2.2.2.2.2.2.1 p1 hp1 k1 hk1
      simp only [mm_up, u3, true_and, and_true, false_and, and_false, if_true, if_false] <;> (repeat' split) <;> first | exact g0 | rfl | (exfalso; omega) | (exfalso; have e9 : i1 = i := (by omega); subst e9; omega) | (exfalso; simp_all; done),
    fun p1 hp1 => by
      have g0 := hI.2.2.2.2.2.2.2.2.2.2.2.2.2.2.2.1 p1 hp1
      simp only [mm_up, u3, true_and, and_true, false_and, and_false, if_true, if_false] <;> (repeat' split) <;> first | exact g0 | rfl | (exfalso; omega) | (exfalso; have e9 : i1 = i := (by omega); subst e9; omega) | (exfalso; simp_all; done),
    fun p1 hp1 k1 hk1 => by
      have g0 := hI.2.2.2.2.2.2.2.2.2.2.2.2.2.2.2.2.1 p1 hp1 k1 hk1
      simp only [mm_up, u3, true_and, and_true, false_and, and_false, if_true, if_false] <;> (repeat' split) <;> first | exact g0 | rfl | (exfalso; omega) | (exfalso; have e9 : i1 = i := (by omega); subst e9; omega) | (exfalso; simp_all; done),
    fun p1 hp1 k1 hk1 => by
      have g0 := hI.2.2.2.2.2.2.2.2.2.2.2.2.2.2.2.2.2.1 p1 hp1 k1 hk1
      simp only [mm_up, u3, true_and, and_true, false_and, and_false, if_true, if_false] <;> (repeat' split) <;> first | exact g0 | rfl | (exfalso; omega) | (exfalso; have e9 : i1 = i := (by omega); subst e9; omega) | (exfalso; simp_all; done),
    fun p1 hp1 k1 hk1 => by
      have g0 := hI.2.2.2.2.2.2.2.2.2.2.2.2.2.2.2.2.2.2.1 p1 hp1 k1 hk1
      simp only [mm_up, u3, true_and, and_true, false_and, and_false, if_true, if_false] <;> (repeat' split) <;> first | exact g0 | rfl | (exfalso; omega) | (exfalso; have e9 : i1 = i := (by omega); subst e9; omega) | (exfalso; simp_all; done),
    fun p1 hp1 k1 hk1 => by
      have g0 := hI.2.2.2.2.2.2.2.2.2.2.2.2.2.2.2.2.2.2.2.1 p1 hp1 k1 hk1
      simp only [mm_up, u3, true_and, and_true, false_and, and_false, if_true, if_false] <;> (repeat' split) <;> first | exact g0 | rfl | (exfalso; omega) | (exfalso; have e9 : i1 = i := (by omega); subst e9; omega) | (exfalso; simp_all; done),
    fun t1 ht1 k1 hk1 => by
      have g0 := hI.2.2.2.2.2.2.2.2.2.2.2.2.2.2.2.2.2.2.2.2.1 t1 ht1 k1 hk1
      simp only [mm_up, u3, true_and, and_true, false_and, and_false, if_true, if_false] <;> (repeat' split) <;> first | exact g0 | rfl | (exfalso; omega) | (exfalso; have e9 : i1 = i := (by omega); subst e9; omega) | (exfalso; simp_all; done),
    fun t1 ht1 => by
      have g0 := hI.2.2.2.2.2.2.2.2.2.2.2.2.2.2.2.2.2.2.2.2.2.1 t1 ht1
      simp only [mm_up, u3, true_and, and_true, false_and, and_false, if_true, if_false] <;> (repeat' split) <;> first | exact g0 | rfl | (exfalso; omega) | (exfalso; have e9 : i1 = i := (by omega); subst e9; omega) | (exfalso; simp_all; done),
    fun t1 ht1 => by
      have g0 := hI.2.2.2.2.2.2.2.2.2.2.2.2.2.2.2.2.2.2.2.2.2.2.1 t1 ht1
      simp only [mm_up, u3, true_and, and_true, false_and, and_false, if_true, if_false] <;> (repeat' split) <;> first | exact g0 | rfl | (exfalso; omega) | (exfalso; have e9 : i1 = i := (by omega); subst e9; omega) | (exfalso; simp_all; done),
    fun t1 ht1 k1 hk1 => by
      have g0 := hI.2.2.2.2.2.2.2.2.2.2.2.2.2.2.2.2.2.2.2.2.2.2.2.1 t1 ht1 k1 hk1
      simp only [mm_up, u3, true_and, and_true, false_and, and_false, if_true, if_false] <;> (repeat' split) <;> first | exact g0 | rfl | (exfalso; omega) | (exfalso; have e9 : i1 = i := (by omega); subst e9; omega) | (exfalso; simp_all; done),
    fun t1 ht1 k1 hk1 => by
      have g0 := hI.2.2.2.2.2.2.2.2.2.2.2.2.2.2.2.2.2.2.2.2.2.2.2.2.1 t1 ht1 k1 hk1
      simp only [mm_up, u3, true_and, and_true, false_and, and_false, if_true, if_false] <;> (repeat' split) <;> first | exact g0 | rfl | (exfalso; omega) | (exfalso; have e9 : i1 = i := (by omega); subst e9; omega) | (exfalso; simp_all; done),
    fun t1 ht1 => by
      have g0 := hI.2.2.2.2.2.2.2.2.2.2.2.2.2.2.2.2.2.2.2.2.2.2.2.2.2.1 t1 ht1
      simp only [mm_up, u3, true_and, and_true, false_and, and_false, if_true, if_false] <;> (repeat' split) <;> first | exact g0 | rfl | (exfalso; omega) | (exfalso; have e9 : i1 = i := (by omega); subst e9; omega) | (exfalso; simp_all; done),
    fun t1 ht1 => by
      have g0 := hI.2.2.2.2.2.2.2.2.2.2.2.2.2.2.2.2.2.2.2.2.2.2.2.2.2.2.1 t1 ht1
      simp only [mm_up, u3, true_and, and_true, false_and, and_false, if_true, if_false] <;> (repeat' split) <;> first | exact g0 | rfl | (exfalso; omega) | (exfalso; have e9 : i1 = i := (by omega); subst e9; omega) | (exfalso; simp_all; done),
    fun t1 ht1 => by
      have g0 := hI.2.2.2.2.2.2.2.2.2.2.2.2.2.2.2.2.2.2.2.2.2.2.2.2.2.2.2.1 t1 ht1
      simp only [mm_up, u3, true_and, and_true, false_and, and_false, if_true, if_false] <;> (repeat' split) <;> first | exact g0 | rfl | (exfalso; omega) | (exfalso; have e9 : i1 = i := (by omega); subst e9; omega) | (exfalso; simp_all; done),
    fun t1 ht1 => by
      have g0 := hI.2.2.2.2.2.2.2.2.2.2.2.2.2.2.2.2.2.2.2.2.2.2.2.2.2.2.2.2.1 t1 ht1
      simp only [mm_up, u3, true_and, and_true, false_and, and_false, if_true, if_false] <;> (repeat' split) <;> first | exact g0 | rfl | (exfalso; omega) | (exfalso; have e9 : i1 = i := (by omega); subst e9; omega) | (exfalso; simp_all; done),
    fun t1 ht1 => by
      have g0 := hI.2.2.2.2.2.2.2.2.2.2.2.2.2.2.2.2.2.2.2.2.2.2.2.2.2.2.2.2.2.1 t1 ht1
      simp only [mm_up, u3, true_and, and_true, false_and, and_false, if_true, if_false] <;> (repeat' split) <;> first | exact g0 | rfl | (exfalso; omega) | (exfalso; have e9 : i1 = i := (by omega); subst e9; omega) | (exfalso; simp_all; done),
    fun t1 ht1 => by
      have g0 := hI.2.2.2.2.2.2.2.2.2.2.2.2.2.2.2.2.2.2.2.2.2.2.2.2.2.2.2.2.2.2 t1 ht1
      simp only [mm_up, u3, true_and, and_true, false_and, and_false, if_true, if_false] <;> (repeat' split) <;> first | exact g0 | rfl | (exfalso; omega) | (exfalso; have e9 : i1 = i := (by omega); subst e9; omega) | (exfalso; simp_all; done)⟩⟩
theorem CU_trc {ci : Nat → Nat → Nat → Int32} {cn : Nat → Nat → Nat → Nat} {co : Nat → Option Nat} {xj : Nat → Nat → Nat → Int64} {xd : Nat → Nat → Nat → UInt64} {xf : Nat → Nat → Nat → UInt32} {xo : Nat → Nat → Nat → Option Nat} {xi : Nat → Nat → Nat → Int32} {xn : Nat → Nat → Nat → Nat} {I : Nat → Nat → Int32} {J : Nat → Nat → Int64} {F : Nat → Nat → UInt32} {D : Nat → Nat → UInt64} {R : Nat → Nat → Option Nat} {nx sl : Nat} (h : RC ci cn co xj xd xf xo xi xn I J F D R nx sl)  {v : Int32}  {j : Nat} {z : Int32} (hj : j = 1) (hz : z = v) : RC ci cn co xj xd xf xo (u3 xi 3 0 0 v) xn (mm_up I (13) j z) J F D R nx sl := by
  subst hj; subst hz
  have isr := fun i hi => (rc_isor h (i := i) hi).2.2.1
  obtain ⟨hJ, hD, hF, hR, hI, hX, hN, hS⟩ := h
  exact ⟨hJ,
   hD,
   hF,
   hR,
   ⟨fun p1 hp1 => by
      have g0 := hI.1 p1 hp1
      simp only [mm_up, u3, true_and, and_true, false_and, and_false, if_true, if_false] <;> (repeat' split) <;> first | exact g0 | rfl | (exfalso; omega) | (exfalso; have e9 : i1 = i := (by omega); subst e9; omega) | (exfalso; simp_all; done),
    fun p1 hp1 => by
      have g0 := hI.2.1 p1 hp1
      simp only [mm_up, u3, true_and, and_true, false_and, and_false, if_true, if_false] <;> (repeat' split) <;> first | exact g0 | rfl | (exfalso; omega) | (exfalso; have e9 : i1 = i := (by omega); subst e9; omega) | (exfalso; simp_all; done),
    fun p1 hp1 => by
      have g0 := hI.2.2.1 p1 hp1
      simp only [mm_up, u3, true_and, and_true, false_and, and_false, if_true, if_false] <;> (repeat' split) <;> first | exact g0 | rfl | (exfalso; omega) | (exfalso; have e9 : i1 = i := (by omega); subst e9; omega) | (exfalso; simp_all; done),
    fun p1 hp1 k1 hk1 => by
      have g0 := hI.2.2.2.1 p1 hp1 k1 hk1
      simp only [mm_up, u3, true_and, and_true, false_and, and_false, if_true, if_false] <;> (repeat' split) <;> first | exact g0 | rfl | (exfalso; omega) | (exfalso; have e9 : i1 = i := (by omega); subst e9; omega) | (exfalso; simp_all; done),
    fun p1 hp1 k1 hk1 => by
      have g0 := hI.2.2.2.2.1 p1 hp1 k1 hk1
      simp only [mm_up, u3, true_and, and_true, false_and, and_false, if_true, if_false] <;> (repeat' split) <;> first | exact g0 | rfl | (exfalso; omega) | (exfalso; have e9 : i1 = i := (by omega); subst e9; omega) | (exfalso; simp_all; done),
    fun p1 hp1 k1 hk1 => by
      have g0 := hI.2.2.2.2.2.1 p1 hp1 k1 hk1
      simp only [mm_up, u3, true_and, and_true, false_and, and_false, if_true, if_false] <;> (repeat' split) <;> first | exact g0 | rfl | (exfalso; omega) | (exfalso; have e9 : i1 = i := (by omega); subst e9; omega) | (exfalso; simp_all; done),
    fun p1 hp1 k1 hk1 => by
      have g0 := hI.2.2.2.2.2.2.1 p1 hp1 k1 hk1
      simp only [mm_up, u3, true_and, and_true, false_and, and_false, if_true, if_false] <;> (repeat' split) <;> first | exact g0 | rfl | (exfalso; omega) | (exfalso; have e9 : i1 = i := (by omega); subst e9; omega) | (exfalso; simp_all; done),
    fun p1 hp1 k1 hk1 => by
      have g0 := hI.2.2.2.2.2.2.2.1 p1 hp1 k1 hk1
      simp only [mm_up, u3, true_and, and_true, false_and, and_false, if_true, if_false] <;> (repeat' split) <;> first | exact g0 | rfl | (exfalso; omega) | (exfalso; have e9 : i1 = i := (by omega); subst e9; omega) | (exfalso; simp_all; done),
    fun p1 hp1 k1 hk1 => by
      have g0 := hI.2.2.2.2.2.2.2.2.1 p1 hp1 k1 hk1
      simp only [mm_up, u3, true_and, and_true, false_and, and_false, if_true, if_false] <;> (repeat' split) <;> first | exact g0 | rfl | (exfalso; omega) | (exfalso; have e9 : i1 = i := (by omega); subst e9; omega) | (exfalso; simp_all; done),
    fun p1 hp1 k1 hk1 => by
      have g0 := hI.2.2.2.2.2.2.2.2.2.1 p1 hp1 k1 hk1
      simp only [mm_up, u3, true_and, and_true, false_and, and_false, if_true, if_false] <;> (repeat' split) <;> first | exact g0 | rfl | (exfalso; omega) | (exfalso; have e9 : i1 = i := (by omega); subst e9; omega) | (exfalso; simp_all; done),
    fun p1 hp1 k1 hk1 => by
      have g0 := hI.2.2.2.2.2.2.2.2.2.2.1 p1 hp1 k1 hk1
      simp only [mm_up, u3, true_and, and_true, false_and, and_false, if_true, if_false] <;> (repeat' split) <;> first | exact g0 | rfl | (exfalso; omega) | (exfalso; have e9 : i1 = i := (by omega); subst e9; omega) | (exfalso; simp_all; done),
    fun t1 ht1 => by
      have g0 := hI.2.2.2.2.2.2.2.2.2.2.2.1 t1 ht1
      simp only [mm_up, u3, true_and, and_true, false_and, and_false, if_true, if_false] <;> (repeat' split) <;> first | exact g0 | rfl | (exfalso; omega) | (exfalso; have e9 : i1 = i := (by omega); subst e9; omega) | (exfalso; simp_all; done),
    fun t1 ht1 => by
      have g0 := hI.2.2.2.2.2.2.2.2.2.2.2.2.1 t1 ht1
      simp only [mm_up, u3, true_and, and_true, false_and, and_false, if_true, if_false] <;> (repeat' split) <;> first | exact g0 | rfl | (exfalso; omega) | (exfalso; have e9 : i1 = i := (by omega); subst e9; omega) | (exfalso; simp_all; done),
    fun t1 ht1 k1 hk1 => by
      have g0 := hI.2.2.2.2.2.2.2.2.2.2.2.2.2.1 t1 ht1 k1 hk1
      simp only [mm_up, u3, true_and, and_true, false_and, and_false, if_true, if_false] <;> (repeat' split) <;> first | exact g0 | rfl | (exfalso; omega) | (exfalso; have e9 : i1 = i := (by omega); subst e9; omega) | (exfalso; simp_all; done),
    fun t1 ht1 => by
      have g0 := hI.2.2.2.2.2.2.2.2.2.2.2.2.2.2.1 t1 ht1
      simp only [mm_up, u3, true_and, and_true, false_and, and_false, if_true, if_false] <;> (repeat' split) <;> first | exact g0 | rfl | (exfalso; omega) | (exfalso; have e9 : i1 = i := (by omega); subst e9; omega) | (exfalso; simp_all; done),
    fun t1 ht1 => by
      have g0 := hI.2.2.2.2.2.2.2.2.2.2.2.2.2.2.2.1 t1 ht1
      simp only [mm_up, u3, true_and, and_true, false_and, and_false, if_true, if_false] <;> (repeat' split) <;> first | exact g0 | rfl | (exfalso; omega) | (exfalso; have e9 : i1 = i := (by omega); subst e9; omega) | (exfalso; simp_all; done),
    fun t1 ht1 => by
      have g0 := hI.2.2.2.2.2.2.2.2.2.2.2.2.2.2.2.2.1 t1 ht1
      simp only [mm_up, u3, true_and, and_true, false_and, and_false, if_true, if_false] <;> (repeat' split) <;> first | exact g0 | rfl | (exfalso; omega) | (exfalso; have e9 : i1 = i := (by omega); subst e9; omega) | (exfalso; simp_all; done),
    fun t1 ht1 => by
      have g0 := hI.2.2.2.2.2.2.2.2.2.2.2.2.2.2.2.2.2.1 t1 ht1
      simp only [mm_up, u3, true_and, and_true, false_and, and_false, if_true, if_false] <;> (repeat' split) <;> first | exact g0 | rfl | (exfalso; omega) | (exfalso; have e9 : i1 = i := (by omega); subst e9; omega) | (exfalso; simp_all; done),
    fun t1 ht1 => by
      have g0 := hI.2.2.2.2.2.2.2.2.2.2.2.2.2.2.2.2.2.2.1 t1 ht1
      simp only [mm_up, u3, true_and, and_true, false_and, and_false, if_true, if_false] <;> (repeat' split) <;> first | exact g0 | rfl | (exfalso; omega) | (exfalso; have e9 : i1 = i := (by omega); subst e9; omega) | (exfalso; simp_all; done),
    fun t1 ht1 => by
      have g0 := hI.2.2.2.2.2.2.2.2.2.2.2.2.2.2.2.2.2.2.2.1 t1 ht1
      simp only [mm_up, u3, true_and, and_true, false_and, and_false, if_true, if_false] <;> (repeat' split) <;> first | exact g0 | rfl | (exfalso; omega) | (exfalso; have e9 : i1 = i := (by omega); subst e9; omega) | (exfalso; simp_all; done),
    by
      have g0 := hI.2.2.2.2.2.2.2.2.2.2.2.2.2.2.2.2.2.2.2.2.1
      simp only [mm_up, u3, true_and, and_true, false_and, and_false, if_true, if_false] <;> (repeat' split) <;> first | exact g0 | rfl | (exfalso; omega) | (exfalso; have e9 : i1 = i := (by omega); subst e9; omega) | (exfalso; simp_all; done),
    by
      have g0 := hI.2.2.2.2.2.2.2.2.2.2.2.2.2.2.2.2.2.2.2.2.2.1
      simp only [mm_up, u3, true_and, and_true, false_and, and_false, if_true, if_false] <;> (repeat' split) <;> first | exact g0 | rfl | (exfalso; omega) | (exfalso; have e9 : i1 = i := (by omega); subst e9; omega) | (exfalso; simp_all; done),
    fun i1 hi1 => by
      have g0 := hI.2.2.2.2.2.2.2.2.2.2.2.2.2.2.2.2.2.2.2.2.2.2.1 i1 hi1
      simp only [mm_up, u3, true_and, and_true, false_and, and_false, if_true, if_false] <;> (repeat' split) <;> first | exact g0 | rfl | (exfalso; omega) | (exfalso; have e9 : i1 = i := (by omega); subst e9; omega) | (exfalso; simp_all; done),
    fun i1 hi1 => by
      have g0 := hI.2.2.2.2.2.2.2.2.2.2.2.2.2.2.2.2.2.2.2.2.2.2.2.1 i1 hi1
      simp only [mm_up, u3, true_and, and_true, false_and, and_false, if_true, if_false] <;> (repeat' split) <;> first | exact g0 | rfl | (exfalso; omega) | (exfalso; have e9 : i1 = i := (by omega); subst e9; omega) | (exfalso; simp_all; done),
    fun i1 hi1 => by
      have g0 := hI.2.2.2.2.2.2.2.2.2.2.2.2.2.2.2.2.2.2.2.2.2.2.2.2.1 i1 hi1
      simp only [mm_up, u3, true_and, and_true, false_and, and_false, if_true, if_false] <;> (repeat' split) <;> first | exact g0 | rfl | (exfalso; omega) | (exfalso; have e9 : i1 = i := (by omega); subst e9; omega) | (exfalso; simp_all; done),
    fun i1 hi1 => by
      have g0 := hI.2.2.2.2.2.2.2.2.2.2.2.2.2.2.2.2.2.2.2.2.2.2.2.2.2.1 i1 hi1
      simp only [mm_up, u3, true_and, and_true, false_and, and_false, if_true, if_false] <;> (repeat' split) <;> first | exact g0 | rfl | (exfalso; omega) | (exfalso; have e9 : i1 = i := (by omega); subst e9; omega) | (exfalso; simp_all; done),
    fun i1 hi1 => by
      have g0 := hI.2.2.2.2.2.2.2.2.2.2.2.2.2.2.2.2.2.2.2.2.2.2.2.2.2.2.1 i1 hi1
      simp only [mm_up, u3, true_and, and_true, false_and, and_false, if_true, if_false] <;> (repeat' split) <;> first | exact g0 | rfl | (exfalso; omega) | (exfalso; have e9 : i1 = i := (by omega); subst e9; omega) | (exfalso; simp_all; done),
    fun i1 hi1 => by
      have g0 := hI.2.2.2.2.2.2.2.2.2.2.2.2.2.2.2.2.2.2.2.2.2.2.2.2.2.2.2.1 i1 hi1
      simp only [mm_up, u3, true_and, and_true, false_and, and_false, if_true, if_false] <;> (repeat' split) <;> first | exact g0 | rfl | (exfalso; omega) | (exfalso; have e9 : i1 = i := (by omega); subst e9; omega) | (exfalso; simp_all; done),
    fun i1 hi1 => by
      have g0 := hI.2.2.2.2.2.2.2.2.2.2.2.2.2.2.2.2.2.2.2.2.2.2.2.2.2.2.2.2.1 i1 hi1
      simp only [mm_up, u3, true_and, and_true, false_and, and_false, if_true, if_false] <;> (repeat' split) <;> first | exact g0 | rfl | (exfalso; omega) | (exfalso; have e9 : i1 = i := (by omega); subst e9; omega) | (exfalso; simp_all; done),
    fun i1 hi1 => by
      have g0 := hI.2.2.2.2.2.2.2.2.2.2.2.2.2.2.2.2.2.2.2.2.2.2.2.2.2.2.2.2.2.1 i1 hi1
      simp only [mm_up, u3, true_and, and_true, false_and, and_false, if_true, if_false] <;> (repeat' split) <;> first | exact g0 | rfl | (exfalso; omega) | (exfalso; have e9 : i1 = i := (by omega); subst e9; omega) | (exfalso; simp_all; done),
    fun i1 hi1 => by
      have g0 := hI.2.2.2.2.2.2.2.2.2.2.2.2.2.2.2.2.2.2.2.2.2.2.2.2.2.2.2.2.2.2 i1 hi1
      simp only [mm_up, u3, true_and, and_true, false_and, and_false, if_true, if_false] <;> (repeat' split) <;> first | exact g0 | rfl | (exfalso; omega) | (exfalso; have e9 : i1 = i := (by omega); subst e9; omega) | (exfalso; simp_all; done)⟩,
   hX,
   hN,
   hS⟩
theorem MU_trc {ci : Nat → Nat → Nat → Int32} {cn : Nat → Nat → Nat → Nat} {co : Nat → Option Nat} {xj : Nat → Nat → Nat → Int64} {xd : Nat → Nat → Nat → UInt64} {xf : Nat → Nat → Nat → UInt32} {xo : Nat → Nat → Nat → Option Nat} {xi : Nat → Nat → Nat → Int32} {xn : Nat → Nat → Nat → Nat} {I : Nat → Nat → Int32} {J : Nat → Nat → Int64} {D : Nat → Nat → UInt64} (h : RM ci cn co xj xd xf xo xi xn I J D)  {v : Int32}  {j : Nat} {z : Int32} (hj : j = 14) (hz : z = v) (isr : ∀ i, i < xn 2 0 0 → xn 1 i 0 ≤ 12) : RM ci cn co xj xd xf xo (u3 xi 3 0 0 v) xn (mm_up I (6) j z) J D := by
  subst hj; subst hz
  obtain ⟨hJ, hD, hI⟩ := h
  exact ⟨hJ,
   hD,
   ⟨by
      have g0 := hI.1
      simp only [mm_up, u3, true_and, and_true, false_and, and_false, if_true, if_false] <;> (repeat' split) <;> first | exact g0 | rfl | (exfalso; omega) | (exfalso; have e9 : i1 = i := (by omega); subst e9; omega) | (exfalso; simp_all; done),
    by
      have g0 := hI.2.1
      simp only [mm_up, u3, true_and, and_true, false_and, and_false, if_true, if_false] <;> (repeat' split) <;> first | exact g0 | rfl | (exfalso; omega) | (exfalso; have e9 : i1 = i := (by omega); subst e9; omega) | (exfalso; simp_all; done),
    fun i1 hi1 => by
      have g0 := hI.2.2.1 i1 hi1
      simp only [mm_up, u3, true_and, and_true, false_and, and_false, if_true, if_false] <;> (repeat' split) <;> first | exact g0 | rfl | (exfalso; omega) | (exfalso; have e9 : i1 = i := (by omega); subst e9; omega) | (exfalso; simp_all; done),
    fun i1 hi1 => by
      have g0 := hI.2.2.2.1 i1 hi1
      simp only [mm_up, u3, true_and, and_true, false_and, and_false, if_true, if_false] <;> (repeat' split) <;> first | exact g0 | rfl | (exfalso; omega) | (exfalso; have e9 : i1 = i := (by omega); subst e9; omega) | (exfalso; simp_all; done),
    fun i1 hi1 => by
      have g0 := hI.2.2.2.2.1 i1 hi1
      simp only [mm_up, u3, true_and, and_true, false_and, and_false, if_true, if_false] <;> (repeat' split) <;> first | exact g0 | rfl | (exfalso; omega) | (exfalso; have e9 : i1 = i := (by omega); subst e9; omega) | (exfalso; simp_all; done),
    fun i1 hi1 => by
      have g0 := hI.2.2.2.2.2.1 i1 hi1
      simp only [mm_up, u3, true_and, and_true, false_and, and_false, if_true, if_false] <;> (repeat' split) <;> first | exact g0 | rfl | (exfalso; omega) | (exfalso; have e9 : i1 = i := (by omega); subst e9; omega) | (exfalso; simp_all; done),
    fun i1 hi1 => by
      have g0 := hI.2.2.2.2.2.2.1 i1 hi1
      simp only [mm_up, u3, true_and, and_true, false_and, and_false, if_true, if_false] <;> (repeat' split) <;> first | exact g0 | rfl | (exfalso; omega) | (exfalso; have e9 : i1 = i := (by omega); subst e9; omega) | (exfalso; simp_all; done),
    fun i1 hi1 k1 hk1 => by
      have g0 := hI.2.2.2.2.2.2.2.1 i1 hi1 k1 hk1
      simp only [mm_up, u3, true_and, and_true, false_and, and_false, if_true, if_false] <;> (repeat' split) <;> first | exact g0 | rfl | (exfalso; omega) | (exfalso; have e9 : i1 = i := (by omega); subst e9; omega) | (exfalso; simp_all; done),
    fun i1 hi1 => by
      have g0 := hI.2.2.2.2.2.2.2.2.1 i1 hi1
      simp only [mm_up, u3, true_and, and_true, false_and, and_false, if_true, if_false] <;> (repeat' split) <;> first | exact g0 | rfl | (exfalso; omega) | (exfalso; have e9 : i1 = i := (by omega); subst e9; omega) | (exfalso; simp_all; done),
    fun i1 hi1 => by
      have g0 := hI.2.2.2.2.2.2.2.2.2.1 i1 hi1
      simp only [mm_up, u3, true_and, and_true, false_and, and_false, if_true, if_false] <;> (repeat' split) <;> first | exact g0 | rfl | (exfalso; omega) | (exfalso; have e9 : i1 = i := (by omega); subst e9; omega) | (exfalso; simp_all; done),
    fun p1 hp1 => by
      have g0 := hI.2.2.2.2.2.2.2.2.2.2.1 p1 hp1
      simp only [mm_up, u3, true_and, and_true, false_and, and_false, if_true, if_false] <;> (repeat' split) <;> first | exact g0 | rfl | (exfalso; omega) | (exfalso; have e9 : i1 = i := (by omega); subst e9; omega) | (exfalso; simp_all; done),
    fun p1 hp1 k1 hk1 => by
      have g0 := hI.2.2.2.2.2.2.2.2.2.2.2.1 p1 hp1 k1 hk1
      simp only [mm_up, u3, true_and, and_true, false_and, and_false, if_true, if_false] <;> (repeat' split) <;> first | exact g0 | rfl | (exfalso; omega) | (exfalso; have e9 : i1 = i := (by omega); subst e9; omega) | (exfalso; simp_all; done),
    fun p1 hp1 k1 hk1 => by
      have g0 := hI.2.2.2.2.2.2.2.2.2.2.2.2.1 p1 hp1 k1 hk1
      simp only [mm_up, u3, true_and, and_true, false_and, and_false, if_true, if_false] <;> (repeat' split) <;> first | exact g0 | rfl | (exfalso; omega) | (exfalso; have e9 : i1 = i := (by omega); subst e9; omega) | (exfalso; simp_all; done),
    fun p1 hp1 k1 hk1 => by
      have g0 := hI.2.2.2.2.2.2.2.2.2.2.2.2.2.1 p1 hp1 k1 hk1
      simp only [mm_up, u3, true_and, and_true, false_and, and_false, if_true, if_false] <;> (repeat' split) <;> first | exact g0 | rfl | (exfalso; omega) | (exfalso; have e9 : i1 = i := (by omega); subst e9; omega) | (exfalso; simp_all; done),
    fun p1 hp1 k1 hk1 => by
      have g0 := hI.2.2.2.2.2.2.2.2.2.2.2.2.2.2.1 p1 hp1 k1 hk1
      simp only [mm_up, u3, true_and, and_true, false_and, and_false, if_true, if_false] <;> (repeat' split) <;> first | exact g0 | rfl | (exfalso; omega) | (exfalso; have e9 : i1 = i := (by omega); subst e9; omega) | (exfalso; simp_all; done),
    fun p1 hp1 => by
      have g0 := hI.2.2.2.2.2.2.2.2.2.2.2.2.2.2.2.1 p1 hp1
      simp only [mm_up, u3, true_and, and_true, false_and, and_false, if_true, if_false] <;> (repeat' split) <;> first | exact g0 | rfl | (exfalso; omega) | (exfalso; have e9 : i1 = i := (by omega); subst e9; omega) | (exfalso; simp_all; done),
    fun p1 hp1 k1 hk1 => by
      have g0 := hI.2.2.2.2.2.2.2.2.2.2.2.2.2.2.2.2.1 p1 hp1 k1 hk1
      simp only [mm_up, u3, true_and, and_true, false_and, and_false, if_true, if_false] <;> (repeat' split) <;> first | exact g0 | rfl | (exfalso; omega) | (exfalso; have e9 : i1 = i := (by omega); subst e9; omega) | (exfalso; simp_all; done),
    fun p1 hp1 k1 hk1 => by
      have g0 := hI.2.2.2.2.2.2.2.2.2.2.2.2.2.2.2.2.2.1 p1 hp1 k1 hk1
      simp only [mm_up, u3, true_and, and_true, false_and, and_false, if_true, if_false] <;> (repeat' split) <;> first | exact g0 | rfl | (exfalso; omega) | (exfalso; have e9 : i1 = i := (by omega); subst e9; omega) | (exfalso; simp_all; done),
    fun p1 hp1 k1 hk1 => by
      have g0 := hI.2.2.2.2.2.2.2.2.2.2.2.2.2.2.2.2.2.2.1 p1 hp1 k1 hk1
      simp only [mm_up, u3, true_and, and_true, false_and, and_false, if_true, if_false] <;> (repeat' split) <;> first | exact g0 | rfl | (exfalso; omega) | (exfalso; have e9 : i1 = i := (by omega); subst e9; omega) | (exfalso; simp_all; done),
    fun p1 hp1 k1 hk1 => by
      have g0 := hI.2.2.2.2.2.2.2.2.2.2.2.2.2.2.2.2.2.2.2.1 p1 hp1 k1 hk1
      simp only [mm_up, u3, true_and, and_true, false_and, and_false, if_true, if_false] <;> (repeat' split) <;> first | exact g0 | rfl | (exfalso; omega) | (exfalso; have e9 : i1 = i := (by omega); subst e9; omega) | (exfalso; simp_all; done),
    fun t1 ht1 k1 hk1 => by
      have g0 := hI.2.2.2.2.2.2.2.2.2.2.2.2.2.2.2.2.2.2.2.2.1 t1 ht1 k1 hk1
      simp only [mm_up, u3, true_and, and_true, false_and, and_false, if_true, if_false] <;> (repeat' split) <;> first | exact g0 | rfl | (exfalso; omega) | (exfalso; have e9 : i1 = i := (by omega); subst e9; omega) | (exfalso; simp_all; done),
    fun t1 ht1 => by
      have g0 := hI.2.2.2.2.2.2.2.2.2.2.2.2.2.2.2.2.2.2.2.2.2.1 t1 ht1
      simp only [mm_up, u3, true_and, and_true, false_and, and_false, if_true, if_false] <;> (repeat' split) <;> first | exact g0 | rfl | (exfalso; omega) | (exfalso; have e9 : i1 = i := (by omega); subst e9; omega) | (exfalso; simp_all; done),
    fun t1 ht1 => by
      have g0 := hI.2.2.2.2.2.2.2.2.2.2.2.2.2.2.2.2.2.2.2.2.2.2.1 t1 ht1
      simp only [mm_up, u3, true_and, and_true, false_and, and_false, if_true, if_false] <;> (repeat' split) <;> first | exact g0 | rfl | (exfalso; omega) | (exfalso; have e9 : i1 = i := (by omega); subst e9; omega) | (exfalso; simp_all; done),
    fun t1 ht1 k1 hk1 => by
      have g0 := hI.2.2.2.2.2.2.2.2.2.2.2.2.2.2.2.2.2.2.2.2.2.2.2.1 t1 ht1 k1 hk1
      simp only [mm_up, u3, true_and, and_true, false_and, and_false, if_true, if_false] <;> (repeat' split) <;> first | exact g0 | rfl | (exfalso; omega) | (exfalso; have e9 : i1 = i := (by omega); subst e9; omega) | (exfalso; simp_all; done),
    fun t1 ht1 k1 hk1 => by
      have g0 := hI.2.2.2.2.2.2.2.2.2.2.2.2.2.2.2.2.2.2.2.2.2.2.2.2.1 t1 ht1 k1 hk1
      simp only [mm_up, u3, true_and, and_true, false_and, and_false, if_true, if_false] <;> (repeat' split) <;> first | exact g0 | rfl | (exfalso; omega) | (exfalso; have e9 : i1 = i := (by omega); subst e9; omega) | (exfalso; simp_all; done),
    fun t1 ht1 => by
      have g0 := hI.2.2.2.2.2.2.2.2.2.2.2.2.2.2.2.2.2.2.2.2.2.2.2.2.2.1 t1 ht1
      simp only [mm_up, u3, true_and, and_true, false_and, and_false, if_true, if_false] <;> (repeat' split) <;> first | exact g0 | rfl | (exfalso; omega) | (exfalso; have e9 : i1 = i := (by omega); subst e9; omega) | (exfalso; simp_all; done),
    fun t1 ht1 => by
      have g0 := hI.2.2.2.2.2.2.2.2.2.2.2.2.2.2.2.2.2.2.2.2.2.2.2.2.2.2.1 t1 ht1
      simp only [mm_up, u3, true_and, and_true, false_and, and_false, if_true, if_false] <;> (repeat' split) <;> first | exact g0 | rfl | (exfalso; omega) | (exfalso; have e9 : i1 = i := (by omega); subst e9; omega) | (exfalso; simp_all; done),
    fun t1 ht1 => by
      have g0 := hI.2.2.2.2.2.2.2.2.2.2.2.2.2.2.2.2.2.2.2.2.2.2.2.2.2.2.2.1 t1 ht1
      simp only [mm_up, u3, true_and, and_true, false_and, and_false, if_true, if_false] <;> (repeat' split) <;> first | exact g0 | rfl | (exfalso; omega) | (exfalso; have e9 : i1 = i := (by omega); subst e9; omega) | (exfalso; simp_all; done),
    fun t1 ht1 => by
      have g0 := hI.2.2.2.2.2.2.2.2.2.2.2.2.2.2.2.2.2.2.2.2.2.2.2.2.2.2.2.2.1 t1 ht1
      simp only [mm_up, u3, true_and, and_true, false_and, and_false, if_true, if_false] <;> (repeat' split) <;> first | exact g0 | rfl | (exfalso; omega) | (exfalso; have e9 : i1 = i := (by omega); subst e9; omega) | (exfalso; simp_all; done),
    fun t1 ht1 => by
      have g0 := hI.2.2.2.2.2.2.2.2.2.2.2.2.2.2.2.2.2.2.2.2.2.2.2.2.2.2.2.2.2.1 t1 ht1
      simp only [mm_up, u3, true_and, and_true, false_and, and_false, if_true, if_false] <;> (repeat' split) <;> first | exact g0 | rfl | (exfalso; omega) | (exfalso; have e9 : i1 = i := (by omega); subst e9; omega) | (exfalso; simp_all; done),
    fun t1 ht1 => by
      have g0 := hI.2.2.2.2.2.2.2.2.2.2.2.2.2.2.2.2.2.2.2.2.2.2.2.2.2.2.2.2.2.2 t1 ht1
      simp only [mm_up, u3, true_and, and_true, false_and, and_false, if_true, if_false] <;> (repeat' split) <;> first | exact g0 | rfl | (exfalso; omega) | (exfalso; have e9 : i1 = i := (by omega); subst e9; omega) | (exfalso; simp_all; done)⟩⟩
