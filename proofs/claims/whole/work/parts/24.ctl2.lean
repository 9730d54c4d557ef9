def lv (cn : Nat → Nat → Nat → Nat) (t : Nat) : Nat → (Nat → Nat → Nat → Nat)
  | 0 => u3 cn 0 t 0 0
  | m + 1 => u3 (u3 cn 0 t 0 (m + 1)) 2 t m (cn 2 t m + 1)
def pp (t : Nat) : Nat → (Nat → Nat → Nat → Nat) → (Nat → Nat → Nat → Nat)
  | 0, cn => cn
  | n + 1, cn => if cn 2 t n < cn 3 (cn 1 t n) 0 then cn else pp t n (lv cn t n)
def Nk (k : Nat) (a : Int32) : Prop := ∃ n, n < k ∧ a = nI n
def P60 (c : Int32) : Prop := ∃ n, n < 61 ∧ (c = nI n ∨ c = -(nI n))
def OKA (op : Nat) (a b c : Int32) : Prop := match op with
  | 0 => Nk 8 a
  | 1 => Nk 4 a ∧ P60 c
  | 2 => Nk 4 a ∧ P60 c
  | 3 => Nk 8 a ∧ Nk 12 b ∧ Nk 8 c
  | 4 => Nk 8 a ∧ Nk 12 b ∧ Nk 8 c
  | 5 => Nk 4 a ∧ Nk 8 b ∧ Nk 4 c
  | 6 => Nk 4 a ∧ Nk 8 b ∧ Nk 4 c
  | 7 => Nk 4 a ∧ Nk 6 b ∧ Nk 4 c
  | 8 => Nk 4 a ∧ Nk 6 b ∧ Nk 4 c
  | 9 => Nk 8 a ∧ Nk 4 b ∧ Nk 4 c
  | 10 => Nk 8 a ∧ Nk 4 b ∧ Nk 4 c
  | 11 => (b = nI 0 ∧ Nk 4 a ∧ Nk 8 c) ∨ (b = nI 1 ∧ Nk 8 a ∧ Nk 4 c) ∨ (b = nI 2 ∧ Nk 8 a ∧ Nk 4 c) ∨ (b = nI 3 ∧ Nk 4 a ∧ Nk 8 c) ∨ (b = nI 4 ∧ Nk 8 a ∧ Nk 4 c) ∨ (b = nI 5 ∧ Nk 8 a ∧ Nk 4 c) ∨ (b = nI 6 ∧ Nk 4 a ∧ Nk 4 c) ∨ (b = nI 7 ∧ Nk 4 a ∧ Nk 4 c) ∨ (b = nI 8 ∧ Nk 8 a ∧ Nk 8 c) ∨ (b = nI 9 ∧ Nk 8 a ∧ Nk 8 c) ∨ (b = nI 10 ∧ Nk 8 a ∧ Nk 8 c) ∨ (b = nI 11 ∧ Nk 8 a ∧ Nk 8 c)
  | 12 => Nk 8 a ∧ Nk 8 c
  | 13 => Nk 8 a
  | 14 => Nk 8 a ∧ Nk 8 b ∧ Nk 8 c
  | 15 => Nk 8 a ∧ Nk 5 b ∧ Nk 8 c
  | 16 => Nk 8 a ∧ Nk 8 b ∧ Nk 8 c
  | 17 => Nk 8 a ∧ Nk 8 b ∧ Nk 8 c
  | 18 => Nk 8 a ∧ Nk 5 b
  | 20 => Nk 8 a ∧ Nk 8 b ∧ Nk 8 c
  | 21 => Nk 8 a ∧ Nk 8 b ∧ Nk 8 c
  | 22 => Nk 8 a ∧ Nk 8 b ∧ Nk 8 c
  | 23 => Nk 8 a ∧ Nk 8 b ∧ Nk 8 c
  | 24 => Nk 8 a ∧ Nk 8 b ∧ Nk 8 c
  | 25 => Nk 8 a ∧ Nk 8 b ∧ Nk 8 c
  | 26 => Nk 4 a ∧ Nk 8 b ∧ Nk 8 c
  | 27 => Nk 4 a ∧ Nk 8 b ∧ Nk 8 c
  | 28 => Nk 8 a ∧ Nk 8 b ∧ Nk 8 c
  | 29 => Nk 8 a ∧ Nk 8 b ∧ Nk 8 c
  | 30 => Nk 8 a ∧ Nk 8 b ∧ Nk 8 c
  | 31 => Nk 8 a ∧ Nk 8 b ∧ Nk 8 c
  | 32 => Nk 8 a ∧ Nk 8 b ∧ Nk 8 c
  | 33 => Nk 8 a ∧ Nk 8 b ∧ Nk 8 c
  | 34 => Nk 4 a ∧ Nk 8 b ∧ Nk 8 c
  | 35 => Nk 4 a ∧ Nk 8 b ∧ Nk 8 c
  | 36 => Nk 8 a ∧ Nk 8 b ∧ Nk 8 c
  | 37 => Nk 8 a ∧ Nk 8 b ∧ Nk 8 c
  | 38 => Nk 8 a ∧ Nk 8 b ∧ Nk 8 c
  | 39 => Nk 8 a ∧ Nk 8 b ∧ Nk 8 c
  | 40 => Nk 8 a ∧ Nk 8 b ∧ Nk 8 c
  | 41 => Nk 8 a ∧ Nk 8 b ∧ Nk 8 c
  | 42 => Nk 8 a ∧ Nk 8 b
  | 43 => Nk 8 a ∧ Nk 8 b ∧ Nk 8 c
  | 44 => Nk 4 a ∧ Nk 8 b ∧ Nk 8 c
  | 45 => Nk 8 a ∧ Nk 8 b ∧ Nk 8 c
  | 46 => Nk 8 a ∧ Nk 8 b
  | 47 => Nk 8 a ∧ Nk 8 b
  | 48 => Nk 8 a ∧ Nk 8 b ∧ Nk 26 c ∧ ¬ c = nI 15
  | 49 => Nk 8 a ∧ Nk 8 b ∧ Nk 26 c ∧ ¬ c = nI 15
  | 50 => Nk 8 a ∧ Nk 8 b ∧ Nk 8 c
  | 51 => (b = nI 0 ∧ Nk 8 a ∧ Nk 8 c) ∨ (b = nI 1 ∧ Nk 4 a ∧ Nk 8 c) ∨ (b = nI 2 ∧ Nk 4 a ∧ Nk 8 c) ∨ (b = nI 3 ∧ Nk 8 a ∧ Nk 8 c) ∨ (b = nI 4 ∧ Nk 8 a ∧ Nk 8 c) ∨ (b = nI 5 ∧ Nk 8 a ∧ Nk 8 c) ∨ (b = nI 6 ∧ Nk 8 a ∧ Nk 8 c) ∨ (b = nI 7 ∧ Nk 8 a ∧ Nk 8 c) ∨ (b = nI 8 ∧ Nk 8 a ∧ Nk 8 c)
  | 52 => (b = nI 0 ∧ Nk 8 a ∧ Nk 8 c) ∨ (b = nI 1 ∧ Nk 4 a ∧ Nk 8 c) ∨ (b = nI 2 ∧ Nk 4 a ∧ Nk 8 c) ∨ (b = nI 3 ∧ Nk 8 a ∧ Nk 8 c) ∨ (b = nI 4 ∧ Nk 8 a ∧ Nk 8 c) ∨ (b = nI 6 ∧ Nk 8 a ∧ Nk 8 c) ∨ (b = nI 7 ∧ Nk 8 a ∧ Nk 8 c) ∨ (b = nI 8 ∧ Nk 8 a ∧ Nk 8 c)
  | 53 => Nk 8 a ∧ Nk 8 b ∧ Nk 8 c
  | 54 => Nk 4 a ∧ Nk 8 b
  | 55 => Nk 8 a ∧ Nk 8 b
  | 56 => Nk 8 a ∧ Nk 8 b ∧ Nk 8 c
  | 57 => Nk 4 a ∧ Nk 8 b
  | 58 => b = -(nI 1) ∨ (∃ n, 20 ≤ n ∧ n < 30 ∧ b = nI n)
  | 59 => Nk 40 a
  | 60 => Nk 40 a ∧ Nk 8 b ∧ Nk 4 c
  | 61 => Nk 40 a ∧ Nk 8 b
  | 62 => Nk 6 a
  | 63 => True
  | 64 => Nk 8 b
  | 65 => Nk 8 b
  | _ => False
def IC (ci : Nat → Nat → Nat → Int32) (cn : Nat → Nat → Nat → Nat) : Prop := (∀ t, t < 3 → cn 0 t 0 ≤ 8) ∧ (∀ t, t < 3 → ∀ k, k < cn 0 t 0 → cn 1 t k < 6 ∧ cn 2 t k ≤ 40 ∧ (k + 1 < cn 0 t 0 → cn 2 t k < 40)) ∧ (∀ p, p < 6 → cn 3 p 0 ≤ 40 ∧ cn 4 p 0 ≤ 6) ∧ (∀ p, p < 6 → ∀ k, k < cn 3 p 0 → OKA (cn 5 p k) (ci 6 p k) (ci 7 p k) (ci 8 p k)) ∧ (∀ p, p < 6 → ∀ k, k < cn 4 p 0 → cn 6 p k < 40 ∧ 1 ≤ cn 7 p k ∧ cn 7 p k ≤ 40 ∧ cn 8 p k < 40)
theorem IC_lv {ci : Nat → Nat → Nat → Int32} {cn : Nat → Nat → Nat → Nat} {t n : Nat} (ht : t < 3) (h : IC ci cn) (hn : cn 0 t 0 = n + 1) : IC ci (lv cn t n) := by
  obtain ⟨h1, h2, h3, h4, h5⟩ := h
  have g := h1 t ht
  cases n with
  | zero =>
    refine ⟨fun t1 ht1 => ?_, fun t1 ht1 k1 hk1 => ?_, h3, h4, h5⟩
    · show (if _ then _ else _) ≤ 8
      split
      · omega
      · exact h1 t1 ht1
    · by_cases e : t1 = t
      · subst e
        have hk2 : k1 < (if (0 : Nat) = 0 ∧ t1 = t1 ∧ (0 : Nat) = 0 then 0 else cn 0 t1 0) := hk1
        rw [if_pos ⟨rfl, rfl, rfl⟩] at hk2
        omega
      · have e0 : lv cn t 0 0 t1 0 = cn 0 t1 0 := if_neg (by rintro ⟨-, q, -⟩; exact e q)
        rw [e0] at hk1 ⊢
        exact h2 t1 ht1 k1 hk1
  | succ m =>
    have hm := h2 t ht m (by omega)
    refine ⟨fun t1 ht1 => ?_, fun t1 ht1 k1 hk1 => ?_, h3, h4, h5⟩
    · show (if (0 : Nat) = 2 ∧ t1 = t ∧ (0 : Nat) = m then cn 2 t m + 1 else if (0 : Nat) = 0 ∧ t1 = t ∧ (0 : Nat) = 0 then m + 1 else cn 0 t1 0) ≤ 8
      rw [if_neg (by rintro ⟨q, -⟩; cases q)]
      split
      · omega
      · exact h1 t1 ht1
    · have e1 : lv cn t (m + 1) 1 t1 k1 = cn 1 t1 k1 := rfl
      by_cases e : t1 = t
      · subst e
        have e0 : lv cn t1 (m + 1) 0 t1 0 = m + 1 := by simp [lv, u3]
        rw [e0] at hk1 ⊢
        rw [e1]
        have hk := h2 t1 ht1 k1 (by omega)
        by_cases ek : k1 = m
        · subst ek
          have e2 : lv cn t1 (k1 + 1) 2 t1 k1 = cn 2 t1 k1 + 1 := by simp [lv, u3]
          rw [e2]
          have := hm.2.2 (by omega)
          exact ⟨hk.1, by omega, fun h => by omega⟩
        · have e2 : lv cn t1 (m + 1) 2 t1 k1 = cn 2 t1 k1 := by simp [lv, u3, ek]
          rw [e2]
          exact ⟨hk.1, hk.2.1, fun h => hk.2.2 (by omega)⟩
      · have e0 : lv cn t (m + 1) 0 t1 0 = cn 0 t1 0 := by simp [lv, u3, e]
        have e2 : lv cn t (m + 1) 2 t1 k1 = cn 2 t1 k1 := by simp [lv, u3, e]
        rw [e0] at hk1 ⊢
        rw [e1, e2]
        exact h2 t1 ht1 k1 hk1
theorem lv_0 (cn : Nat → Nat → Nat → Nat) (t n : Nat) : lv cn t n 0 t 0 = n := by cases n <;> simp [lv, u3]
theorem IC_pp {ci : Nat → Nat → Nat → Int32} {t : Nat} (ht : t < 3) : ∀ (n : Nat) {cn : Nat → Nat → Nat → Nat}, IC ci cn → cn 0 t 0 = n → IC ci (pp t n cn)
  | 0, cn, h, hn => h
  | n + 1, cn, h, hn => by
    unfold pp
    split
    · exact h
    · exact IC_pp ht n (IC_lv ht h hn) (lv_0 cn t n)
def rlo (xo : Nat → Nat → Nat → Option Nat) (t : Nat) : Nat → (Nat → Nat → Nat → Option Nat)
  | 0 => xo
  | n + 1 => if xo 4 n 0 = some t then u3 (rlo xo t n) 4 n 0 none else rlo xo t n
def rli (xo : Nat → Nat → Nat → Option Nat) (xi : Nat → Nat → Nat → Int32) (t : Nat) : Nat → (Nat → Nat → Nat → Int32)
  | 0 => xi
  | n + 1 => if xo 4 n 0 = some t then u3 (rli xo xi t n) 0 n 0 (nI 0) else rli xo xi t n
theorem rlo_ge {xo : Nat → Nat → Nat → Option Nat} {t : Nat} : ∀ (n : Nat) {j : Nat}, n ≤ j → rlo xo t n 4 j 0 = xo 4 j 0
  | 0, j, _ => rfl
  | n + 1, j, h => by
    unfold rlo
    split
    · show (if _ then _ else _) = _
      rw [if_neg (by rintro ⟨-, q, -⟩; omega)]
      exact rlo_ge n (by omega)
    · exact rlo_ge n (by omega)
theorem mem2 {a b c : Nat × mm_V} : ∀ q ∈ [a, b], q ∈ [a, b, c] := by
  intro q hq
  rcases List.mem_cons.mp hq with rfl | hq
  · exact List.mem_cons_self
  · rcases List.mem_cons.mp hq with rfl | hq
    · exact List.mem_cons_of_mem _ List.mem_cons_self
    · cases hq
theorem mx0 {n : Nat} (h : n < 10000) : (if nI 0 < nI n then nI n else nI 0) = nI n := by
  by_cases h0 : 0 < n
  · rw [if_pos ((i_lt (by decide) h).mpr h0)]
  · rw [if_neg (fun g => h0 ((i_lt (by decide) h).mp g)), show n = 0 by omega]
theorem s11 : 1 - 1 = 0 := rfl
theorem sa1 (a m : Nat) : a + (m + 1) - 1 = a + m := rfl
theorem if1 {α : Type} {m : Nat} {x y : α} : (if 0 < m + 1 then x else y) = x := if_pos (Nat.succ_pos m)
theorem rm_cal0 {ci : Nat → Nat → Nat → Int32} {cn : Nat → Nat → Nat → Nat} {co : Nat → Option Nat} {xj : Nat → Nat → Nat → Int64} {xd : Nat → Nat → Nat → UInt64} {xf : Nat → Nat → Nat → UInt32} {xo : Nat → Nat → Nat → Option Nat} {xi : Nat → Nat → Nat → Int32} {xn : Nat → Nat → Nat → Nat} {I : Nat → Nat → Int32} {J : Nat → Nat → Int64} {D : Nat → Nat → UInt64} (h : RM ci cn co xj xd xf xo xi xn I J D) {t : Nat} (ht : t < 3) (h0 : 0 < cn 0 t 0) : I 36 (8 * t) = nI (cn 1 t 0) := rm_cal h ht h0
theorem rm_pla0 {ci : Nat → Nat → Nat → Int32} {cn : Nat → Nat → Nat → Nat} {co : Nat → Option Nat} {xj : Nat → Nat → Nat → Int64} {xd : Nat → Nat → Nat → UInt64} {xf : Nat → Nat → Nat → UInt32} {xo : Nat → Nat → Nat → Option Nat} {xi : Nat → Nat → Nat → Int32} {xn : Nat → Nat → Nat → Nat} {I : Nat → Nat → Int32} {J : Nat → Nat → Int64} {D : Nat → Nat → UInt64} (h : RM ci cn co xj xd xf xo xi xn I J D) {t : Nat} (ht : t < 3) (h0 : 0 < cn 0 t 0) : I 37 (8 * t) = nI (cn 2 t 0) := rm_pla h ht h0
theorem ev_cg2 {Y : mm_Y} {μ0 : mm_M} {rem : List mm_E} {L L2 : mm_L} {st st2 : List mm_V} {μ μ2 : mm_M} {Post : Option mm_V → mm_M → Prop} (hL : L = L2) (hs : st = st2) (hm : μ = μ2) (h : Ev Y μ0 rem L2 st2 μ2 Post) : Ev Y μ0 rem L st μ Post := by subst hL; subst hs; subst hm; exact h
def QGO (ci : Nat → Nat → Nat → Int32) (cn : Nat → Nat → Nat → Nat) (co : Nat → Option Nat) (xj : Nat → Nat → Nat → Int64) (xd : Nat → Nat → Nat → UInt64) (xf : Nat → Nat → Nat → UInt32) (xo : Nat → Nat → Nat → Option Nat) (xi : Nat → Nat → Nat → Int32) (xn : Nat → Nat → Nat → Nat) (t n : Nat) (r : Option mm_V) (μ1 : mm_M) : Prop := RC ci (pp t n cn) co xj xd xf xo xi xn μ1.2.1 μ1.2.2.1 μ1.2.2.2.1 μ1.2.2.2.2.1 μ1.2.2.2.2.2.1 μ1.2.2.2.2.2.2.1 μ1.2.2.2.2.2.2.2 ∧ ((pp t n cn 0 t 0 = 0 ∧ r = some vn) ∨ (∃ d, pp t n cn 0 t 0 = d + 1 ∧ r = some (vr 5 (14 + 3 * pp t n cn 1 t d)) ∧ pp t n cn 2 t d < pp t n cn 3 (pp t n cn 1 t d) 0))
theorem ev_gK {Y : mm_Y} {μ0 : mm_M} {rem : List mm_E} {L : mm_L} {st : List mm_V} {μ : mm_M} {Post : Option mm_V → mm_M → Prop} (bs : List Bool) (os : List (Option Nat)) {e2 : mm_E} {rem2 : List mm_E} {L2 : mm_L} {st2 : List mm_V} {μ2 : mm_M} {P2 : Prop} (h : mm_go 5000 (mm_co Y) rem L st μ bs os True = some (e2 :: rem2, L2, st2, μ2, P2)) (k : Ev Y μ0 (e2 :: rem2) L2 st2 μ2 Post) (hp : P2 := by (repeat' apply And.intro) <;> first | exact trivial | assumption | rfl | decide | omega | (simp (disch := first | assumption | omega | decide) only [i_add, i_mul, n_cl, nI_and7, nI_and3, v_in, i_eq, i_lt, i_le, i_eq0, i_lt0, i_ge0, i_gt0, i_le0, lg_cmp_eq, lg_cmp_ge, lg_cmp_gt, lg_cmp_le, lg_cmp_lt, zb_e0, zb_n0, Classical.not_not, up_ne, Nat.zero_add, Nat.add_zero, rc_num hC, rc_hol hC, rc_who hC, rc_nn hC, rc_dbl hC, rc_flt hC, rc_rea hC, rc_xx hC, rc_ff hC, rc_par hC, rc_nxt hC, rc_lin hC, rc_thg hC, rc_prg hC, rc_str hC, rc_pix hC, rc_six hC, rc_own hC, rc_tim hC, rc_mad hC, rc_psz hC, rc_phn hC, rc_pop hC, rc_paa hC, rc_pbb hC, rc_pcc hC, rc_hfr hC, rc_hto hC, rc_hfl hC, rc_hpl hC, rc_dep hC, rc_pla hC, rc_don hC, rc_fai hC, rc_fno hC, rc_lat hC, rc_lpr hC, rc_lpl hC, rc_wan hC, rc_cal hC, cl_ne, tR_s, tR_n, eI_s, eI_n, e_nm, e_mm, lN_i, l_lt, l_le, l_eq, l_z, lN_t, nI_tl, n_s1, i_sub, eLi, eL_s, eL_n, up_eq, mkz, i_l1, i_l2, i_l3, n_ti, i_tl2, e_mn, Nat.add_sub_cancel, mx0, s11, sa1, if1, ite_self, *] <;> first | assumption | omega | decide)) : Ev Y μ0 rem L st μ Post := ev_go bs os h hp k
theorem ev_bK {Y : mm_Y} {μ0 : mm_M} {rem : List mm_E} {L : mm_L} {st : List mm_V} {μ : mm_M} {Post : Option mm_V → mm_M → Prop} {e2 e3 : mm_E} {rem2 rem3 : List mm_E} {L2 L3 : mm_L} {st2 st3 : List mm_V} {μ2 μ3 : mm_M} {c c2 d d2 : Prop} (hT : mm_go 1 (mm_co Y) rem L st μ [true] [] True = some (e2 :: rem2, L2, st2, μ2, True ∧ c)) (hF : mm_go 1 (mm_co Y) rem L st μ [false] [] True = some (e3 :: rem3, L3, st3, μ3, True ∧ c2)) (kt : d → Ev Y μ0 (e2 :: rem2) L2 st2 μ2 Post) (kf : d2 → Ev Y μ0 (e3 :: rem3) L3 st3 μ3 Post) (hc : ¬ c → c2 := by first | exact id | exact Classical.not_not.mp) (g1 : c → d := by intro hh; (try simp (disch := first | assumption | omega | decide) only [i_add, i_mul, n_cl, nI_and7, nI_and3, v_in, i_eq, i_lt, i_le, i_eq0, i_lt0, i_ge0, i_gt0, i_le0, lg_cmp_eq, lg_cmp_ge, lg_cmp_gt, lg_cmp_le, lg_cmp_lt, zb_e0, zb_n0, Classical.not_not, up_ne, Nat.zero_add, Nat.add_zero, rc_num hC, rc_hol hC, rc_who hC, rc_nn hC, rc_dbl hC, rc_flt hC, rc_rea hC, rc_xx hC, rc_ff hC, rc_par hC, rc_nxt hC, rc_lin hC, rc_thg hC, rc_prg hC, rc_str hC, rc_pix hC, rc_six hC, rc_own hC, rc_tim hC, rc_mad hC, rc_psz hC, rc_phn hC, rc_pop hC, rc_paa hC, rc_pbb hC, rc_pcc hC, rc_hfr hC, rc_hto hC, rc_hfl hC, rc_hpl hC, rc_dep hC, rc_pla hC, rc_don hC, rc_fai hC, rc_fno hC, rc_lat hC, rc_lpr hC, rc_lpl hC, rc_wan hC, rc_cal hC, cl_ne, tR_s, tR_n, eI_s, eI_n, e_nm, e_mm, lN_i, l_lt, l_le, l_eq, l_z, lN_t, nI_tl, n_s1, i_sub, eLi, eL_s, eL_n, up_eq, mkz, i_l1, i_l2, i_l3, n_ti, i_tl2, e_mn, Nat.add_sub_cancel, mx0, s11, sa1, if1, ite_self, *] at hh); exact hh) (g2 : c2 → d2 := by intro hh; (try simp (disch := first | assumption | omega | decide) only [i_add, i_mul, n_cl, nI_and7, nI_and3, v_in, i_eq, i_lt, i_le, i_eq0, i_lt0, i_ge0, i_gt0, i_le0, lg_cmp_eq, lg_cmp_ge, lg_cmp_gt, lg_cmp_le, lg_cmp_lt, zb_e0, zb_n0, Classical.not_not, up_ne, Nat.zero_add, Nat.add_zero, rc_num hC, rc_hol hC, rc_who hC, rc_nn hC, rc_dbl hC, rc_flt hC, rc_rea hC, rc_xx hC, rc_ff hC, rc_par hC, rc_nxt hC, rc_lin hC, rc_thg hC, rc_prg hC, rc_str hC, rc_pix hC, rc_six hC, rc_own hC, rc_tim hC, rc_mad hC, rc_psz hC, rc_phn hC, rc_pop hC, rc_paa hC, rc_pbb hC, rc_pcc hC, rc_hfr hC, rc_hto hC, rc_hfl hC, rc_hpl hC, rc_dep hC, rc_pla hC, rc_don hC, rc_fai hC, rc_fno hC, rc_lat hC, rc_lpr hC, rc_lpl hC, rc_wan hC, rc_cal hC, cl_ne, tR_s, tR_n, eI_s, eI_n, e_nm, e_mm, lN_i, l_lt, l_le, l_eq, l_z, lN_t, nI_tl, n_s1, i_sub, eLi, eL_s, eL_n, up_eq, mkz, i_l1, i_l2, i_l3, n_ti, i_tl2, e_mn, Nat.add_sub_cancel, mx0, s11, sa1, if1, ite_self, *] at hh); exact hh) : Ev Y μ0 rem L st μ Post := ev_br hT hF hc (fun h => kt (g1 h)) (fun h => kf (g2 h))
theorem lf_K {p : Prop} (h : p := by first | rfl | assumption | (simp (disch := first | assumption | omega | decide) only [i_add, i_mul, n_cl, nI_and7, nI_and3, v_in, i_eq, i_lt, i_le, i_eq0, i_lt0, i_ge0, i_gt0, i_le0, lg_cmp_eq, lg_cmp_ge, lg_cmp_gt, lg_cmp_le, lg_cmp_lt, zb_e0, zb_n0, Classical.not_not, up_ne, Nat.zero_add, Nat.add_zero, rc_num hC, rc_hol hC, rc_who hC, rc_nn hC, rc_dbl hC, rc_flt hC, rc_rea hC, rc_xx hC, rc_ff hC, rc_par hC, rc_nxt hC, rc_lin hC, rc_thg hC, rc_prg hC, rc_str hC, rc_pix hC, rc_six hC, rc_own hC, rc_tim hC, rc_mad hC, rc_psz hC, rc_phn hC, rc_pop hC, rc_paa hC, rc_pbb hC, rc_pcc hC, rc_hfr hC, rc_hto hC, rc_hfl hC, rc_hpl hC, rc_dep hC, rc_pla hC, rc_don hC, rc_fai hC, rc_fno hC, rc_lat hC, rc_lpr hC, rc_lpl hC, rc_wan hC, rc_cal hC, cl_ne, tR_s, tR_n, eI_s, eI_n, e_nm, e_mm, lN_i, l_lt, l_le, l_eq, l_z, lN_t, nI_tl, n_s1, i_sub, eLi, eL_s, eL_n, up_eq, mkz, i_l1, i_l2, i_l3, n_ti, i_tl2, e_mn, Nat.add_sub_cancel, mx0, s11, sa1, if1, ite_self, *] <;> first | rfl | assumption | omega | decide)) : p := h
set_option maxHeartbeats 4000000 in
theorem GO_loop {ci : Nat → Nat → Nat → Int32} {co : Nat → Option Nat} {xj : Nat → Nat → Nat → Int64} {xd : Nat → Nat → Nat → UInt64} {xf : Nat → Nat → Nat → UInt32} {xo : Nat → Nat → Nat → Option Nat} {xi : Nat → Nat → Nat → Int32} {xn : Nat → Nat → Nat → Nat} {t : Nat} (ht : t < 3) {μ0 : mm_M} {Post : Option mm_V → mm_M → Prop} : ∀ (n k : Nat) (v : Int32) (L : mm_L) (cn : Nat → Nat → Nat → Nat) (K : Nat → Nat) (I : Nat → Nat → Int32) (J : Nat → Nat → Int64) (F : Nat → Nat → UInt32) (D : Nat → Nat → UInt64) (R : Nat → Nat → Option Nat) (nx sl : Nat), v = nI k → (∀ q ∈ [(0, vr 8 (32 + 7 * t)), (1, vi v)], q ∈ L) → RC ci cn co xj xd xf xo xi xn I J F D R nx sl → IC ci cn → cn 0 t 0 = n → k + n ≤ 8 → (∀ r μ1, QGO ci cn co xj xd xf xo xi xn t n r μ1 → Post r μ1) → Ev Y_MV_goingOn μ0 (mm_to (mm_co Y_MV_goingOn) 5) L [vi (nI 8), vi v] (K, I, J, F, D, R, nx, sl) Post := by
  intro n
  induction n with
  | zero =>
    intro k v L cn K I J F D R nx sl hv hL hC hI hcn hk hQ
    subst hv
    refine ev_sub hL ?_
    by_cases hk8 : k = 8
    · subst hk8
      refine ev_gK [true] [] rfl ?_
      refine ev_retn rfl ?_
      exact hQ _ _ ⟨hC, Or.inl ⟨hcn, rfl⟩⟩
    · have hk7 : k < 8 := by omega
      refine ev_gK [false] [] rfl ?_
      refine ev_inV 0 k_MV_73 h_SD_latestCalled rfl rfl rfl rfl rfl ⟨by decide, by decide⟩ rfl ?_
      refine ev_gK [true] [] rfl ?_
      refine ev_retn rfl ?_
      refine ev_g0 rfl ?_
      refine ev_retn rfl ?_
      exact hQ _ _ ⟨hC, Or.inl ⟨hcn, rfl⟩⟩
  | succ m ih =>
    intro k v L cn K I J F D R nx sl hv hL hC hI hcn hk hQ
    subst hv
    refine ev_sub hL ?_
    have i1 := hI.2.1 t ht m (by omega)
    have i2 := hI.2.2.1 (cn 1 t m) i1.1
    by_cases hp : cn 2 t m < cn 3 (cn 1 t m) 0
    · have hpp : pp t (m + 1) cn = cn := if_pos hp
      refine ev_gK [false] [] rfl ?_
      refine ev_inV 0 k_MV_73 h_SD_latestCalled rfl rfl rfl rfl rfl ⟨by decide, by decide⟩ rfl ?_
      refine ev_gK [false, false] [some (14 + 3 * cn 1 t m)] rfl ?_
      refine ev_reta rfl ?_
      refine ev_g0 rfl ?_
      refine ev_inV 0 k_MV_31 h_SD_place rfl rfl rfl rfl rfl ⟨by decide, by decide⟩ rfl ?_
      refine ev_gK [false, false] [] rfl ?_
      refine ev_reti rfl ?_
      refine ev_g0 rfl ?_
      refine ev_inV 1 k_MV_77 h_PR_hasPlace rfl rfl rfl rfl rfl ⟨by decide, by decide⟩ rfl ?_
      refine ev_gK [false, false] [] rfl ?_
      refine ev_retz rfl (by first | decide | exact zb_01 _) ?_
      refine ev_gK [false] [] rfl ?_
      refine ev_reta rfl ?_
      refine hQ _ _ ?_
      unfold QGO
      rw [hpp]
      exact ⟨hC, Or.inr ⟨m, hcn, rfl, hp⟩⟩
    · have hpp : pp t (m + 1) cn = pp t m (lv cn t m) := if_neg hp
      have hI2 := IC_lv ht hI hcn
      have h0 := lv_0 cn t m
      have hQ2 : ∀ r μ1, QGO ci (lv cn t m) co xj xd xf xo xi xn t m r μ1 → Post r μ1 := fun r μ1 h => hQ r μ1 (by unfold QGO; rw [hpp]; exact h)
      cases m with
      | zero =>
        refine ev_gK [false] [] rfl ?_
        refine ev_inV 0 k_MV_73 h_SD_latestCalled rfl rfl rfl rfl rfl ⟨by decide, by decide⟩ rfl ?_
        refine ev_gK [false, false] [some (14 + 3 * cn 1 t 0)] rfl ?_
        refine ev_reta rfl ?_
        refine ev_g0 rfl ?_
        refine ev_inV 0 k_MV_31 h_SD_place rfl rfl rfl rfl rfl ⟨by decide, by decide⟩ rfl ?_
        refine ev_gK [false, false] [] rfl ?_
        refine ev_reti rfl ?_
        refine ev_g0 rfl ?_
        refine ev_inV 1 k_MV_77 h_PR_hasPlace rfl rfl rfl rfl rfl ⟨by decide, by decide⟩ rfl ?_
        refine ev_gK [false, true] [] rfl ?_
        refine ev_retz rfl (by first | decide | exact zb_01 _) ?_
        refine ev_gK [true] [] rfl ?_
        refine ev_inV 0 k_MV_81 h_SD_leave rfl rfl rfl rfl rfl ⟨by decide, by decide⟩ rfl ?_
        refine ev_g0 rfl ?_
        refine ev_inV 0 k_SD_58 h_SD_place rfl rfl rfl rfl rfl ⟨by decide, by decide⟩ rfl ?_
        refine ev_gK [true] [] rfl ?_
        refine ev_reti rfl ?_
        refine ev_g0 rfl ?_
        refine ev_inV 1 k_SD_62 h_SD_goTo rfl rfl rfl rfl rfl ⟨by decide, by decide⟩ rfl ?_
        refine ev_gK [true] [] rfl ?_
        refine ev_ret rfl ?_
        refine ev_g0 rfl ?_
        refine ev_ret rfl ?_
        refine ev_g0 rfl ?_
        exact ih (k + 1) _ _ _ _ _ _ _ _ _ _ _ (i_add k 1) mem2 (CU_dep hC ht (by omega) lf_K) hI2 h0 (by omega) hQ2
      | succ m =>
        have i3 := hI.2.1 t ht m (by omega)
        refine ev_gK [false] [] rfl ?_
        refine ev_inV 0 k_MV_73 h_SD_latestCalled rfl rfl rfl rfl rfl ⟨by decide, by decide⟩ rfl ?_
        refine ev_gK [false, false] [some (14 + 3 * cn 1 t (m + 1))] rfl ?_
        refine ev_reta rfl ?_
        refine ev_g0 rfl ?_
        refine ev_inV 0 k_MV_31 h_SD_place rfl rfl rfl rfl rfl ⟨by decide, by decide⟩ rfl ?_
        refine ev_gK [false, false] [] rfl ?_
        refine ev_reti rfl ?_
        refine ev_g0 rfl ?_
        refine ev_inV 1 k_MV_77 h_PR_hasPlace rfl rfl rfl rfl rfl ⟨by decide, by decide⟩ rfl ?_
        refine ev_gK [false, true] [] rfl ?_
        refine ev_retz rfl (by first | decide | exact zb_01 _) ?_
        refine ev_gK [true] [] rfl ?_
        refine ev_inV 0 k_MV_81 h_SD_leave rfl rfl rfl rfl rfl ⟨by decide, by decide⟩ rfl ?_
        refine ev_g0 rfl ?_
        refine ev_inV 0 k_SD_58 h_SD_place rfl rfl rfl rfl rfl ⟨by decide, by decide⟩ rfl ?_
        refine ev_gK [false, false] [] rfl ?_
        refine ev_reti rfl ?_
        refine ev_g0 rfl ?_
        refine ev_inV 1 k_SD_62 h_SD_goTo rfl rfl rfl rfl rfl ⟨by decide, by decide⟩ rfl ?_
        refine ev_gK [false, false] [] rfl ?_
        refine ev_ret rfl ?_
        refine ev_g0 rfl ?_
        refine ev_ret rfl ?_
        refine ev_g0 rfl ?_
        exact ih (k + 1) _ _ _ _ _ _ _ _ _ _ _ (i_add k 1) mem2 (CU_pla (CU_dep hC ht (by omega) lf_K) ht (by simp [u3]) lf_K lf_K) hI2 h0 (by omega) hQ2
theorem C_goingOn {ci : Nat → Nat → Nat → Int32} {co : Nat → Option Nat} {xj : Nat → Nat → Nat → Int64} {xd : Nat → Nat → Nat → UInt64} {xf : Nat → Nat → Nat → UInt32} {xo : Nat → Nat → Nat → Option Nat} {xi : Nat → Nat → Nat → Int32} {xn : Nat → Nat → Nat → Nat} {cn : Nat → Nat → Nat → Nat} {t n : Nat} (ht : t < 3) {K : Nat → Nat} {I : Nat → Nat → Int32} {J : Nat → Nat → Int64} {F : Nat → Nat → UInt32} {D : Nat → Nat → UInt64} {R : Nat → Nat → Option Nat} {nx sl : Nat} (hC : RC ci cn co xj xd xf xo xi xn I J F D R nx sl) (hI : IC ci cn) (hn : cn 0 t 0 = n) : Ct Y_MV_goingOn [vr 8 (32 + 7 * t)] (K, I, J, F, D, R, nx, sl) (fun r μ1 => QGO ci cn co xj xd xf xo xi xn t n r μ1) := by
  have h8 := hI.1 t ht
  refine ct_of h_MV_goingOn rfl rfl rfl ?_
  refine ev_go [] [] rfl trivial ?_
  exact GO_loop ht n 0 _ _ cn _ _ _ _ _ _ _ _ rfl (fun q h => h) hC hI hn (by omega) (fun r μ1 h => h)
theorem ev_gK2 {Y : mm_Y} {μ0 : mm_M} {rem : List mm_E} {L : mm_L} {st : List mm_V} {μ : mm_M} {Post : Option mm_V → mm_M → Prop} (bs : List Bool) (os : List (Option Nat)) {e2 : mm_E} {rem2 : List mm_E} {L2 : mm_L} {st2 : List mm_V} {μ2 : mm_M} {P2 : Prop} (h : mm_go 5000 (mm_co Y) rem L st μ bs os True = some (e2 :: rem2, L2, st2, μ2, P2)) (k : Ev Y μ0 (e2 :: rem2) L2 st2 μ2 Post) (hp : P2 := by (repeat' apply And.intro) <;> first | exact trivial | assumption | rfl | decide | omega | (simp (disch := first | assumption | omega | decide) only [i_add, i_mul, n_cl, nI_and7, nI_and3, v_in, i_eq, i_lt, i_le, i_eq0, i_lt0, i_ge0, i_gt0, i_le0, lg_cmp_eq, lg_cmp_ge, lg_cmp_gt, lg_cmp_le, lg_cmp_lt, zb_e0, zb_n0, Classical.not_not, up_ne, Nat.zero_add, Nat.add_zero, rc_num hC, rc_hol hC, rc_who hC, rc_nn hC, rc_dbl hC, rc_flt hC, rc_rea hC, rc_xx hC, rc_ff hC, rc_par hC, rc_nxt hC, rc_lin hC, rc_thg hC, rc_prg hC, rc_str hC, rc_pix hC, rc_six hC, rc_own hC, rc_tim hC, rc_mad hC, rc_psz hC, rc_phn hC, rc_pop hC, rc_paa hC, rc_pbb hC, rc_pcc hC, rc_hfr hC, rc_hto hC, rc_hfl hC, rc_hpl hC, rc_dep hC, rc_pla hC, rc_don hC, rc_fai hC, rc_fno hC, rc_lat hC, rc_lpr hC, rc_lpl hC, rc_wan hC, rc_cal hC, cl_ne, tR_s, tR_n, eI_s, eI_n, e_nm, e_mm, lN_i, l_lt, l_le, l_eq, l_z, lN_t, nI_tl, n_s1, i_sub, eLi, eL_s, eL_n, up_eq, mkz, i_l1, i_l2, i_l3, n_ti, i_tl2, e_mn, Nat.add_sub_cancel, mx0, s11, sa1, if1, ite_self, *] <;> first | assumption | omega | decide)) : Ev Y μ0 rem L st μ Post := ev_go bs os h hp k
theorem ev_bK2 {Y : mm_Y} {μ0 : mm_M} {rem : List mm_E} {L : mm_L} {st : List mm_V} {μ : mm_M} {Post : Option mm_V → mm_M → Prop} {e2 e3 : mm_E} {rem2 rem3 : List mm_E} {L2 L3 : mm_L} {st2 st3 : List mm_V} {μ2 μ3 : mm_M} {c c2 d d2 : Prop} (hT : mm_go 1 (mm_co Y) rem L st μ [true] [] True = some (e2 :: rem2, L2, st2, μ2, True ∧ c)) (hF : mm_go 1 (mm_co Y) rem L st μ [false] [] True = some (e3 :: rem3, L3, st3, μ3, True ∧ c2)) (kt : d → Ev Y μ0 (e2 :: rem2) L2 st2 μ2 Post) (kf : d2 → Ev Y μ0 (e3 :: rem3) L3 st3 μ3 Post) (hc : ¬ c → c2 := by first | exact id | exact Classical.not_not.mp) (g1 : c → d := by intro hh; (try simp (disch := first | assumption | omega | decide) only [i_add, i_mul, n_cl, nI_and7, nI_and3, v_in, i_eq, i_lt, i_le, i_eq0, i_lt0, i_ge0, i_gt0, i_le0, lg_cmp_eq, lg_cmp_ge, lg_cmp_gt, lg_cmp_le, lg_cmp_lt, zb_e0, zb_n0, Classical.not_not, up_ne, Nat.zero_add, Nat.add_zero, rc_num hC, rc_hol hC, rc_who hC, rc_nn hC, rc_dbl hC, rc_flt hC, rc_rea hC, rc_xx hC, rc_ff hC, rc_par hC, rc_nxt hC, rc_lin hC, rc_thg hC, rc_prg hC, rc_str hC, rc_pix hC, rc_six hC, rc_own hC, rc_tim hC, rc_mad hC, rc_psz hC, rc_phn hC, rc_pop hC, rc_paa hC, rc_pbb hC, rc_pcc hC, rc_hfr hC, rc_hto hC, rc_hfl hC, rc_hpl hC, rc_dep hC, rc_pla hC, rc_don hC, rc_fai hC, rc_fno hC, rc_lat hC, rc_lpr hC, rc_lpl hC, rc_wan hC, rc_cal hC, cl_ne, tR_s, tR_n, eI_s, eI_n, e_nm, e_mm, lN_i, l_lt, l_le, l_eq, l_z, lN_t, nI_tl, n_s1, i_sub, eLi, eL_s, eL_n, up_eq, mkz, i_l1, i_l2, i_l3, n_ti, i_tl2, e_mn, Nat.add_sub_cancel, mx0, s11, sa1, if1, ite_self, *] at hh); exact hh) (g2 : c2 → d2 := by intro hh; (try simp (disch := first | assumption | omega | decide) only [i_add, i_mul, n_cl, nI_and7, nI_and3, v_in, i_eq, i_lt, i_le, i_eq0, i_lt0, i_ge0, i_gt0, i_le0, lg_cmp_eq, lg_cmp_ge, lg_cmp_gt, lg_cmp_le, lg_cmp_lt, zb_e0, zb_n0, Classical.not_not, up_ne, Nat.zero_add, Nat.add_zero, rc_num hC, rc_hol hC, rc_who hC, rc_nn hC, rc_dbl hC, rc_flt hC, rc_rea hC, rc_xx hC, rc_ff hC, rc_par hC, rc_nxt hC, rc_lin hC, rc_thg hC, rc_prg hC, rc_str hC, rc_pix hC, rc_six hC, rc_own hC, rc_tim hC, rc_mad hC, rc_psz hC, rc_phn hC, rc_pop hC, rc_paa hC, rc_pbb hC, rc_pcc hC, rc_hfr hC, rc_hto hC, rc_hfl hC, rc_hpl hC, rc_dep hC, rc_pla hC, rc_don hC, rc_fai hC, rc_fno hC, rc_lat hC, rc_lpr hC, rc_lpl hC, rc_wan hC, rc_cal hC, cl_ne, tR_s, tR_n, eI_s, eI_n, e_nm, e_mm, lN_i, l_lt, l_le, l_eq, l_z, lN_t, nI_tl, n_s1, i_sub, eLi, eL_s, eL_n, up_eq, mkz, i_l1, i_l2, i_l3, n_ti, i_tl2, e_mn, Nat.add_sub_cancel, mx0, s11, sa1, if1, ite_self, *] at hh); exact hh) : Ev Y μ0 rem L st μ Post := ev_br hT hF hc (fun h => kt (g1 h)) (fun h => kf (g2 h))
theorem lf_K2 {p : Prop} (h : p := by first | rfl | assumption | (simp (disch := first | assumption | omega | decide) only [i_add, i_mul, n_cl, nI_and7, nI_and3, v_in, i_eq, i_lt, i_le, i_eq0, i_lt0, i_ge0, i_gt0, i_le0, lg_cmp_eq, lg_cmp_ge, lg_cmp_gt, lg_cmp_le, lg_cmp_lt, zb_e0, zb_n0, Classical.not_not, up_ne, Nat.zero_add, Nat.add_zero, rc_num hC, rc_hol hC, rc_who hC, rc_nn hC, rc_dbl hC, rc_flt hC, rc_rea hC, rc_xx hC, rc_ff hC, rc_par hC, rc_nxt hC, rc_lin hC, rc_thg hC, rc_prg hC, rc_str hC, rc_pix hC, rc_six hC, rc_own hC, rc_tim hC, rc_mad hC, rc_psz hC, rc_phn hC, rc_pop hC, rc_paa hC, rc_pbb hC, rc_pcc hC, rc_hfr hC, rc_hto hC, rc_hfl hC, rc_hpl hC, rc_dep hC, rc_pla hC, rc_don hC, rc_fai hC, rc_fno hC, rc_lat hC, rc_lpr hC, rc_lpl hC, rc_wan hC, rc_cal hC, cl_ne, tR_s, tR_n, eI_s, eI_n, e_nm, e_mm, lN_i, l_lt, l_le, l_eq, l_z, lN_t, nI_tl, n_s1, i_sub, eLi, eL_s, eL_n, up_eq, mkz, i_l1, i_l2, i_l3, n_ti, i_tl2, e_mn, Nat.add_sub_cancel, mx0, s11, sa1, if1, ite_self, *] <;> first | rfl | assumption | omega | decide)) : p := h
theorem mem3 {a b c d : Nat × mm_V} : ∀ q ∈ [a, b, c], q ∈ [a, b, c, d] := by
  intro q hq
  exact List.mem_append_left [d] hq
set_option maxHeartbeats 4000000 in
theorem LG_loop {ci : Nat → Nat → Nat → Int32} {co : Nat → Option Nat} {xj : Nat → Nat → Nat → Int64} {xd : Nat → Nat → Nat → UInt64} {xf : Nat → Nat → Nat → UInt32} {xo : Nat → Nat → Nat → Option Nat} {xi : Nat → Nat → Nat → Int32} {xn : Nat → Nat → Nat → Nat} {cn : Nat → Nat → Nat → Nat} {t : Nat} (ht : t < 3) {μ0 : mm_M} {Post : Option mm_V → mm_M → Prop} : ∀ (n i : Nat) (v : Int32) (L : mm_L) (K : Nat → Nat) (I : Nat → Nat → Int32) (J : Nat → Nat → Int64) (F : Nat → Nat → UInt32) (D : Nat → Nat → UInt64) (R : Nat → Nat → Option Nat) (nx sl : Nat), v = nI i → (∀ q ∈ [(0, vr 7 9), (1, vi (nI t)), (2, vi v)], q ∈ L) → RC ci cn co xj xd xf (rlo xo t i) (rli xo xi t i) xn I J F D R nx sl → i + n = xn 2 0 0 → (∀ μ1 : mm_M, RC ci cn co xj xd xf (rlo xo t (xn 2 0 0)) (rli xo xi t (xn 2 0 0)) xn μ1.2.1 μ1.2.2.1 μ1.2.2.2.1 μ1.2.2.2.2.1 μ1.2.2.2.2.2.1 μ1.2.2.2.2.2.2.1 μ1.2.2.2.2.2.2.2 → Post none μ1) → Ev Y_SO_letGoAll μ0 (mm_to (mm_co Y_SO_letGoAll) 7) L [vi (nI (xn 2 0 0)), vi v] (K, I, J, F, D, R, nx, sl) Post := by
  intro n
  induction n with
  | zero =>
    intro i v L K I J F D R nx sl hv hL hC hi hQ
    subst hv
    refine ev_sub hL ?_
    have hie : i = xn 2 0 0 := by omega
    have yy := rc_imad hC
    subst hie
    refine ev_gK2 [true] [] rfl ?_
    refine ev_ret rfl ?_
    exact hQ _ hC
  | succ n ih =>
    intro i v L K I J F D R nx sl hv hL hC hi hQ
    subst hv
    refine ev_sub hL ?_
    have him : i < xn 2 0 0 := by omega
    have yy := rc_imad hC
    have hro : rlo xo t i 4 i 0 = xo 4 i 0 := rlo_ge i (Nat.le_refl _)
    rcases hw : xo 4 i 0 with _ | w
    · skip
      refine ev_gK2 [false, true] [some (94 + 4 * i)] rfl ?_
      have hr1 : rlo xo t (i + 1) = rlo xo t i := if_neg (by rw [hw]; intro h; cases h)
      have hr2 : rli xo xi t (i + 1) = rli xo xi t i := if_neg (by rw [hw]; intro h; cases h)
      refine ev_cg2 rfl (st2 := [vi (nI (xn 2 0 0)), vi (nI i + nI 1)]) lf_K2 rfl ?_
      refine ih (i + 1) _ _ _ _ _ _ _ _ _ _ (i_add i 1) mem3 ?_ (by omega) hQ
      rw [hr1, hr2]
      exact hC
    · have hw3 := rc_iown hC him w (hro.trans hw)
      by_cases hwt : w = t
      · rw [hwt] at hw
        refine ev_gK2 [false, false] [some (94 + 4 * i)] rfl ?_
        refine ev_inV 0 k_SO_33 h_TH_letGo rfl rfl rfl rfl rfl ⟨by decide, by decide⟩ rfl ?_
        refine ev_g0 rfl ?_
        refine ev_ret rfl ?_
        refine ev_g0 rfl ?_
        have hr1 : rlo xo t (i + 1) = u3 (rlo xo t i) 4 i 0 none := if_pos (by rw [hw])
        have hr2 : rli xo xi t (i + 1) = u3 (rli xo xi t i) 0 i 0 (nI 0) := if_pos (by rw [hw])
        refine ev_cg2 rfl (st2 := [vi (nI (xn 2 0 0)), vi (nI i + nI 1)]) lf_K2 rfl ?_
        refine ih (i + 1) _ _ _ _ _ _ _ _ _ _ (i_add i 1) mem3 ?_ (by omega) hQ
        rw [hr1, hr2]
        exact CU_tim (CU_own hC him (fun _ h => by cases h) lf_K2 lf_K2) him lf_K2 lf_K2
      · skip
        refine ev_gK2 [false, true] [some (94 + 4 * i)] rfl ?_
        have hr1 : rlo xo t (i + 1) = rlo xo t i := if_neg (by rw [hw]; intro h; exact hwt (Option.some.inj h))
        have hr2 : rli xo xi t (i + 1) = rli xo xi t i := if_neg (by rw [hw]; intro h; exact hwt (Option.some.inj h))
        refine ev_cg2 rfl (st2 := [vi (nI (xn 2 0 0)), vi (nI i + nI 1)]) lf_K2 rfl ?_
        refine ih (i + 1) _ _ _ _ _ _ _ _ _ _ (i_add i 1) mem3 ?_ (by omega) hQ
        rw [hr1, hr2]
        exact hC
theorem C_letGoAll {ci : Nat → Nat → Nat → Int32} {co : Nat → Option Nat} {xj : Nat → Nat → Nat → Int64} {xd : Nat → Nat → Nat → UInt64} {xf : Nat → Nat → Nat → UInt32} {xo : Nat → Nat → Nat → Option Nat} {xi : Nat → Nat → Nat → Int32} {xn : Nat → Nat → Nat → Nat} {cn : Nat → Nat → Nat → Nat} {t : Nat} (ht : t < 3) {K : Nat → Nat} {I : Nat → Nat → Int32} {J : Nat → Nat → Int64} {F : Nat → Nat → UInt32} {D : Nat → Nat → UInt64} {R : Nat → Nat → Option Nat} {nx sl : Nat} (hC : RC ci cn co xj xd xf xo xi xn I J F D R nx sl) : Ct Y_SO_letGoAll [vr 7 9, vi (nI t)] (K, I, J, F, D, R, nx, sl) (fun r μ1 => r = none ∧ RC ci cn co xj xd xf (rlo xo t (xn 2 0 0)) (rli xo xi t (xn 2 0 0)) xn μ1.2.1 μ1.2.2.1 μ1.2.2.2.1 μ1.2.2.2.2.1 μ1.2.2.2.2.2.1 μ1.2.2.2.2.2.2.1 μ1.2.2.2.2.2.2.2) := by
  refine ct_of h_SO_letGoAll rfl rfl rfl ?_
  refine ev_go [] [] rfl trivial ?_
  refine ev_cg2 rfl (st2 := [vi (nI (xn 2 0 0)), vi (nI 0)]) ?_ rfl ?_
  · show [vi (I 9 1), _] = _
    rw [rc_mad hC]
  · exact LG_loop ht (xn 2 0 0) 0 _ _ _ _ _ _ _ _ _ _ rfl (fun q h => h) hC (by omega) (fun μ1 h => ⟨rfl, h⟩)
theorem ev_gL2 {Y : mm_Y} {μ0 : mm_M} {rem : List mm_E} {L : mm_L} {st : List mm_V} {μ : mm_M} {Post : Option mm_V → mm_M → Prop} (bs : List Bool) (os : List (Option Nat)) {e2 : mm_E} {rem2 : List mm_E} {L2 : mm_L} {st2 : List mm_V} {μ2 : mm_M} {P2 : Prop} (h : mm_go 5000 (mm_co Y) rem L st μ bs os True = some (e2 :: rem2, L2, st2, μ2, P2)) (k : Ev Y μ0 (e2 :: rem2) L2 st2 μ2 Post) (hp : P2 := by (repeat' apply And.intro) <;> first | exact trivial | assumption | rfl | decide | omega | (simp (disch := first | assumption | omega | decide) only [i_add, i_mul, n_cl, nI_and7, nI_and3, v_in, i_eq, i_lt, i_le, i_eq0, i_lt0, i_ge0, i_gt0, i_le0, lg_cmp_eq, lg_cmp_ge, lg_cmp_gt, lg_cmp_le, lg_cmp_lt, zb_e0, zb_n0, Classical.not_not, up_ne, Nat.zero_add, Nat.add_zero, rm_num hM, rm_mad hM, rm_own hM, rm_tim hM, rm_hol hM, rm_psz hM, rm_pop hM, rm_paa hM, rm_pbb hM, rm_pcc hM, rm_phn hM, rm_hfr hM, rm_hto hM, rm_hfl hM, rm_hpl hM, rm_isn hM, rm_dep hM, rm_cal hM, rm_pla hM, rm_don hM, rm_fai hM, rm_lat hM, rm_lpr hM, rm_lpl hM, rm_wan hM, rm_cal0 hM, rm_pla0 hM, cl_ne, tR_s, tR_n, eI_s, eI_n, e_nm, e_mm, lN_i, l_lt, l_le, l_eq, l_z, lN_t, nI_tl, n_s1, i_sub, eLi, eL_s, eL_n, up_eq, mkz, i_l1, i_l2, i_l3, n_ti, i_tl2, e_mn, Nat.add_sub_cancel, mx0, s11, sa1, if1, ite_self, isr, *] <;> first | assumption | omega | decide)) : Ev Y μ0 rem L st μ Post := ev_go bs os h hp k
theorem ev_bL2 {Y : mm_Y} {μ0 : mm_M} {rem : List mm_E} {L : mm_L} {st : List mm_V} {μ : mm_M} {Post : Option mm_V → mm_M → Prop} {e2 e3 : mm_E} {rem2 rem3 : List mm_E} {L2 L3 : mm_L} {st2 st3 : List mm_V} {μ2 μ3 : mm_M} {c c2 d d2 : Prop} (hT : mm_go 1 (mm_co Y) rem L st μ [true] [] True = some (e2 :: rem2, L2, st2, μ2, True ∧ c)) (hF : mm_go 1 (mm_co Y) rem L st μ [false] [] True = some (e3 :: rem3, L3, st3, μ3, True ∧ c2)) (kt : d → Ev Y μ0 (e2 :: rem2) L2 st2 μ2 Post) (kf : d2 → Ev Y μ0 (e3 :: rem3) L3 st3 μ3 Post) (hc : ¬ c → c2 := by first | exact id | exact Classical.not_not.mp) (g1 : c → d := by intro hh; (try simp (disch := first | assumption | omega | decide) only [i_add, i_mul, n_cl, nI_and7, nI_and3, v_in, i_eq, i_lt, i_le, i_eq0, i_lt0, i_ge0, i_gt0, i_le0, lg_cmp_eq, lg_cmp_ge, lg_cmp_gt, lg_cmp_le, lg_cmp_lt, zb_e0, zb_n0, Classical.not_not, up_ne, Nat.zero_add, Nat.add_zero, rm_num hM, rm_mad hM, rm_own hM, rm_tim hM, rm_hol hM, rm_psz hM, rm_pop hM, rm_paa hM, rm_pbb hM, rm_pcc hM, rm_phn hM, rm_hfr hM, rm_hto hM, rm_hfl hM, rm_hpl hM, rm_isn hM, rm_dep hM, rm_cal hM, rm_pla hM, rm_don hM, rm_fai hM, rm_lat hM, rm_lpr hM, rm_lpl hM, rm_wan hM, rm_cal0 hM, rm_pla0 hM, cl_ne, tR_s, tR_n, eI_s, eI_n, e_nm, e_mm, lN_i, l_lt, l_le, l_eq, l_z, lN_t, nI_tl, n_s1, i_sub, eLi, eL_s, eL_n, up_eq, mkz, i_l1, i_l2, i_l3, n_ti, i_tl2, e_mn, Nat.add_sub_cancel, mx0, s11, sa1, if1, ite_self, isr, *] at hh); exact hh) (g2 : c2 → d2 := by intro hh; (try simp (disch := first | assumption | omega | decide) only [i_add, i_mul, n_cl, nI_and7, nI_and3, v_in, i_eq, i_lt, i_le, i_eq0, i_lt0, i_ge0, i_gt0, i_le0, lg_cmp_eq, lg_cmp_ge, lg_cmp_gt, lg_cmp_le, lg_cmp_lt, zb_e0, zb_n0, Classical.not_not, up_ne, Nat.zero_add, Nat.add_zero, rm_num hM, rm_mad hM, rm_own hM, rm_tim hM, rm_hol hM, rm_psz hM, rm_pop hM, rm_paa hM, rm_pbb hM, rm_pcc hM, rm_phn hM, rm_hfr hM, rm_hto hM, rm_hfl hM, rm_hpl hM, rm_isn hM, rm_dep hM, rm_cal hM, rm_pla hM, rm_don hM, rm_fai hM, rm_lat hM, rm_lpr hM, rm_lpl hM, rm_wan hM, rm_cal0 hM, rm_pla0 hM, cl_ne, tR_s, tR_n, eI_s, eI_n, e_nm, e_mm, lN_i, l_lt, l_le, l_eq, l_z, lN_t, nI_tl, n_s1, i_sub, eLi, eL_s, eL_n, up_eq, mkz, i_l1, i_l2, i_l3, n_ti, i_tl2, e_mn, Nat.add_sub_cancel, mx0, s11, sa1, if1, ite_self, isr, *] at hh); exact hh) : Ev Y μ0 rem L st μ Post := ev_br hT hF hc (fun h => kt (g1 h)) (fun h => kf (g2 h))
theorem lf_L2 {p : Prop} (h : p := by first | rfl | assumption | (simp (disch := first | assumption | omega | decide) only [i_add, i_mul, n_cl, nI_and7, nI_and3, v_in, i_eq, i_lt, i_le, i_eq0, i_lt0, i_ge0, i_gt0, i_le0, lg_cmp_eq, lg_cmp_ge, lg_cmp_gt, lg_cmp_le, lg_cmp_lt, zb_e0, zb_n0, Classical.not_not, up_ne, Nat.zero_add, Nat.add_zero, rm_num hM, rm_mad hM, rm_own hM, rm_tim hM, rm_hol hM, rm_psz hM, rm_pop hM, rm_paa hM, rm_pbb hM, rm_pcc hM, rm_phn hM, rm_hfr hM, rm_hto hM, rm_hfl hM, rm_hpl hM, rm_isn hM, rm_dep hM, rm_cal hM, rm_pla hM, rm_don hM, rm_fai hM, rm_lat hM, rm_lpr hM, rm_lpl hM, rm_wan hM, rm_cal0 hM, rm_pla0 hM, cl_ne, tR_s, tR_n, eI_s, eI_n, e_nm, e_mm, lN_i, l_lt, l_le, l_eq, l_z, lN_t, nI_tl, n_s1, i_sub, eLi, eL_s, eL_n, up_eq, mkz, i_l1, i_l2, i_l3, n_ti, i_tl2, e_mn, Nat.add_sub_cancel, mx0, s11, sa1, if1, ite_self, isr, *] <;> first | rfl | assumption | omega | decide)) : p := h
set_option maxHeartbeats 4000000 in
theorem EN_loop {ci : Nat → Nat → Nat → Int32} {co : Nat → Option Nat} {xj : Nat → Nat → Nat → Int64} {xd : Nat → Nat → Nat → UInt64} {xf : Nat → Nat → Nat → UInt32} {xo : Nat → Nat → Nat → Option Nat} {xi : Nat → Nat → Nat → Int32} {xn : Nat → Nat → Nat → Nat} {cn : Nat → Nat → Nat → Nat} {t : Nat} (ht : t < 3) (isr : ∀ i, i < xn 2 0 0 → xn 1 i 0 ≤ 12) (io : ∀ i, i < xn 2 0 0 → ∀ q, xo 4 i 0 = some q → q < 3) (yy : xn 2 0 0 ≤ 160) {μ0 : mm_M} {Post : Option mm_V → mm_M → Prop} : ∀ (n i : Nat) (v : Int32) (L : mm_L) (Km : Nat → Nat) (Im : Nat → Nat → Int32) (Jm : Nat → Nat → Int64) (Fm : Nat → Nat → UInt32) (Dm : Nat → Nat → UInt64) (Rm : Nat → Nat → Option Nat) (nxm slm : Nat), v = nI i → (∀ q ∈ [(0, vr 11 6), (1, vi (nI t)), (2, vi v)], q ∈ L) → RM ci cn co xj xd xf (rlo xo t i) (rli xo xi t i) xn Im Jm Dm → i + n = xn 2 0 0 → (∀ μ1 : mm_M, RM ci cn co xj xd xf (rlo xo t (xn 2 0 0)) (rli xo xi t (xn 2 0 0)) xn μ1.2.1 μ1.2.2.1 μ1.2.2.2.2.1 → Post none μ1) → Ev Y_MM_ends μ0 (mm_to (mm_co Y_MM_ends) 28) L [vi (nI (xn 2 0 0)), vi v] (Km, Im, Jm, Fm, Dm, Rm, nxm, slm) Post := by
  intro n
  induction n with
  | zero =>
    intro i v L Km Im Jm Fm Dm Rm nxm slm hv hL hM hi hQ
    subst hv
    refine ev_sub hL ?_
    have hie : i = xn 2 0 0 := by omega
    subst hie
    refine ev_gL2 [true] [] rfl ?_
    refine ev_ret rfl ?_
    exact hQ _ hM
  | succ n ih =>
    intro i v L Km Im Jm Fm Dm Rm nxm slm hv hL hM hi hQ
    subst hv
    refine ev_sub hL ?_
    have him : i < xn 2 0 0 := by omega
    have hro : rlo xo t i 4 i 0 = xo 4 i 0 := rlo_ge i (Nat.le_refl _)
    rcases hw : xo 4 i 0 with _ | w
    · skip
      refine ev_gL2 [false, true] [] rfl ?_
      have hr1 : rlo xo t (i + 1) = rlo xo t i := if_neg (by rw [hw]; intro h; cases h)
      have hr2 : rli xo xi t (i + 1) = rli xo xi t i := if_neg (by rw [hw]; intro h; cases h)
      refine ev_cg2 rfl (st2 := [vi (nI (xn 2 0 0)), vi (nI i + nI 1)]) lf_L2 rfl ?_
      refine ih (i + 1) _ _ _ _ _ _ _ _ _ _ (i_add i 1) (fun q h => h) ?_ (by omega) hQ
      rw [hr1, hr2]
      exact hM
    · have hw3 := io i him w hw
      by_cases hwt : w = t
      · rw [hwt] at hw
        refine ev_gL2 [false, false] [] rfl ?_
        have hr1 : rlo xo t (i + 1) = u3 (rlo xo t i) 4 i 0 none := if_pos (by rw [hw])
        have hr2 : rli xo xi t (i + 1) = u3 (rli xo xi t i) 0 i 0 (nI 0) := if_pos (by rw [hw])
        refine ev_cg2 rfl (st2 := [vi (nI (xn 2 0 0)), vi (nI i + nI 1)]) lf_L2 rfl ?_
        refine ih (i + 1) _ _ _ _ _ _ _ _ _ _ (i_add i 1) (fun q h => h) ?_ (by omega) hQ
        rw [hr1, hr2]
        exact MU_tim (MU_own hM him lf_L2 lf_L2 isr) him lf_L2 lf_L2 isr
      · skip
        refine ev_gL2 [false, true] [] rfl ?_
        have hr1 : rlo xo t (i + 1) = rlo xo t i := if_neg (by rw [hw]; intro h; exact hwt (Option.some.inj h))
        have hr2 : rli xo xi t (i + 1) = rli xo xi t i := if_neg (by rw [hw]; intro h; exact hwt (Option.some.inj h))
        refine ev_cg2 rfl (st2 := [vi (nI (xn 2 0 0)), vi (nI i + nI 1)]) lf_L2 rfl ?_
        refine ih (i + 1) _ _ _ _ _ _ _ _ _ _ (i_add i 1) (fun q h => h) ?_ (by omega) hQ
        rw [hr1, hr2]
        exact hM
theorem C_MM_ends {ci : Nat → Nat → Nat → Int32} {co : Nat → Option Nat} {xj : Nat → Nat → Nat → Int64} {xd : Nat → Nat → Nat → UInt64} {xf : Nat → Nat → Nat → UInt32} {xo : Nat → Nat → Nat → Option Nat} {xi : Nat → Nat → Nat → Int32} {xn : Nat → Nat → Nat → Nat} {cn : Nat → Nat → Nat → Nat} {t : Nat} (ht : t < 3) (isr : ∀ i, i < xn 2 0 0 → xn 1 i 0 ≤ 12) (io : ∀ i, i < xn 2 0 0 → ∀ q, xo 4 i 0 = some q → q < 3) (yy : xn 2 0 0 ≤ 160) {Km : Nat → Nat} {Im : Nat → Nat → Int32} {Jm : Nat → Nat → Int64} {Fm : Nat → Nat → UInt32} {Dm : Nat → Nat → UInt64} {Rm : Nat → Nat → Option Nat} {nxm slm : Nat} {I2 : Nat → Nat → Int32} (hM : RM ci cn co xj xd xf xo xi xn Im Jm Dm) (h2 : ∀ a k, ¬ (a = 35 ∧ k = t) → I2 a k = Im a k) : Ct Y_MM_ends [vr 11 6, vi (nI t)] (Km, I2, Jm, Fm, Dm, Rm, nxm, slm) (fun r μ1 => r = none ∧ RM ci (u3 cn 0 t 0 0) (u1 co t none) xj xd xf (rlo xo t (xn 2 0 0)) (rli xo xi t (xn 2 0 0)) xn μ1.2.1 μ1.2.2.1 μ1.2.2.2.2.1) := by
  have hM1 := MU_wan (v := none) (MU_dp0 hM ht) ht rfl rfl
  have e : mm_up (mm_up (mm_up I2 34 t (nI 0)) 35 t (nI 0)) 43 t (-(nI 1)) = mm_up (mm_up (mm_up Im 34 t (nI 0)) 35 t (nI 0)) 43 t (eI none) := by
    funext a k
    simp only [mm_up]
    by_cases g : a = 35 ∧ k = t
    · (repeat' split) <;> first | rfl | (exfalso; omega)
    · rw [h2 a k g]; rfl
  have em : I2 6 0 = nI (xn 2 0 0) := by rw [h2 6 0 (by rintro ⟨q, -⟩; cases q)]; exact rm_mad hM
  have c0 : vp_in (nI t) 3 := (v_in (by omega)).mpr ht
  have ct : (nI t).toNatClampNeg = t := n_cl (by omega)
  refine ct_of h_MM_ends rfl rfl rfl ?_
  refine ev_go [] [] rfl ⟨⟨⟨trivial, c0⟩, c0⟩, c0⟩ ?_
  refine ev_cg2 rfl (st2 := [vi (nI (xn 2 0 0)), vi (nI 0)]) (μ2 := (Km, mm_up (mm_up (mm_up Im 34 t (nI 0)) 35 t (nI 0)) 43 t (eI none), Jm, Fm, Dm, Rm, nxm, slm)) ?_ ?_ ?_
  · show [vi (mm_up _ _ _ _ 6 0), _] = _
    rw [up_ne (by omega), up_ne (by omega), up_ne (by omega), em]
  · rw [ct, show vp_nar FieldType.boolean (nI 0) = nI 0 from by decide, e]
  · exact EN_loop ht isr io yy (xn 2 0 0) 0 _ _ _ _ _ _ _ _ _ _ rfl (fun q h => h) hM1 (by omega) (fun μ1 h => ⟨rfl, h⟩)
def hs (ci : Nat → Nat → Nat → Int32) (cn : Nat → Nat → Nat → Nat) (p pl : Nat) (f : Int32) : Nat → Nat → Option Nat
  | 0, _ => none
  | n + 1, k => if cn 6 p k ≤ pl ∧ pl < cn 7 p k ∧ (ci 9 p k = -(nI 1) ∨ ci 9 p k = f) then some k else hs ci cn p pl f n (k + 1)
theorem hs_lt {ci : Nat → Nat → Nat → Int32} {cn : Nat → Nat → Nat → Nat} {p pl : Nat} {f : Int32} : ∀ (n k : Nat) {j : Nat}, hs ci cn p pl f n k = some j → j < k + n
  | 0, k, j, h => by cases h
  | n + 1, k, j, h => by
    unfold hs at h
    split at h
    · cases h; omega
    · have := hs_lt n (k + 1) h; omega
def tk (ci : Nat → Nat → Nat → Int32) (t : Nat) (f : Int32) : Nat → (Nat → Nat → Nat → Nat) → Option (Nat × (Nat → Nat → Nat → Nat))
  | 0, _ => none
  | n + 1, cn => match hs ci cn (cn 1 t n) (cn 2 t n) f (cn 4 (cn 1 t n) 0) 0 with
    | some k => some (n, u3 cn 2 t n (cn 8 (cn 1 t n) k))
    | none => tk ci t f n (u3 cn 0 t 0 n)
theorem IC_dep {ci : Nat → Nat → Nat → Int32} {cn : Nat → Nat → Nat → Nat} {t n : Nat} (ht : t < 3) (h : IC ci cn) (hn : n ≤ cn 0 t 0) : IC ci (u3 cn 0 t 0 n) := by
  obtain ⟨h1, h2, h3, h4, h5⟩ := h
  have g := h1 t ht
  refine ⟨fun t1 ht1 => ?_, fun t1 ht1 k1 hk1 => ?_, h3, h4, h5⟩
  · show (if _ then _ else _) ≤ 8
    split
    · omega
    · exact h1 t1 ht1
  · by_cases e : t1 = t
    · subst e
      have e0 : u3 cn 0 t1 0 n 0 t1 0 = n := by simp [u3]
      rw [e0] at hk1 ⊢
      have hk := h2 t1 ht1 k1 (by omega)
      exact ⟨hk.1, hk.2.1, fun h => hk.2.2 (by omega)⟩
    · have e0 : u3 cn 0 t 0 n 0 t1 0 = cn 0 t1 0 := by simp [u3, e]
      rw [e0] at hk1 ⊢
      exact h2 t1 ht1 k1 hk1
theorem IC_pla {ci : Nat → Nat → Nat → Int32} {cn : Nat → Nat → Nat → Nat} {t n v : Nat} (ht : t < 3) (h : IC ci cn) (hn : cn 0 t 0 = n + 1) (hv : v ≤ 40) : IC ci (u3 cn 2 t n v) := by
  obtain ⟨h1, h2, h3, h4, h5⟩ := h
  refine ⟨h1, fun t1 ht1 k1 hk1 => ?_, h3, h4, h5⟩
  have hk1 : k1 < cn 0 t1 0 := hk1
  have hk := h2 t1 ht1 k1 hk1
  refine ⟨hk.1, ?_, ?_⟩
  · show (if _ then _ else _) ≤ 40
    split
    · exact hv
    · exact hk.2.1
  · intro hl
    have hl : k1 + 1 < cn 0 t1 0 := hl
    show (if (2 : Nat) = 2 ∧ t1 = t ∧ k1 = n then v else cn 2 t1 k1) < 40
    rw [if_neg (by rintro ⟨-, rfl, rfl⟩; omega)]
    exact hk.2.2 hl
theorem k4 (k : Nat) : nI k * nI 4 = nI (4 * k) := by rw [i_mul, Nat.mul_comm]
theorem u3_s {α : Type} {f : Nat → Nat → Nat → α} {c i k : Nat} {v : α} : u3 f c i k v c i k = v := if_pos ⟨rfl, rfl, rfl⟩
def phr (cn : Nat → Nat → Nat → Nat) (p : Nat) : Option Nat → Int32
  | none => -(nI 1)
  | some k => nI (cn 8 p k)
theorem ev_gK3 {Y : mm_Y} {μ0 : mm_M} {rem : List mm_E} {L : mm_L} {st : List mm_V} {μ : mm_M} {Post : Option mm_V → mm_M → Prop} (bs : List Bool) (os : List (Option Nat)) {e2 : mm_E} {rem2 : List mm_E} {L2 : mm_L} {st2 : List mm_V} {μ2 : mm_M} {P2 : Prop} (h : mm_go 5000 (mm_co Y) rem L st μ bs os True = some (e2 :: rem2, L2, st2, μ2, P2)) (k : Ev Y μ0 (e2 :: rem2) L2 st2 μ2 Post) (hp : P2 := by (repeat' apply And.intro) <;> first | exact trivial | assumption | rfl | decide | omega | (simp (disch := first | assumption | omega | decide) only [i_add, n_cl, nI_and7, nI_and3, v_in, i_eq, i_lt, i_le, i_eq0, i_lt0, i_ge0, i_gt0, i_le0, lg_cmp_eq, lg_cmp_ge, lg_cmp_gt, lg_cmp_le, lg_cmp_lt, zb_e0, zb_n0, Classical.not_not, up_ne, Nat.zero_add, Nat.add_zero, rc_num hC, rc_hol hC, rc_who hC, rc_nn hC, rc_dbl hC, rc_flt hC, rc_rea hC, rc_xx hC, rc_ff hC, rc_par hC, rc_nxt hC, rc_lin hC, rc_thg hC, rc_prg hC, rc_str hC, rc_pix hC, rc_six hC, rc_own hC, rc_tim hC, rc_mad hC, rc_psz hC, rc_phn hC, rc_pop hC, rc_paa hC, rc_pbb hC, rc_pcc hC, rc_hfr hC, rc_hto hC, rc_hfl hC, rc_hpl hC, rc_dep hC, rc_pla hC, rc_don hC, rc_fai hC, rc_fno hC, rc_lat hC, rc_lpr hC, rc_lpl hC, rc_wan hC, rc_cal hC, cl_ne, tR_s, tR_n, eI_s, eI_n, e_nm, e_mm, lN_i, l_lt, l_le, l_eq, l_z, lN_t, nI_tl, n_s1, i_sub, eLi, eL_s, eL_n, up_eq, mkz, i_l1, i_l2, i_l3, n_ti, i_tl2, e_mn, Nat.add_sub_cancel, mx0, s11, sa1, if1, ite_self, k4, *] <;> first | assumption | omega | decide)) : Ev Y μ0 rem L st μ Post := ev_go bs os h hp k
theorem ev_bK3 {Y : mm_Y} {μ0 : mm_M} {rem : List mm_E} {L : mm_L} {st : List mm_V} {μ : mm_M} {Post : Option mm_V → mm_M → Prop} {e2 e3 : mm_E} {rem2 rem3 : List mm_E} {L2 L3 : mm_L} {st2 st3 : List mm_V} {μ2 μ3 : mm_M} {c c2 d d2 : Prop} (hT : mm_go 1 (mm_co Y) rem L st μ [true] [] True = some (e2 :: rem2, L2, st2, μ2, True ∧ c)) (hF : mm_go 1 (mm_co Y) rem L st μ [false] [] True = some (e3 :: rem3, L3, st3, μ3, True ∧ c2)) (kt : d → Ev Y μ0 (e2 :: rem2) L2 st2 μ2 Post) (kf : d2 → Ev Y μ0 (e3 :: rem3) L3 st3 μ3 Post) (hc : ¬ c → c2 := by first | exact id | exact Classical.not_not.mp) (g1 : c → d := by intro hh; (try simp (disch := first | assumption | omega | decide) only [i_add, n_cl, nI_and7, nI_and3, v_in, i_eq, i_lt, i_le, i_eq0, i_lt0, i_ge0, i_gt0, i_le0, lg_cmp_eq, lg_cmp_ge, lg_cmp_gt, lg_cmp_le, lg_cmp_lt, zb_e0, zb_n0, Classical.not_not, up_ne, Nat.zero_add, Nat.add_zero, rc_num hC, rc_hol hC, rc_who hC, rc_nn hC, rc_dbl hC, rc_flt hC, rc_rea hC, rc_xx hC, rc_ff hC, rc_par hC, rc_nxt hC, rc_lin hC, rc_thg hC, rc_prg hC, rc_str hC, rc_pix hC, rc_six hC, rc_own hC, rc_tim hC, rc_mad hC, rc_psz hC, rc_phn hC, rc_pop hC, rc_paa hC, rc_pbb hC, rc_pcc hC, rc_hfr hC, rc_hto hC, rc_hfl hC, rc_hpl hC, rc_dep hC, rc_pla hC, rc_don hC, rc_fai hC, rc_fno hC, rc_lat hC, rc_lpr hC, rc_lpl hC, rc_wan hC, rc_cal hC, cl_ne, tR_s, tR_n, eI_s, eI_n, e_nm, e_mm, lN_i, l_lt, l_le, l_eq, l_z, lN_t, nI_tl, n_s1, i_sub, eLi, eL_s, eL_n, up_eq, mkz, i_l1, i_l2, i_l3, n_ti, i_tl2, e_mn, Nat.add_sub_cancel, mx0, s11, sa1, if1, ite_self, k4, *] at hh); exact hh) (g2 : c2 → d2 := by intro hh; (try simp (disch := first | assumption | omega | decide) only [i_add, n_cl, nI_and7, nI_and3, v_in, i_eq, i_lt, i_le, i_eq0, i_lt0, i_ge0, i_gt0, i_le0, lg_cmp_eq, lg_cmp_ge, lg_cmp_gt, lg_cmp_le, lg_cmp_lt, zb_e0, zb_n0, Classical.not_not, up_ne, Nat.zero_add, Nat.add_zero, rc_num hC, rc_hol hC, rc_who hC, rc_nn hC, rc_dbl hC, rc_flt hC, rc_rea hC, rc_xx hC, rc_ff hC, rc_par hC, rc_nxt hC, rc_lin hC, rc_thg hC, rc_prg hC, rc_str hC, rc_pix hC, rc_six hC, rc_own hC, rc_tim hC, rc_mad hC, rc_psz hC, rc_phn hC, rc_pop hC, rc_paa hC, rc_pbb hC, rc_pcc hC, rc_hfr hC, rc_hto hC, rc_hfl hC, rc_hpl hC, rc_dep hC, rc_pla hC, rc_don hC, rc_fai hC, rc_fno hC, rc_lat hC, rc_lpr hC, rc_lpl hC, rc_wan hC, rc_cal hC, cl_ne, tR_s, tR_n, eI_s, eI_n, e_nm, e_mm, lN_i, l_lt, l_le, l_eq, l_z, lN_t, nI_tl, n_s1, i_sub, eLi, eL_s, eL_n, up_eq, mkz, i_l1, i_l2, i_l3, n_ti, i_tl2, e_mn, Nat.add_sub_cancel, mx0, s11, sa1, if1, ite_self, k4, *] at hh); exact hh) : Ev Y μ0 rem L st μ Post := ev_br hT hF hc (fun h => kt (g1 h)) (fun h => kf (g2 h))
theorem lf_K3 {p : Prop} (h : p := by first | rfl | assumption | (simp (disch := first | assumption | omega | decide) only [i_add, n_cl, nI_and7, nI_and3, v_in, i_eq, i_lt, i_le, i_eq0, i_lt0, i_ge0, i_gt0, i_le0, lg_cmp_eq, lg_cmp_ge, lg_cmp_gt, lg_cmp_le, lg_cmp_lt, zb_e0, zb_n0, Classical.not_not, up_ne, Nat.zero_add, Nat.add_zero, rc_num hC, rc_hol hC, rc_who hC, rc_nn hC, rc_dbl hC, rc_flt hC, rc_rea hC, rc_xx hC, rc_ff hC, rc_par hC, rc_nxt hC, rc_lin hC, rc_thg hC, rc_prg hC, rc_str hC, rc_pix hC, rc_six hC, rc_own hC, rc_tim hC, rc_mad hC, rc_psz hC, rc_phn hC, rc_pop hC, rc_paa hC, rc_pbb hC, rc_pcc hC, rc_hfr hC, rc_hto hC, rc_hfl hC, rc_hpl hC, rc_dep hC, rc_pla hC, rc_don hC, rc_fai hC, rc_fno hC, rc_lat hC, rc_lpr hC, rc_lpl hC, rc_wan hC, rc_cal hC, cl_ne, tR_s, tR_n, eI_s, eI_n, e_nm, e_mm, lN_i, l_lt, l_le, l_eq, l_z, lN_t, nI_tl, n_s1, i_sub, eLi, eL_s, eL_n, up_eq, mkz, i_l1, i_l2, i_l3, n_ti, i_tl2, e_mn, Nat.add_sub_cancel, mx0, s11, sa1, if1, ite_self, k4, *] <;> first | rfl | assumption | omega | decide)) : p := h
theorem mem6 {a b c d e g : Nat × mm_V} : ∀ q ∈ [a, b, c, d], q ∈ [a, b, c, d, e, g] := fun q hq => List.mem_append_left [e, g] hq
set_option maxHeartbeats 4000000 in
theorem HP_loop {ci : Nat → Nat → Nat → Int32} {co : Nat → Option Nat} {xj : Nat → Nat → Nat → Int64} {xd : Nat → Nat → Nat → UInt64} {xf : Nat → Nat → Nat → UInt32} {xo : Nat → Nat → Nat → Option Nat} {xi : Nat → Nat → Nat → Int32} {xn : Nat → Nat → Nat → Nat} {cn : Nat → Nat → Nat → Nat} {p pl : Nat} {f : Int32} (hp : p < 6) (hpl : pl ≤ 40) (hI : IC ci cn) {K : Nat → Nat} {I : Nat → Nat → Int32} {J : Nat → Nat → Int64} {F : Nat → Nat → UInt32} {D : Nat → Nat → UInt64} {R : Nat → Nat → Option Nat} {nx sl : Nat} (hC : RC ci cn co xj xd xf xo xi xn I J F D R nx sl) {μ0 : mm_M} {Post : Option mm_V → mm_M → Prop} : ∀ (n k : Nat) (v : Int32) (L : mm_L), v = nI k → (∀ q ∈ [(0, vr 5 (14 + 3 * p)), (1, vi (nI pl)), (2, vi f), (3, vi v)], q ∈ L) → k + n = cn 4 p 0 → Post (some (vi (phr cn p (hs ci cn p pl f n k)))) (K, I, J, F, D, R, nx, sl) → Ev Y_PR_handlingPlace μ0 (mm_to (mm_co Y_PR_handlingPlace) 7) L [vi (nI (cn 4 p 0)), vi v] (K, I, J, F, D, R, nx, sl) Post := by
  have i0 := hI.2.2.1 p hp
  intro n
  induction n with
  | zero =>
    intro k v L hv hL hk hQ
    subst hv
    refine ev_sub hL ?_
    have hke : k = cn 4 p 0 := by omega
    subst hke
    refine ev_gK3 [true] [] rfl ?_
    refine ev_reti rfl ?_
    exact hQ
  | succ n ih =>
    intro k v L hv hL hk hQ
    subst hv
    refine ev_sub hL ?_
    have hkl : k < cn 4 p 0 := by omega
    have i5 := hI.2.2.2.2 p hp k hkl
    by_cases c1 : cn 6 p k ≤ pl
    · by_cases c2 : pl < cn 7 p k
      · by_cases c3 : ci 9 p k = -(nI 1)
        · skip
          refine ev_gK3 [false, false, false, false, true] [] rfl ?_
          refine ev_reti rfl ?_
          rw [show hs ci cn p pl f (n + 1) k = some k from if_pos ⟨c1, c2, Or.inl c3⟩] at hQ
          rw [show I (14 + 3 * p + 2) (nI k * nI 4 + nI 3).toNatClampNeg = nI (cn 8 p k) from lf_K3]
          exact hQ
        · by_cases c4 : ci 9 p k = f
          · rw [c4] at c3
            refine ev_gK3 [false, false, false, false, false, false] [] rfl ?_
            refine ev_reti rfl ?_
            rw [show hs ci cn p pl f (n + 1) k = some k from if_pos ⟨c1, c2, Or.inr c4⟩] at hQ
            rw [show I (14 + 3 * p + 2) (nI k * nI 4 + nI 3).toNatClampNeg = nI (cn 8 p k) from lf_K3]
            exact hQ
          · skip
            refine ev_gK3 [false, false, false, false, false, true] [] rfl ?_
            rw [show hs ci cn p pl f (n + 1) k = hs ci cn p pl f n (k + 1) from if_neg (by rintro ⟨-, -, g | g⟩ <;> first | exact c3 g | exact c4 g)] at hQ
            refine ev_cg2 rfl (st2 := [vi (nI (cn 4 p 0)), vi (nI k + nI 1)]) lf_K3 rfl ?_
            exact ih (k + 1) _ _ (i_add k 1) mem6 (by omega) hQ
      · skip
        refine ev_gK3 [false, false, true, true] [] rfl ?_
        rw [show hs ci cn p pl f (n + 1) k = hs ci cn p pl f n (k + 1) from if_neg (by rintro ⟨-, g, -⟩; exact c2 g)] at hQ
        refine ev_cg2 rfl (st2 := [vi (nI (cn 4 p 0)), vi (nI k + nI 1)]) lf_K3 rfl ?_
        exact ih (k + 1) _ _ (i_add k 1) mem6 (by omega) hQ
    · skip
      refine ev_gK3 [false, true, true] [] rfl ?_
      rw [show hs ci cn p pl f (n + 1) k = hs ci cn p pl f n (k + 1) from if_neg (by rintro ⟨g, -⟩; exact c1 g)] at hQ
      refine ev_cg2 rfl (st2 := [vi (nI (cn 4 p 0)), vi (nI k + nI 1)]) lf_K3 rfl ?_
      exact ih (k + 1) _ _ (i_add k 1) mem6 (by omega) hQ
theorem C_handling {ci : Nat → Nat → Nat → Int32} {co : Nat → Option Nat} {xj : Nat → Nat → Nat → Int64} {xd : Nat → Nat → Nat → UInt64} {xf : Nat → Nat → Nat → UInt32} {xo : Nat → Nat → Nat → Option Nat} {xi : Nat → Nat → Nat → Int32} {xn : Nat → Nat → Nat → Nat} {cn : Nat → Nat → Nat → Nat} {p pl : Nat} {f : Int32} (hp : p < 6) (hpl : pl ≤ 40) (hI : IC ci cn) {K : Nat → Nat} {I : Nat → Nat → Int32} {J : Nat → Nat → Int64} {F : Nat → Nat → UInt32} {D : Nat → Nat → UInt64} {R : Nat → Nat → Option Nat} {nx sl : Nat} (hC : RC ci cn co xj xd xf xo xi xn I J F D R nx sl) : mm_Det Y_PR_handlingPlace [vr 5 (14 + 3 * p), vi (nI pl), vi f] (K, I, J, F, D, R, nx, sl) (some (vi (phr cn p (hs ci cn p pl f (cn 4 p 0) 0)))) (K, I, J, F, D, R, nx, sl) := by
  refine det_of h_PR_handlingPlace rfl rfl rfl ?_
  refine ev_go [] [] rfl trivial ?_
  refine ev_cg2 rfl (st2 := [vi (nI (cn 4 p 0)), vi (nI 0)]) ?_ rfl ?_
  · show [vi (I (14 + 3 * p) 2), _] = _
    rw [rc_phn hC hp]
  · exact HP_loop hp hpl hI hC (cn 4 p 0) 0 _ _ rfl (fun q h => h) (by omega) ⟨rfl, rfl⟩
def QPE (ci : Nat → Nat → Nat → Int32) (cn : Nat → Nat → Nat → Nat) (co : Nat → Option Nat) (xj : Nat → Nat → Nat → Int64) (xd : Nat → Nat → Nat → UInt64) (xf : Nat → Nat → Nat → UInt32) (xo : Nat → Nat → Nat → Option Nat) (xi : Nat → Nat → Nat → Int32) (xn : Nat → Nat → Nat → Nat) (t n : Nat) (μ1 : mm_M) : Prop := (0 < pp t n cn 0 t 0 ∧ RM ci (pp t n cn) co xj xd xf xo xi xn μ1.2.1 μ1.2.2.1 μ1.2.2.2.2.1) ∨ (pp t n cn 0 t 0 = 0 ∧ RM ci (pp t n cn) (u1 co t none) xj xd xf (rlo xo t (xn 2 0 0)) (rli xo xi t (xn 2 0 0)) xn μ1.2.1 μ1.2.2.1 μ1.2.2.2.2.1)
theorem ev_gL3 {Y : mm_Y} {μ0 : mm_M} {rem : List mm_E} {L : mm_L} {st : List mm_V} {μ : mm_M} {Post : Option mm_V → mm_M → Prop} (bs : List Bool) (os : List (Option Nat)) {e2 : mm_E} {rem2 : List mm_E} {L2 : mm_L} {st2 : List mm_V} {μ2 : mm_M} {P2 : Prop} (h : mm_go 5000 (mm_co Y) rem L st μ bs os True = some (e2 :: rem2, L2, st2, μ2, P2)) (k : Ev Y μ0 (e2 :: rem2) L2 st2 μ2 Post) (hp : P2 := by (repeat' apply And.intro) <;> first | exact trivial | assumption | rfl | decide | omega | (simp (disch := first | assumption | omega | decide) only [i_add, i_mul, n_cl, nI_and7, nI_and3, v_in, i_eq, i_lt, i_le, i_eq0, i_lt0, i_ge0, i_gt0, i_le0, lg_cmp_eq, lg_cmp_ge, lg_cmp_gt, lg_cmp_le, lg_cmp_lt, zb_e0, zb_n0, Classical.not_not, up_ne, Nat.zero_add, Nat.add_zero, rm_num hM, rm_mad hM, rm_own hM, rm_tim hM, rm_hol hM, rm_psz hM, rm_pop hM, rm_paa hM, rm_pbb hM, rm_pcc hM, rm_phn hM, rm_hfr hM, rm_hto hM, rm_hfl hM, rm_hpl hM, rm_isn hM, rm_dep hM, rm_cal hM, rm_pla hM, rm_don hM, rm_fai hM, rm_lat hM, rm_lpr hM, rm_lpl hM, rm_wan hM, rm_cal0 hM, rm_pla0 hM, cl_ne, tR_s, tR_n, eI_s, eI_n, e_nm, e_mm, lN_i, l_lt, l_le, l_eq, l_z, lN_t, nI_tl, n_s1, i_sub, eLi, eL_s, eL_n, up_eq, mkz, i_l1, i_l2, i_l3, n_ti, i_tl2, e_mn, Nat.add_sub_cancel, mx0, s11, sa1, if1, ite_self, u3_s, *] <;> first | assumption | omega | decide)) : Ev Y μ0 rem L st μ Post := ev_go bs os h hp k
theorem ev_bL3 {Y : mm_Y} {μ0 : mm_M} {rem : List mm_E} {L : mm_L} {st : List mm_V} {μ : mm_M} {Post : Option mm_V → mm_M → Prop} {e2 e3 : mm_E} {rem2 rem3 : List mm_E} {L2 L3 : mm_L} {st2 st3 : List mm_V} {μ2 μ3 : mm_M} {c c2 d d2 : Prop} (hT : mm_go 1 (mm_co Y) rem L st μ [true] [] True = some (e2 :: rem2, L2, st2, μ2, True ∧ c)) (hF : mm_go 1 (mm_co Y) rem L st μ [false] [] True = some (e3 :: rem3, L3, st3, μ3, True ∧ c2)) (kt : d → Ev Y μ0 (e2 :: rem2) L2 st2 μ2 Post) (kf : d2 → Ev Y μ0 (e3 :: rem3) L3 st3 μ3 Post) (hc : ¬ c → c2 := by first | exact id | exact Classical.not_not.mp) (g1 : c → d := by intro hh; (try simp (disch := first | assumption | omega | decide) only [i_add, i_mul, n_cl, nI_and7, nI_and3, v_in, i_eq, i_lt, i_le, i_eq0, i_lt0, i_ge0, i_gt0, i_le0, lg_cmp_eq, lg_cmp_ge, lg_cmp_gt, lg_cmp_le, lg_cmp_lt, zb_e0, zb_n0, Classical.not_not, up_ne, Nat.zero_add, Nat.add_zero, rm_num hM, rm_mad hM, rm_own hM, rm_tim hM, rm_hol hM, rm_psz hM, rm_pop hM, rm_paa hM, rm_pbb hM, rm_pcc hM, rm_phn hM, rm_hfr hM, rm_hto hM, rm_hfl hM, rm_hpl hM, rm_isn hM, rm_dep hM, rm_cal hM, rm_pla hM, rm_don hM, rm_fai hM, rm_lat hM, rm_lpr hM, rm_lpl hM, rm_wan hM, rm_cal0 hM, rm_pla0 hM, cl_ne, tR_s, tR_n, eI_s, eI_n, e_nm, e_mm, lN_i, l_lt, l_le, l_eq, l_z, lN_t, nI_tl, n_s1, i_sub, eLi, eL_s, eL_n, up_eq, mkz, i_l1, i_l2, i_l3, n_ti, i_tl2, e_mn, Nat.add_sub_cancel, mx0, s11, sa1, if1, ite_self, u3_s, *] at hh); exact hh) (g2 : c2 → d2 := by intro hh; (try simp (disch := first | assumption | omega | decide) only [i_add, i_mul, n_cl, nI_and7, nI_and3, v_in, i_eq, i_lt, i_le, i_eq0, i_lt0, i_ge0, i_gt0, i_le0, lg_cmp_eq, lg_cmp_ge, lg_cmp_gt, lg_cmp_le, lg_cmp_lt, zb_e0, zb_n0, Classical.not_not, up_ne, Nat.zero_add, Nat.add_zero, rm_num hM, rm_mad hM, rm_own hM, rm_tim hM, rm_hol hM, rm_psz hM, rm_pop hM, rm_paa hM, rm_pbb hM, rm_pcc hM, rm_phn hM, rm_hfr hM, rm_hto hM, rm_hfl hM, rm_hpl hM, rm_isn hM, rm_dep hM, rm_cal hM, rm_pla hM, rm_don hM, rm_fai hM, rm_lat hM, rm_lpr hM, rm_lpl hM, rm_wan hM, rm_cal0 hM, rm_pla0 hM, cl_ne, tR_s, tR_n, eI_s, eI_n, e_nm, e_mm, lN_i, l_lt, l_le, l_eq, l_z, lN_t, nI_tl, n_s1, i_sub, eLi, eL_s, eL_n, up_eq, mkz, i_l1, i_l2, i_l3, n_ti, i_tl2, e_mn, Nat.add_sub_cancel, mx0, s11, sa1, if1, ite_self, u3_s, *] at hh); exact hh) : Ev Y μ0 rem L st μ Post := ev_br hT hF hc (fun h => kt (g1 h)) (fun h => kf (g2 h))
theorem lf_L3 {p : Prop} (h : p := by first | rfl | assumption | (simp (disch := first | assumption | omega | decide) only [i_add, i_mul, n_cl, nI_and7, nI_and3, v_in, i_eq, i_lt, i_le, i_eq0, i_lt0, i_ge0, i_gt0, i_le0, lg_cmp_eq, lg_cmp_ge, lg_cmp_gt, lg_cmp_le, lg_cmp_lt, zb_e0, zb_n0, Classical.not_not, up_ne, Nat.zero_add, Nat.add_zero, rm_num hM, rm_mad hM, rm_own hM, rm_tim hM, rm_hol hM, rm_psz hM, rm_pop hM, rm_paa hM, rm_pbb hM, rm_pcc hM, rm_phn hM, rm_hfr hM, rm_hto hM, rm_hfl hM, rm_hpl hM, rm_isn hM, rm_dep hM, rm_cal hM, rm_pla hM, rm_don hM, rm_fai hM, rm_lat hM, rm_lpr hM, rm_lpl hM, rm_wan hM, rm_cal0 hM, rm_pla0 hM, cl_ne, tR_s, tR_n, eI_s, eI_n, e_nm, e_mm, lN_i, l_lt, l_le, l_eq, l_z, lN_t, nI_tl, n_s1, i_sub, eLi, eL_s, eL_n, up_eq, mkz, i_l1, i_l2, i_l3, n_ti, i_tl2, e_mn, Nat.add_sub_cancel, mx0, s11, sa1, if1, ite_self, u3_s, *] <;> first | rfl | assumption | omega | decide)) : p := h
set_option maxHeartbeats 4000000 in
theorem PE_loop {ci : Nat → Nat → Nat → Int32} {co : Nat → Option Nat} {xj : Nat → Nat → Nat → Int64} {xd : Nat → Nat → Nat → UInt64} {xf : Nat → Nat → Nat → UInt32} {xo : Nat → Nat → Nat → Option Nat} {xi : Nat → Nat → Nat → Int32} {xn : Nat → Nat → Nat → Nat} {t : Nat} (ht : t < 3) (isr : ∀ i, i < xn 2 0 0 → xn 1 i 0 ≤ 12) (io : ∀ i, i < xn 2 0 0 → ∀ q, xo 4 i 0 = some q → q < 3) (yy : xn 2 0 0 ≤ 160) {μ0 : mm_M} {Post : Option mm_V → mm_M → Prop} : ∀ (m : Nat) (v : Int32) (cn : Nat → Nat → Nat → Nat) (Km : Nat → Nat) (Im : Nat → Nat → Int32) (Jm : Nat → Nat → Int64) (Fm : Nat → Nat → UInt32) (Dm : Nat → Nat → UInt64) (Rm : Nat → Nat → Option Nat) (nxm slm : Nat), v = nI (m + 1) → RM ci cn co xj xd xf xo xi xn Im Jm Dm → IC ci cn → cn 0 t 0 = m + 1 → (∀ μ1, QPE ci cn co xj xd xf xo xi xn t (m + 1) μ1 → Post none μ1) → Ev Y_MM_popEnded μ0 (mm_to (mm_co Y_MM_popEnded) 6) [(0, vr 11 6), (1, vi (nI t))] [vi v] (Km, Im, Jm, Fm, Dm, Rm, nxm, slm) Post := by
  intro m
  induction m with
  | zero =>
    intro v cn Km Im Jm Fm Dm Rm nxm slm hv hM hI hcn hQ
    subst hv
    have i0 := hI.1 t ht
    have i1 := hI.2.1 t ht 0 (by omega)
    have i2 := hI.2.2.1 (cn 1 t 0) i1.1
    by_cases hp : cn 2 t 0 < cn 3 (cn 1 t 0) 0
    · have hpp : pp t (0 + 1) cn = cn := if_pos hp
      refine ev_gL3 [false, true] [] rfl ?_
      refine ev_ret rfl ?_
      refine hQ _ ?_
      unfold QPE
      rw [hpp]
      exact Or.inl ⟨by omega, hM⟩
    · have hpp : pp t (0 + 1) cn = pp t 0 (lv cn t 0) := if_neg hp
      refine ev_gL3 [false, false] [] rfl ?_
      refine ev_inV 1 k_MM_424 h_MM_pop rfl rfl rfl rfl rfl ⟨by decide, by decide⟩ rfl ?_
      refine ev_gL3 [true] [] rfl ?_
      refine ev_qV 1 k_MM_421 rfl (C_MM_ends ht isr io yy hM (fun a k g => up_ne (by rw [n_cl (by omega)]; exact g))) rfl ⟨by decide, by decide⟩ rfl ?_
      rintro _ ⟨Km, Im, Jm, Fm, Dm, Rm, nxm, slm⟩ ⟨rfl, hM⟩
      replace hM : RM ci (u3 cn 0 t 0 0) (u1 co t none) xj xd xf (rlo xo t (xn 2 0 0)) (rli xo xi t (xn 2 0 0)) xn Im Jm Dm := hM
      refine ev_g0 rfl ?_
      refine ev_ret rfl ?_
      refine ev_gL3 [true] [] rfl ?_
      refine ev_ret rfl ?_
      refine hQ _ ?_
      unfold QPE
      rw [hpp]
      exact Or.inr ⟨lv_0 cn t 0, hM⟩
  | succ m ih =>
    intro v cn Km Im Jm Fm Dm Rm nxm slm hv hM hI hcn hQ
    subst hv
    have i0 := hI.1 t ht
    have i1 := hI.2.1 t ht (m + 1) (by omega)
    have i2 := hI.2.2.1 (cn 1 t (m + 1)) i1.1
    have i3 := hI.2.1 t ht m (by omega)
    by_cases hp : cn 2 t (m + 1) < cn 3 (cn 1 t (m + 1)) 0
    · have hpp : pp t ((m + 1) + 1) cn = cn := if_pos hp
      refine ev_gL3 [false, true] [] rfl ?_
      refine ev_ret rfl ?_
      refine hQ _ ?_
      unfold QPE
      rw [hpp]
      exact Or.inl ⟨by omega, hM⟩
    · have hpp : pp t ((m + 1) + 1) cn = pp t (m + 1) (lv cn t (m + 1)) := if_neg hp
      refine ev_gL3 [false, false] [] rfl ?_
      refine ev_inV 1 k_MM_424 h_MM_pop rfl rfl rfl rfl rfl ⟨by decide, by decide⟩ rfl ?_
      refine ev_gL3 [false] [] rfl ?_
      refine ev_ret rfl ?_
      refine ev_gL3 [] [] rfl ?_
      exact ih _ (lv cn t (m + 1)) _ _ _ _ _ _ _ _ lf_L3 (MU_pla (MU_dep hM ht (by omega) (by omega) lf_L3 lf_L3) ht (by simp [u3]) (fun t1 h1 => (IC_dep ht hI (by omega)).1 t1 h1) lf_L3 lf_L3) (IC_lv ht hI hcn) (lv_0 cn t (m + 1)) (fun μ1 h => hQ μ1 (by unfold QPE; rw [hpp]; exact h))
theorem C_popEnded {ci : Nat → Nat → Nat → Int32} {co : Nat → Option Nat} {xj : Nat → Nat → Nat → Int64} {xd : Nat → Nat → Nat → UInt64} {xf : Nat → Nat → Nat → UInt32} {xo : Nat → Nat → Nat → Option Nat} {xi : Nat → Nat → Nat → Int32} {xn : Nat → Nat → Nat → Nat} {cn : Nat → Nat → Nat → Nat} {t m : Nat} (ht : t < 3) (isr : ∀ i, i < xn 2 0 0 → xn 1 i 0 ≤ 12) (io : ∀ i, i < xn 2 0 0 → ∀ q, xo 4 i 0 = some q → q < 3) (yy : xn 2 0 0 ≤ 160) {Km : Nat → Nat} {Im : Nat → Nat → Int32} {Jm : Nat → Nat → Int64} {Fm : Nat → Nat → UInt32} {Dm : Nat → Nat → UInt64} {Rm : Nat → Nat → Option Nat} {nxm slm : Nat} (hM : RM ci cn co xj xd xf xo xi xn Im Jm Dm) (hI : IC ci cn) (hn : cn 0 t 0 = m + 1) : Ct Y_MM_popEnded [vr 11 6, vi (nI t)] (Km, Im, Jm, Fm, Dm, Rm, nxm, slm) (fun r μ1 => r = none ∧ QPE ci cn co xj xd xf xo xi xn t (m + 1) μ1) := by
  have h8 := hI.1 t ht
  refine ct_of h_MM_popEnded rfl rfl rfl ?_
  refine ev_go [] [] rfl ⟨trivial, (v_in (by omega)).mpr ht⟩ ?_
  exact PE_loop ht isr io yy m _ cn _ _ _ _ _ _ _ _ (by rw [n_cl (by omega), rm_dep hM ht, hn]) hM hI hn (fun μ1 h => ⟨rfl, h⟩)
