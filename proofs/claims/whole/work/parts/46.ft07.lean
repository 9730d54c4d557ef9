theorem ev_gF4 {Y : mm_Y} {μ0 : mm_M} {rem : List mm_E} {L : mm_L} {st : List mm_V} {μ : mm_M} {Post : Option mm_V → mm_M → Prop} (bs : List Bool) (os : List (Option Nat)) {e2 : mm_E} {rem2 : List mm_E} {L2 : mm_L} {st2 : List mm_V} {μ2 : mm_M} {P2 : Prop} (h : mm_go 5000 (mm_co Y) rem L st μ bs os True = some (e2 :: rem2, L2, st2, μ2, P2)) (k : Ev Y μ0 (e2 :: rem2) L2 st2 μ2 Post) (hp : P2 := by (repeat' apply And.intro) <;> first | exact trivial | assumption | rfl | decide | omega | (simp (disch := first | assumption | omega | decide) only [i_add, i_mul, n_cl, nI_and7, nI_and3, v_in, i_eq, i_lt, i_le, i_eq0, i_lt0, i_ge0, i_gt0, i_le0, lg_cmp_eq, lg_cmp_ge, lg_cmp_gt, lg_cmp_le, lg_cmp_lt, ↓zb_e0, ↓zb_n0, Classical.not_not, up_ne, Nat.zero_add, Nat.add_zero, j_lt, j_le, j_eq, j_z, n_ti, i_m60, i_m1i, rg_t, rg_f, Nat.reduceMul, Nat.reduceAdd, Nat.reduceDiv, Bool.and_eq_true, Bool.and_eq_false_iff, Bool.not_eq_true', Bool.not_eq_false', decide_eq_true_iff, decide_eq_false_iff_not, Bool.or_eq_true, Bool.or_eq_false_iff, true_and, and_true, *] <;> first | assumption | omega | decide)) : Ev Y μ0 rem L st μ Post := ev_go bs os h hp k
theorem ev_bF4 {Y : mm_Y} {μ0 : mm_M} {rem : List mm_E} {L : mm_L} {st : List mm_V} {μ : mm_M} {Post : Option mm_V → mm_M → Prop} {e2 e3 : mm_E} {rem2 rem3 : List mm_E} {L2 L3 : mm_L} {st2 st3 : List mm_V} {μ2 μ3 : mm_M} {c c2 d d2 : Prop} (hT : mm_go 1 (mm_co Y) rem L st μ [true] [] True = some (e2 :: rem2, L2, st2, μ2, True ∧ c)) (hF : mm_go 1 (mm_co Y) rem L st μ [false] [] True = some (e3 :: rem3, L3, st3, μ3, True ∧ c2)) (kt : d → Ev Y μ0 (e2 :: rem2) L2 st2 μ2 Post) (kf : d2 → Ev Y μ0 (e3 :: rem3) L3 st3 μ3 Post) (hc : ¬ c → c2 := by first | exact id | exact Classical.not_not.mp) (g1 : c → d := by intro hh; (try simp (disch := first | assumption | omega | decide) only [i_add, i_mul, n_cl, nI_and7, nI_and3, v_in, i_eq, i_lt, i_le, i_eq0, i_lt0, i_ge0, i_gt0, i_le0, lg_cmp_eq, lg_cmp_ge, lg_cmp_gt, lg_cmp_le, lg_cmp_lt, ↓zb_e0, ↓zb_n0, Classical.not_not, up_ne, Nat.zero_add, Nat.add_zero, j_lt, j_le, j_eq, j_z, n_ti, i_m60, i_m1i, rg_t, rg_f, Nat.reduceMul, Nat.reduceAdd, Nat.reduceDiv, Bool.and_eq_true, Bool.and_eq_false_iff, Bool.not_eq_true', Bool.not_eq_false', decide_eq_true_iff, decide_eq_false_iff_not, Bool.or_eq_true, Bool.or_eq_false_iff, true_and, and_true, *] at hh); exact hh) (g2 : c2 → d2 := by intro hh; (try simp (disch := first | assumption | omega | decide) only [i_add, i_mul, n_cl, nI_and7, nI_and3, v_in, i_eq, i_lt, i_le, i_eq0, i_lt0, i_ge0, i_gt0, i_le0, lg_cmp_eq, lg_cmp_ge, lg_cmp_gt, lg_cmp_le, lg_cmp_lt, ↓zb_e0, ↓zb_n0, Classical.not_not, up_ne, Nat.zero_add, Nat.add_zero, j_lt, j_le, j_eq, j_z, n_ti, i_m60, i_m1i, rg_t, rg_f, Nat.reduceMul, Nat.reduceAdd, Nat.reduceDiv, Bool.and_eq_true, Bool.and_eq_false_iff, Bool.not_eq_true', Bool.not_eq_false', decide_eq_true_iff, decide_eq_false_iff_not, Bool.or_eq_true, Bool.or_eq_false_iff, true_and, and_true, *] at hh); exact hh) : Ev Y μ0 rem L st μ Post := ev_br hT hF hc (fun h => kt (g1 h)) (fun h => kf (g2 h))
theorem lf_F4 {p : Prop} (h : p := by first | rfl | assumption | (simp (disch := first | assumption | omega | decide) only [i_add, i_mul, n_cl, nI_and7, nI_and3, v_in, i_eq, i_lt, i_le, i_eq0, i_lt0, i_ge0, i_gt0, i_le0, lg_cmp_eq, lg_cmp_ge, lg_cmp_gt, lg_cmp_le, lg_cmp_lt, ↓zb_e0, ↓zb_n0, Classical.not_not, up_ne, Nat.zero_add, Nat.add_zero, j_lt, j_le, j_eq, j_z, n_ti, i_m60, i_m1i, rg_t, rg_f, Nat.reduceMul, Nat.reduceAdd, Nat.reduceDiv, Bool.and_eq_true, Bool.and_eq_false_iff, Bool.not_eq_true', Bool.not_eq_false', decide_eq_true_iff, decide_eq_false_iff_not, Bool.or_eq_true, Bool.or_eq_false_iff, true_and, and_true, *] <;> first | rfl | assumption | omega | decide)) : p := h
theorem FT_46 {a b c : Int32} : ∃ v : Bool, (∀ μ : mm_M, mm_Det Y_SH_fit [vi (nI 46), vi a, vi b, vi c] μ (some (vi (zb v))) μ) ∧ (∀ μm : mm_M, mm_Det Y_MM_isAct [vi (nI 46), vi a, vi b, vi c] μm (some (vi (zb v))) μm) ∧ (v = true → OKA 46 a b c) := by
  by_cases ha : 0 ≤ a.toInt ∧ a.toInt ≤ 7
  · skip
    by_cases hb : 0 ≤ b.toInt ∧ b.toInt ≤ 7
    · skip
      refine ⟨true, ?_, ?_, fun _ => ?_⟩
      · intro μ
        refine det_of h_SH_fit rfl rfl rfl ?_
        refine ev_gF4 [false, true] [] rfl ?_
        refine ev_top2 (a2 := _) (b2 := vi (nI 4)) rfl (congrArg vi (by decide)) ?_
        refine ev_kS 2 k_SH_15 rfl C_fits4 ⟨by decide, by decide⟩ rfl ?_
        refine ev_gF4 [false] [] rfl ?_
        refine ev_top2 (a2 := _) (b2 := vi (nI 4)) rfl (congrArg vi (by decide)) ?_
        refine ev_kS 2 k_SH_15 rfl C_fits4 ⟨by decide, by decide⟩ rfl ?_
        refine ev_gF4 [false] [] rfl ?_
        refine ev_top2 (a2 := _) (b2 := vi (nI 0)) rfl (congrArg vi (by decide)) ?_
        refine ev_kS 2 k_SH_15 rfl C_fits0 ⟨by decide, by decide⟩ rfl ?_
        refine ev_gF4 [true] [] rfl ?_
        refine ev_inS 4 k_SH_19 h_SH_fitsByB rfl rfl rfl rfl ⟨by decide, by decide⟩ rfl ?_
        refine ev_gF4 [true, false, true] [] rfl ?_
        refine ev_retz rfl (by first | decide | exact zb_01 _) ?_
        refine ev_g0 rfl ?_
        refine ev_retz rfl (by first | decide | exact zb_01 _) ?_
        first | exact ⟨rfl, rfl⟩ | exact ⟨congrArg (fun z => some (vi (zb z))) lf_F4, rfl⟩
      · intro μ
        refine det_of h_MM_isAct rfl rfl rfl ?_
        refine ev_g0 rfl ?_
        refine ev_kS 3 k_MM_188 rfl (C_in_0_65) ⟨by decide, by decide⟩ rfl ?_
        refine ev_gF4 [false, true, true, true] [] rfl ?_
        refine ev_inS 4 k_MM_254 h_MM_isSecond rfl rfl rfl rfl ⟨by decide, by decide⟩ rfl ?_
        refine ev_gF4 [] [some 4] rfl ?_
        refine ev_inS 1 k_MM_218 h_MM_isN rfl rfl rfl rfl ⟨by decide, by decide⟩ rfl ?_
        refine ev_g0 rfl ?_
        refine ev_kS 3 k_MM_188 rfl (C_in_0_7) ⟨by decide, by decide⟩ rfl ?_
        refine ev_g0 rfl ?_
        refine ev_retz rfl (by first | decide | exact zb_01 _) ?_
        refine ev_gF4 [false] [] rfl ?_
        refine ev_inS 1 k_MM_218 h_MM_isN rfl rfl rfl rfl ⟨by decide, by decide⟩ rfl ?_
        refine ev_g0 rfl ?_
        refine ev_kS 3 k_MM_188 rfl (C_in_0_7) ⟨by decide, by decide⟩ rfl ?_
        refine ev_g0 rfl ?_
        refine ev_retz rfl (by first | decide | exact zb_01 _) ?_
        refine ev_gF4 [false] [] rfl ?_
        refine ev_retz rfl (by first | decide | exact zb_01 _) ?_
        refine ev_g0 rfl ?_
        refine ev_retz rfl (by first | decide | exact zb_01 _) ?_
        first | exact ⟨rfl, rfl⟩ | exact ⟨congrArg (fun z => some (vi (zb z))) lf_F4, rfl⟩
      · exact ⟨(nk (n := 8) ha rfl (by decide)), (nk (n := 8) hb rfl (by decide))⟩
    · skip
      refine ⟨false, ?_, ?_, fun h => by cases h⟩
      · intro μ
        refine det_of h_SH_fit rfl rfl rfl ?_
        refine ev_gF4 [false, true] [] rfl ?_
        refine ev_top2 (a2 := _) (b2 := vi (nI 4)) rfl (congrArg vi (by decide)) ?_
        refine ev_kS 2 k_SH_15 rfl C_fits4 ⟨by decide, by decide⟩ rfl ?_
        refine ev_gF4 [false] [] rfl ?_
        refine ev_top2 (a2 := _) (b2 := vi (nI 4)) rfl (congrArg vi (by decide)) ?_
        refine ev_kS 2 k_SH_15 rfl C_fits4 ⟨by decide, by decide⟩ rfl ?_
        refine ev_gF4 [true] [] rfl ?_
        refine ev_retz rfl (by first | decide | exact zb_01 _) ?_
        first | exact ⟨rfl, rfl⟩ | exact ⟨congrArg (fun z => some (vi (zb z))) lf_F4, rfl⟩
      · intro μ
        refine det_of h_MM_isAct rfl rfl rfl ?_
        refine ev_g0 rfl ?_
        refine ev_kS 3 k_MM_188 rfl (C_in_0_65) ⟨by decide, by decide⟩ rfl ?_
        refine ev_gF4 [false, true, true, true] [] rfl ?_
        refine ev_inS 4 k_MM_254 h_MM_isSecond rfl rfl rfl rfl ⟨by decide, by decide⟩ rfl ?_
        refine ev_gF4 [] [some 4] rfl ?_
        refine ev_inS 1 k_MM_218 h_MM_isN rfl rfl rfl rfl ⟨by decide, by decide⟩ rfl ?_
        refine ev_g0 rfl ?_
        refine ev_kS 3 k_MM_188 rfl (C_in_0_7) ⟨by decide, by decide⟩ rfl ?_
        refine ev_g0 rfl ?_
        refine ev_retz rfl (by first | decide | exact zb_01 _) ?_
        refine ev_gF4 [false] [] rfl ?_
        refine ev_inS 1 k_MM_218 h_MM_isN rfl rfl rfl rfl ⟨by decide, by decide⟩ rfl ?_
        refine ev_g0 rfl ?_
        refine ev_kS 3 k_MM_188 rfl (C_in_0_7) ⟨by decide, by decide⟩ rfl ?_
        refine ev_g0 rfl ?_
        refine ev_retz rfl (by first | decide | exact zb_01 _) ?_
        refine ev_gF4 [true] [] rfl ?_
        refine ev_retz rfl (by first | decide | exact zb_01 _) ?_
        refine ev_g0 rfl ?_
        refine ev_retz rfl (by first | decide | exact zb_01 _) ?_
        first | exact ⟨rfl, rfl⟩ | exact ⟨congrArg (fun z => some (vi (zb z))) lf_F4, rfl⟩
  · skip
    refine ⟨false, ?_, ?_, fun h => by cases h⟩
    · intro μ
      refine det_of h_SH_fit rfl rfl rfl ?_
      refine ev_gF4 [false, true] [] rfl ?_
      refine ev_top2 (a2 := _) (b2 := vi (nI 4)) rfl (congrArg vi (by decide)) ?_
      refine ev_kS 2 k_SH_15 rfl C_fits4 ⟨by decide, by decide⟩ rfl ?_
      refine ev_gF4 [true] [] rfl ?_
      refine ev_retz rfl (by first | decide | exact zb_01 _) ?_
      first | exact ⟨rfl, rfl⟩ | exact ⟨congrArg (fun z => some (vi (zb z))) lf_F4, rfl⟩
    · intro μ
      refine det_of h_MM_isAct rfl rfl rfl ?_
      refine ev_g0 rfl ?_
      refine ev_kS 3 k_MM_188 rfl (C_in_0_65) ⟨by decide, by decide⟩ rfl ?_
      refine ev_gF4 [false, true, true, true] [] rfl ?_
      refine ev_inS 4 k_MM_254 h_MM_isSecond rfl rfl rfl rfl ⟨by decide, by decide⟩ rfl ?_
      refine ev_gF4 [] [some 4] rfl ?_
      refine ev_inS 1 k_MM_218 h_MM_isN rfl rfl rfl rfl ⟨by decide, by decide⟩ rfl ?_
      refine ev_g0 rfl ?_
      refine ev_kS 3 k_MM_188 rfl (C_in_0_7) ⟨by decide, by decide⟩ rfl ?_
      refine ev_g0 rfl ?_
      refine ev_retz rfl (by first | decide | exact zb_01 _) ?_
      refine ev_gF4 [true] [] rfl ?_
      refine ev_retz rfl (by first | decide | exact zb_01 _) ?_
      refine ev_g0 rfl ?_
      refine ev_retz rfl (by first | decide | exact zb_01 _) ?_
      first | exact ⟨rfl, rfl⟩ | exact ⟨congrArg (fun z => some (vi (zb z))) lf_F4, rfl⟩
theorem FT_47 {a b c : Int32} : ∃ v : Bool, (∀ μ : mm_M, mm_Det Y_SH_fit [vi (nI 47), vi a, vi b, vi c] μ (some (vi (zb v))) μ) ∧ (∀ μm : mm_M, mm_Det Y_MM_isAct [vi (nI 47), vi a, vi b, vi c] μm (some (vi (zb v))) μm) ∧ (v = true → OKA 47 a b c) := by
  by_cases ha : 0 ≤ a.toInt ∧ a.toInt ≤ 7
  · skip
    by_cases hb : 0 ≤ b.toInt ∧ b.toInt ≤ 7
    · skip
      refine ⟨true, ?_, ?_, fun _ => ?_⟩
      · intro μ
        refine det_of h_SH_fit rfl rfl rfl ?_
        refine ev_gF4 [false, true] [] rfl ?_
        refine ev_top2 (a2 := _) (b2 := vi (nI 4)) rfl (congrArg vi (by decide)) ?_
        refine ev_kS 2 k_SH_15 rfl C_fits4 ⟨by decide, by decide⟩ rfl ?_
        refine ev_gF4 [false] [] rfl ?_
        refine ev_top2 (a2 := _) (b2 := vi (nI 4)) rfl (congrArg vi (by decide)) ?_
        refine ev_kS 2 k_SH_15 rfl C_fits4 ⟨by decide, by decide⟩ rfl ?_
        refine ev_gF4 [false] [] rfl ?_
        refine ev_top2 (a2 := _) (b2 := vi (nI 0)) rfl (congrArg vi (by decide)) ?_
        refine ev_kS 2 k_SH_15 rfl C_fits0 ⟨by decide, by decide⟩ rfl ?_
        refine ev_gF4 [true] [] rfl ?_
        refine ev_inS 4 k_SH_19 h_SH_fitsByB rfl rfl rfl rfl ⟨by decide, by decide⟩ rfl ?_
        refine ev_gF4 [true, false, true] [] rfl ?_
        refine ev_retz rfl (by first | decide | exact zb_01 _) ?_
        refine ev_g0 rfl ?_
        refine ev_retz rfl (by first | decide | exact zb_01 _) ?_
        first | exact ⟨rfl, rfl⟩ | exact ⟨congrArg (fun z => some (vi (zb z))) lf_F4, rfl⟩
      · intro μ
        refine det_of h_MM_isAct rfl rfl rfl ?_
        refine ev_g0 rfl ?_
        refine ev_kS 3 k_MM_188 rfl (C_in_0_65) ⟨by decide, by decide⟩ rfl ?_
        refine ev_gF4 [false, true, true, true] [] rfl ?_
        refine ev_inS 4 k_MM_254 h_MM_isSecond rfl rfl rfl rfl ⟨by decide, by decide⟩ rfl ?_
        refine ev_gF4 [] [some 5] rfl ?_
        refine ev_inS 1 k_MM_218 h_MM_isN rfl rfl rfl rfl ⟨by decide, by decide⟩ rfl ?_
        refine ev_g0 rfl ?_
        refine ev_kS 3 k_MM_188 rfl (C_in_0_7) ⟨by decide, by decide⟩ rfl ?_
        refine ev_g0 rfl ?_
        refine ev_retz rfl (by first | decide | exact zb_01 _) ?_
        refine ev_gF4 [false] [] rfl ?_
        refine ev_inS 1 k_MM_218 h_MM_isN rfl rfl rfl rfl ⟨by decide, by decide⟩ rfl ?_
        refine ev_g0 rfl ?_
        refine ev_kS 3 k_MM_188 rfl (C_in_0_7) ⟨by decide, by decide⟩ rfl ?_
        refine ev_g0 rfl ?_
        refine ev_retz rfl (by first | decide | exact zb_01 _) ?_
        refine ev_gF4 [false] [] rfl ?_
        refine ev_retz rfl (by first | decide | exact zb_01 _) ?_
        refine ev_g0 rfl ?_
        refine ev_retz rfl (by first | decide | exact zb_01 _) ?_
        first | exact ⟨rfl, rfl⟩ | exact ⟨congrArg (fun z => some (vi (zb z))) lf_F4, rfl⟩
      · exact ⟨(nk (n := 8) ha rfl (by decide)), (nk (n := 8) hb rfl (by decide))⟩
    · skip
      refine ⟨false, ?_, ?_, fun h => by cases h⟩
      · intro μ
        refine det_of h_SH_fit rfl rfl rfl ?_
        refine ev_gF4 [false, true] [] rfl ?_
        refine ev_top2 (a2 := _) (b2 := vi (nI 4)) rfl (congrArg vi (by decide)) ?_
        refine ev_kS 2 k_SH_15 rfl C_fits4 ⟨by decide, by decide⟩ rfl ?_
        refine ev_gF4 [false] [] rfl ?_
        refine ev_top2 (a2 := _) (b2 := vi (nI 4)) rfl (congrArg vi (by decide)) ?_
        refine ev_kS 2 k_SH_15 rfl C_fits4 ⟨by decide, by decide⟩ rfl ?_
        refine ev_gF4 [true] [] rfl ?_
        refine ev_retz rfl (by first | decide | exact zb_01 _) ?_
        first | exact ⟨rfl, rfl⟩ | exact ⟨congrArg (fun z => some (vi (zb z))) lf_F4, rfl⟩
      · intro μ
        refine det_of h_MM_isAct rfl rfl rfl ?_
        refine ev_g0 rfl ?_
        refine ev_kS 3 k_MM_188 rfl (C_in_0_65) ⟨by decide, by decide⟩ rfl ?_
        refine ev_gF4 [false, true, true, true] [] rfl ?_
        refine ev_inS 4 k_MM_254 h_MM_isSecond rfl rfl rfl rfl ⟨by decide, by decide⟩ rfl ?_
        refine ev_gF4 [] [some 5] rfl ?_
        refine ev_inS 1 k_MM_218 h_MM_isN rfl rfl rfl rfl ⟨by decide, by decide⟩ rfl ?_
        refine ev_g0 rfl ?_
        refine ev_kS 3 k_MM_188 rfl (C_in_0_7) ⟨by decide, by decide⟩ rfl ?_
        refine ev_g0 rfl ?_
        refine ev_retz rfl (by first | decide | exact zb_01 _) ?_
        refine ev_gF4 [false] [] rfl ?_
        refine ev_inS 1 k_MM_218 h_MM_isN rfl rfl rfl rfl ⟨by decide, by decide⟩ rfl ?_
        refine ev_g0 rfl ?_
        refine ev_kS 3 k_MM_188 rfl (C_in_0_7) ⟨by decide, by decide⟩ rfl ?_
        refine ev_g0 rfl ?_
        refine ev_retz rfl (by first | decide | exact zb_01 _) ?_
        refine ev_gF4 [true] [] rfl ?_
        refine ev_retz rfl (by first | decide | exact zb_01 _) ?_
        refine ev_g0 rfl ?_
        refine ev_retz rfl (by first | decide | exact zb_01 _) ?_
        first | exact ⟨rfl, rfl⟩ | exact ⟨congrArg (fun z => some (vi (zb z))) lf_F4, rfl⟩
  · skip
    refine ⟨false, ?_, ?_, fun h => by cases h⟩
    · intro μ
      refine det_of h_SH_fit rfl rfl rfl ?_
      refine ev_gF4 [false, true] [] rfl ?_
      refine ev_top2 (a2 := _) (b2 := vi (nI 4)) rfl (congrArg vi (by decide)) ?_
      refine ev_kS 2 k_SH_15 rfl C_fits4 ⟨by decide, by decide⟩ rfl ?_
      refine ev_gF4 [true] [] rfl ?_
      refine ev_retz rfl (by first | decide | exact zb_01 _) ?_
      first | exact ⟨rfl, rfl⟩ | exact ⟨congrArg (fun z => some (vi (zb z))) lf_F4, rfl⟩
    · intro μ
      refine det_of h_MM_isAct rfl rfl rfl ?_
      refine ev_g0 rfl ?_
      refine ev_kS 3 k_MM_188 rfl (C_in_0_65) ⟨by decide, by decide⟩ rfl ?_
      refine ev_gF4 [false, true, true, true] [] rfl ?_
      refine ev_inS 4 k_MM_254 h_MM_isSecond rfl rfl rfl rfl ⟨by decide, by decide⟩ rfl ?_
      refine ev_gF4 [] [some 5] rfl ?_
      refine ev_inS 1 k_MM_218 h_MM_isN rfl rfl rfl rfl ⟨by decide, by decide⟩ rfl ?_
      refine ev_g0 rfl ?_
      refine ev_kS 3 k_MM_188 rfl (C_in_0_7) ⟨by decide, by decide⟩ rfl ?_
      refine ev_g0 rfl ?_
      refine ev_retz rfl (by first | decide | exact zb_01 _) ?_
      refine ev_gF4 [true] [] rfl ?_
      refine ev_retz rfl (by first | decide | exact zb_01 _) ?_
      refine ev_g0 rfl ?_
      refine ev_retz rfl (by first | decide | exact zb_01 _) ?_
      first | exact ⟨rfl, rfl⟩ | exact ⟨congrArg (fun z => some (vi (zb z))) lf_F4, rfl⟩
theorem FT_48 {a b c : Int32} : ∃ v : Bool, (∀ μ : mm_M, mm_Det Y_SH_fit [vi (nI 48), vi a, vi b, vi c] μ (some (vi (zb v))) μ) ∧ (∀ μm : mm_M, mm_Det Y_MM_isAct [vi (nI 48), vi a, vi b, vi c] μm (some (vi (zb v))) μm) ∧ (v = true → OKA 48 a b c) := by
  by_cases ha : 0 ≤ a.toInt ∧ a.toInt ≤ 7
  · skip
    by_cases hb : 0 ≤ b.toInt ∧ b.toInt ≤ 7
    · skip
      by_cases hc : 0 ≤ c.toInt ∧ c.toInt ≤ 25 ∧ ¬ c.toInt = 15
      · skip
        refine ⟨true, ?_, ?_, fun _ => ?_⟩
        · intro μ
          refine det_of h_SH_fit rfl rfl rfl ?_
          refine ev_gF4 [false, true] [] rfl ?_
          refine ev_top2 (a2 := _) (b2 := vi (nI 1)) rfl (congrArg vi (by decide)) ?_
          refine ev_kS 2 k_SH_15 rfl C_fits1 ⟨by decide, by decide⟩ rfl ?_
          refine ev_gF4 [false] [] rfl ?_
          refine ev_top2 (a2 := _) (b2 := vi (nI 4)) rfl (congrArg vi (by decide)) ?_
          refine ev_kS 2 k_SH_15 rfl C_fits4 ⟨by decide, by decide⟩ rfl ?_
          refine ev_gF4 [false] [] rfl ?_
          refine ev_top2 (a2 := _) (b2 := vi (nI 14)) rfl (congrArg vi (by decide)) ?_
          refine ev_kS 2 k_SH_15 rfl C_fits14 ⟨by decide, by decide⟩ rfl ?_
          refine ev_gF4 [true] [] rfl ?_
          refine ev_inS 4 k_SH_19 h_SH_fitsByB rfl rfl rfl rfl ⟨by decide, by decide⟩ rfl ?_
          refine ev_gF4 [true, false, true] [] rfl ?_
          refine ev_retz rfl (by first | decide | exact zb_01 _) ?_
          refine ev_g0 rfl ?_
          refine ev_retz rfl (by first | decide | exact zb_01 _) ?_
          first | exact ⟨rfl, rfl⟩ | exact ⟨congrArg (fun z => some (vi (zb z))) lf_F4, rfl⟩
        · intro μ
          refine det_of h_MM_isAct rfl rfl rfl ?_
          refine ev_g0 rfl ?_
          refine ev_kS 3 k_MM_188 rfl (C_in_0_65) ⟨by decide, by decide⟩ rfl ?_
          refine ev_gF4 [false, true, true, true] [] rfl ?_
          refine ev_inS 4 k_MM_254 h_MM_isSecond rfl rfl rfl rfl ⟨by decide, by decide⟩ rfl ?_
          refine ev_gF4 [] [some 6] rfl ?_
          refine ev_inS 1 k_MM_218 h_MM_isN rfl rfl rfl rfl ⟨by decide, by decide⟩ rfl ?_
          refine ev_g0 rfl ?_
          refine ev_kS 3 k_MM_188 rfl (C_in_0_7) ⟨by decide, by decide⟩ rfl ?_
          refine ev_g0 rfl ?_
          refine ev_retz rfl (by first | decide | exact zb_01 _) ?_
          refine ev_gF4 [false] [] rfl ?_
          refine ev_inS 1 k_MM_218 h_MM_isN rfl rfl rfl rfl ⟨by decide, by decide⟩ rfl ?_
          refine ev_g0 rfl ?_
          refine ev_kS 3 k_MM_188 rfl (C_in_0_7) ⟨by decide, by decide⟩ rfl ?_
          refine ev_g0 rfl ?_
          refine ev_retz rfl (by first | decide | exact zb_01 _) ?_
          refine ev_gF4 [false] [] rfl ?_
          refine ev_inS 1 k_MM_235 h_MM_isKindTold rfl rfl rfl rfl ⟨by decide, by decide⟩ rfl ?_
          refine ev_g0 rfl ?_
          refine ev_kS 3 k_MM_188 rfl (C_in_0_14) ⟨by decide, by decide⟩ rfl ?_
          refine ev_g0 rfl ?_
          refine ev_bF4 rfl rfl (fun h_1 => ?_) (fun h_1 => ?_)
          · skip
            refine ev_g0 rfl ?_
            refine ev_retz rfl (by first | decide | exact zb_01 _) ?_
            refine ev_gF4 [false] [] rfl ?_
            refine ev_retz rfl (by first | decide | exact zb_01 _) ?_
            refine ev_g0 rfl ?_
            refine ev_retz rfl (by first | decide | exact zb_01 _) ?_
            first | exact ⟨rfl, rfl⟩ | exact ⟨congrArg (fun z => some (vi (zb z))) lf_F4, rfl⟩
          · skip
            refine ev_g0 rfl ?_
            refine ev_kS 3 k_MM_188 rfl (C_in_16_25) ⟨by decide, by decide⟩ rfl ?_
            refine ev_gF4 [false] [] rfl ?_
            refine ev_retz rfl (by first | decide | exact zb_01 _) ?_
            refine ev_gF4 [false] [] rfl ?_
            refine ev_retz rfl (by first | decide | exact zb_01 _) ?_
            refine ev_g0 rfl ?_
            refine ev_retz rfl (by first | decide | exact zb_01 _) ?_
            first | exact ⟨rfl, rfl⟩ | exact ⟨congrArg (fun z => some (vi (zb z))) lf_F4, rfl⟩
        · exact ⟨nk (n := 8) ha rfl (by decide), nk (n := 8) hb rfl (by decide), nk (n := 26) ⟨hc.1, hc.2.1⟩ rfl (by decide), fun e => hc.2.2 (by rw [e]; decide)⟩
      · skip
        refine ⟨false, ?_, ?_, fun h => by cases h⟩
        · intro μ
          refine det_of h_SH_fit rfl rfl rfl ?_
          refine ev_gF4 [false, true] [] rfl ?_
          refine ev_top2 (a2 := _) (b2 := vi (nI 1)) rfl (congrArg vi (by decide)) ?_
          refine ev_kS 2 k_SH_15 rfl C_fits1 ⟨by decide, by decide⟩ rfl ?_
          refine ev_gF4 [false] [] rfl ?_
          refine ev_top2 (a2 := _) (b2 := vi (nI 4)) rfl (congrArg vi (by decide)) ?_
          refine ev_kS 2 k_SH_15 rfl C_fits4 ⟨by decide, by decide⟩ rfl ?_
          refine ev_gF4 [false] [] rfl ?_
          refine ev_top2 (a2 := _) (b2 := vi (nI 14)) rfl (congrArg vi (by decide)) ?_
          refine ev_kS 2 k_SH_15 rfl C_fits14 ⟨by decide, by decide⟩ rfl ?_
          refine ev_gF4 [false] [] rfl ?_
          refine ev_retz rfl (by first | decide | exact zb_01 _) ?_
          first | exact ⟨rfl, rfl⟩ | exact ⟨congrArg (fun z => some (vi (zb z))) lf_F4, rfl⟩
        · intro μ
          refine det_of h_MM_isAct rfl rfl rfl ?_
          refine ev_g0 rfl ?_
          refine ev_kS 3 k_MM_188 rfl (C_in_0_65) ⟨by decide, by decide⟩ rfl ?_
          refine ev_gF4 [false, true, true, true] [] rfl ?_
          refine ev_inS 4 k_MM_254 h_MM_isSecond rfl rfl rfl rfl ⟨by decide, by decide⟩ rfl ?_
          refine ev_gF4 [] [some 6] rfl ?_
          refine ev_inS 1 k_MM_218 h_MM_isN rfl rfl rfl rfl ⟨by decide, by decide⟩ rfl ?_
          refine ev_g0 rfl ?_
          refine ev_kS 3 k_MM_188 rfl (C_in_0_7) ⟨by decide, by decide⟩ rfl ?_
          refine ev_g0 rfl ?_
          refine ev_retz rfl (by first | decide | exact zb_01 _) ?_
          refine ev_gF4 [false] [] rfl ?_
          refine ev_inS 1 k_MM_218 h_MM_isN rfl rfl rfl rfl ⟨by decide, by decide⟩ rfl ?_
          refine ev_g0 rfl ?_
          refine ev_kS 3 k_MM_188 rfl (C_in_0_7) ⟨by decide, by decide⟩ rfl ?_
          refine ev_g0 rfl ?_
          refine ev_retz rfl (by first | decide | exact zb_01 _) ?_
          refine ev_gF4 [false] [] rfl ?_
          refine ev_inS 1 k_MM_235 h_MM_isKindTold rfl rfl rfl rfl ⟨by decide, by decide⟩ rfl ?_
          refine ev_g0 rfl ?_
          refine ev_kS 3 k_MM_188 rfl (C_in_0_14) ⟨by decide, by decide⟩ rfl ?_
          refine ev_gF4 [false] [] rfl ?_
          refine ev_kS 3 k_MM_188 rfl (C_in_16_25) ⟨by decide, by decide⟩ rfl ?_
          refine ev_gF4 [true] [] rfl ?_
          refine ev_retz rfl (by first | decide | exact zb_01 _) ?_
          refine ev_gF4 [true] [] rfl ?_
          refine ev_retz rfl (by first | decide | exact zb_01 _) ?_
          refine ev_g0 rfl ?_
          refine ev_retz rfl (by first | decide | exact zb_01 _) ?_
          first | exact ⟨rfl, rfl⟩ | exact ⟨congrArg (fun z => some (vi (zb z))) lf_F4, rfl⟩
    · skip
      refine ⟨false, ?_, ?_, fun h => by cases h⟩
      · intro μ
        refine det_of h_SH_fit rfl rfl rfl ?_
        refine ev_gF4 [false, true] [] rfl ?_
        refine ev_top2 (a2 := _) (b2 := vi (nI 1)) rfl (congrArg vi (by decide)) ?_
        refine ev_kS 2 k_SH_15 rfl C_fits1 ⟨by decide, by decide⟩ rfl ?_
        refine ev_gF4 [false] [] rfl ?_
        refine ev_top2 (a2 := _) (b2 := vi (nI 4)) rfl (congrArg vi (by decide)) ?_
        refine ev_kS 2 k_SH_15 rfl C_fits4 ⟨by decide, by decide⟩ rfl ?_
        refine ev_gF4 [true] [] rfl ?_
        refine ev_retz rfl (by first | decide | exact zb_01 _) ?_
        first | exact ⟨rfl, rfl⟩ | exact ⟨congrArg (fun z => some (vi (zb z))) lf_F4, rfl⟩
      · intro μ
        refine det_of h_MM_isAct rfl rfl rfl ?_
        refine ev_g0 rfl ?_
        refine ev_kS 3 k_MM_188 rfl (C_in_0_65) ⟨by decide, by decide⟩ rfl ?_
        refine ev_gF4 [false, true, true, true] [] rfl ?_
        refine ev_inS 4 k_MM_254 h_MM_isSecond rfl rfl rfl rfl ⟨by decide, by decide⟩ rfl ?_
        refine ev_gF4 [] [some 6] rfl ?_
        refine ev_inS 1 k_MM_218 h_MM_isN rfl rfl rfl rfl ⟨by decide, by decide⟩ rfl ?_
        refine ev_g0 rfl ?_
        refine ev_kS 3 k_MM_188 rfl (C_in_0_7) ⟨by decide, by decide⟩ rfl ?_
        refine ev_g0 rfl ?_
        refine ev_retz rfl (by first | decide | exact zb_01 _) ?_
        refine ev_gF4 [false] [] rfl ?_
        refine ev_inS 1 k_MM_218 h_MM_isN rfl rfl rfl rfl ⟨by decide, by decide⟩ rfl ?_
        refine ev_g0 rfl ?_
        refine ev_kS 3 k_MM_188 rfl (C_in_0_7) ⟨by decide, by decide⟩ rfl ?_
        refine ev_g0 rfl ?_
        refine ev_retz rfl (by first | decide | exact zb_01 _) ?_
        refine ev_gF4 [true] [] rfl ?_
        refine ev_retz rfl (by first | decide | exact zb_01 _) ?_
        refine ev_g0 rfl ?_
        refine ev_retz rfl (by first | decide | exact zb_01 _) ?_
        first | exact ⟨rfl, rfl⟩ | exact ⟨congrArg (fun z => some (vi (zb z))) lf_F4, rfl⟩
  · skip
    refine ⟨false, ?_, ?_, fun h => by cases h⟩
    · intro μ
      refine det_of h_SH_fit rfl rfl rfl ?_
      refine ev_gF4 [false, true] [] rfl ?_
      refine ev_top2 (a2 := _) (b2 := vi (nI 1)) rfl (congrArg vi (by decide)) ?_
      refine ev_kS 2 k_SH_15 rfl C_fits1 ⟨by decide, by decide⟩ rfl ?_
      refine ev_gF4 [true] [] rfl ?_
      refine ev_retz rfl (by first | decide | exact zb_01 _) ?_
      first | exact ⟨rfl, rfl⟩ | exact ⟨congrArg (fun z => some (vi (zb z))) lf_F4, rfl⟩
    · intro μ
      refine det_of h_MM_isAct rfl rfl rfl ?_
      refine ev_g0 rfl ?_
      refine ev_kS 3 k_MM_188 rfl (C_in_0_65) ⟨by decide, by decide⟩ rfl ?_
      refine ev_gF4 [false, true, true, true] [] rfl ?_
      refine ev_inS 4 k_MM_254 h_MM_isSecond rfl rfl rfl rfl ⟨by decide, by decide⟩ rfl ?_
      refine ev_gF4 [] [some 6] rfl ?_
      refine ev_inS 1 k_MM_218 h_MM_isN rfl rfl rfl rfl ⟨by decide, by decide⟩ rfl ?_
      refine ev_g0 rfl ?_
      refine ev_kS 3 k_MM_188 rfl (C_in_0_7) ⟨by decide, by decide⟩ rfl ?_
      refine ev_g0 rfl ?_
      refine ev_retz rfl (by first | decide | exact zb_01 _) ?_
      refine ev_gF4 [true] [] rfl ?_
      refine ev_retz rfl (by first | decide | exact zb_01 _) ?_
      refine ev_g0 rfl ?_
      refine ev_retz rfl (by first | decide | exact zb_01 _) ?_
      first | exact ⟨rfl, rfl⟩ | exact ⟨congrArg (fun z => some (vi (zb z))) lf_F4, rfl⟩
theorem FT_49 {a b c : Int32} : ∃ v : Bool, (∀ μ : mm_M, mm_Det Y_SH_fit [vi (nI 49), vi a, vi b, vi c] μ (some (vi (zb v))) μ) ∧ (∀ μm : mm_M, mm_Det Y_MM_isAct [vi (nI 49), vi a, vi b, vi c] μm (some (vi (zb v))) μm) ∧ (v = true → OKA 49 a b c) := by
  by_cases ha : 0 ≤ a.toInt ∧ a.toInt ≤ 7
  · skip
    by_cases hb : 0 ≤ b.toInt ∧ b.toInt ≤ 7
    · skip
      by_cases hc : 0 ≤ c.toInt ∧ c.toInt ≤ 25 ∧ ¬ c.toInt = 15
      · skip
        refine ⟨true, ?_, ?_, fun _ => ?_⟩
        · intro μ
          refine det_of h_SH_fit rfl rfl rfl ?_
          refine ev_gF4 [false, true] [] rfl ?_
          refine ev_top2 (a2 := _) (b2 := vi (nI 4)) rfl (congrArg vi (by decide)) ?_
          refine ev_kS 2 k_SH_15 rfl C_fits4 ⟨by decide, by decide⟩ rfl ?_
          refine ev_gF4 [false] [] rfl ?_
          refine ev_top2 (a2 := _) (b2 := vi (nI 4)) rfl (congrArg vi (by decide)) ?_
          refine ev_kS 2 k_SH_15 rfl C_fits4 ⟨by decide, by decide⟩ rfl ?_
          refine ev_gF4 [false] [] rfl ?_
          refine ev_top2 (a2 := _) (b2 := vi (nI 14)) rfl (congrArg vi (by decide)) ?_
          refine ev_kS 2 k_SH_15 rfl C_fits14 ⟨by decide, by decide⟩ rfl ?_
          refine ev_gF4 [true] [] rfl ?_
          refine ev_inS 4 k_SH_19 h_SH_fitsByB rfl rfl rfl rfl ⟨by decide, by decide⟩ rfl ?_
          refine ev_gF4 [true, false, true] [] rfl ?_
          refine ev_retz rfl (by first | decide | exact zb_01 _) ?_
          refine ev_g0 rfl ?_
          refine ev_retz rfl (by first | decide | exact zb_01 _) ?_
          first | exact ⟨rfl, rfl⟩ | exact ⟨congrArg (fun z => some (vi (zb z))) lf_F4, rfl⟩
        · intro μ
          refine det_of h_MM_isAct rfl rfl rfl ?_
          refine ev_g0 rfl ?_
          refine ev_kS 3 k_MM_188 rfl (C_in_0_65) ⟨by decide, by decide⟩ rfl ?_
          refine ev_gF4 [false, true, true, true] [] rfl ?_
          refine ev_inS 4 k_MM_254 h_MM_isSecond rfl rfl rfl rfl ⟨by decide, by decide⟩ rfl ?_
          refine ev_gF4 [] [some 7] rfl ?_
          refine ev_inS 1 k_MM_218 h_MM_isN rfl rfl rfl rfl ⟨by decide, by decide⟩ rfl ?_
          refine ev_g0 rfl ?_
          refine ev_kS 3 k_MM_188 rfl (C_in_0_7) ⟨by decide, by decide⟩ rfl ?_
          refine ev_g0 rfl ?_
          refine ev_retz rfl (by first | decide | exact zb_01 _) ?_
          refine ev_gF4 [false] [] rfl ?_
          refine ev_inS 1 k_MM_218 h_MM_isN rfl rfl rfl rfl ⟨by decide, by decide⟩ rfl ?_
          refine ev_g0 rfl ?_
          refine ev_kS 3 k_MM_188 rfl (C_in_0_7) ⟨by decide, by decide⟩ rfl ?_
          refine ev_g0 rfl ?_
          refine ev_retz rfl (by first | decide | exact zb_01 _) ?_
          refine ev_gF4 [false] [] rfl ?_
          refine ev_inS 1 k_MM_235 h_MM_isKindTold rfl rfl rfl rfl ⟨by decide, by decide⟩ rfl ?_
          refine ev_g0 rfl ?_
          refine ev_kS 3 k_MM_188 rfl (C_in_0_14) ⟨by decide, by decide⟩ rfl ?_
          refine ev_g0 rfl ?_
          refine ev_bF4 rfl rfl (fun h_1 => ?_) (fun h_1 => ?_)
          · skip
            refine ev_g0 rfl ?_
            refine ev_retz rfl (by first | decide | exact zb_01 _) ?_
            refine ev_gF4 [false] [] rfl ?_
            refine ev_retz rfl (by first | decide | exact zb_01 _) ?_
            refine ev_g0 rfl ?_
            refine ev_retz rfl (by first | decide | exact zb_01 _) ?_
            first | exact ⟨rfl, rfl⟩ | exact ⟨congrArg (fun z => some (vi (zb z))) lf_F4, rfl⟩
          · skip
            refine ev_g0 rfl ?_
            refine ev_kS 3 k_MM_188 rfl (C_in_16_25) ⟨by decide, by decide⟩ rfl ?_
            refine ev_gF4 [false] [] rfl ?_
            refine ev_retz rfl (by first | decide | exact zb_01 _) ?_
            refine ev_gF4 [false] [] rfl ?_
            refine ev_retz rfl (by first | decide | exact zb_01 _) ?_
            refine ev_g0 rfl ?_
            refine ev_retz rfl (by first | decide | exact zb_01 _) ?_
            first | exact ⟨rfl, rfl⟩ | exact ⟨congrArg (fun z => some (vi (zb z))) lf_F4, rfl⟩
        · exact ⟨nk (n := 8) ha rfl (by decide), nk (n := 8) hb rfl (by decide), nk (n := 26) ⟨hc.1, hc.2.1⟩ rfl (by decide), fun e => hc.2.2 (by rw [e]; decide)⟩
      · skip
        refine ⟨false, ?_, ?_, fun h => by cases h⟩
        · intro μ
          refine det_of h_SH_fit rfl rfl rfl ?_
          refine ev_gF4 [false, true] [] rfl ?_
          refine ev_top2 (a2 := _) (b2 := vi (nI 4)) rfl (congrArg vi (by decide)) ?_
          refine ev_kS 2 k_SH_15 rfl C_fits4 ⟨by decide, by decide⟩ rfl ?_
          refine ev_gF4 [false] [] rfl ?_
          refine ev_top2 (a2 := _) (b2 := vi (nI 4)) rfl (congrArg vi (by decide)) ?_
          refine ev_kS 2 k_SH_15 rfl C_fits4 ⟨by decide, by decide⟩ rfl ?_
          refine ev_gF4 [false] [] rfl ?_
          refine ev_top2 (a2 := _) (b2 := vi (nI 14)) rfl (congrArg vi (by decide)) ?_
          refine ev_kS 2 k_SH_15 rfl C_fits14 ⟨by decide, by decide⟩ rfl ?_
          refine ev_gF4 [false] [] rfl ?_
          refine ev_retz rfl (by first | decide | exact zb_01 _) ?_
          first | exact ⟨rfl, rfl⟩ | exact ⟨congrArg (fun z => some (vi (zb z))) lf_F4, rfl⟩
        · intro μ
          refine det_of h_MM_isAct rfl rfl rfl ?_
          refine ev_g0 rfl ?_
          refine ev_kS 3 k_MM_188 rfl (C_in_0_65) ⟨by decide, by decide⟩ rfl ?_
          refine ev_gF4 [false, true, true, true] [] rfl ?_
          refine ev_inS 4 k_MM_254 h_MM_isSecond rfl rfl rfl rfl ⟨by decide, by decide⟩ rfl ?_
          refine ev_gF4 [] [some 7] rfl ?_
          refine ev_inS 1 k_MM_218 h_MM_isN rfl rfl rfl rfl ⟨by decide, by decide⟩ rfl ?_
          refine ev_g0 rfl ?_
          refine ev_kS 3 k_MM_188 rfl (C_in_0_7) ⟨by decide, by decide⟩ rfl ?_
          refine ev_g0 rfl ?_
          refine ev_retz rfl (by first | decide | exact zb_01 _) ?_
          refine ev_gF4 [false] [] rfl ?_
          refine ev_inS 1 k_MM_218 h_MM_isN rfl rfl rfl rfl ⟨by decide, by decide⟩ rfl ?_
          refine ev_g0 rfl ?_
          refine ev_kS 3 k_MM_188 rfl (C_in_0_7) ⟨by decide, by decide⟩ rfl ?_
          refine ev_g0 rfl ?_
          refine ev_retz rfl (by first | decide | exact zb_01 _) ?_
          refine ev_gF4 [false] [] rfl ?_
          refine ev_inS 1 k_MM_235 h_MM_isKindTold rfl rfl rfl rfl ⟨by decide, by decide⟩ rfl ?_
          refine ev_g0 rfl ?_
          refine ev_kS 3 k_MM_188 rfl (C_in_0_14) ⟨by decide, by decide⟩ rfl ?_
          refine ev_gF4 [false] [] rfl ?_
          refine ev_kS 3 k_MM_188 rfl (C_in_16_25) ⟨by decide, by decide⟩ rfl ?_
          refine ev_gF4 [true] [] rfl ?_
          refine ev_retz rfl (by first | decide | exact zb_01 _) ?_
          refine ev_gF4 [true] [] rfl ?_
          refine ev_retz rfl (by first | decide | exact zb_01 _) ?_
          refine ev_g0 rfl ?_
          refine ev_retz rfl (by first | decide | exact zb_01 _) ?_
          first | exact ⟨rfl, rfl⟩ | exact ⟨congrArg (fun z => some (vi (zb z))) lf_F4, rfl⟩
    · skip
      refine ⟨false, ?_, ?_, fun h => by cases h⟩
      · intro μ
        refine det_of h_SH_fit rfl rfl rfl ?_
        refine ev_gF4 [false, true] [] rfl ?_
        refine ev_top2 (a2 := _) (b2 := vi (nI 4)) rfl (congrArg vi (by decide)) ?_
        refine ev_kS 2 k_SH_15 rfl C_fits4 ⟨by decide, by decide⟩ rfl ?_
        refine ev_gF4 [false] [] rfl ?_
        refine ev_top2 (a2 := _) (b2 := vi (nI 4)) rfl (congrArg vi (by decide)) ?_
        refine ev_kS 2 k_SH_15 rfl C_fits4 ⟨by decide, by decide⟩ rfl ?_
        refine ev_gF4 [true] [] rfl ?_
        refine ev_retz rfl (by first | decide | exact zb_01 _) ?_
        first | exact ⟨rfl, rfl⟩ | exact ⟨congrArg (fun z => some (vi (zb z))) lf_F4, rfl⟩
      · intro μ
        refine det_of h_MM_isAct rfl rfl rfl ?_
        refine ev_g0 rfl ?_
        refine ev_kS 3 k_MM_188 rfl (C_in_0_65) ⟨by decide, by decide⟩ rfl ?_
        refine ev_gF4 [false, true, true, true] [] rfl ?_
        refine ev_inS 4 k_MM_254 h_MM_isSecond rfl rfl rfl rfl ⟨by decide, by decide⟩ rfl ?_
        refine ev_gF4 [] [some 7] rfl ?_
        refine ev_inS 1 k_MM_218 h_MM_isN rfl rfl rfl rfl ⟨by decide, by decide⟩ rfl ?_
        refine ev_g0 rfl ?_
        refine ev_kS 3 k_MM_188 rfl (C_in_0_7) ⟨by decide, by decide⟩ rfl ?_
        refine ev_g0 rfl ?_
        refine ev_retz rfl (by first | decide | exact zb_01 _) ?_
        refine ev_gF4 [false] [] rfl ?_
        refine ev_inS 1 k_MM_218 h_MM_isN rfl rfl rfl rfl ⟨by decide, by decide⟩ rfl ?_
        refine ev_g0 rfl ?_
        refine ev_kS 3 k_MM_188 rfl (C_in_0_7) ⟨by decide, by decide⟩ rfl ?_
        refine ev_g0 rfl ?_
        refine ev_retz rfl (by first | decide | exact zb_01 _) ?_
        refine ev_gF4 [true] [] rfl ?_
        refine ev_retz rfl (by first | decide | exact zb_01 _) ?_
        refine ev_g0 rfl ?_
        refine ev_retz rfl (by first | decide | exact zb_01 _) ?_
        first | exact ⟨rfl, rfl⟩ | exact ⟨congrArg (fun z => some (vi (zb z))) lf_F4, rfl⟩
  · skip
    refine ⟨false, ?_, ?_, fun h => by cases h⟩
    · intro μ
      refine det_of h_SH_fit rfl rfl rfl ?_
      refine ev_gF4 [false, true] [] rfl ?_
      refine ev_top2 (a2 := _) (b2 := vi (nI 4)) rfl (congrArg vi (by decide)) ?_
      refine ev_kS 2 k_SH_15 rfl C_fits4 ⟨by decide, by decide⟩ rfl ?_
      refine ev_gF4 [true] [] rfl ?_
      refine ev_retz rfl (by first | decide | exact zb_01 _) ?_
      first | exact ⟨rfl, rfl⟩ | exact ⟨congrArg (fun z => some (vi (zb z))) lf_F4, rfl⟩
    · intro μ
      refine det_of h_MM_isAct rfl rfl rfl ?_
      refine ev_g0 rfl ?_
      refine ev_kS 3 k_MM_188 rfl (C_in_0_65) ⟨by decide, by decide⟩ rfl ?_
      refine ev_gF4 [false, true, true, true] [] rfl ?_
      refine ev_inS 4 k_MM_254 h_MM_isSecond rfl rfl rfl rfl ⟨by decide, by decide⟩ rfl ?_
      refine ev_gF4 [] [some 7] rfl ?_
      refine ev_inS 1 k_MM_218 h_MM_isN rfl rfl rfl rfl ⟨by decide, by decide⟩ rfl ?_
      refine ev_g0 rfl ?_
      refine ev_kS 3 k_MM_188 rfl (C_in_0_7) ⟨by decide, by decide⟩ rfl ?_
      refine ev_g0 rfl ?_
      refine ev_retz rfl (by first | decide | exact zb_01 _) ?_
      refine ev_gF4 [true] [] rfl ?_
      refine ev_retz rfl (by first | decide | exact zb_01 _) ?_
      refine ev_g0 rfl ?_
      refine ev_retz rfl (by first | decide | exact zb_01 _) ?_
      first | exact ⟨rfl, rfl⟩ | exact ⟨congrArg (fun z => some (vi (zb z))) lf_F4, rfl⟩
theorem FT_50 {a b c : Int32} : ∃ v : Bool, (∀ μ : mm_M, mm_Det Y_SH_fit [vi (nI 50), vi a, vi b, vi c] μ (some (vi (zb v))) μ) ∧ (∀ μm : mm_M, mm_Det Y_MM_isAct [vi (nI 50), vi a, vi b, vi c] μm (some (vi (zb v))) μm) ∧ (v = true → OKA 50 a b c) := by
  by_cases ha : 0 ≤ a.toInt ∧ a.toInt ≤ 7
  · skip
    by_cases hb : 0 ≤ b.toInt ∧ b.toInt ≤ 7
    · skip
      by_cases hc : 0 ≤ c.toInt ∧ c.toInt ≤ 7
      · skip
        refine ⟨true, ?_, ?_, fun _ => ?_⟩
        · intro μ
          refine det_of h_SH_fit rfl rfl rfl ?_
          refine ev_gF4 [false, true] [] rfl ?_
          refine ev_top2 (a2 := _) (b2 := vi (nI 1)) rfl (congrArg vi (by decide)) ?_
          refine ev_kS 2 k_SH_15 rfl C_fits1 ⟨by decide, by decide⟩ rfl ?_
          refine ev_gF4 [false] [] rfl ?_
          refine ev_top2 (a2 := _) (b2 := vi (nI 4)) rfl (congrArg vi (by decide)) ?_
          refine ev_kS 2 k_SH_15 rfl C_fits4 ⟨by decide, by decide⟩ rfl ?_
          refine ev_gF4 [false] [] rfl ?_
          refine ev_top2 (a2 := _) (b2 := vi (nI 4)) rfl (congrArg vi (by decide)) ?_
          refine ev_kS 2 k_SH_15 rfl C_fits4 ⟨by decide, by decide⟩ rfl ?_
          refine ev_gF4 [true] [] rfl ?_
          refine ev_inS 4 k_SH_19 h_SH_fitsByB rfl rfl rfl rfl ⟨by decide, by decide⟩ rfl ?_
          refine ev_gF4 [true, false, true] [] rfl ?_
          refine ev_retz rfl (by first | decide | exact zb_01 _) ?_
          refine ev_g0 rfl ?_
          refine ev_retz rfl (by first | decide | exact zb_01 _) ?_
          first | exact ⟨rfl, rfl⟩ | exact ⟨congrArg (fun z => some (vi (zb z))) lf_F4, rfl⟩
        · intro μ
          refine det_of h_MM_isAct rfl rfl rfl ?_
          refine ev_g0 rfl ?_
          refine ev_kS 3 k_MM_188 rfl (C_in_0_65) ⟨by decide, by decide⟩ rfl ?_
          refine ev_gF4 [false, true, true, true] [] rfl ?_
          refine ev_inS 4 k_MM_254 h_MM_isSecond rfl rfl rfl rfl ⟨by decide, by decide⟩ rfl ?_
          refine ev_gF4 [] [some 8] rfl ?_
          refine ev_inS 1 k_MM_218 h_MM_isN rfl rfl rfl rfl ⟨by decide, by decide⟩ rfl ?_
          refine ev_g0 rfl ?_
          refine ev_kS 3 k_MM_188 rfl (C_in_0_7) ⟨by decide, by decide⟩ rfl ?_
          refine ev_g0 rfl ?_
          refine ev_retz rfl (by first | decide | exact zb_01 _) ?_
          refine ev_gF4 [false] [] rfl ?_
          refine ev_inS 1 k_MM_218 h_MM_isN rfl rfl rfl rfl ⟨by decide, by decide⟩ rfl ?_
          refine ev_g0 rfl ?_
          refine ev_kS 3 k_MM_188 rfl (C_in_0_7) ⟨by decide, by decide⟩ rfl ?_
          refine ev_g0 rfl ?_
          refine ev_retz rfl (by first | decide | exact zb_01 _) ?_
          refine ev_gF4 [false] [] rfl ?_
          refine ev_inS 1 k_MM_218 h_MM_isN rfl rfl rfl rfl ⟨by decide, by decide⟩ rfl ?_
          refine ev_g0 rfl ?_
          refine ev_kS 3 k_MM_188 rfl (C_in_0_7) ⟨by decide, by decide⟩ rfl ?_
          refine ev_g0 rfl ?_
          refine ev_retz rfl (by first | decide | exact zb_01 _) ?_
          refine ev_gF4 [false] [] rfl ?_
          refine ev_retz rfl (by first | decide | exact zb_01 _) ?_
          refine ev_g0 rfl ?_
          refine ev_retz rfl (by first | decide | exact zb_01 _) ?_
          first | exact ⟨rfl, rfl⟩ | exact ⟨congrArg (fun z => some (vi (zb z))) lf_F4, rfl⟩
        · exact ⟨(nk (n := 8) ha rfl (by decide)), (nk (n := 8) hb rfl (by decide)), (nk (n := 8) hc rfl (by decide))⟩
      · skip
        refine ⟨false, ?_, ?_, fun h => by cases h⟩
        · intro μ
          refine det_of h_SH_fit rfl rfl rfl ?_
          refine ev_gF4 [false, true] [] rfl ?_
          refine ev_top2 (a2 := _) (b2 := vi (nI 1)) rfl (congrArg vi (by decide)) ?_
          refine ev_kS 2 k_SH_15 rfl C_fits1 ⟨by decide, by decide⟩ rfl ?_
          refine ev_gF4 [false] [] rfl ?_
          refine ev_top2 (a2 := _) (b2 := vi (nI 4)) rfl (congrArg vi (by decide)) ?_
          refine ev_kS 2 k_SH_15 rfl C_fits4 ⟨by decide, by decide⟩ rfl ?_
          refine ev_gF4 [false] [] rfl ?_
          refine ev_top2 (a2 := _) (b2 := vi (nI 4)) rfl (congrArg vi (by decide)) ?_
          refine ev_kS 2 k_SH_15 rfl C_fits4 ⟨by decide, by decide⟩ rfl ?_
          refine ev_gF4 [false] [] rfl ?_
          refine ev_retz rfl (by first | decide | exact zb_01 _) ?_
          first | exact ⟨rfl, rfl⟩ | exact ⟨congrArg (fun z => some (vi (zb z))) lf_F4, rfl⟩
        · intro μ
          refine det_of h_MM_isAct rfl rfl rfl ?_
          refine ev_g0 rfl ?_
          refine ev_kS 3 k_MM_188 rfl (C_in_0_65) ⟨by decide, by decide⟩ rfl ?_
          refine ev_gF4 [false, true, true, true] [] rfl ?_
          refine ev_inS 4 k_MM_254 h_MM_isSecond rfl rfl rfl rfl ⟨by decide, by decide⟩ rfl ?_
          refine ev_gF4 [] [some 8] rfl ?_
          refine ev_inS 1 k_MM_218 h_MM_isN rfl rfl rfl rfl ⟨by decide, by decide⟩ rfl ?_
          refine ev_g0 rfl ?_
          refine ev_kS 3 k_MM_188 rfl (C_in_0_7) ⟨by decide, by decide⟩ rfl ?_
          refine ev_g0 rfl ?_
          refine ev_retz rfl (by first | decide | exact zb_01 _) ?_
          refine ev_gF4 [false] [] rfl ?_
          refine ev_inS 1 k_MM_218 h_MM_isN rfl rfl rfl rfl ⟨by decide, by decide⟩ rfl ?_
          refine ev_g0 rfl ?_
          refine ev_kS 3 k_MM_188 rfl (C_in_0_7) ⟨by decide, by decide⟩ rfl ?_
          refine ev_g0 rfl ?_
          refine ev_retz rfl (by first | decide | exact zb_01 _) ?_
          refine ev_gF4 [false] [] rfl ?_
          refine ev_inS 1 k_MM_218 h_MM_isN rfl rfl rfl rfl ⟨by decide, by decide⟩ rfl ?_
          refine ev_g0 rfl ?_
          refine ev_kS 3 k_MM_188 rfl (C_in_0_7) ⟨by decide, by decide⟩ rfl ?_
          refine ev_g0 rfl ?_
          refine ev_retz rfl (by first | decide | exact zb_01 _) ?_
          refine ev_gF4 [true] [] rfl ?_
          refine ev_retz rfl (by first | decide | exact zb_01 _) ?_
          refine ev_g0 rfl ?_
          refine ev_retz rfl (by first | decide | exact zb_01 _) ?_
          first | exact ⟨rfl, rfl⟩ | exact ⟨congrArg (fun z => some (vi (zb z))) lf_F4, rfl⟩
    · skip
      refine ⟨false, ?_, ?_, fun h => by cases h⟩
      · intro μ
        refine det_of h_SH_fit rfl rfl rfl ?_
        refine ev_gF4 [false, true] [] rfl ?_
        refine ev_top2 (a2 := _) (b2 := vi (nI 1)) rfl (congrArg vi (by decide)) ?_
        refine ev_kS 2 k_SH_15 rfl C_fits1 ⟨by decide, by decide⟩ rfl ?_
        refine ev_gF4 [false] [] rfl ?_
        refine ev_top2 (a2 := _) (b2 := vi (nI 4)) rfl (congrArg vi (by decide)) ?_
        refine ev_kS 2 k_SH_15 rfl C_fits4 ⟨by decide, by decide⟩ rfl ?_
        refine ev_gF4 [true] [] rfl ?_
        refine ev_retz rfl (by first | decide | exact zb_01 _) ?_
        first | exact ⟨rfl, rfl⟩ | exact ⟨congrArg (fun z => some (vi (zb z))) lf_F4, rfl⟩
      · intro μ
        refine det_of h_MM_isAct rfl rfl rfl ?_
        refine ev_g0 rfl ?_
        refine ev_kS 3 k_MM_188 rfl (C_in_0_65) ⟨by decide, by decide⟩ rfl ?_
        refine ev_gF4 [false, true, true, true] [] rfl ?_
        refine ev_inS 4 k_MM_254 h_MM_isSecond rfl rfl rfl rfl ⟨by decide, by decide⟩ rfl ?_
        refine ev_gF4 [] [some 8] rfl ?_
        refine ev_inS 1 k_MM_218 h_MM_isN rfl rfl rfl rfl ⟨by decide, by decide⟩ rfl ?_
        refine ev_g0 rfl ?_
        refine ev_kS 3 k_MM_188 rfl (C_in_0_7) ⟨by decide, by decide⟩ rfl ?_
        refine ev_g0 rfl ?_
        refine ev_retz rfl (by first | decide | exact zb_01 _) ?_
        refine ev_gF4 [false] [] rfl ?_
        refine ev_inS 1 k_MM_218 h_MM_isN rfl rfl rfl rfl ⟨by decide, by decide⟩ rfl ?_
        refine ev_g0 rfl ?_
        refine ev_kS 3 k_MM_188 rfl (C_in_0_7) ⟨by decide, by decide⟩ rfl ?_
        refine ev_g0 rfl ?_
        refine ev_retz rfl (by first | decide | exact zb_01 _) ?_
        refine ev_gF4 [true] [] rfl ?_
        refine ev_retz rfl (by first | decide | exact zb_01 _) ?_
        refine ev_g0 rfl ?_
        refine ev_retz rfl (by first | decide | exact zb_01 _) ?_
        first | exact ⟨rfl, rfl⟩ | exact ⟨congrArg (fun z => some (vi (zb z))) lf_F4, rfl⟩
  · skip
    refine ⟨false, ?_, ?_, fun h => by cases h⟩
    · intro μ
      refine det_of h_SH_fit rfl rfl rfl ?_
      refine ev_gF4 [false, true] [] rfl ?_
      refine ev_top2 (a2 := _) (b2 := vi (nI 1)) rfl (congrArg vi (by decide)) ?_
      refine ev_kS 2 k_SH_15 rfl C_fits1 ⟨by decide, by decide⟩ rfl ?_
      refine ev_gF4 [true] [] rfl ?_
      refine ev_retz rfl (by first | decide | exact zb_01 _) ?_
      first | exact ⟨rfl, rfl⟩ | exact ⟨congrArg (fun z => some (vi (zb z))) lf_F4, rfl⟩
    · intro μ
      refine det_of h_MM_isAct rfl rfl rfl ?_
      refine ev_g0 rfl ?_
      refine ev_kS 3 k_MM_188 rfl (C_in_0_65) ⟨by decide, by decide⟩ rfl ?_
      refine ev_gF4 [false, true, true, true] [] rfl ?_
      refine ev_inS 4 k_MM_254 h_MM_isSecond rfl rfl rfl rfl ⟨by decide, by decide⟩ rfl ?_
      refine ev_gF4 [] [some 8] rfl ?_
      refine ev_inS 1 k_MM_218 h_MM_isN rfl rfl rfl rfl ⟨by decide, by decide⟩ rfl ?_
      refine ev_g0 rfl ?_
      refine ev_kS 3 k_MM_188 rfl (C_in_0_7) ⟨by decide, by decide⟩ rfl ?_
      refine ev_g0 rfl ?_
      refine ev_retz rfl (by first | decide | exact zb_01 _) ?_
      refine ev_gF4 [true] [] rfl ?_
      refine ev_retz rfl (by first | decide | exact zb_01 _) ?_
      refine ev_g0 rfl ?_
      refine ev_retz rfl (by first | decide | exact zb_01 _) ?_
      first | exact ⟨rfl, rfl⟩ | exact ⟨congrArg (fun z => some (vi (zb z))) lf_F4, rfl⟩
