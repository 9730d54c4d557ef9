theorem FT_53 {a b c : Int32} : ∃ v : Bool, (∀ μ : mm_M, mm_Det Y_SH_fit [vi (nI 53), vi a, vi b, vi c] μ (some (vi (zb v))) μ) ∧ (∀ μm : mm_M, mm_Det Y_MM_isAct [vi (nI 53), vi a, vi b, vi c] μm (some (vi (zb v))) μm) ∧ (v = true → OKA 53 a b c) := by
  by_cases ha : 0 ≤ a.toInt ∧ a.toInt ≤ 7
  · skip
    by_cases hb : 0 ≤ b.toInt ∧ b.toInt ≤ 7
    · skip
      by_cases hc : 0 ≤ c.toInt ∧ c.toInt ≤ 7
      · skip
        refine ⟨true, ?_, ?_, fun _ => ?_⟩
        · intro μ
          refine det_of h_SH_fit rfl rfl rfl ?_
          refine ev_gF3 [false, true] [] rfl ?_
          refine ev_top2 (a2 := _) (b2 := vi (nI 1)) rfl (congrArg vi (by decide)) ?_
          refine ev_kS 2 k_SH_15 rfl C_fits1 ⟨by decide, by decide⟩ rfl ?_
          refine ev_gF3 [false] [] rfl ?_
          refine ev_top2 (a2 := _) (b2 := vi (nI 4)) rfl (congrArg vi (by decide)) ?_
          refine ev_kS 2 k_SH_15 rfl C_fits4 ⟨by decide, by decide⟩ rfl ?_
          refine ev_gF3 [false] [] rfl ?_
          refine ev_top2 (a2 := _) (b2 := vi (nI 1)) rfl (congrArg vi (by decide)) ?_
          refine ev_kS 2 k_SH_15 rfl C_fits1 ⟨by decide, by decide⟩ rfl ?_
          refine ev_gF3 [true] [] rfl ?_
          refine ev_inS 4 k_SH_19 h_SH_fitsByB rfl rfl rfl rfl ⟨by decide, by decide⟩ rfl ?_
          refine ev_gF3 [true, false, true] [] rfl ?_
          refine ev_retz rfl (by first | decide | exact zb_01 _) ?_
          refine ev_g0 rfl ?_
          refine ev_retz rfl (by first | decide | exact zb_01 _) ?_
          first | exact ⟨rfl, rfl⟩ | exact ⟨congrArg (fun z => some (vi (zb z))) lf_F3, rfl⟩
        · intro μ
          refine det_of h_MM_isAct rfl rfl rfl ?_
          refine ev_g0 rfl ?_
          refine ev_kS 3 k_MM_188 rfl (C_in_0_65) ⟨by decide, by decide⟩ rfl ?_
          refine ev_gF3 [false, true, true, true] [] rfl ?_
          refine ev_inS 4 k_MM_254 h_MM_isSecond rfl rfl rfl rfl ⟨by decide, by decide⟩ rfl ?_
          refine ev_gF3 [] [some 11] rfl ?_
          refine ev_inS 1 k_MM_218 h_MM_isN rfl rfl rfl rfl ⟨by decide, by decide⟩ rfl ?_
          refine ev_g0 rfl ?_
          refine ev_kS 3 k_MM_188 rfl (C_in_0_7) ⟨by decide, by decide⟩ rfl ?_
          refine ev_g0 rfl ?_
          refine ev_retz rfl (by first | decide | exact zb_01 _) ?_
          refine ev_gF3 [false] [] rfl ?_
          refine ev_inS 1 k_MM_218 h_MM_isN rfl rfl rfl rfl ⟨by decide, by decide⟩ rfl ?_
          refine ev_g0 rfl ?_
          refine ev_kS 3 k_MM_188 rfl (C_in_0_7) ⟨by decide, by decide⟩ rfl ?_
          refine ev_g0 rfl ?_
          refine ev_retz rfl (by first | decide | exact zb_01 _) ?_
          refine ev_gF3 [false] [] rfl ?_
          refine ev_inS 1 k_MM_218 h_MM_isN rfl rfl rfl rfl ⟨by decide, by decide⟩ rfl ?_
          refine ev_g0 rfl ?_
          refine ev_kS 3 k_MM_188 rfl (C_in_0_7) ⟨by decide, by decide⟩ rfl ?_
          refine ev_g0 rfl ?_
          refine ev_retz rfl (by first | decide | exact zb_01 _) ?_
          refine ev_gF3 [false] [] rfl ?_
          refine ev_retz rfl (by first | decide | exact zb_01 _) ?_
          refine ev_g0 rfl ?_
          refine ev_retz rfl (by first | decide | exact zb_01 _) ?_
          first | exact ⟨rfl, rfl⟩ | exact ⟨congrArg (fun z => some (vi (zb z))) lf_F3, rfl⟩
        · exact ⟨(nk (n := 8) ha rfl (by decide)), (nk (n := 8) hb rfl (by decide)), (nk (n := 8) hc rfl (by decide))⟩
      · skip
        refine ⟨false, ?_, ?_, fun h => by cases h⟩
        · intro μ
          refine det_of h_SH_fit rfl rfl rfl ?_
          refine ev_gF3 [false, true] [] rfl ?_
          refine ev_top2 (a2 := _) (b2 := vi (nI 1)) rfl (congrArg vi (by decide)) ?_
          refine ev_kS 2 k_SH_15 rfl C_fits1 ⟨by decide, by decide⟩ rfl ?_
          refine ev_gF3 [false] [] rfl ?_
          refine ev_top2 (a2 := _) (b2 := vi (nI 4)) rfl (congrArg vi (by decide)) ?_
          refine ev_kS 2 k_SH_15 rfl C_fits4 ⟨by decide, by decide⟩ rfl ?_
          refine ev_gF3 [false] [] rfl ?_
          refine ev_top2 (a2 := _) (b2 := vi (nI 1)) rfl (congrArg vi (by decide)) ?_
          refine ev_kS 2 k_SH_15 rfl C_fits1 ⟨by decide, by decide⟩ rfl ?_
          refine ev_gF3 [false] [] rfl ?_
          refine ev_retz rfl (by first | decide | exact zb_01 _) ?_
          first | exact ⟨rfl, rfl⟩ | exact ⟨congrArg (fun z => some (vi (zb z))) lf_F3, rfl⟩
        · intro μ
          refine det_of h_MM_isAct rfl rfl rfl ?_
          refine ev_g0 rfl ?_
          refine ev_kS 3 k_MM_188 rfl (C_in_0_65) ⟨by decide, by decide⟩ rfl ?_
          refine ev_gF3 [false, true, true, true] [] rfl ?_
          refine ev_inS 4 k_MM_254 h_MM_isSecond rfl rfl rfl rfl ⟨by decide, by decide⟩ rfl ?_
          refine ev_gF3 [] [some 11] rfl ?_
          refine ev_inS 1 k_MM_218 h_MM_isN rfl rfl rfl rfl ⟨by decide, by decide⟩ rfl ?_
          refine ev_g0 rfl ?_
          refine ev_kS 3 k_MM_188 rfl (C_in_0_7) ⟨by decide, by decide⟩ rfl ?_
          refine ev_g0 rfl ?_
          refine ev_retz rfl (by first | decide | exact zb_01 _) ?_
          refine ev_gF3 [false] [] rfl ?_
          refine ev_inS 1 k_MM_218 h_MM_isN rfl rfl rfl rfl ⟨by decide, by decide⟩ rfl ?_
          refine ev_g0 rfl ?_
          refine ev_kS 3 k_MM_188 rfl (C_in_0_7) ⟨by decide, by decide⟩ rfl ?_
          refine ev_g0 rfl ?_
          refine ev_retz rfl (by first | decide | exact zb_01 _) ?_
          refine ev_gF3 [false] [] rfl ?_
          refine ev_inS 1 k_MM_218 h_MM_isN rfl rfl rfl rfl ⟨by decide, by decide⟩ rfl ?_
          refine ev_g0 rfl ?_
          refine ev_kS 3 k_MM_188 rfl (C_in_0_7) ⟨by decide, by decide⟩ rfl ?_
          refine ev_g0 rfl ?_
          refine ev_retz rfl (by first | decide | exact zb_01 _) ?_
          refine ev_gF3 [true] [] rfl ?_
          refine ev_retz rfl (by first | decide | exact zb_01 _) ?_
          refine ev_g0 rfl ?_
          refine ev_retz rfl (by first | decide | exact zb_01 _) ?_
          first | exact ⟨rfl, rfl⟩ | exact ⟨congrArg (fun z => some (vi (zb z))) lf_F3, rfl⟩
    · skip
      refine ⟨false, ?_, ?_, fun h => by cases h⟩
      · intro μ
        refine det_of h_SH_fit rfl rfl rfl ?_
        refine ev_gF3 [false, true] [] rfl ?_
        refine ev_top2 (a2 := _) (b2 := vi (nI 1)) rfl (congrArg vi (by decide)) ?_
        refine ev_kS 2 k_SH_15 rfl C_fits1 ⟨by decide, by decide⟩ rfl ?_
        refine ev_gF3 [false] [] rfl ?_
        refine ev_top2 (a2 := _) (b2 := vi (nI 4)) rfl (congrArg vi (by decide)) ?_
        refine ev_kS 2 k_SH_15 rfl C_fits4 ⟨by decide, by decide⟩ rfl ?_
        refine ev_gF3 [true] [] rfl ?_
        refine ev_retz rfl (by first | decide | exact zb_01 _) ?_
        first | exact ⟨rfl, rfl⟩ | exact ⟨congrArg (fun z => some (vi (zb z))) lf_F3, rfl⟩
      · intro μ
        refine det_of h_MM_isAct rfl rfl rfl ?_
        refine ev_g0 rfl ?_
        refine ev_kS 3 k_MM_188 rfl (C_in_0_65) ⟨by decide, by decide⟩ rfl ?_
        refine ev_gF3 [false, true, true, true] [] rfl ?_
        refine ev_inS 4 k_MM_254 h_MM_isSecond rfl rfl rfl rfl ⟨by decide, by decide⟩ rfl ?_
        refine ev_gF3 [] [some 11] rfl ?_
        refine ev_inS 1 k_MM_218 h_MM_isN rfl rfl rfl rfl ⟨by decide, by decide⟩ rfl ?_
        refine ev_g0 rfl ?_
        refine ev_kS 3 k_MM_188 rfl (C_in_0_7) ⟨by decide, by decide⟩ rfl ?_
        refine ev_g0 rfl ?_
        refine ev_retz rfl (by first | decide | exact zb_01 _) ?_
        refine ev_gF3 [false] [] rfl ?_
        refine ev_inS 1 k_MM_218 h_MM_isN rfl rfl rfl rfl ⟨by decide, by decide⟩ rfl ?_
        refine ev_g0 rfl ?_
        refine ev_kS 3 k_MM_188 rfl (C_in_0_7) ⟨by decide, by decide⟩ rfl ?_
        refine ev_g0 rfl ?_
        refine ev_retz rfl (by first | decide | exact zb_01 _) ?_
        refine ev_gF3 [true] [] rfl ?_
        refine ev_retz rfl (by first | decide | exact zb_01 _) ?_
        refine ev_g0 rfl ?_
        refine ev_retz rfl (by first | decide | exact zb_01 _) ?_
        first | exact ⟨rfl, rfl⟩ | exact ⟨congrArg (fun z => some (vi (zb z))) lf_F3, rfl⟩
  · skip
    refine ⟨false, ?_, ?_, fun h => by cases h⟩
    · intro μ
      refine det_of h_SH_fit rfl rfl rfl ?_
      refine ev_gF3 [false, true] [] rfl ?_
      refine ev_top2 (a2 := _) (b2 := vi (nI 1)) rfl (congrArg vi (by decide)) ?_
      refine ev_kS 2 k_SH_15 rfl C_fits1 ⟨by decide, by decide⟩ rfl ?_
      refine ev_gF3 [true] [] rfl ?_
      refine ev_retz rfl (by first | decide | exact zb_01 _) ?_
      first | exact ⟨rfl, rfl⟩ | exact ⟨congrArg (fun z => some (vi (zb z))) lf_F3, rfl⟩
    · intro μ
      refine det_of h_MM_isAct rfl rfl rfl ?_
      refine ev_g0 rfl ?_
      refine ev_kS 3 k_MM_188 rfl (C_in_0_65) ⟨by decide, by decide⟩ rfl ?_
      refine ev_gF3 [false, true, true, true] [] rfl ?_
      refine ev_inS 4 k_MM_254 h_MM_isSecond rfl rfl rfl rfl ⟨by decide, by decide⟩ rfl ?_
      refine ev_gF3 [] [some 11] rfl ?_
      refine ev_inS 1 k_MM_218 h_MM_isN rfl rfl rfl rfl ⟨by decide, by decide⟩ rfl ?_
      refine ev_g0 rfl ?_
      refine ev_kS 3 k_MM_188 rfl (C_in_0_7) ⟨by decide, by decide⟩ rfl ?_
      refine ev_g0 rfl ?_
      refine ev_retz rfl (by first | decide | exact zb_01 _) ?_
      refine ev_gF3 [true] [] rfl ?_
      refine ev_retz rfl (by first | decide | exact zb_01 _) ?_
      refine ev_g0 rfl ?_
      refine ev_retz rfl (by first | decide | exact zb_01 _) ?_
      first | exact ⟨rfl, rfl⟩ | exact ⟨congrArg (fun z => some (vi (zb z))) lf_F3, rfl⟩
theorem FT_54 {a b c : Int32} : ∃ v : Bool, (∀ μ : mm_M, mm_Det Y_SH_fit [vi (nI 54), vi a, vi b, vi c] μ (some (vi (zb v))) μ) ∧ (∀ μm : mm_M, mm_Det Y_MM_isAct [vi (nI 54), vi a, vi b, vi c] μm (some (vi (zb v))) μm) ∧ (v = true → OKA 54 a b c) := by
  by_cases ha : 0 ≤ a.toInt ∧ a.toInt ≤ 3
  · skip
    by_cases hb : 0 ≤ b.toInt ∧ b.toInt ≤ 7
    · skip
      refine ⟨true, ?_, ?_, fun _ => ?_⟩
      · intro μ
        refine det_of h_SH_fit rfl rfl rfl ?_
        refine ev_gF3 [false, true] [] rfl ?_
        refine ev_top2 (a2 := _) (b2 := vi (nI 2)) rfl (congrArg vi (by decide)) ?_
        refine ev_kS 2 k_SH_15 rfl C_fits2 ⟨by decide, by decide⟩ rfl ?_
        refine ev_gF3 [false] [] rfl ?_
        refine ev_top2 (a2 := _) (b2 := vi (nI 4)) rfl (congrArg vi (by decide)) ?_
        refine ev_kS 2 k_SH_15 rfl C_fits4 ⟨by decide, by decide⟩ rfl ?_
        refine ev_gF3 [false] [] rfl ?_
        refine ev_top2 (a2 := _) (b2 := vi (nI 0)) rfl (congrArg vi (by decide)) ?_
        refine ev_kS 2 k_SH_15 rfl C_fits0 ⟨by decide, by decide⟩ rfl ?_
        refine ev_gF3 [true] [] rfl ?_
        refine ev_inS 4 k_SH_19 h_SH_fitsByB rfl rfl rfl rfl ⟨by decide, by decide⟩ rfl ?_
        refine ev_gF3 [true, false, true] [] rfl ?_
        refine ev_retz rfl (by first | decide | exact zb_01 _) ?_
        refine ev_g0 rfl ?_
        refine ev_retz rfl (by first | decide | exact zb_01 _) ?_
        first | exact ⟨rfl, rfl⟩ | exact ⟨congrArg (fun z => some (vi (zb z))) lf_F3, rfl⟩
      · intro μ
        refine det_of h_MM_isAct rfl rfl rfl ?_
        refine ev_g0 rfl ?_
        refine ev_kS 3 k_MM_188 rfl (C_in_0_65) ⟨by decide, by decide⟩ rfl ?_
        refine ev_gF3 [false, true, true, true] [] rfl ?_
        refine ev_inS 4 k_MM_254 h_MM_isSecond rfl rfl rfl rfl ⟨by decide, by decide⟩ rfl ?_
        refine ev_gF3 [] [some 12] rfl ?_
        refine ev_inS 1 k_MM_214 h_MM_isX rfl rfl rfl rfl ⟨by decide, by decide⟩ rfl ?_
        refine ev_g0 rfl ?_
        refine ev_kS 3 k_MM_188 rfl (C_in_0_3) ⟨by decide, by decide⟩ rfl ?_
        refine ev_g0 rfl ?_
        refine ev_retz rfl (by first | decide | exact zb_01 _) ?_
        refine ev_gF3 [false] [] rfl ?_
        refine ev_inS 1 k_MM_218 h_MM_isN rfl rfl rfl rfl ⟨by decide, by decide⟩ rfl ?_
        refine ev_g0 rfl ?_
        refine ev_kS 3 k_MM_188 rfl (C_in_0_7) ⟨by decide, by decide⟩ rfl ?_
        refine ev_g0 rfl ?_
        refine ev_retz rfl (by first | decide | exact zb_01 _) ?_
        refine ev_gF3 [false] [] rfl ?_
        refine ev_retz rfl (by first | decide | exact zb_01 _) ?_
        refine ev_g0 rfl ?_
        refine ev_retz rfl (by first | decide | exact zb_01 _) ?_
        first | exact ⟨rfl, rfl⟩ | exact ⟨congrArg (fun z => some (vi (zb z))) lf_F3, rfl⟩
      · exact ⟨(nk (n := 4) ha rfl (by decide)), (nk (n := 8) hb rfl (by decide))⟩
    · skip
      refine ⟨false, ?_, ?_, fun h => by cases h⟩
      · intro μ
        refine det_of h_SH_fit rfl rfl rfl ?_
        refine ev_gF3 [false, true] [] rfl ?_
        refine ev_top2 (a2 := _) (b2 := vi (nI 2)) rfl (congrArg vi (by decide)) ?_
        refine ev_kS 2 k_SH_15 rfl C_fits2 ⟨by decide, by decide⟩ rfl ?_
        refine ev_gF3 [false] [] rfl ?_
        refine ev_top2 (a2 := _) (b2 := vi (nI 4)) rfl (congrArg vi (by decide)) ?_
        refine ev_kS 2 k_SH_15 rfl C_fits4 ⟨by decide, by decide⟩ rfl ?_
        refine ev_gF3 [true] [] rfl ?_
        refine ev_retz rfl (by first | decide | exact zb_01 _) ?_
        first | exact ⟨rfl, rfl⟩ | exact ⟨congrArg (fun z => some (vi (zb z))) lf_F3, rfl⟩
      · intro μ
        refine det_of h_MM_isAct rfl rfl rfl ?_
        refine ev_g0 rfl ?_
        refine ev_kS 3 k_MM_188 rfl (C_in_0_65) ⟨by decide, by decide⟩ rfl ?_
        refine ev_gF3 [false, true, true, true] [] rfl ?_
        refine ev_inS 4 k_MM_254 h_MM_isSecond rfl rfl rfl rfl ⟨by decide, by decide⟩ rfl ?_
        refine ev_gF3 [] [some 12] rfl ?_
        refine ev_inS 1 k_MM_214 h_MM_isX rfl rfl rfl rfl ⟨by decide, by decide⟩ rfl ?_
        refine ev_g0 rfl ?_
        refine ev_kS 3 k_MM_188 rfl (C_in_0_3) ⟨by decide, by decide⟩ rfl ?_
        refine ev_g0 rfl ?_
        refine ev_retz rfl (by first | decide | exact zb_01 _) ?_
        refine ev_gF3 [false] [] rfl ?_
        refine ev_inS 1 k_MM_218 h_MM_isN rfl rfl rfl rfl ⟨by decide, by decide⟩ rfl ?_
        refine ev_g0 rfl ?_
        refine ev_kS 3 k_MM_188 rfl (C_in_0_7) ⟨by decide, by decide⟩ rfl ?_
        refine ev_g0 rfl ?_
        refine ev_retz rfl (by first | decide | exact zb_01 _) ?_
        refine ev_gF3 [true] [] rfl ?_
        refine ev_retz rfl (by first | decide | exact zb_01 _) ?_
        refine ev_g0 rfl ?_
        refine ev_retz rfl (by first | decide | exact zb_01 _) ?_
        first | exact ⟨rfl, rfl⟩ | exact ⟨congrArg (fun z => some (vi (zb z))) lf_F3, rfl⟩
  · skip
    refine ⟨false, ?_, ?_, fun h => by cases h⟩
    · intro μ
      refine det_of h_SH_fit rfl rfl rfl ?_
      refine ev_gF3 [false, true] [] rfl ?_
      refine ev_top2 (a2 := _) (b2 := vi (nI 2)) rfl (congrArg vi (by decide)) ?_
      refine ev_kS 2 k_SH_15 rfl C_fits2 ⟨by decide, by decide⟩ rfl ?_
      refine ev_gF3 [true] [] rfl ?_
      refine ev_retz rfl (by first | decide | exact zb_01 _) ?_
      first | exact ⟨rfl, rfl⟩ | exact ⟨congrArg (fun z => some (vi (zb z))) lf_F3, rfl⟩
    · intro μ
      refine det_of h_MM_isAct rfl rfl rfl ?_
      refine ev_g0 rfl ?_
      refine ev_kS 3 k_MM_188 rfl (C_in_0_65) ⟨by decide, by decide⟩ rfl ?_
      refine ev_gF3 [false, true, true, true] [] rfl ?_
      refine ev_inS 4 k_MM_254 h_MM_isSecond rfl rfl rfl rfl ⟨by decide, by decide⟩ rfl ?_
      refine ev_gF3 [] [some 12] rfl ?_
      refine ev_inS 1 k_MM_214 h_MM_isX rfl rfl rfl rfl ⟨by decide, by decide⟩ rfl ?_
      refine ev_g0 rfl ?_
      refine ev_kS 3 k_MM_188 rfl (C_in_0_3) ⟨by decide, by decide⟩ rfl ?_
      refine ev_g0 rfl ?_
      refine ev_retz rfl (by first | decide | exact zb_01 _) ?_
      refine ev_gF3 [true] [] rfl ?_
      refine ev_retz rfl (by first | decide | exact zb_01 _) ?_
      refine ev_g0 rfl ?_
      refine ev_retz rfl (by first | decide | exact zb_01 _) ?_
      first | exact ⟨rfl, rfl⟩ | exact ⟨congrArg (fun z => some (vi (zb z))) lf_F3, rfl⟩
theorem FT_55 {a b c : Int32} : ∃ v : Bool, (∀ μ : mm_M, mm_Det Y_SH_fit [vi (nI 55), vi a, vi b, vi c] μ (some (vi (zb v))) μ) ∧ (∀ μm : mm_M, mm_Det Y_MM_isAct [vi (nI 55), vi a, vi b, vi c] μm (some (vi (zb v))) μm) ∧ (v = true → OKA 55 a b c) := by
  by_cases ha : 0 ≤ a.toInt ∧ a.toInt ≤ 7
  · skip
    by_cases hb : 0 ≤ b.toInt ∧ b.toInt ≤ 7
    · skip
      refine ⟨true, ?_, ?_, fun _ => ?_⟩
      · intro μ
        refine det_of h_SH_fit rfl rfl rfl ?_
        refine ev_gF3 [false, true] [] rfl ?_
        refine ev_top2 (a2 := _) (b2 := vi (nI 1)) rfl (congrArg vi (by decide)) ?_
        refine ev_kS 2 k_SH_15 rfl C_fits1 ⟨by decide, by decide⟩ rfl ?_
        refine ev_gF3 [false] [] rfl ?_
        refine ev_top2 (a2 := _) (b2 := vi (nI 4)) rfl (congrArg vi (by decide)) ?_
        refine ev_kS 2 k_SH_15 rfl C_fits4 ⟨by decide, by decide⟩ rfl ?_
        refine ev_gF3 [false] [] rfl ?_
        refine ev_top2 (a2 := _) (b2 := vi (nI 0)) rfl (congrArg vi (by decide)) ?_
        refine ev_kS 2 k_SH_15 rfl C_fits0 ⟨by decide, by decide⟩ rfl ?_
        refine ev_gF3 [true] [] rfl ?_
        refine ev_inS 4 k_SH_19 h_SH_fitsByB rfl rfl rfl rfl ⟨by decide, by decide⟩ rfl ?_
        refine ev_gF3 [true, false, true] [] rfl ?_
        refine ev_retz rfl (by first | decide | exact zb_01 _) ?_
        refine ev_g0 rfl ?_
        refine ev_retz rfl (by first | decide | exact zb_01 _) ?_
        first | exact ⟨rfl, rfl⟩ | exact ⟨congrArg (fun z => some (vi (zb z))) lf_F3, rfl⟩
      · intro μ
        refine det_of h_MM_isAct rfl rfl rfl ?_
        refine ev_g0 rfl ?_
        refine ev_kS 3 k_MM_188 rfl (C_in_0_65) ⟨by decide, by decide⟩ rfl ?_
        refine ev_gF3 [false, true, true, true] [] rfl ?_
        refine ev_inS 4 k_MM_254 h_MM_isSecond rfl rfl rfl rfl ⟨by decide, by decide⟩ rfl ?_
        refine ev_gF3 [] [some 13] rfl ?_
        refine ev_inS 1 k_MM_218 h_MM_isN rfl rfl rfl rfl ⟨by decide, by decide⟩ rfl ?_
        refine ev_g0 rfl ?_
        refine ev_kS 3 k_MM_188 rfl (C_in_0_7) ⟨by decide, by decide⟩ rfl ?_
        refine ev_g0 rfl ?_
        refine ev_retz rfl (by first | decide | exact zb_01 _) ?_
        refine ev_gF3 [false] [] rfl ?_
        refine ev_inS 1 k_MM_218 h_MM_isN rfl rfl rfl rfl ⟨by decide, by decide⟩ rfl ?_
        refine ev_g0 rfl ?_
        refine ev_kS 3 k_MM_188 rfl (C_in_0_7) ⟨by decide, by decide⟩ rfl ?_
        refine ev_g0 rfl ?_
        refine ev_retz rfl (by first | decide | exact zb_01 _) ?_
        refine ev_gF3 [false] [] rfl ?_
        refine ev_retz rfl (by first | decide | exact zb_01 _) ?_
        refine ev_g0 rfl ?_
        refine ev_retz rfl (by first | decide | exact zb_01 _) ?_
        first | exact ⟨rfl, rfl⟩ | exact ⟨congrArg (fun z => some (vi (zb z))) lf_F3, rfl⟩
      · exact ⟨(nk (n := 8) ha rfl (by decide)), (nk (n := 8) hb rfl (by decide))⟩
    · skip
      refine ⟨false, ?_, ?_, fun h => by cases h⟩
      · intro μ
        refine det_of h_SH_fit rfl rfl rfl ?_
        refine ev_gF3 [false, true] [] rfl ?_
        refine ev_top2 (a2 := _) (b2 := vi (nI 1)) rfl (congrArg vi (by decide)) ?_
        refine ev_kS 2 k_SH_15 rfl C_fits1 ⟨by decide, by decide⟩ rfl ?_
        refine ev_gF3 [false] [] rfl ?_
        refine ev_top2 (a2 := _) (b2 := vi (nI 4)) rfl (congrArg vi (by decide)) ?_
        refine ev_kS 2 k_SH_15 rfl C_fits4 ⟨by decide, by decide⟩ rfl ?_
        refine ev_gF3 [true] [] rfl ?_
        refine ev_retz rfl (by first | decide | exact zb_01 _) ?_
        first | exact ⟨rfl, rfl⟩ | exact ⟨congrArg (fun z => some (vi (zb z))) lf_F3, rfl⟩
      · intro μ
        refine det_of h_MM_isAct rfl rfl rfl ?_
        refine ev_g0 rfl ?_
        refine ev_kS 3 k_MM_188 rfl (C_in_0_65) ⟨by decide, by decide⟩ rfl ?_
        refine ev_gF3 [false, true, true, true] [] rfl ?_
        refine ev_inS 4 k_MM_254 h_MM_isSecond rfl rfl rfl rfl ⟨by decide, by decide⟩ rfl ?_
        refine ev_gF3 [] [some 13] rfl ?_
        refine ev_inS 1 k_MM_218 h_MM_isN rfl rfl rfl rfl ⟨by decide, by decide⟩ rfl ?_
        refine ev_g0 rfl ?_
        refine ev_kS 3 k_MM_188 rfl (C_in_0_7) ⟨by decide, by decide⟩ rfl ?_
        refine ev_g0 rfl ?_
        refine ev_retz rfl (by first | decide | exact zb_01 _) ?_
        refine ev_gF3 [false] [] rfl ?_
        refine ev_inS 1 k_MM_218 h_MM_isN rfl rfl rfl rfl ⟨by decide, by decide⟩ rfl ?_
        refine ev_g0 rfl ?_
        refine ev_kS 3 k_MM_188 rfl (C_in_0_7) ⟨by decide, by decide⟩ rfl ?_
        refine ev_g0 rfl ?_
        refine ev_retz rfl (by first | decide | exact zb_01 _) ?_
        refine ev_gF3 [true] [] rfl ?_
        refine ev_retz rfl (by first | decide | exact zb_01 _) ?_
        refine ev_g0 rfl ?_
        refine ev_retz rfl (by first | decide | exact zb_01 _) ?_
        first | exact ⟨rfl, rfl⟩ | exact ⟨congrArg (fun z => some (vi (zb z))) lf_F3, rfl⟩
  · skip
    refine ⟨false, ?_, ?_, fun h => by cases h⟩
    · intro μ
      refine det_of h_SH_fit rfl rfl rfl ?_
      refine ev_gF3 [false, true] [] rfl ?_
      refine ev_top2 (a2 := _) (b2 := vi (nI 1)) rfl (congrArg vi (by decide)) ?_
      refine ev_kS 2 k_SH_15 rfl C_fits1 ⟨by decide, by decide⟩ rfl ?_
      refine ev_gF3 [true] [] rfl ?_
      refine ev_retz rfl (by first | decide | exact zb_01 _) ?_
      first | exact ⟨rfl, rfl⟩ | exact ⟨congrArg (fun z => some (vi (zb z))) lf_F3, rfl⟩
    · intro μ
      refine det_of h_MM_isAct rfl rfl rfl ?_
      refine ev_g0 rfl ?_
      refine ev_kS 3 k_MM_188 rfl (C_in_0_65) ⟨by decide, by decide⟩ rfl ?_
      refine ev_gF3 [false, true, true, true] [] rfl ?_
      refine ev_inS 4 k_MM_254 h_MM_isSecond rfl rfl rfl rfl ⟨by decide, by decide⟩ rfl ?_
      refine ev_gF3 [] [some 13] rfl ?_
      refine ev_inS 1 k_MM_218 h_MM_isN rfl rfl rfl rfl ⟨by decide, by decide⟩ rfl ?_
      refine ev_g0 rfl ?_
      refine ev_kS 3 k_MM_188 rfl (C_in_0_7) ⟨by decide, by decide⟩ rfl ?_
      refine ev_g0 rfl ?_
      refine ev_retz rfl (by first | decide | exact zb_01 _) ?_
      refine ev_gF3 [true] [] rfl ?_
      refine ev_retz rfl (by first | decide | exact zb_01 _) ?_
      refine ev_g0 rfl ?_
      refine ev_retz rfl (by first | decide | exact zb_01 _) ?_
      first | exact ⟨rfl, rfl⟩ | exact ⟨congrArg (fun z => some (vi (zb z))) lf_F3, rfl⟩
theorem FT_56 {a b c : Int32} : ∃ v : Bool, (∀ μ : mm_M, mm_Det Y_SH_fit [vi (nI 56), vi a, vi b, vi c] μ (some (vi (zb v))) μ) ∧ (∀ μm : mm_M, mm_Det Y_MM_isAct [vi (nI 56), vi a, vi b, vi c] μm (some (vi (zb v))) μm) ∧ (v = true → OKA 56 a b c) := by
  by_cases ha : 0 ≤ a.toInt ∧ a.toInt ≤ 7
  · skip
    by_cases hb : 0 ≤ b.toInt ∧ b.toInt ≤ 7
    · skip
      by_cases hc : 0 ≤ c.toInt ∧ c.toInt ≤ 7
      · skip
        refine ⟨true, ?_, ?_, fun _ => ?_⟩
        · intro μ
          refine det_of h_SH_fit rfl rfl rfl ?_
          refine ev_gF3 [false, true] [] rfl ?_
          refine ev_top2 (a2 := _) (b2 := vi (nI 1)) rfl (congrArg vi (by decide)) ?_
          refine ev_kS 2 k_SH_15 rfl C_fits1 ⟨by decide, by decide⟩ rfl ?_
          refine ev_gF3 [false] [] rfl ?_
          refine ev_top2 (a2 := _) (b2 := vi (nI 4)) rfl (congrArg vi (by decide)) ?_
          refine ev_kS 2 k_SH_15 rfl C_fits4 ⟨by decide, by decide⟩ rfl ?_
          refine ev_gF3 [false] [] rfl ?_
          refine ev_top2 (a2 := _) (b2 := vi (nI 1)) rfl (congrArg vi (by decide)) ?_
          refine ev_kS 2 k_SH_15 rfl C_fits1 ⟨by decide, by decide⟩ rfl ?_
          refine ev_gF3 [true] [] rfl ?_
          refine ev_inS 4 k_SH_19 h_SH_fitsByB rfl rfl rfl rfl ⟨by decide, by decide⟩ rfl ?_
          refine ev_gF3 [true, false, true] [] rfl ?_
          refine ev_retz rfl (by first | decide | exact zb_01 _) ?_
          refine ev_g0 rfl ?_
          refine ev_retz rfl (by first | decide | exact zb_01 _) ?_
          first | exact ⟨rfl, rfl⟩ | exact ⟨congrArg (fun z => some (vi (zb z))) lf_F3, rfl⟩
        · intro μ
          refine det_of h_MM_isAct rfl rfl rfl ?_
          refine ev_g0 rfl ?_
          refine ev_kS 3 k_MM_188 rfl (C_in_0_65) ⟨by decide, by decide⟩ rfl ?_
          refine ev_gF3 [false, true, true, true] [] rfl ?_
          refine ev_inS 4 k_MM_254 h_MM_isSecond rfl rfl rfl rfl ⟨by decide, by decide⟩ rfl ?_
          refine ev_gF3 [] [some 14] rfl ?_
          refine ev_inS 1 k_MM_218 h_MM_isN rfl rfl rfl rfl ⟨by decide, by decide⟩ rfl ?_
          refine ev_g0 rfl ?_
          refine ev_kS 3 k_MM_188 rfl (C_in_0_7) ⟨by decide, by decide⟩ rfl ?_
          refine ev_g0 rfl ?_
          refine ev_retz rfl (by first | decide | exact zb_01 _) ?_
          refine ev_gF3 [false] [] rfl ?_
          refine ev_inS 1 k_MM_218 h_MM_isN rfl rfl rfl rfl ⟨by decide, by decide⟩ rfl ?_
          refine ev_g0 rfl ?_
          refine ev_kS 3 k_MM_188 rfl (C_in_0_7) ⟨by decide, by decide⟩ rfl ?_
          refine ev_g0 rfl ?_
          refine ev_retz rfl (by first | decide | exact zb_01 _) ?_
          refine ev_gF3 [false] [] rfl ?_
          refine ev_inS 1 k_MM_218 h_MM_isN rfl rfl rfl rfl ⟨by decide, by decide⟩ rfl ?_
          refine ev_g0 rfl ?_
          refine ev_kS 3 k_MM_188 rfl (C_in_0_7) ⟨by decide, by decide⟩ rfl ?_
          refine ev_g0 rfl ?_
          refine ev_retz rfl (by first | decide | exact zb_01 _) ?_
          refine ev_gF3 [false] [] rfl ?_
          refine ev_retz rfl (by first | decide | exact zb_01 _) ?_
          refine ev_g0 rfl ?_
          refine ev_retz rfl (by first | decide | exact zb_01 _) ?_
          first | exact ⟨rfl, rfl⟩ | exact ⟨congrArg (fun z => some (vi (zb z))) lf_F3, rfl⟩
        · exact ⟨(nk (n := 8) ha rfl (by decide)), (nk (n := 8) hb rfl (by decide)), (nk (n := 8) hc rfl (by decide))⟩
      · skip
        refine ⟨false, ?_, ?_, fun h => by cases h⟩
        · intro μ
          refine det_of h_SH_fit rfl rfl rfl ?_
          refine ev_gF3 [false, true] [] rfl ?_
          refine ev_top2 (a2 := _) (b2 := vi (nI 1)) rfl (congrArg vi (by decide)) ?_
          refine ev_kS 2 k_SH_15 rfl C_fits1 ⟨by decide, by decide⟩ rfl ?_
          refine ev_gF3 [false] [] rfl ?_
          refine ev_top2 (a2 := _) (b2 := vi (nI 4)) rfl (congrArg vi (by decide)) ?_
          refine ev_kS 2 k_SH_15 rfl C_fits4 ⟨by decide, by decide⟩ rfl ?_
          refine ev_gF3 [false] [] rfl ?_
          refine ev_top2 (a2 := _) (b2 := vi (nI 1)) rfl (congrArg vi (by decide)) ?_
          refine ev_kS 2 k_SH_15 rfl C_fits1 ⟨by decide, by decide⟩ rfl ?_
          refine ev_gF3 [false] [] rfl ?_
          refine ev_retz rfl (by first | decide | exact zb_01 _) ?_
          first | exact ⟨rfl, rfl⟩ | exact ⟨congrArg (fun z => some (vi (zb z))) lf_F3, rfl⟩
        · intro μ
          refine det_of h_MM_isAct rfl rfl rfl ?_
          refine ev_g0 rfl ?_
          refine ev_kS 3 k_MM_188 rfl (C_in_0_65) ⟨by decide, by decide⟩ rfl ?_
          refine ev_gF3 [false, true, true, true] [] rfl ?_
          refine ev_inS 4 k_MM_254 h_MM_isSecond rfl rfl rfl rfl ⟨by decide, by decide⟩ rfl ?_
          refine ev_gF3 [] [some 14] rfl ?_
          refine ev_inS 1 k_MM_218 h_MM_isN rfl rfl rfl rfl ⟨by decide, by decide⟩ rfl ?_
          refine ev_g0 rfl ?_
          refine ev_kS 3 k_MM_188 rfl (C_in_0_7) ⟨by decide, by decide⟩ rfl ?_
          refine ev_g0 rfl ?_
          refine ev_retz rfl (by first | decide | exact zb_01 _) ?_
          refine ev_gF3 [false] [] rfl ?_
          refine ev_inS 1 k_MM_218 h_MM_isN rfl rfl rfl rfl ⟨by decide, by decide⟩ rfl ?_
          refine ev_g0 rfl ?_
          refine ev_kS 3 k_MM_188 rfl (C_in_0_7) ⟨by decide, by decide⟩ rfl ?_
          refine ev_g0 rfl ?_
          refine ev_retz rfl (by first | decide | exact zb_01 _) ?_
          refine ev_gF3 [false] [] rfl ?_
          refine ev_inS 1 k_MM_218 h_MM_isN rfl rfl rfl rfl ⟨by decide, by decide⟩ rfl ?_
          refine ev_g0 rfl ?_
          refine ev_kS 3 k_MM_188 rfl (C_in_0_7) ⟨by decide, by decide⟩ rfl ?_
          refine ev_g0 rfl ?_
          refine ev_retz rfl (by first | decide | exact zb_01 _) ?_
          refine ev_gF3 [true] [] rfl ?_
          refine ev_retz rfl (by first | decide | exact zb_01 _) ?_
          refine ev_g0 rfl ?_
          refine ev_retz rfl (by first | decide | exact zb_01 _) ?_
          first | exact ⟨rfl, rfl⟩ | exact ⟨congrArg (fun z => some (vi (zb z))) lf_F3, rfl⟩
    · skip
      refine ⟨false, ?_, ?_, fun h => by cases h⟩
      · intro μ
        refine det_of h_SH_fit rfl rfl rfl ?_
        refine ev_gF3 [false, true] [] rfl ?_
        refine ev_top2 (a2 := _) (b2 := vi (nI 1)) rfl (congrArg vi (by decide)) ?_
        refine ev_kS 2 k_SH_15 rfl C_fits1 ⟨by decide, by decide⟩ rfl ?_
        refine ev_gF3 [false] [] rfl ?_
        refine ev_top2 (a2 := _) (b2 := vi (nI 4)) rfl (congrArg vi (by decide)) ?_
        refine ev_kS 2 k_SH_15 rfl C_fits4 ⟨by decide, by decide⟩ rfl ?_
        refine ev_gF3 [true] [] rfl ?_
        refine ev_retz rfl (by first | decide | exact zb_01 _) ?_
        first | exact ⟨rfl, rfl⟩ | exact ⟨congrArg (fun z => some (vi (zb z))) lf_F3, rfl⟩
      · intro μ
        refine det_of h_MM_isAct rfl rfl rfl ?_
        refine ev_g0 rfl ?_
        refine ev_kS 3 k_MM_188 rfl (C_in_0_65) ⟨by decide, by decide⟩ rfl ?_
        refine ev_gF3 [false, true, true, true] [] rfl ?_
        refine ev_inS 4 k_MM_254 h_MM_isSecond rfl rfl rfl rfl ⟨by decide, by decide⟩ rfl ?_
        refine ev_gF3 [] [some 14] rfl ?_
        refine ev_inS 1 k_MM_218 h_MM_isN rfl rfl rfl rfl ⟨by decide, by decide⟩ rfl ?_
        refine ev_g0 rfl ?_
        refine ev_kS 3 k_MM_188 rfl (C_in_0_7) ⟨by decide, by decide⟩ rfl ?_
        refine ev_g0 rfl ?_
        refine ev_retz rfl (by first | decide | exact zb_01 _) ?_
        refine ev_gF3 [false] [] rfl ?_
        refine ev_inS 1 k_MM_218 h_MM_isN rfl rfl rfl rfl ⟨by decide, by decide⟩ rfl ?_
        refine ev_g0 rfl ?_
        refine ev_kS 3 k_MM_188 rfl (C_in_0_7) ⟨by decide, by decide⟩ rfl ?_
        refine ev_g0 rfl ?_
        refine ev_retz rfl (by first | decide | exact zb_01 _) ?_
        refine ev_gF3 [true] [] rfl ?_
        refine ev_retz rfl (by first | decide | exact zb_01 _) ?_
        refine ev_g0 rfl ?_
        refine ev_retz rfl (by first | decide | exact zb_01 _) ?_
        first | exact ⟨rfl, rfl⟩ | exact ⟨congrArg (fun z => some (vi (zb z))) lf_F3, rfl⟩
  · skip
    refine ⟨false, ?_, ?_, fun h => by cases h⟩
    · intro μ
      refine det_of h_SH_fit rfl rfl rfl ?_
      refine ev_gF3 [false, true] [] rfl ?_
      refine ev_top2 (a2 := _) (b2 := vi (nI 1)) rfl (congrArg vi (by decide)) ?_
      refine ev_kS 2 k_SH_15 rfl C_fits1 ⟨by decide, by decide⟩ rfl ?_
      refine ev_gF3 [true] [] rfl ?_
      refine ev_retz rfl (by first | decide | exact zb_01 _) ?_
      first | exact ⟨rfl, rfl⟩ | exact ⟨congrArg (fun z => some (vi (zb z))) lf_F3, rfl⟩
    · intro μ
      refine det_of h_MM_isAct rfl rfl rfl ?_
      refine ev_g0 rfl ?_
      refine ev_kS 3 k_MM_188 rfl (C_in_0_65) ⟨by decide, by decide⟩ rfl ?_
      refine ev_gF3 [false, true, true, true] [] rfl ?_
      refine ev_inS 4 k_MM_254 h_MM_isSecond rfl rfl rfl rfl ⟨by decide, by decide⟩ rfl ?_
      refine ev_gF3 [] [some 14] rfl ?_
      refine ev_inS 1 k_MM_218 h_MM_isN rfl rfl rfl rfl ⟨by decide, by decide⟩ rfl ?_
      refine ev_g0 rfl ?_
      refine ev_kS 3 k_MM_188 rfl (C_in_0_7) ⟨by decide, by decide⟩ rfl ?_
      refine ev_g0 rfl ?_
      refine ev_retz rfl (by first | decide | exact zb_01 _) ?_
      refine ev_gF3 [true] [] rfl ?_
      refine ev_retz rfl (by first | decide | exact zb_01 _) ?_
      refine ev_g0 rfl ?_
      refine ev_retz rfl (by first | decide | exact zb_01 _) ?_
      first | exact ⟨rfl, rfl⟩ | exact ⟨congrArg (fun z => some (vi (zb z))) lf_F3, rfl⟩
theorem FT_57 {a b c : Int32} : ∃ v : Bool, (∀ μ : mm_M, mm_Det Y_SH_fit [vi (nI 57), vi a, vi b, vi c] μ (some (vi (zb v))) μ) ∧ (∀ μm : mm_M, mm_Det Y_MM_isAct [vi (nI 57), vi a, vi b, vi c] μm (some (vi (zb v))) μm) ∧ (v = true → OKA 57 a b c) := by
  by_cases ha : 0 ≤ a.toInt ∧ a.toInt ≤ 3
  · skip
    by_cases hb : 0 ≤ b.toInt ∧ b.toInt ≤ 7
    · skip
      refine ⟨true, ?_, ?_, fun _ => ?_⟩
      · intro μ
        refine det_of h_SH_fit rfl rfl rfl ?_
        refine ev_gF3 [false, true] [] rfl ?_
        refine ev_top2 (a2 := _) (b2 := vi (nI 2)) rfl (congrArg vi (by decide)) ?_
        refine ev_kS 2 k_SH_15 rfl C_fits2 ⟨by decide, by decide⟩ rfl ?_
        refine ev_gF3 [false] [] rfl ?_
        refine ev_top2 (a2 := _) (b2 := vi (nI 4)) rfl (congrArg vi (by decide)) ?_
        refine ev_kS 2 k_SH_15 rfl C_fits4 ⟨by decide, by decide⟩ rfl ?_
        refine ev_gF3 [false] [] rfl ?_
        refine ev_top2 (a2 := _) (b2 := vi (nI 0)) rfl (congrArg vi (by decide)) ?_
        refine ev_kS 2 k_SH_15 rfl C_fits0 ⟨by decide, by decide⟩ rfl ?_
        refine ev_gF3 [true] [] rfl ?_
        refine ev_inS 4 k_SH_19 h_SH_fitsByB rfl rfl rfl rfl ⟨by decide, by decide⟩ rfl ?_
        refine ev_gF3 [true, false, true] [] rfl ?_
        refine ev_retz rfl (by first | decide | exact zb_01 _) ?_
        refine ev_g0 rfl ?_
        refine ev_retz rfl (by first | decide | exact zb_01 _) ?_
        first | exact ⟨rfl, rfl⟩ | exact ⟨congrArg (fun z => some (vi (zb z))) lf_F3, rfl⟩
      · intro μ
        refine det_of h_MM_isAct rfl rfl rfl ?_
        refine ev_g0 rfl ?_
        refine ev_kS 3 k_MM_188 rfl (C_in_0_65) ⟨by decide, by decide⟩ rfl ?_
        refine ev_gF3 [false, true, true, true] [] rfl ?_
        refine ev_inS 4 k_MM_254 h_MM_isSecond rfl rfl rfl rfl ⟨by decide, by decide⟩ rfl ?_
        refine ev_gF3 [] [some 15] rfl ?_
        refine ev_inS 1 k_MM_214 h_MM_isX rfl rfl rfl rfl ⟨by decide, by decide⟩ rfl ?_
        refine ev_g0 rfl ?_
        refine ev_kS 3 k_MM_188 rfl (C_in_0_3) ⟨by decide, by decide⟩ rfl ?_
        refine ev_g0 rfl ?_
        refine ev_retz rfl (by first | decide | exact zb_01 _) ?_
        refine ev_gF3 [false] [] rfl ?_
        refine ev_inS 1 k_MM_218 h_MM_isN rfl rfl rfl rfl ⟨by decide, by decide⟩ rfl ?_
        refine ev_g0 rfl ?_
        refine ev_kS 3 k_MM_188 rfl (C_in_0_7) ⟨by decide, by decide⟩ rfl ?_
        refine ev_g0 rfl ?_
        refine ev_retz rfl (by first | decide | exact zb_01 _) ?_
        refine ev_gF3 [false] [] rfl ?_
        refine ev_retz rfl (by first | decide | exact zb_01 _) ?_
        refine ev_g0 rfl ?_
        refine ev_retz rfl (by first | decide | exact zb_01 _) ?_
        first | exact ⟨rfl, rfl⟩ | exact ⟨congrArg (fun z => some (vi (zb z))) lf_F3, rfl⟩
      · exact ⟨(nk (n := 4) ha rfl (by decide)), (nk (n := 8) hb rfl (by decide))⟩
    · skip
      refine ⟨false, ?_, ?_, fun h => by cases h⟩
      · intro μ
        refine det_of h_SH_fit rfl rfl rfl ?_
        refine ev_gF3 [false, true] [] rfl ?_
        refine ev_top2 (a2 := _) (b2 := vi (nI 2)) rfl (congrArg vi (by decide)) ?_
        refine ev_kS 2 k_SH_15 rfl C_fits2 ⟨by decide, by decide⟩ rfl ?_
        refine ev_gF3 [false] [] rfl ?_
        refine ev_top2 (a2 := _) (b2 := vi (nI 4)) rfl (congrArg vi (by decide)) ?_
        refine ev_kS 2 k_SH_15 rfl C_fits4 ⟨by decide, by decide⟩ rfl ?_
        refine ev_gF3 [true] [] rfl ?_
        refine ev_retz rfl (by first | decide | exact zb_01 _) ?_
        first | exact ⟨rfl, rfl⟩ | exact ⟨congrArg (fun z => some (vi (zb z))) lf_F3, rfl⟩
      · intro μ
        refine det_of h_MM_isAct rfl rfl rfl ?_
        refine ev_g0 rfl ?_
        refine ev_kS 3 k_MM_188 rfl (C_in_0_65) ⟨by decide, by decide⟩ rfl ?_
        refine ev_gF3 [false, true, true, true] [] rfl ?_
        refine ev_inS 4 k_MM_254 h_MM_isSecond rfl rfl rfl rfl ⟨by decide, by decide⟩ rfl ?_
        refine ev_gF3 [] [some 15] rfl ?_
        refine ev_inS 1 k_MM_214 h_MM_isX rfl rfl rfl rfl ⟨by decide, by decide⟩ rfl ?_
        refine ev_g0 rfl ?_
        refine ev_kS 3 k_MM_188 rfl (C_in_0_3) ⟨by decide, by decide⟩ rfl ?_
        refine ev_g0 rfl ?_
        refine ev_retz rfl (by first | decide | exact zb_01 _) ?_
        refine ev_gF3 [false] [] rfl ?_
        refine ev_inS 1 k_MM_218 h_MM_isN rfl rfl rfl rfl ⟨by decide, by decide⟩ rfl ?_
        refine ev_g0 rfl ?_
        refine ev_kS 3 k_MM_188 rfl (C_in_0_7) ⟨by decide, by decide⟩ rfl ?_
        refine ev_g0 rfl ?_
        refine ev_retz rfl (by first | decide | exact zb_01 _) ?_
        refine ev_gF3 [true] [] rfl ?_
        refine ev_retz rfl (by first | decide | exact zb_01 _) ?_
        refine ev_g0 rfl ?_
        refine ev_retz rfl (by first | decide | exact zb_01 _) ?_
        first | exact ⟨rfl, rfl⟩ | exact ⟨congrArg (fun z => some (vi (zb z))) lf_F3, rfl⟩
  · skip
    refine ⟨false, ?_, ?_, fun h => by cases h⟩
    · intro μ
      refine det_of h_SH_fit rfl rfl rfl ?_
      refine ev_gF3 [false, true] [] rfl ?_
      refine ev_top2 (a2 := _) (b2 := vi (nI 2)) rfl (congrArg vi (by decide)) ?_
      refine ev_kS 2 k_SH_15 rfl C_fits2 ⟨by decide, by decide⟩ rfl ?_
      refine ev_gF3 [true] [] rfl ?_
      refine ev_retz rfl (by first | decide | exact zb_01 _) ?_
      first | exact ⟨rfl, rfl⟩ | exact ⟨congrArg (fun z => some (vi (zb z))) lf_F3, rfl⟩
    · intro μ
      refine det_of h_MM_isAct rfl rfl rfl ?_
      refine ev_g0 rfl ?_
      refine ev_kS 3 k_MM_188 rfl (C_in_0_65) ⟨by decide, by decide⟩ rfl ?_
      refine ev_gF3 [false, true, true, true] [] rfl ?_
      refine ev_inS 4 k_MM_254 h_MM_isSecond rfl rfl rfl rfl ⟨by decide, by decide⟩ rfl ?_
      refine ev_gF3 [] [some 15] rfl ?_
      refine ev_inS 1 k_MM_214 h_MM_isX rfl rfl rfl rfl ⟨by decide, by decide⟩ rfl ?_
      refine ev_g0 rfl ?_
      refine ev_kS 3 k_MM_188 rfl (C_in_0_3) ⟨by decide, by decide⟩ rfl ?_
      refine ev_g0 rfl ?_
      refine ev_retz rfl (by first | decide | exact zb_01 _) ?_
      refine ev_gF3 [true] [] rfl ?_
      refine ev_retz rfl (by first | decide | exact zb_01 _) ?_
      refine ev_g0 rfl ?_
      refine ev_retz rfl (by first | decide | exact zb_01 _) ?_
      first | exact ⟨rfl, rfl⟩ | exact ⟨congrArg (fun z => some (vi (zb z))) lf_F3, rfl⟩
theorem FT_58 {a b c : Int32} : ∃ v : Bool, (∀ μ : mm_M, mm_Det Y_SH_fit [vi (nI 58), vi a, vi b, vi c] μ (some (vi (zb v))) μ) ∧ (∀ μm : mm_M, mm_Det Y_MM_isAct [vi (nI 58), vi a, vi b, vi c] μm (some (vi (zb v))) μm) ∧ (v = true → OKA 58 a b c) := by
  by_cases hb : b.toInt = -1 ∨ (20 ≤ b.toInt ∧ b.toInt ≤ 29)
  · skip
    refine ⟨true, ?_, ?_, fun _ => ?_⟩
    · intro μ
      refine det_of h_SH_fit rfl rfl rfl ?_
      refine ev_gF3 [false, true] [] rfl ?_
      refine ev_top2 (a2 := _) (b2 := vi (nI 0)) rfl (congrArg vi (by decide)) ?_
      refine ev_kS 2 k_SH_15 rfl C_fits0 ⟨by decide, by decide⟩ rfl ?_
      refine ev_gF3 [false] [] rfl ?_
      refine ev_top2 (a2 := _) (b2 := vi (nI 17)) rfl (congrArg vi (by decide)) ?_
      refine ev_kS 2 k_SH_15 rfl C_fits17 ⟨by decide, by decide⟩ rfl ?_
      refine ev_gF3 [false] [] rfl ?_
      refine ev_top2 (a2 := _) (b2 := vi (nI 0)) rfl (congrArg vi (by decide)) ?_
      refine ev_kS 2 k_SH_15 rfl C_fits0 ⟨by decide, by decide⟩ rfl ?_
      refine ev_gF3 [true] [] rfl ?_
      refine ev_inS 4 k_SH_19 h_SH_fitsByB rfl rfl rfl rfl ⟨by decide, by decide⟩ rfl ?_
      refine ev_gF3 [true, false, true] [] rfl ?_
      refine ev_retz rfl (by first | decide | exact zb_01 _) ?_
      refine ev_g0 rfl ?_
      refine ev_retz rfl (by first | decide | exact zb_01 _) ?_
      first | exact ⟨rfl, rfl⟩ | exact ⟨congrArg (fun z => some (vi (zb z))) lf_F3, rfl⟩
    · intro μ
      refine det_of h_MM_isAct rfl rfl rfl ?_
      refine ev_g0 rfl ?_
      refine ev_kS 3 k_MM_188 rfl (C_in_0_65) ⟨by decide, by decide⟩ rfl ?_
      refine ev_gF3 [false, true, true, true] [] rfl ?_
      refine ev_inS 4 k_MM_254 h_MM_isSecond rfl rfl rfl rfl ⟨by decide, by decide⟩ rfl ?_
      refine ev_gF3 [] [some 16] rfl ?_
      refine ev_bF3 rfl rfl (fun h_1 => ?_) (fun h_1 => ?_)
      · skip
        refine ev_g0 rfl ?_
        refine ev_retz rfl (by first | decide | exact zb_01 _) ?_
        refine ev_g0 rfl ?_
        refine ev_retz rfl (by first | decide | exact zb_01 _) ?_
        first | exact ⟨rfl, rfl⟩ | exact ⟨congrArg (fun z => some (vi (zb z))) lf_F3, rfl⟩
      · skip
        refine ev_g0 rfl ?_
        refine ev_kS 3 k_MM_188 rfl (C_in_20_29) ⟨by decide, by decide⟩ rfl ?_
        refine ev_gF3 [false] [] rfl ?_
        refine ev_retz rfl (by first | decide | exact zb_01 _) ?_
        refine ev_g0 rfl ?_
        refine ev_retz rfl (by first | decide | exact zb_01 _) ?_
        first | exact ⟨rfl, rfl⟩ | exact ⟨congrArg (fun z => some (vi (zb z))) lf_F3, rfl⟩
    · rcases hb with hb | hb
      · exact Or.inl (by apply Int32.toInt_inj.mp; rw [hb]; decide)
      · obtain ⟨n, hn, e⟩ := nk (n := 30) (v := b) (lo := 0) (hi := 29) ⟨by omega, hb.2⟩ rfl (by decide)
        refine Or.inr ⟨n, ?_, hn, e⟩
        have := hb.1
        rw [e, nI_toInt (by omega)] at this
        omega
  · skip
    refine ⟨false, ?_, ?_, fun h => by cases h⟩
    · intro μ
      refine det_of h_SH_fit rfl rfl rfl ?_
      refine ev_gF3 [false, true] [] rfl ?_
      refine ev_top2 (a2 := _) (b2 := vi (nI 0)) rfl (congrArg vi (by decide)) ?_
      refine ev_kS 2 k_SH_15 rfl C_fits0 ⟨by decide, by decide⟩ rfl ?_
      refine ev_gF3 [false] [] rfl ?_
      refine ev_top2 (a2 := _) (b2 := vi (nI 17)) rfl (congrArg vi (by decide)) ?_
      refine ev_kS 2 k_SH_15 rfl C_fits17 ⟨by decide, by decide⟩ rfl ?_
      refine ev_gF3 [true] [] rfl ?_
      refine ev_retz rfl (by first | decide | exact zb_01 _) ?_
      first | exact ⟨rfl, rfl⟩ | exact ⟨congrArg (fun z => some (vi (zb z))) lf_F3, rfl⟩
    · intro μ
      refine det_of h_MM_isAct rfl rfl rfl ?_
      refine ev_g0 rfl ?_
      refine ev_kS 3 k_MM_188 rfl (C_in_0_65) ⟨by decide, by decide⟩ rfl ?_
      refine ev_gF3 [false, true, true, true] [] rfl ?_
      refine ev_inS 4 k_MM_254 h_MM_isSecond rfl rfl rfl rfl ⟨by decide, by decide⟩ rfl ?_
      refine ev_gF3 [false] [some 16] rfl ?_
      refine ev_kS 3 k_MM_188 rfl (C_in_20_29) ⟨by decide, by decide⟩ rfl ?_
      refine ev_gF3 [true] [] rfl ?_
      refine ev_retz rfl (by first | decide | exact zb_01 _) ?_
      refine ev_g0 rfl ?_
      refine ev_retz rfl (by first | decide | exact zb_01 _) ?_
      first | exact ⟨rfl, rfl⟩ | exact ⟨congrArg (fun z => some (vi (zb z))) lf_F3, rfl⟩
theorem FT_59 {a b c : Int32} : ∃ v : Bool, (∀ μ : mm_M, mm_Det Y_SH_fit [vi (nI 59), vi a, vi b, vi c] μ (some (vi (zb v))) μ) ∧ (∀ μm : mm_M, mm_Det Y_MM_isAct [vi (nI 59), vi a, vi b, vi c] μm (some (vi (zb v))) μm) ∧ (v = true → OKA 59 a b c) := by
  by_cases ha : 0 ≤ a.toInt ∧ a.toInt ≤ 39
  · skip
    refine ⟨true, ?_, ?_, fun _ => ?_⟩
    · intro μ
      refine det_of h_SH_fit rfl rfl rfl ?_
      refine ev_gF3 [false, true] [] rfl ?_
      refine ev_top2 (a2 := _) (b2 := vi (nI 5)) rfl (congrArg vi (by decide)) ?_
      refine ev_kS 2 k_SH_15 rfl C_fits5 ⟨by decide, by decide⟩ rfl ?_
      refine ev_gF3 [false] [] rfl ?_
      refine ev_top2 (a2 := _) (b2 := vi (nI 0)) rfl (congrArg vi (by decide)) ?_
      refine ev_kS 2 k_SH_15 rfl C_fits0 ⟨by decide, by decide⟩ rfl ?_
      refine ev_gF3 [false] [] rfl ?_
      refine ev_top2 (a2 := _) (b2 := vi (nI 0)) rfl (congrArg vi (by decide)) ?_
      refine ev_kS 2 k_SH_15 rfl C_fits0 ⟨by decide, by decide⟩ rfl ?_
      refine ev_gF3 [true] [] rfl ?_
      refine ev_inS 4 k_SH_19 h_SH_fitsByB rfl rfl rfl rfl ⟨by decide, by decide⟩ rfl ?_
      refine ev_gF3 [true, false, true] [] rfl ?_
      refine ev_retz rfl (by first | decide | exact zb_01 _) ?_
      refine ev_g0 rfl ?_
      refine ev_retz rfl (by first | decide | exact zb_01 _) ?_
      first | exact ⟨rfl, rfl⟩ | exact ⟨congrArg (fun z => some (vi (zb z))) lf_F3, rfl⟩
    · intro μ
      refine det_of h_MM_isAct rfl rfl rfl ?_
      refine ev_g0 rfl ?_
      refine ev_kS 3 k_MM_188 rfl (C_in_0_65) ⟨by decide, by decide⟩ rfl ?_
      refine ev_gF3 [false, true, true, true] [] rfl ?_
      refine ev_inS 4 k_MM_254 h_MM_isSecond rfl rfl rfl rfl ⟨by decide, by decide⟩ rfl ?_
      refine ev_gF3 [] [some 17] rfl ?_
      refine ev_inS 1 k_MM_245 h_MM_isPlace rfl rfl rfl rfl ⟨by decide, by decide⟩ rfl ?_
      refine ev_g0 rfl ?_
      refine ev_kS 3 k_MM_188 rfl (C_in_0_39) ⟨by decide, by decide⟩ rfl ?_
      refine ev_g0 rfl ?_
      refine ev_retz rfl (by first | decide | exact zb_01 _) ?_
      refine ev_g0 rfl ?_
      refine ev_retz rfl (by first | decide | exact zb_01 _) ?_
      refine ev_g0 rfl ?_
      refine ev_retz rfl (by first | decide | exact zb_01 _) ?_
      first | exact ⟨rfl, rfl⟩ | exact ⟨congrArg (fun z => some (vi (zb z))) lf_F3, rfl⟩
    · exact (nk (n := 40) ha rfl (by decide))
  · skip
    refine ⟨false, ?_, ?_, fun h => by cases h⟩
    · intro μ
      refine det_of h_SH_fit rfl rfl rfl ?_
      refine ev_gF3 [false, true] [] rfl ?_
      refine ev_top2 (a2 := _) (b2 := vi (nI 5)) rfl (congrArg vi (by decide)) ?_
      refine ev_kS 2 k_SH_15 rfl C_fits5 ⟨by decide, by decide⟩ rfl ?_
      refine ev_gF3 [true] [] rfl ?_
      refine ev_retz rfl (by first | decide | exact zb_01 _) ?_
      first | exact ⟨rfl, rfl⟩ | exact ⟨congrArg (fun z => some (vi (zb z))) lf_F3, rfl⟩
    · intro μ
      refine det_of h_MM_isAct rfl rfl rfl ?_
      refine ev_g0 rfl ?_
      refine ev_kS 3 k_MM_188 rfl (C_in_0_65) ⟨by decide, by decide⟩ rfl ?_
      refine ev_gF3 [false, true, true, true] [] rfl ?_
      refine ev_inS 4 k_MM_254 h_MM_isSecond rfl rfl rfl rfl ⟨by decide, by decide⟩ rfl ?_
      refine ev_gF3 [] [some 17] rfl ?_
      refine ev_inS 1 k_MM_245 h_MM_isPlace rfl rfl rfl rfl ⟨by decide, by decide⟩ rfl ?_
      refine ev_g0 rfl ?_
      refine ev_kS 3 k_MM_188 rfl (C_in_0_39) ⟨by decide, by decide⟩ rfl ?_
      refine ev_g0 rfl ?_
      refine ev_retz rfl (by first | decide | exact zb_01 _) ?_
      refine ev_g0 rfl ?_
      refine ev_retz rfl (by first | decide | exact zb_01 _) ?_
      refine ev_g0 rfl ?_
      refine ev_retz rfl (by first | decide | exact zb_01 _) ?_
      first | exact ⟨rfl, rfl⟩ | exact ⟨congrArg (fun z => some (vi (zb z))) lf_F3, rfl⟩
theorem FT_60 {a b c : Int32} : ∃ v : Bool, (∀ μ : mm_M, mm_Det Y_SH_fit [vi (nI 60), vi a, vi b, vi c] μ (some (vi (zb v))) μ) ∧ (∀ μm : mm_M, mm_Det Y_MM_isAct [vi (nI 60), vi a, vi b, vi c] μm (some (vi (zb v))) μm) ∧ (v = true → OKA 60 a b c) := by
  by_cases ha : 0 ≤ a.toInt ∧ a.toInt ≤ 39
  · skip
    by_cases hb : 0 ≤ b.toInt ∧ b.toInt ≤ 7
    · skip
      by_cases hc : 0 ≤ c.toInt ∧ c.toInt ≤ 3
      · skip
        refine ⟨true, ?_, ?_, fun _ => ?_⟩
        · intro μ
          refine det_of h_SH_fit rfl rfl rfl ?_
          refine ev_gF3 [false, true] [] rfl ?_
          refine ev_top2 (a2 := _) (b2 := vi (nI 5)) rfl (congrArg vi (by decide)) ?_
          refine ev_kS 2 k_SH_15 rfl C_fits5 ⟨by decide, by decide⟩ rfl ?_
          refine ev_gF3 [false] [] rfl ?_
          refine ev_top2 (a2 := _) (b2 := vi (nI 1)) rfl (congrArg vi (by decide)) ?_
          refine ev_kS 2 k_SH_15 rfl C_fits1 ⟨by decide, by decide⟩ rfl ?_
          refine ev_gF3 [false] [] rfl ?_
          refine ev_top2 (a2 := _) (b2 := vi (nI 18)) rfl (congrArg vi (by decide)) ?_
          refine ev_kS 2 k_SH_15 rfl C_fits18 ⟨by decide, by decide⟩ rfl ?_
          refine ev_gF3 [true] [] rfl ?_
          refine ev_inS 4 k_SH_19 h_SH_fitsByB rfl rfl rfl rfl ⟨by decide, by decide⟩ rfl ?_
          refine ev_gF3 [true, false, true] [] rfl ?_
          refine ev_retz rfl (by first | decide | exact zb_01 _) ?_
          refine ev_g0 rfl ?_
          refine ev_retz rfl (by first | decide | exact zb_01 _) ?_
          first | exact ⟨rfl, rfl⟩ | exact ⟨congrArg (fun z => some (vi (zb z))) lf_F3, rfl⟩
        · intro μ
          refine det_of h_MM_isAct rfl rfl rfl ?_
          refine ev_g0 rfl ?_
          refine ev_kS 3 k_MM_188 rfl (C_in_0_65) ⟨by decide, by decide⟩ rfl ?_
          refine ev_gF3 [false, true, true, true] [] rfl ?_
          refine ev_inS 4 k_MM_254 h_MM_isSecond rfl rfl rfl rfl ⟨by decide, by decide⟩ rfl ?_
          refine ev_gF3 [] [some 18] rfl ?_
          refine ev_inS 1 k_MM_245 h_MM_isPlace rfl rfl rfl rfl ⟨by decide, by decide⟩ rfl ?_
          refine ev_g0 rfl ?_
          refine ev_kS 3 k_MM_188 rfl (C_in_0_39) ⟨by decide, by decide⟩ rfl ?_
          refine ev_g0 rfl ?_
          refine ev_retz rfl (by first | decide | exact zb_01 _) ?_
          refine ev_gF3 [false] [] rfl ?_
          refine ev_inS 1 k_MM_218 h_MM_isN rfl rfl rfl rfl ⟨by decide, by decide⟩ rfl ?_
          refine ev_g0 rfl ?_
          refine ev_kS 3 k_MM_188 rfl (C_in_0_7) ⟨by decide, by decide⟩ rfl ?_
          refine ev_g0 rfl ?_
          refine ev_retz rfl (by first | decide | exact zb_01 _) ?_
          refine ev_gF3 [false] [] rfl ?_
          refine ev_kS 3 k_MM_188 rfl (C_in_0_3) ⟨by decide, by decide⟩ rfl ?_
          refine ev_gF3 [false] [] rfl ?_
          refine ev_retz rfl (by first | decide | exact zb_01 _) ?_
          refine ev_g0 rfl ?_
          refine ev_retz rfl (by first | decide | exact zb_01 _) ?_
          first | exact ⟨rfl, rfl⟩ | exact ⟨congrArg (fun z => some (vi (zb z))) lf_F3, rfl⟩
        · exact ⟨(nk (n := 40) ha rfl (by decide)), (nk (n := 8) hb rfl (by decide)), (nk (n := 4) hc rfl (by decide))⟩
      · skip
        refine ⟨false, ?_, ?_, fun h => by cases h⟩
        · intro μ
          refine det_of h_SH_fit rfl rfl rfl ?_
          refine ev_gF3 [false, true] [] rfl ?_
          refine ev_top2 (a2 := _) (b2 := vi (nI 5)) rfl (congrArg vi (by decide)) ?_
          refine ev_kS 2 k_SH_15 rfl C_fits5 ⟨by decide, by decide⟩ rfl ?_
          refine ev_gF3 [false] [] rfl ?_
          refine ev_top2 (a2 := _) (b2 := vi (nI 1)) rfl (congrArg vi (by decide)) ?_
          refine ev_kS 2 k_SH_15 rfl C_fits1 ⟨by decide, by decide⟩ rfl ?_
          refine ev_gF3 [false] [] rfl ?_
          refine ev_top2 (a2 := _) (b2 := vi (nI 18)) rfl (congrArg vi (by decide)) ?_
          refine ev_kS 2 k_SH_15 rfl C_fits18 ⟨by decide, by decide⟩ rfl ?_
          refine ev_gF3 [false] [] rfl ?_
          refine ev_retz rfl (by first | decide | exact zb_01 _) ?_
          first | exact ⟨rfl, rfl⟩ | exact ⟨congrArg (fun z => some (vi (zb z))) lf_F3, rfl⟩
        · intro μ
          refine det_of h_MM_isAct rfl rfl rfl ?_
          refine ev_g0 rfl ?_
          refine ev_kS 3 k_MM_188 rfl (C_in_0_65) ⟨by decide, by decide⟩ rfl ?_
          refine ev_gF3 [false, true, true, true] [] rfl ?_
          refine ev_inS 4 k_MM_254 h_MM_isSecond rfl rfl rfl rfl ⟨by decide, by decide⟩ rfl ?_
          refine ev_gF3 [] [some 18] rfl ?_
          refine ev_inS 1 k_MM_245 h_MM_isPlace rfl rfl rfl rfl ⟨by decide, by decide⟩ rfl ?_
          refine ev_g0 rfl ?_
          refine ev_kS 3 k_MM_188 rfl (C_in_0_39) ⟨by decide, by decide⟩ rfl ?_
          refine ev_g0 rfl ?_
          refine ev_retz rfl (by first | decide | exact zb_01 _) ?_
          refine ev_gF3 [false] [] rfl ?_
          refine ev_inS 1 k_MM_218 h_MM_isN rfl rfl rfl rfl ⟨by decide, by decide⟩ rfl ?_
          refine ev_g0 rfl ?_
          refine ev_kS 3 k_MM_188 rfl (C_in_0_7) ⟨by decide, by decide⟩ rfl ?_
          refine ev_g0 rfl ?_
          refine ev_retz rfl (by first | decide | exact zb_01 _) ?_
          refine ev_gF3 [false] [] rfl ?_
          refine ev_kS 3 k_MM_188 rfl (C_in_0_3) ⟨by decide, by decide⟩ rfl ?_
          refine ev_gF3 [true] [] rfl ?_
          refine ev_retz rfl (by first | decide | exact zb_01 _) ?_
          refine ev_g0 rfl ?_
          refine ev_retz rfl (by first | decide | exact zb_01 _) ?_
          first | exact ⟨rfl, rfl⟩ | exact ⟨congrArg (fun z => some (vi (zb z))) lf_F3, rfl⟩
    · skip
      refine ⟨false, ?_, ?_, fun h => by cases h⟩
      · intro μ
        refine det_of h_SH_fit rfl rfl rfl ?_
        refine ev_gF3 [false, true] [] rfl ?_
        refine ev_top2 (a2 := _) (b2 := vi (nI 5)) rfl (congrArg vi (by decide)) ?_
        refine ev_kS 2 k_SH_15 rfl C_fits5 ⟨by decide, by decide⟩ rfl ?_
        refine ev_gF3 [false] [] rfl ?_
        refine ev_top2 (a2 := _) (b2 := vi (nI 1)) rfl (congrArg vi (by decide)) ?_
        refine ev_kS 2 k_SH_15 rfl C_fits1 ⟨by decide, by decide⟩ rfl ?_
        refine ev_gF3 [true] [] rfl ?_
        refine ev_retz rfl (by first | decide | exact zb_01 _) ?_
        first | exact ⟨rfl, rfl⟩ | exact ⟨congrArg (fun z => some (vi (zb z))) lf_F3, rfl⟩
      · intro μ
        refine det_of h_MM_isAct rfl rfl rfl ?_
        refine ev_g0 rfl ?_
        refine ev_kS 3 k_MM_188 rfl (C_in_0_65) ⟨by decide, by decide⟩ rfl ?_
        refine ev_gF3 [false, true, true, true] [] rfl ?_
        refine ev_inS 4 k_MM_254 h_MM_isSecond rfl rfl rfl rfl ⟨by decide, by decide⟩ rfl ?_
        refine ev_gF3 [] [some 18] rfl ?_
        refine ev_inS 1 k_MM_245 h_MM_isPlace rfl rfl rfl rfl ⟨by decide, by decide⟩ rfl ?_
        refine ev_g0 rfl ?_
        refine ev_kS 3 k_MM_188 rfl (C_in_0_39) ⟨by decide, by decide⟩ rfl ?_
        refine ev_g0 rfl ?_
        refine ev_retz rfl (by first | decide | exact zb_01 _) ?_
        refine ev_gF3 [false] [] rfl ?_
        refine ev_inS 1 k_MM_218 h_MM_isN rfl rfl rfl rfl ⟨by decide, by decide⟩ rfl ?_
        refine ev_g0 rfl ?_
        refine ev_kS 3 k_MM_188 rfl (C_in_0_7) ⟨by decide, by decide⟩ rfl ?_
        refine ev_g0 rfl ?_
        refine ev_retz rfl (by first | decide | exact zb_01 _) ?_
        refine ev_gF3 [true] [] rfl ?_
        refine ev_retz rfl (by first | decide | exact zb_01 _) ?_
        refine ev_g0 rfl ?_
        refine ev_retz rfl (by first | decide | exact zb_01 _) ?_
        first | exact ⟨rfl, rfl⟩ | exact ⟨congrArg (fun z => some (vi (zb z))) lf_F3, rfl⟩
  · skip
    refine ⟨false, ?_, ?_, fun h => by cases h⟩
    · intro μ
      refine det_of h_SH_fit rfl rfl rfl ?_
      refine ev_gF3 [false, true] [] rfl ?_
      refine ev_top2 (a2 := _) (b2 := vi (nI 5)) rfl (congrArg vi (by decide)) ?_
      refine ev_kS 2 k_SH_15 rfl C_fits5 ⟨by decide, by decide⟩ rfl ?_
      refine ev_gF3 [true] [] rfl ?_
      refine ev_retz rfl (by first | decide | exact zb_01 _) ?_
      first | exact ⟨rfl, rfl⟩ | exact ⟨congrArg (fun z => some (vi (zb z))) lf_F3, rfl⟩
    · intro μ
      refine det_of h_MM_isAct rfl rfl rfl ?_
      refine ev_g0 rfl ?_
      refine ev_kS 3 k_MM_188 rfl (C_in_0_65) ⟨by decide, by decide⟩ rfl ?_
      refine ev_gF3 [false, true, true, true] [] rfl ?_
      refine ev_inS 4 k_MM_254 h_MM_isSecond rfl rfl rfl rfl ⟨by decide, by decide⟩ rfl ?_
      refine ev_gF3 [] [some 18] rfl ?_
      refine ev_inS 1 k_MM_245 h_MM_isPlace rfl rfl rfl rfl ⟨by decide, by decide⟩ rfl ?_
      refine ev_g0 rfl ?_
      refine ev_kS 3 k_MM_188 rfl (C_in_0_39) ⟨by decide, by decide⟩ rfl ?_
      refine ev_g0 rfl ?_
      refine ev_retz rfl (by first | decide | exact zb_01 _) ?_
      refine ev_gF3 [true] [] rfl ?_
      refine ev_retz rfl (by first | decide | exact zb_01 _) ?_
      refine ev_g0 rfl ?_
      refine ev_retz rfl (by first | decide | exact zb_01 _) ?_
      first | exact ⟨rfl, rfl⟩ | exact ⟨congrArg (fun z => some (vi (zb z))) lf_F3, rfl⟩
theorem FT_61 {a b c : Int32} : ∃ v : Bool, (∀ μ : mm_M, mm_Det Y_SH_fit [vi (nI 61), vi a, vi b, vi c] μ (some (vi (zb v))) μ) ∧ (∀ μm : mm_M, mm_Det Y_MM_isAct [vi (nI 61), vi a, vi b, vi c] μm (some (vi (zb v))) μm) ∧ (v = true → OKA 61 a b c) := by
  by_cases ha : 0 ≤ a.toInt ∧ a.toInt ≤ 39
  · skip
    by_cases hb : 0 ≤ b.toInt ∧ b.toInt ≤ 7
    · skip
      refine ⟨true, ?_, ?_, fun _ => ?_⟩
      · intro μ
        refine det_of h_SH_fit rfl rfl rfl ?_
        refine ev_gF3 [false, true] [] rfl ?_
        refine ev_top2 (a2 := _) (b2 := vi (nI 5)) rfl (congrArg vi (by decide)) ?_
        refine ev_kS 2 k_SH_15 rfl C_fits5 ⟨by decide, by decide⟩ rfl ?_
        refine ev_gF3 [false] [] rfl ?_
        refine ev_top2 (a2 := _) (b2 := vi (nI 4)) rfl (congrArg vi (by decide)) ?_
        refine ev_kS 2 k_SH_15 rfl C_fits4 ⟨by decide, by decide⟩ rfl ?_
        refine ev_gF3 [false] [] rfl ?_
        refine ev_top2 (a2 := _) (b2 := vi (nI 0)) rfl (congrArg vi (by decide)) ?_
        refine ev_kS 2 k_SH_15 rfl C_fits0 ⟨by decide, by decide⟩ rfl ?_
        refine ev_gF3 [true] [] rfl ?_
        refine ev_inS 4 k_SH_19 h_SH_fitsByB rfl rfl rfl rfl ⟨by decide, by decide⟩ rfl ?_
        refine ev_gF3 [true, false, true] [] rfl ?_
        refine ev_retz rfl (by first | decide | exact zb_01 _) ?_
        refine ev_g0 rfl ?_
        refine ev_retz rfl (by first | decide | exact zb_01 _) ?_
        first | exact ⟨rfl, rfl⟩ | exact ⟨congrArg (fun z => some (vi (zb z))) lf_F3, rfl⟩
      · intro μ
        refine det_of h_MM_isAct rfl rfl rfl ?_
        refine ev_g0 rfl ?_
        refine ev_kS 3 k_MM_188 rfl (C_in_0_65) ⟨by decide, by decide⟩ rfl ?_
        refine ev_gF3 [false, true, true, true] [] rfl ?_
        refine ev_inS 4 k_MM_254 h_MM_isSecond rfl rfl rfl rfl ⟨by decide, by decide⟩ rfl ?_
        refine ev_gF3 [] [some 19] rfl ?_
        refine ev_inS 1 k_MM_245 h_MM_isPlace rfl rfl rfl rfl ⟨by decide, by decide⟩ rfl ?_
        refine ev_g0 rfl ?_
        refine ev_kS 3 k_MM_188 rfl (C_in_0_39) ⟨by decide, by decide⟩ rfl ?_
        refine ev_g0 rfl ?_
        refine ev_retz rfl (by first | decide | exact zb_01 _) ?_
        refine ev_gF3 [false] [] rfl ?_
        refine ev_inS 1 k_MM_218 h_MM_isN rfl rfl rfl rfl ⟨by decide, by decide⟩ rfl ?_
        refine ev_g0 rfl ?_
        refine ev_kS 3 k_MM_188 rfl (C_in_0_7) ⟨by decide, by decide⟩ rfl ?_
        refine ev_g0 rfl ?_
        refine ev_retz rfl (by first | decide | exact zb_01 _) ?_
        refine ev_gF3 [false] [] rfl ?_
        refine ev_retz rfl (by first | decide | exact zb_01 _) ?_
        refine ev_g0 rfl ?_
        refine ev_retz rfl (by first | decide | exact zb_01 _) ?_
        first | exact ⟨rfl, rfl⟩ | exact ⟨congrArg (fun z => some (vi (zb z))) lf_F3, rfl⟩
      · exact ⟨(nk (n := 40) ha rfl (by decide)), (nk (n := 8) hb rfl (by decide))⟩
    · skip
      refine ⟨false, ?_, ?_, fun h => by cases h⟩
      · intro μ
        refine det_of h_SH_fit rfl rfl rfl ?_
        refine ev_gF3 [false, true] [] rfl ?_
        refine ev_top2 (a2 := _) (b2 := vi (nI 5)) rfl (congrArg vi (by decide)) ?_
        refine ev_kS 2 k_SH_15 rfl C_fits5 ⟨by decide, by decide⟩ rfl ?_
        refine ev_gF3 [false] [] rfl ?_
        refine ev_top2 (a2 := _) (b2 := vi (nI 4)) rfl (congrArg vi (by decide)) ?_
        refine ev_kS 2 k_SH_15 rfl C_fits4 ⟨by decide, by decide⟩ rfl ?_
        refine ev_gF3 [true] [] rfl ?_
        refine ev_retz rfl (by first | decide | exact zb_01 _) ?_
        first | exact ⟨rfl, rfl⟩ | exact ⟨congrArg (fun z => some (vi (zb z))) lf_F3, rfl⟩
      · intro μ
        refine det_of h_MM_isAct rfl rfl rfl ?_
        refine ev_g0 rfl ?_
        refine ev_kS 3 k_MM_188 rfl (C_in_0_65) ⟨by decide, by decide⟩ rfl ?_
        refine ev_gF3 [false, true, true, true] [] rfl ?_
        refine ev_inS 4 k_MM_254 h_MM_isSecond rfl rfl rfl rfl ⟨by decide, by decide⟩ rfl ?_
        refine ev_gF3 [] [some 19] rfl ?_
        refine ev_inS 1 k_MM_245 h_MM_isPlace rfl rfl rfl rfl ⟨by decide, by decide⟩ rfl ?_
        refine ev_g0 rfl ?_
        refine ev_kS 3 k_MM_188 rfl (C_in_0_39) ⟨by decide, by decide⟩ rfl ?_
        refine ev_g0 rfl ?_
        refine ev_retz rfl (by first | decide | exact zb_01 _) ?_
        refine ev_gF3 [false] [] rfl ?_
        refine ev_inS 1 k_MM_218 h_MM_isN rfl rfl rfl rfl ⟨by decide, by decide⟩ rfl ?_
        refine ev_g0 rfl ?_
        refine ev_kS 3 k_MM_188 rfl (C_in_0_7) ⟨by decide, by decide⟩ rfl ?_
        refine ev_g0 rfl ?_
        refine ev_retz rfl (by first | decide | exact zb_01 _) ?_
        refine ev_gF3 [true] [] rfl ?_
        refine ev_retz rfl (by first | decide | exact zb_01 _) ?_
        refine ev_g0 rfl ?_
        refine ev_retz rfl (by first | decide | exact zb_01 _) ?_
        first | exact ⟨rfl, rfl⟩ | exact ⟨congrArg (fun z => some (vi (zb z))) lf_F3, rfl⟩
  · skip
    refine ⟨false, ?_, ?_, fun h => by cases h⟩
    · intro μ
      refine det_of h_SH_fit rfl rfl rfl ?_
      refine ev_gF3 [false, true] [] rfl ?_
      refine ev_top2 (a2 := _) (b2 := vi (nI 5)) rfl (congrArg vi (by decide)) ?_
      refine ev_kS 2 k_SH_15 rfl C_fits5 ⟨by decide, by decide⟩ rfl ?_
      refine ev_gF3 [true] [] rfl ?_
      refine ev_retz rfl (by first | decide | exact zb_01 _) ?_
      first | exact ⟨rfl, rfl⟩ | exact ⟨congrArg (fun z => some (vi (zb z))) lf_F3, rfl⟩
    · intro μ
      refine det_of h_MM_isAct rfl rfl rfl ?_
      refine ev_g0 rfl ?_
      refine ev_kS 3 k_MM_188 rfl (C_in_0_65) ⟨by decide, by decide⟩ rfl ?_
      refine ev_gF3 [false, true, true, true] [] rfl ?_
      refine ev_inS 4 k_MM_254 h_MM_isSecond rfl rfl rfl rfl ⟨by decide, by decide⟩ rfl ?_
      refine ev_gF3 [] [some 19] rfl ?_
      refine ev_inS 1 k_MM_245 h_MM_isPlace rfl rfl rfl rfl ⟨by decide, by decide⟩ rfl ?_
      refine ev_g0 rfl ?_
      refine ev_kS 3 k_MM_188 rfl (C_in_0_39) ⟨by decide, by decide⟩ rfl ?_
      refine ev_g0 rfl ?_
      refine ev_retz rfl (by first | decide | exact zb_01 _) ?_
      refine ev_gF3 [true] [] rfl ?_
      refine ev_retz rfl (by first | decide | exact zb_01 _) ?_
      refine ev_g0 rfl ?_
      refine ev_retz rfl (by first | decide | exact zb_01 _) ?_
      first | exact ⟨rfl, rfl⟩ | exact ⟨congrArg (fun z => some (vi (zb z))) lf_F3, rfl⟩
theorem FT_62 {a b c : Int32} : ∃ v : Bool, (∀ μ : mm_M, mm_Det Y_SH_fit [vi (nI 62), vi a, vi b, vi c] μ (some (vi (zb v))) μ) ∧ (∀ μm : mm_M, mm_Det Y_MM_isAct [vi (nI 62), vi a, vi b, vi c] μm (some (vi (zb v))) μm) ∧ (v = true → OKA 62 a b c) := by
  by_cases ha : 0 ≤ a.toInt ∧ a.toInt ≤ 5
  · skip
    refine ⟨true, ?_, ?_, fun _ => ?_⟩
    · intro μ
      refine det_of h_SH_fit rfl rfl rfl ?_
      refine ev_gF3 [false, true] [] rfl ?_
      refine ev_top2 (a2 := _) (b2 := vi (nI 6)) rfl (congrArg vi (by decide)) ?_
      refine ev_kS 2 k_SH_15 rfl C_fits6 ⟨by decide, by decide⟩ rfl ?_
      refine ev_gF3 [false] [] rfl ?_
      refine ev_top2 (a2 := _) (b2 := vi (nI 0)) rfl (congrArg vi (by decide)) ?_
      refine ev_kS 2 k_SH_15 rfl C_fits0 ⟨by decide, by decide⟩ rfl ?_
      refine ev_gF3 [false] [] rfl ?_
      refine ev_top2 (a2 := _) (b2 := vi (nI 0)) rfl (congrArg vi (by decide)) ?_
      refine ev_kS 2 k_SH_15 rfl C_fits0 ⟨by decide, by decide⟩ rfl ?_
      refine ev_gF3 [true] [] rfl ?_
      refine ev_inS 4 k_SH_19 h_SH_fitsByB rfl rfl rfl rfl ⟨by decide, by decide⟩ rfl ?_
      refine ev_gF3 [true, false, true] [] rfl ?_
      refine ev_retz rfl (by first | decide | exact zb_01 _) ?_
      refine ev_g0 rfl ?_
      refine ev_retz rfl (by first | decide | exact zb_01 _) ?_
      first | exact ⟨rfl, rfl⟩ | exact ⟨congrArg (fun z => some (vi (zb z))) lf_F3, rfl⟩
    · intro μ
      refine det_of h_MM_isAct rfl rfl rfl ?_
      refine ev_g0 rfl ?_
      refine ev_kS 3 k_MM_188 rfl (C_in_0_65) ⟨by decide, by decide⟩ rfl ?_
      refine ev_gF3 [false, true, true, true] [] rfl ?_
      refine ev_inS 4 k_MM_254 h_MM_isSecond rfl rfl rfl rfl ⟨by decide, by decide⟩ rfl ?_
      refine ev_gF3 [] [some 20] rfl ?_
      refine ev_kS 3 k_MM_188 rfl (C_in_0_5) ⟨by decide, by decide⟩ rfl ?_
      refine ev_g0 rfl ?_
      refine ev_retz rfl (by first | decide | exact zb_01 _) ?_
      refine ev_g0 rfl ?_
      refine ev_retz rfl (by first | decide | exact zb_01 _) ?_
      first | exact ⟨rfl, rfl⟩ | exact ⟨congrArg (fun z => some (vi (zb z))) lf_F3, rfl⟩
    · exact (nk (n := 6) ha rfl (by decide))
  · skip
    refine ⟨false, ?_, ?_, fun h => by cases h⟩
    · intro μ
      refine det_of h_SH_fit rfl rfl rfl ?_
      refine ev_gF3 [false, true] [] rfl ?_
      refine ev_top2 (a2 := _) (b2 := vi (nI 6)) rfl (congrArg vi (by decide)) ?_
      refine ev_kS 2 k_SH_15 rfl C_fits6 ⟨by decide, by decide⟩ rfl ?_
      refine ev_gF3 [true] [] rfl ?_
      refine ev_retz rfl (by first | decide | exact zb_01 _) ?_
      first | exact ⟨rfl, rfl⟩ | exact ⟨congrArg (fun z => some (vi (zb z))) lf_F3, rfl⟩
    · intro μ
      refine det_of h_MM_isAct rfl rfl rfl ?_
      refine ev_g0 rfl ?_
      refine ev_kS 3 k_MM_188 rfl (C_in_0_65) ⟨by decide, by decide⟩ rfl ?_
      refine ev_gF3 [false, true, true, true] [] rfl ?_
      refine ev_inS 4 k_MM_254 h_MM_isSecond rfl rfl rfl rfl ⟨by decide, by decide⟩ rfl ?_
      refine ev_gF3 [] [some 20] rfl ?_
      refine ev_kS 3 k_MM_188 rfl (C_in_0_5) ⟨by decide, by decide⟩ rfl ?_
      refine ev_g0 rfl ?_
      refine ev_retz rfl (by first | decide | exact zb_01 _) ?_
      refine ev_g0 rfl ?_
      refine ev_retz rfl (by first | decide | exact zb_01 _) ?_
      first | exact ⟨rfl, rfl⟩ | exact ⟨congrArg (fun z => some (vi (zb z))) lf_F3, rfl⟩
theorem FT_63 {a b c : Int32} : ∃ v : Bool, (∀ μ : mm_M, mm_Det Y_SH_fit [vi (nI 63), vi a, vi b, vi c] μ (some (vi (zb v))) μ) ∧ (∀ μm : mm_M, mm_Det Y_MM_isAct [vi (nI 63), vi a, vi b, vi c] μm (some (vi (zb v))) μm) ∧ (v = true → OKA 63 a b c) := by
  refine ⟨true, ?_, ?_, fun _ => ?_⟩
  · intro μ
    refine det_of h_SH_fit rfl rfl rfl ?_
    refine ev_gF3 [false, true] [] rfl ?_
    refine ev_top2 (a2 := _) (b2 := vi (nI 0)) rfl (congrArg vi (by decide)) ?_
    refine ev_kS 2 k_SH_15 rfl C_fits0 ⟨by decide, by decide⟩ rfl ?_
    refine ev_gF3 [false] [] rfl ?_
    refine ev_top2 (a2 := _) (b2 := vi (nI 0)) rfl (congrArg vi (by decide)) ?_
    refine ev_kS 2 k_SH_15 rfl C_fits0 ⟨by decide, by decide⟩ rfl ?_
    refine ev_gF3 [false] [] rfl ?_
    refine ev_top2 (a2 := _) (b2 := vi (nI 0)) rfl (congrArg vi (by decide)) ?_
    refine ev_kS 2 k_SH_15 rfl C_fits0 ⟨by decide, by decide⟩ rfl ?_
    refine ev_gF3 [true] [] rfl ?_
    refine ev_inS 4 k_SH_19 h_SH_fitsByB rfl rfl rfl rfl ⟨by decide, by decide⟩ rfl ?_
    refine ev_gF3 [true, false, true] [] rfl ?_
    refine ev_retz rfl (by first | decide | exact zb_01 _) ?_
    refine ev_g0 rfl ?_
    refine ev_retz rfl (by first | decide | exact zb_01 _) ?_
    first | exact ⟨rfl, rfl⟩ | exact ⟨congrArg (fun z => some (vi (zb z))) lf_F3, rfl⟩
  · intro μ
    refine det_of h_MM_isAct rfl rfl rfl ?_
    refine ev_g0 rfl ?_
    refine ev_kS 3 k_MM_188 rfl (C_in_0_65) ⟨by decide, by decide⟩ rfl ?_
    refine ev_gF3 [false, true, true, true] [] rfl ?_
    refine ev_inS 4 k_MM_254 h_MM_isSecond rfl rfl rfl rfl ⟨by decide, by decide⟩ rfl ?_
    refine ev_gF3 [] [some 21] rfl ?_
    refine ev_retz rfl (by first | decide | exact zb_01 _) ?_
    refine ev_g0 rfl ?_
    refine ev_retz rfl (by first | decide | exact zb_01 _) ?_
    first | exact ⟨rfl, rfl⟩ | exact ⟨congrArg (fun z => some (vi (zb z))) lf_F3, rfl⟩
  · exact trivial
theorem FT_64 {a b c : Int32} : ∃ v : Bool, (∀ μ : mm_M, mm_Det Y_SH_fit [vi (nI 64), vi a, vi b, vi c] μ (some (vi (zb v))) μ) ∧ (∀ μm : mm_M, mm_Det Y_MM_isAct [vi (nI 64), vi a, vi b, vi c] μm (some (vi (zb v))) μm) ∧ (v = true → OKA 64 a b c) := by
  by_cases hb : 0 ≤ b.toInt ∧ b.toInt ≤ 7
  · skip
    refine ⟨true, ?_, ?_, fun _ => ?_⟩
    · intro μ
      refine det_of h_SH_fit rfl rfl rfl ?_
      refine ev_gF3 [false, true] [] rfl ?_
      refine ev_top2 (a2 := _) (b2 := vi (nI 0)) rfl (congrArg vi (by decide)) ?_
      refine ev_kS 2 k_SH_15 rfl C_fits0 ⟨by decide, by decide⟩ rfl ?_
      refine ev_gF3 [false] [] rfl ?_
      refine ev_top2 (a2 := _) (b2 := vi (nI 4)) rfl (congrArg vi (by decide)) ?_
      refine ev_kS 2 k_SH_15 rfl C_fits4 ⟨by decide, by decide⟩ rfl ?_
      refine ev_gF3 [false] [] rfl ?_
      refine ev_top2 (a2 := _) (b2 := vi (nI 0)) rfl (congrArg vi (by decide)) ?_
      refine ev_kS 2 k_SH_15 rfl C_fits0 ⟨by decide, by decide⟩ rfl ?_
      refine ev_gF3 [true] [] rfl ?_
      refine ev_inS 4 k_SH_19 h_SH_fitsByB rfl rfl rfl rfl ⟨by decide, by decide⟩ rfl ?_
      refine ev_gF3 [true, false, true] [] rfl ?_
      refine ev_retz rfl (by first | decide | exact zb_01 _) ?_
      refine ev_g0 rfl ?_
      refine ev_retz rfl (by first | decide | exact zb_01 _) ?_
      first | exact ⟨rfl, rfl⟩ | exact ⟨congrArg (fun z => some (vi (zb z))) lf_F3, rfl⟩
    · intro μ
      refine det_of h_MM_isAct rfl rfl rfl ?_
      refine ev_g0 rfl ?_
      refine ev_kS 3 k_MM_188 rfl (C_in_0_65) ⟨by decide, by decide⟩ rfl ?_
      refine ev_gF3 [false, true, true, true] [] rfl ?_
      refine ev_inS 4 k_MM_254 h_MM_isSecond rfl rfl rfl rfl ⟨by decide, by decide⟩ rfl ?_
      refine ev_gF3 [] [some 22] rfl ?_
      refine ev_inS 1 k_MM_218 h_MM_isN rfl rfl rfl rfl ⟨by decide, by decide⟩ rfl ?_
      refine ev_g0 rfl ?_
      refine ev_kS 3 k_MM_188 rfl (C_in_0_7) ⟨by decide, by decide⟩ rfl ?_
      refine ev_g0 rfl ?_
      refine ev_retz rfl (by first | decide | exact zb_01 _) ?_
      refine ev_g0 rfl ?_
      refine ev_retz rfl (by first | decide | exact zb_01 _) ?_
      refine ev_g0 rfl ?_
      refine ev_retz rfl (by first | decide | exact zb_01 _) ?_
      first | exact ⟨rfl, rfl⟩ | exact ⟨congrArg (fun z => some (vi (zb z))) lf_F3, rfl⟩
    · exact (nk (n := 8) hb rfl (by decide))
  · skip
    refine ⟨false, ?_, ?_, fun h => by cases h⟩
    · intro μ
      refine det_of h_SH_fit rfl rfl rfl ?_
      refine ev_gF3 [false, true] [] rfl ?_
      refine ev_top2 (a2 := _) (b2 := vi (nI 0)) rfl (congrArg vi (by decide)) ?_
      refine ev_kS 2 k_SH_15 rfl C_fits0 ⟨by decide, by decide⟩ rfl ?_
      refine ev_gF3 [false] [] rfl ?_
      refine ev_top2 (a2 := _) (b2 := vi (nI 4)) rfl (congrArg vi (by decide)) ?_
      refine ev_kS 2 k_SH_15 rfl C_fits4 ⟨by decide, by decide⟩ rfl ?_
      refine ev_gF3 [true] [] rfl ?_
      refine ev_retz rfl (by first | decide | exact zb_01 _) ?_
      first | exact ⟨rfl, rfl⟩ | exact ⟨congrArg (fun z => some (vi (zb z))) lf_F3, rfl⟩
    · intro μ
      refine det_of h_MM_isAct rfl rfl rfl ?_
      refine ev_g0 rfl ?_
      refine ev_kS 3 k_MM_188 rfl (C_in_0_65) ⟨by decide, by decide⟩ rfl ?_
      refine ev_gF3 [false, true, true, true] [] rfl ?_
      refine ev_inS 4 k_MM_254 h_MM_isSecond rfl rfl rfl rfl ⟨by decide, by decide⟩ rfl ?_
      refine ev_gF3 [] [some 22] rfl ?_
      refine ev_inS 1 k_MM_218 h_MM_isN rfl rfl rfl rfl ⟨by decide, by decide⟩ rfl ?_
      refine ev_g0 rfl ?_
      refine ev_kS 3 k_MM_188 rfl (C_in_0_7) ⟨by decide, by decide⟩ rfl ?_
      refine ev_g0 rfl ?_
      refine ev_retz rfl (by first | decide | exact zb_01 _) ?_
      refine ev_g0 rfl ?_
      refine ev_retz rfl (by first | decide | exact zb_01 _) ?_
      refine ev_g0 rfl ?_
      refine ev_retz rfl (by first | decide | exact zb_01 _) ?_
      first | exact ⟨rfl, rfl⟩ | exact ⟨congrArg (fun z => some (vi (zb z))) lf_F3, rfl⟩
theorem FT_65 {a b c : Int32} : ∃ v : Bool, (∀ μ : mm_M, mm_Det Y_SH_fit [vi (nI 65), vi a, vi b, vi c] μ (some (vi (zb v))) μ) ∧ (∀ μm : mm_M, mm_Det Y_MM_isAct [vi (nI 65), vi a, vi b, vi c] μm (some (vi (zb v))) μm) ∧ (v = true → OKA 65 a b c) := by
  by_cases hb : 0 ≤ b.toInt ∧ b.toInt ≤ 7
  · skip
    refine ⟨true, ?_, ?_, fun _ => ?_⟩
    · intro μ
      refine det_of h_SH_fit rfl rfl rfl ?_
      refine ev_gF3 [false, true] [] rfl ?_
      refine ev_top2 (a2 := _) (b2 := vi (nI 0)) rfl (congrArg vi (by decide)) ?_
      refine ev_kS 2 k_SH_15 rfl C_fits0 ⟨by decide, by decide⟩ rfl ?_
      refine ev_gF3 [false] [] rfl ?_
      refine ev_top2 (a2 := _) (b2 := vi (nI 4)) rfl (congrArg vi (by decide)) ?_
      refine ev_kS 2 k_SH_15 rfl C_fits4 ⟨by decide, by decide⟩ rfl ?_
      refine ev_gF3 [false] [] rfl ?_
      refine ev_top2 (a2 := _) (b2 := vi (nI 0)) rfl (congrArg vi (by decide)) ?_
      refine ev_kS 2 k_SH_15 rfl C_fits0 ⟨by decide, by decide⟩ rfl ?_
      refine ev_gF3 [true] [] rfl ?_
      refine ev_inS 4 k_SH_19 h_SH_fitsByB rfl rfl rfl rfl ⟨by decide, by decide⟩ rfl ?_
      refine ev_gF3 [true, false, true] [] rfl ?_
      refine ev_retz rfl (by first | decide | exact zb_01 _) ?_
      refine ev_g0 rfl ?_
      refine ev_retz rfl (by first | decide | exact zb_01 _) ?_
      first | exact ⟨rfl, rfl⟩ | exact ⟨congrArg (fun z => some (vi (zb z))) lf_F3, rfl⟩
    · intro μ
      refine det_of h_MM_isAct rfl rfl rfl ?_
      refine ev_g0 rfl ?_
      refine ev_kS 3 k_MM_188 rfl (C_in_0_65) ⟨by decide, by decide⟩ rfl ?_
      refine ev_gF3 [false, true, true, true] [] rfl ?_
      refine ev_inS 4 k_MM_254 h_MM_isSecond rfl rfl rfl rfl ⟨by decide, by decide⟩ rfl ?_
      refine ev_gF3 [] [some 23] rfl ?_
      refine ev_inS 1 k_MM_218 h_MM_isN rfl rfl rfl rfl ⟨by decide, by decide⟩ rfl ?_
      refine ev_g0 rfl ?_
      refine ev_kS 3 k_MM_188 rfl (C_in_0_7) ⟨by decide, by decide⟩ rfl ?_
      refine ev_g0 rfl ?_
      refine ev_retz rfl (by first | decide | exact zb_01 _) ?_
      refine ev_g0 rfl ?_
      refine ev_retz rfl (by first | decide | exact zb_01 _) ?_
      refine ev_g0 rfl ?_
      refine ev_retz rfl (by first | decide | exact zb_01 _) ?_
      first | exact ⟨rfl, rfl⟩ | exact ⟨congrArg (fun z => some (vi (zb z))) lf_F3, rfl⟩
    · exact (nk (n := 8) hb rfl (by decide))
  · skip
    refine ⟨false, ?_, ?_, fun h => by cases h⟩
    · intro μ
      refine det_of h_SH_fit rfl rfl rfl ?_
      refine ev_gF3 [false, true] [] rfl ?_
      refine ev_top2 (a2 := _) (b2 := vi (nI 0)) rfl (congrArg vi (by decide)) ?_
      refine ev_kS 2 k_SH_15 rfl C_fits0 ⟨by decide, by decide⟩ rfl ?_
      refine ev_gF3 [false] [] rfl ?_
      refine ev_top2 (a2 := _) (b2 := vi (nI 4)) rfl (congrArg vi (by decide)) ?_
      refine ev_kS 2 k_SH_15 rfl C_fits4 ⟨by decide, by decide⟩ rfl ?_
      refine ev_gF3 [true] [] rfl ?_
      refine ev_retz rfl (by first | decide | exact zb_01 _) ?_
      first | exact ⟨rfl, rfl⟩ | exact ⟨congrArg (fun z => some (vi (zb z))) lf_F3, rfl⟩
    · intro μ
      refine det_of h_MM_isAct rfl rfl rfl ?_
      refine ev_g0 rfl ?_
      refine ev_kS 3 k_MM_188 rfl (C_in_0_65) ⟨by decide, by decide⟩ rfl ?_
      refine ev_gF3 [false, true, true, true] [] rfl ?_
      refine ev_inS 4 k_MM_254 h_MM_isSecond rfl rfl rfl rfl ⟨by decide, by decide⟩ rfl ?_
      refine ev_gF3 [] [some 23] rfl ?_
      refine ev_inS 1 k_MM_218 h_MM_isN rfl rfl rfl rfl ⟨by decide, by decide⟩ rfl ?_
      refine ev_g0 rfl ?_
      refine ev_kS 3 k_MM_188 rfl (C_in_0_7) ⟨by decide, by decide⟩ rfl ?_
      refine ev_g0 rfl ?_
      refine ev_retz rfl (by first | decide | exact zb_01 _) ?_
      refine ev_g0 rfl ?_
      refine ev_retz rfl (by first | decide | exact zb_01 _) ?_
      refine ev_g0 rfl ?_
      refine ev_retz rfl (by first | decide | exact zb_01 _) ?_
      first | exact ⟨rfl, rfl⟩ | exact ⟨congrArg (fun z => some (vi (zb z))) lf_F3, rfl⟩
