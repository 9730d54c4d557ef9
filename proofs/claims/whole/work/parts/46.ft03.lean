theorem FT_12 {a b c : Int32} : ∃ v : Bool, (∀ μ : mm_M, mm_Det Y_SH_fit [vi (nI 12), vi a, vi b, vi c] μ (some (vi (zb v))) μ) ∧ (∀ μm : mm_M, mm_Det Y_MM_isAct [vi (nI 12), vi a, vi b, vi c] μm (some (vi (zb v))) μm) ∧ (v = true → OKA 12 a b c) := by
  by_cases ha : 0 ≤ a.toInt ∧ a.toInt ≤ 7
  · skip
    by_cases hc : 0 ≤ c.toInt ∧ c.toInt ≤ 7
    · skip
      refine ⟨true, ?_, ?_, fun _ => ?_⟩
      · intro μ
        refine det_of h_SH_fit rfl rfl rfl ?_
        refine ev_gF3 [false, true] [] rfl ?_
        refine ev_top2 (a2 := _) (b2 := vi (nI 4)) rfl (congrArg vi (by decide)) ?_
        refine ev_kS 2 k_SH_15 rfl C_fits4 ⟨by decide, by decide⟩ rfl ?_
        refine ev_gF3 [false] [] rfl ?_
        refine ev_top2 (a2 := _) (b2 := vi (nI 0)) rfl (congrArg vi (by decide)) ?_
        refine ev_kS 2 k_SH_15 rfl C_fits0 ⟨by decide, by decide⟩ rfl ?_
        refine ev_gF3 [false] [] rfl ?_
        refine ev_top2 (a2 := _) (b2 := vi (nI 4)) rfl (congrArg vi (by decide)) ?_
        refine ev_kS 2 k_SH_15 rfl C_fits4 ⟨by decide, by decide⟩ rfl ?_
        refine ev_gF3 [true] [] rfl ?_
        refine ev_inS 4 k_SH_19 h_SH_fitsByB rfl rfl rfl rfl ⟨by decide, by decide⟩ rfl ?_
        refine ev_gF3 [true, false, true] [] rfl ?_
        refine ev_retz rfl (by first | decide | exact zb_01 _) ?_
        refine ev_g0 rfl ?_
        refine ev_retz rfl (by first | decide | exact zb_01 _) ?_
        first | exact ⟨rfl, rfl⟩ | exact ⟨congrArg (fun z => some (vi (zb z))) lf_F3, rfl⟩
      · intro μ
        refine det_of h_MM_isAct rfl rfl rfl ?_
        refine ev_g0 rfl ?_
        refine ev_kS 3 k_MM_188 rfl (C_in_0_65) ⟨by decide, by decide⟩ rfl ?_
        refine ev_gF3 [false, true, false] [] rfl ?_
        refine ev_inS 4 k_MM_250 h_MM_isFirst rfl rfl rfl rfl ⟨by decide, by decide⟩ rfl ?_
        refine ev_gF3 [] [some 12] rfl ?_
        refine ev_inS 1 k_MM_218 h_MM_isN rfl rfl rfl rfl ⟨by decide, by decide⟩ rfl ?_
        refine ev_g0 rfl ?_
        refine ev_kS 3 k_MM_188 rfl (C_in_0_7) ⟨by decide, by decide⟩ rfl ?_
        refine ev_g0 rfl ?_
        refine ev_retz rfl (by first | decide | exact zb_01 _) ?_
        refine ev_gF3 [false] [] rfl ?_
        refine ev_inS 1 k_MM_218 h_MM_isN rfl rfl rfl rfl ⟨by decide, by decide⟩ rfl ?_
        refine ev_g0 rfl ?_
        refine ev_kS 3 k_MM_188 rfl (C_in_0_7) ⟨by decide, by decide⟩ rfl ?_
        refine ev_g0 rfl ?_
        refine ev_retz rfl (by first | decide | exact zb_01 _) ?_
        refine ev_gF3 [false] [] rfl ?_
        refine ev_retz rfl (by first | decide | exact zb_01 _) ?_
        refine ev_g0 rfl ?_
        refine ev_retz rfl (by first | decide | exact zb_01 _) ?_
        first | exact ⟨rfl, rfl⟩ | exact ⟨congrArg (fun z => some (vi (zb z))) lf_F3, rfl⟩
      · exact ⟨(nk (n := 8) ha rfl (by decide)), (nk (n := 8) hc rfl (by decide))⟩
    · skip
      refine ⟨false, ?_, ?_, fun h => by cases h⟩
      · intro μ
        refine det_of h_SH_fit rfl rfl rfl ?_
        refine ev_gF3 [false, true] [] rfl ?_
        refine ev_top2 (a2 := _) (b2 := vi (nI 4)) rfl (congrArg vi (by decide)) ?_
        refine ev_kS 2 k_SH_15 rfl C_fits4 ⟨by decide, by decide⟩ rfl ?_
        refine ev_gF3 [false] [] rfl ?_
        refine ev_top2 (a2 := _) (b2 := vi (nI 0)) rfl (congrArg vi (by decide)) ?_
        refine ev_kS 2 k_SH_15 rfl C_fits0 ⟨by decide, by decide⟩ rfl ?_
        refine ev_gF3 [false] [] rfl ?_
        refine ev_top2 (a2 := _) (b2 := vi (nI 4)) rfl (congrArg vi (by decide)) ?_
        refine ev_kS 2 k_SH_15 rfl C_fits4 ⟨by decide, by decide⟩ rfl ?_
        refine ev_gF3 [false] [] rfl ?_
        refine ev_retz rfl (by first | decide | exact zb_01 _) ?_
        first | exact ⟨rfl, rfl⟩ | exact ⟨congrArg (fun z => some (vi (zb z))) lf_F3, rfl⟩
      · intro μ
        refine det_of h_MM_isAct rfl rfl rfl ?_
        refine ev_g0 rfl ?_
        refine ev_kS 3 k_MM_188 rfl (C_in_0_65) ⟨by decide, by decide⟩ rfl ?_
        refine ev_gF3 [false, true, false] [] rfl ?_
        refine ev_inS 4 k_MM_250 h_MM_isFirst rfl rfl rfl rfl ⟨by decide, by decide⟩ rfl ?_
        refine ev_gF3 [] [some 12] rfl ?_
        refine ev_inS 1 k_MM_218 h_MM_isN rfl rfl rfl rfl ⟨by decide, by decide⟩ rfl ?_
        refine ev_g0 rfl ?_
        refine ev_kS 3 k_MM_188 rfl (C_in_0_7) ⟨by decide, by decide⟩ rfl ?_
        refine ev_g0 rfl ?_
        refine ev_retz rfl (by first | decide | exact zb_01 _) ?_
        refine ev_gF3 [false] [] rfl ?_
        refine ev_inS 1 k_MM_218 h_MM_isN rfl rfl rfl rfl ⟨by decide, by decide⟩ rfl ?_
        refine ev_g0 rfl ?_
        refine ev_kS 3 k_MM_188 rfl (C_in_0_7) ⟨by decide, by decide⟩ rfl ?_
        refine ev_g0 rfl ?_
        refine ev_retz rfl (by first | decide | exact zb_01 _) ?_
        refine ev_gF3 [true] [] rfl ?_
        refine ev_retz rfl (by first | decide | exact zb_01 _) ?_
        refine ev_g0 rfl ?_
        refine ev_retz rfl (by first | decide | exact zb_01 _) ?_
        first | exact ⟨rfl, rfl⟩ | exact ⟨congrArg (fun z => some (vi (zb z))) lf_F3, rfl⟩
  · skip
    refine ⟨false, ?_, ?_, fun h => by cases h⟩
    · intro μ
      refine det_of h_SH_fit rfl rfl rfl ?_
      refine ev_gF3 [false, true] [] rfl ?_
      refine ev_top2 (a2 := _) (b2 := vi (nI 4)) rfl (congrArg vi (by decide)) ?_
      refine ev_kS 2 k_SH_15 rfl C_fits4 ⟨by decide, by decide⟩ rfl ?_
      refine ev_gF3 [true] [] rfl ?_
      refine ev_retz rfl (by first | decide | exact zb_01 _) ?_
      first | exact ⟨rfl, rfl⟩ | exact ⟨congrArg (fun z => some (vi (zb z))) lf_F3, rfl⟩
    · intro μ
      refine det_of h_MM_isAct rfl rfl rfl ?_
      refine ev_g0 rfl ?_
      refine ev_kS 3 k_MM_188 rfl (C_in_0_65) ⟨by decide, by decide⟩ rfl ?_
      refine ev_gF3 [false, true, false] [] rfl ?_
      refine ev_inS 4 k_MM_250 h_MM_isFirst rfl rfl rfl rfl ⟨by decide, by decide⟩ rfl ?_
      refine ev_gF3 [] [some 12] rfl ?_
      refine ev_inS 1 k_MM_218 h_MM_isN rfl rfl rfl rfl ⟨by decide, by decide⟩ rfl ?_
      refine ev_g0 rfl ?_
      refine ev_kS 3 k_MM_188 rfl (C_in_0_7) ⟨by decide, by decide⟩ rfl ?_
      refine ev_g0 rfl ?_
      refine ev_retz rfl (by first | decide | exact zb_01 _) ?_
      refine ev_gF3 [true] [] rfl ?_
      refine ev_retz rfl (by first | decide | exact zb_01 _) ?_
      refine ev_g0 rfl ?_
      refine ev_retz rfl (by first | decide | exact zb_01 _) ?_
      first | exact ⟨rfl, rfl⟩ | exact ⟨congrArg (fun z => some (vi (zb z))) lf_F3, rfl⟩
theorem FT_13 {a b c : Int32} : ∃ v : Bool, (∀ μ : mm_M, mm_Det Y_SH_fit [vi (nI 13), vi a, vi b, vi c] μ (some (vi (zb v))) μ) ∧ (∀ μm : mm_M, mm_Det Y_MM_isAct [vi (nI 13), vi a, vi b, vi c] μm (some (vi (zb v))) μm) ∧ (v = true → OKA 13 a b c) := by
  by_cases ha : 0 ≤ a.toInt ∧ a.toInt ≤ 7
  · skip
    refine ⟨true, ?_, ?_, fun _ => ?_⟩
    · intro μ
      refine det_of h_SH_fit rfl rfl rfl ?_
      refine ev_gF3 [false, true] [] rfl ?_
      refine ev_top2 (a2 := _) (b2 := vi (nI 4)) rfl (congrArg vi (by decide)) ?_
      refine ev_kS 2 k_SH_15 rfl C_fits4 ⟨by decide, by decide⟩ rfl ?_
      refine ev_gF3 [false] [] rfl ?_
      refine ev_top2 (a2 := _) (b2 := vi (nI 0)) rfl (congrArg vi (by decide)) ?_
      refine ev_kS 2 k_SH_15 rfl C_fits0 ⟨by decide, by decide⟩ rfl ?_
      refine ev_gF3 [false] [] rfl ?_
      refine ev_top2 (a2 := _) (b2 := vi (nI 0)) rfl (congrArg vi (by decide)) ?_
      refine ev_kS 2 k_SH_15 rfl C_fits0 ⟨by decide, by decide⟩ rfl ?_
      refine ev_gF3 [true] [] rfl ?_
      refine ev_inS 4 k_SH_19 h_SH_fitsByB rfl rfl rfl rfl ⟨by decide, by decide⟩ rfl ?_
      refine ev_gF3 [true, false, true] [] rfl ?_
      refine ev_retz rfl (by first | decide | exact zb_01 _) ?_
      refine ev_g0 rfl ?_
      refine ev_retz rfl (by first | decide | exact zb_01 _) ?_
      first | exact ⟨rfl, rfl⟩ | exact ⟨congrArg (fun z => some (vi (zb z))) lf_F3, rfl⟩
    · intro μ
      refine det_of h_MM_isAct rfl rfl rfl ?_
      refine ev_g0 rfl ?_
      refine ev_kS 3 k_MM_188 rfl (C_in_0_65) ⟨by decide, by decide⟩ rfl ?_
      refine ev_gF3 [false, true, false] [] rfl ?_
      refine ev_inS 4 k_MM_250 h_MM_isFirst rfl rfl rfl rfl ⟨by decide, by decide⟩ rfl ?_
      refine ev_gF3 [] [some 13] rfl ?_
      refine ev_inS 1 k_MM_218 h_MM_isN rfl rfl rfl rfl ⟨by decide, by decide⟩ rfl ?_
      refine ev_g0 rfl ?_
      refine ev_kS 3 k_MM_188 rfl (C_in_0_7) ⟨by decide, by decide⟩ rfl ?_
      refine ev_g0 rfl ?_
      refine ev_retz rfl (by first | decide | exact zb_01 _) ?_
      refine ev_g0 rfl ?_
      refine ev_retz rfl (by first | decide | exact zb_01 _) ?_
      refine ev_g0 rfl ?_
      refine ev_retz rfl (by first | decide | exact zb_01 _) ?_
      first | exact ⟨rfl, rfl⟩ | exact ⟨congrArg (fun z => some (vi (zb z))) lf_F3, rfl⟩
    · exact (nk (n := 8) ha rfl (by decide))
  · skip
    refine ⟨false, ?_, ?_, fun h => by cases h⟩
    · intro μ
      refine det_of h_SH_fit rfl rfl rfl ?_
      refine ev_gF3 [false, true] [] rfl ?_
      refine ev_top2 (a2 := _) (b2 := vi (nI 4)) rfl (congrArg vi (by decide)) ?_
      refine ev_kS 2 k_SH_15 rfl C_fits4 ⟨by decide, by decide⟩ rfl ?_
      refine ev_gF3 [true] [] rfl ?_
      refine ev_retz rfl (by first | decide | exact zb_01 _) ?_
      first | exact ⟨rfl, rfl⟩ | exact ⟨congrArg (fun z => some (vi (zb z))) lf_F3, rfl⟩
    · intro μ
      refine det_of h_MM_isAct rfl rfl rfl ?_
      refine ev_g0 rfl ?_
      refine ev_kS 3 k_MM_188 rfl (C_in_0_65) ⟨by decide, by decide⟩ rfl ?_
      refine ev_gF3 [false, true, false] [] rfl ?_
      refine ev_inS 4 k_MM_250 h_MM_isFirst rfl rfl rfl rfl ⟨by decide, by decide⟩ rfl ?_
      refine ev_gF3 [] [some 13] rfl ?_
      refine ev_inS 1 k_MM_218 h_MM_isN rfl rfl rfl rfl ⟨by decide, by decide⟩ rfl ?_
      refine ev_g0 rfl ?_
      refine ev_kS 3 k_MM_188 rfl (C_in_0_7) ⟨by decide, by decide⟩ rfl ?_
      refine ev_g0 rfl ?_
      refine ev_retz rfl (by first | decide | exact zb_01 _) ?_
      refine ev_g0 rfl ?_
      refine ev_retz rfl (by first | decide | exact zb_01 _) ?_
      refine ev_g0 rfl ?_
      refine ev_retz rfl (by first | decide | exact zb_01 _) ?_
      first | exact ⟨rfl, rfl⟩ | exact ⟨congrArg (fun z => some (vi (zb z))) lf_F3, rfl⟩
theorem FT_14 {a b c : Int32} : ∃ v : Bool, (∀ μ : mm_M, mm_Det Y_SH_fit [vi (nI 14), vi a, vi b, vi c] μ (some (vi (zb v))) μ) ∧ (∀ μm : mm_M, mm_Det Y_MM_isAct [vi (nI 14), vi a, vi b, vi c] μm (some (vi (zb v))) μm) ∧ (v = true → OKA 14 a b c) := by
  by_cases ha : 0 ≤ a.toInt ∧ a.toInt ≤ 7
  · skip
    by_cases hb : 0 ≤ b.toInt ∧ b.toInt ≤ 7
    · skip
      by_cases hc : 0 ≤ c.toInt ∧ c.toInt ≤ 7
      · skip
        refine ⟨true, ?_, ?_, fun _ => ?_⟩
        · intro μ
          refine det_of h_SH_fit rfl rfl rfl ?_
          refine ev_gF3 [false, true] [] rfl ?_
          refine ev_top2 (a2 := _) (b2 := vi (nI 4)) rfl (congrArg vi (by decide)) ?_
          refine ev_kS 2 k_SH_15 rfl C_fits4 ⟨by decide, by decide⟩ rfl ?_
          refine ev_gF3 [false] [] rfl ?_
          refine ev_top2 (a2 := _) (b2 := vi (nI 12)) rfl (congrArg vi (by decide)) ?_
          refine ev_kS 2 k_SH_15 rfl C_fits12 ⟨by decide, by decide⟩ rfl ?_
          refine ev_gF3 [false] [] rfl ?_
          refine ev_top2 (a2 := _) (b2 := vi (nI 1)) rfl (congrArg vi (by decide)) ?_
          refine ev_kS 2 k_SH_15 rfl C_fits1 ⟨by decide, by decide⟩ rfl ?_
          refine ev_gF3 [true] [] rfl ?_
          refine ev_inS 4 k_SH_19 h_SH_fitsByB rfl rfl rfl rfl ⟨by decide, by decide⟩ rfl ?_
          refine ev_gF3 [true, false, true] [] rfl ?_
          refine ev_retz rfl (by first | decide | exact zb_01 _) ?_
          refine ev_g0 rfl ?_
          refine ev_retz rfl (by first | decide | exact zb_01 _) ?_
          first | exact ⟨rfl, rfl⟩ | exact ⟨congrArg (fun z => some (vi (zb z))) lf_F3, rfl⟩
        · intro μ
          refine det_of h_MM_isAct rfl rfl rfl ?_
          refine ev_g0 rfl ?_
          refine ev_kS 3 k_MM_188 rfl (C_in_0_65) ⟨by decide, by decide⟩ rfl ?_
          refine ev_gF3 [false, true, false] [] rfl ?_
          refine ev_inS 4 k_MM_250 h_MM_isFirst rfl rfl rfl rfl ⟨by decide, by decide⟩ rfl ?_
          refine ev_gF3 [] [some 14] rfl ?_
          refine ev_inS 1 k_MM_218 h_MM_isN rfl rfl rfl rfl ⟨by decide, by decide⟩ rfl ?_
          refine ev_g0 rfl ?_
          refine ev_kS 3 k_MM_188 rfl (C_in_0_7) ⟨by decide, by decide⟩ rfl ?_
          refine ev_g0 rfl ?_
          refine ev_retz rfl (by first | decide | exact zb_01 _) ?_
          refine ev_gF3 [false] [] rfl ?_
          refine ev_kS 3 k_MM_188 rfl (C_in_0_7) ⟨by decide, by decide⟩ rfl ?_
          refine ev_gF3 [false] [] rfl ?_
          refine ev_inS 1 k_MM_218 h_MM_isN rfl rfl rfl rfl ⟨by decide, by decide⟩ rfl ?_
          refine ev_g0 rfl ?_
          refine ev_kS 3 k_MM_188 rfl (C_in_0_7) ⟨by decide, by decide⟩ rfl ?_
          refine ev_g0 rfl ?_
          refine ev_retz rfl (by first | decide | exact zb_01 _) ?_
          refine ev_gF3 [false] [] rfl ?_
          refine ev_retz rfl (by first | decide | exact zb_01 _) ?_
          refine ev_g0 rfl ?_
          refine ev_retz rfl (by first | decide | exact zb_01 _) ?_
          first | exact ⟨rfl, rfl⟩ | exact ⟨congrArg (fun z => some (vi (zb z))) lf_F3, rfl⟩
        · exact ⟨(nk (n := 8) ha rfl (by decide)), (nk (n := 8) hb rfl (by decide)), (nk (n := 8) hc rfl (by decide))⟩
      · skip
        refine ⟨false, ?_, ?_, fun h => by cases h⟩
        · intro μ
          refine det_of h_SH_fit rfl rfl rfl ?_
          refine ev_gF3 [false, true] [] rfl ?_
          refine ev_top2 (a2 := _) (b2 := vi (nI 4)) rfl (congrArg vi (by decide)) ?_
          refine ev_kS 2 k_SH_15 rfl C_fits4 ⟨by decide, by decide⟩ rfl ?_
          refine ev_gF3 [false] [] rfl ?_
          refine ev_top2 (a2 := _) (b2 := vi (nI 12)) rfl (congrArg vi (by decide)) ?_
          refine ev_kS 2 k_SH_15 rfl C_fits12 ⟨by decide, by decide⟩ rfl ?_
          refine ev_gF3 [false] [] rfl ?_
          refine ev_top2 (a2 := _) (b2 := vi (nI 1)) rfl (congrArg vi (by decide)) ?_
          refine ev_kS 2 k_SH_15 rfl C_fits1 ⟨by decide, by decide⟩ rfl ?_
          refine ev_gF3 [false] [] rfl ?_
          refine ev_retz rfl (by first | decide | exact zb_01 _) ?_
          first | exact ⟨rfl, rfl⟩ | exact ⟨congrArg (fun z => some (vi (zb z))) lf_F3, rfl⟩
        · intro μ
          refine det_of h_MM_isAct rfl rfl rfl ?_
          refine ev_g0 rfl ?_
          refine ev_kS 3 k_MM_188 rfl (C_in_0_65) ⟨by decide, by decide⟩ rfl ?_
          refine ev_gF3 [false, true, false] [] rfl ?_
          refine ev_inS 4 k_MM_250 h_MM_isFirst rfl rfl rfl rfl ⟨by decide, by decide⟩ rfl ?_
          refine ev_gF3 [] [some 14] rfl ?_
          refine ev_inS 1 k_MM_218 h_MM_isN rfl rfl rfl rfl ⟨by decide, by decide⟩ rfl ?_
          refine ev_g0 rfl ?_
          refine ev_kS 3 k_MM_188 rfl (C_in_0_7) ⟨by decide, by decide⟩ rfl ?_
          refine ev_g0 rfl ?_
          refine ev_retz rfl (by first | decide | exact zb_01 _) ?_
          refine ev_gF3 [false] [] rfl ?_
          refine ev_kS 3 k_MM_188 rfl (C_in_0_7) ⟨by decide, by decide⟩ rfl ?_
          refine ev_gF3 [false] [] rfl ?_
          refine ev_inS 1 k_MM_218 h_MM_isN rfl rfl rfl rfl ⟨by decide, by decide⟩ rfl ?_
          refine ev_g0 rfl ?_
          refine ev_kS 3 k_MM_188 rfl (C_in_0_7) ⟨by decide, by decide⟩ rfl ?_
          refine ev_g0 rfl ?_
          refine ev_retz rfl (by first | decide | exact zb_01 _) ?_
          refine ev_gF3 [true] [] rfl ?_
          refine ev_retz rfl (by first | decide | exact zb_01 _) ?_
          refine ev_g0 rfl ?_
          refine ev_retz rfl (by first | decide | exact zb_01 _) ?_
          first | exact ⟨rfl, rfl⟩ | exact ⟨congrArg (fun z => some (vi (zb z))) lf_F3, rfl⟩
    · skip
      refine ⟨false, ?_, ?_, fun h => by cases h⟩
      · intro μ
        refine det_of h_SH_fit rfl rfl rfl ?_
        refine ev_gF3 [false, true] [] rfl ?_
        refine ev_top2 (a2 := _) (b2 := vi (nI 4)) rfl (congrArg vi (by decide)) ?_
        refine ev_kS 2 k_SH_15 rfl C_fits4 ⟨by decide, by decide⟩ rfl ?_
        refine ev_gF3 [false] [] rfl ?_
        refine ev_top2 (a2 := _) (b2 := vi (nI 12)) rfl (congrArg vi (by decide)) ?_
        refine ev_kS 2 k_SH_15 rfl C_fits12 ⟨by decide, by decide⟩ rfl ?_
        refine ev_gF3 [true] [] rfl ?_
        refine ev_retz rfl (by first | decide | exact zb_01 _) ?_
        first | exact ⟨rfl, rfl⟩ | exact ⟨congrArg (fun z => some (vi (zb z))) lf_F3, rfl⟩
      · intro μ
        refine det_of h_MM_isAct rfl rfl rfl ?_
        refine ev_g0 rfl ?_
        refine ev_kS 3 k_MM_188 rfl (C_in_0_65) ⟨by decide, by decide⟩ rfl ?_
        refine ev_gF3 [false, true, false] [] rfl ?_
        refine ev_inS 4 k_MM_250 h_MM_isFirst rfl rfl rfl rfl ⟨by decide, by decide⟩ rfl ?_
        refine ev_gF3 [] [some 14] rfl ?_
        refine ev_inS 1 k_MM_218 h_MM_isN rfl rfl rfl rfl ⟨by decide, by decide⟩ rfl ?_
        refine ev_g0 rfl ?_
        refine ev_kS 3 k_MM_188 rfl (C_in_0_7) ⟨by decide, by decide⟩ rfl ?_
        refine ev_g0 rfl ?_
        refine ev_retz rfl (by first | decide | exact zb_01 _) ?_
        refine ev_gF3 [false] [] rfl ?_
        refine ev_kS 3 k_MM_188 rfl (C_in_0_7) ⟨by decide, by decide⟩ rfl ?_
        refine ev_gF3 [true] [] rfl ?_
        refine ev_retz rfl (by first | decide | exact zb_01 _) ?_
        refine ev_g0 rfl ?_
        refine ev_retz rfl (by first | decide | exact zb_01 _) ?_
        first | exact ⟨rfl, rfl⟩ | exact ⟨congrArg (fun z => some (vi (zb z))) lf_F3, rfl⟩
  · skip
    refine ⟨false, ?_, ?_, fun h => by cases h⟩
    · intro μ
      refine det_of h_SH_fit rfl rfl rfl ?_
      refine ev_gF3 [false, true] [] rfl ?_
      refine ev_top2 (a2 := _) (b2 := vi (nI 4)) rfl (congrArg vi (by decide)) ?_
      refine ev_kS 2 k_SH_15 rfl C_fits4 ⟨by decide, by decide⟩ rfl ?_
      refine ev_gF3 [true] [] rfl ?_
      refine ev_retz rfl (by first | decide | exact zb_01 _) ?_
      first | exact ⟨rfl, rfl⟩ | exact ⟨congrArg (fun z => some (vi (zb z))) lf_F3, rfl⟩
    · intro μ
      refine det_of h_MM_isAct rfl rfl rfl ?_
      refine ev_g0 rfl ?_
      refine ev_kS 3 k_MM_188 rfl (C_in_0_65) ⟨by decide, by decide⟩ rfl ?_
      refine ev_gF3 [false, true, false] [] rfl ?_
      refine ev_inS 4 k_MM_250 h_MM_isFirst rfl rfl rfl rfl ⟨by decide, by decide⟩ rfl ?_
      refine ev_gF3 [] [some 14] rfl ?_
      refine ev_inS 1 k_MM_218 h_MM_isN rfl rfl rfl rfl ⟨by decide, by decide⟩ rfl ?_
      refine ev_g0 rfl ?_
      refine ev_kS 3 k_MM_188 rfl (C_in_0_7) ⟨by decide, by decide⟩ rfl ?_
      refine ev_g0 rfl ?_
      refine ev_retz rfl (by first | decide | exact zb_01 _) ?_
      refine ev_gF3 [true] [] rfl ?_
      refine ev_retz rfl (by first | decide | exact zb_01 _) ?_
      refine ev_g0 rfl ?_
      refine ev_retz rfl (by first | decide | exact zb_01 _) ?_
      first | exact ⟨rfl, rfl⟩ | exact ⟨congrArg (fun z => some (vi (zb z))) lf_F3, rfl⟩
theorem FT_15 {a b c : Int32} : ∃ v : Bool, (∀ μ : mm_M, mm_Det Y_SH_fit [vi (nI 15), vi a, vi b, vi c] μ (some (vi (zb v))) μ) ∧ (∀ μm : mm_M, mm_Det Y_MM_isAct [vi (nI 15), vi a, vi b, vi c] μm (some (vi (zb v))) μm) ∧ (v = true → OKA 15 a b c) := by
  by_cases ha : 0 ≤ a.toInt ∧ a.toInt ≤ 7
  · skip
    by_cases hb : 0 ≤ b.toInt ∧ b.toInt ≤ 4
    · skip
      by_cases hc : 0 ≤ c.toInt ∧ c.toInt ≤ 7
      · skip
        refine ⟨true, ?_, ?_, fun _ => ?_⟩
        · intro μ
          refine det_of h_SH_fit rfl rfl rfl ?_
          refine ev_gF3 [false, true] [] rfl ?_
          refine ev_top2 (a2 := _) (b2 := vi (nI 4)) rfl (congrArg vi (by decide)) ?_
          refine ev_kS 2 k_SH_15 rfl C_fits4 ⟨by decide, by decide⟩ rfl ?_
          refine ev_gF3 [false] [] rfl ?_
          refine ev_top2 (a2 := _) (b2 := vi (nI 13)) rfl (congrArg vi (by decide)) ?_
          refine ev_kS 2 k_SH_15 rfl C_fits13 ⟨by decide, by decide⟩ rfl ?_
          refine ev_gF3 [false] [] rfl ?_
          refine ev_top2 (a2 := _) (b2 := vi (nI 1)) rfl (congrArg vi (by decide)) ?_
          refine ev_kS 2 k_SH_15 rfl C_fits1 ⟨by decide, by decide⟩ rfl ?_
          refine ev_gF3 [true] [] rfl ?_
          refine ev_inS 4 k_SH_19 h_SH_fitsByB rfl rfl rfl rfl ⟨by decide, by decide⟩ rfl ?_
          refine ev_gF3 [true, false, true] [] rfl ?_
          refine ev_retz rfl (by first | decide | exact zb_01 _) ?_
          refine ev_g0 rfl ?_
          refine ev_retz rfl (by first | decide | exact zb_01 _) ?_
          first | exact ⟨rfl, rfl⟩ | exact ⟨congrArg (fun z => some (vi (zb z))) lf_F3, rfl⟩
        · intro μ
          refine det_of h_MM_isAct rfl rfl rfl ?_
          refine ev_g0 rfl ?_
          refine ev_kS 3 k_MM_188 rfl (C_in_0_65) ⟨by decide, by decide⟩ rfl ?_
          refine ev_gF3 [false, true, false] [] rfl ?_
          refine ev_inS 4 k_MM_250 h_MM_isFirst rfl rfl rfl rfl ⟨by decide, by decide⟩ rfl ?_
          refine ev_gF3 [] [some 15] rfl ?_
          refine ev_inS 1 k_MM_218 h_MM_isN rfl rfl rfl rfl ⟨by decide, by decide⟩ rfl ?_
          refine ev_g0 rfl ?_
          refine ev_kS 3 k_MM_188 rfl (C_in_0_7) ⟨by decide, by decide⟩ rfl ?_
          refine ev_g0 rfl ?_
          refine ev_retz rfl (by first | decide | exact zb_01 _) ?_
          refine ev_gF3 [false] [] rfl ?_
          refine ev_kS 3 k_MM_188 rfl (C_in_0_4) ⟨by decide, by decide⟩ rfl ?_
          refine ev_gF3 [false] [] rfl ?_
          refine ev_inS 1 k_MM_218 h_MM_isN rfl rfl rfl rfl ⟨by decide, by decide⟩ rfl ?_
          refine ev_g0 rfl ?_
          refine ev_kS 3 k_MM_188 rfl (C_in_0_7) ⟨by decide, by decide⟩ rfl ?_
          refine ev_g0 rfl ?_
          refine ev_retz rfl (by first | decide | exact zb_01 _) ?_
          refine ev_gF3 [false] [] rfl ?_
          refine ev_retz rfl (by first | decide | exact zb_01 _) ?_
          refine ev_g0 rfl ?_
          refine ev_retz rfl (by first | decide | exact zb_01 _) ?_
          first | exact ⟨rfl, rfl⟩ | exact ⟨congrArg (fun z => some (vi (zb z))) lf_F3, rfl⟩
        · exact ⟨(nk (n := 8) ha rfl (by decide)), (nk (n := 5) hb rfl (by decide)), (nk (n := 8) hc rfl (by decide))⟩
      · skip
        refine ⟨false, ?_, ?_, fun h => by cases h⟩
        · intro μ
          refine det_of h_SH_fit rfl rfl rfl ?_
          refine ev_gF3 [false, true] [] rfl ?_
          refine ev_top2 (a2 := _) (b2 := vi (nI 4)) rfl (congrArg vi (by decide)) ?_
          refine ev_kS 2 k_SH_15 rfl C_fits4 ⟨by decide, by decide⟩ rfl ?_
          refine ev_gF3 [false] [] rfl ?_
          refine ev_top2 (a2 := _) (b2 := vi (nI 13)) rfl (congrArg vi (by decide)) ?_
          refine ev_kS 2 k_SH_15 rfl C_fits13 ⟨by decide, by decide⟩ rfl ?_
          refine ev_gF3 [false] [] rfl ?_
          refine ev_top2 (a2 := _) (b2 := vi (nI 1)) rfl (congrArg vi (by decide)) ?_
          refine ev_kS 2 k_SH_15 rfl C_fits1 ⟨by decide, by decide⟩ rfl ?_
          refine ev_gF3 [false] [] rfl ?_
          refine ev_retz rfl (by first | decide | exact zb_01 _) ?_
          first | exact ⟨rfl, rfl⟩ | exact ⟨congrArg (fun z => some (vi (zb z))) lf_F3, rfl⟩
        · intro μ
          refine det_of h_MM_isAct rfl rfl rfl ?_
          refine ev_g0 rfl ?_
          refine ev_kS 3 k_MM_188 rfl (C_in_0_65) ⟨by decide, by decide⟩ rfl ?_
          refine ev_gF3 [false, true, false] [] rfl ?_
          refine ev_inS 4 k_MM_250 h_MM_isFirst rfl rfl rfl rfl ⟨by decide, by decide⟩ rfl ?_
          refine ev_gF3 [] [some 15] rfl ?_
          refine ev_inS 1 k_MM_218 h_MM_isN rfl rfl rfl rfl ⟨by decide, by decide⟩ rfl ?_
          refine ev_g0 rfl ?_
          refine ev_kS 3 k_MM_188 rfl (C_in_0_7) ⟨by decide, by decide⟩ rfl ?_
          refine ev_g0 rfl ?_
          refine ev_retz rfl (by first | decide | exact zb_01 _) ?_
          refine ev_gF3 [false] [] rfl ?_
          refine ev_kS 3 k_MM_188 rfl (C_in_0_4) ⟨by decide, by decide⟩ rfl ?_
          refine ev_gF3 [false] [] rfl ?_
          refine ev_inS 1 k_MM_218 h_MM_isN rfl rfl rfl rfl ⟨by decide, by decide⟩ rfl ?_
          refine ev_g0 rfl ?_
          refine ev_kS 3 k_MM_188 rfl (C_in_0_7) ⟨by decide, by decide⟩ rfl ?_
          refine ev_g0 rfl ?_
          refine ev_retz rfl (by first | decide | exact zb_01 _) ?_
          refine ev_gF3 [true] [] rfl ?_
          refine ev_retz rfl (by first | decide | exact zb_01 _) ?_
          refine ev_g0 rfl ?_
          refine ev_retz rfl (by first | decide | exact zb_01 _) ?_
          first | exact ⟨rfl, rfl⟩ | exact ⟨congrArg (fun z => some (vi (zb z))) lf_F3, rfl⟩
    · skip
      refine ⟨false, ?_, ?_, fun h => by cases h⟩
      · intro μ
        refine det_of h_SH_fit rfl rfl rfl ?_
        refine ev_gF3 [false, true] [] rfl ?_
        refine ev_top2 (a2 := _) (b2 := vi (nI 4)) rfl (congrArg vi (by decide)) ?_
        refine ev_kS 2 k_SH_15 rfl C_fits4 ⟨by decide, by decide⟩ rfl ?_
        refine ev_gF3 [false] [] rfl ?_
        refine ev_top2 (a2 := _) (b2 := vi (nI 13)) rfl (congrArg vi (by decide)) ?_
        refine ev_kS 2 k_SH_15 rfl C_fits13 ⟨by decide, by decide⟩ rfl ?_
        refine ev_gF3 [true] [] rfl ?_
        refine ev_retz rfl (by first | decide | exact zb_01 _) ?_
        first | exact ⟨rfl, rfl⟩ | exact ⟨congrArg (fun z => some (vi (zb z))) lf_F3, rfl⟩
      · intro μ
        refine det_of h_MM_isAct rfl rfl rfl ?_
        refine ev_g0 rfl ?_
        refine ev_kS 3 k_MM_188 rfl (C_in_0_65) ⟨by decide, by decide⟩ rfl ?_
        refine ev_gF3 [false, true, false] [] rfl ?_
        refine ev_inS 4 k_MM_250 h_MM_isFirst rfl rfl rfl rfl ⟨by decide, by decide⟩ rfl ?_
        refine ev_gF3 [] [some 15] rfl ?_
        refine ev_inS 1 k_MM_218 h_MM_isN rfl rfl rfl rfl ⟨by decide, by decide⟩ rfl ?_
        refine ev_g0 rfl ?_
        refine ev_kS 3 k_MM_188 rfl (C_in_0_7) ⟨by decide, by decide⟩ rfl ?_
        refine ev_g0 rfl ?_
        refine ev_retz rfl (by first | decide | exact zb_01 _) ?_
        refine ev_gF3 [false] [] rfl ?_
        refine ev_kS 3 k_MM_188 rfl (C_in_0_4) ⟨by decide, by decide⟩ rfl ?_
        refine ev_gF3 [true] [] rfl ?_
        refine ev_retz rfl (by first | decide | exact zb_01 _) ?_
        refine ev_g0 rfl ?_
        refine ev_retz rfl (by first | decide | exact zb_01 _) ?_
        first | exact ⟨rfl, rfl⟩ | exact ⟨congrArg (fun z => some (vi (zb z))) lf_F3, rfl⟩
  · skip
    refine ⟨false, ?_, ?_, fun h => by cases h⟩
    · intro μ
      refine det_of h_SH_fit rfl rfl rfl ?_
      refine ev_gF3 [false, true] [] rfl ?_
      refine ev_top2 (a2 := _) (b2 := vi (nI 4)) rfl (congrArg vi (by decide)) ?_
      refine ev_kS 2 k_SH_15 rfl C_fits4 ⟨by decide, by decide⟩ rfl ?_
      refine ev_gF3 [true] [] rfl ?_
      refine ev_retz rfl (by first | decide | exact zb_01 _) ?_
      first | exact ⟨rfl, rfl⟩ | exact ⟨congrArg (fun z => some (vi (zb z))) lf_F3, rfl⟩
    · intro μ
      refine det_of h_MM_isAct rfl rfl rfl ?_
      refine ev_g0 rfl ?_
      refine ev_kS 3 k_MM_188 rfl (C_in_0_65) ⟨by decide, by decide⟩ rfl ?_
      refine ev_gF3 [false, true, false] [] rfl ?_
      refine ev_inS 4 k_MM_250 h_MM_isFirst rfl rfl rfl rfl ⟨by decide, by decide⟩ rfl ?_
      refine ev_gF3 [] [some 15] rfl ?_
      refine ev_inS 1 k_MM_218 h_MM_isN rfl rfl rfl rfl ⟨by decide, by decide⟩ rfl ?_
      refine ev_g0 rfl ?_
      refine ev_kS 3 k_MM_188 rfl (C_in_0_7) ⟨by decide, by decide⟩ rfl ?_
      refine ev_g0 rfl ?_
      refine ev_retz rfl (by first | decide | exact zb_01 _) ?_
      refine ev_gF3 [true] [] rfl ?_
      refine ev_retz rfl (by first | decide | exact zb_01 _) ?_
      refine ev_g0 rfl ?_
      refine ev_retz rfl (by first | decide | exact zb_01 _) ?_
      first | exact ⟨rfl, rfl⟩ | exact ⟨congrArg (fun z => some (vi (zb z))) lf_F3, rfl⟩
theorem FT_16 {a b c : Int32} : ∃ v : Bool, (∀ μ : mm_M, mm_Det Y_SH_fit [vi (nI 16), vi a, vi b, vi c] μ (some (vi (zb v))) μ) ∧ (∀ μm : mm_M, mm_Det Y_MM_isAct [vi (nI 16), vi a, vi b, vi c] μm (some (vi (zb v))) μm) ∧ (v = true → OKA 16 a b c) := by
  by_cases ha : 0 ≤ a.toInt ∧ a.toInt ≤ 7
  · skip
    by_cases hb : 0 ≤ b.toInt ∧ b.toInt ≤ 7
    · skip
      by_cases hc : 0 ≤ c.toInt ∧ c.toInt ≤ 7
      · skip
        refine ⟨true, ?_, ?_, fun _ => ?_⟩
        · intro μ
          refine det_of h_SH_fit rfl rfl rfl ?_
          refine ev_gF3 [false, true] [] rfl ?_
          refine ev_top2 (a2 := _) (b2 := vi (nI 4)) rfl (congrArg vi (by decide)) ?_
          refine ev_kS 2 k_SH_15 rfl C_fits4 ⟨by decide, by decide⟩ rfl ?_
          refine ev_gF3 [false] [] rfl ?_
          refine ev_top2 (a2 := _) (b2 := vi (nI 1)) rfl (congrArg vi (by decide)) ?_
          refine ev_kS 2 k_SH_15 rfl C_fits1 ⟨by decide, by decide⟩ rfl ?_
          refine ev_gF3 [false] [] rfl ?_
          refine ev_top2 (a2 := _) (b2 := vi (nI 1)) rfl (congrArg vi (by decide)) ?_
          refine ev_kS 2 k_SH_15 rfl C_fits1 ⟨by decide, by decide⟩ rfl ?_
          refine ev_gF3 [true] [] rfl ?_
          refine ev_inS 4 k_SH_19 h_SH_fitsByB rfl rfl rfl rfl ⟨by decide, by decide⟩ rfl ?_
          refine ev_gF3 [true, false, true] [] rfl ?_
          refine ev_retz rfl (by first | decide | exact zb_01 _) ?_
          refine ev_g0 rfl ?_
          refine ev_retz rfl (by first | decide | exact zb_01 _) ?_
          first | exact ⟨rfl, rfl⟩ | exact ⟨congrArg (fun z => some (vi (zb z))) lf_F3, rfl⟩
        · intro μ
          refine det_of h_MM_isAct rfl rfl rfl ?_
          refine ev_g0 rfl ?_
          refine ev_kS 3 k_MM_188 rfl (C_in_0_65) ⟨by decide, by decide⟩ rfl ?_
          refine ev_gF3 [false, true, false] [] rfl ?_
          refine ev_inS 4 k_MM_250 h_MM_isFirst rfl rfl rfl rfl ⟨by decide, by decide⟩ rfl ?_
          refine ev_gF3 [] [some 16] rfl ?_
          refine ev_inS 1 k_MM_218 h_MM_isN rfl rfl rfl rfl ⟨by decide, by decide⟩ rfl ?_
          refine ev_g0 rfl ?_
          refine ev_kS 3 k_MM_188 rfl (C_in_0_7) ⟨by decide, by decide⟩ rfl ?_
          refine ev_g0 rfl ?_
          refine ev_retz rfl (by first | decide | exact zb_01 _) ?_
          refine ev_gF3 [false] [] rfl ?_
          refine ev_inS 1 k_MM_218 h_MM_isN rfl rfl rfl rfl ⟨by decide, by decide⟩ rfl ?_
          refine ev_g0 rfl ?_
          refine ev_kS 3 k_MM_188 rfl (C_in_0_7) ⟨by decide, by decide⟩ rfl ?_
          refine ev_g0 rfl ?_
          refine ev_retz rfl (by first | decide | exact zb_01 _) ?_
          refine ev_gF3 [false] [] rfl ?_
          refine ev_inS 1 k_MM_218 h_MM_isN rfl rfl rfl rfl ⟨by decide, by decide⟩ rfl ?_
          refine ev_g0 rfl ?_
          refine ev_kS 3 k_MM_188 rfl (C_in_0_7) ⟨by decide, by decide⟩ rfl ?_
          refine ev_g0 rfl ?_
          refine ev_retz rfl (by first | decide | exact zb_01 _) ?_
          refine ev_gF3 [false] [] rfl ?_
          refine ev_retz rfl (by first | decide | exact zb_01 _) ?_
          refine ev_g0 rfl ?_
          refine ev_retz rfl (by first | decide | exact zb_01 _) ?_
          first | exact ⟨rfl, rfl⟩ | exact ⟨congrArg (fun z => some (vi (zb z))) lf_F3, rfl⟩
        · exact ⟨(nk (n := 8) ha rfl (by decide)), (nk (n := 8) hb rfl (by decide)), (nk (n := 8) hc rfl (by decide))⟩
      · skip
        refine ⟨false, ?_, ?_, fun h => by cases h⟩
        · intro μ
          refine det_of h_SH_fit rfl rfl rfl ?_
          refine ev_gF3 [false, true] [] rfl ?_
          refine ev_top2 (a2 := _) (b2 := vi (nI 4)) rfl (congrArg vi (by decide)) ?_
          refine ev_kS 2 k_SH_15 rfl C_fits4 ⟨by decide, by decide⟩ rfl ?_
          refine ev_gF3 [false] [] rfl ?_
          refine ev_top2 (a2 := _) (b2 := vi (nI 1)) rfl (congrArg vi (by decide)) ?_
          refine ev_kS 2 k_SH_15 rfl C_fits1 ⟨by decide, by decide⟩ rfl ?_
          refine ev_gF3 [false] [] rfl ?_
          refine ev_top2 (a2 := _) (b2 := vi (nI 1)) rfl (congrArg vi (by decide)) ?_
          refine ev_kS 2 k_SH_15 rfl C_fits1 ⟨by decide, by decide⟩ rfl ?_
          refine ev_gF3 [false] [] rfl ?_
          refine ev_retz rfl (by first | decide | exact zb_01 _) ?_
          first | exact ⟨rfl, rfl⟩ | exact ⟨congrArg (fun z => some (vi (zb z))) lf_F3, rfl⟩
        · intro μ
          refine det_of h_MM_isAct rfl rfl rfl ?_
          refine ev_g0 rfl ?_
          refine ev_kS 3 k_MM_188 rfl (C_in_0_65) ⟨by decide, by decide⟩ rfl ?_
          refine ev_gF3 [false, true, false] [] rfl ?_
          refine ev_inS 4 k_MM_250 h_MM_isFirst rfl rfl rfl rfl ⟨by decide, by decide⟩ rfl ?_
          refine ev_gF3 [] [some 16] rfl ?_
          refine ev_inS 1 k_MM_218 h_MM_isN rfl rfl rfl rfl ⟨by decide, by decide⟩ rfl ?_
          refine ev_g0 rfl ?_
          refine ev_kS 3 k_MM_188 rfl (C_in_0_7) ⟨by decide, by decide⟩ rfl ?_
          refine ev_g0 rfl ?_
          refine ev_retz rfl (by first | decide | exact zb_01 _) ?_
          refine ev_gF3 [false] [] rfl ?_
          refine ev_inS 1 k_MM_218 h_MM_isN rfl rfl rfl rfl ⟨by decide, by decide⟩ rfl ?_
          refine ev_g0 rfl ?_
          refine ev_kS 3 k_MM_188 rfl (C_in_0_7) ⟨by decide, by decide⟩ rfl ?_
          refine ev_g0 rfl ?_
          refine ev_retz rfl (by first | decide | exact zb_01 _) ?_
          refine ev_gF3 [false] [] rfl ?_
          refine ev_inS 1 k_MM_218 h_MM_isN rfl rfl rfl rfl ⟨by decide, by decide⟩ rfl ?_
          refine ev_g0 rfl ?_
          refine ev_kS 3 k_MM_188 rfl (C_in_0_7) ⟨by decide, by decide⟩ rfl ?_
          refine ev_g0 rfl ?_
          refine ev_retz rfl (by first | decide | exact zb_01 _) ?_
          refine ev_gF3 [true] [] rfl ?_
          refine ev_retz rfl (by first | decide | exact zb_01 _) ?_
          refine ev_g0 rfl ?_
          refine ev_retz rfl (by first | decide | exact zb_01 _) ?_
          first | exact ⟨rfl, rfl⟩ | exact ⟨congrArg (fun z => some (vi (zb z))) lf_F3, rfl⟩
    · skip
      refine ⟨false, ?_, ?_, fun h => by cases h⟩
      · intro μ
        refine det_of h_SH_fit rfl rfl rfl ?_
        refine ev_gF3 [false, true] [] rfl ?_
        refine ev_top2 (a2 := _) (b2 := vi (nI 4)) rfl (congrArg vi (by decide)) ?_
        refine ev_kS 2 k_SH_15 rfl C_fits4 ⟨by decide, by decide⟩ rfl ?_
        refine ev_gF3 [false] [] rfl ?_
        refine ev_top2 (a2 := _) (b2 := vi (nI 1)) rfl (congrArg vi (by decide)) ?_
        refine ev_kS 2 k_SH_15 rfl C_fits1 ⟨by decide, by decide⟩ rfl ?_
        refine ev_gF3 [true] [] rfl ?_
        refine ev_retz rfl (by first | decide | exact zb_01 _) ?_
        first | exact ⟨rfl, rfl⟩ | exact ⟨congrArg (fun z => some (vi (zb z))) lf_F3, rfl⟩
      · intro μ
        refine det_of h_MM_isAct rfl rfl rfl ?_
        refine ev_g0 rfl ?_
        refine ev_kS 3 k_MM_188 rfl (C_in_0_65) ⟨by decide, by decide⟩ rfl ?_
        refine ev_gF3 [false, true, false] [] rfl ?_
        refine ev_inS 4 k_MM_250 h_MM_isFirst rfl rfl rfl rfl ⟨by decide, by decide⟩ rfl ?_
        refine ev_gF3 [] [some 16] rfl ?_
        refine ev_inS 1 k_MM_218 h_MM_isN rfl rfl rfl rfl ⟨by decide, by decide⟩ rfl ?_
        refine ev_g0 rfl ?_
        refine ev_kS 3 k_MM_188 rfl (C_in_0_7) ⟨by decide, by decide⟩ rfl ?_
        refine ev_g0 rfl ?_
        refine ev_retz rfl (by first | decide | exact zb_01 _) ?_
        refine ev_gF3 [false] [] rfl ?_
        refine ev_inS 1 k_MM_218 h_MM_isN rfl rfl rfl rfl ⟨by decide, by decide⟩ rfl ?_
        refine ev_g0 rfl ?_
        refine ev_kS 3 k_MM_188 rfl (C_in_0_7) ⟨by decide, by decide⟩ rfl ?_
        refine ev_g0 rfl ?_
        refine ev_retz rfl (by first | decide | exact zb_01 _) ?_
        refine ev_gF3 [true] [] rfl ?_
        refine ev_retz rfl (by first | decide | exact zb_01 _) ?_
        refine ev_g0 rfl ?_
        refine ev_retz rfl (by first | decide | exact zb_01 _) ?_
        first | exact ⟨rfl, rfl⟩ | exact ⟨congrArg (fun z => some (vi (zb z))) lf_F3, rfl⟩
  · skip
    refine ⟨false, ?_, ?_, fun h => by cases h⟩
    · intro μ
      refine det_of h_SH_fit rfl rfl rfl ?_
      refine ev_gF3 [false, true] [] rfl ?_
      refine ev_top2 (a2 := _) (b2 := vi (nI 4)) rfl (congrArg vi (by decide)) ?_
      refine ev_kS 2 k_SH_15 rfl C_fits4 ⟨by decide, by decide⟩ rfl ?_
      refine ev_gF3 [true] [] rfl ?_
      refine ev_retz rfl (by first | decide | exact zb_01 _) ?_
      first | exact ⟨rfl, rfl⟩ | exact ⟨congrArg (fun z => some (vi (zb z))) lf_F3, rfl⟩
    · intro μ
      refine det_of h_MM_isAct rfl rfl rfl ?_
      refine ev_g0 rfl ?_
      refine ev_kS 3 k_MM_188 rfl (C_in_0_65) ⟨by decide, by decide⟩ rfl ?_
      refine ev_gF3 [false, true, false] [] rfl ?_
      refine ev_inS 4 k_MM_250 h_MM_isFirst rfl rfl rfl rfl ⟨by decide, by decide⟩ rfl ?_
      refine ev_gF3 [] [some 16] rfl ?_
      refine ev_inS 1 k_MM_218 h_MM_isN rfl rfl rfl rfl ⟨by decide, by decide⟩ rfl ?_
      refine ev_g0 rfl ?_
      refine ev_kS 3 k_MM_188 rfl (C_in_0_7) ⟨by decide, by decide⟩ rfl ?_
      refine ev_g0 rfl ?_
      refine ev_retz rfl (by first | decide | exact zb_01 _) ?_
      refine ev_gF3 [true] [] rfl ?_
      refine ev_retz rfl (by first | decide | exact zb_01 _) ?_
      refine ev_g0 rfl ?_
      refine ev_retz rfl (by first | decide | exact zb_01 _) ?_
      first | exact ⟨rfl, rfl⟩ | exact ⟨congrArg (fun z => some (vi (zb z))) lf_F3, rfl⟩
theorem FT_17 {a b c : Int32} : ∃ v : Bool, (∀ μ : mm_M, mm_Det Y_SH_fit [vi (nI 17), vi a, vi b, vi c] μ (some (vi (zb v))) μ) ∧ (∀ μm : mm_M, mm_Det Y_MM_isAct [vi (nI 17), vi a, vi b, vi c] μm (some (vi (zb v))) μm) ∧ (v = true → OKA 17 a b c) := by
  by_cases ha : 0 ≤ a.toInt ∧ a.toInt ≤ 7
  · skip
    by_cases hb : 0 ≤ b.toInt ∧ b.toInt ≤ 7
    · skip
      by_cases hc : 0 ≤ c.toInt ∧ c.toInt ≤ 7
      · skip
        refine ⟨true, ?_, ?_, fun _ => ?_⟩
        · intro μ
          refine det_of h_SH_fit rfl rfl rfl ?_
          refine ev_gF3 [false, true] [] rfl ?_
          refine ev_top2 (a2 := _) (b2 := vi (nI 4)) rfl (congrArg vi (by decide)) ?_
          refine ev_kS 2 k_SH_15 rfl C_fits4 ⟨by decide, by decide⟩ rfl ?_
          refine ev_gF3 [false] [] rfl ?_
          refine ev_top2 (a2 := _) (b2 := vi (nI 1)) rfl (congrArg vi (by decide)) ?_
          refine ev_kS 2 k_SH_15 rfl C_fits1 ⟨by decide, by decide⟩ rfl ?_
          refine ev_gF3 [false] [] rfl ?_
          refine ev_top2 (a2 := _) (b2 := vi (nI 1)) rfl (congrArg vi (by decide)) ?_
          refine ev_kS 2 k_SH_15 rfl C_fits1 ⟨by decide, by decide⟩ rfl ?_
          refine ev_gF3 [true] [] rfl ?_
          refine ev_inS 4 k_SH_19 h_SH_fitsByB rfl rfl rfl rfl ⟨by decide, by decide⟩ rfl ?_
          refine ev_gF3 [true, false, true] [] rfl ?_
          refine ev_retz rfl (by first | decide | exact zb_01 _) ?_
          refine ev_g0 rfl ?_
          refine ev_retz rfl (by first | decide | exact zb_01 _) ?_
          first | exact ⟨rfl, rfl⟩ | exact ⟨congrArg (fun z => some (vi (zb z))) lf_F3, rfl⟩
        · intro μ
          refine det_of h_MM_isAct rfl rfl rfl ?_
          refine ev_g0 rfl ?_
          refine ev_kS 3 k_MM_188 rfl (C_in_0_65) ⟨by decide, by decide⟩ rfl ?_
          refine ev_gF3 [false, true, false] [] rfl ?_
          refine ev_inS 4 k_MM_250 h_MM_isFirst rfl rfl rfl rfl ⟨by decide, by decide⟩ rfl ?_
          refine ev_gF3 [] [some 17] rfl ?_
          refine ev_inS 1 k_MM_218 h_MM_isN rfl rfl rfl rfl ⟨by decide, by decide⟩ rfl ?_
          refine ev_g0 rfl ?_
          refine ev_kS 3 k_MM_188 rfl (C_in_0_7) ⟨by decide, by decide⟩ rfl ?_
          refine ev_g0 rfl ?_
          refine ev_retz rfl (by first | decide | exact zb_01 _) ?_
          refine ev_gF3 [false] [] rfl ?_
          refine ev_inS 1 k_MM_218 h_MM_isN rfl rfl rfl rfl ⟨by decide, by decide⟩ rfl ?_
          refine ev_g0 rfl ?_
          refine ev_kS 3 k_MM_188 rfl (C_in_0_7) ⟨by decide, by decide⟩ rfl ?_
          refine ev_g0 rfl ?_
          refine ev_retz rfl (by first | decide | exact zb_01 _) ?_
          refine ev_gF3 [false] [] rfl ?_
          refine ev_inS 1 k_MM_218 h_MM_isN rfl rfl rfl rfl ⟨by decide, by decide⟩ rfl ?_
          refine ev_g0 rfl ?_
          refine ev_kS 3 k_MM_188 rfl (C_in_0_7) ⟨by decide, by decide⟩ rfl ?_
          refine ev_g0 rfl ?_
          refine ev_retz rfl (by first | decide | exact zb_01 _) ?_
          refine ev_gF3 [false] [] rfl ?_
          refine ev_retz rfl (by first | decide | exact zb_01 _) ?_
          refine ev_g0 rfl ?_
          refine ev_retz rfl (by first | decide | exact zb_01 _) ?_
          first | exact ⟨rfl, rfl⟩ | exact ⟨congrArg (fun z => some (vi (zb z))) lf_F3, rfl⟩
        · exact ⟨(nk (n := 8) ha rfl (by decide)), (nk (n := 8) hb rfl (by decide)), (nk (n := 8) hc rfl (by decide))⟩
      · skip
        refine ⟨false, ?_, ?_, fun h => by cases h⟩
        · intro μ
          refine det_of h_SH_fit rfl rfl rfl ?_
          refine ev_gF3 [false, true] [] rfl ?_
          refine ev_top2 (a2 := _) (b2 := vi (nI 4)) rfl (congrArg vi (by decide)) ?_
          refine ev_kS 2 k_SH_15 rfl C_fits4 ⟨by decide, by decide⟩ rfl ?_
          refine ev_gF3 [false] [] rfl ?_
          refine ev_top2 (a2 := _) (b2 := vi (nI 1)) rfl (congrArg vi (by decide)) ?_
          refine ev_kS 2 k_SH_15 rfl C_fits1 ⟨by decide, by decide⟩ rfl ?_
          refine ev_gF3 [false] [] rfl ?_
          refine ev_top2 (a2 := _) (b2 := vi (nI 1)) rfl (congrArg vi (by decide)) ?_
          refine ev_kS 2 k_SH_15 rfl C_fits1 ⟨by decide, by decide⟩ rfl ?_
          refine ev_gF3 [false] [] rfl ?_
          refine ev_retz rfl (by first | decide | exact zb_01 _) ?_
          first | exact ⟨rfl, rfl⟩ | exact ⟨congrArg (fun z => some (vi (zb z))) lf_F3, rfl⟩
        · intro μ
          refine det_of h_MM_isAct rfl rfl rfl ?_
          refine ev_g0 rfl ?_
          refine ev_kS 3 k_MM_188 rfl (C_in_0_65) ⟨by decide, by decide⟩ rfl ?_
          refine ev_gF3 [false, true, false] [] rfl ?_
          refine ev_inS 4 k_MM_250 h_MM_isFirst rfl rfl rfl rfl ⟨by decide, by decide⟩ rfl ?_
          refine ev_gF3 [] [some 17] rfl ?_
          refine ev_inS 1 k_MM_218 h_MM_isN rfl rfl rfl rfl ⟨by decide, by decide⟩ rfl ?_
          refine ev_g0 rfl ?_
          refine ev_kS 3 k_MM_188 rfl (C_in_0_7) ⟨by decide, by decide⟩ rfl ?_
          refine ev_g0 rfl ?_
          refine ev_retz rfl (by first | decide | exact zb_01 _) ?_
          refine ev_gF3 [false] [] rfl ?_
          refine ev_inS 1 k_MM_218 h_MM_isN rfl rfl rfl rfl ⟨by decide, by decide⟩ rfl ?_
          refine ev_g0 rfl ?_
          refine ev_kS 3 k_MM_188 rfl (C_in_0_7) ⟨by decide, by decide⟩ rfl ?_
          refine ev_g0 rfl ?_
          refine ev_retz rfl (by first | decide | exact zb_01 _) ?_
          refine ev_gF3 [false] [] rfl ?_
          refine ev_inS 1 k_MM_218 h_MM_isN rfl rfl rfl rfl ⟨by decide, by decide⟩ rfl ?_
          refine ev_g0 rfl ?_
          refine ev_kS 3 k_MM_188 rfl (C_in_0_7) ⟨by decide, by decide⟩ rfl ?_
          refine ev_g0 rfl ?_
          refine ev_retz rfl (by first | decide | exact zb_01 _) ?_
          refine ev_gF3 [true] [] rfl ?_
          refine ev_retz rfl (by first | decide | exact zb_01 _) ?_
          refine ev_g0 rfl ?_
          refine ev_retz rfl (by first | decide | exact zb_01 _) ?_
          first | exact ⟨rfl, rfl⟩ | exact ⟨congrArg (fun z => some (vi (zb z))) lf_F3, rfl⟩
    · skip
      refine ⟨false, ?_, ?_, fun h => by cases h⟩
      · intro μ
        refine det_of h_SH_fit rfl rfl rfl ?_
        refine ev_gF3 [false, true] [] rfl ?_
        refine ev_top2 (a2 := _) (b2 := vi (nI 4)) rfl (congrArg vi (by decide)) ?_
        refine ev_kS 2 k_SH_15 rfl C_fits4 ⟨by decide, by decide⟩ rfl ?_
        refine ev_gF3 [false] [] rfl ?_
        refine ev_top2 (a2 := _) (b2 := vi (nI 1)) rfl (congrArg vi (by decide)) ?_
        refine ev_kS 2 k_SH_15 rfl C_fits1 ⟨by decide, by decide⟩ rfl ?_
        refine ev_gF3 [true] [] rfl ?_
        refine ev_retz rfl (by first | decide | exact zb_01 _) ?_
        first | exact ⟨rfl, rfl⟩ | exact ⟨congrArg (fun z => some (vi (zb z))) lf_F3, rfl⟩
      · intro μ
        refine det_of h_MM_isAct rfl rfl rfl ?_
        refine ev_g0 rfl ?_
        refine ev_kS 3 k_MM_188 rfl (C_in_0_65) ⟨by decide, by decide⟩ rfl ?_
        refine ev_gF3 [false, true, false] [] rfl ?_
        refine ev_inS 4 k_MM_250 h_MM_isFirst rfl rfl rfl rfl ⟨by decide, by decide⟩ rfl ?_
        refine ev_gF3 [] [some 17] rfl ?_
        refine ev_inS 1 k_MM_218 h_MM_isN rfl rfl rfl rfl ⟨by decide, by decide⟩ rfl ?_
        refine ev_g0 rfl ?_
        refine ev_kS 3 k_MM_188 rfl (C_in_0_7) ⟨by decide, by decide⟩ rfl ?_
        refine ev_g0 rfl ?_
        refine ev_retz rfl (by first | decide | exact zb_01 _) ?_
        refine ev_gF3 [false] [] rfl ?_
        refine ev_inS 1 k_MM_218 h_MM_isN rfl rfl rfl rfl ⟨by decide, by decide⟩ rfl ?_
        refine ev_g0 rfl ?_
        refine ev_kS 3 k_MM_188 rfl (C_in_0_7) ⟨by decide, by decide⟩ rfl ?_
        refine ev_g0 rfl ?_
        refine ev_retz rfl (by first | decide | exact zb_01 _) ?_
        refine ev_gF3 [true] [] rfl ?_
        refine ev_retz rfl (by first | decide | exact zb_01 _) ?_
        refine ev_g0 rfl ?_
        refine ev_retz rfl (by first | decide | exact zb_01 _) ?_
        first | exact ⟨rfl, rfl⟩ | exact ⟨congrArg (fun z => some (vi (zb z))) lf_F3, rfl⟩
  · skip
    refine ⟨false, ?_, ?_, fun h => by cases h⟩
    · intro μ
      refine det_of h_SH_fit rfl rfl rfl ?_
      refine ev_gF3 [false, true] [] rfl ?_
      refine ev_top2 (a2 := _) (b2 := vi (nI 4)) rfl (congrArg vi (by decide)) ?_
      refine ev_kS 2 k_SH_15 rfl C_fits4 ⟨by decide, by decide⟩ rfl ?_
      refine ev_gF3 [true] [] rfl ?_
      refine ev_retz rfl (by first | decide | exact zb_01 _) ?_
      first | exact ⟨rfl, rfl⟩ | exact ⟨congrArg (fun z => some (vi (zb z))) lf_F3, rfl⟩
    · intro μ
      refine det_of h_MM_isAct rfl rfl rfl ?_
      refine ev_g0 rfl ?_
      refine ev_kS 3 k_MM_188 rfl (C_in_0_65) ⟨by decide, by decide⟩ rfl ?_
      refine ev_gF3 [false, true, false] [] rfl ?_
      refine ev_inS 4 k_MM_250 h_MM_isFirst rfl rfl rfl rfl ⟨by decide, by decide⟩ rfl ?_
      refine ev_gF3 [] [some 17] rfl ?_
      refine ev_inS 1 k_MM_218 h_MM_isN rfl rfl rfl rfl ⟨by decide, by decide⟩ rfl ?_
      refine ev_g0 rfl ?_
      refine ev_kS 3 k_MM_188 rfl (C_in_0_7) ⟨by decide, by decide⟩ rfl ?_
      refine ev_g0 rfl ?_
      refine ev_retz rfl (by first | decide | exact zb_01 _) ?_
      refine ev_gF3 [true] [] rfl ?_
      refine ev_retz rfl (by first | decide | exact zb_01 _) ?_
      refine ev_g0 rfl ?_
      refine ev_retz rfl (by first | decide | exact zb_01 _) ?_
      first | exact ⟨rfl, rfl⟩ | exact ⟨congrArg (fun z => some (vi (zb z))) lf_F3, rfl⟩
theorem FT_18 {a b c : Int32} : ∃ v : Bool, (∀ μ : mm_M, mm_Det Y_SH_fit [vi (nI 18), vi a, vi b, vi c] μ (some (vi (zb v))) μ) ∧ (∀ μm : mm_M, mm_Det Y_MM_isAct [vi (nI 18), vi a, vi b, vi c] μm (some (vi (zb v))) μm) ∧ (v = true → OKA 18 a b c) := by
  by_cases ha : 0 ≤ a.toInt ∧ a.toInt ≤ 7
  · skip
    by_cases hb : 0 ≤ b.toInt ∧ b.toInt ≤ 4
    · skip
      refine ⟨true, ?_, ?_, fun _ => ?_⟩
      · intro μ
        refine det_of h_SH_fit rfl rfl rfl ?_
        refine ev_gF3 [false, true] [] rfl ?_
        refine ev_top2 (a2 := _) (b2 := vi (nI 4)) rfl (congrArg vi (by decide)) ?_
        refine ev_kS 2 k_SH_15 rfl C_fits4 ⟨by decide, by decide⟩ rfl ?_
        refine ev_gF3 [false] [] rfl ?_
        refine ev_top2 (a2 := _) (b2 := vi (nI 13)) rfl (congrArg vi (by decide)) ?_
        refine ev_kS 2 k_SH_15 rfl C_fits13 ⟨by decide, by decide⟩ rfl ?_
        refine ev_gF3 [false] [] rfl ?_
        refine ev_top2 (a2 := _) (b2 := vi (nI 0)) rfl (congrArg vi (by decide)) ?_
        refine ev_kS 2 k_SH_15 rfl C_fits0 ⟨by decide, by decide⟩ rfl ?_
        refine ev_gF3 [true] [] rfl ?_
        refine ev_inS 4 k_SH_19 h_SH_fitsByB rfl rfl rfl rfl ⟨by decide, by decide⟩ rfl ?_
        refine ev_gF3 [true, false, true] [] rfl ?_
        refine ev_retz rfl (by first | decide | exact zb_01 _) ?_
        refine ev_g0 rfl ?_
        refine ev_retz rfl (by first | decide | exact zb_01 _) ?_
        first | exact ⟨rfl, rfl⟩ | exact ⟨congrArg (fun z => some (vi (zb z))) lf_F3, rfl⟩
      · intro μ
        refine det_of h_MM_isAct rfl rfl rfl ?_
        refine ev_g0 rfl ?_
        refine ev_kS 3 k_MM_188 rfl (C_in_0_65) ⟨by decide, by decide⟩ rfl ?_
        refine ev_gF3 [false, true, false] [] rfl ?_
        refine ev_inS 4 k_MM_250 h_MM_isFirst rfl rfl rfl rfl ⟨by decide, by decide⟩ rfl ?_
        refine ev_gF3 [] [some 18] rfl ?_
        refine ev_inS 1 k_MM_218 h_MM_isN rfl rfl rfl rfl ⟨by decide, by decide⟩ rfl ?_
        refine ev_g0 rfl ?_
        refine ev_kS 3 k_MM_188 rfl (C_in_0_7) ⟨by decide, by decide⟩ rfl ?_
        refine ev_g0 rfl ?_
        refine ev_retz rfl (by first | decide | exact zb_01 _) ?_
        refine ev_gF3 [false] [] rfl ?_
        refine ev_kS 3 k_MM_188 rfl (C_in_0_4) ⟨by decide, by decide⟩ rfl ?_
        refine ev_gF3 [false] [] rfl ?_
        refine ev_retz rfl (by first | decide | exact zb_01 _) ?_
        refine ev_g0 rfl ?_
        refine ev_retz rfl (by first | decide | exact zb_01 _) ?_
        first | exact ⟨rfl, rfl⟩ | exact ⟨congrArg (fun z => some (vi (zb z))) lf_F3, rfl⟩
      · exact ⟨(nk (n := 8) ha rfl (by decide)), (nk (n := 5) hb rfl (by decide))⟩
    · skip
      refine ⟨false, ?_, ?_, fun h => by cases h⟩
      · intro μ
        refine det_of h_SH_fit rfl rfl rfl ?_
        refine ev_gF3 [false, true] [] rfl ?_
        refine ev_top2 (a2 := _) (b2 := vi (nI 4)) rfl (congrArg vi (by decide)) ?_
        refine ev_kS 2 k_SH_15 rfl C_fits4 ⟨by decide, by decide⟩ rfl ?_
        refine ev_gF3 [false] [] rfl ?_
        refine ev_top2 (a2 := _) (b2 := vi (nI 13)) rfl (congrArg vi (by decide)) ?_
        refine ev_kS 2 k_SH_15 rfl C_fits13 ⟨by decide, by decide⟩ rfl ?_
        refine ev_gF3 [true] [] rfl ?_
        refine ev_retz rfl (by first | decide | exact zb_01 _) ?_
        first | exact ⟨rfl, rfl⟩ | exact ⟨congrArg (fun z => some (vi (zb z))) lf_F3, rfl⟩
      · intro μ
        refine det_of h_MM_isAct rfl rfl rfl ?_
        refine ev_g0 rfl ?_
        refine ev_kS 3 k_MM_188 rfl (C_in_0_65) ⟨by decide, by decide⟩ rfl ?_
        refine ev_gF3 [false, true, false] [] rfl ?_
        refine ev_inS 4 k_MM_250 h_MM_isFirst rfl rfl rfl rfl ⟨by decide, by decide⟩ rfl ?_
        refine ev_gF3 [] [some 18] rfl ?_
        refine ev_inS 1 k_MM_218 h_MM_isN rfl rfl rfl rfl ⟨by decide, by decide⟩ rfl ?_
        refine ev_g0 rfl ?_
        refine ev_kS 3 k_MM_188 rfl (C_in_0_7) ⟨by decide, by decide⟩ rfl ?_
        refine ev_g0 rfl ?_
        refine ev_retz rfl (by first | decide | exact zb_01 _) ?_
        refine ev_gF3 [false] [] rfl ?_
        refine ev_kS 3 k_MM_188 rfl (C_in_0_4) ⟨by decide, by decide⟩ rfl ?_
        refine ev_gF3 [true] [] rfl ?_
        refine ev_retz rfl (by first | decide | exact zb_01 _) ?_
        refine ev_g0 rfl ?_
        refine ev_retz rfl (by first | decide | exact zb_01 _) ?_
        first | exact ⟨rfl, rfl⟩ | exact ⟨congrArg (fun z => some (vi (zb z))) lf_F3, rfl⟩
  · skip
    refine ⟨false, ?_, ?_, fun h => by cases h⟩
    · intro μ
      refine det_of h_SH_fit rfl rfl rfl ?_
      refine ev_gF3 [false, true] [] rfl ?_
      refine ev_top2 (a2 := _) (b2 := vi (nI 4)) rfl (congrArg vi (by decide)) ?_
      refine ev_kS 2 k_SH_15 rfl C_fits4 ⟨by decide, by decide⟩ rfl ?_
      refine ev_gF3 [true] [] rfl ?_
      refine ev_retz rfl (by first | decide | exact zb_01 _) ?_
      first | exact ⟨rfl, rfl⟩ | exact ⟨congrArg (fun z => some (vi (zb z))) lf_F3, rfl⟩
    · intro μ
      refine det_of h_MM_isAct rfl rfl rfl ?_
      refine ev_g0 rfl ?_
      refine ev_kS 3 k_MM_188 rfl (C_in_0_65) ⟨by decide, by decide⟩ rfl ?_
      refine ev_gF3 [false, true, false] [] rfl ?_
      refine ev_inS 4 k_MM_250 h_MM_isFirst rfl rfl rfl rfl ⟨by decide, by decide⟩ rfl ?_
      refine ev_gF3 [] [some 18] rfl ?_
      refine ev_inS 1 k_MM_218 h_MM_isN rfl rfl rfl rfl ⟨by decide, by decide⟩ rfl ?_
      refine ev_g0 rfl ?_
      refine ev_kS 3 k_MM_188 rfl (C_in_0_7) ⟨by decide, by decide⟩ rfl ?_
      refine ev_g0 rfl ?_
      refine ev_retz rfl (by first | decide | exact zb_01 _) ?_
      refine ev_gF3 [true] [] rfl ?_
      refine ev_retz rfl (by first | decide | exact zb_01 _) ?_
      refine ev_g0 rfl ?_
      refine ev_retz rfl (by first | decide | exact zb_01 _) ?_
      first | exact ⟨rfl, rfl⟩ | exact ⟨congrArg (fun z => some (vi (zb z))) lf_F3, rfl⟩
theorem FT_20 {a b c : Int32} : ∃ v : Bool, (∀ μ : mm_M, mm_Det Y_SH_fit [vi (nI 20), vi a, vi b, vi c] μ (some (vi (zb v))) μ) ∧ (∀ μm : mm_M, mm_Det Y_MM_isAct [vi (nI 20), vi a, vi b, vi c] μm (some (vi (zb v))) μm) ∧ (v = true → OKA 20 a b c) := by
  by_cases ha : 0 ≤ a.toInt ∧ a.toInt ≤ 7
  · skip
    by_cases hb : 0 ≤ b.toInt ∧ b.toInt ≤ 7
    · skip
      by_cases hc : 0 ≤ c.toInt ∧ c.toInt ≤ 7
      · skip
        refine ⟨true, ?_, ?_, fun _ => ?_⟩
        · intro μ
          refine det_of h_SH_fit rfl rfl rfl ?_
          refine ev_gF3 [false, true] [] rfl ?_
          refine ev_top2 (a2 := _) (b2 := vi (nI 1)) rfl (congrArg vi (by decide)) ?_
          refine ev_kS 2 k_SH_15 rfl C_fits1 ⟨by decide, by decide⟩ rfl ?_
          refine ev_gF3 [false] [] rfl ?_
          refine ev_top2 (a2 := _) (b2 := vi (nI 4)) rfl (congrArg vi (by decide)) ?_
          refine ev_kS 2 k_SH_15 rfl C_fits4 ⟨by decide, by decide⟩ rfl ?_
          refine ev_gF3 [false] [] rfl ?_
          refine ev_top2 (a2 := _) (b2 := vi (nI 1)) rfl (congrArg vi (by decide)) ?_
          refine ev_kS 2 k_SH_15 rfl C_fits1 ⟨by decide, by decide⟩ rfl ?_
          refine ev_gF3 [true] [] rfl ?_
          refine ev_inS 4 k_SH_19 h_SH_fitsByB rfl rfl rfl rfl ⟨by decide, by decide⟩ rfl ?_
          refine ev_gF3 [true, false, true] [] rfl ?_
          refine ev_retz rfl (by first | decide | exact zb_01 _) ?_
          refine ev_g0 rfl ?_
          refine ev_retz rfl (by first | decide | exact zb_01 _) ?_
          first | exact ⟨rfl, rfl⟩ | exact ⟨congrArg (fun z => some (vi (zb z))) lf_F3, rfl⟩
        · intro μ
          refine det_of h_MM_isAct rfl rfl rfl ?_
          refine ev_g0 rfl ?_
          refine ev_kS 3 k_MM_188 rfl (C_in_0_65) ⟨by decide, by decide⟩ rfl ?_
          refine ev_gF3 [false, true, true, false, false, true] [] rfl ?_
          refine ev_inS 1 k_MM_218 h_MM_isN rfl rfl rfl rfl ⟨by decide, by decide⟩ rfl ?_
          refine ev_g0 rfl ?_
          refine ev_kS 3 k_MM_188 rfl (C_in_0_7) ⟨by decide, by decide⟩ rfl ?_
          refine ev_g0 rfl ?_
          refine ev_retz rfl (by first | decide | exact zb_01 _) ?_
          refine ev_gF3 [false] [] rfl ?_
          refine ev_inS 1 k_MM_218 h_MM_isN rfl rfl rfl rfl ⟨by decide, by decide⟩ rfl ?_
          refine ev_g0 rfl ?_
          refine ev_kS 3 k_MM_188 rfl (C_in_0_7) ⟨by decide, by decide⟩ rfl ?_
          refine ev_g0 rfl ?_
          refine ev_retz rfl (by first | decide | exact zb_01 _) ?_
          refine ev_gF3 [false] [] rfl ?_
          refine ev_inS 1 k_MM_218 h_MM_isN rfl rfl rfl rfl ⟨by decide, by decide⟩ rfl ?_
          refine ev_g0 rfl ?_
          refine ev_kS 3 k_MM_188 rfl (C_in_0_7) ⟨by decide, by decide⟩ rfl ?_
          refine ev_g0 rfl ?_
          refine ev_retz rfl (by first | decide | exact zb_01 _) ?_
          refine ev_gF3 [false] [] rfl ?_
          refine ev_retz rfl (by first | decide | exact zb_01 _) ?_
          first | exact ⟨rfl, rfl⟩ | exact ⟨congrArg (fun z => some (vi (zb z))) lf_F3, rfl⟩
        · exact ⟨(nk (n := 8) ha rfl (by decide)), (nk (n := 8) hb rfl (by decide)), (nk (n := 8) hc rfl (by decide))⟩
      · skip
        refine ⟨false, ?_, ?_, fun h => by cases h⟩
        · intro μ
          refine det_of h_SH_fit rfl rfl rfl ?_
          refine ev_gF3 [false, true] [] rfl ?_
          refine ev_top2 (a2 := _) (b2 := vi (nI 1)) rfl (congrArg vi (by decide)) ?_
          refine ev_kS 2 k_SH_15 rfl C_fits1 ⟨by decide, by decide⟩ rfl ?_
          refine ev_gF3 [false] [] rfl ?_
          refine ev_top2 (a2 := _) (b2 := vi (nI 4)) rfl (congrArg vi (by decide)) ?_
          refine ev_kS 2 k_SH_15 rfl C_fits4 ⟨by decide, by decide⟩ rfl ?_
          refine ev_gF3 [false] [] rfl ?_
          refine ev_top2 (a2 := _) (b2 := vi (nI 1)) rfl (congrArg vi (by decide)) ?_
          refine ev_kS 2 k_SH_15 rfl C_fits1 ⟨by decide, by decide⟩ rfl ?_
          refine ev_gF3 [false] [] rfl ?_
          refine ev_retz rfl (by first | decide | exact zb_01 _) ?_
          first | exact ⟨rfl, rfl⟩ | exact ⟨congrArg (fun z => some (vi (zb z))) lf_F3, rfl⟩
        · intro μ
          refine det_of h_MM_isAct rfl rfl rfl ?_
          refine ev_g0 rfl ?_
          refine ev_kS 3 k_MM_188 rfl (C_in_0_65) ⟨by decide, by decide⟩ rfl ?_
          refine ev_gF3 [false, true, true, false, false, true] [] rfl ?_
          refine ev_inS 1 k_MM_218 h_MM_isN rfl rfl rfl rfl ⟨by decide, by decide⟩ rfl ?_
          refine ev_g0 rfl ?_
          refine ev_kS 3 k_MM_188 rfl (C_in_0_7) ⟨by decide, by decide⟩ rfl ?_
          refine ev_g0 rfl ?_
          refine ev_retz rfl (by first | decide | exact zb_01 _) ?_
          refine ev_gF3 [false] [] rfl ?_
          refine ev_inS 1 k_MM_218 h_MM_isN rfl rfl rfl rfl ⟨by decide, by decide⟩ rfl ?_
          refine ev_g0 rfl ?_
          refine ev_kS 3 k_MM_188 rfl (C_in_0_7) ⟨by decide, by decide⟩ rfl ?_
          refine ev_g0 rfl ?_
          refine ev_retz rfl (by first | decide | exact zb_01 _) ?_
          refine ev_gF3 [false] [] rfl ?_
          refine ev_inS 1 k_MM_218 h_MM_isN rfl rfl rfl rfl ⟨by decide, by decide⟩ rfl ?_
          refine ev_g0 rfl ?_
          refine ev_kS 3 k_MM_188 rfl (C_in_0_7) ⟨by decide, by decide⟩ rfl ?_
          refine ev_g0 rfl ?_
          refine ev_retz rfl (by first | decide | exact zb_01 _) ?_
          refine ev_gF3 [true] [] rfl ?_
          refine ev_retz rfl (by first | decide | exact zb_01 _) ?_
          first | exact ⟨rfl, rfl⟩ | exact ⟨congrArg (fun z => some (vi (zb z))) lf_F3, rfl⟩
    · skip
      refine ⟨false, ?_, ?_, fun h => by cases h⟩
      · intro μ
        refine det_of h_SH_fit rfl rfl rfl ?_
        refine ev_gF3 [false, true] [] rfl ?_
        refine ev_top2 (a2 := _) (b2 := vi (nI 1)) rfl (congrArg vi (by decide)) ?_
        refine ev_kS 2 k_SH_15 rfl C_fits1 ⟨by decide, by decide⟩ rfl ?_
        refine ev_gF3 [false] [] rfl ?_
        refine ev_top2 (a2 := _) (b2 := vi (nI 4)) rfl (congrArg vi (by decide)) ?_
        refine ev_kS 2 k_SH_15 rfl C_fits4 ⟨by decide, by decide⟩ rfl ?_
        refine ev_gF3 [true] [] rfl ?_
        refine ev_retz rfl (by first | decide | exact zb_01 _) ?_
        first | exact ⟨rfl, rfl⟩ | exact ⟨congrArg (fun z => some (vi (zb z))) lf_F3, rfl⟩
      · intro μ
        refine det_of h_MM_isAct rfl rfl rfl ?_
        refine ev_g0 rfl ?_
        refine ev_kS 3 k_MM_188 rfl (C_in_0_65) ⟨by decide, by decide⟩ rfl ?_
        refine ev_gF3 [false, true, true, false, false, true] [] rfl ?_
        refine ev_inS 1 k_MM_218 h_MM_isN rfl rfl rfl rfl ⟨by decide, by decide⟩ rfl ?_
        refine ev_g0 rfl ?_
        refine ev_kS 3 k_MM_188 rfl (C_in_0_7) ⟨by decide, by decide⟩ rfl ?_
        refine ev_g0 rfl ?_
        refine ev_retz rfl (by first | decide | exact zb_01 _) ?_
        refine ev_gF3 [false] [] rfl ?_
        refine ev_inS 1 k_MM_218 h_MM_isN rfl rfl rfl rfl ⟨by decide, by decide⟩ rfl ?_
        refine ev_g0 rfl ?_
        refine ev_kS 3 k_MM_188 rfl (C_in_0_7) ⟨by decide, by decide⟩ rfl ?_
        refine ev_g0 rfl ?_
        refine ev_retz rfl (by first | decide | exact zb_01 _) ?_
        refine ev_gF3 [true] [] rfl ?_
        refine ev_retz rfl (by first | decide | exact zb_01 _) ?_
        first | exact ⟨rfl, rfl⟩ | exact ⟨congrArg (fun z => some (vi (zb z))) lf_F3, rfl⟩
  · skip
    refine ⟨false, ?_, ?_, fun h => by cases h⟩
    · intro μ
      refine det_of h_SH_fit rfl rfl rfl ?_
      refine ev_gF3 [false, true] [] rfl ?_
      refine ev_top2 (a2 := _) (b2 := vi (nI 1)) rfl (congrArg vi (by decide)) ?_
      refine ev_kS 2 k_SH_15 rfl C_fits1 ⟨by decide, by decide⟩ rfl ?_
      refine ev_gF3 [true] [] rfl ?_
      refine ev_retz rfl (by first | decide | exact zb_01 _) ?_
      first | exact ⟨rfl, rfl⟩ | exact ⟨congrArg (fun z => some (vi (zb z))) lf_F3, rfl⟩
    · intro μ
      refine det_of h_MM_isAct rfl rfl rfl ?_
      refine ev_g0 rfl ?_
      refine ev_kS 3 k_MM_188 rfl (C_in_0_65) ⟨by decide, by decide⟩ rfl ?_
      refine ev_gF3 [false, true, true, false, false, true] [] rfl ?_
      refine ev_inS 1 k_MM_218 h_MM_isN rfl rfl rfl rfl ⟨by decide, by decide⟩ rfl ?_
      refine ev_g0 rfl ?_
      refine ev_kS 3 k_MM_188 rfl (C_in_0_7) ⟨by decide, by decide⟩ rfl ?_
      refine ev_g0 rfl ?_
      refine ev_retz rfl (by first | decide | exact zb_01 _) ?_
      refine ev_gF3 [true] [] rfl ?_
      refine ev_retz rfl (by first | decide | exact zb_01 _) ?_
      first | exact ⟨rfl, rfl⟩ | exact ⟨congrArg (fun z => some (vi (zb z))) lf_F3, rfl⟩
theorem FT_21 {a b c : Int32} : ∃ v : Bool, (∀ μ : mm_M, mm_Det Y_SH_fit [vi (nI 21), vi a, vi b, vi c] μ (some (vi (zb v))) μ) ∧ (∀ μm : mm_M, mm_Det Y_MM_isAct [vi (nI 21), vi a, vi b, vi c] μm (some (vi (zb v))) μm) ∧ (v = true → OKA 21 a b c) := by
  by_cases ha : 0 ≤ a.toInt ∧ a.toInt ≤ 7
  · skip
    by_cases hb : 0 ≤ b.toInt ∧ b.toInt ≤ 7
    · skip
      by_cases hc : 0 ≤ c.toInt ∧ c.toInt ≤ 7
      · skip
        refine ⟨true, ?_, ?_, fun _ => ?_⟩
        · intro μ
          refine det_of h_SH_fit rfl rfl rfl ?_
          refine ev_gF3 [false, true] [] rfl ?_
          refine ev_top2 (a2 := _) (b2 := vi (nI 1)) rfl (congrArg vi (by decide)) ?_
          refine ev_kS 2 k_SH_15 rfl C_fits1 ⟨by decide, by decide⟩ rfl ?_
          refine ev_gF3 [false] [] rfl ?_
          refine ev_top2 (a2 := _) (b2 := vi (nI 4)) rfl (congrArg vi (by decide)) ?_
          refine ev_kS 2 k_SH_15 rfl C_fits4 ⟨by decide, by decide⟩ rfl ?_
          refine ev_gF3 [false] [] rfl ?_
          refine ev_top2 (a2 := _) (b2 := vi (nI 1)) rfl (congrArg vi (by decide)) ?_
          refine ev_kS 2 k_SH_15 rfl C_fits1 ⟨by decide, by decide⟩ rfl ?_
          refine ev_gF3 [true] [] rfl ?_
          refine ev_inS 4 k_SH_19 h_SH_fitsByB rfl rfl rfl rfl ⟨by decide, by decide⟩ rfl ?_
          refine ev_gF3 [true, false, true] [] rfl ?_
          refine ev_retz rfl (by first | decide | exact zb_01 _) ?_
          refine ev_g0 rfl ?_
          refine ev_retz rfl (by first | decide | exact zb_01 _) ?_
          first | exact ⟨rfl, rfl⟩ | exact ⟨congrArg (fun z => some (vi (zb z))) lf_F3, rfl⟩
        · intro μ
          refine det_of h_MM_isAct rfl rfl rfl ?_
          refine ev_g0 rfl ?_
          refine ev_kS 3 k_MM_188 rfl (C_in_0_65) ⟨by decide, by decide⟩ rfl ?_
          refine ev_gF3 [false, true, true, false, false, true] [] rfl ?_
          refine ev_inS 1 k_MM_218 h_MM_isN rfl rfl rfl rfl ⟨by decide, by decide⟩ rfl ?_
          refine ev_g0 rfl ?_
          refine ev_kS 3 k_MM_188 rfl (C_in_0_7) ⟨by decide, by decide⟩ rfl ?_
          refine ev_g0 rfl ?_
          refine ev_retz rfl (by first | decide | exact zb_01 _) ?_
          refine ev_gF3 [false] [] rfl ?_
          refine ev_inS 1 k_MM_218 h_MM_isN rfl rfl rfl rfl ⟨by decide, by decide⟩ rfl ?_
          refine ev_g0 rfl ?_
          refine ev_kS 3 k_MM_188 rfl (C_in_0_7) ⟨by decide, by decide⟩ rfl ?_
          refine ev_g0 rfl ?_
          refine ev_retz rfl (by first | decide | exact zb_01 _) ?_
          refine ev_gF3 [false] [] rfl ?_
          refine ev_inS 1 k_MM_218 h_MM_isN rfl rfl rfl rfl ⟨by decide, by decide⟩ rfl ?_
          refine ev_g0 rfl ?_
          refine ev_kS 3 k_MM_188 rfl (C_in_0_7) ⟨by decide, by decide⟩ rfl ?_
          refine ev_g0 rfl ?_
          refine ev_retz rfl (by first | decide | exact zb_01 _) ?_
          refine ev_gF3 [false] [] rfl ?_
          refine ev_retz rfl (by first | decide | exact zb_01 _) ?_
          first | exact ⟨rfl, rfl⟩ | exact ⟨congrArg (fun z => some (vi (zb z))) lf_F3, rfl⟩
        · exact ⟨(nk (n := 8) ha rfl (by decide)), (nk (n := 8) hb rfl (by decide)), (nk (n := 8) hc rfl (by decide))⟩
      · skip
        refine ⟨false, ?_, ?_, fun h => by cases h⟩
        · intro μ
          refine det_of h_SH_fit rfl rfl rfl ?_
          refine ev_gF3 [false, true] [] rfl ?_
          refine ev_top2 (a2 := _) (b2 := vi (nI 1)) rfl (congrArg vi (by decide)) ?_
          refine ev_kS 2 k_SH_15 rfl C_fits1 ⟨by decide, by decide⟩ rfl ?_
          refine ev_gF3 [false] [] rfl ?_
          refine ev_top2 (a2 := _) (b2 := vi (nI 4)) rfl (congrArg vi (by decide)) ?_
          refine ev_kS 2 k_SH_15 rfl C_fits4 ⟨by decide, by decide⟩ rfl ?_
          refine ev_gF3 [false] [] rfl ?_
          refine ev_top2 (a2 := _) (b2 := vi (nI 1)) rfl (congrArg vi (by decide)) ?_
          refine ev_kS 2 k_SH_15 rfl C_fits1 ⟨by decide, by decide⟩ rfl ?_
          refine ev_gF3 [false] [] rfl ?_
          refine ev_retz rfl (by first | decide | exact zb_01 _) ?_
          first | exact ⟨rfl, rfl⟩ | exact ⟨congrArg (fun z => some (vi (zb z))) lf_F3, rfl⟩
        · intro μ
          refine det_of h_MM_isAct rfl rfl rfl ?_
          refine ev_g0 rfl ?_
          refine ev_kS 3 k_MM_188 rfl (C_in_0_65) ⟨by decide, by decide⟩ rfl ?_
          refine ev_gF3 [false, true, true, false, false, true] [] rfl ?_
          refine ev_inS 1 k_MM_218 h_MM_isN rfl rfl rfl rfl ⟨by decide, by decide⟩ rfl ?_
          refine ev_g0 rfl ?_
          refine ev_kS 3 k_MM_188 rfl (C_in_0_7) ⟨by decide, by decide⟩ rfl ?_
          refine ev_g0 rfl ?_
          refine ev_retz rfl (by first | decide | exact zb_01 _) ?_
          refine ev_gF3 [false] [] rfl ?_
          refine ev_inS 1 k_MM_218 h_MM_isN rfl rfl rfl rfl ⟨by decide, by decide⟩ rfl ?_
          refine ev_g0 rfl ?_
          refine ev_kS 3 k_MM_188 rfl (C_in_0_7) ⟨by decide, by decide⟩ rfl ?_
          refine ev_g0 rfl ?_
          refine ev_retz rfl (by first | decide | exact zb_01 _) ?_
          refine ev_gF3 [false] [] rfl ?_
          refine ev_inS 1 k_MM_218 h_MM_isN rfl rfl rfl rfl ⟨by decide, by decide⟩ rfl ?_
          refine ev_g0 rfl ?_
          refine ev_kS 3 k_MM_188 rfl (C_in_0_7) ⟨by decide, by decide⟩ rfl ?_
          refine ev_g0 rfl ?_
          refine ev_retz rfl (by first | decide | exact zb_01 _) ?_
          refine ev_gF3 [true] [] rfl ?_
          refine ev_retz rfl (by first | decide | exact zb_01 _) ?_
          first | exact ⟨rfl, rfl⟩ | exact ⟨congrArg (fun z => some (vi (zb z))) lf_F3, rfl⟩
    · skip
      refine ⟨false, ?_, ?_, fun h => by cases h⟩
      · intro μ
        refine det_of h_SH_fit rfl rfl rfl ?_
        refine ev_gF3 [false, true] [] rfl ?_
        refine ev_top2 (a2 := _) (b2 := vi (nI 1)) rfl (congrArg vi (by decide)) ?_
        refine ev_kS 2 k_SH_15 rfl C_fits1 ⟨by decide, by decide⟩ rfl ?_
        refine ev_gF3 [false] [] rfl ?_
        refine ev_top2 (a2 := _) (b2 := vi (nI 4)) rfl (congrArg vi (by decide)) ?_
        refine ev_kS 2 k_SH_15 rfl C_fits4 ⟨by decide, by decide⟩ rfl ?_
        refine ev_gF3 [true] [] rfl ?_
        refine ev_retz rfl (by first | decide | exact zb_01 _) ?_
        first | exact ⟨rfl, rfl⟩ | exact ⟨congrArg (fun z => some (vi (zb z))) lf_F3, rfl⟩
      · intro μ
        refine det_of h_MM_isAct rfl rfl rfl ?_
        refine ev_g0 rfl ?_
        refine ev_kS 3 k_MM_188 rfl (C_in_0_65) ⟨by decide, by decide⟩ rfl ?_
        refine ev_gF3 [false, true, true, false, false, true] [] rfl ?_
        refine ev_inS 1 k_MM_218 h_MM_isN rfl rfl rfl rfl ⟨by decide, by decide⟩ rfl ?_
        refine ev_g0 rfl ?_
        refine ev_kS 3 k_MM_188 rfl (C_in_0_7) ⟨by decide, by decide⟩ rfl ?_
        refine ev_g0 rfl ?_
        refine ev_retz rfl (by first | decide | exact zb_01 _) ?_
        refine ev_gF3 [false] [] rfl ?_
        refine ev_inS 1 k_MM_218 h_MM_isN rfl rfl rfl rfl ⟨by decide, by decide⟩ rfl ?_
        refine ev_g0 rfl ?_
        refine ev_kS 3 k_MM_188 rfl (C_in_0_7) ⟨by decide, by decide⟩ rfl ?_
        refine ev_g0 rfl ?_
        refine ev_retz rfl (by first | decide | exact zb_01 _) ?_
        refine ev_gF3 [true] [] rfl ?_
        refine ev_retz rfl (by first | decide | exact zb_01 _) ?_
        first | exact ⟨rfl, rfl⟩ | exact ⟨congrArg (fun z => some (vi (zb z))) lf_F3, rfl⟩
  · skip
    refine ⟨false, ?_, ?_, fun h => by cases h⟩
    · intro μ
      refine det_of h_SH_fit rfl rfl rfl ?_
      refine ev_gF3 [false, true] [] rfl ?_
      refine ev_top2 (a2 := _) (b2 := vi (nI 1)) rfl (congrArg vi (by decide)) ?_
      refine ev_kS 2 k_SH_15 rfl C_fits1 ⟨by decide, by decide⟩ rfl ?_
      refine ev_gF3 [true] [] rfl ?_
      refine ev_retz rfl (by first | decide | exact zb_01 _) ?_
      first | exact ⟨rfl, rfl⟩ | exact ⟨congrArg (fun z => some (vi (zb z))) lf_F3, rfl⟩
    · intro μ
      refine det_of h_MM_isAct rfl rfl rfl ?_
      refine ev_g0 rfl ?_
      refine ev_kS 3 k_MM_188 rfl (C_in_0_65) ⟨by decide, by decide⟩ rfl ?_
      refine ev_gF3 [false, true, true, false, false, true] [] rfl ?_
      refine ev_inS 1 k_MM_218 h_MM_isN rfl rfl rfl rfl ⟨by decide, by decide⟩ rfl ?_
      refine ev_g0 rfl ?_
      refine ev_kS 3 k_MM_188 rfl (C_in_0_7) ⟨by decide, by decide⟩ rfl ?_
      refine ev_g0 rfl ?_
      refine ev_retz rfl (by first | decide | exact zb_01 _) ?_
      refine ev_gF3 [true] [] rfl ?_
      refine ev_retz rfl (by first | decide | exact zb_01 _) ?_
      first | exact ⟨rfl, rfl⟩ | exact ⟨congrArg (fun z => some (vi (zb z))) lf_F3, rfl⟩
