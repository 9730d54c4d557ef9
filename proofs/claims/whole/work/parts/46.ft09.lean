set_option maxHeartbeats 16000000 in
theorem FT_52 {a b c : Int32} : ∃ v : Bool, (∀ μ : mm_M, mm_Det Y_SH_fit [vi (nI 52), vi a, vi b, vi c] μ (some (vi (zb v))) μ) ∧ (∀ μm : mm_M, mm_Det Y_MM_isAct [vi (nI 52), vi a, vi b, vi c] μm (some (vi (zb v))) μm) ∧ (v = true → OKA 52 a b c) := by
  by_cases hb : 0 ≤ b.toInt ∧ b.toInt ≤ 8 ∧ ¬ b.toInt = 5
  · rcases (by omega : b.toInt = 0 ∨ b.toInt = 1 ∨ b.toInt = 2 ∨ b.toInt = 3 ∨ b.toInt = 4 ∨ b.toInt = 6 ∨ b.toInt = 7 ∨ b.toInt = 8) with hb0 | hb0 | hb0 | hb0 | hb0 | hb0 | hb0 | hb0
    · obtain rfl := eqk (k := 0) hb0 (by decide)
      by_cases ha : 0 ≤ a.toInt ∧ a.toInt ≤ 7
      · skip
        by_cases hc : 0 ≤ c.toInt ∧ c.toInt ≤ 7
        · skip
          refine ⟨true, ?_, ?_, fun _ => ?_⟩
          · intro μ
            refine det_of h_SH_fit rfl rfl rfl ?_
            refine ev_gF3 [false, true] [] rfl ?_
            refine ev_top2 (a2 := _) (b2 := vi (nI 19)) rfl (congrArg vi (by decide)) ?_
            refine ev_kS 2 k_SH_15 rfl C_fits19 ⟨by decide, by decide⟩ rfl ?_
            refine ev_gF3 [false] [] rfl ?_
            refine ev_top2 (a2 := _) (b2 := vi (nI 16)) rfl (congrArg vi (by decide)) ?_
            refine ev_kS 2 k_SH_15 rfl C_fits16 ⟨by decide, by decide⟩ rfl ?_
            refine ev_gF3 [false] [] rfl ?_
            refine ev_top2 (a2 := _) (b2 := vi (nI 4)) rfl (congrArg vi (by decide)) ?_
            refine ev_kS 2 k_SH_15 rfl C_fits4 ⟨by decide, by decide⟩ rfl ?_
            refine ev_gF3 [true] [] rfl ?_
            refine ev_inS 4 k_SH_19 h_SH_fitsByB rfl rfl rfl rfl ⟨by decide, by decide⟩ rfl ?_
            refine ev_gF3 [true, false, false, false, false] [] rfl ?_
            refine ev_top2 (a2 := _) (b2 := vi (nI 1)) rfl (congrArg vi (by decide)) ?_
            refine ev_kS 2 k_SH_15 rfl C_fits1 ⟨by decide, by decide⟩ rfl ?_
            refine ev_gF3 [false] [] rfl ?_
            refine ev_retz rfl (by first | decide | exact zb_01 _) ?_
            refine ev_g0 rfl ?_
            refine ev_retz rfl (by first | decide | exact zb_01 _) ?_
            first | exact ⟨rfl, rfl⟩ | exact ⟨congrArg (fun z => some (vi (zb z))) lf_F3, rfl⟩
          · intro μ
            refine det_of h_MM_isAct rfl rfl rfl ?_
            refine ev_g0 rfl ?_
            refine ev_kS 3 k_MM_188 rfl (C_in_0_65) ⟨by decide, by decide⟩ rfl ?_
            refine ev_gF3 [false, true, true, true] [] rfl ?_
            refine ev_inS 4 k_MM_254 h_MM_isSecond rfl rfl rfl rfl ⟨by decide, by decide⟩ rfl ?_
            refine ev_gF3 [false] [some 10] rfl ?_
            refine ev_inS 3 k_MM_238 h_MM_isField rfl rfl rfl rfl ⟨by decide, by decide⟩ rfl ?_
            refine ev_g0 rfl ?_
            refine ev_kS 3 k_MM_188 rfl (C_in_0_8) ⟨by decide, by decide⟩ rfl ?_
            refine ev_gF3 [false] [] rfl ?_
            refine ev_inS 1 k_MM_218 h_MM_isN rfl rfl rfl rfl ⟨by decide, by decide⟩ rfl ?_
            refine ev_g0 rfl ?_
            refine ev_kS 3 k_MM_188 rfl (C_in_0_7) ⟨by decide, by decide⟩ rfl ?_
            refine ev_g0 rfl ?_
            refine ev_retz rfl (by first | decide | exact zb_01 _) ?_
            refine ev_gF3 [false, false, true] [] rfl ?_
            refine ev_inS 1 k_MM_218 h_MM_isN rfl rfl rfl rfl ⟨by decide, by decide⟩ rfl ?_
            refine ev_g0 rfl ?_
            refine ev_kS 3 k_MM_188 rfl (C_in_0_7) ⟨by decide, by decide⟩ rfl ?_
            refine ev_g0 rfl ?_
            refine ev_retz rfl (by first | decide | exact zb_01 _) ?_
            refine ev_gF3 [false] [] rfl ?_
            refine ev_retz rfl (by first | decide | exact zb_01 _) ?_
            refine ev_gF3 [false] [] rfl ?_
            refine ev_retz rfl (by first | decide | exact zb_01 _) ?_
            refine ev_g0 rfl ?_
            refine ev_retz rfl (by first | decide | exact zb_01 _) ?_
            first | exact ⟨rfl, rfl⟩ | exact ⟨congrArg (fun z => some (vi (zb z))) lf_F3, rfl⟩
          · exact Or.inl ⟨rfl, (nk (n := 8) ha rfl (by decide)), (nk (n := 8) hc rfl (by decide))⟩
        · skip
          refine ⟨false, ?_, ?_, fun h => by cases h⟩
          · intro μ
            refine det_of h_SH_fit rfl rfl rfl ?_
            refine ev_gF3 [false, true] [] rfl ?_
            refine ev_top2 (a2 := _) (b2 := vi (nI 19)) rfl (congrArg vi (by decide)) ?_
            refine ev_kS 2 k_SH_15 rfl C_fits19 ⟨by decide, by decide⟩ rfl ?_
            refine ev_gF3 [false] [] rfl ?_
            refine ev_top2 (a2 := _) (b2 := vi (nI 16)) rfl (congrArg vi (by decide)) ?_
            refine ev_kS 2 k_SH_15 rfl C_fits16 ⟨by decide, by decide⟩ rfl ?_
            refine ev_gF3 [false] [] rfl ?_
            refine ev_top2 (a2 := _) (b2 := vi (nI 4)) rfl (congrArg vi (by decide)) ?_
            refine ev_kS 2 k_SH_15 rfl C_fits4 ⟨by decide, by decide⟩ rfl ?_
            refine ev_gF3 [false] [] rfl ?_
            refine ev_retz rfl (by first | decide | exact zb_01 _) ?_
            first | exact ⟨rfl, rfl⟩ | exact ⟨congrArg (fun z => some (vi (zb z))) lf_F3, rfl⟩
          · intro μ
            refine det_of h_MM_isAct rfl rfl rfl ?_
            refine ev_g0 rfl ?_
            refine ev_kS 3 k_MM_188 rfl (C_in_0_65) ⟨by decide, by decide⟩ rfl ?_
            refine ev_gF3 [false, true, true, true] [] rfl ?_
            refine ev_inS 4 k_MM_254 h_MM_isSecond rfl rfl rfl rfl ⟨by decide, by decide⟩ rfl ?_
            refine ev_gF3 [false] [some 10] rfl ?_
            refine ev_inS 3 k_MM_238 h_MM_isField rfl rfl rfl rfl ⟨by decide, by decide⟩ rfl ?_
            refine ev_g0 rfl ?_
            refine ev_kS 3 k_MM_188 rfl (C_in_0_8) ⟨by decide, by decide⟩ rfl ?_
            refine ev_gF3 [false] [] rfl ?_
            refine ev_inS 1 k_MM_218 h_MM_isN rfl rfl rfl rfl ⟨by decide, by decide⟩ rfl ?_
            refine ev_g0 rfl ?_
            refine ev_kS 3 k_MM_188 rfl (C_in_0_7) ⟨by decide, by decide⟩ rfl ?_
            refine ev_g0 rfl ?_
            refine ev_retz rfl (by first | decide | exact zb_01 _) ?_
            refine ev_gF3 [true] [] rfl ?_
            refine ev_retz rfl (by first | decide | exact zb_01 _) ?_
            refine ev_gF3 [true] [] rfl ?_
            refine ev_retz rfl (by first | decide | exact zb_01 _) ?_
            refine ev_g0 rfl ?_
            refine ev_retz rfl (by first | decide | exact zb_01 _) ?_
            first | exact ⟨rfl, rfl⟩ | exact ⟨congrArg (fun z => some (vi (zb z))) lf_F3, rfl⟩
      · skip
        refine ⟨false, ?_, ?_, fun h => by cases h⟩
        · intro μ
          refine det_of h_SH_fit rfl rfl rfl ?_
          refine ev_gF3 [false, true] [] rfl ?_
          refine ev_top2 (a2 := _) (b2 := vi (nI 19)) rfl (congrArg vi (by decide)) ?_
          refine ev_kS 2 k_SH_15 rfl C_fits19 ⟨by decide, by decide⟩ rfl ?_
          refine ev_gF3 [false] [] rfl ?_
          refine ev_top2 (a2 := _) (b2 := vi (nI 16)) rfl (congrArg vi (by decide)) ?_
          refine ev_kS 2 k_SH_15 rfl C_fits16 ⟨by decide, by decide⟩ rfl ?_
          refine ev_gF3 [false] [] rfl ?_
          refine ev_top2 (a2 := _) (b2 := vi (nI 4)) rfl (congrArg vi (by decide)) ?_
          refine ev_kS 2 k_SH_15 rfl C_fits4 ⟨by decide, by decide⟩ rfl ?_
          refine ev_g0 rfl ?_
          refine ev_bF3 rfl rfl (fun h_1 => ?_) (fun h_1 => ?_)
          · skip
            refine ev_g0 rfl ?_
            refine ev_inS 4 k_SH_19 h_SH_fitsByB rfl rfl rfl rfl ⟨by decide, by decide⟩ rfl ?_
            refine ev_gF3 [true, false, false, false, false] [] rfl ?_
            refine ev_top2 (a2 := _) (b2 := vi (nI 1)) rfl (congrArg vi (by decide)) ?_
            refine ev_kS 2 k_SH_15 rfl C_fits1 ⟨by decide, by decide⟩ rfl ?_
            refine ev_gF3 [true] [] rfl ?_
            refine ev_retz rfl (by first | decide | exact zb_01 _) ?_
            refine ev_g0 rfl ?_
            refine ev_retz rfl (by first | decide | exact zb_01 _) ?_
            first | exact ⟨rfl, rfl⟩ | exact ⟨congrArg (fun z => some (vi (zb z))) lf_F3, rfl⟩
          · skip
            refine ev_g0 rfl ?_
            refine ev_retz rfl (by first | decide | exact zb_01 _) ?_
            first | exact ⟨rfl, rfl⟩ | exact ⟨congrArg (fun z => some (vi (zb z))) lf_F3, rfl⟩
        · intro μ
          refine det_of h_MM_isAct rfl rfl rfl ?_
          refine ev_g0 rfl ?_
          refine ev_kS 3 k_MM_188 rfl (C_in_0_65) ⟨by decide, by decide⟩ rfl ?_
          refine ev_gF3 [false, true, true, true] [] rfl ?_
          refine ev_inS 4 k_MM_254 h_MM_isSecond rfl rfl rfl rfl ⟨by decide, by decide⟩ rfl ?_
          refine ev_gF3 [false] [some 10] rfl ?_
          refine ev_inS 3 k_MM_238 h_MM_isField rfl rfl rfl rfl ⟨by decide, by decide⟩ rfl ?_
          refine ev_g0 rfl ?_
          refine ev_kS 3 k_MM_188 rfl (C_in_0_8) ⟨by decide, by decide⟩ rfl ?_
          refine ev_gF3 [false] [] rfl ?_
          refine ev_inS 1 k_MM_218 h_MM_isN rfl rfl rfl rfl ⟨by decide, by decide⟩ rfl ?_
          refine ev_g0 rfl ?_
          refine ev_kS 3 k_MM_188 rfl (C_in_0_7) ⟨by decide, by decide⟩ rfl ?_
          refine ev_g0 rfl ?_
          refine ev_retz rfl (by first | decide | exact zb_01 _) ?_
          refine ev_g0 rfl ?_
          refine ev_bF3 rfl rfl (fun h_1 => ?_) (fun h_1 => ?_)
          · skip
            refine ev_g0 rfl ?_
            refine ev_retz rfl (by first | decide | exact zb_01 _) ?_
            refine ev_gF3 [true] [] rfl ?_
            refine ev_retz rfl (by first | decide | exact zb_01 _) ?_
            refine ev_g0 rfl ?_
            refine ev_retz rfl (by first | decide | exact zb_01 _) ?_
            first | exact ⟨rfl, rfl⟩ | exact ⟨congrArg (fun z => some (vi (zb z))) lf_F3, rfl⟩
          · skip
            refine ev_gF3 [false, true] [] rfl ?_
            refine ev_inS 1 k_MM_218 h_MM_isN rfl rfl rfl rfl ⟨by decide, by decide⟩ rfl ?_
            refine ev_g0 rfl ?_
            refine ev_kS 3 k_MM_188 rfl (C_in_0_7) ⟨by decide, by decide⟩ rfl ?_
            refine ev_g0 rfl ?_
            refine ev_retz rfl (by first | decide | exact zb_01 _) ?_
            refine ev_gF3 [true] [] rfl ?_
            refine ev_retz rfl (by first | decide | exact zb_01 _) ?_
            refine ev_gF3 [true] [] rfl ?_
            refine ev_retz rfl (by first | decide | exact zb_01 _) ?_
            refine ev_g0 rfl ?_
            refine ev_retz rfl (by first | decide | exact zb_01 _) ?_
            first | exact ⟨rfl, rfl⟩ | exact ⟨congrArg (fun z => some (vi (zb z))) lf_F3, rfl⟩
    · obtain rfl := eqk (k := 1) hb0 (by decide)
      by_cases ha : 0 ≤ a.toInt ∧ a.toInt ≤ 3
      · skip
        by_cases hc : 0 ≤ c.toInt ∧ c.toInt ≤ 7
        · skip
          refine ⟨true, ?_, ?_, fun _ => ?_⟩
          · intro μ
            refine det_of h_SH_fit rfl rfl rfl ?_
            refine ev_gF3 [false, true] [] rfl ?_
            refine ev_top2 (a2 := _) (b2 := vi (nI 19)) rfl (congrArg vi (by decide)) ?_
            refine ev_kS 2 k_SH_15 rfl C_fits19 ⟨by decide, by decide⟩ rfl ?_
            refine ev_gF3 [false] [] rfl ?_
            refine ev_top2 (a2 := _) (b2 := vi (nI 16)) rfl (congrArg vi (by decide)) ?_
            refine ev_kS 2 k_SH_15 rfl C_fits16 ⟨by decide, by decide⟩ rfl ?_
            refine ev_gF3 [false] [] rfl ?_
            refine ev_top2 (a2 := _) (b2 := vi (nI 4)) rfl (congrArg vi (by decide)) ?_
            refine ev_kS 2 k_SH_15 rfl C_fits4 ⟨by decide, by decide⟩ rfl ?_
            refine ev_gF3 [true] [] rfl ?_
            refine ev_inS 4 k_SH_19 h_SH_fitsByB rfl rfl rfl rfl ⟨by decide, by decide⟩ rfl ?_
            refine ev_gF3 [true, false, false, false, false] [] rfl ?_
            refine ev_top2 (a2 := _) (b2 := vi (nI 2)) rfl (congrArg vi (by decide)) ?_
            refine ev_kS 2 k_SH_15 rfl C_fits2 ⟨by decide, by decide⟩ rfl ?_
            refine ev_gF3 [false] [] rfl ?_
            refine ev_retz rfl (by first | decide | exact zb_01 _) ?_
            refine ev_g0 rfl ?_
            refine ev_retz rfl (by first | decide | exact zb_01 _) ?_
            first | exact ⟨rfl, rfl⟩ | exact ⟨congrArg (fun z => some (vi (zb z))) lf_F3, rfl⟩
          · intro μ
            refine det_of h_MM_isAct rfl rfl rfl ?_
            refine ev_g0 rfl ?_
            refine ev_kS 3 k_MM_188 rfl (C_in_0_65) ⟨by decide, by decide⟩ rfl ?_
            refine ev_gF3 [false, true, true, true] [] rfl ?_
            refine ev_inS 4 k_MM_254 h_MM_isSecond rfl rfl rfl rfl ⟨by decide, by decide⟩ rfl ?_
            refine ev_gF3 [false] [some 10] rfl ?_
            refine ev_inS 3 k_MM_238 h_MM_isField rfl rfl rfl rfl ⟨by decide, by decide⟩ rfl ?_
            refine ev_g0 rfl ?_
            refine ev_kS 3 k_MM_188 rfl (C_in_0_8) ⟨by decide, by decide⟩ rfl ?_
            refine ev_gF3 [false] [] rfl ?_
            refine ev_inS 1 k_MM_218 h_MM_isN rfl rfl rfl rfl ⟨by decide, by decide⟩ rfl ?_
            refine ev_g0 rfl ?_
            refine ev_kS 3 k_MM_188 rfl (C_in_0_7) ⟨by decide, by decide⟩ rfl ?_
            refine ev_g0 rfl ?_
            refine ev_retz rfl (by first | decide | exact zb_01 _) ?_
            refine ev_gF3 [false, true] [] rfl ?_
            refine ev_inS 1 k_MM_214 h_MM_isX rfl rfl rfl rfl ⟨by decide, by decide⟩ rfl ?_
            refine ev_g0 rfl ?_
            refine ev_kS 3 k_MM_188 rfl (C_in_0_3) ⟨by decide, by decide⟩ rfl ?_
            refine ev_g0 rfl ?_
            refine ev_retz rfl (by first | decide | exact zb_01 _) ?_
            refine ev_gF3 [false] [] rfl ?_
            refine ev_retz rfl (by first | decide | exact zb_01 _) ?_
            refine ev_gF3 [false] [] rfl ?_
            refine ev_retz rfl (by first | decide | exact zb_01 _) ?_
            refine ev_g0 rfl ?_
            refine ev_retz rfl (by first | decide | exact zb_01 _) ?_
            first | exact ⟨rfl, rfl⟩ | exact ⟨congrArg (fun z => some (vi (zb z))) lf_F3, rfl⟩
          · exact Or.inr (Or.inl ⟨rfl, (nk (n := 4) ha rfl (by decide)), (nk (n := 8) hc rfl (by decide))⟩)
        · skip
          refine ⟨false, ?_, ?_, fun h => by cases h⟩
          · intro μ
            refine det_of h_SH_fit rfl rfl rfl ?_
            refine ev_gF3 [false, true] [] rfl ?_
            refine ev_top2 (a2 := _) (b2 := vi (nI 19)) rfl (congrArg vi (by decide)) ?_
            refine ev_kS 2 k_SH_15 rfl C_fits19 ⟨by decide, by decide⟩ rfl ?_
            refine ev_gF3 [false] [] rfl ?_
            refine ev_top2 (a2 := _) (b2 := vi (nI 16)) rfl (congrArg vi (by decide)) ?_
            refine ev_kS 2 k_SH_15 rfl C_fits16 ⟨by decide, by decide⟩ rfl ?_
            refine ev_gF3 [false] [] rfl ?_
            refine ev_top2 (a2 := _) (b2 := vi (nI 4)) rfl (congrArg vi (by decide)) ?_
            refine ev_kS 2 k_SH_15 rfl C_fits4 ⟨by decide, by decide⟩ rfl ?_
            refine ev_gF3 [false] [] rfl ?_
            refine ev_retz rfl (by first | decide | exact zb_01 _) ?_
            first | exact ⟨rfl, rfl⟩ | exact ⟨congrArg (fun z => some (vi (zb z))) lf_F3, rfl⟩
          · intro μ
            refine det_of h_MM_isAct rfl rfl rfl ?_
            refine ev_g0 rfl ?_
            refine ev_kS 3 k_MM_188 rfl (C_in_0_65) ⟨by decide, by decide⟩ rfl ?_
            refine ev_gF3 [false, true, true, true] [] rfl ?_
            refine ev_inS 4 k_MM_254 h_MM_isSecond rfl rfl rfl rfl ⟨by decide, by decide⟩ rfl ?_
            refine ev_gF3 [false] [some 10] rfl ?_
            refine ev_inS 3 k_MM_238 h_MM_isField rfl rfl rfl rfl ⟨by decide, by decide⟩ rfl ?_
            refine ev_g0 rfl ?_
            refine ev_kS 3 k_MM_188 rfl (C_in_0_8) ⟨by decide, by decide⟩ rfl ?_
            refine ev_gF3 [false] [] rfl ?_
            refine ev_inS 1 k_MM_218 h_MM_isN rfl rfl rfl rfl ⟨by decide, by decide⟩ rfl ?_
            refine ev_g0 rfl ?_
            refine ev_kS 3 k_MM_188 rfl (C_in_0_7) ⟨by decide, by decide⟩ rfl ?_
            refine ev_g0 rfl ?_
            refine ev_retz rfl (by first | decide | exact zb_01 _) ?_
            refine ev_gF3 [true] [] rfl ?_
            refine ev_retz rfl (by first | decide | exact zb_01 _) ?_
            refine ev_gF3 [true] [] rfl ?_
            refine ev_retz rfl (by first | decide | exact zb_01 _) ?_
            refine ev_g0 rfl ?_
            refine ev_retz rfl (by first | decide | exact zb_01 _) ?_
            first | exact ⟨rfl, rfl⟩ | exact ⟨congrArg (fun z => some (vi (zb z))) lf_F3, rfl⟩
      · skip
        refine ⟨false, ?_, ?_, fun h => by cases h⟩
        · intro μ
          refine det_of h_SH_fit rfl rfl rfl ?_
          refine ev_gF3 [false, true] [] rfl ?_
          refine ev_top2 (a2 := _) (b2 := vi (nI 19)) rfl (congrArg vi (by decide)) ?_
          refine ev_kS 2 k_SH_15 rfl C_fits19 ⟨by decide, by decide⟩ rfl ?_
          refine ev_gF3 [false] [] rfl ?_
          refine ev_top2 (a2 := _) (b2 := vi (nI 16)) rfl (congrArg vi (by decide)) ?_
          refine ev_kS 2 k_SH_15 rfl C_fits16 ⟨by decide, by decide⟩ rfl ?_
          refine ev_gF3 [false] [] rfl ?_
          refine ev_top2 (a2 := _) (b2 := vi (nI 4)) rfl (congrArg vi (by decide)) ?_
          refine ev_kS 2 k_SH_15 rfl C_fits4 ⟨by decide, by decide⟩ rfl ?_
          refine ev_g0 rfl ?_
          refine ev_bF3 rfl rfl (fun h_1 => ?_) (fun h_1 => ?_)
          · skip
            refine ev_g0 rfl ?_
            refine ev_inS 4 k_SH_19 h_SH_fitsByB rfl rfl rfl rfl ⟨by decide, by decide⟩ rfl ?_
            refine ev_gF3 [true, false, false, false, false] [] rfl ?_
            refine ev_top2 (a2 := _) (b2 := vi (nI 2)) rfl (congrArg vi (by decide)) ?_
            refine ev_kS 2 k_SH_15 rfl C_fits2 ⟨by decide, by decide⟩ rfl ?_
            refine ev_gF3 [true] [] rfl ?_
            refine ev_retz rfl (by first | decide | exact zb_01 _) ?_
            refine ev_g0 rfl ?_
            refine ev_retz rfl (by first | decide | exact zb_01 _) ?_
            first | exact ⟨rfl, rfl⟩ | exact ⟨congrArg (fun z => some (vi (zb z))) lf_F3, rfl⟩
          · skip
            refine ev_g0 rfl ?_
            refine ev_retz rfl (by first | decide | exact zb_01 _) ?_
            first | exact ⟨rfl, rfl⟩ | exact ⟨congrArg (fun z => some (vi (zb z))) lf_F3, rfl⟩
        · intro μ
          refine det_of h_MM_isAct rfl rfl rfl ?_
          refine ev_g0 rfl ?_
          refine ev_kS 3 k_MM_188 rfl (C_in_0_65) ⟨by decide, by decide⟩ rfl ?_
          refine ev_gF3 [false, true, true, true] [] rfl ?_
          refine ev_inS 4 k_MM_254 h_MM_isSecond rfl rfl rfl rfl ⟨by decide, by decide⟩ rfl ?_
          refine ev_gF3 [false] [some 10] rfl ?_
          refine ev_inS 3 k_MM_238 h_MM_isField rfl rfl rfl rfl ⟨by decide, by decide⟩ rfl ?_
          refine ev_g0 rfl ?_
          refine ev_kS 3 k_MM_188 rfl (C_in_0_8) ⟨by decide, by decide⟩ rfl ?_
          refine ev_gF3 [false] [] rfl ?_
          refine ev_inS 1 k_MM_218 h_MM_isN rfl rfl rfl rfl ⟨by decide, by decide⟩ rfl ?_
          refine ev_g0 rfl ?_
          refine ev_kS 3 k_MM_188 rfl (C_in_0_7) ⟨by decide, by decide⟩ rfl ?_
          refine ev_g0 rfl ?_
          refine ev_retz rfl (by first | decide | exact zb_01 _) ?_
          refine ev_g0 rfl ?_
          refine ev_bF3 rfl rfl (fun h_1 => ?_) (fun h_1 => ?_)
          · skip
            refine ev_g0 rfl ?_
            refine ev_retz rfl (by first | decide | exact zb_01 _) ?_
            refine ev_gF3 [true] [] rfl ?_
            refine ev_retz rfl (by first | decide | exact zb_01 _) ?_
            refine ev_g0 rfl ?_
            refine ev_retz rfl (by first | decide | exact zb_01 _) ?_
            first | exact ⟨rfl, rfl⟩ | exact ⟨congrArg (fun z => some (vi (zb z))) lf_F3, rfl⟩
          · skip
            refine ev_gF3 [true] [] rfl ?_
            refine ev_inS 1 k_MM_214 h_MM_isX rfl rfl rfl rfl ⟨by decide, by decide⟩ rfl ?_
            refine ev_g0 rfl ?_
            refine ev_kS 3 k_MM_188 rfl (C_in_0_3) ⟨by decide, by decide⟩ rfl ?_
            refine ev_g0 rfl ?_
            refine ev_retz rfl (by first | decide | exact zb_01 _) ?_
            refine ev_gF3 [true] [] rfl ?_
            refine ev_retz rfl (by first | decide | exact zb_01 _) ?_
            refine ev_gF3 [true] [] rfl ?_
            refine ev_retz rfl (by first | decide | exact zb_01 _) ?_
            refine ev_g0 rfl ?_
            refine ev_retz rfl (by first | decide | exact zb_01 _) ?_
            first | exact ⟨rfl, rfl⟩ | exact ⟨congrArg (fun z => some (vi (zb z))) lf_F3, rfl⟩
    · obtain rfl := eqk (k := 2) hb0 (by decide)
      by_cases ha : 0 ≤ a.toInt ∧ a.toInt ≤ 3
      · skip
        by_cases hc : 0 ≤ c.toInt ∧ c.toInt ≤ 7
        · skip
          refine ⟨true, ?_, ?_, fun _ => ?_⟩
          · intro μ
            refine det_of h_SH_fit rfl rfl rfl ?_
            refine ev_gF3 [false, true] [] rfl ?_
            refine ev_top2 (a2 := _) (b2 := vi (nI 19)) rfl (congrArg vi (by decide)) ?_
            refine ev_kS 2 k_SH_15 rfl C_fits19 ⟨by decide, by decide⟩ rfl ?_
            refine ev_gF3 [false] [] rfl ?_
            refine ev_top2 (a2 := _) (b2 := vi (nI 16)) rfl (congrArg vi (by decide)) ?_
            refine ev_kS 2 k_SH_15 rfl C_fits16 ⟨by decide, by decide⟩ rfl ?_
            refine ev_gF3 [false] [] rfl ?_
            refine ev_top2 (a2 := _) (b2 := vi (nI 4)) rfl (congrArg vi (by decide)) ?_
            refine ev_kS 2 k_SH_15 rfl C_fits4 ⟨by decide, by decide⟩ rfl ?_
            refine ev_gF3 [true] [] rfl ?_
            refine ev_inS 4 k_SH_19 h_SH_fitsByB rfl rfl rfl rfl ⟨by decide, by decide⟩ rfl ?_
            refine ev_gF3 [true, false, false, false, false] [] rfl ?_
            refine ev_top2 (a2 := _) (b2 := vi (nI 3)) rfl (congrArg vi (by decide)) ?_
            refine ev_kS 2 k_SH_15 rfl C_fits3 ⟨by decide, by decide⟩ rfl ?_
            refine ev_gF3 [false] [] rfl ?_
            refine ev_retz rfl (by first | decide | exact zb_01 _) ?_
            refine ev_g0 rfl ?_
            refine ev_retz rfl (by first | decide | exact zb_01 _) ?_
            first | exact ⟨rfl, rfl⟩ | exact ⟨congrArg (fun z => some (vi (zb z))) lf_F3, rfl⟩
          · intro μ
            refine det_of h_MM_isAct rfl rfl rfl ?_
            refine ev_g0 rfl ?_
            refine ev_kS 3 k_MM_188 rfl (C_in_0_65) ⟨by decide, by decide⟩ rfl ?_
            refine ev_gF3 [false, true, true, true] [] rfl ?_
            refine ev_inS 4 k_MM_254 h_MM_isSecond rfl rfl rfl rfl ⟨by decide, by decide⟩ rfl ?_
            refine ev_gF3 [false] [some 10] rfl ?_
            refine ev_inS 3 k_MM_238 h_MM_isField rfl rfl rfl rfl ⟨by decide, by decide⟩ rfl ?_
            refine ev_g0 rfl ?_
            refine ev_kS 3 k_MM_188 rfl (C_in_0_8) ⟨by decide, by decide⟩ rfl ?_
            refine ev_gF3 [false] [] rfl ?_
            refine ev_inS 1 k_MM_218 h_MM_isN rfl rfl rfl rfl ⟨by decide, by decide⟩ rfl ?_
            refine ev_g0 rfl ?_
            refine ev_kS 3 k_MM_188 rfl (C_in_0_7) ⟨by decide, by decide⟩ rfl ?_
            refine ev_g0 rfl ?_
            refine ev_retz rfl (by first | decide | exact zb_01 _) ?_
            refine ev_gF3 [false, false, false] [] rfl ?_
            refine ev_inS 1 k_MM_214 h_MM_isX rfl rfl rfl rfl ⟨by decide, by decide⟩ rfl ?_
            refine ev_g0 rfl ?_
            refine ev_kS 3 k_MM_188 rfl (C_in_0_3) ⟨by decide, by decide⟩ rfl ?_
            refine ev_g0 rfl ?_
            refine ev_retz rfl (by first | decide | exact zb_01 _) ?_
            refine ev_gF3 [false] [] rfl ?_
            refine ev_retz rfl (by first | decide | exact zb_01 _) ?_
            refine ev_gF3 [false] [] rfl ?_
            refine ev_retz rfl (by first | decide | exact zb_01 _) ?_
            refine ev_g0 rfl ?_
            refine ev_retz rfl (by first | decide | exact zb_01 _) ?_
            first | exact ⟨rfl, rfl⟩ | exact ⟨congrArg (fun z => some (vi (zb z))) lf_F3, rfl⟩
          · exact Or.inr (Or.inr (Or.inl ⟨rfl, (nk (n := 4) ha rfl (by decide)), (nk (n := 8) hc rfl (by decide))⟩))
        · skip
          refine ⟨false, ?_, ?_, fun h => by cases h⟩
          · intro μ
            refine det_of h_SH_fit rfl rfl rfl ?_
            refine ev_gF3 [false, true] [] rfl ?_
            refine ev_top2 (a2 := _) (b2 := vi (nI 19)) rfl (congrArg vi (by decide)) ?_
            refine ev_kS 2 k_SH_15 rfl C_fits19 ⟨by decide, by decide⟩ rfl ?_
            refine ev_gF3 [false] [] rfl ?_
            refine ev_top2 (a2 := _) (b2 := vi (nI 16)) rfl (congrArg vi (by decide)) ?_
            refine ev_kS 2 k_SH_15 rfl C_fits16 ⟨by decide, by decide⟩ rfl ?_
            refine ev_gF3 [false] [] rfl ?_
            refine ev_top2 (a2 := _) (b2 := vi (nI 4)) rfl (congrArg vi (by decide)) ?_
            refine ev_kS 2 k_SH_15 rfl C_fits4 ⟨by decide, by decide⟩ rfl ?_
            refine ev_gF3 [false] [] rfl ?_
            refine ev_retz rfl (by first | decide | exact zb_01 _) ?_
            first | exact ⟨rfl, rfl⟩ | exact ⟨congrArg (fun z => some (vi (zb z))) lf_F3, rfl⟩
          · intro μ
            refine det_of h_MM_isAct rfl rfl rfl ?_
            refine ev_g0 rfl ?_
            refine ev_kS 3 k_MM_188 rfl (C_in_0_65) ⟨by decide, by decide⟩ rfl ?_
            refine ev_gF3 [false, true, true, true] [] rfl ?_
            refine ev_inS 4 k_MM_254 h_MM_isSecond rfl rfl rfl rfl ⟨by decide, by decide⟩ rfl ?_
            refine ev_gF3 [false] [some 10] rfl ?_
            refine ev_inS 3 k_MM_238 h_MM_isField rfl rfl rfl rfl ⟨by decide, by decide⟩ rfl ?_
            refine ev_g0 rfl ?_
            refine ev_kS 3 k_MM_188 rfl (C_in_0_8) ⟨by decide, by decide⟩ rfl ?_
            refine ev_gF3 [false] [] rfl ?_
            refine ev_inS 1 k_MM_218 h_MM_isN rfl rfl rfl rfl ⟨by decide, by decide⟩ rfl ?_
            refine ev_g0 rfl ?_
            refine ev_kS 3 k_MM_188 rfl (C_in_0_7) ⟨by decide, by decide⟩ rfl ?_
            refine ev_g0 rfl ?_
            refine ev_retz rfl (by first | decide | exact zb_01 _) ?_
            refine ev_gF3 [true] [] rfl ?_
            refine ev_retz rfl (by first | decide | exact zb_01 _) ?_
            refine ev_gF3 [true] [] rfl ?_
            refine ev_retz rfl (by first | decide | exact zb_01 _) ?_
            refine ev_g0 rfl ?_
            refine ev_retz rfl (by first | decide | exact zb_01 _) ?_
            first | exact ⟨rfl, rfl⟩ | exact ⟨congrArg (fun z => some (vi (zb z))) lf_F3, rfl⟩
      · skip
        refine ⟨false, ?_, ?_, fun h => by cases h⟩
        · intro μ
          refine det_of h_SH_fit rfl rfl rfl ?_
          refine ev_gF3 [false, true] [] rfl ?_
          refine ev_top2 (a2 := _) (b2 := vi (nI 19)) rfl (congrArg vi (by decide)) ?_
          refine ev_kS 2 k_SH_15 rfl C_fits19 ⟨by decide, by decide⟩ rfl ?_
          refine ev_gF3 [false] [] rfl ?_
          refine ev_top2 (a2 := _) (b2 := vi (nI 16)) rfl (congrArg vi (by decide)) ?_
          refine ev_kS 2 k_SH_15 rfl C_fits16 ⟨by decide, by decide⟩ rfl ?_
          refine ev_gF3 [false] [] rfl ?_
          refine ev_top2 (a2 := _) (b2 := vi (nI 4)) rfl (congrArg vi (by decide)) ?_
          refine ev_kS 2 k_SH_15 rfl C_fits4 ⟨by decide, by decide⟩ rfl ?_
          refine ev_g0 rfl ?_
          refine ev_bF3 rfl rfl (fun h_1 => ?_) (fun h_1 => ?_)
          · skip
            refine ev_g0 rfl ?_
            refine ev_inS 4 k_SH_19 h_SH_fitsByB rfl rfl rfl rfl ⟨by decide, by decide⟩ rfl ?_
            refine ev_gF3 [true, false, false, false, false] [] rfl ?_
            refine ev_top2 (a2 := _) (b2 := vi (nI 3)) rfl (congrArg vi (by decide)) ?_
            refine ev_kS 2 k_SH_15 rfl C_fits3 ⟨by decide, by decide⟩ rfl ?_
            refine ev_gF3 [true] [] rfl ?_
            refine ev_retz rfl (by first | decide | exact zb_01 _) ?_
            refine ev_g0 rfl ?_
            refine ev_retz rfl (by first | decide | exact zb_01 _) ?_
            first | exact ⟨rfl, rfl⟩ | exact ⟨congrArg (fun z => some (vi (zb z))) lf_F3, rfl⟩
          · skip
            refine ev_g0 rfl ?_
            refine ev_retz rfl (by first | decide | exact zb_01 _) ?_
            first | exact ⟨rfl, rfl⟩ | exact ⟨congrArg (fun z => some (vi (zb z))) lf_F3, rfl⟩
        · intro μ
          refine det_of h_MM_isAct rfl rfl rfl ?_
          refine ev_g0 rfl ?_
          refine ev_kS 3 k_MM_188 rfl (C_in_0_65) ⟨by decide, by decide⟩ rfl ?_
          refine ev_gF3 [false, true, true, true] [] rfl ?_
          refine ev_inS 4 k_MM_254 h_MM_isSecond rfl rfl rfl rfl ⟨by decide, by decide⟩ rfl ?_
          refine ev_gF3 [false] [some 10] rfl ?_
          refine ev_inS 3 k_MM_238 h_MM_isField rfl rfl rfl rfl ⟨by decide, by decide⟩ rfl ?_
          refine ev_g0 rfl ?_
          refine ev_kS 3 k_MM_188 rfl (C_in_0_8) ⟨by decide, by decide⟩ rfl ?_
          refine ev_gF3 [false] [] rfl ?_
          refine ev_inS 1 k_MM_218 h_MM_isN rfl rfl rfl rfl ⟨by decide, by decide⟩ rfl ?_
          refine ev_g0 rfl ?_
          refine ev_kS 3 k_MM_188 rfl (C_in_0_7) ⟨by decide, by decide⟩ rfl ?_
          refine ev_g0 rfl ?_
          refine ev_retz rfl (by first | decide | exact zb_01 _) ?_
          refine ev_g0 rfl ?_
          refine ev_bF3 rfl rfl (fun h_1 => ?_) (fun h_1 => ?_)
          · skip
            refine ev_g0 rfl ?_
            refine ev_retz rfl (by first | decide | exact zb_01 _) ?_
            refine ev_gF3 [true] [] rfl ?_
            refine ev_retz rfl (by first | decide | exact zb_01 _) ?_
            refine ev_g0 rfl ?_
            refine ev_retz rfl (by first | decide | exact zb_01 _) ?_
            first | exact ⟨rfl, rfl⟩ | exact ⟨congrArg (fun z => some (vi (zb z))) lf_F3, rfl⟩
          · skip
            refine ev_gF3 [false, false] [] rfl ?_
            refine ev_inS 1 k_MM_214 h_MM_isX rfl rfl rfl rfl ⟨by decide, by decide⟩ rfl ?_
            refine ev_g0 rfl ?_
            refine ev_kS 3 k_MM_188 rfl (C_in_0_3) ⟨by decide, by decide⟩ rfl ?_
            refine ev_g0 rfl ?_
            refine ev_retz rfl (by first | decide | exact zb_01 _) ?_
            refine ev_gF3 [true] [] rfl ?_
            refine ev_retz rfl (by first | decide | exact zb_01 _) ?_
            refine ev_gF3 [true] [] rfl ?_
            refine ev_retz rfl (by first | decide | exact zb_01 _) ?_
            refine ev_g0 rfl ?_
            refine ev_retz rfl (by first | decide | exact zb_01 _) ?_
            first | exact ⟨rfl, rfl⟩ | exact ⟨congrArg (fun z => some (vi (zb z))) lf_F3, rfl⟩
    · obtain rfl := eqk (k := 3) hb0 (by decide)
      by_cases ha : 0 ≤ a.toInt ∧ a.toInt ≤ 7
      · skip
        by_cases hc : 0 ≤ c.toInt ∧ c.toInt ≤ 7
        · skip
          refine ⟨true, ?_, ?_, fun _ => ?_⟩
          · intro μ
            refine det_of h_SH_fit rfl rfl rfl ?_
            refine ev_gF3 [false, true] [] rfl ?_
            refine ev_top2 (a2 := _) (b2 := vi (nI 19)) rfl (congrArg vi (by decide)) ?_
            refine ev_kS 2 k_SH_15 rfl C_fits19 ⟨by decide, by decide⟩ rfl ?_
            refine ev_gF3 [false] [] rfl ?_
            refine ev_top2 (a2 := _) (b2 := vi (nI 16)) rfl (congrArg vi (by decide)) ?_
            refine ev_kS 2 k_SH_15 rfl C_fits16 ⟨by decide, by decide⟩ rfl ?_
            refine ev_gF3 [false] [] rfl ?_
            refine ev_top2 (a2 := _) (b2 := vi (nI 4)) rfl (congrArg vi (by decide)) ?_
            refine ev_kS 2 k_SH_15 rfl C_fits4 ⟨by decide, by decide⟩ rfl ?_
            refine ev_gF3 [true] [] rfl ?_
            refine ev_inS 4 k_SH_19 h_SH_fitsByB rfl rfl rfl rfl ⟨by decide, by decide⟩ rfl ?_
            refine ev_gF3 [true, false, false, false, false] [] rfl ?_
            refine ev_top2 (a2 := _) (b2 := vi (nI 4)) rfl (congrArg vi (by decide)) ?_
            refine ev_kS 2 k_SH_15 rfl C_fits4 ⟨by decide, by decide⟩ rfl ?_
            refine ev_gF3 [false] [] rfl ?_
            refine ev_retz rfl (by first | decide | exact zb_01 _) ?_
            refine ev_g0 rfl ?_
            refine ev_retz rfl (by first | decide | exact zb_01 _) ?_
            first | exact ⟨rfl, rfl⟩ | exact ⟨congrArg (fun z => some (vi (zb z))) lf_F3, rfl⟩
          · intro μ
            refine det_of h_MM_isAct rfl rfl rfl ?_
            refine ev_g0 rfl ?_
            refine ev_kS 3 k_MM_188 rfl (C_in_0_65) ⟨by decide, by decide⟩ rfl ?_
            refine ev_gF3 [false, true, true, true] [] rfl ?_
            refine ev_inS 4 k_MM_254 h_MM_isSecond rfl rfl rfl rfl ⟨by decide, by decide⟩ rfl ?_
            refine ev_gF3 [false] [some 10] rfl ?_
            refine ev_inS 3 k_MM_238 h_MM_isField rfl rfl rfl rfl ⟨by decide, by decide⟩ rfl ?_
            refine ev_g0 rfl ?_
            refine ev_kS 3 k_MM_188 rfl (C_in_0_8) ⟨by decide, by decide⟩ rfl ?_
            refine ev_gF3 [false] [] rfl ?_
            refine ev_inS 1 k_MM_218 h_MM_isN rfl rfl rfl rfl ⟨by decide, by decide⟩ rfl ?_
            refine ev_g0 rfl ?_
            refine ev_kS 3 k_MM_188 rfl (C_in_0_7) ⟨by decide, by decide⟩ rfl ?_
            refine ev_g0 rfl ?_
            refine ev_retz rfl (by first | decide | exact zb_01 _) ?_
            refine ev_gF3 [false, false, true] [] rfl ?_
            refine ev_inS 1 k_MM_218 h_MM_isN rfl rfl rfl rfl ⟨by decide, by decide⟩ rfl ?_
            refine ev_g0 rfl ?_
            refine ev_kS 3 k_MM_188 rfl (C_in_0_7) ⟨by decide, by decide⟩ rfl ?_
            refine ev_g0 rfl ?_
            refine ev_retz rfl (by first | decide | exact zb_01 _) ?_
            refine ev_gF3 [false] [] rfl ?_
            refine ev_retz rfl (by first | decide | exact zb_01 _) ?_
            refine ev_gF3 [false] [] rfl ?_
            refine ev_retz rfl (by first | decide | exact zb_01 _) ?_
            refine ev_g0 rfl ?_
            refine ev_retz rfl (by first | decide | exact zb_01 _) ?_
            first | exact ⟨rfl, rfl⟩ | exact ⟨congrArg (fun z => some (vi (zb z))) lf_F3, rfl⟩
          · exact Or.inr (Or.inr (Or.inr (Or.inl ⟨rfl, (nk (n := 8) ha rfl (by decide)), (nk (n := 8) hc rfl (by decide))⟩)))
        · skip
          refine ⟨false, ?_, ?_, fun h => by cases h⟩
          · intro μ
            refine det_of h_SH_fit rfl rfl rfl ?_
            refine ev_gF3 [false, true] [] rfl ?_
            refine ev_top2 (a2 := _) (b2 := vi (nI 19)) rfl (congrArg vi (by decide)) ?_
            refine ev_kS 2 k_SH_15 rfl C_fits19 ⟨by decide, by decide⟩ rfl ?_
            refine ev_gF3 [false] [] rfl ?_
            refine ev_top2 (a2 := _) (b2 := vi (nI 16)) rfl (congrArg vi (by decide)) ?_
            refine ev_kS 2 k_SH_15 rfl C_fits16 ⟨by decide, by decide⟩ rfl ?_
            refine ev_gF3 [false] [] rfl ?_
            refine ev_top2 (a2 := _) (b2 := vi (nI 4)) rfl (congrArg vi (by decide)) ?_
            refine ev_kS 2 k_SH_15 rfl C_fits4 ⟨by decide, by decide⟩ rfl ?_
            refine ev_gF3 [false] [] rfl ?_
            refine ev_retz rfl (by first | decide | exact zb_01 _) ?_
            first | exact ⟨rfl, rfl⟩ | exact ⟨congrArg (fun z => some (vi (zb z))) lf_F3, rfl⟩
          · intro μ
            refine det_of h_MM_isAct rfl rfl rfl ?_
            refine ev_g0 rfl ?_
            refine ev_kS 3 k_MM_188 rfl (C_in_0_65) ⟨by decide, by decide⟩ rfl ?_
            refine ev_gF3 [false, true, true, true] [] rfl ?_
            refine ev_inS 4 k_MM_254 h_MM_isSecond rfl rfl rfl rfl ⟨by decide, by decide⟩ rfl ?_
            refine ev_gF3 [false] [some 10] rfl ?_
            refine ev_inS 3 k_MM_238 h_MM_isField rfl rfl rfl rfl ⟨by decide, by decide⟩ rfl ?_
            refine ev_g0 rfl ?_
            refine ev_kS 3 k_MM_188 rfl (C_in_0_8) ⟨by decide, by decide⟩ rfl ?_
            refine ev_gF3 [false] [] rfl ?_
            refine ev_inS 1 k_MM_218 h_MM_isN rfl rfl rfl rfl ⟨by decide, by decide⟩ rfl ?_
            refine ev_g0 rfl ?_
            refine ev_kS 3 k_MM_188 rfl (C_in_0_7) ⟨by decide, by decide⟩ rfl ?_
            refine ev_g0 rfl ?_
            refine ev_retz rfl (by first | decide | exact zb_01 _) ?_
            refine ev_gF3 [true] [] rfl ?_
            refine ev_retz rfl (by first | decide | exact zb_01 _) ?_
            refine ev_gF3 [true] [] rfl ?_
            refine ev_retz rfl (by first | decide | exact zb_01 _) ?_
            refine ev_g0 rfl ?_
            refine ev_retz rfl (by first | decide | exact zb_01 _) ?_
            first | exact ⟨rfl, rfl⟩ | exact ⟨congrArg (fun z => some (vi (zb z))) lf_F3, rfl⟩
      · skip
        refine ⟨false, ?_, ?_, fun h => by cases h⟩
        · intro μ
          refine det_of h_SH_fit rfl rfl rfl ?_
          refine ev_gF3 [false, true] [] rfl ?_
          refine ev_top2 (a2 := _) (b2 := vi (nI 19)) rfl (congrArg vi (by decide)) ?_
          refine ev_kS 2 k_SH_15 rfl C_fits19 ⟨by decide, by decide⟩ rfl ?_
          refine ev_gF3 [false] [] rfl ?_
          refine ev_top2 (a2 := _) (b2 := vi (nI 16)) rfl (congrArg vi (by decide)) ?_
          refine ev_kS 2 k_SH_15 rfl C_fits16 ⟨by decide, by decide⟩ rfl ?_
          refine ev_gF3 [false] [] rfl ?_
          refine ev_top2 (a2 := _) (b2 := vi (nI 4)) rfl (congrArg vi (by decide)) ?_
          refine ev_kS 2 k_SH_15 rfl C_fits4 ⟨by decide, by decide⟩ rfl ?_
          refine ev_g0 rfl ?_
          refine ev_bF3 rfl rfl (fun h_1 => ?_) (fun h_1 => ?_)
          · skip
            refine ev_g0 rfl ?_
            refine ev_inS 4 k_SH_19 h_SH_fitsByB rfl rfl rfl rfl ⟨by decide, by decide⟩ rfl ?_
            refine ev_gF3 [true, false, false, false, false] [] rfl ?_
            refine ev_top2 (a2 := _) (b2 := vi (nI 4)) rfl (congrArg vi (by decide)) ?_
            refine ev_kS 2 k_SH_15 rfl C_fits4 ⟨by decide, by decide⟩ rfl ?_
            refine ev_gF3 [true] [] rfl ?_
            refine ev_retz rfl (by first | decide | exact zb_01 _) ?_
            refine ev_g0 rfl ?_
            refine ev_retz rfl (by first | decide | exact zb_01 _) ?_
            first | exact ⟨rfl, rfl⟩ | exact ⟨congrArg (fun z => some (vi (zb z))) lf_F3, rfl⟩
          · skip
            refine ev_g0 rfl ?_
            refine ev_retz rfl (by first | decide | exact zb_01 _) ?_
            first | exact ⟨rfl, rfl⟩ | exact ⟨congrArg (fun z => some (vi (zb z))) lf_F3, rfl⟩
        · intro μ
          refine det_of h_MM_isAct rfl rfl rfl ?_
          refine ev_g0 rfl ?_
          refine ev_kS 3 k_MM_188 rfl (C_in_0_65) ⟨by decide, by decide⟩ rfl ?_
          refine ev_gF3 [false, true, true, true] [] rfl ?_
          refine ev_inS 4 k_MM_254 h_MM_isSecond rfl rfl rfl rfl ⟨by decide, by decide⟩ rfl ?_
          refine ev_gF3 [false] [some 10] rfl ?_
          refine ev_inS 3 k_MM_238 h_MM_isField rfl rfl rfl rfl ⟨by decide, by decide⟩ rfl ?_
          refine ev_g0 rfl ?_
          refine ev_kS 3 k_MM_188 rfl (C_in_0_8) ⟨by decide, by decide⟩ rfl ?_
          refine ev_gF3 [false] [] rfl ?_
          refine ev_inS 1 k_MM_218 h_MM_isN rfl rfl rfl rfl ⟨by decide, by decide⟩ rfl ?_
          refine ev_g0 rfl ?_
          refine ev_kS 3 k_MM_188 rfl (C_in_0_7) ⟨by decide, by decide⟩ rfl ?_
          refine ev_g0 rfl ?_
          refine ev_retz rfl (by first | decide | exact zb_01 _) ?_
          refine ev_g0 rfl ?_
          refine ev_bF3 rfl rfl (fun h_1 => ?_) (fun h_1 => ?_)
          · skip
            refine ev_g0 rfl ?_
            refine ev_retz rfl (by first | decide | exact zb_01 _) ?_
            refine ev_gF3 [true] [] rfl ?_
            refine ev_retz rfl (by first | decide | exact zb_01 _) ?_
            refine ev_g0 rfl ?_
            refine ev_retz rfl (by first | decide | exact zb_01 _) ?_
            first | exact ⟨rfl, rfl⟩ | exact ⟨congrArg (fun z => some (vi (zb z))) lf_F3, rfl⟩
          · skip
            refine ev_gF3 [false, true] [] rfl ?_
            refine ev_inS 1 k_MM_218 h_MM_isN rfl rfl rfl rfl ⟨by decide, by decide⟩ rfl ?_
            refine ev_g0 rfl ?_
            refine ev_kS 3 k_MM_188 rfl (C_in_0_7) ⟨by decide, by decide⟩ rfl ?_
            refine ev_g0 rfl ?_
            refine ev_retz rfl (by first | decide | exact zb_01 _) ?_
            refine ev_gF3 [true] [] rfl ?_
            refine ev_retz rfl (by first | decide | exact zb_01 _) ?_
            refine ev_gF3 [true] [] rfl ?_
            refine ev_retz rfl (by first | decide | exact zb_01 _) ?_
            refine ev_g0 rfl ?_
            refine ev_retz rfl (by first | decide | exact zb_01 _) ?_
            first | exact ⟨rfl, rfl⟩ | exact ⟨congrArg (fun z => some (vi (zb z))) lf_F3, rfl⟩
    · obtain rfl := eqk (k := 4) hb0 (by decide)
      by_cases ha : 0 ≤ a.toInt ∧ a.toInt ≤ 7
      · skip
        by_cases hc : 0 ≤ c.toInt ∧ c.toInt ≤ 7
        · skip
          refine ⟨true, ?_, ?_, fun _ => ?_⟩
          · intro μ
            refine det_of h_SH_fit rfl rfl rfl ?_
            refine ev_gF3 [false, true] [] rfl ?_
            refine ev_top2 (a2 := _) (b2 := vi (nI 19)) rfl (congrArg vi (by decide)) ?_
            refine ev_kS 2 k_SH_15 rfl C_fits19 ⟨by decide, by decide⟩ rfl ?_
            refine ev_gF3 [false] [] rfl ?_
            refine ev_top2 (a2 := _) (b2 := vi (nI 16)) rfl (congrArg vi (by decide)) ?_
            refine ev_kS 2 k_SH_15 rfl C_fits16 ⟨by decide, by decide⟩ rfl ?_
            refine ev_gF3 [false] [] rfl ?_
            refine ev_top2 (a2 := _) (b2 := vi (nI 4)) rfl (congrArg vi (by decide)) ?_
            refine ev_kS 2 k_SH_15 rfl C_fits4 ⟨by decide, by decide⟩ rfl ?_
            refine ev_gF3 [true] [] rfl ?_
            refine ev_inS 4 k_SH_19 h_SH_fitsByB rfl rfl rfl rfl ⟨by decide, by decide⟩ rfl ?_
            refine ev_gF3 [true, false, false, false, false] [] rfl ?_
            refine ev_top2 (a2 := _) (b2 := vi (nI 4)) rfl (congrArg vi (by decide)) ?_
            refine ev_kS 2 k_SH_15 rfl C_fits4 ⟨by decide, by decide⟩ rfl ?_
            refine ev_gF3 [false] [] rfl ?_
            refine ev_retz rfl (by first | decide | exact zb_01 _) ?_
            refine ev_g0 rfl ?_
            refine ev_retz rfl (by first | decide | exact zb_01 _) ?_
            first | exact ⟨rfl, rfl⟩ | exact ⟨congrArg (fun z => some (vi (zb z))) lf_F3, rfl⟩
          · intro μ
            refine det_of h_MM_isAct rfl rfl rfl ?_
            refine ev_g0 rfl ?_
            refine ev_kS 3 k_MM_188 rfl (C_in_0_65) ⟨by decide, by decide⟩ rfl ?_
            refine ev_gF3 [false, true, true, true] [] rfl ?_
            refine ev_inS 4 k_MM_254 h_MM_isSecond rfl rfl rfl rfl ⟨by decide, by decide⟩ rfl ?_
            refine ev_gF3 [false] [some 10] rfl ?_
            refine ev_inS 3 k_MM_238 h_MM_isField rfl rfl rfl rfl ⟨by decide, by decide⟩ rfl ?_
            refine ev_g0 rfl ?_
            refine ev_kS 3 k_MM_188 rfl (C_in_0_8) ⟨by decide, by decide⟩ rfl ?_
            refine ev_gF3 [false] [] rfl ?_
            refine ev_inS 1 k_MM_218 h_MM_isN rfl rfl rfl rfl ⟨by decide, by decide⟩ rfl ?_
            refine ev_g0 rfl ?_
            refine ev_kS 3 k_MM_188 rfl (C_in_0_7) ⟨by decide, by decide⟩ rfl ?_
            refine ev_g0 rfl ?_
            refine ev_retz rfl (by first | decide | exact zb_01 _) ?_
            refine ev_gF3 [false, false, true] [] rfl ?_
            refine ev_inS 1 k_MM_218 h_MM_isN rfl rfl rfl rfl ⟨by decide, by decide⟩ rfl ?_
            refine ev_g0 rfl ?_
            refine ev_kS 3 k_MM_188 rfl (C_in_0_7) ⟨by decide, by decide⟩ rfl ?_
            refine ev_g0 rfl ?_
            refine ev_retz rfl (by first | decide | exact zb_01 _) ?_
            refine ev_gF3 [false] [] rfl ?_
            refine ev_retz rfl (by first | decide | exact zb_01 _) ?_
            refine ev_gF3 [false] [] rfl ?_
            refine ev_retz rfl (by first | decide | exact zb_01 _) ?_
            refine ev_g0 rfl ?_
            refine ev_retz rfl (by first | decide | exact zb_01 _) ?_
            first | exact ⟨rfl, rfl⟩ | exact ⟨congrArg (fun z => some (vi (zb z))) lf_F3, rfl⟩
          · exact Or.inr (Or.inr (Or.inr (Or.inr (Or.inl ⟨rfl, (nk (n := 8) ha rfl (by decide)), (nk (n := 8) hc rfl (by decide))⟩))))
        · skip
          refine ⟨false, ?_, ?_, fun h => by cases h⟩
          · intro μ
            refine det_of h_SH_fit rfl rfl rfl ?_
            refine ev_gF3 [false, true] [] rfl ?_
            refine ev_top2 (a2 := _) (b2 := vi (nI 19)) rfl (congrArg vi (by decide)) ?_
            refine ev_kS 2 k_SH_15 rfl C_fits19 ⟨by decide, by decide⟩ rfl ?_
            refine ev_gF3 [false] [] rfl ?_
            refine ev_top2 (a2 := _) (b2 := vi (nI 16)) rfl (congrArg vi (by decide)) ?_
            refine ev_kS 2 k_SH_15 rfl C_fits16 ⟨by decide, by decide⟩ rfl ?_
            refine ev_gF3 [false] [] rfl ?_
            refine ev_top2 (a2 := _) (b2 := vi (nI 4)) rfl (congrArg vi (by decide)) ?_
            refine ev_kS 2 k_SH_15 rfl C_fits4 ⟨by decide, by decide⟩ rfl ?_
            refine ev_gF3 [false] [] rfl ?_
            refine ev_retz rfl (by first | decide | exact zb_01 _) ?_
            first | exact ⟨rfl, rfl⟩ | exact ⟨congrArg (fun z => some (vi (zb z))) lf_F3, rfl⟩
          · intro μ
            refine det_of h_MM_isAct rfl rfl rfl ?_
            refine ev_g0 rfl ?_
            refine ev_kS 3 k_MM_188 rfl (C_in_0_65) ⟨by decide, by decide⟩ rfl ?_
            refine ev_gF3 [false, true, true, true] [] rfl ?_
            refine ev_inS 4 k_MM_254 h_MM_isSecond rfl rfl rfl rfl ⟨by decide, by decide⟩ rfl ?_
            refine ev_gF3 [false] [some 10] rfl ?_
            refine ev_inS 3 k_MM_238 h_MM_isField rfl rfl rfl rfl ⟨by decide, by decide⟩ rfl ?_
            refine ev_g0 rfl ?_
            refine ev_kS 3 k_MM_188 rfl (C_in_0_8) ⟨by decide, by decide⟩ rfl ?_
            refine ev_gF3 [false] [] rfl ?_
            refine ev_inS 1 k_MM_218 h_MM_isN rfl rfl rfl rfl ⟨by decide, by decide⟩ rfl ?_
            refine ev_g0 rfl ?_
            refine ev_kS 3 k_MM_188 rfl (C_in_0_7) ⟨by decide, by decide⟩ rfl ?_
            refine ev_g0 rfl ?_
            refine ev_retz rfl (by first | decide | exact zb_01 _) ?_
            refine ev_gF3 [true] [] rfl ?_
            refine ev_retz rfl (by first | decide | exact zb_01 _) ?_
            refine ev_gF3 [true] [] rfl ?_
            refine ev_retz rfl (by first | decide | exact zb_01 _) ?_
            refine ev_g0 rfl ?_
            refine ev_retz rfl (by first | decide | exact zb_01 _) ?_
            first | exact ⟨rfl, rfl⟩ | exact ⟨congrArg (fun z => some (vi (zb z))) lf_F3, rfl⟩
      · skip
        refine ⟨false, ?_, ?_, fun h => by cases h⟩
        · intro μ
          refine det_of h_SH_fit rfl rfl rfl ?_
          refine ev_gF3 [false, true] [] rfl ?_
          refine ev_top2 (a2 := _) (b2 := vi (nI 19)) rfl (congrArg vi (by decide)) ?_
          refine ev_kS 2 k_SH_15 rfl C_fits19 ⟨by decide, by decide⟩ rfl ?_
          refine ev_gF3 [false] [] rfl ?_
          refine ev_top2 (a2 := _) (b2 := vi (nI 16)) rfl (congrArg vi (by decide)) ?_
          refine ev_kS 2 k_SH_15 rfl C_fits16 ⟨by decide, by decide⟩ rfl ?_
          refine ev_gF3 [false] [] rfl ?_
          refine ev_top2 (a2 := _) (b2 := vi (nI 4)) rfl (congrArg vi (by decide)) ?_
          refine ev_kS 2 k_SH_15 rfl C_fits4 ⟨by decide, by decide⟩ rfl ?_
          refine ev_g0 rfl ?_
          refine ev_bF3 rfl rfl (fun h_1 => ?_) (fun h_1 => ?_)
          · skip
            refine ev_g0 rfl ?_
            refine ev_inS 4 k_SH_19 h_SH_fitsByB rfl rfl rfl rfl ⟨by decide, by decide⟩ rfl ?_
            refine ev_gF3 [true, false, false, false, false] [] rfl ?_
            refine ev_top2 (a2 := _) (b2 := vi (nI 4)) rfl (congrArg vi (by decide)) ?_
            refine ev_kS 2 k_SH_15 rfl C_fits4 ⟨by decide, by decide⟩ rfl ?_
            refine ev_gF3 [true] [] rfl ?_
            refine ev_retz rfl (by first | decide | exact zb_01 _) ?_
            refine ev_g0 rfl ?_
            refine ev_retz rfl (by first | decide | exact zb_01 _) ?_
            first | exact ⟨rfl, rfl⟩ | exact ⟨congrArg (fun z => some (vi (zb z))) lf_F3, rfl⟩
          · skip
            refine ev_g0 rfl ?_
            refine ev_retz rfl (by first | decide | exact zb_01 _) ?_
            first | exact ⟨rfl, rfl⟩ | exact ⟨congrArg (fun z => some (vi (zb z))) lf_F3, rfl⟩
        · intro μ
          refine det_of h_MM_isAct rfl rfl rfl ?_
          refine ev_g0 rfl ?_
          refine ev_kS 3 k_MM_188 rfl (C_in_0_65) ⟨by decide, by decide⟩ rfl ?_
          refine ev_gF3 [false, true, true, true] [] rfl ?_
          refine ev_inS 4 k_MM_254 h_MM_isSecond rfl rfl rfl rfl ⟨by decide, by decide⟩ rfl ?_
          refine ev_gF3 [false] [some 10] rfl ?_
          refine ev_inS 3 k_MM_238 h_MM_isField rfl rfl rfl rfl ⟨by decide, by decide⟩ rfl ?_
          refine ev_g0 rfl ?_
          refine ev_kS 3 k_MM_188 rfl (C_in_0_8) ⟨by decide, by decide⟩ rfl ?_
          refine ev_gF3 [false] [] rfl ?_
          refine ev_inS 1 k_MM_218 h_MM_isN rfl rfl rfl rfl ⟨by decide, by decide⟩ rfl ?_
          refine ev_g0 rfl ?_
          refine ev_kS 3 k_MM_188 rfl (C_in_0_7) ⟨by decide, by decide⟩ rfl ?_
          refine ev_g0 rfl ?_
          refine ev_retz rfl (by first | decide | exact zb_01 _) ?_
          refine ev_g0 rfl ?_
          refine ev_bF3 rfl rfl (fun h_1 => ?_) (fun h_1 => ?_)
          · skip
            refine ev_g0 rfl ?_
            refine ev_retz rfl (by first | decide | exact zb_01 _) ?_
            refine ev_gF3 [true] [] rfl ?_
            refine ev_retz rfl (by first | decide | exact zb_01 _) ?_
            refine ev_g0 rfl ?_
            refine ev_retz rfl (by first | decide | exact zb_01 _) ?_
            first | exact ⟨rfl, rfl⟩ | exact ⟨congrArg (fun z => some (vi (zb z))) lf_F3, rfl⟩
          · skip
            refine ev_gF3 [false, true] [] rfl ?_
            refine ev_inS 1 k_MM_218 h_MM_isN rfl rfl rfl rfl ⟨by decide, by decide⟩ rfl ?_
            refine ev_g0 rfl ?_
            refine ev_kS 3 k_MM_188 rfl (C_in_0_7) ⟨by decide, by decide⟩ rfl ?_
            refine ev_g0 rfl ?_
            refine ev_retz rfl (by first | decide | exact zb_01 _) ?_
            refine ev_gF3 [true] [] rfl ?_
            refine ev_retz rfl (by first | decide | exact zb_01 _) ?_
            refine ev_gF3 [true] [] rfl ?_
            refine ev_retz rfl (by first | decide | exact zb_01 _) ?_
            refine ev_g0 rfl ?_
            refine ev_retz rfl (by first | decide | exact zb_01 _) ?_
            first | exact ⟨rfl, rfl⟩ | exact ⟨congrArg (fun z => some (vi (zb z))) lf_F3, rfl⟩
    · obtain rfl := eqk (k := 6) hb0 (by decide)
      by_cases ha : 0 ≤ a.toInt ∧ a.toInt ≤ 7
      · skip
        by_cases hc : 0 ≤ c.toInt ∧ c.toInt ≤ 7
        · skip
          refine ⟨true, ?_, ?_, fun _ => ?_⟩
          · intro μ
            refine det_of h_SH_fit rfl rfl rfl ?_
            refine ev_gF3 [false, true] [] rfl ?_
            refine ev_top2 (a2 := _) (b2 := vi (nI 19)) rfl (congrArg vi (by decide)) ?_
            refine ev_kS 2 k_SH_15 rfl C_fits19 ⟨by decide, by decide⟩ rfl ?_
            refine ev_gF3 [false] [] rfl ?_
            refine ev_top2 (a2 := _) (b2 := vi (nI 16)) rfl (congrArg vi (by decide)) ?_
            refine ev_kS 2 k_SH_15 rfl C_fits16 ⟨by decide, by decide⟩ rfl ?_
            refine ev_gF3 [false] [] rfl ?_
            refine ev_top2 (a2 := _) (b2 := vi (nI 4)) rfl (congrArg vi (by decide)) ?_
            refine ev_kS 2 k_SH_15 rfl C_fits4 ⟨by decide, by decide⟩ rfl ?_
            refine ev_gF3 [true] [] rfl ?_
            refine ev_inS 4 k_SH_19 h_SH_fitsByB rfl rfl rfl rfl ⟨by decide, by decide⟩ rfl ?_
            refine ev_gF3 [true, false, false, false, false] [] rfl ?_
            refine ev_top2 (a2 := _) (b2 := vi (nI 1)) rfl (congrArg vi (by decide)) ?_
            refine ev_kS 2 k_SH_15 rfl C_fits1 ⟨by decide, by decide⟩ rfl ?_
            refine ev_gF3 [false] [] rfl ?_
            refine ev_retz rfl (by first | decide | exact zb_01 _) ?_
            refine ev_g0 rfl ?_
            refine ev_retz rfl (by first | decide | exact zb_01 _) ?_
            first | exact ⟨rfl, rfl⟩ | exact ⟨congrArg (fun z => some (vi (zb z))) lf_F3, rfl⟩
          · intro μ
            refine det_of h_MM_isAct rfl rfl rfl ?_
            refine ev_g0 rfl ?_
            refine ev_kS 3 k_MM_188 rfl (C_in_0_65) ⟨by decide, by decide⟩ rfl ?_
            refine ev_gF3 [false, true, true, true] [] rfl ?_
            refine ev_inS 4 k_MM_254 h_MM_isSecond rfl rfl rfl rfl ⟨by decide, by decide⟩ rfl ?_
            refine ev_gF3 [false] [some 10] rfl ?_
            refine ev_inS 3 k_MM_238 h_MM_isField rfl rfl rfl rfl ⟨by decide, by decide⟩ rfl ?_
            refine ev_g0 rfl ?_
            refine ev_kS 3 k_MM_188 rfl (C_in_0_8) ⟨by decide, by decide⟩ rfl ?_
            refine ev_gF3 [false] [] rfl ?_
            refine ev_inS 1 k_MM_218 h_MM_isN rfl rfl rfl rfl ⟨by decide, by decide⟩ rfl ?_
            refine ev_g0 rfl ?_
            refine ev_kS 3 k_MM_188 rfl (C_in_0_7) ⟨by decide, by decide⟩ rfl ?_
            refine ev_g0 rfl ?_
            refine ev_retz rfl (by first | decide | exact zb_01 _) ?_
            refine ev_gF3 [false, false, true] [] rfl ?_
            refine ev_inS 1 k_MM_218 h_MM_isN rfl rfl rfl rfl ⟨by decide, by decide⟩ rfl ?_
            refine ev_g0 rfl ?_
            refine ev_kS 3 k_MM_188 rfl (C_in_0_7) ⟨by decide, by decide⟩ rfl ?_
            refine ev_g0 rfl ?_
            refine ev_retz rfl (by first | decide | exact zb_01 _) ?_
            refine ev_gF3 [false] [] rfl ?_
            refine ev_retz rfl (by first | decide | exact zb_01 _) ?_
            refine ev_gF3 [false] [] rfl ?_
            refine ev_retz rfl (by first | decide | exact zb_01 _) ?_
            refine ev_g0 rfl ?_
            refine ev_retz rfl (by first | decide | exact zb_01 _) ?_
            first | exact ⟨rfl, rfl⟩ | exact ⟨congrArg (fun z => some (vi (zb z))) lf_F3, rfl⟩
          · exact Or.inr (Or.inr (Or.inr (Or.inr (Or.inr (Or.inl ⟨rfl, (nk (n := 8) ha rfl (by decide)), (nk (n := 8) hc rfl (by decide))⟩)))))
        · skip
          refine ⟨false, ?_, ?_, fun h => by cases h⟩
          · intro μ
            refine det_of h_SH_fit rfl rfl rfl ?_
            refine ev_gF3 [false, true] [] rfl ?_
            refine ev_top2 (a2 := _) (b2 := vi (nI 19)) rfl (congrArg vi (by decide)) ?_
            refine ev_kS 2 k_SH_15 rfl C_fits19 ⟨by decide, by decide⟩ rfl ?_
            refine ev_gF3 [false] [] rfl ?_
            refine ev_top2 (a2 := _) (b2 := vi (nI 16)) rfl (congrArg vi (by decide)) ?_
            refine ev_kS 2 k_SH_15 rfl C_fits16 ⟨by decide, by decide⟩ rfl ?_
            refine ev_gF3 [false] [] rfl ?_
            refine ev_top2 (a2 := _) (b2 := vi (nI 4)) rfl (congrArg vi (by decide)) ?_
            refine ev_kS 2 k_SH_15 rfl C_fits4 ⟨by decide, by decide⟩ rfl ?_
            refine ev_gF3 [false] [] rfl ?_
            refine ev_retz rfl (by first | decide | exact zb_01 _) ?_
            first | exact ⟨rfl, rfl⟩ | exact ⟨congrArg (fun z => some (vi (zb z))) lf_F3, rfl⟩
          · intro μ
            refine det_of h_MM_isAct rfl rfl rfl ?_
            refine ev_g0 rfl ?_
            refine ev_kS 3 k_MM_188 rfl (C_in_0_65) ⟨by decide, by decide⟩ rfl ?_
            refine ev_gF3 [false, true, true, true] [] rfl ?_
            refine ev_inS 4 k_MM_254 h_MM_isSecond rfl rfl rfl rfl ⟨by decide, by decide⟩ rfl ?_
            refine ev_gF3 [false] [some 10] rfl ?_
            refine ev_inS 3 k_MM_238 h_MM_isField rfl rfl rfl rfl ⟨by decide, by decide⟩ rfl ?_
            refine ev_g0 rfl ?_
            refine ev_kS 3 k_MM_188 rfl (C_in_0_8) ⟨by decide, by decide⟩ rfl ?_
            refine ev_gF3 [false] [] rfl ?_
            refine ev_inS 1 k_MM_218 h_MM_isN rfl rfl rfl rfl ⟨by decide, by decide⟩ rfl ?_
            refine ev_g0 rfl ?_
            refine ev_kS 3 k_MM_188 rfl (C_in_0_7) ⟨by decide, by decide⟩ rfl ?_
            refine ev_g0 rfl ?_
            refine ev_retz rfl (by first | decide | exact zb_01 _) ?_
            refine ev_gF3 [true] [] rfl ?_
            refine ev_retz rfl (by first | decide | exact zb_01 _) ?_
            refine ev_gF3 [true] [] rfl ?_
            refine ev_retz rfl (by first | decide | exact zb_01 _) ?_
            refine ev_g0 rfl ?_
            refine ev_retz rfl (by first | decide | exact zb_01 _) ?_
            first | exact ⟨rfl, rfl⟩ | exact ⟨congrArg (fun z => some (vi (zb z))) lf_F3, rfl⟩
      · skip
        refine ⟨false, ?_, ?_, fun h => by cases h⟩
        · intro μ
          refine det_of h_SH_fit rfl rfl rfl ?_
          refine ev_gF3 [false, true] [] rfl ?_
          refine ev_top2 (a2 := _) (b2 := vi (nI 19)) rfl (congrArg vi (by decide)) ?_
          refine ev_kS 2 k_SH_15 rfl C_fits19 ⟨by decide, by decide⟩ rfl ?_
          refine ev_gF3 [false] [] rfl ?_
          refine ev_top2 (a2 := _) (b2 := vi (nI 16)) rfl (congrArg vi (by decide)) ?_
          refine ev_kS 2 k_SH_15 rfl C_fits16 ⟨by decide, by decide⟩ rfl ?_
          refine ev_gF3 [false] [] rfl ?_
          refine ev_top2 (a2 := _) (b2 := vi (nI 4)) rfl (congrArg vi (by decide)) ?_
          refine ev_kS 2 k_SH_15 rfl C_fits4 ⟨by decide, by decide⟩ rfl ?_
          refine ev_g0 rfl ?_
          refine ev_bF3 rfl rfl (fun h_1 => ?_) (fun h_1 => ?_)
          · skip
            refine ev_g0 rfl ?_
            refine ev_inS 4 k_SH_19 h_SH_fitsByB rfl rfl rfl rfl ⟨by decide, by decide⟩ rfl ?_
            refine ev_gF3 [true, false, false, false, false] [] rfl ?_
            refine ev_top2 (a2 := _) (b2 := vi (nI 1)) rfl (congrArg vi (by decide)) ?_
            refine ev_kS 2 k_SH_15 rfl C_fits1 ⟨by decide, by decide⟩ rfl ?_
            refine ev_gF3 [true] [] rfl ?_
            refine ev_retz rfl (by first | decide | exact zb_01 _) ?_
            refine ev_g0 rfl ?_
            refine ev_retz rfl (by first | decide | exact zb_01 _) ?_
            first | exact ⟨rfl, rfl⟩ | exact ⟨congrArg (fun z => some (vi (zb z))) lf_F3, rfl⟩
          · skip
            refine ev_g0 rfl ?_
            refine ev_retz rfl (by first | decide | exact zb_01 _) ?_
            first | exact ⟨rfl, rfl⟩ | exact ⟨congrArg (fun z => some (vi (zb z))) lf_F3, rfl⟩
        · intro μ
          refine det_of h_MM_isAct rfl rfl rfl ?_
          refine ev_g0 rfl ?_
          refine ev_kS 3 k_MM_188 rfl (C_in_0_65) ⟨by decide, by decide⟩ rfl ?_
          refine ev_gF3 [false, true, true, true] [] rfl ?_
          refine ev_inS 4 k_MM_254 h_MM_isSecond rfl rfl rfl rfl ⟨by decide, by decide⟩ rfl ?_
          refine ev_gF3 [false] [some 10] rfl ?_
          refine ev_inS 3 k_MM_238 h_MM_isField rfl rfl rfl rfl ⟨by decide, by decide⟩ rfl ?_
          refine ev_g0 rfl ?_
          refine ev_kS 3 k_MM_188 rfl (C_in_0_8) ⟨by decide, by decide⟩ rfl ?_
          refine ev_gF3 [false] [] rfl ?_
          refine ev_inS 1 k_MM_218 h_MM_isN rfl rfl rfl rfl ⟨by decide, by decide⟩ rfl ?_
          refine ev_g0 rfl ?_
          refine ev_kS 3 k_MM_188 rfl (C_in_0_7) ⟨by decide, by decide⟩ rfl ?_
          refine ev_g0 rfl ?_
          refine ev_retz rfl (by first | decide | exact zb_01 _) ?_
          refine ev_g0 rfl ?_
          refine ev_bF3 rfl rfl (fun h_1 => ?_) (fun h_1 => ?_)
          · skip
            refine ev_g0 rfl ?_
            refine ev_retz rfl (by first | decide | exact zb_01 _) ?_
            refine ev_gF3 [true] [] rfl ?_
            refine ev_retz rfl (by first | decide | exact zb_01 _) ?_
            refine ev_g0 rfl ?_
            refine ev_retz rfl (by first | decide | exact zb_01 _) ?_
            first | exact ⟨rfl, rfl⟩ | exact ⟨congrArg (fun z => some (vi (zb z))) lf_F3, rfl⟩
          · skip
            refine ev_gF3 [false, true] [] rfl ?_
            refine ev_inS 1 k_MM_218 h_MM_isN rfl rfl rfl rfl ⟨by decide, by decide⟩ rfl ?_
            refine ev_g0 rfl ?_
            refine ev_kS 3 k_MM_188 rfl (C_in_0_7) ⟨by decide, by decide⟩ rfl ?_
            refine ev_g0 rfl ?_
            refine ev_retz rfl (by first | decide | exact zb_01 _) ?_
            refine ev_gF3 [true] [] rfl ?_
            refine ev_retz rfl (by first | decide | exact zb_01 _) ?_
            refine ev_gF3 [true] [] rfl ?_
            refine ev_retz rfl (by first | decide | exact zb_01 _) ?_
            refine ev_g0 rfl ?_
            refine ev_retz rfl (by first | decide | exact zb_01 _) ?_
            first | exact ⟨rfl, rfl⟩ | exact ⟨congrArg (fun z => some (vi (zb z))) lf_F3, rfl⟩
    · obtain rfl := eqk (k := 7) hb0 (by decide)
      by_cases ha : 0 ≤ a.toInt ∧ a.toInt ≤ 7
      · skip
        by_cases hc : 0 ≤ c.toInt ∧ c.toInt ≤ 7
        · skip
          refine ⟨true, ?_, ?_, fun _ => ?_⟩
          · intro μ
            refine det_of h_SH_fit rfl rfl rfl ?_
            refine ev_gF3 [false, true] [] rfl ?_
            refine ev_top2 (a2 := _) (b2 := vi (nI 19)) rfl (congrArg vi (by decide)) ?_
            refine ev_kS 2 k_SH_15 rfl C_fits19 ⟨by decide, by decide⟩ rfl ?_
            refine ev_gF3 [false] [] rfl ?_
            refine ev_top2 (a2 := _) (b2 := vi (nI 16)) rfl (congrArg vi (by decide)) ?_
            refine ev_kS 2 k_SH_15 rfl C_fits16 ⟨by decide, by decide⟩ rfl ?_
            refine ev_gF3 [false] [] rfl ?_
            refine ev_top2 (a2 := _) (b2 := vi (nI 4)) rfl (congrArg vi (by decide)) ?_
            refine ev_kS 2 k_SH_15 rfl C_fits4 ⟨by decide, by decide⟩ rfl ?_
            refine ev_gF3 [true] [] rfl ?_
            refine ev_inS 4 k_SH_19 h_SH_fitsByB rfl rfl rfl rfl ⟨by decide, by decide⟩ rfl ?_
            refine ev_gF3 [true, false, false, false, false] [] rfl ?_
            refine ev_top2 (a2 := _) (b2 := vi (nI 1)) rfl (congrArg vi (by decide)) ?_
            refine ev_kS 2 k_SH_15 rfl C_fits1 ⟨by decide, by decide⟩ rfl ?_
            refine ev_gF3 [false] [] rfl ?_
            refine ev_retz rfl (by first | decide | exact zb_01 _) ?_
            refine ev_g0 rfl ?_
            refine ev_retz rfl (by first | decide | exact zb_01 _) ?_
            first | exact ⟨rfl, rfl⟩ | exact ⟨congrArg (fun z => some (vi (zb z))) lf_F3, rfl⟩
          · intro μ
            refine det_of h_MM_isAct rfl rfl rfl ?_
            refine ev_g0 rfl ?_
            refine ev_kS 3 k_MM_188 rfl (C_in_0_65) ⟨by decide, by decide⟩ rfl ?_
            refine ev_gF3 [false, true, true, true] [] rfl ?_
            refine ev_inS 4 k_MM_254 h_MM_isSecond rfl rfl rfl rfl ⟨by decide, by decide⟩ rfl ?_
            refine ev_gF3 [false] [some 10] rfl ?_
            refine ev_inS 3 k_MM_238 h_MM_isField rfl rfl rfl rfl ⟨by decide, by decide⟩ rfl ?_
            refine ev_g0 rfl ?_
            refine ev_kS 3 k_MM_188 rfl (C_in_0_8) ⟨by decide, by decide⟩ rfl ?_
            refine ev_gF3 [false] [] rfl ?_
            refine ev_inS 1 k_MM_218 h_MM_isN rfl rfl rfl rfl ⟨by decide, by decide⟩ rfl ?_
            refine ev_g0 rfl ?_
            refine ev_kS 3 k_MM_188 rfl (C_in_0_7) ⟨by decide, by decide⟩ rfl ?_
            refine ev_g0 rfl ?_
            refine ev_retz rfl (by first | decide | exact zb_01 _) ?_
            refine ev_gF3 [false, false, true] [] rfl ?_
            refine ev_inS 1 k_MM_218 h_MM_isN rfl rfl rfl rfl ⟨by decide, by decide⟩ rfl ?_
            refine ev_g0 rfl ?_
            refine ev_kS 3 k_MM_188 rfl (C_in_0_7) ⟨by decide, by decide⟩ rfl ?_
            refine ev_g0 rfl ?_
            refine ev_retz rfl (by first | decide | exact zb_01 _) ?_
            refine ev_gF3 [false] [] rfl ?_
            refine ev_retz rfl (by first | decide | exact zb_01 _) ?_
            refine ev_gF3 [false] [] rfl ?_
            refine ev_retz rfl (by first | decide | exact zb_01 _) ?_
            refine ev_g0 rfl ?_
            refine ev_retz rfl (by first | decide | exact zb_01 _) ?_
            first | exact ⟨rfl, rfl⟩ | exact ⟨congrArg (fun z => some (vi (zb z))) lf_F3, rfl⟩
          · exact Or.inr (Or.inr (Or.inr (Or.inr (Or.inr (Or.inr (Or.inl ⟨rfl, (nk (n := 8) ha rfl (by decide)), (nk (n := 8) hc rfl (by decide))⟩))))))
        · skip
          refine ⟨false, ?_, ?_, fun h => by cases h⟩
          · intro μ
            refine det_of h_SH_fit rfl rfl rfl ?_
            refine ev_gF3 [false, true] [] rfl ?_
            refine ev_top2 (a2 := _) (b2 := vi (nI 19)) rfl (congrArg vi (by decide)) ?_
            refine ev_kS 2 k_SH_15 rfl C_fits19 ⟨by decide, by decide⟩ rfl ?_
            refine ev_gF3 [false] [] rfl ?_
            refine ev_top2 (a2 := _) (b2 := vi (nI 16)) rfl (congrArg vi (by decide)) ?_
            refine ev_kS 2 k_SH_15 rfl C_fits16 ⟨by decide, by decide⟩ rfl ?_
            refine ev_gF3 [false] [] rfl ?_
            refine ev_top2 (a2 := _) (b2 := vi (nI 4)) rfl (congrArg vi (by decide)) ?_
            refine ev_kS 2 k_SH_15 rfl C_fits4 ⟨by decide, by decide⟩ rfl ?_
            refine ev_gF3 [false] [] rfl ?_
            refine ev_retz rfl (by first | decide | exact zb_01 _) ?_
            first | exact ⟨rfl, rfl⟩ | exact ⟨congrArg (fun z => some (vi (zb z))) lf_F3, rfl⟩
          · intro μ
            refine det_of h_MM_isAct rfl rfl rfl ?_
            refine ev_g0 rfl ?_
            refine ev_kS 3 k_MM_188 rfl (C_in_0_65) ⟨by decide, by decide⟩ rfl ?_
            refine ev_gF3 [false, true, true, true] [] rfl ?_
            refine ev_inS 4 k_MM_254 h_MM_isSecond rfl rfl rfl rfl ⟨by decide, by decide⟩ rfl ?_
            refine ev_gF3 [false] [some 10] rfl ?_
            refine ev_inS 3 k_MM_238 h_MM_isField rfl rfl rfl rfl ⟨by decide, by decide⟩ rfl ?_
            refine ev_g0 rfl ?_
            refine ev_kS 3 k_MM_188 rfl (C_in_0_8) ⟨by decide, by decide⟩ rfl ?_
            refine ev_gF3 [false] [] rfl ?_
            refine ev_inS 1 k_MM_218 h_MM_isN rfl rfl rfl rfl ⟨by decide, by decide⟩ rfl ?_
            refine ev_g0 rfl ?_
            refine ev_kS 3 k_MM_188 rfl (C_in_0_7) ⟨by decide, by decide⟩ rfl ?_
            refine ev_g0 rfl ?_
            refine ev_retz rfl (by first | decide | exact zb_01 _) ?_
            refine ev_gF3 [true] [] rfl ?_
            refine ev_retz rfl (by first | decide | exact zb_01 _) ?_
            refine ev_gF3 [true] [] rfl ?_
            refine ev_retz rfl (by first | decide | exact zb_01 _) ?_
            refine ev_g0 rfl ?_
            refine ev_retz rfl (by first | decide | exact zb_01 _) ?_
            first | exact ⟨rfl, rfl⟩ | exact ⟨congrArg (fun z => some (vi (zb z))) lf_F3, rfl⟩
      · skip
        refine ⟨false, ?_, ?_, fun h => by cases h⟩
        · intro μ
          refine det_of h_SH_fit rfl rfl rfl ?_
          refine ev_gF3 [false, true] [] rfl ?_
          refine ev_top2 (a2 := _) (b2 := vi (nI 19)) rfl (congrArg vi (by decide)) ?_
          refine ev_kS 2 k_SH_15 rfl C_fits19 ⟨by decide, by decide⟩ rfl ?_
          refine ev_gF3 [false] [] rfl ?_
          refine ev_top2 (a2 := _) (b2 := vi (nI 16)) rfl (congrArg vi (by decide)) ?_
          refine ev_kS 2 k_SH_15 rfl C_fits16 ⟨by decide, by decide⟩ rfl ?_
          refine ev_gF3 [false] [] rfl ?_
          refine ev_top2 (a2 := _) (b2 := vi (nI 4)) rfl (congrArg vi (by decide)) ?_
          refine ev_kS 2 k_SH_15 rfl C_fits4 ⟨by decide, by decide⟩ rfl ?_
          refine ev_g0 rfl ?_
          refine ev_bF3 rfl rfl (fun h_1 => ?_) (fun h_1 => ?_)
          · skip
            refine ev_g0 rfl ?_
            refine ev_inS 4 k_SH_19 h_SH_fitsByB rfl rfl rfl rfl ⟨by decide, by decide⟩ rfl ?_
            refine ev_gF3 [true, false, false, false, false] [] rfl ?_
            refine ev_top2 (a2 := _) (b2 := vi (nI 1)) rfl (congrArg vi (by decide)) ?_
            refine ev_kS 2 k_SH_15 rfl C_fits1 ⟨by decide, by decide⟩ rfl ?_
            refine ev_gF3 [true] [] rfl ?_
            refine ev_retz rfl (by first | decide | exact zb_01 _) ?_
            refine ev_g0 rfl ?_
            refine ev_retz rfl (by first | decide | exact zb_01 _) ?_
            first | exact ⟨rfl, rfl⟩ | exact ⟨congrArg (fun z => some (vi (zb z))) lf_F3, rfl⟩
          · skip
            refine ev_g0 rfl ?_
            refine ev_retz rfl (by first | decide | exact zb_01 _) ?_
            first | exact ⟨rfl, rfl⟩ | exact ⟨congrArg (fun z => some (vi (zb z))) lf_F3, rfl⟩
        · intro μ
          refine det_of h_MM_isAct rfl rfl rfl ?_
          refine ev_g0 rfl ?_
          refine ev_kS 3 k_MM_188 rfl (C_in_0_65) ⟨by decide, by decide⟩ rfl ?_
          refine ev_gF3 [false, true, true, true] [] rfl ?_
          refine ev_inS 4 k_MM_254 h_MM_isSecond rfl rfl rfl rfl ⟨by decide, by decide⟩ rfl ?_
          refine ev_gF3 [false] [some 10] rfl ?_
          refine ev_inS 3 k_MM_238 h_MM_isField rfl rfl rfl rfl ⟨by decide, by decide⟩ rfl ?_
          refine ev_g0 rfl ?_
          refine ev_kS 3 k_MM_188 rfl (C_in_0_8) ⟨by decide, by decide⟩ rfl ?_
          refine ev_gF3 [false] [] rfl ?_
          refine ev_inS 1 k_MM_218 h_MM_isN rfl rfl rfl rfl ⟨by decide, by decide⟩ rfl ?_
          refine ev_g0 rfl ?_
          refine ev_kS 3 k_MM_188 rfl (C_in_0_7) ⟨by decide, by decide⟩ rfl ?_
          refine ev_g0 rfl ?_
          refine ev_retz rfl (by first | decide | exact zb_01 _) ?_
          refine ev_g0 rfl ?_
          refine ev_bF3 rfl rfl (fun h_1 => ?_) (fun h_1 => ?_)
          · skip
            refine ev_g0 rfl ?_
            refine ev_retz rfl (by first | decide | exact zb_01 _) ?_
            refine ev_gF3 [true] [] rfl ?_
            refine ev_retz rfl (by first | decide | exact zb_01 _) ?_
            refine ev_g0 rfl ?_
            refine ev_retz rfl (by first | decide | exact zb_01 _) ?_
            first | exact ⟨rfl, rfl⟩ | exact ⟨congrArg (fun z => some (vi (zb z))) lf_F3, rfl⟩
          · skip
            refine ev_gF3 [false, true] [] rfl ?_
            refine ev_inS 1 k_MM_218 h_MM_isN rfl rfl rfl rfl ⟨by decide, by decide⟩ rfl ?_
            refine ev_g0 rfl ?_
            refine ev_kS 3 k_MM_188 rfl (C_in_0_7) ⟨by decide, by decide⟩ rfl ?_
            refine ev_g0 rfl ?_
            refine ev_retz rfl (by first | decide | exact zb_01 _) ?_
            refine ev_gF3 [true] [] rfl ?_
            refine ev_retz rfl (by first | decide | exact zb_01 _) ?_
            refine ev_gF3 [true] [] rfl ?_
            refine ev_retz rfl (by first | decide | exact zb_01 _) ?_
            refine ev_g0 rfl ?_
            refine ev_retz rfl (by first | decide | exact zb_01 _) ?_
            first | exact ⟨rfl, rfl⟩ | exact ⟨congrArg (fun z => some (vi (zb z))) lf_F3, rfl⟩
    · obtain rfl := eqk (k := 8) hb0 (by decide)
      by_cases ha : 0 ≤ a.toInt ∧ a.toInt ≤ 7
      · skip
        by_cases hc : 0 ≤ c.toInt ∧ c.toInt ≤ 7
        · skip
          refine ⟨true, ?_, ?_, fun _ => ?_⟩
          · intro μ
            refine det_of h_SH_fit rfl rfl rfl ?_
            refine ev_gF3 [false, true] [] rfl ?_
            refine ev_top2 (a2 := _) (b2 := vi (nI 19)) rfl (congrArg vi (by decide)) ?_
            refine ev_kS 2 k_SH_15 rfl C_fits19 ⟨by decide, by decide⟩ rfl ?_
            refine ev_gF3 [false] [] rfl ?_
            refine ev_top2 (a2 := _) (b2 := vi (nI 16)) rfl (congrArg vi (by decide)) ?_
            refine ev_kS 2 k_SH_15 rfl C_fits16 ⟨by decide, by decide⟩ rfl ?_
            refine ev_gF3 [false] [] rfl ?_
            refine ev_top2 (a2 := _) (b2 := vi (nI 4)) rfl (congrArg vi (by decide)) ?_
            refine ev_kS 2 k_SH_15 rfl C_fits4 ⟨by decide, by decide⟩ rfl ?_
            refine ev_gF3 [true] [] rfl ?_
            refine ev_inS 4 k_SH_19 h_SH_fitsByB rfl rfl rfl rfl ⟨by decide, by decide⟩ rfl ?_
            refine ev_gF3 [true, false, false, false, false] [] rfl ?_
            refine ev_top2 (a2 := _) (b2 := vi (nI 1)) rfl (congrArg vi (by decide)) ?_
            refine ev_kS 2 k_SH_15 rfl C_fits1 ⟨by decide, by decide⟩ rfl ?_
            refine ev_gF3 [false] [] rfl ?_
            refine ev_retz rfl (by first | decide | exact zb_01 _) ?_
            refine ev_g0 rfl ?_
            refine ev_retz rfl (by first | decide | exact zb_01 _) ?_
            first | exact ⟨rfl, rfl⟩ | exact ⟨congrArg (fun z => some (vi (zb z))) lf_F3, rfl⟩
          · intro μ
            refine det_of h_MM_isAct rfl rfl rfl ?_
            refine ev_g0 rfl ?_
            refine ev_kS 3 k_MM_188 rfl (C_in_0_65) ⟨by decide, by decide⟩ rfl ?_
            refine ev_gF3 [false, true, true, true] [] rfl ?_
            refine ev_inS 4 k_MM_254 h_MM_isSecond rfl rfl rfl rfl ⟨by decide, by decide⟩ rfl ?_
            refine ev_gF3 [false] [some 10] rfl ?_
            refine ev_inS 3 k_MM_238 h_MM_isField rfl rfl rfl rfl ⟨by decide, by decide⟩ rfl ?_
            refine ev_g0 rfl ?_
            refine ev_kS 3 k_MM_188 rfl (C_in_0_8) ⟨by decide, by decide⟩ rfl ?_
            refine ev_gF3 [false] [] rfl ?_
            refine ev_inS 1 k_MM_218 h_MM_isN rfl rfl rfl rfl ⟨by decide, by decide⟩ rfl ?_
            refine ev_g0 rfl ?_
            refine ev_kS 3 k_MM_188 rfl (C_in_0_7) ⟨by decide, by decide⟩ rfl ?_
            refine ev_g0 rfl ?_
            refine ev_retz rfl (by first | decide | exact zb_01 _) ?_
            refine ev_gF3 [false, false, true] [] rfl ?_
            refine ev_inS 1 k_MM_218 h_MM_isN rfl rfl rfl rfl ⟨by decide, by decide⟩ rfl ?_
            refine ev_g0 rfl ?_
            refine ev_kS 3 k_MM_188 rfl (C_in_0_7) ⟨by decide, by decide⟩ rfl ?_
            refine ev_g0 rfl ?_
            refine ev_retz rfl (by first | decide | exact zb_01 _) ?_
            refine ev_gF3 [false] [] rfl ?_
            refine ev_retz rfl (by first | decide | exact zb_01 _) ?_
            refine ev_gF3 [false] [] rfl ?_
            refine ev_retz rfl (by first | decide | exact zb_01 _) ?_
            refine ev_g0 rfl ?_
            refine ev_retz rfl (by first | decide | exact zb_01 _) ?_
            first | exact ⟨rfl, rfl⟩ | exact ⟨congrArg (fun z => some (vi (zb z))) lf_F3, rfl⟩
          · exact Or.inr (Or.inr (Or.inr (Or.inr (Or.inr (Or.inr (Or.inr (⟨rfl, (nk (n := 8) ha rfl (by decide)), (nk (n := 8) hc rfl (by decide))⟩)))))))
        · skip
          refine ⟨false, ?_, ?_, fun h => by cases h⟩
          · intro μ
            refine det_of h_SH_fit rfl rfl rfl ?_
            refine ev_gF3 [false, true] [] rfl ?_
            refine ev_top2 (a2 := _) (b2 := vi (nI 19)) rfl (congrArg vi (by decide)) ?_
            refine ev_kS 2 k_SH_15 rfl C_fits19 ⟨by decide, by decide⟩ rfl ?_
            refine ev_gF3 [false] [] rfl ?_
            refine ev_top2 (a2 := _) (b2 := vi (nI 16)) rfl (congrArg vi (by decide)) ?_
            refine ev_kS 2 k_SH_15 rfl C_fits16 ⟨by decide, by decide⟩ rfl ?_
            refine ev_gF3 [false] [] rfl ?_
            refine ev_top2 (a2 := _) (b2 := vi (nI 4)) rfl (congrArg vi (by decide)) ?_
            refine ev_kS 2 k_SH_15 rfl C_fits4 ⟨by decide, by decide⟩ rfl ?_
            refine ev_gF3 [false] [] rfl ?_
            refine ev_retz rfl (by first | decide | exact zb_01 _) ?_
            first | exact ⟨rfl, rfl⟩ | exact ⟨congrArg (fun z => some (vi (zb z))) lf_F3, rfl⟩
          · intro μ
            refine det_of h_MM_isAct rfl rfl rfl ?_
            refine ev_g0 rfl ?_
            refine ev_kS 3 k_MM_188 rfl (C_in_0_65) ⟨by decide, by decide⟩ rfl ?_
            refine ev_gF3 [false, true, true, true] [] rfl ?_
            refine ev_inS 4 k_MM_254 h_MM_isSecond rfl rfl rfl rfl ⟨by decide, by decide⟩ rfl ?_
            refine ev_gF3 [false] [some 10] rfl ?_
            refine ev_inS 3 k_MM_238 h_MM_isField rfl rfl rfl rfl ⟨by decide, by decide⟩ rfl ?_
            refine ev_g0 rfl ?_
            refine ev_kS 3 k_MM_188 rfl (C_in_0_8) ⟨by decide, by decide⟩ rfl ?_
            refine ev_gF3 [false] [] rfl ?_
            refine ev_inS 1 k_MM_218 h_MM_isN rfl rfl rfl rfl ⟨by decide, by decide⟩ rfl ?_
            refine ev_g0 rfl ?_
            refine ev_kS 3 k_MM_188 rfl (C_in_0_7) ⟨by decide, by decide⟩ rfl ?_
            refine ev_g0 rfl ?_
            refine ev_retz rfl (by first | decide | exact zb_01 _) ?_
            refine ev_gF3 [true] [] rfl ?_
            refine ev_retz rfl (by first | decide | exact zb_01 _) ?_
            refine ev_gF3 [true] [] rfl ?_
            refine ev_retz rfl (by first | decide | exact zb_01 _) ?_
            refine ev_g0 rfl ?_
            refine ev_retz rfl (by first | decide | exact zb_01 _) ?_
            first | exact ⟨rfl, rfl⟩ | exact ⟨congrArg (fun z => some (vi (zb z))) lf_F3, rfl⟩
      · skip
        refine ⟨false, ?_, ?_, fun h => by cases h⟩
        · intro μ
          refine det_of h_SH_fit rfl rfl rfl ?_
          refine ev_gF3 [false, true] [] rfl ?_
          refine ev_top2 (a2 := _) (b2 := vi (nI 19)) rfl (congrArg vi (by decide)) ?_
          refine ev_kS 2 k_SH_15 rfl C_fits19 ⟨by decide, by decide⟩ rfl ?_
          refine ev_gF3 [false] [] rfl ?_
          refine ev_top2 (a2 := _) (b2 := vi (nI 16)) rfl (congrArg vi (by decide)) ?_
          refine ev_kS 2 k_SH_15 rfl C_fits16 ⟨by decide, by decide⟩ rfl ?_
          refine ev_gF3 [false] [] rfl ?_
          refine ev_top2 (a2 := _) (b2 := vi (nI 4)) rfl (congrArg vi (by decide)) ?_
          refine ev_kS 2 k_SH_15 rfl C_fits4 ⟨by decide, by decide⟩ rfl ?_
          refine ev_g0 rfl ?_
          refine ev_bF3 rfl rfl (fun h_1 => ?_) (fun h_1 => ?_)
          · skip
            refine ev_g0 rfl ?_
            refine ev_inS 4 k_SH_19 h_SH_fitsByB rfl rfl rfl rfl ⟨by decide, by decide⟩ rfl ?_
            refine ev_gF3 [true, false, false, false, false] [] rfl ?_
            refine ev_top2 (a2 := _) (b2 := vi (nI 1)) rfl (congrArg vi (by decide)) ?_
            refine ev_kS 2 k_SH_15 rfl C_fits1 ⟨by decide, by decide⟩ rfl ?_
            refine ev_gF3 [true] [] rfl ?_
            refine ev_retz rfl (by first | decide | exact zb_01 _) ?_
            refine ev_g0 rfl ?_
            refine ev_retz rfl (by first | decide | exact zb_01 _) ?_
            first | exact ⟨rfl, rfl⟩ | exact ⟨congrArg (fun z => some (vi (zb z))) lf_F3, rfl⟩
          · skip
            refine ev_g0 rfl ?_
            refine ev_retz rfl (by first | decide | exact zb_01 _) ?_
            first | exact ⟨rfl, rfl⟩ | exact ⟨congrArg (fun z => some (vi (zb z))) lf_F3, rfl⟩
        · intro μ
          refine det_of h_MM_isAct rfl rfl rfl ?_
          refine ev_g0 rfl ?_
          refine ev_kS 3 k_MM_188 rfl (C_in_0_65) ⟨by decide, by decide⟩ rfl ?_
          refine ev_gF3 [false, true, true, true] [] rfl ?_
          refine ev_inS 4 k_MM_254 h_MM_isSecond rfl rfl rfl rfl ⟨by decide, by decide⟩ rfl ?_
          refine ev_gF3 [false] [some 10] rfl ?_
          refine ev_inS 3 k_MM_238 h_MM_isField rfl rfl rfl rfl ⟨by decide, by decide⟩ rfl ?_
          refine ev_g0 rfl ?_
          refine ev_kS 3 k_MM_188 rfl (C_in_0_8) ⟨by decide, by decide⟩ rfl ?_
          refine ev_gF3 [false] [] rfl ?_
          refine ev_inS 1 k_MM_218 h_MM_isN rfl rfl rfl rfl ⟨by decide, by decide⟩ rfl ?_
          refine ev_g0 rfl ?_
          refine ev_kS 3 k_MM_188 rfl (C_in_0_7) ⟨by decide, by decide⟩ rfl ?_
          refine ev_g0 rfl ?_
          refine ev_retz rfl (by first | decide | exact zb_01 _) ?_
          refine ev_g0 rfl ?_
          refine ev_bF3 rfl rfl (fun h_1 => ?_) (fun h_1 => ?_)
          · skip
            refine ev_g0 rfl ?_
            refine ev_retz rfl (by first | decide | exact zb_01 _) ?_
            refine ev_gF3 [true] [] rfl ?_
            refine ev_retz rfl (by first | decide | exact zb_01 _) ?_
            refine ev_g0 rfl ?_
            refine ev_retz rfl (by first | decide | exact zb_01 _) ?_
            first | exact ⟨rfl, rfl⟩ | exact ⟨congrArg (fun z => some (vi (zb z))) lf_F3, rfl⟩
          · skip
            refine ev_gF3 [false, true] [] rfl ?_
            refine ev_inS 1 k_MM_218 h_MM_isN rfl rfl rfl rfl ⟨by decide, by decide⟩ rfl ?_
            refine ev_g0 rfl ?_
            refine ev_kS 3 k_MM_188 rfl (C_in_0_7) ⟨by decide, by decide⟩ rfl ?_
            refine ev_g0 rfl ?_
            refine ev_retz rfl (by first | decide | exact zb_01 _) ?_
            refine ev_gF3 [true] [] rfl ?_
            refine ev_retz rfl (by first | decide | exact zb_01 _) ?_
            refine ev_gF3 [true] [] rfl ?_
            refine ev_retz rfl (by first | decide | exact zb_01 _) ?_
            refine ev_g0 rfl ?_
            refine ev_retz rfl (by first | decide | exact zb_01 _) ?_
            first | exact ⟨rfl, rfl⟩ | exact ⟨congrArg (fun z => some (vi (zb z))) lf_F3, rfl⟩
  · skip
    refine ⟨false, ?_, ?_, fun h => by cases h⟩
    · intro μ
      refine det_of h_SH_fit rfl rfl rfl ?_
      refine ev_gF3 [false, true] [] rfl ?_
      refine ev_top2 (a2 := _) (b2 := vi (nI 19)) rfl (congrArg vi (by decide)) ?_
      refine ev_kS 2 k_SH_15 rfl C_fits19 ⟨by decide, by decide⟩ rfl ?_
      refine ev_gF3 [false] [] rfl ?_
      refine ev_top2 (a2 := _) (b2 := vi (nI 16)) rfl (congrArg vi (by decide)) ?_
      refine ev_kS 2 k_SH_15 rfl C_fits16 ⟨by decide, by decide⟩ rfl ?_
      refine ev_gF3 [true] [] rfl ?_
      refine ev_retz rfl (by first | decide | exact zb_01 _) ?_
      first | exact ⟨rfl, rfl⟩ | exact ⟨congrArg (fun z => some (vi (zb z))) lf_F3, rfl⟩
    · intro μ
      refine det_of h_MM_isAct rfl rfl rfl ?_
      refine ev_g0 rfl ?_
      refine ev_kS 3 k_MM_188 rfl (C_in_0_65) ⟨by decide, by decide⟩ rfl ?_
      refine ev_gF3 [false, true, true, true] [] rfl ?_
      refine ev_inS 4 k_MM_254 h_MM_isSecond rfl rfl rfl rfl ⟨by decide, by decide⟩ rfl ?_
      refine ev_gF3 [] [some 10] rfl ?_
      refine ev_bF3 rfl rfl (fun h_1 => ?_) (fun h_1 => ?_)
      · skip
        refine ev_g0 rfl ?_
        refine ev_retz rfl (by first | decide | exact zb_01 _) ?_
        refine ev_g0 rfl ?_
        refine ev_retz rfl (by first | decide | exact zb_01 _) ?_
        first | exact ⟨rfl, rfl⟩ | exact ⟨congrArg (fun z => some (vi (zb z))) lf_F3, rfl⟩
      · skip
        refine ev_g0 rfl ?_
        refine ev_inS 3 k_MM_238 h_MM_isField rfl rfl rfl rfl ⟨by decide, by decide⟩ rfl ?_
        refine ev_g0 rfl ?_
        refine ev_kS 3 k_MM_188 rfl (C_in_0_8) ⟨by decide, by decide⟩ rfl ?_
        refine ev_gF3 [true] [] rfl ?_
        refine ev_retz rfl (by first | decide | exact zb_01 _) ?_
        refine ev_gF3 [true] [] rfl ?_
        refine ev_retz rfl (by first | decide | exact zb_01 _) ?_
        refine ev_g0 rfl ?_
        refine ev_retz rfl (by first | decide | exact zb_01 _) ?_
        first | exact ⟨rfl, rfl⟩ | exact ⟨congrArg (fun z => some (vi (zb z))) lf_F3, rfl⟩
