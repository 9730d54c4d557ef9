def FTo (op a b c : Int32) : Prop := ((∀ μ : mm_M, mm_Det Y_SH_fit [vi op, vi a, vi b, vi c] μ (some (vi (nI 0))) μ) ∧ (∀ μ : mm_M, mm_Det Y_MM_isAct [vi op, vi a, vi b, vi c] μ (some (vi (nI 0))) μ)) ∨ (∃ o : Nat, op = nI o ∧ (∀ μ : mm_M, mm_Det Y_SH_fit [vi op, vi a, vi b, vi c] μ (some (vi (nI 1))) μ) ∧ (∀ μ : mm_M, mm_Det Y_MM_isAct [vi op, vi a, vi b, vi c] μ (some (vi (nI 1))) μ) ∧ OKA o a b c)
theorem FT_19 {a b c : Int32} : (∀ μ : mm_M, mm_Det Y_SH_fit [vi (nI 19), vi a, vi b, vi c] μ (some (vi (nI 0))) μ) ∧ (∀ μ : mm_M, mm_Det Y_MM_isAct [vi (nI 19), vi a, vi b, vi c] μ (some (vi (nI 0))) μ) := by
  constructor
  · intro μ
    refine det_of h_SH_fit rfl rfl rfl ?_
    refine ev_gF3 [false, true] [] rfl ?_
    refine ev_top2 (a2 := _) (b2 := vi (nI 20)) rfl (congrArg vi (by decide)) ?_
    refine ev_kS 2 k_SH_15 rfl C_fits20 ⟨by decide, by decide⟩ rfl ?_
    refine ev_gF3 [true] [] rfl ?_
    refine ev_retz rfl (by first | decide | exact zb_01 _) ?_
    exact ⟨rfl, rfl⟩
  · intro μ
    refine det_of h_MM_isAct rfl rfl rfl ?_
    refine ev_g0 rfl ?_
    refine ev_kS 3 k_MM_188 rfl (C_in_0_65) ⟨by decide, by decide⟩ rfl ?_
    refine ev_gF3 [false, false] [] rfl ?_
    refine ev_retz rfl (by first | decide | exact zb_01 _) ?_
    exact ⟨rfl, rfl⟩
theorem FT_out {op a b c : Int32} (ho : ¬ (0 ≤ op.toInt ∧ op.toInt < 66)) : (∀ μ : mm_M, mm_Det Y_SH_fit [vi op, vi a, vi b, vi c] μ (some (vi (nI 0))) μ) ∧ (∀ μ : mm_M, mm_Det Y_MM_isAct [vi op, vi a, vi b, vi c] μ (some (vi (nI 0))) μ) := by
  constructor
  · intro μ
    refine det_of h_SH_fit rfl rfl rfl ?_
    refine ev_g0 rfl ?_
    refine ev_bF3 rfl rfl (fun h_1 => ?_) (fun h_1 => ?_)
    · skip
      refine ev_g0 rfl ?_
      refine ev_retz rfl (by first | decide | exact zb_01 _) ?_
      exact ⟨rfl, rfl⟩
    · skip
      refine ev_gF3 [false] [] rfl ?_ (hp := by (repeat' apply And.intro) <;> first | exact trivial | decide | (simp only [j_lt, j_le, ge_iff_le, show nI (mm_len 0) / nI 3 = nI 66 from by decide, show (nI 66).toInt = 66 from by decide] <;> omega))
      refine ev_retz rfl (by first | decide | exact zb_01 _) ?_
      exact ⟨rfl, rfl⟩
  · intro μ
    refine det_of h_MM_isAct rfl rfl rfl ?_
    refine ev_g0 rfl ?_
    refine ev_kS 3 k_MM_188 rfl (C_in_0_65) ⟨by decide, by decide⟩ rfl ?_
    refine ev_gF3 [true] [] rfl ?_
    refine ev_retz rfl (by first | decide | exact zb_01 _) ?_
    exact ⟨rfl, rfl⟩
theorem FT_of {o : Nat} {a b c : Int32} (h : ∃ v : Bool, (∀ μ : mm_M, mm_Det Y_SH_fit [vi (nI o), vi a, vi b, vi c] μ (some (vi (zb v))) μ) ∧ (∀ μm : mm_M, mm_Det Y_MM_isAct [vi (nI o), vi a, vi b, vi c] μm (some (vi (zb v))) μm) ∧ (v = true → OKA o a b c)) : FTo (nI o) a b c := by
  obtain ⟨v, h1, h2, h3⟩ := h
  cases v with
  | false => exact Or.inl ⟨h1, h2⟩
  | true => exact Or.inr ⟨o, rfl, h1, h2, h3 rfl⟩
theorem FT_r0 {o : Nat} {a b c : Int32} (h : 0 ≤ o) (h2 : o < 11) : FTo (nI o) a b c := by
  rcases (by omega : o = 0 ∨ o = 1 ∨ o = 2 ∨ o = 3 ∨ o = 4 ∨ o = 5 ∨ o = 6 ∨ o = 7 ∨ o = 8 ∨ o = 9 ∨ o = 10) with rfl | rfl | rfl | rfl | rfl | rfl | rfl | rfl | rfl | rfl | rfl
  · exact FT_of FT_0
  · exact FT_of FT_1
  · exact FT_of FT_2
  · exact FT_of FT_3
  · exact FT_of FT_4
  · exact FT_of FT_5
  · exact FT_of FT_6
  · exact FT_of FT_7
  · exact FT_of FT_8
  · exact FT_of FT_9
  · exact FT_of FT_10
theorem FT_r11 {o : Nat} {a b c : Int32} (h : 11 ≤ o) (h2 : o < 22) : FTo (nI o) a b c := by
  rcases (by omega : o = 11 ∨ o = 12 ∨ o = 13 ∨ o = 14 ∨ o = 15 ∨ o = 16 ∨ o = 17 ∨ o = 18 ∨ o = 19 ∨ o = 20 ∨ o = 21) with rfl | rfl | rfl | rfl | rfl | rfl | rfl | rfl | rfl | rfl | rfl
  · exact FT_of FT_11
  · exact FT_of FT_12
  · exact FT_of FT_13
  · exact FT_of FT_14
  · exact FT_of FT_15
  · exact FT_of FT_16
  · exact FT_of FT_17
  · exact FT_of FT_18
  · exact Or.inl FT_19
  · exact FT_of FT_20
  · exact FT_of FT_21
theorem FT_r22 {o : Nat} {a b c : Int32} (h : 22 ≤ o) (h2 : o < 33) : FTo (nI o) a b c := by
  rcases (by omega : o = 22 ∨ o = 23 ∨ o = 24 ∨ o = 25 ∨ o = 26 ∨ o = 27 ∨ o = 28 ∨ o = 29 ∨ o = 30 ∨ o = 31 ∨ o = 32) with rfl | rfl | rfl | rfl | rfl | rfl | rfl | rfl | rfl | rfl | rfl
  · exact FT_of FT_22
  · exact FT_of FT_23
  · exact FT_of FT_24
  · exact FT_of FT_25
  · exact FT_of FT_26
  · exact FT_of FT_27
  · exact FT_of FT_28
  · exact FT_of FT_29
  · exact FT_of FT_30
  · exact FT_of FT_31
  · exact FT_of FT_32
theorem FT_r33 {o : Nat} {a b c : Int32} (h : 33 ≤ o) (h2 : o < 44) : FTo (nI o) a b c := by
  rcases (by omega : o = 33 ∨ o = 34 ∨ o = 35 ∨ o = 36 ∨ o = 37 ∨ o = 38 ∨ o = 39 ∨ o = 40 ∨ o = 41 ∨ o = 42 ∨ o = 43) with rfl | rfl | rfl | rfl | rfl | rfl | rfl | rfl | rfl | rfl | rfl
  · exact FT_of FT_33
  · exact FT_of FT_34
  · exact FT_of FT_35
  · exact FT_of FT_36
  · exact FT_of FT_37
  · exact FT_of FT_38
  · exact FT_of FT_39
  · exact FT_of FT_40
  · exact FT_of FT_41
  · exact FT_of FT_42
  · exact FT_of FT_43
theorem FT_r44 {o : Nat} {a b c : Int32} (h : 44 ≤ o) (h2 : o < 55) : FTo (nI o) a b c := by
  rcases (by omega : o = 44 ∨ o = 45 ∨ o = 46 ∨ o = 47 ∨ o = 48 ∨ o = 49 ∨ o = 50 ∨ o = 51 ∨ o = 52 ∨ o = 53 ∨ o = 54) with rfl | rfl | rfl | rfl | rfl | rfl | rfl | rfl | rfl | rfl | rfl
  · exact FT_of FT_44
  · exact FT_of FT_45
  · exact FT_of FT_46
  · exact FT_of FT_47
  · exact FT_of FT_48
  · exact FT_of FT_49
  · exact FT_of FT_50
  · exact FT_of FT_51
  · exact FT_of FT_52
  · exact FT_of FT_53
  · exact FT_of FT_54
theorem FT_r55 {o : Nat} {a b c : Int32} (h : 55 ≤ o) (h2 : o < 66) : FTo (nI o) a b c := by
  rcases (by omega : o = 55 ∨ o = 56 ∨ o = 57 ∨ o = 58 ∨ o = 59 ∨ o = 60 ∨ o = 61 ∨ o = 62 ∨ o = 63 ∨ o = 64 ∨ o = 65) with rfl | rfl | rfl | rfl | rfl | rfl | rfl | rfl | rfl | rfl | rfl
  · exact FT_of FT_55
  · exact FT_of FT_56
  · exact FT_of FT_57
  · exact FT_of FT_58
  · exact FT_of FT_59
  · exact FT_of FT_60
  · exact FT_of FT_61
  · exact FT_of FT_62
  · exact FT_of FT_63
  · exact FT_of FT_64
  · exact FT_of FT_65
theorem FT_all : FTT := by
  intro op a b c
  rcases icc op 66 (by decide) with ⟨o, ho, rfl⟩ | ho
  · change FTo (nI o) a b c
    by_cases h1 : o < 11
    · exact FT_r0 (by omega) h1
    by_cases h2 : o < 22
    · exact FT_r11 (by omega) h2
    by_cases h3 : o < 33
    · exact FT_r22 (by omega) h3
    by_cases h4 : o < 44
    · exact FT_r33 (by omega) h4
    by_cases h5 : o < 55
    · exact FT_r44 (by omega) h5
    · exact FT_r55 (by omega) ho
  · exact Or.inl (FT_out ho)
