set_option maxHeartbeats 8000000 in
theorem Q_field5 {ci : Nat → Nat → Nat → Int32} {cn : Nat → Nat → Nat → Nat} {co : Nat → Option Nat} {xj : Nat → Nat → Nat → Int64} {xd : Nat → Nat → Nat → UInt64} {xf : Nat → Nat → Nat → UInt32} {xo : Nat → Nat → Nat → Option Nat} {xi : Nat → Nat → Nat → Int32} {xn : Nat → Nat → Nat → Nat} {K : Nat → Nat} {I : Nat → Nat → Int32} {J : Nat → Nat → Int64} {F : Nat → Nat → UInt32} {D : Nat → Nat → UInt64} {R : Nat → Nat → Option Nat} {nx sl : Nat} {Km : Nat → Nat} {Im : Nat → Nat → Int32} {Jm : Nat → Nat → Int64} {Fm : Nat → Nat → UInt32} {Dm : Nat → Nat → UInt64} {Rm : Nat → Nat → Option Nat} {nxm slm : Nat} (hC : RC ci cn co xj xd xf xo xi xn I J F D R nx sl) (hM : RM ci cn co xj xd xf xo xi xn Im Jm Dm) (hI : IC ci cn) (hW : IW cn co) {i : Nat} (hi : i < xn 2 0 0) : Ct Y_MW_field [vr 10 6, vi (nI i), vi (nI 5)] (K, I, J, F, D, R, nx, sl) (fun r μ1 => Ct Y_MM_field [vr 11 6, vi (nI i), vi (nI 5)] (Km, Im, Jm, Fm, Dm, Rm, nxm, slm) (fun r2 μ2 => r = r2 ∧ RELS μ1 μ2)) := by
  have ym := rc_imad hC
  have zi := rc_isor hC hi
  rcases (show xn 0 i 0 < 16 ∨ xn 0 i 0 = 16 ∨ xn 0 i 0 = 17 ∨ xn 0 i 0 = 18 ∨ xn 0 i 0 = 19 ∨ xn 0 i 0 = 20 by omega) with hk | hk | hk | hk | hk | hk
  · skip
    refine ct_of h_MW_field rfl rfl rfl ?_
    refine ev_g0 rfl ?_
    refine ev_inV 1 k_MW_170 h_SO_at rfl rfl rfl rfl rfl ⟨by decide, by decide⟩ rfl ?_
    refine ev_gW2 [false, false] [some (94 + 4 * i)] rfl ?_
    refine ev_reta rfl ?_
    refine ev_g0 rfl ?_
    refine ev_inV 1 k_MW_202 h_TH_isA rfl rfl rfl rfl rfl ⟨by decide, by decide⟩ rfl ?_
    refine ev_gW2 [false, true, false, false] [none] rfl ?_
    refine ev_inV 0 k_TH_73 h_TH_isRow rfl rfl rfl rfl rfl ⟨by decide, by decide⟩ rfl ?_
    refine ev_gW2 [false] [] rfl ?_
    refine ev_retz rfl (by first | decide | exact zb_01 _) ?_
    refine ev_gW2 [true] [] rfl ?_
    refine ev_retz rfl (by first | decide | exact zb_01 _) ?_
    refine ev_gW2 [false] [] rfl ?_
    refine ev_retl rfl ?_
    refine ct_of h_MM_field rfl rfl rfl ?_
    refine ev_g0 rfl ?_
    refine ev_inV 1 k_MM_477 h_MM_isThing rfl rfl rfl rfl rfl ⟨by decide, by decide⟩ rfl ?_
    refine ev_g0 rfl ?_
    refine ev_inS 3 k_MM_188 h_MM_in rfl rfl rfl rfl ⟨by decide, by decide⟩ rfl ?_
    refine ev_gW2 [false, false] [] rfl ?_
    refine ev_retz rfl (by first | decide | exact zb_01 _) ?_
    refine ev_g0 rfl ?_
    refine ev_retz rfl (by first | decide | exact zb_01 _) ?_
    refine ev_gW2 [false] [] rfl ?_
    refine ev_inS 3 k_MM_188 h_MM_in rfl rfl rfl rfl ⟨by decide, by decide⟩ rfl ?_
    refine ev_gW2 [false, false] [] rfl ?_
    refine ev_retz rfl (by first | decide | exact zb_01 _) ?_
    refine ev_gW2 [false] [] rfl ?_
    refine ev_inS 1 k_MM_386 h_MM_kindOfField rfl rfl rfl rfl ⟨by decide, by decide⟩ rfl ?_
    refine ev_gW2 [true, true] [] rfl ?_
    refine ev_reti rfl ?_
    refine ev_g0 rfl ?_
    refine ev_inV 2 k_MM_202 h_MM_isKind rfl rfl rfl rfl rfl ⟨by decide, by decide⟩ rfl ?_
    refine ev_gW2 [false, false, true, true, false, true] [] rfl ?_
    refine ev_retz rfl (by first | decide | exact zb_01 _) ?_
    refine ev_gW2 [false] [] rfl ?_
    refine ev_retl rfl ?_
    exact ⟨lf_W2, ci, cn, co, xj, xd, xf, xo, xi, xn, hC, hM, hI, hW⟩
  · skip
    refine ct_of h_MW_field rfl rfl rfl ?_
    refine ev_g0 rfl ?_
    refine ev_inV 1 k_MW_170 h_SO_at rfl rfl rfl rfl rfl ⟨by decide, by decide⟩ rfl ?_
    refine ev_gW2 [false, false] [some (94 + 4 * i)] rfl ?_
    refine ev_reta rfl ?_
    refine ev_g0 rfl ?_
    refine ev_inV 1 k_MW_202 h_TH_isA rfl rfl rfl rfl rfl ⟨by decide, by decide⟩ rfl ?_
    refine ev_gW2 [false, true, false, false] [none] rfl ?_
    refine ev_inV 0 k_TH_73 h_TH_isRow rfl rfl rfl rfl rfl ⟨by decide, by decide⟩ rfl ?_
    refine ev_gW2 [true] [] rfl ?_
    refine ev_retz rfl (by first | decide | exact zb_01 _) ?_
    refine ev_gW2 [false] [] rfl ?_
    refine ev_inS 2 k_TH_77 h_TH_isUnder rfl rfl rfl rfl ⟨by decide, by decide⟩ rfl ?_
    refine ev_gW2 [true] [] rfl ?_
    refine ev_retz rfl (by first | decide | exact zb_01 _) ?_
    refine ev_gW2 [false] [] rfl ?_
    refine ev_retz rfl (by first | decide | exact zb_01 _) ?_
    refine ev_gW2 [true] [some 5] rfl ?_
    refine ev_retl rfl ?_
    refine ct_of h_MM_field rfl rfl rfl ?_
    refine ev_g0 rfl ?_
    refine ev_inV 1 k_MM_477 h_MM_isThing rfl rfl rfl rfl rfl ⟨by decide, by decide⟩ rfl ?_
    refine ev_g0 rfl ?_
    refine ev_inS 3 k_MM_188 h_MM_in rfl rfl rfl rfl ⟨by decide, by decide⟩ rfl ?_
    refine ev_gW2 [false, false] [] rfl ?_
    refine ev_retz rfl (by first | decide | exact zb_01 _) ?_
    refine ev_g0 rfl ?_
    refine ev_retz rfl (by first | decide | exact zb_01 _) ?_
    refine ev_gW2 [false] [] rfl ?_
    refine ev_inS 3 k_MM_188 h_MM_in rfl rfl rfl rfl ⟨by decide, by decide⟩ rfl ?_
    refine ev_gW2 [false, false] [] rfl ?_
    refine ev_retz rfl (by first | decide | exact zb_01 _) ?_
    refine ev_gW2 [false] [] rfl ?_
    refine ev_inS 1 k_MM_386 h_MM_kindOfField rfl rfl rfl rfl ⟨by decide, by decide⟩ rfl ?_
    refine ev_gW2 [true, true] [] rfl ?_
    refine ev_reti rfl ?_
    refine ev_g0 rfl ?_
    refine ev_inV 2 k_MM_202 h_MM_isKind rfl rfl rfl rfl rfl ⟨by decide, by decide⟩ rfl ?_
    refine ev_gW2 [false, false, true, true, false, false] [] rfl ?_
    refine ev_inS 2 k_MM_192 h_MM_isOf rfl rfl rfl rfl ⟨by decide, by decide⟩ rfl ?_
    refine ev_gW2 [true] [] rfl ?_
    refine ev_retz rfl (by first | decide | exact zb_01 _) ?_
    refine ev_gW2 [false] [] rfl ?_
    refine ev_retz rfl (by first | decide | exact zb_01 _) ?_
    refine ev_gW2 [true] [some 5] rfl ?_
    refine ev_retl rfl ?_
    exact ⟨lf_W2, ci, cn, co, xj, xd, xf, xo, xi, xn, hC, hM, hI, hW⟩
  · skip
    refine ct_of h_MW_field rfl rfl rfl ?_
    refine ev_g0 rfl ?_
    refine ev_inV 1 k_MW_170 h_SO_at rfl rfl rfl rfl rfl ⟨by decide, by decide⟩ rfl ?_
    refine ev_gW2 [false, false] [some (94 + 4 * i)] rfl ?_
    refine ev_reta rfl ?_
    refine ev_g0 rfl ?_
    refine ev_inV 1 k_MW_202 h_TH_isA rfl rfl rfl rfl rfl ⟨by decide, by decide⟩ rfl ?_
    refine ev_gW2 [false, true, false, false] [none] rfl ?_
    refine ev_inV 0 k_TH_73 h_TH_isRow rfl rfl rfl rfl rfl ⟨by decide, by decide⟩ rfl ?_
    refine ev_gW2 [true] [] rfl ?_
    refine ev_retz rfl (by first | decide | exact zb_01 _) ?_
    refine ev_gW2 [false] [] rfl ?_
    refine ev_inS 2 k_TH_77 h_TH_isUnder rfl rfl rfl rfl ⟨by decide, by decide⟩ rfl ?_
    refine ev_gW2 [true] [] rfl ?_
    refine ev_retz rfl (by first | decide | exact zb_01 _) ?_
    refine ev_gW2 [false] [] rfl ?_
    refine ev_retz rfl (by first | decide | exact zb_01 _) ?_
    refine ev_gW2 [true] [some 5] rfl ?_
    refine ev_retl rfl ?_
    refine ct_of h_MM_field rfl rfl rfl ?_
    refine ev_g0 rfl ?_
    refine ev_inV 1 k_MM_477 h_MM_isThing rfl rfl rfl rfl rfl ⟨by decide, by decide⟩ rfl ?_
    refine ev_g0 rfl ?_
    refine ev_inS 3 k_MM_188 h_MM_in rfl rfl rfl rfl ⟨by decide, by decide⟩ rfl ?_
    refine ev_gW2 [false, false] [] rfl ?_
    refine ev_retz rfl (by first | decide | exact zb_01 _) ?_
    refine ev_g0 rfl ?_
    refine ev_retz rfl (by first | decide | exact zb_01 _) ?_
    refine ev_gW2 [false] [] rfl ?_
    refine ev_inS 3 k_MM_188 h_MM_in rfl rfl rfl rfl ⟨by decide, by decide⟩ rfl ?_
    refine ev_gW2 [false, false] [] rfl ?_
    refine ev_retz rfl (by first | decide | exact zb_01 _) ?_
    refine ev_gW2 [false] [] rfl ?_
    refine ev_inS 1 k_MM_386 h_MM_kindOfField rfl rfl rfl rfl ⟨by decide, by decide⟩ rfl ?_
    refine ev_gW2 [true, true] [] rfl ?_
    refine ev_reti rfl ?_
    refine ev_g0 rfl ?_
    refine ev_inV 2 k_MM_202 h_MM_isKind rfl rfl rfl rfl rfl ⟨by decide, by decide⟩ rfl ?_
    refine ev_gW2 [false, false, true, true, false, false] [] rfl ?_
    refine ev_inS 2 k_MM_192 h_MM_isOf rfl rfl rfl rfl ⟨by decide, by decide⟩ rfl ?_
    refine ev_gW2 [true] [] rfl ?_
    refine ev_retz rfl (by first | decide | exact zb_01 _) ?_
    refine ev_gW2 [false] [] rfl ?_
    refine ev_retz rfl (by first | decide | exact zb_01 _) ?_
    refine ev_gW2 [true] [some 5] rfl ?_
    refine ev_retl rfl ?_
    exact ⟨lf_W2, ci, cn, co, xj, xd, xf, xo, xi, xn, hC, hM, hI, hW⟩
  · skip
    refine ct_of h_MW_field rfl rfl rfl ?_
    refine ev_g0 rfl ?_
    refine ev_inV 1 k_MW_170 h_SO_at rfl rfl rfl rfl rfl ⟨by decide, by decide⟩ rfl ?_
    refine ev_gW2 [false, false] [some (94 + 4 * i)] rfl ?_
    refine ev_reta rfl ?_
    refine ev_g0 rfl ?_
    refine ev_inV 1 k_MW_202 h_TH_isA rfl rfl rfl rfl rfl ⟨by decide, by decide⟩ rfl ?_
    refine ev_gW2 [false, true, false, false] [none] rfl ?_
    refine ev_inV 0 k_TH_73 h_TH_isRow rfl rfl rfl rfl rfl ⟨by decide, by decide⟩ rfl ?_
    refine ev_gW2 [true] [] rfl ?_
    refine ev_retz rfl (by first | decide | exact zb_01 _) ?_
    refine ev_gW2 [false] [] rfl ?_
    refine ev_inS 2 k_TH_77 h_TH_isUnder rfl rfl rfl rfl ⟨by decide, by decide⟩ rfl ?_
    refine ev_gW2 [true] [] rfl ?_
    refine ev_retz rfl (by first | decide | exact zb_01 _) ?_
    refine ev_gW2 [false] [] rfl ?_
    refine ev_retz rfl (by first | decide | exact zb_01 _) ?_
    refine ev_gW2 [true] [some 5] rfl ?_
    refine ev_retl rfl ?_
    refine ct_of h_MM_field rfl rfl rfl ?_
    refine ev_g0 rfl ?_
    refine ev_inV 1 k_MM_477 h_MM_isThing rfl rfl rfl rfl rfl ⟨by decide, by decide⟩ rfl ?_
    refine ev_g0 rfl ?_
    refine ev_inS 3 k_MM_188 h_MM_in rfl rfl rfl rfl ⟨by decide, by decide⟩ rfl ?_
    refine ev_gW2 [false, false] [] rfl ?_
    refine ev_retz rfl (by first | decide | exact zb_01 _) ?_
    refine ev_g0 rfl ?_
    refine ev_retz rfl (by first | decide | exact zb_01 _) ?_
    refine ev_gW2 [false] [] rfl ?_
    refine ev_inS 3 k_MM_188 h_MM_in rfl rfl rfl rfl ⟨by decide, by decide⟩ rfl ?_
    refine ev_gW2 [false, false] [] rfl ?_
    refine ev_retz rfl (by first | decide | exact zb_01 _) ?_
    refine ev_gW2 [false] [] rfl ?_
    refine ev_inS 1 k_MM_386 h_MM_kindOfField rfl rfl rfl rfl ⟨by decide, by decide⟩ rfl ?_
    refine ev_gW2 [true, true] [] rfl ?_
    refine ev_reti rfl ?_
    refine ev_g0 rfl ?_
    refine ev_inV 2 k_MM_202 h_MM_isKind rfl rfl rfl rfl rfl ⟨by decide, by decide⟩ rfl ?_
    refine ev_gW2 [false, false, true, true, false, false] [] rfl ?_
    refine ev_inS 2 k_MM_192 h_MM_isOf rfl rfl rfl rfl ⟨by decide, by decide⟩ rfl ?_
    refine ev_gW2 [true] [] rfl ?_
    refine ev_retz rfl (by first | decide | exact zb_01 _) ?_
    refine ev_gW2 [false] [] rfl ?_
    refine ev_retz rfl (by first | decide | exact zb_01 _) ?_
    refine ev_gW2 [true] [some 5] rfl ?_
    refine ev_retl rfl ?_
    exact ⟨lf_W2, ci, cn, co, xj, xd, xf, xo, xi, xn, hC, hM, hI, hW⟩
  · skip
    refine ct_of h_MW_field rfl rfl rfl ?_
    refine ev_g0 rfl ?_
    refine ev_inV 1 k_MW_170 h_SO_at rfl rfl rfl rfl rfl ⟨by decide, by decide⟩ rfl ?_
    refine ev_gW2 [false, false] [some (94 + 4 * i)] rfl ?_
    refine ev_reta rfl ?_
    refine ev_g0 rfl ?_
    refine ev_inV 1 k_MW_202 h_TH_isA rfl rfl rfl rfl rfl ⟨by decide, by decide⟩ rfl ?_
    refine ev_gW2 [false, true, false, false] [none] rfl ?_
    refine ev_inV 0 k_TH_73 h_TH_isRow rfl rfl rfl rfl rfl ⟨by decide, by decide⟩ rfl ?_
    refine ev_gW2 [true] [] rfl ?_
    refine ev_retz rfl (by first | decide | exact zb_01 _) ?_
    refine ev_gW2 [false] [] rfl ?_
    refine ev_inS 2 k_TH_77 h_TH_isUnder rfl rfl rfl rfl ⟨by decide, by decide⟩ rfl ?_
    refine ev_gW2 [true] [] rfl ?_
    refine ev_retz rfl (by first | decide | exact zb_01 _) ?_
    refine ev_gW2 [false] [] rfl ?_
    refine ev_retz rfl (by first | decide | exact zb_01 _) ?_
    refine ev_gW2 [true] [some 5] rfl ?_
    refine ev_retl rfl ?_
    refine ct_of h_MM_field rfl rfl rfl ?_
    refine ev_g0 rfl ?_
    refine ev_inV 1 k_MM_477 h_MM_isThing rfl rfl rfl rfl rfl ⟨by decide, by decide⟩ rfl ?_
    refine ev_g0 rfl ?_
    refine ev_inS 3 k_MM_188 h_MM_in rfl rfl rfl rfl ⟨by decide, by decide⟩ rfl ?_
    refine ev_gW2 [false, false] [] rfl ?_
    refine ev_retz rfl (by first | decide | exact zb_01 _) ?_
    refine ev_g0 rfl ?_
    refine ev_retz rfl (by first | decide | exact zb_01 _) ?_
    refine ev_gW2 [false] [] rfl ?_
    refine ev_inS 3 k_MM_188 h_MM_in rfl rfl rfl rfl ⟨by decide, by decide⟩ rfl ?_
    refine ev_gW2 [false, false] [] rfl ?_
    refine ev_retz rfl (by first | decide | exact zb_01 _) ?_
    refine ev_gW2 [false] [] rfl ?_
    refine ev_inS 1 k_MM_386 h_MM_kindOfField rfl rfl rfl rfl ⟨by decide, by decide⟩ rfl ?_
    refine ev_gW2 [true, true] [] rfl ?_
    refine ev_reti rfl ?_
    refine ev_g0 rfl ?_
    refine ev_inV 2 k_MM_202 h_MM_isKind rfl rfl rfl rfl rfl ⟨by decide, by decide⟩ rfl ?_
    refine ev_gW2 [false, false, true, true, false, false] [] rfl ?_
    refine ev_inS 2 k_MM_192 h_MM_isOf rfl rfl rfl rfl ⟨by decide, by decide⟩ rfl ?_
    refine ev_gW2 [true] [] rfl ?_
    refine ev_retz rfl (by first | decide | exact zb_01 _) ?_
    refine ev_gW2 [false] [] rfl ?_
    refine ev_retz rfl (by first | decide | exact zb_01 _) ?_
    refine ev_gW2 [true] [some 5] rfl ?_
    refine ev_retl rfl ?_
    exact ⟨lf_W2, ci, cn, co, xj, xd, xf, xo, xi, xn, hC, hM, hI, hW⟩
  · skip
    refine ct_of h_MW_field rfl rfl rfl ?_
    refine ev_g0 rfl ?_
    refine ev_inV 1 k_MW_170 h_SO_at rfl rfl rfl rfl rfl ⟨by decide, by decide⟩ rfl ?_
    refine ev_gW2 [false, false] [some (94 + 4 * i)] rfl ?_
    refine ev_reta rfl ?_
    refine ev_g0 rfl ?_
    refine ev_inV 1 k_MW_202 h_TH_isA rfl rfl rfl rfl rfl ⟨by decide, by decide⟩ rfl ?_
    refine ev_gW2 [false, true, false, false] [none] rfl ?_
    refine ev_inV 0 k_TH_73 h_TH_isRow rfl rfl rfl rfl rfl ⟨by decide, by decide⟩ rfl ?_
    refine ev_gW2 [true] [] rfl ?_
    refine ev_retz rfl (by first | decide | exact zb_01 _) ?_
    refine ev_gW2 [false] [] rfl ?_
    refine ev_inS 2 k_TH_77 h_TH_isUnder rfl rfl rfl rfl ⟨by decide, by decide⟩ rfl ?_
    refine ev_gW2 [true] [] rfl ?_
    refine ev_retz rfl (by first | decide | exact zb_01 _) ?_
    refine ev_gW2 [false] [] rfl ?_
    refine ev_retz rfl (by first | decide | exact zb_01 _) ?_
    refine ev_gW2 [true] [some 5] rfl ?_
    refine ev_retl rfl ?_
    refine ct_of h_MM_field rfl rfl rfl ?_
    refine ev_g0 rfl ?_
    refine ev_inV 1 k_MM_477 h_MM_isThing rfl rfl rfl rfl rfl ⟨by decide, by decide⟩ rfl ?_
    refine ev_g0 rfl ?_
    refine ev_inS 3 k_MM_188 h_MM_in rfl rfl rfl rfl ⟨by decide, by decide⟩ rfl ?_
    refine ev_gW2 [false, false] [] rfl ?_
    refine ev_retz rfl (by first | decide | exact zb_01 _) ?_
    refine ev_g0 rfl ?_
    refine ev_retz rfl (by first | decide | exact zb_01 _) ?_
    refine ev_gW2 [false] [] rfl ?_
    refine ev_inS 3 k_MM_188 h_MM_in rfl rfl rfl rfl ⟨by decide, by decide⟩ rfl ?_
    refine ev_gW2 [false, false] [] rfl ?_
    refine ev_retz rfl (by first | decide | exact zb_01 _) ?_
    refine ev_gW2 [false] [] rfl ?_
    refine ev_inS 1 k_MM_386 h_MM_kindOfField rfl rfl rfl rfl ⟨by decide, by decide⟩ rfl ?_
    refine ev_gW2 [true, true] [] rfl ?_
    refine ev_reti rfl ?_
    refine ev_g0 rfl ?_
    refine ev_inV 2 k_MM_202 h_MM_isKind rfl rfl rfl rfl rfl ⟨by decide, by decide⟩ rfl ?_
    refine ev_gW2 [false, false, true, true, false, false] [] rfl ?_
    refine ev_inS 2 k_MM_192 h_MM_isOf rfl rfl rfl rfl ⟨by decide, by decide⟩ rfl ?_
    refine ev_gW2 [true] [] rfl ?_
    refine ev_retz rfl (by first | decide | exact zb_01 _) ?_
    refine ev_gW2 [false] [] rfl ?_
    refine ev_retz rfl (by first | decide | exact zb_01 _) ?_
    refine ev_gW2 [true] [some 5] rfl ?_
    refine ev_retl rfl ?_
    exact ⟨lf_W2, ci, cn, co, xj, xd, xf, xo, xi, xn, hC, hM, hI, hW⟩
set_option maxHeartbeats 8000000 in
theorem Q_field6 {ci : Nat → Nat → Nat → Int32} {cn : Nat → Nat → Nat → Nat} {co : Nat → Option Nat} {xj : Nat → Nat → Nat → Int64} {xd : Nat → Nat → Nat → UInt64} {xf : Nat → Nat → Nat → UInt32} {xo : Nat → Nat → Nat → Option Nat} {xi : Nat → Nat → Nat → Int32} {xn : Nat → Nat → Nat → Nat} {K : Nat → Nat} {I : Nat → Nat → Int32} {J : Nat → Nat → Int64} {F : Nat → Nat → UInt32} {D : Nat → Nat → UInt64} {R : Nat → Nat → Option Nat} {nx sl : Nat} {Km : Nat → Nat} {Im : Nat → Nat → Int32} {Jm : Nat → Nat → Int64} {Fm : Nat → Nat → UInt32} {Dm : Nat → Nat → UInt64} {Rm : Nat → Nat → Option Nat} {nxm slm : Nat} (hC : RC ci cn co xj xd xf xo xi xn I J F D R nx sl) (hM : RM ci cn co xj xd xf xo xi xn Im Jm Dm) (hI : IC ci cn) (hW : IW cn co) {i : Nat} (hi : i < xn 2 0 0) : Ct Y_MW_field [vr 10 6, vi (nI i), vi (nI 6)] (K, I, J, F, D, R, nx, sl) (fun r μ1 => Ct Y_MM_field [vr 11 6, vi (nI i), vi (nI 6)] (Km, Im, Jm, Fm, Dm, Rm, nxm, slm) (fun r2 μ2 => r = r2 ∧ RELS μ1 μ2)) := by
  have ym := rc_imad hC
  have zi := rc_isor hC hi
  rcases (show xn 0 i 0 < 16 ∨ xn 0 i 0 = 16 ∨ xn 0 i 0 = 17 ∨ xn 0 i 0 = 18 ∨ xn 0 i 0 = 19 ∨ xn 0 i 0 = 20 by omega) with hk | hk | hk | hk | hk | hk
  · skip
    refine ct_of h_MW_field rfl rfl rfl ?_
    refine ev_g0 rfl ?_
    refine ev_inV 1 k_MW_170 h_SO_at rfl rfl rfl rfl rfl ⟨by decide, by decide⟩ rfl ?_
    refine ev_gW2 [false, false] [some (94 + 4 * i)] rfl ?_
    refine ev_reta rfl ?_
    refine ev_g0 rfl ?_
    refine ev_inV 1 k_MW_202 h_TH_isA rfl rfl rfl rfl rfl ⟨by decide, by decide⟩ rfl ?_
    refine ev_gW2 [false, true, false, false] [none] rfl ?_
    refine ev_inV 0 k_TH_73 h_TH_isRow rfl rfl rfl rfl rfl ⟨by decide, by decide⟩ rfl ?_
    refine ev_gW2 [false] [] rfl ?_
    refine ev_retz rfl (by first | decide | exact zb_01 _) ?_
    refine ev_gW2 [true] [] rfl ?_
    refine ev_retz rfl (by first | decide | exact zb_01 _) ?_
    refine ev_gW2 [false] [] rfl ?_
    refine ev_retl rfl ?_
    refine ct_of h_MM_field rfl rfl rfl ?_
    refine ev_g0 rfl ?_
    refine ev_inV 1 k_MM_477 h_MM_isThing rfl rfl rfl rfl rfl ⟨by decide, by decide⟩ rfl ?_
    refine ev_g0 rfl ?_
    refine ev_inS 3 k_MM_188 h_MM_in rfl rfl rfl rfl ⟨by decide, by decide⟩ rfl ?_
    refine ev_gW2 [false, false] [] rfl ?_
    refine ev_retz rfl (by first | decide | exact zb_01 _) ?_
    refine ev_g0 rfl ?_
    refine ev_retz rfl (by first | decide | exact zb_01 _) ?_
    refine ev_gW2 [false] [] rfl ?_
    refine ev_inS 3 k_MM_188 h_MM_in rfl rfl rfl rfl ⟨by decide, by decide⟩ rfl ?_
    refine ev_gW2 [false, false] [] rfl ?_
    refine ev_retz rfl (by first | decide | exact zb_01 _) ?_
    refine ev_gW2 [false] [] rfl ?_
    refine ev_inS 1 k_MM_386 h_MM_kindOfField rfl rfl rfl rfl ⟨by decide, by decide⟩ rfl ?_
    refine ev_gW2 [true, true] [] rfl ?_
    refine ev_reti rfl ?_
    refine ev_g0 rfl ?_
    refine ev_inV 2 k_MM_202 h_MM_isKind rfl rfl rfl rfl rfl ⟨by decide, by decide⟩ rfl ?_
    refine ev_gW2 [false, false, true, true, false, true] [] rfl ?_
    refine ev_retz rfl (by first | decide | exact zb_01 _) ?_
    refine ev_gW2 [false] [] rfl ?_
    refine ev_retl rfl ?_
    exact ⟨lf_W2, ci, cn, co, xj, xd, xf, xo, xi, xn, hC, hM, hI, hW⟩
  · skip
    refine ct_of h_MW_field rfl rfl rfl ?_
    refine ev_g0 rfl ?_
    refine ev_inV 1 k_MW_170 h_SO_at rfl rfl rfl rfl rfl ⟨by decide, by decide⟩ rfl ?_
    refine ev_gW2 [false, false] [some (94 + 4 * i)] rfl ?_
    refine ev_reta rfl ?_
    refine ev_g0 rfl ?_
    refine ev_inV 1 k_MW_202 h_TH_isA rfl rfl rfl rfl rfl ⟨by decide, by decide⟩ rfl ?_
    refine ev_gW2 [false, true, false, false] [none] rfl ?_
    refine ev_inV 0 k_TH_73 h_TH_isRow rfl rfl rfl rfl rfl ⟨by decide, by decide⟩ rfl ?_
    refine ev_gW2 [true] [] rfl ?_
    refine ev_retz rfl (by first | decide | exact zb_01 _) ?_
    refine ev_gW2 [false] [] rfl ?_
    refine ev_inS 2 k_TH_77 h_TH_isUnder rfl rfl rfl rfl ⟨by decide, by decide⟩ rfl ?_
    refine ev_gW2 [true] [] rfl ?_
    refine ev_retz rfl (by first | decide | exact zb_01 _) ?_
    refine ev_gW2 [false] [] rfl ?_
    refine ev_retz rfl (by first | decide | exact zb_01 _) ?_
    refine ev_gW2 [true] [some 6] rfl ?_
    refine ev_retl rfl ?_
    refine ct_of h_MM_field rfl rfl rfl ?_
    refine ev_g0 rfl ?_
    refine ev_inV 1 k_MM_477 h_MM_isThing rfl rfl rfl rfl rfl ⟨by decide, by decide⟩ rfl ?_
    refine ev_g0 rfl ?_
    refine ev_inS 3 k_MM_188 h_MM_in rfl rfl rfl rfl ⟨by decide, by decide⟩ rfl ?_
    refine ev_gW2 [false, false] [] rfl ?_
    refine ev_retz rfl (by first | decide | exact zb_01 _) ?_
    refine ev_g0 rfl ?_
    refine ev_retz rfl (by first | decide | exact zb_01 _) ?_
    refine ev_gW2 [false] [] rfl ?_
    refine ev_inS 3 k_MM_188 h_MM_in rfl rfl rfl rfl ⟨by decide, by decide⟩ rfl ?_
    refine ev_gW2 [false, false] [] rfl ?_
    refine ev_retz rfl (by first | decide | exact zb_01 _) ?_
    refine ev_gW2 [false] [] rfl ?_
    refine ev_inS 1 k_MM_386 h_MM_kindOfField rfl rfl rfl rfl ⟨by decide, by decide⟩ rfl ?_
    refine ev_gW2 [true, true] [] rfl ?_
    refine ev_reti rfl ?_
    refine ev_g0 rfl ?_
    refine ev_inV 2 k_MM_202 h_MM_isKind rfl rfl rfl rfl rfl ⟨by decide, by decide⟩ rfl ?_
    refine ev_gW2 [false, false, true, true, false, false] [] rfl ?_
    refine ev_inS 2 k_MM_192 h_MM_isOf rfl rfl rfl rfl ⟨by decide, by decide⟩ rfl ?_
    refine ev_gW2 [true] [] rfl ?_
    refine ev_retz rfl (by first | decide | exact zb_01 _) ?_
    refine ev_gW2 [false] [] rfl ?_
    refine ev_retz rfl (by first | decide | exact zb_01 _) ?_
    refine ev_gW2 [true] [none] rfl ?_
    refine ev_retl rfl ?_
    exact ⟨lf_W2, ci, cn, co, xj, xd, xf, xo, xi, xn, hC, hM, hI, hW⟩
  · skip
    refine ct_of h_MW_field rfl rfl rfl ?_
    refine ev_g0 rfl ?_
    refine ev_inV 1 k_MW_170 h_SO_at rfl rfl rfl rfl rfl ⟨by decide, by decide⟩ rfl ?_
    refine ev_gW2 [false, false] [some (94 + 4 * i)] rfl ?_
    refine ev_reta rfl ?_
    refine ev_g0 rfl ?_
    refine ev_inV 1 k_MW_202 h_TH_isA rfl rfl rfl rfl rfl ⟨by decide, by decide⟩ rfl ?_
    refine ev_gW2 [false, true, false, false] [none] rfl ?_
    refine ev_inV 0 k_TH_73 h_TH_isRow rfl rfl rfl rfl rfl ⟨by decide, by decide⟩ rfl ?_
    refine ev_gW2 [true] [] rfl ?_
    refine ev_retz rfl (by first | decide | exact zb_01 _) ?_
    refine ev_gW2 [false] [] rfl ?_
    refine ev_inS 2 k_TH_77 h_TH_isUnder rfl rfl rfl rfl ⟨by decide, by decide⟩ rfl ?_
    refine ev_gW2 [true] [] rfl ?_
    refine ev_retz rfl (by first | decide | exact zb_01 _) ?_
    refine ev_gW2 [false] [] rfl ?_
    refine ev_retz rfl (by first | decide | exact zb_01 _) ?_
    refine ev_gW2 [true] [some 6] rfl ?_
    refine ev_retl rfl ?_
    refine ct_of h_MM_field rfl rfl rfl ?_
    refine ev_g0 rfl ?_
    refine ev_inV 1 k_MM_477 h_MM_isThing rfl rfl rfl rfl rfl ⟨by decide, by decide⟩ rfl ?_
    refine ev_g0 rfl ?_
    refine ev_inS 3 k_MM_188 h_MM_in rfl rfl rfl rfl ⟨by decide, by decide⟩ rfl ?_
    refine ev_gW2 [false, false] [] rfl ?_
    refine ev_retz rfl (by first | decide | exact zb_01 _) ?_
    refine ev_g0 rfl ?_
    refine ev_retz rfl (by first | decide | exact zb_01 _) ?_
    refine ev_gW2 [false] [] rfl ?_
    refine ev_inS 3 k_MM_188 h_MM_in rfl rfl rfl rfl ⟨by decide, by decide⟩ rfl ?_
    refine ev_gW2 [false, false] [] rfl ?_
    refine ev_retz rfl (by first | decide | exact zb_01 _) ?_
    refine ev_gW2 [false] [] rfl ?_
    refine ev_inS 1 k_MM_386 h_MM_kindOfField rfl rfl rfl rfl ⟨by decide, by decide⟩ rfl ?_
    refine ev_gW2 [true, true] [] rfl ?_
    refine ev_reti rfl ?_
    refine ev_g0 rfl ?_
    refine ev_inV 2 k_MM_202 h_MM_isKind rfl rfl rfl rfl rfl ⟨by decide, by decide⟩ rfl ?_
    refine ev_gW2 [false, false, true, true, false, false] [] rfl ?_
    refine ev_inS 2 k_MM_192 h_MM_isOf rfl rfl rfl rfl ⟨by decide, by decide⟩ rfl ?_
    refine ev_gW2 [true] [] rfl ?_
    refine ev_retz rfl (by first | decide | exact zb_01 _) ?_
    refine ev_gW2 [false] [] rfl ?_
    refine ev_retz rfl (by first | decide | exact zb_01 _) ?_
    refine ev_gW2 [true] [none] rfl ?_
    refine ev_retl rfl ?_
    exact ⟨lf_W2, ci, cn, co, xj, xd, xf, xo, xi, xn, hC, hM, hI, hW⟩
  · skip
    refine ct_of h_MW_field rfl rfl rfl ?_
    refine ev_g0 rfl ?_
    refine ev_inV 1 k_MW_170 h_SO_at rfl rfl rfl rfl rfl ⟨by decide, by decide⟩ rfl ?_
    refine ev_gW2 [false, false] [some (94 + 4 * i)] rfl ?_
    refine ev_reta rfl ?_
    refine ev_g0 rfl ?_
    refine ev_inV 1 k_MW_202 h_TH_isA rfl rfl rfl rfl rfl ⟨by decide, by decide⟩ rfl ?_
    refine ev_gW2 [false, true, false, false] [none] rfl ?_
    refine ev_inV 0 k_TH_73 h_TH_isRow rfl rfl rfl rfl rfl ⟨by decide, by decide⟩ rfl ?_
    refine ev_gW2 [true] [] rfl ?_
    refine ev_retz rfl (by first | decide | exact zb_01 _) ?_
    refine ev_gW2 [false] [] rfl ?_
    refine ev_inS 2 k_TH_77 h_TH_isUnder rfl rfl rfl rfl ⟨by decide, by decide⟩ rfl ?_
    refine ev_gW2 [true] [] rfl ?_
    refine ev_retz rfl (by first | decide | exact zb_01 _) ?_
    refine ev_gW2 [false] [] rfl ?_
    refine ev_retz rfl (by first | decide | exact zb_01 _) ?_
    refine ev_gW2 [true] [some 6] rfl ?_
    refine ev_retl rfl ?_
    refine ct_of h_MM_field rfl rfl rfl ?_
    refine ev_g0 rfl ?_
    refine ev_inV 1 k_MM_477 h_MM_isThing rfl rfl rfl rfl rfl ⟨by decide, by decide⟩ rfl ?_
    refine ev_g0 rfl ?_
    refine ev_inS 3 k_MM_188 h_MM_in rfl rfl rfl rfl ⟨by decide, by decide⟩ rfl ?_
    refine ev_gW2 [false, false] [] rfl ?_
    refine ev_retz rfl (by first | decide | exact zb_01 _) ?_
    refine ev_g0 rfl ?_
    refine ev_retz rfl (by first | decide | exact zb_01 _) ?_
    refine ev_gW2 [false] [] rfl ?_
    refine ev_inS 3 k_MM_188 h_MM_in rfl rfl rfl rfl ⟨by decide, by decide⟩ rfl ?_
    refine ev_gW2 [false, false] [] rfl ?_
    refine ev_retz rfl (by first | decide | exact zb_01 _) ?_
    refine ev_gW2 [false] [] rfl ?_
    refine ev_inS 1 k_MM_386 h_MM_kindOfField rfl rfl rfl rfl ⟨by decide, by decide⟩ rfl ?_
    refine ev_gW2 [true, true] [] rfl ?_
    refine ev_reti rfl ?_
    refine ev_g0 rfl ?_
    refine ev_inV 2 k_MM_202 h_MM_isKind rfl rfl rfl rfl rfl ⟨by decide, by decide⟩ rfl ?_
    refine ev_gW2 [false, false, true, true, false, false] [] rfl ?_
    refine ev_inS 2 k_MM_192 h_MM_isOf rfl rfl rfl rfl ⟨by decide, by decide⟩ rfl ?_
    refine ev_gW2 [true] [] rfl ?_
    refine ev_retz rfl (by first | decide | exact zb_01 _) ?_
    refine ev_gW2 [false] [] rfl ?_
    refine ev_retz rfl (by first | decide | exact zb_01 _) ?_
    refine ev_gW2 [true] [none] rfl ?_
    refine ev_retl rfl ?_
    exact ⟨lf_W2, ci, cn, co, xj, xd, xf, xo, xi, xn, hC, hM, hI, hW⟩
  · skip
    refine ct_of h_MW_field rfl rfl rfl ?_
    refine ev_g0 rfl ?_
    refine ev_inV 1 k_MW_170 h_SO_at rfl rfl rfl rfl rfl ⟨by decide, by decide⟩ rfl ?_
    refine ev_gW2 [false, false] [some (94 + 4 * i)] rfl ?_
    refine ev_reta rfl ?_
    refine ev_g0 rfl ?_
    refine ev_inV 1 k_MW_202 h_TH_isA rfl rfl rfl rfl rfl ⟨by decide, by decide⟩ rfl ?_
    refine ev_gW2 [false, true, false, false] [none] rfl ?_
    refine ev_inV 0 k_TH_73 h_TH_isRow rfl rfl rfl rfl rfl ⟨by decide, by decide⟩ rfl ?_
    refine ev_gW2 [true] [] rfl ?_
    refine ev_retz rfl (by first | decide | exact zb_01 _) ?_
    refine ev_gW2 [false] [] rfl ?_
    refine ev_inS 2 k_TH_77 h_TH_isUnder rfl rfl rfl rfl ⟨by decide, by decide⟩ rfl ?_
    refine ev_gW2 [true] [] rfl ?_
    refine ev_retz rfl (by first | decide | exact zb_01 _) ?_
    refine ev_gW2 [false] [] rfl ?_
    refine ev_retz rfl (by first | decide | exact zb_01 _) ?_
    refine ev_gW2 [true] [some 6] rfl ?_
    refine ev_retl rfl ?_
    refine ct_of h_MM_field rfl rfl rfl ?_
    refine ev_g0 rfl ?_
    refine ev_inV 1 k_MM_477 h_MM_isThing rfl rfl rfl rfl rfl ⟨by decide, by decide⟩ rfl ?_
    refine ev_g0 rfl ?_
    refine ev_inS 3 k_MM_188 h_MM_in rfl rfl rfl rfl ⟨by decide, by decide⟩ rfl ?_
    refine ev_gW2 [false, false] [] rfl ?_
    refine ev_retz rfl (by first | decide | exact zb_01 _) ?_
    refine ev_g0 rfl ?_
    refine ev_retz rfl (by first | decide | exact zb_01 _) ?_
    refine ev_gW2 [false] [] rfl ?_
    refine ev_inS 3 k_MM_188 h_MM_in rfl rfl rfl rfl ⟨by decide, by decide⟩ rfl ?_
    refine ev_gW2 [false, false] [] rfl ?_
    refine ev_retz rfl (by first | decide | exact zb_01 _) ?_
    refine ev_gW2 [false] [] rfl ?_
    refine ev_inS 1 k_MM_386 h_MM_kindOfField rfl rfl rfl rfl ⟨by decide, by decide⟩ rfl ?_
    refine ev_gW2 [true, true] [] rfl ?_
    refine ev_reti rfl ?_
    refine ev_g0 rfl ?_
    refine ev_inV 2 k_MM_202 h_MM_isKind rfl rfl rfl rfl rfl ⟨by decide, by decide⟩ rfl ?_
    refine ev_gW2 [false, false, true, true, false, false] [] rfl ?_
    refine ev_inS 2 k_MM_192 h_MM_isOf rfl rfl rfl rfl ⟨by decide, by decide⟩ rfl ?_
    refine ev_gW2 [true] [] rfl ?_
    refine ev_retz rfl (by first | decide | exact zb_01 _) ?_
    refine ev_gW2 [false] [] rfl ?_
    refine ev_retz rfl (by first | decide | exact zb_01 _) ?_
    refine ev_gW2 [true] [none] rfl ?_
    refine ev_retl rfl ?_
    exact ⟨lf_W2, ci, cn, co, xj, xd, xf, xo, xi, xn, hC, hM, hI, hW⟩
  · skip
    refine ct_of h_MW_field rfl rfl rfl ?_
    refine ev_g0 rfl ?_
    refine ev_inV 1 k_MW_170 h_SO_at rfl rfl rfl rfl rfl ⟨by decide, by decide⟩ rfl ?_
    refine ev_gW2 [false, false] [some (94 + 4 * i)] rfl ?_
    refine ev_reta rfl ?_
    refine ev_g0 rfl ?_
    refine ev_inV 1 k_MW_202 h_TH_isA rfl rfl rfl rfl rfl ⟨by decide, by decide⟩ rfl ?_
    refine ev_gW2 [false, true, false, false] [none] rfl ?_
    refine ev_inV 0 k_TH_73 h_TH_isRow rfl rfl rfl rfl rfl ⟨by decide, by decide⟩ rfl ?_
    refine ev_gW2 [true] [] rfl ?_
    refine ev_retz rfl (by first | decide | exact zb_01 _) ?_
    refine ev_gW2 [false] [] rfl ?_
    refine ev_inS 2 k_TH_77 h_TH_isUnder rfl rfl rfl rfl ⟨by decide, by decide⟩ rfl ?_
    refine ev_gW2 [true] [] rfl ?_
    refine ev_retz rfl (by first | decide | exact zb_01 _) ?_
    refine ev_gW2 [false] [] rfl ?_
    refine ev_retz rfl (by first | decide | exact zb_01 _) ?_
    refine ev_gW2 [true] [some 6] rfl ?_
    refine ev_retl rfl ?_
    refine ct_of h_MM_field rfl rfl rfl ?_
    refine ev_g0 rfl ?_
    refine ev_inV 1 k_MM_477 h_MM_isThing rfl rfl rfl rfl rfl ⟨by decide, by decide⟩ rfl ?_
    refine ev_g0 rfl ?_
    refine ev_inS 3 k_MM_188 h_MM_in rfl rfl rfl rfl ⟨by decide, by decide⟩ rfl ?_
    refine ev_gW2 [false, false] [] rfl ?_
    refine ev_retz rfl (by first | decide | exact zb_01 _) ?_
    refine ev_g0 rfl ?_
    refine ev_retz rfl (by first | decide | exact zb_01 _) ?_
    refine ev_gW2 [false] [] rfl ?_
    refine ev_inS 3 k_MM_188 h_MM_in rfl rfl rfl rfl ⟨by decide, by decide⟩ rfl ?_
    refine ev_gW2 [false, false] [] rfl ?_
    refine ev_retz rfl (by first | decide | exact zb_01 _) ?_
    refine ev_gW2 [false] [] rfl ?_
    refine ev_inS 1 k_MM_386 h_MM_kindOfField rfl rfl rfl rfl ⟨by decide, by decide⟩ rfl ?_
    refine ev_gW2 [true, true] [] rfl ?_
    refine ev_reti rfl ?_
    refine ev_g0 rfl ?_
    refine ev_inV 2 k_MM_202 h_MM_isKind rfl rfl rfl rfl rfl ⟨by decide, by decide⟩ rfl ?_
    refine ev_gW2 [false, false, true, true, false, false] [] rfl ?_
    refine ev_inS 2 k_MM_192 h_MM_isOf rfl rfl rfl rfl ⟨by decide, by decide⟩ rfl ?_
    refine ev_gW2 [true] [] rfl ?_
    refine ev_retz rfl (by first | decide | exact zb_01 _) ?_
    refine ev_gW2 [false] [] rfl ?_
    refine ev_retz rfl (by first | decide | exact zb_01 _) ?_
    refine ev_gW2 [true] [none] rfl ?_
    refine ev_retl rfl ?_
    exact ⟨lf_W2, ci, cn, co, xj, xd, xf, xo, xi, xn, hC, hM, hI, hW⟩
set_option maxHeartbeats 8000000 in
theorem Q_field7 {ci : Nat → Nat → Nat → Int32} {cn : Nat → Nat → Nat → Nat} {co : Nat → Option Nat} {xj : Nat → Nat → Nat → Int64} {xd : Nat → Nat → Nat → UInt64} {xf : Nat → Nat → Nat → UInt32} {xo : Nat → Nat → Nat → Option Nat} {xi : Nat → Nat → Nat → Int32} {xn : Nat → Nat → Nat → Nat} {K : Nat → Nat} {I : Nat → Nat → Int32} {J : Nat → Nat → Int64} {F : Nat → Nat → UInt32} {D : Nat → Nat → UInt64} {R : Nat → Nat → Option Nat} {nx sl : Nat} {Km : Nat → Nat} {Im : Nat → Nat → Int32} {Jm : Nat → Nat → Int64} {Fm : Nat → Nat → UInt32} {Dm : Nat → Nat → UInt64} {Rm : Nat → Nat → Option Nat} {nxm slm : Nat} (hC : RC ci cn co xj xd xf xo xi xn I J F D R nx sl) (hM : RM ci cn co xj xd xf xo xi xn Im Jm Dm) (hI : IC ci cn) (hW : IW cn co) {i : Nat} (hi : i < xn 2 0 0) : Ct Y_MW_field [vr 10 6, vi (nI i), vi (nI 7)] (K, I, J, F, D, R, nx, sl) (fun r μ1 => Ct Y_MM_field [vr 11 6, vi (nI i), vi (nI 7)] (Km, Im, Jm, Fm, Dm, Rm, nxm, slm) (fun r2 μ2 => r = r2 ∧ RELS μ1 μ2)) := by
  have ym := rc_imad hC
  have zi := rc_isor hC hi
  rcases (show xn 0 i 0 < 16 ∨ xn 0 i 0 = 16 ∨ xn 0 i 0 = 17 ∨ xn 0 i 0 = 18 ∨ xn 0 i 0 = 19 ∨ xn 0 i 0 = 20 by omega) with hk | hk | hk | hk | hk | hk
  · skip
    refine ct_of h_MW_field rfl rfl rfl ?_
    refine ev_g0 rfl ?_
    refine ev_inV 1 k_MW_170 h_SO_at rfl rfl rfl rfl rfl ⟨by decide, by decide⟩ rfl ?_
    refine ev_gW2 [false, false] [some (94 + 4 * i)] rfl ?_
    refine ev_reta rfl ?_
    refine ev_g0 rfl ?_
    refine ev_inV 1 k_MW_202 h_TH_isA rfl rfl rfl rfl rfl ⟨by decide, by decide⟩ rfl ?_
    refine ev_gW2 [false, true, false, false] [none] rfl ?_
    refine ev_inV 0 k_TH_73 h_TH_isRow rfl rfl rfl rfl rfl ⟨by decide, by decide⟩ rfl ?_
    refine ev_gW2 [false] [] rfl ?_
    refine ev_retz rfl (by first | decide | exact zb_01 _) ?_
    refine ev_gW2 [true] [] rfl ?_
    refine ev_retz rfl (by first | decide | exact zb_01 _) ?_
    refine ev_gW2 [false] [] rfl ?_
    refine ev_retl rfl ?_
    refine ct_of h_MM_field rfl rfl rfl ?_
    refine ev_g0 rfl ?_
    refine ev_inV 1 k_MM_477 h_MM_isThing rfl rfl rfl rfl rfl ⟨by decide, by decide⟩ rfl ?_
    refine ev_g0 rfl ?_
    refine ev_inS 3 k_MM_188 h_MM_in rfl rfl rfl rfl ⟨by decide, by decide⟩ rfl ?_
    refine ev_gW2 [false, false] [] rfl ?_
    refine ev_retz rfl (by first | decide | exact zb_01 _) ?_
    refine ev_g0 rfl ?_
    refine ev_retz rfl (by first | decide | exact zb_01 _) ?_
    refine ev_gW2 [false] [] rfl ?_
    refine ev_inS 3 k_MM_188 h_MM_in rfl rfl rfl rfl ⟨by decide, by decide⟩ rfl ?_
    refine ev_gW2 [false, false] [] rfl ?_
    refine ev_retz rfl (by first | decide | exact zb_01 _) ?_
    refine ev_gW2 [false] [] rfl ?_
    refine ev_inS 1 k_MM_386 h_MM_kindOfField rfl rfl rfl rfl ⟨by decide, by decide⟩ rfl ?_
    refine ev_gW2 [false] [] rfl ?_
    refine ev_reti rfl ?_
    refine ev_g0 rfl ?_
    refine ev_inV 2 k_MM_202 h_MM_isKind rfl rfl rfl rfl rfl ⟨by decide, by decide⟩ rfl ?_
    refine ev_gW2 [false, false, true, true, false, true] [] rfl ?_
    refine ev_retz rfl (by first | decide | exact zb_01 _) ?_
    refine ev_gW2 [false] [] rfl ?_
    refine ev_retl rfl ?_
    exact ⟨lf_W2, ci, cn, co, xj, xd, xf, xo, xi, xn, hC, hM, hI, hW⟩
  · skip
    refine ct_of h_MW_field rfl rfl rfl ?_
    refine ev_g0 rfl ?_
    refine ev_inV 1 k_MW_170 h_SO_at rfl rfl rfl rfl rfl ⟨by decide, by decide⟩ rfl ?_
    refine ev_gW2 [false, false] [some (94 + 4 * i)] rfl ?_
    refine ev_reta rfl ?_
    refine ev_g0 rfl ?_
    refine ev_inV 1 k_MW_202 h_TH_isA rfl rfl rfl rfl rfl ⟨by decide, by decide⟩ rfl ?_
    refine ev_gW2 [false, true, false, false] [none] rfl ?_
    refine ev_inV 0 k_TH_73 h_TH_isRow rfl rfl rfl rfl rfl ⟨by decide, by decide⟩ rfl ?_
    refine ev_gW2 [true] [] rfl ?_
    refine ev_retz rfl (by first | decide | exact zb_01 _) ?_
    refine ev_gW2 [false] [] rfl ?_
    refine ev_inS 2 k_TH_77 h_TH_isUnder rfl rfl rfl rfl ⟨by decide, by decide⟩ rfl ?_
    refine ev_gW2 [true] [] rfl ?_
    refine ev_retz rfl (by first | decide | exact zb_01 _) ?_
    refine ev_gW2 [false] [] rfl ?_
    refine ev_retz rfl (by first | decide | exact zb_01 _) ?_
    refine ev_gW2 [true] [some 7] rfl ?_
    refine ev_inV 1 k_MW_202 h_TH_isA rfl rfl rfl rfl rfl ⟨by decide, by decide⟩ rfl ?_
    refine ev_gW2 [false, true, false, false] [none] rfl ?_
    refine ev_inV 0 k_TH_73 h_TH_isRow rfl rfl rfl rfl rfl ⟨by decide, by decide⟩ rfl ?_
    refine ev_gW2 [true] [] rfl ?_
    refine ev_retz rfl (by first | decide | exact zb_01 _) ?_
    refine ev_gW2 [false] [] rfl ?_
    refine ev_inS 2 k_TH_77 h_TH_isUnder rfl rfl rfl rfl ⟨by decide, by decide⟩ rfl ?_
    refine ev_gW2 [false, false, true] [] rfl ?_
    refine ev_retz rfl (by first | decide | exact zb_01 _) ?_
    refine ev_gW2 [true] [] rfl ?_
    refine ev_retz rfl (by first | decide | exact zb_01 _) ?_
    refine ev_gW2 [true] [] rfl ?_
    refine ev_retl rfl ?_
    refine ct_of h_MM_field rfl rfl rfl ?_
    refine ev_g0 rfl ?_
    refine ev_inV 1 k_MM_477 h_MM_isThing rfl rfl rfl rfl rfl ⟨by decide, by decide⟩ rfl ?_
    refine ev_g0 rfl ?_
    refine ev_inS 3 k_MM_188 h_MM_in rfl rfl rfl rfl ⟨by decide, by decide⟩ rfl ?_
    refine ev_gW2 [false, false] [] rfl ?_
    refine ev_retz rfl (by first | decide | exact zb_01 _) ?_
    refine ev_g0 rfl ?_
    refine ev_retz rfl (by first | decide | exact zb_01 _) ?_
    refine ev_gW2 [false] [] rfl ?_
    refine ev_inS 3 k_MM_188 h_MM_in rfl rfl rfl rfl ⟨by decide, by decide⟩ rfl ?_
    refine ev_gW2 [false, false] [] rfl ?_
    refine ev_retz rfl (by first | decide | exact zb_01 _) ?_
    refine ev_gW2 [false] [] rfl ?_
    refine ev_inS 1 k_MM_386 h_MM_kindOfField rfl rfl rfl rfl ⟨by decide, by decide⟩ rfl ?_
    refine ev_gW2 [false] [] rfl ?_
    refine ev_reti rfl ?_
    refine ev_g0 rfl ?_
    refine ev_inV 2 k_MM_202 h_MM_isKind rfl rfl rfl rfl rfl ⟨by decide, by decide⟩ rfl ?_
    refine ev_gW2 [false, false, true, true, false, false] [] rfl ?_
    refine ev_inS 2 k_MM_192 h_MM_isOf rfl rfl rfl rfl ⟨by decide, by decide⟩ rfl ?_
    refine ev_gW2 [false, false, false, false, false, true] [] rfl ?_
    refine ev_retz rfl (by first | decide | exact zb_01 _) ?_
    refine ev_gW2 [true] [] rfl ?_
    refine ev_retz rfl (by first | decide | exact zb_01 _) ?_
    refine ev_gW2 [false] [] rfl ?_
    refine ev_retl rfl ?_
    exact ⟨lf_W2, ci, cn, co, xj, xd, xf, xo, xi, xn, hC, hM, hI, hW⟩
  · skip
    refine ct_of h_MW_field rfl rfl rfl ?_
    refine ev_g0 rfl ?_
    refine ev_inV 1 k_MW_170 h_SO_at rfl rfl rfl rfl rfl ⟨by decide, by decide⟩ rfl ?_
    refine ev_gW2 [false, false] [some (94 + 4 * i)] rfl ?_
    refine ev_reta rfl ?_
    refine ev_g0 rfl ?_
    refine ev_inV 1 k_MW_202 h_TH_isA rfl rfl rfl rfl rfl ⟨by decide, by decide⟩ rfl ?_
    refine ev_gW2 [false, true, false, false] [none] rfl ?_
    refine ev_inV 0 k_TH_73 h_TH_isRow rfl rfl rfl rfl rfl ⟨by decide, by decide⟩ rfl ?_
    refine ev_gW2 [true] [] rfl ?_
    refine ev_retz rfl (by first | decide | exact zb_01 _) ?_
    refine ev_gW2 [false] [] rfl ?_
    refine ev_inS 2 k_TH_77 h_TH_isUnder rfl rfl rfl rfl ⟨by decide, by decide⟩ rfl ?_
    refine ev_gW2 [true] [] rfl ?_
    refine ev_retz rfl (by first | decide | exact zb_01 _) ?_
    refine ev_gW2 [false] [] rfl ?_
    refine ev_retz rfl (by first | decide | exact zb_01 _) ?_
    refine ev_gW2 [true] [some 7] rfl ?_
    refine ev_inV 1 k_MW_202 h_TH_isA rfl rfl rfl rfl rfl ⟨by decide, by decide⟩ rfl ?_
    refine ev_gW2 [false, true, false, false] [none] rfl ?_
    refine ev_inV 0 k_TH_73 h_TH_isRow rfl rfl rfl rfl rfl ⟨by decide, by decide⟩ rfl ?_
    refine ev_gW2 [true] [] rfl ?_
    refine ev_retz rfl (by first | decide | exact zb_01 _) ?_
    refine ev_gW2 [false] [] rfl ?_
    refine ev_inS 2 k_TH_77 h_TH_isUnder rfl rfl rfl rfl ⟨by decide, by decide⟩ rfl ?_
    refine ev_gW2 [false, true] [] rfl ?_
    refine ev_retz rfl (by first | decide | exact zb_01 _) ?_
    refine ev_gW2 [false] [] rfl ?_
    refine ev_retz rfl (by first | decide | exact zb_01 _) ?_
    refine ev_gW2 [false] [] rfl ?_
    refine ev_retl rfl ?_
    refine ct_of h_MM_field rfl rfl rfl ?_
    refine ev_g0 rfl ?_
    refine ev_inV 1 k_MM_477 h_MM_isThing rfl rfl rfl rfl rfl ⟨by decide, by decide⟩ rfl ?_
    refine ev_g0 rfl ?_
    refine ev_inS 3 k_MM_188 h_MM_in rfl rfl rfl rfl ⟨by decide, by decide⟩ rfl ?_
    refine ev_gW2 [false, false] [] rfl ?_
    refine ev_retz rfl (by first | decide | exact zb_01 _) ?_
    refine ev_g0 rfl ?_
    refine ev_retz rfl (by first | decide | exact zb_01 _) ?_
    refine ev_gW2 [false] [] rfl ?_
    refine ev_inS 3 k_MM_188 h_MM_in rfl rfl rfl rfl ⟨by decide, by decide⟩ rfl ?_
    refine ev_gW2 [false, false] [] rfl ?_
    refine ev_retz rfl (by first | decide | exact zb_01 _) ?_
    refine ev_gW2 [false] [] rfl ?_
    refine ev_inS 1 k_MM_386 h_MM_kindOfField rfl rfl rfl rfl ⟨by decide, by decide⟩ rfl ?_
    refine ev_gW2 [false] [] rfl ?_
    refine ev_reti rfl ?_
    refine ev_g0 rfl ?_
    refine ev_inV 2 k_MM_202 h_MM_isKind rfl rfl rfl rfl rfl ⟨by decide, by decide⟩ rfl ?_
    refine ev_gW2 [false, false, true, true, false, false] [] rfl ?_
    refine ev_inS 2 k_MM_192 h_MM_isOf rfl rfl rfl rfl ⟨by decide, by decide⟩ rfl ?_
    refine ev_gW2 [false, true] [] rfl ?_
    refine ev_retz rfl (by first | decide | exact zb_01 _) ?_
    refine ev_gW2 [false] [] rfl ?_
    refine ev_retz rfl (by first | decide | exact zb_01 _) ?_
    refine ev_gW2 [true] [none] rfl ?_
    refine ev_retl rfl ?_
    exact ⟨lf_W2, ci, cn, co, xj, xd, xf, xo, xi, xn, hC, hM, hI, hW⟩
  · skip
    refine ct_of h_MW_field rfl rfl rfl ?_
    refine ev_g0 rfl ?_
    refine ev_inV 1 k_MW_170 h_SO_at rfl rfl rfl rfl rfl ⟨by decide, by decide⟩ rfl ?_
    refine ev_gW2 [false, false] [some (94 + 4 * i)] rfl ?_
    refine ev_reta rfl ?_
    refine ev_g0 rfl ?_
    refine ev_inV 1 k_MW_202 h_TH_isA rfl rfl rfl rfl rfl ⟨by decide, by decide⟩ rfl ?_
    refine ev_gW2 [false, true, false, false] [none] rfl ?_
    refine ev_inV 0 k_TH_73 h_TH_isRow rfl rfl rfl rfl rfl ⟨by decide, by decide⟩ rfl ?_
    refine ev_gW2 [true] [] rfl ?_
    refine ev_retz rfl (by first | decide | exact zb_01 _) ?_
    refine ev_gW2 [false] [] rfl ?_
    refine ev_inS 2 k_TH_77 h_TH_isUnder rfl rfl rfl rfl ⟨by decide, by decide⟩ rfl ?_
    refine ev_gW2 [true] [] rfl ?_
    refine ev_retz rfl (by first | decide | exact zb_01 _) ?_
    refine ev_gW2 [false] [] rfl ?_
    refine ev_retz rfl (by first | decide | exact zb_01 _) ?_
    refine ev_gW2 [true] [some 7] rfl ?_
    refine ev_inV 1 k_MW_202 h_TH_isA rfl rfl rfl rfl rfl ⟨by decide, by decide⟩ rfl ?_
    refine ev_gW2 [false, true, false, false] [none] rfl ?_
    refine ev_inV 0 k_TH_73 h_TH_isRow rfl rfl rfl rfl rfl ⟨by decide, by decide⟩ rfl ?_
    refine ev_gW2 [true] [] rfl ?_
    refine ev_retz rfl (by first | decide | exact zb_01 _) ?_
    refine ev_gW2 [false] [] rfl ?_
    refine ev_inS 2 k_TH_77 h_TH_isUnder rfl rfl rfl rfl ⟨by decide, by decide⟩ rfl ?_
    refine ev_gW2 [false, false, false, false] [] rfl ?_
    refine ev_retz rfl (by first | decide | exact zb_01 _) ?_
    refine ev_gW2 [false] [] rfl ?_
    refine ev_retz rfl (by first | decide | exact zb_01 _) ?_
    refine ev_gW2 [false] [] rfl ?_
    refine ev_retl rfl ?_
    refine ct_of h_MM_field rfl rfl rfl ?_
    refine ev_g0 rfl ?_
    refine ev_inV 1 k_MM_477 h_MM_isThing rfl rfl rfl rfl rfl ⟨by decide, by decide⟩ rfl ?_
    refine ev_g0 rfl ?_
    refine ev_inS 3 k_MM_188 h_MM_in rfl rfl rfl rfl ⟨by decide, by decide⟩ rfl ?_
    refine ev_gW2 [false, false] [] rfl ?_
    refine ev_retz rfl (by first | decide | exact zb_01 _) ?_
    refine ev_g0 rfl ?_
    refine ev_retz rfl (by first | decide | exact zb_01 _) ?_
    refine ev_gW2 [false] [] rfl ?_
    refine ev_inS 3 k_MM_188 h_MM_in rfl rfl rfl rfl ⟨by decide, by decide⟩ rfl ?_
    refine ev_gW2 [false, false] [] rfl ?_
    refine ev_retz rfl (by first | decide | exact zb_01 _) ?_
    refine ev_gW2 [false] [] rfl ?_
    refine ev_inS 1 k_MM_386 h_MM_kindOfField rfl rfl rfl rfl ⟨by decide, by decide⟩ rfl ?_
    refine ev_gW2 [false] [] rfl ?_
    refine ev_reti rfl ?_
    refine ev_g0 rfl ?_
    refine ev_inV 2 k_MM_202 h_MM_isKind rfl rfl rfl rfl rfl ⟨by decide, by decide⟩ rfl ?_
    refine ev_gW2 [false, false, true, true, false, false] [] rfl ?_
    refine ev_inS 2 k_MM_192 h_MM_isOf rfl rfl rfl rfl ⟨by decide, by decide⟩ rfl ?_
    refine ev_gW2 [false, false, false, true] [] rfl ?_
    refine ev_retz rfl (by first | decide | exact zb_01 _) ?_
    refine ev_gW2 [false] [] rfl ?_
    refine ev_retz rfl (by first | decide | exact zb_01 _) ?_
    refine ev_gW2 [true] [none] rfl ?_
    refine ev_retl rfl ?_
    exact ⟨lf_W2, ci, cn, co, xj, xd, xf, xo, xi, xn, hC, hM, hI, hW⟩
  · skip
    refine ct_of h_MW_field rfl rfl rfl ?_
    refine ev_g0 rfl ?_
    refine ev_inV 1 k_MW_170 h_SO_at rfl rfl rfl rfl rfl ⟨by decide, by decide⟩ rfl ?_
    refine ev_gW2 [false, false] [some (94 + 4 * i)] rfl ?_
    refine ev_reta rfl ?_
    refine ev_g0 rfl ?_
    refine ev_inV 1 k_MW_202 h_TH_isA rfl rfl rfl rfl rfl ⟨by decide, by decide⟩ rfl ?_
    refine ev_gW2 [false, true, false, false] [none] rfl ?_
    refine ev_inV 0 k_TH_73 h_TH_isRow rfl rfl rfl rfl rfl ⟨by decide, by decide⟩ rfl ?_
    refine ev_gW2 [true] [] rfl ?_
    refine ev_retz rfl (by first | decide | exact zb_01 _) ?_
    refine ev_gW2 [false] [] rfl ?_
    refine ev_inS 2 k_TH_77 h_TH_isUnder rfl rfl rfl rfl ⟨by decide, by decide⟩ rfl ?_
    refine ev_gW2 [true] [] rfl ?_
    refine ev_retz rfl (by first | decide | exact zb_01 _) ?_
    refine ev_gW2 [false] [] rfl ?_
    refine ev_retz rfl (by first | decide | exact zb_01 _) ?_
    refine ev_gW2 [true] [some 7] rfl ?_
    refine ev_inV 1 k_MW_202 h_TH_isA rfl rfl rfl rfl rfl ⟨by decide, by decide⟩ rfl ?_
    refine ev_gW2 [false, true, false, false] [none] rfl ?_
    refine ev_inV 0 k_TH_73 h_TH_isRow rfl rfl rfl rfl rfl ⟨by decide, by decide⟩ rfl ?_
    refine ev_gW2 [true] [] rfl ?_
    refine ev_retz rfl (by first | decide | exact zb_01 _) ?_
    refine ev_gW2 [false] [] rfl ?_
    refine ev_inS 2 k_TH_77 h_TH_isUnder rfl rfl rfl rfl ⟨by decide, by decide⟩ rfl ?_
    refine ev_gW2 [false, false, false, false] [] rfl ?_
    refine ev_retz rfl (by first | decide | exact zb_01 _) ?_
    refine ev_gW2 [false] [] rfl ?_
    refine ev_retz rfl (by first | decide | exact zb_01 _) ?_
    refine ev_gW2 [false] [] rfl ?_
    refine ev_retl rfl ?_
    refine ct_of h_MM_field rfl rfl rfl ?_
    refine ev_g0 rfl ?_
    refine ev_inV 1 k_MM_477 h_MM_isThing rfl rfl rfl rfl rfl ⟨by decide, by decide⟩ rfl ?_
    refine ev_g0 rfl ?_
    refine ev_inS 3 k_MM_188 h_MM_in rfl rfl rfl rfl ⟨by decide, by decide⟩ rfl ?_
    refine ev_gW2 [false, false] [] rfl ?_
    refine ev_retz rfl (by first | decide | exact zb_01 _) ?_
    refine ev_g0 rfl ?_
    refine ev_retz rfl (by first | decide | exact zb_01 _) ?_
    refine ev_gW2 [false] [] rfl ?_
    refine ev_inS 3 k_MM_188 h_MM_in rfl rfl rfl rfl ⟨by decide, by decide⟩ rfl ?_
    refine ev_gW2 [false, false] [] rfl ?_
    refine ev_retz rfl (by first | decide | exact zb_01 _) ?_
    refine ev_gW2 [false] [] rfl ?_
    refine ev_inS 1 k_MM_386 h_MM_kindOfField rfl rfl rfl rfl ⟨by decide, by decide⟩ rfl ?_
    refine ev_gW2 [false] [] rfl ?_
    refine ev_reti rfl ?_
    refine ev_g0 rfl ?_
    refine ev_inV 2 k_MM_202 h_MM_isKind rfl rfl rfl rfl rfl ⟨by decide, by decide⟩ rfl ?_
    refine ev_gW2 [false, false, true, true, false, false] [] rfl ?_
    refine ev_inS 2 k_MM_192 h_MM_isOf rfl rfl rfl rfl ⟨by decide, by decide⟩ rfl ?_
    refine ev_gW2 [false, false, false, false, true] [] rfl ?_
    refine ev_retz rfl (by first | decide | exact zb_01 _) ?_
    refine ev_gW2 [false] [] rfl ?_
    refine ev_retz rfl (by first | decide | exact zb_01 _) ?_
    refine ev_gW2 [true] [none] rfl ?_
    refine ev_retl rfl ?_
    exact ⟨lf_W2, ci, cn, co, xj, xd, xf, xo, xi, xn, hC, hM, hI, hW⟩
  · skip
    refine ct_of h_MW_field rfl rfl rfl ?_
    refine ev_g0 rfl ?_
    refine ev_inV 1 k_MW_170 h_SO_at rfl rfl rfl rfl rfl ⟨by decide, by decide⟩ rfl ?_
    refine ev_gW2 [false, false] [some (94 + 4 * i)] rfl ?_
    refine ev_reta rfl ?_
    refine ev_g0 rfl ?_
    refine ev_inV 1 k_MW_202 h_TH_isA rfl rfl rfl rfl rfl ⟨by decide, by decide⟩ rfl ?_
    refine ev_gW2 [false, true, false, false] [none] rfl ?_
    refine ev_inV 0 k_TH_73 h_TH_isRow rfl rfl rfl rfl rfl ⟨by decide, by decide⟩ rfl ?_
    refine ev_gW2 [true] [] rfl ?_
    refine ev_retz rfl (by first | decide | exact zb_01 _) ?_
    refine ev_gW2 [false] [] rfl ?_
    refine ev_inS 2 k_TH_77 h_TH_isUnder rfl rfl rfl rfl ⟨by decide, by decide⟩ rfl ?_
    refine ev_gW2 [true] [] rfl ?_
    refine ev_retz rfl (by first | decide | exact zb_01 _) ?_
    refine ev_gW2 [false] [] rfl ?_
    refine ev_retz rfl (by first | decide | exact zb_01 _) ?_
    refine ev_gW2 [true] [some 7] rfl ?_
    refine ev_inV 1 k_MW_202 h_TH_isA rfl rfl rfl rfl rfl ⟨by decide, by decide⟩ rfl ?_
    refine ev_gW2 [false, true, false, false] [none] rfl ?_
    refine ev_inV 0 k_TH_73 h_TH_isRow rfl rfl rfl rfl rfl ⟨by decide, by decide⟩ rfl ?_
    refine ev_gW2 [true] [] rfl ?_
    refine ev_retz rfl (by first | decide | exact zb_01 _) ?_
    refine ev_gW2 [false] [] rfl ?_
    refine ev_inS 2 k_TH_77 h_TH_isUnder rfl rfl rfl rfl ⟨by decide, by decide⟩ rfl ?_
    refine ev_gW2 [false, false, false, true] [] rfl ?_
    refine ev_retz rfl (by first | decide | exact zb_01 _) ?_
    refine ev_gW2 [true] [] rfl ?_
    refine ev_retz rfl (by first | decide | exact zb_01 _) ?_
    refine ev_gW2 [true] [] rfl ?_
    refine ev_retl rfl ?_
    refine ct_of h_MM_field rfl rfl rfl ?_
    refine ev_g0 rfl ?_
    refine ev_inV 1 k_MM_477 h_MM_isThing rfl rfl rfl rfl rfl ⟨by decide, by decide⟩ rfl ?_
    refine ev_g0 rfl ?_
    refine ev_inS 3 k_MM_188 h_MM_in rfl rfl rfl rfl ⟨by decide, by decide⟩ rfl ?_
    refine ev_gW2 [false, false] [] rfl ?_
    refine ev_retz rfl (by first | decide | exact zb_01 _) ?_
    refine ev_g0 rfl ?_
    refine ev_retz rfl (by first | decide | exact zb_01 _) ?_
    refine ev_gW2 [false] [] rfl ?_
    refine ev_inS 3 k_MM_188 h_MM_in rfl rfl rfl rfl ⟨by decide, by decide⟩ rfl ?_
    refine ev_gW2 [false, false] [] rfl ?_
    refine ev_retz rfl (by first | decide | exact zb_01 _) ?_
    refine ev_gW2 [false] [] rfl ?_
    refine ev_inS 1 k_MM_386 h_MM_kindOfField rfl rfl rfl rfl ⟨by decide, by decide⟩ rfl ?_
    refine ev_gW2 [false] [] rfl ?_
    refine ev_reti rfl ?_
    refine ev_g0 rfl ?_
    refine ev_inV 2 k_MM_202 h_MM_isKind rfl rfl rfl rfl rfl ⟨by decide, by decide⟩ rfl ?_
    refine ev_gW2 [false, false, true, true, false, false] [] rfl ?_
    refine ev_inS 2 k_MM_192 h_MM_isOf rfl rfl rfl rfl ⟨by decide, by decide⟩ rfl ?_
    refine ev_gW2 [false, false, false, false, false, true] [] rfl ?_
    refine ev_retz rfl (by first | decide | exact zb_01 _) ?_
    refine ev_gW2 [true] [] rfl ?_
    refine ev_retz rfl (by first | decide | exact zb_01 _) ?_
    refine ev_gW2 [false] [] rfl ?_
    refine ev_retl rfl ?_
    exact ⟨lf_W2, ci, cn, co, xj, xd, xf, xo, xi, xn, hC, hM, hI, hW⟩
