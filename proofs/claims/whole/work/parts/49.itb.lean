set_option maxHeartbeats 16000000 in
theorem A46 {ci : Nat → Nat → Nat → Int32} {cn : Nat → Nat → Nat → Nat} {co : Nat → Option Nat} {xj : Nat → Nat → Nat → Int64} {xd : Nat → Nat → Nat → UInt64} {xf : Nat → Nat → Nat → UInt32} {xo : Nat → Nat → Nat → Option Nat} {xi : Nat → Nat → Nat → Int32} {xn : Nat → Nat → Nat → Nat} {K : Nat → Nat} {I : Nat → Nat → Int32} {J : Nat → Nat → Int64} {F : Nat → Nat → UInt32} {D : Nat → Nat → UInt64} {R : Nat → Nat → Option Nat} {nx sl : Nat} {Km : Nat → Nat} {Im : Nat → Nat → Int32} {Jm : Nat → Nat → Int64} {Fm : Nat → Nat → UInt32} {Dm : Nat → Nat → UInt64} {Rm : Nat → Nat → Option Nat} {nxm slm : Nat} (hC : RC ci cn co xj xd xf xo xi xn I J F D R nx sl) (hM : RM ci cn co xj xd xf xo xi xn Im Jm Dm) {t a b : Nat} {c go : Int32} (ht : t < 3) (ha : a < 8) (hb : b < 8) (x1 : Im 6 39 = nI t) (x2 : Im 6 40 = nI a) (x3 : Im 6 41 = nI b) (x4 : Im 6 42 = c) (x5 : Im 6 43 = nI 0) (x6 : Im 6 44 = go) : Ct Y_HA_perform [vr 1 55, vr 8 (32 + 7 * t), vi (nI 46), vi (nI a), vi (nI b), vi c] (K, I, J, F, D, R, nx, sl) (fun r μ1 => Ct Y_MM_handles [vr 11 6, vi (nI 46)] (Km, Im, Jm, Fm, Dm, Rm, nxm, slm) (fun r2 μ2 => r2 = none ∧ QA ci cn co go r μ1 μ2)) := by
  have ym := rc_imad hC
  rcases ho : xo 0 t a with _ | q
  · rcases hp : xo 0 t b with _ | u
    · skip
      refine ct_of h_HA_perform rfl rfl rfl ?_
      refine ev_gV6 [] [some 34] rfl ?_
      refine ev_inV 1 k_HA_15 h_SD_t rfl rfl rfl rfl rfl ⟨by decide, by decide⟩ rfl ?_
      refine ev_gV6 [] [none] rfl ?_
      refine ev_retn rfl ?_
      refine ev_g0 rfl ?_
      refine ev_inV 1 k_HA_15 h_SD_t rfl rfl rfl rfl rfl ⟨by decide, by decide⟩ rfl ?_
      refine ev_gV6 [] [none] rfl ?_
      refine ev_retn rfl ?_
      refine ev_g0 rfl ?_
      refine ev_inS 3 k_HA_41 h_HA_copyItems rfl rfl rfl rfl ⟨by decide, by decide⟩ rfl ?_
      refine ev_g0 rfl ?_
      refine ev_reti rfl ?_
      refine ev_g0 rfl ?_
      refine ev_reti rfl ?_
      refine ct_of h_MM_handles rfl rfl rfl ?_
      refine ev_g0 rfl ?_
      refine ev_inV 1 k_MM_344 h_MM_hold rfl rfl rfl rfl rfl ⟨by decide, by decide⟩ rfl ?_
      refine ev_gV6 [] [] rfl ?_
      refine ev_reti rfl ?_
      refine ev_gV6 [] [some 10] rfl ?_
      refine ev_inV 0 k_MM_380 h_MM_moves rfl rfl rfl rfl rfl ⟨by decide, by decide⟩ rfl ?_
      refine ev_g0 rfl ?_
      refine ev_inV 1 k_MM_344 h_MM_hold rfl rfl rfl rfl rfl ⟨by decide, by decide⟩ rfl ?_
      refine ev_gV6 [] [] rfl ?_
      refine ev_reti rfl ?_
      refine ev_g0 rfl ?_
      refine ev_inV 1 k_MM_344 h_MM_hold rfl rfl rfl rfl rfl ⟨by decide, by decide⟩ rfl ?_
      refine ev_gV6 [] [] rfl ?_
      refine ev_reti rfl ?_
      refine ev_g0 rfl ?_
      refine ev_inV 1 k_MM_357 h_MM_is rfl rfl rfl rfl rfl ⟨by decide, by decide⟩ rfl ?_
      refine ev_gV6 [false, true] [] rfl ?_
      refine ev_retz rfl (by first | decide | exact zb_01 _) ?_
      refine ev_gV6 [true] [] rfl ?_
      refine ev_ret rfl ?_
      refine ev_g0 rfl ?_
      refine ev_ret rfl ?_
      exact ⟨rfl, xj, xd, xf, xo, xi, xn, nI 1, rfl, bdd, lf_V6, lf_V6, hC, hM⟩
    · have hu := rc_ihol hC ht hb _ hp
      refine ct_of h_HA_perform rfl rfl rfl ?_
      refine ev_gV6 [] [some 34] rfl ?_
      refine ev_inV 1 k_HA_15 h_SD_t rfl rfl rfl rfl rfl ⟨by decide, by decide⟩ rfl ?_
      refine ev_gV6 [] [none] rfl ?_
      refine ev_retn rfl ?_
      refine ev_g0 rfl ?_
      refine ev_inV 1 k_HA_15 h_SD_t rfl rfl rfl rfl rfl ⟨by decide, by decide⟩ rfl ?_
      refine ev_gV6 [] [some (94 + 4 * u)] rfl ?_
      refine ev_reta rfl ?_
      refine ev_g0 rfl ?_
      refine ev_inS 3 k_HA_41 h_HA_copyItems rfl rfl rfl rfl ⟨by decide, by decide⟩ rfl ?_
      refine ev_g0 rfl ?_
      refine ev_reti rfl ?_
      refine ev_g0 rfl ?_
      refine ev_reti rfl ?_
      refine ct_of h_MM_handles rfl rfl rfl ?_
      refine ev_g0 rfl ?_
      refine ev_inV 1 k_MM_344 h_MM_hold rfl rfl rfl rfl rfl ⟨by decide, by decide⟩ rfl ?_
      refine ev_gV6 [] [] rfl ?_
      refine ev_reti rfl ?_
      refine ev_gV6 [] [some 10] rfl ?_
      refine ev_inV 0 k_MM_380 h_MM_moves rfl rfl rfl rfl rfl ⟨by decide, by decide⟩ rfl ?_
      refine ev_g0 rfl ?_
      refine ev_inV 1 k_MM_344 h_MM_hold rfl rfl rfl rfl rfl ⟨by decide, by decide⟩ rfl ?_
      refine ev_gV6 [] [] rfl ?_
      refine ev_reti rfl ?_
      refine ev_g0 rfl ?_
      refine ev_inV 1 k_MM_344 h_MM_hold rfl rfl rfl rfl rfl ⟨by decide, by decide⟩ rfl ?_
      refine ev_gV6 [] [] rfl ?_
      refine ev_reti rfl ?_
      refine ev_g0 rfl ?_
      refine ev_inV 1 k_MM_357 h_MM_is rfl rfl rfl rfl rfl ⟨by decide, by decide⟩ rfl ?_
      refine ev_gV6 [false, true] [] rfl ?_
      refine ev_retz rfl (by first | decide | exact zb_01 _) ?_
      refine ev_gV6 [true] [] rfl ?_
      refine ev_ret rfl ?_
      refine ev_g0 rfl ?_
      refine ev_ret rfl ?_
      exact ⟨rfl, xj, xd, xf, xo, xi, xn, nI 1, rfl, bdd, lf_V6, lf_V6, hC, hM⟩
  · have hq := rc_ihol hC ht ha _ ho
    have zq := rc_isor hC hq
    rcases hp : xo 0 t b with _ | u
    · skip
      refine ct_of h_HA_perform rfl rfl rfl ?_
      refine ev_gV6 [] [some 34] rfl ?_
      refine ev_inV 1 k_HA_15 h_SD_t rfl rfl rfl rfl rfl ⟨by decide, by decide⟩ rfl ?_
      refine ev_gV6 [] [some (94 + 4 * q)] rfl ?_
      refine ev_reta rfl ?_
      refine ev_g0 rfl ?_
      refine ev_inV 1 k_HA_15 h_SD_t rfl rfl rfl rfl rfl ⟨by decide, by decide⟩ rfl ?_
      refine ev_gV6 [] [none] rfl ?_
      refine ev_retn rfl ?_
      refine ev_g0 rfl ?_
      refine ev_inS 3 k_HA_41 h_HA_copyItems rfl rfl rfl rfl ⟨by decide, by decide⟩ rfl ?_
      refine ev_g0 rfl ?_
      refine ev_reti rfl ?_
      refine ev_g0 rfl ?_
      refine ev_reti rfl ?_
      refine ct_of h_MM_handles rfl rfl rfl ?_
      refine ev_g0 rfl ?_
      refine ev_inV 1 k_MM_344 h_MM_hold rfl rfl rfl rfl rfl ⟨by decide, by decide⟩ rfl ?_
      refine ev_gV6 [] [] rfl ?_
      refine ev_reti rfl ?_
      refine ev_gV6 [] [some 10] rfl ?_
      refine ev_inV 0 k_MM_380 h_MM_moves rfl rfl rfl rfl rfl ⟨by decide, by decide⟩ rfl ?_
      refine ev_g0 rfl ?_
      refine ev_inV 1 k_MM_344 h_MM_hold rfl rfl rfl rfl rfl ⟨by decide, by decide⟩ rfl ?_
      refine ev_gV6 [] [] rfl ?_
      refine ev_reti rfl ?_
      refine ev_g0 rfl ?_
      refine ev_inV 1 k_MM_344 h_MM_hold rfl rfl rfl rfl rfl ⟨by decide, by decide⟩ rfl ?_
      refine ev_gV6 [] [] rfl ?_
      refine ev_reti rfl ?_
      refine ev_g0 rfl ?_
      refine ev_inV 1 k_MM_357 h_MM_is rfl rfl rfl rfl rfl ⟨by decide, by decide⟩ rfl ?_
      refine ev_gV6 [true, false] [] rfl ?_
      refine ev_retz rfl (by first | decide | exact zb_01 _) ?_
      refine ev_gV6 [false] [] rfl ?_
      refine ev_inV 1 k_MM_357 h_MM_is rfl rfl rfl rfl rfl ⟨by decide, by decide⟩ rfl ?_
      refine ev_gV6 [false, true] [] rfl ?_
      refine ev_retz rfl (by first | decide | exact zb_01 _) ?_
      refine ev_gV6 [false] [] rfl ?_
      refine ev_ret rfl ?_
      refine ev_g0 rfl ?_
      refine ev_ret rfl ?_
      exact ⟨rfl, xj, xd, xf, xo, xi, xn, nI 1, rfl, bdd, lf_V6, lf_V6, hC, hM⟩
    · have hu := rc_ihol hC ht hb _ hp
      have zu := rc_isor hC hu
      by_cases hss : xn 0 q 0 = xn 0 u 0
      · by_cases hs8 : xn 0 q 0 < 8
        · rcases ixc (xj 0 t 7) 13 with ⟨m, hm, em⟩ | em
          · rcases ixc (xj 0 t 5) (xn 1 q 0 + 1 - m) with ⟨p, hpl, ep⟩ | ep
            · rcases ixc (xj 0 t 6) (xn 1 u 0 + 1 - m) with ⟨g, hgl, eg⟩ | eg
              · have hgm : g + m ≤ xn 1 u 0 := by omega
                have hpm : p + m ≤ xn 1 q 0 := by omega
                have isr1 : ∀ i, i < xn 2 0 0 → xn 1 i 0 ≤ 12 := fun i hi => (rc_isor hC hi).2.2.1
                by_cases hs6 : xn 0 q 0 < 6
                · skip
                  have hC3 := RC_mv6 hC hu hq hss.symm hs8 hgm hpm hs6
                  refine ct_of h_HA_perform rfl rfl rfl ?_
                  refine ev_gV6 [] [some 34] rfl ?_
                  refine ev_inV 1 k_HA_15 h_SD_t rfl rfl rfl rfl rfl ⟨by decide, by decide⟩ rfl ?_
                  refine ev_gV6 [] [some (94 + 4 * q)] rfl ?_
                  refine ev_reta rfl ?_
                  refine ev_g0 rfl ?_
                  refine ev_inV 1 k_HA_15 h_SD_t rfl rfl rfl rfl rfl ⟨by decide, by decide⟩ rfl ?_
                  refine ev_gV6 [] [some (94 + 4 * u)] rfl ?_
                  refine ev_reta rfl ?_
                  refine ev_g0 rfl ?_
                  refine ev_inS 3 k_HA_41 h_HA_copyItems rfl rfl rfl rfl ⟨by decide, by decide⟩ rfl ?_
                  refine ev_gV6 [false, true] [] rfl ?_
                  refine ev_inV 1 k_HA_25 h_SD_n rfl rfl rfl rfl rfl ⟨by decide, by decide⟩ rfl ?_
                  refine ev_gV6 [] [] rfl ?_
                  refine ev_retl rfl ?_
                  refine ev_g0 rfl ?_
                  refine ev_inV 1 k_HA_25 h_SD_n rfl rfl rfl rfl rfl ⟨by decide, by decide⟩ rfl ?_
                  refine ev_gV6 [] [] rfl ?_
                  refine ev_retl rfl ?_
                  refine ev_g0 rfl ?_
                  refine ev_inV 1 k_HA_25 h_SD_n rfl rfl rfl rfl rfl ⟨by decide, by decide⟩ rfl ?_
                  refine ev_gV6 [] [] rfl ?_
                  refine ev_retl rfl ?_
                  refine ev_g0 rfl ?_
                  refine ev_inV 2 k_HA_93 h_TH_hasItems rfl rfl rfl rfl rfl ⟨by decide, by decide⟩ rfl ?_
                  refine ev_gV6 [false, false, false, false] [] rfl ?_
                  refine ev_retz rfl (by first | decide | exact zb_01 _) ?_
                  refine ev_gV6 [false] [] rfl ?_
                  refine ev_inV 2 k_HA_93 h_TH_hasItems rfl rfl rfl rfl rfl ⟨by decide, by decide⟩ rfl ?_
                  refine ev_gV6 [false, false, false, false] [] rfl ?_
                  refine ev_retz rfl (by first | decide | exact zb_01 _) ?_
                  refine ev_gV6 [true, false] [] rfl ?_
                  refine ev_cg2 (L2 := _) (st2 := _) (μ2 := (K, I, mm_cp J (94 + 4 * q + 1) (94 + 4 * u + 1) p g m, F, D, R, nx, sl)) rfl rfl lf_V6 ?_
                  refine ev_g0 rfl ?_
                  refine ev_reti rfl ?_
                  refine ev_g0 rfl ?_
                  refine ev_reti rfl ?_
                  refine ct_of h_MM_handles rfl rfl rfl ?_
                  by_cases hgp : p < g
                  · skip
                    refine ev_g0 rfl ?_
                    refine ev_inV 1 k_MM_344 h_MM_hold rfl rfl rfl rfl rfl ⟨by decide, by decide⟩ rfl ?_
                    refine ev_gV6 [] [] rfl ?_
                    refine ev_reti rfl ?_
                    refine ev_gV6 [] [some 10] rfl ?_
                    refine ev_inV 0 k_MM_380 h_MM_moves rfl rfl rfl rfl rfl ⟨by decide, by decide⟩ rfl ?_
                    refine ev_g0 rfl ?_
                    refine ev_inV 1 k_MM_344 h_MM_hold rfl rfl rfl rfl rfl ⟨by decide, by decide⟩ rfl ?_
                    refine ev_gV6 [] [] rfl ?_
                    refine ev_reti rfl ?_
                    refine ev_g0 rfl ?_
                    refine ev_inV 1 k_MM_344 h_MM_hold rfl rfl rfl rfl rfl ⟨by decide, by decide⟩ rfl ?_
                    refine ev_gV6 [] [] rfl ?_
                    refine ev_reti rfl ?_
                    refine ev_g0 rfl ?_
                    refine ev_inV 1 k_MM_357 h_MM_is rfl rfl rfl rfl rfl ⟨by decide, by decide⟩ rfl ?_
                    refine ev_gV6 [true, false] [] rfl ?_
                    refine ev_retz rfl (by first | decide | exact zb_01 _) ?_
                    refine ev_gV6 [false] [] rfl ?_
                    refine ev_inV 1 k_MM_357 h_MM_is rfl rfl rfl rfl rfl ⟨by decide, by decide⟩ rfl ?_
                    refine ev_gV6 [true, false] [] rfl ?_
                    refine ev_retz rfl (by first | decide | exact zb_01 _) ?_
                    refine ev_gV6 [true, false, true] [] rfl ?_
                    refine ev_inV 1 k_MM_277 h_MM_number rfl rfl rfl rfl rfl ⟨by decide, by decide⟩ rfl ?_
                    refine ev_gV6 [] [] rfl ?_
                    refine ev_retl rfl ?_
                    refine ev_g0 rfl ?_
                    refine ev_inV 1 k_MM_277 h_MM_number rfl rfl rfl rfl rfl ⟨by decide, by decide⟩ rfl ?_
                    refine ev_gV6 [] [] rfl ?_
                    refine ev_retl rfl ?_
                    refine ev_g0 rfl ?_
                    refine ev_inV 1 k_MM_277 h_MM_number rfl rfl rfl rfl rfl ⟨by decide, by decide⟩ rfl ?_
                    refine ev_gV6 [] [] rfl ?_
                    refine ev_retl rfl ?_
                    refine ev_gV6 [false, false] [] rfl ?_
                    refine ev_inS 3 k_MM_188 h_MM_in rfl rfl rfl rfl ⟨by decide, by decide⟩ rfl ?_
                    refine ev_gV6 [false, false] [] rfl ?_
                    refine ev_retz rfl (by first | decide | exact zb_01 _) ?_
                    refine ev_gV6 [false] [] rfl ?_
                    refine ev_inS 3 k_MM_188 h_MM_in rfl rfl rfl rfl ⟨by decide, by decide⟩ rfl ?_
                    refine ev_gV6 [false, false] [] rfl ?_
                    refine ev_retz rfl (by first | decide | exact zb_01 _) ?_
                    refine ev_gV6 [true] [] rfl ?_
                    refine ev_cg2 (L2 := (0, vr 11 6) :: (1, vi (nI q)) :: (2, vi (nI u)) :: (3, vl (lN p)) :: (5, vl (lN g)) :: (7, vl (lN m)) :: (9, vi (nI 0)) :: []) (st2 := [vi (lg_cmp (nI 0).toInt64 (lN m))]) lf_V6 lf_V6 rfl ?_
                    refine MV_d (u := u) (q := q) (p := p) (g := g) (m := m) hu hq hss.symm hs8 hgm hpm hgp isr1 (by omega) (y1 := nI t) (y5 := nI 0) (y6 := go) ?_ m 0 [] _ _ _ _ _ _ _ _ (by omega) (Or.inl rfl) (by rw [Nat.sub_zero, mv_0, mv_0]; exact hM) x1 x5 x6
                    intro K4 I4 J4 F4 D4 R4 n4 s4 hM4 w1 w5 w6
                    refine ev_g0 rfl ?_
                    refine ev_ret rfl ?_
                    exact ⟨rfl, _, _, _, _, _, _, nI 0, rfl, bdd, lf_V6, lf_V6, hC3, hM4⟩
                  · skip
                    refine ev_g0 rfl ?_
                    refine ev_inV 1 k_MM_344 h_MM_hold rfl rfl rfl rfl rfl ⟨by decide, by decide⟩ rfl ?_
                    refine ev_gV6 [] [] rfl ?_
                    refine ev_reti rfl ?_
                    refine ev_gV6 [] [some 10] rfl ?_
                    refine ev_inV 0 k_MM_380 h_MM_moves rfl rfl rfl rfl rfl ⟨by decide, by decide⟩ rfl ?_
                    refine ev_g0 rfl ?_
                    refine ev_inV 1 k_MM_344 h_MM_hold rfl rfl rfl rfl rfl ⟨by decide, by decide⟩ rfl ?_
                    refine ev_gV6 [] [] rfl ?_
                    refine ev_reti rfl ?_
                    refine ev_g0 rfl ?_
                    refine ev_inV 1 k_MM_344 h_MM_hold rfl rfl rfl rfl rfl ⟨by decide, by decide⟩ rfl ?_
                    refine ev_gV6 [] [] rfl ?_
                    refine ev_reti rfl ?_
                    refine ev_g0 rfl ?_
                    refine ev_inV 1 k_MM_357 h_MM_is rfl rfl rfl rfl rfl ⟨by decide, by decide⟩ rfl ?_
                    refine ev_gV6 [true, false] [] rfl ?_
                    refine ev_retz rfl (by first | decide | exact zb_01 _) ?_
                    refine ev_gV6 [false] [] rfl ?_
                    refine ev_inV 1 k_MM_357 h_MM_is rfl rfl rfl rfl rfl ⟨by decide, by decide⟩ rfl ?_
                    refine ev_gV6 [true, false] [] rfl ?_
                    refine ev_retz rfl (by first | decide | exact zb_01 _) ?_
                    refine ev_gV6 [true, false, true] [] rfl ?_
                    refine ev_inV 1 k_MM_277 h_MM_number rfl rfl rfl rfl rfl ⟨by decide, by decide⟩ rfl ?_
                    refine ev_gV6 [] [] rfl ?_
                    refine ev_retl rfl ?_
                    refine ev_g0 rfl ?_
                    refine ev_inV 1 k_MM_277 h_MM_number rfl rfl rfl rfl rfl ⟨by decide, by decide⟩ rfl ?_
                    refine ev_gV6 [] [] rfl ?_
                    refine ev_retl rfl ?_
                    refine ev_g0 rfl ?_
                    refine ev_inV 1 k_MM_277 h_MM_number rfl rfl rfl rfl rfl ⟨by decide, by decide⟩ rfl ?_
                    refine ev_gV6 [] [] rfl ?_
                    refine ev_retl rfl ?_
                    refine ev_gV6 [false, false] [] rfl ?_
                    refine ev_inS 3 k_MM_188 h_MM_in rfl rfl rfl rfl ⟨by decide, by decide⟩ rfl ?_
                    refine ev_gV6 [false, false] [] rfl ?_
                    refine ev_retz rfl (by first | decide | exact zb_01 _) ?_
                    refine ev_gV6 [false] [] rfl ?_
                    refine ev_inS 3 k_MM_188 h_MM_in rfl rfl rfl rfl ⟨by decide, by decide⟩ rfl ?_
                    refine ev_gV6 [false, false] [] rfl ?_
                    refine ev_retz rfl (by first | decide | exact zb_01 _) ?_
                    refine ev_gV6 [true] [] rfl ?_
                    refine ev_cg2 (L2 := (0, vr 11 6) :: (1, vi (nI q)) :: (2, vi (nI u)) :: (3, vl (lN p)) :: (5, vl (lN g)) :: (7, vl (lN m)) :: (9, vi (nI 0)) :: []) (st2 := [vi (lg_cmp (nI 0).toInt64 (lN m))]) lf_V6 lf_V6 rfl ?_
                    refine MV_a (u := u) (q := q) (p := p) (g := g) (m := m) hu hq hss.symm hs8 hgm hpm hgp isr1 (by omega) (y1 := nI t) (y5 := nI 0) (y6 := go) ?_ m 0 [] _ _ _ _ _ _ _ _ (by omega) (Or.inl rfl) (by rw [mv_0, mv_0]; exact hM) x1 x5 x6
                    intro K4 I4 J4 F4 D4 R4 n4 s4 hM4 w1 w5 w6
                    refine ev_g0 rfl ?_
                    refine ev_ret rfl ?_
                    exact ⟨rfl, _, _, _, _, _, _, nI 0, rfl, bdd, lf_V6, lf_V6, hC3, hM4⟩
                · skip
                  have hC3 := RC_mv8 hC hu hq hss.symm hs8 hgm hpm (by omega)
                  refine ct_of h_HA_perform rfl rfl rfl ?_
                  refine ev_gV6 [] [some 34] rfl ?_
                  refine ev_inV 1 k_HA_15 h_SD_t rfl rfl rfl rfl rfl ⟨by decide, by decide⟩ rfl ?_
                  refine ev_gV6 [] [some (94 + 4 * q)] rfl ?_
                  refine ev_reta rfl ?_
                  refine ev_g0 rfl ?_
                  refine ev_inV 1 k_HA_15 h_SD_t rfl rfl rfl rfl rfl ⟨by decide, by decide⟩ rfl ?_
                  refine ev_gV6 [] [some (94 + 4 * u)] rfl ?_
                  refine ev_reta rfl ?_
                  refine ev_g0 rfl ?_
                  refine ev_inS 3 k_HA_41 h_HA_copyItems rfl rfl rfl rfl ⟨by decide, by decide⟩ rfl ?_
                  refine ev_gV6 [false, true] [] rfl ?_
                  refine ev_inV 1 k_HA_25 h_SD_n rfl rfl rfl rfl rfl ⟨by decide, by decide⟩ rfl ?_
                  refine ev_gV6 [] [] rfl ?_
                  refine ev_retl rfl ?_
                  refine ev_g0 rfl ?_
                  refine ev_inV 1 k_HA_25 h_SD_n rfl rfl rfl rfl rfl ⟨by decide, by decide⟩ rfl ?_
                  refine ev_gV6 [] [] rfl ?_
                  refine ev_retl rfl ?_
                  refine ev_g0 rfl ?_
                  refine ev_inV 1 k_HA_25 h_SD_n rfl rfl rfl rfl rfl ⟨by decide, by decide⟩ rfl ?_
                  refine ev_gV6 [] [] rfl ?_
                  refine ev_retl rfl ?_
                  refine ev_g0 rfl ?_
                  refine ev_inV 2 k_HA_93 h_TH_hasItems rfl rfl rfl rfl rfl ⟨by decide, by decide⟩ rfl ?_
                  refine ev_gV6 [false, false, false, false] [] rfl ?_
                  refine ev_retz rfl (by first | decide | exact zb_01 _) ?_
                  refine ev_gV6 [false] [] rfl ?_
                  refine ev_inV 2 k_HA_93 h_TH_hasItems rfl rfl rfl rfl rfl ⟨by decide, by decide⟩ rfl ?_
                  refine ev_gV6 [false, false, false, false] [] rfl ?_
                  refine ev_retz rfl (by first | decide | exact zb_01 _) ?_
                  refine ev_gV6 [true, true] [] rfl ?_
                  refine ev_cg2 (L2 := _) (st2 := _) (μ2 := (K, I, J, F, mm_cp D (94 + 4 * q + 2) (94 + 4 * u + 2) p g m, R, nx, sl)) rfl rfl lf_V6 ?_
                  refine ev_g0 rfl ?_
                  refine ev_reti rfl ?_
                  refine ev_g0 rfl ?_
                  refine ev_reti rfl ?_
                  refine ct_of h_MM_handles rfl rfl rfl ?_
                  by_cases hgp : p < g
                  · skip
                    refine ev_g0 rfl ?_
                    refine ev_inV 1 k_MM_344 h_MM_hold rfl rfl rfl rfl rfl ⟨by decide, by decide⟩ rfl ?_
                    refine ev_gV6 [] [] rfl ?_
                    refine ev_reti rfl ?_
                    refine ev_gV6 [] [some 10] rfl ?_
                    refine ev_inV 0 k_MM_380 h_MM_moves rfl rfl rfl rfl rfl ⟨by decide, by decide⟩ rfl ?_
                    refine ev_g0 rfl ?_
                    refine ev_inV 1 k_MM_344 h_MM_hold rfl rfl rfl rfl rfl ⟨by decide, by decide⟩ rfl ?_
                    refine ev_gV6 [] [] rfl ?_
                    refine ev_reti rfl ?_
                    refine ev_g0 rfl ?_
                    refine ev_inV 1 k_MM_344 h_MM_hold rfl rfl rfl rfl rfl ⟨by decide, by decide⟩ rfl ?_
                    refine ev_gV6 [] [] rfl ?_
                    refine ev_reti rfl ?_
                    refine ev_g0 rfl ?_
                    refine ev_inV 1 k_MM_357 h_MM_is rfl rfl rfl rfl rfl ⟨by decide, by decide⟩ rfl ?_
                    refine ev_gV6 [true, false] [] rfl ?_
                    refine ev_retz rfl (by first | decide | exact zb_01 _) ?_
                    refine ev_gV6 [false] [] rfl ?_
                    refine ev_inV 1 k_MM_357 h_MM_is rfl rfl rfl rfl rfl ⟨by decide, by decide⟩ rfl ?_
                    refine ev_gV6 [true, false] [] rfl ?_
                    refine ev_retz rfl (by first | decide | exact zb_01 _) ?_
                    refine ev_gV6 [true, false, true] [] rfl ?_
                    refine ev_inV 1 k_MM_277 h_MM_number rfl rfl rfl rfl rfl ⟨by decide, by decide⟩ rfl ?_
                    refine ev_gV6 [] [] rfl ?_
                    refine ev_retl rfl ?_
                    refine ev_g0 rfl ?_
                    refine ev_inV 1 k_MM_277 h_MM_number rfl rfl rfl rfl rfl ⟨by decide, by decide⟩ rfl ?_
                    refine ev_gV6 [] [] rfl ?_
                    refine ev_retl rfl ?_
                    refine ev_g0 rfl ?_
                    refine ev_inV 1 k_MM_277 h_MM_number rfl rfl rfl rfl rfl ⟨by decide, by decide⟩ rfl ?_
                    refine ev_gV6 [] [] rfl ?_
                    refine ev_retl rfl ?_
                    refine ev_gV6 [false, false] [] rfl ?_
                    refine ev_inS 3 k_MM_188 h_MM_in rfl rfl rfl rfl ⟨by decide, by decide⟩ rfl ?_
                    refine ev_gV6 [false, false] [] rfl ?_
                    refine ev_retz rfl (by first | decide | exact zb_01 _) ?_
                    refine ev_gV6 [false] [] rfl ?_
                    refine ev_inS 3 k_MM_188 h_MM_in rfl rfl rfl rfl ⟨by decide, by decide⟩ rfl ?_
                    refine ev_gV6 [false, false] [] rfl ?_
                    refine ev_retz rfl (by first | decide | exact zb_01 _) ?_
                    refine ev_gV6 [true] [] rfl ?_
                    refine ev_cg2 (L2 := (0, vr 11 6) :: (1, vi (nI q)) :: (2, vi (nI u)) :: (3, vl (lN p)) :: (5, vl (lN g)) :: (7, vl (lN m)) :: (9, vi (nI 0)) :: []) (st2 := [vi (lg_cmp (nI 0).toInt64 (lN m))]) lf_V6 lf_V6 rfl ?_
                    refine MV_d (u := u) (q := q) (p := p) (g := g) (m := m) hu hq hss.symm hs8 hgm hpm hgp isr1 (by omega) (y1 := nI t) (y5 := nI 0) (y6 := go) ?_ m 0 [] _ _ _ _ _ _ _ _ (by omega) (Or.inl rfl) (by rw [Nat.sub_zero, mv_0, mv_0]; exact hM) x1 x5 x6
                    intro K4 I4 J4 F4 D4 R4 n4 s4 hM4 w1 w5 w6
                    refine ev_g0 rfl ?_
                    refine ev_ret rfl ?_
                    exact ⟨rfl, _, _, _, _, _, _, nI 0, rfl, bdd, lf_V6, lf_V6, hC3, hM4⟩
                  · skip
                    refine ev_g0 rfl ?_
                    refine ev_inV 1 k_MM_344 h_MM_hold rfl rfl rfl rfl rfl ⟨by decide, by decide⟩ rfl ?_
                    refine ev_gV6 [] [] rfl ?_
                    refine ev_reti rfl ?_
                    refine ev_gV6 [] [some 10] rfl ?_
                    refine ev_inV 0 k_MM_380 h_MM_moves rfl rfl rfl rfl rfl ⟨by decide, by decide⟩ rfl ?_
                    refine ev_g0 rfl ?_
                    refine ev_inV 1 k_MM_344 h_MM_hold rfl rfl rfl rfl rfl ⟨by decide, by decide⟩ rfl ?_
                    refine ev_gV6 [] [] rfl ?_
                    refine ev_reti rfl ?_
                    refine ev_g0 rfl ?_
                    refine ev_inV 1 k_MM_344 h_MM_hold rfl rfl rfl rfl rfl ⟨by decide, by decide⟩ rfl ?_
                    refine ev_gV6 [] [] rfl ?_
                    refine ev_reti rfl ?_
                    refine ev_g0 rfl ?_
                    refine ev_inV 1 k_MM_357 h_MM_is rfl rfl rfl rfl rfl ⟨by decide, by decide⟩ rfl ?_
                    refine ev_gV6 [true, false] [] rfl ?_
                    refine ev_retz rfl (by first | decide | exact zb_01 _) ?_
                    refine ev_gV6 [false] [] rfl ?_
                    refine ev_inV 1 k_MM_357 h_MM_is rfl rfl rfl rfl rfl ⟨by decide, by decide⟩ rfl ?_
                    refine ev_gV6 [true, false] [] rfl ?_
                    refine ev_retz rfl (by first | decide | exact zb_01 _) ?_
                    refine ev_gV6 [true, false, true] [] rfl ?_
                    refine ev_inV 1 k_MM_277 h_MM_number rfl rfl rfl rfl rfl ⟨by decide, by decide⟩ rfl ?_
                    refine ev_gV6 [] [] rfl ?_
                    refine ev_retl rfl ?_
                    refine ev_g0 rfl ?_
                    refine ev_inV 1 k_MM_277 h_MM_number rfl rfl rfl rfl rfl ⟨by decide, by decide⟩ rfl ?_
                    refine ev_gV6 [] [] rfl ?_
                    refine ev_retl rfl ?_
                    refine ev_g0 rfl ?_
                    refine ev_inV 1 k_MM_277 h_MM_number rfl rfl rfl rfl rfl ⟨by decide, by decide⟩ rfl ?_
                    refine ev_gV6 [] [] rfl ?_
                    refine ev_retl rfl ?_
                    refine ev_gV6 [false, false] [] rfl ?_
                    refine ev_inS 3 k_MM_188 h_MM_in rfl rfl rfl rfl ⟨by decide, by decide⟩ rfl ?_
                    refine ev_gV6 [false, false] [] rfl ?_
                    refine ev_retz rfl (by first | decide | exact zb_01 _) ?_
                    refine ev_gV6 [false] [] rfl ?_
                    refine ev_inS 3 k_MM_188 h_MM_in rfl rfl rfl rfl ⟨by decide, by decide⟩ rfl ?_
                    refine ev_gV6 [false, false] [] rfl ?_
                    refine ev_retz rfl (by first | decide | exact zb_01 _) ?_
                    refine ev_gV6 [true] [] rfl ?_
                    refine ev_cg2 (L2 := (0, vr 11 6) :: (1, vi (nI q)) :: (2, vi (nI u)) :: (3, vl (lN p)) :: (5, vl (lN g)) :: (7, vl (lN m)) :: (9, vi (nI 0)) :: []) (st2 := [vi (lg_cmp (nI 0).toInt64 (lN m))]) lf_V6 lf_V6 rfl ?_
                    refine MV_a (u := u) (q := q) (p := p) (g := g) (m := m) hu hq hss.symm hs8 hgm hpm hgp isr1 (by omega) (y1 := nI t) (y5 := nI 0) (y6 := go) ?_ m 0 [] _ _ _ _ _ _ _ _ (by omega) (Or.inl rfl) (by rw [mv_0, mv_0]; exact hM) x1 x5 x6
                    intro K4 I4 J4 F4 D4 R4 n4 s4 hM4 w1 w5 w6
                    refine ev_g0 rfl ?_
                    refine ev_ret rfl ?_
                    exact ⟨rfl, _, _, _, _, _, _, nI 0, rfl, bdd, lf_V6, lf_V6, hC3, hM4⟩
              · skip
                refine ct_of h_HA_perform rfl rfl rfl ?_
                refine ev_gV6 [] [some 34] rfl ?_
                refine ev_inV 1 k_HA_15 h_SD_t rfl rfl rfl rfl rfl ⟨by decide, by decide⟩ rfl ?_
                refine ev_gV6 [] [some (94 + 4 * q)] rfl ?_
                refine ev_reta rfl ?_
                refine ev_g0 rfl ?_
                refine ev_inV 1 k_HA_15 h_SD_t rfl rfl rfl rfl rfl ⟨by decide, by decide⟩ rfl ?_
                refine ev_gV6 [] [some (94 + 4 * u)] rfl ?_
                refine ev_reta rfl ?_
                refine ev_g0 rfl ?_
                refine ev_inS 3 k_HA_41 h_HA_copyItems rfl rfl rfl rfl ⟨by decide, by decide⟩ rfl ?_
                refine ev_gV6 [false, true] [] rfl ?_
                refine ev_inV 1 k_HA_25 h_SD_n rfl rfl rfl rfl rfl ⟨by decide, by decide⟩ rfl ?_
                refine ev_gV6 [] [] rfl ?_
                refine ev_retl rfl ?_
                refine ev_g0 rfl ?_
                refine ev_inV 1 k_HA_25 h_SD_n rfl rfl rfl rfl rfl ⟨by decide, by decide⟩ rfl ?_
                refine ev_gV6 [] [] rfl ?_
                refine ev_retl rfl ?_
                refine ev_g0 rfl ?_
                refine ev_inV 1 k_HA_25 h_SD_n rfl rfl rfl rfl rfl ⟨by decide, by decide⟩ rfl ?_
                refine ev_gV6 [] [] rfl ?_
                refine ev_retl rfl ?_
                refine ev_g0 rfl ?_
                refine ev_inV 2 k_HA_93 h_TH_hasItems rfl rfl rfl rfl rfl ⟨by decide, by decide⟩ rfl ?_
                refine ev_gV6 [false, false, false, false] [] rfl ?_
                refine ev_retz rfl (by first | decide | exact zb_01 _) ?_
                refine ev_gV6 [false] [] rfl ?_
                refine ev_inV 2 k_HA_93 h_TH_hasItems rfl rfl rfl rfl rfl ⟨by decide, by decide⟩ rfl ?_
                refine ev_g0 rfl ?_
                refine ev_bV6 rfl rfl (fun h_1 => ?_) (fun h_1 => ?_)
                · skip
                  refine ev_g0 rfl ?_
                  refine ev_retz rfl (by first | decide | exact zb_01 _) ?_
                  refine ev_gV6 [false] [] rfl ?_
                  refine ev_reti rfl ?_
                  refine ev_g0 rfl ?_
                  refine ev_reti rfl ?_
                  refine ct_of h_MM_handles rfl rfl rfl ?_
                  refine ev_g0 rfl ?_
                  refine ev_inV 1 k_MM_344 h_MM_hold rfl rfl rfl rfl rfl ⟨by decide, by decide⟩ rfl ?_
                  refine ev_gV6 [] [] rfl ?_
                  refine ev_reti rfl ?_
                  refine ev_gV6 [] [some 10] rfl ?_
                  refine ev_inV 0 k_MM_380 h_MM_moves rfl rfl rfl rfl rfl ⟨by decide, by decide⟩ rfl ?_
                  refine ev_g0 rfl ?_
                  refine ev_inV 1 k_MM_344 h_MM_hold rfl rfl rfl rfl rfl ⟨by decide, by decide⟩ rfl ?_
                  refine ev_gV6 [] [] rfl ?_
                  refine ev_reti rfl ?_
                  refine ev_g0 rfl ?_
                  refine ev_inV 1 k_MM_344 h_MM_hold rfl rfl rfl rfl rfl ⟨by decide, by decide⟩ rfl ?_
                  refine ev_gV6 [] [] rfl ?_
                  refine ev_reti rfl ?_
                  refine ev_g0 rfl ?_
                  refine ev_inV 1 k_MM_357 h_MM_is rfl rfl rfl rfl rfl ⟨by decide, by decide⟩ rfl ?_
                  refine ev_gV6 [true, false] [] rfl ?_
                  refine ev_retz rfl (by first | decide | exact zb_01 _) ?_
                  refine ev_gV6 [false] [] rfl ?_
                  refine ev_inV 1 k_MM_357 h_MM_is rfl rfl rfl rfl rfl ⟨by decide, by decide⟩ rfl ?_
                  refine ev_gV6 [true, false] [] rfl ?_
                  refine ev_retz rfl (by first | decide | exact zb_01 _) ?_
                  refine ev_gV6 [true, false, true] [] rfl ?_
                  refine ev_inV 1 k_MM_277 h_MM_number rfl rfl rfl rfl rfl ⟨by decide, by decide⟩ rfl ?_
                  refine ev_gV6 [] [] rfl ?_
                  refine ev_retl rfl ?_
                  refine ev_g0 rfl ?_
                  refine ev_inV 1 k_MM_277 h_MM_number rfl rfl rfl rfl rfl ⟨by decide, by decide⟩ rfl ?_
                  refine ev_gV6 [] [] rfl ?_
                  refine ev_retl rfl ?_
                  refine ev_g0 rfl ?_
                  refine ev_inV 1 k_MM_277 h_MM_number rfl rfl rfl rfl rfl ⟨by decide, by decide⟩ rfl ?_
                  refine ev_gV6 [] [] rfl ?_
                  refine ev_retl rfl ?_
                  refine ev_gV6 [false, false] [] rfl ?_
                  refine ev_inS 3 k_MM_188 h_MM_in rfl rfl rfl rfl ⟨by decide, by decide⟩ rfl ?_
                  refine ev_gV6 [false, false] [] rfl ?_
                  refine ev_retz rfl (by first | decide | exact zb_01 _) ?_
                  refine ev_gV6 [false] [] rfl ?_
                  refine ev_inS 3 k_MM_188 h_MM_in rfl rfl rfl rfl ⟨by decide, by decide⟩ rfl ?_
                  refine ev_gV6 [true] [] rfl ?_
                  refine ev_retz rfl (by first | decide | exact zb_01 _) ?_
                  refine ev_gV6 [false] [] rfl ?_
                  refine ev_inV 1 k_MM_301 h_MM_fails rfl rfl rfl rfl rfl ⟨by decide, by decide⟩ rfl ?_
                  refine ev_g0 rfl ?_
                  refine ev_ret rfl ?_
                  refine ev_g0 rfl ?_
                  refine ev_ret rfl ?_
                  refine ev_g0 rfl ?_
                  refine ev_ret rfl ?_
                  exact ⟨rfl, xj, xd, xf, xo, xi, xn, nI 2, rfl, bdd, lf_V6, lf_V6, hC, hM⟩
                · skip
                  refine ev_gV6 [false] [] rfl ?_
                  refine ev_bV6 rfl rfl (fun h_2 => ?_) (fun h_2 => ?_)
                  · skip
                    refine ev_g0 rfl ?_
                    refine ev_retz rfl (by first | decide | exact zb_01 _) ?_
                    refine ev_gV6 [false] [] rfl ?_
                    refine ev_reti rfl ?_
                    refine ev_g0 rfl ?_
                    refine ev_reti rfl ?_
                    refine ct_of h_MM_handles rfl rfl rfl ?_
                    refine ev_g0 rfl ?_
                    refine ev_inV 1 k_MM_344 h_MM_hold rfl rfl rfl rfl rfl ⟨by decide, by decide⟩ rfl ?_
                    refine ev_gV6 [] [] rfl ?_
                    refine ev_reti rfl ?_
                    refine ev_gV6 [] [some 10] rfl ?_
                    refine ev_inV 0 k_MM_380 h_MM_moves rfl rfl rfl rfl rfl ⟨by decide, by decide⟩ rfl ?_
                    refine ev_g0 rfl ?_
                    refine ev_inV 1 k_MM_344 h_MM_hold rfl rfl rfl rfl rfl ⟨by decide, by decide⟩ rfl ?_
                    refine ev_gV6 [] [] rfl ?_
                    refine ev_reti rfl ?_
                    refine ev_g0 rfl ?_
                    refine ev_inV 1 k_MM_344 h_MM_hold rfl rfl rfl rfl rfl ⟨by decide, by decide⟩ rfl ?_
                    refine ev_gV6 [] [] rfl ?_
                    refine ev_reti rfl ?_
                    refine ev_g0 rfl ?_
                    refine ev_inV 1 k_MM_357 h_MM_is rfl rfl rfl rfl rfl ⟨by decide, by decide⟩ rfl ?_
                    refine ev_gV6 [true, false] [] rfl ?_
                    refine ev_retz rfl (by first | decide | exact zb_01 _) ?_
                    refine ev_gV6 [false] [] rfl ?_
                    refine ev_inV 1 k_MM_357 h_MM_is rfl rfl rfl rfl rfl ⟨by decide, by decide⟩ rfl ?_
                    refine ev_gV6 [true, false] [] rfl ?_
                    refine ev_retz rfl (by first | decide | exact zb_01 _) ?_
                    refine ev_gV6 [true, false, true] [] rfl ?_
                    refine ev_inV 1 k_MM_277 h_MM_number rfl rfl rfl rfl rfl ⟨by decide, by decide⟩ rfl ?_
                    refine ev_gV6 [] [] rfl ?_
                    refine ev_retl rfl ?_
                    refine ev_g0 rfl ?_
                    refine ev_inV 1 k_MM_277 h_MM_number rfl rfl rfl rfl rfl ⟨by decide, by decide⟩ rfl ?_
                    refine ev_gV6 [] [] rfl ?_
                    refine ev_retl rfl ?_
                    refine ev_g0 rfl ?_
                    refine ev_inV 1 k_MM_277 h_MM_number rfl rfl rfl rfl rfl ⟨by decide, by decide⟩ rfl ?_
                    refine ev_gV6 [] [] rfl ?_
                    refine ev_retl rfl ?_
                    refine ev_gV6 [false, false] [] rfl ?_
                    refine ev_inS 3 k_MM_188 h_MM_in rfl rfl rfl rfl ⟨by decide, by decide⟩ rfl ?_
                    refine ev_gV6 [false, false] [] rfl ?_
                    refine ev_retz rfl (by first | decide | exact zb_01 _) ?_
                    refine ev_gV6 [false] [] rfl ?_
                    refine ev_inS 3 k_MM_188 h_MM_in rfl rfl rfl rfl ⟨by decide, by decide⟩ rfl ?_
                    refine ev_gV6 [false, true] [] rfl ?_
                    refine ev_retz rfl (by first | decide | exact zb_01 _) ?_
                    refine ev_gV6 [false] [] rfl ?_
                    refine ev_inV 1 k_MM_301 h_MM_fails rfl rfl rfl rfl rfl ⟨by decide, by decide⟩ rfl ?_
                    refine ev_g0 rfl ?_
                    refine ev_ret rfl ?_
                    refine ev_g0 rfl ?_
                    refine ev_ret rfl ?_
                    refine ev_g0 rfl ?_
                    refine ev_ret rfl ?_
                    exact ⟨rfl, xj, xd, xf, xo, xi, xn, nI 2, rfl, bdd, lf_V6, lf_V6, hC, hM⟩
                  · skip
                    refine ev_gV6 [true] [] rfl ?_
                    refine ev_retz rfl (by first | decide | exact zb_01 _) ?_
                    refine ev_gV6 [false] [] rfl ?_
                    refine ev_reti rfl ?_
                    refine ev_g0 rfl ?_
                    refine ev_reti rfl ?_
                    refine ct_of h_MM_handles rfl rfl rfl ?_
                    refine ev_g0 rfl ?_
                    refine ev_inV 1 k_MM_344 h_MM_hold rfl rfl rfl rfl rfl ⟨by decide, by decide⟩ rfl ?_
                    refine ev_gV6 [] [] rfl ?_
                    refine ev_reti rfl ?_
                    refine ev_gV6 [] [some 10] rfl ?_
                    refine ev_inV 0 k_MM_380 h_MM_moves rfl rfl rfl rfl rfl ⟨by decide, by decide⟩ rfl ?_
                    refine ev_g0 rfl ?_
                    refine ev_inV 1 k_MM_344 h_MM_hold rfl rfl rfl rfl rfl ⟨by decide, by decide⟩ rfl ?_
                    refine ev_gV6 [] [] rfl ?_
                    refine ev_reti rfl ?_
                    refine ev_g0 rfl ?_
                    refine ev_inV 1 k_MM_344 h_MM_hold rfl rfl rfl rfl rfl ⟨by decide, by decide⟩ rfl ?_
                    refine ev_gV6 [] [] rfl ?_
                    refine ev_reti rfl ?_
                    refine ev_g0 rfl ?_
                    refine ev_inV 1 k_MM_357 h_MM_is rfl rfl rfl rfl rfl ⟨by decide, by decide⟩ rfl ?_
                    refine ev_gV6 [true, false] [] rfl ?_
                    refine ev_retz rfl (by first | decide | exact zb_01 _) ?_
                    refine ev_gV6 [false] [] rfl ?_
                    refine ev_inV 1 k_MM_357 h_MM_is rfl rfl rfl rfl rfl ⟨by decide, by decide⟩ rfl ?_
                    refine ev_gV6 [true, false] [] rfl ?_
                    refine ev_retz rfl (by first | decide | exact zb_01 _) ?_
                    refine ev_gV6 [true, false, true] [] rfl ?_
                    refine ev_inV 1 k_MM_277 h_MM_number rfl rfl rfl rfl rfl ⟨by decide, by decide⟩ rfl ?_
                    refine ev_gV6 [] [] rfl ?_
                    refine ev_retl rfl ?_
                    refine ev_g0 rfl ?_
                    refine ev_inV 1 k_MM_277 h_MM_number rfl rfl rfl rfl rfl ⟨by decide, by decide⟩ rfl ?_
                    refine ev_gV6 [] [] rfl ?_
                    refine ev_retl rfl ?_
                    refine ev_g0 rfl ?_
                    refine ev_inV 1 k_MM_277 h_MM_number rfl rfl rfl rfl rfl ⟨by decide, by decide⟩ rfl ?_
                    refine ev_gV6 [] [] rfl ?_
                    refine ev_retl rfl ?_
                    refine ev_gV6 [false, false] [] rfl ?_
                    refine ev_inS 3 k_MM_188 h_MM_in rfl rfl rfl rfl ⟨by decide, by decide⟩ rfl ?_
                    refine ev_gV6 [false, false] [] rfl ?_
                    refine ev_retz rfl (by first | decide | exact zb_01 _) ?_
                    refine ev_gV6 [false] [] rfl ?_
                    refine ev_inS 3 k_MM_188 h_MM_in rfl rfl rfl rfl ⟨by decide, by decide⟩ rfl ?_
                    refine ev_gV6 [false, true] [] rfl ?_
                    refine ev_retz rfl (by first | decide | exact zb_01 _) ?_
                    refine ev_gV6 [false] [] rfl ?_
                    refine ev_inV 1 k_MM_301 h_MM_fails rfl rfl rfl rfl rfl ⟨by decide, by decide⟩ rfl ?_
                    refine ev_g0 rfl ?_
                    refine ev_ret rfl ?_
                    refine ev_g0 rfl ?_
                    refine ev_ret rfl ?_
                    refine ev_g0 rfl ?_
                    refine ev_ret rfl ?_
                    exact ⟨rfl, xj, xd, xf, xo, xi, xn, nI 2, rfl, bdd, lf_V6, lf_V6, hC, hM⟩
            · skip
              refine ct_of h_HA_perform rfl rfl rfl ?_
              refine ev_gV6 [] [some 34] rfl ?_
              refine ev_inV 1 k_HA_15 h_SD_t rfl rfl rfl rfl rfl ⟨by decide, by decide⟩ rfl ?_
              refine ev_gV6 [] [some (94 + 4 * q)] rfl ?_
              refine ev_reta rfl ?_
              refine ev_g0 rfl ?_
              refine ev_inV 1 k_HA_15 h_SD_t rfl rfl rfl rfl rfl ⟨by decide, by decide⟩ rfl ?_
              refine ev_gV6 [] [some (94 + 4 * u)] rfl ?_
              refine ev_reta rfl ?_
              refine ev_g0 rfl ?_
              refine ev_inS 3 k_HA_41 h_HA_copyItems rfl rfl rfl rfl ⟨by decide, by decide⟩ rfl ?_
              refine ev_gV6 [false, true] [] rfl ?_
              refine ev_inV 1 k_HA_25 h_SD_n rfl rfl rfl rfl rfl ⟨by decide, by decide⟩ rfl ?_
              refine ev_gV6 [] [] rfl ?_
              refine ev_retl rfl ?_
              refine ev_g0 rfl ?_
              refine ev_inV 1 k_HA_25 h_SD_n rfl rfl rfl rfl rfl ⟨by decide, by decide⟩ rfl ?_
              refine ev_gV6 [] [] rfl ?_
              refine ev_retl rfl ?_
              refine ev_g0 rfl ?_
              refine ev_inV 1 k_HA_25 h_SD_n rfl rfl rfl rfl rfl ⟨by decide, by decide⟩ rfl ?_
              refine ev_gV6 [] [] rfl ?_
              refine ev_retl rfl ?_
              refine ev_g0 rfl ?_
              refine ev_inV 2 k_HA_93 h_TH_hasItems rfl rfl rfl rfl rfl ⟨by decide, by decide⟩ rfl ?_
              refine ev_g0 rfl ?_
              refine ev_bV6 rfl rfl (fun h_1 => ?_) (fun h_1 => ?_)
              · skip
                refine ev_g0 rfl ?_
                refine ev_retz rfl (by first | decide | exact zb_01 _) ?_
                refine ev_gV6 [true] [] rfl ?_
                refine ev_reti rfl ?_
                refine ev_g0 rfl ?_
                refine ev_reti rfl ?_
                refine ct_of h_MM_handles rfl rfl rfl ?_
                refine ev_g0 rfl ?_
                refine ev_inV 1 k_MM_344 h_MM_hold rfl rfl rfl rfl rfl ⟨by decide, by decide⟩ rfl ?_
                refine ev_gV6 [] [] rfl ?_
                refine ev_reti rfl ?_
                refine ev_gV6 [] [some 10] rfl ?_
                refine ev_inV 0 k_MM_380 h_MM_moves rfl rfl rfl rfl rfl ⟨by decide, by decide⟩ rfl ?_
                refine ev_g0 rfl ?_
                refine ev_inV 1 k_MM_344 h_MM_hold rfl rfl rfl rfl rfl ⟨by decide, by decide⟩ rfl ?_
                refine ev_gV6 [] [] rfl ?_
                refine ev_reti rfl ?_
                refine ev_g0 rfl ?_
                refine ev_inV 1 k_MM_344 h_MM_hold rfl rfl rfl rfl rfl ⟨by decide, by decide⟩ rfl ?_
                refine ev_gV6 [] [] rfl ?_
                refine ev_reti rfl ?_
                refine ev_g0 rfl ?_
                refine ev_inV 1 k_MM_357 h_MM_is rfl rfl rfl rfl rfl ⟨by decide, by decide⟩ rfl ?_
                refine ev_gV6 [true, false] [] rfl ?_
                refine ev_retz rfl (by first | decide | exact zb_01 _) ?_
                refine ev_gV6 [false] [] rfl ?_
                refine ev_inV 1 k_MM_357 h_MM_is rfl rfl rfl rfl rfl ⟨by decide, by decide⟩ rfl ?_
                refine ev_gV6 [true, false] [] rfl ?_
                refine ev_retz rfl (by first | decide | exact zb_01 _) ?_
                refine ev_gV6 [true, false, true] [] rfl ?_
                refine ev_inV 1 k_MM_277 h_MM_number rfl rfl rfl rfl rfl ⟨by decide, by decide⟩ rfl ?_
                refine ev_gV6 [] [] rfl ?_
                refine ev_retl rfl ?_
                refine ev_g0 rfl ?_
                refine ev_inV 1 k_MM_277 h_MM_number rfl rfl rfl rfl rfl ⟨by decide, by decide⟩ rfl ?_
                refine ev_gV6 [] [] rfl ?_
                refine ev_retl rfl ?_
                refine ev_g0 rfl ?_
                refine ev_inV 1 k_MM_277 h_MM_number rfl rfl rfl rfl rfl ⟨by decide, by decide⟩ rfl ?_
                refine ev_gV6 [] [] rfl ?_
                refine ev_retl rfl ?_
                refine ev_gV6 [false, false] [] rfl ?_
                refine ev_inS 3 k_MM_188 h_MM_in rfl rfl rfl rfl ⟨by decide, by decide⟩ rfl ?_
                refine ev_gV6 [true] [] rfl ?_
                refine ev_retz rfl (by first | decide | exact zb_01 _) ?_
                refine ev_gV6 [true] [] rfl ?_
                refine ev_inV 1 k_MM_301 h_MM_fails rfl rfl rfl rfl rfl ⟨by decide, by decide⟩ rfl ?_
                refine ev_g0 rfl ?_
                refine ev_ret rfl ?_
                refine ev_g0 rfl ?_
                refine ev_ret rfl ?_
                refine ev_g0 rfl ?_
                refine ev_ret rfl ?_
                exact ⟨rfl, xj, xd, xf, xo, xi, xn, nI 2, rfl, bdd, lf_V6, lf_V6, hC, hM⟩
              · skip
                refine ev_gV6 [false] [] rfl ?_
                refine ev_bV6 rfl rfl (fun h_2 => ?_) (fun h_2 => ?_)
                · skip
                  refine ev_g0 rfl ?_
                  refine ev_retz rfl (by first | decide | exact zb_01 _) ?_
                  refine ev_gV6 [true] [] rfl ?_
                  refine ev_reti rfl ?_
                  refine ev_g0 rfl ?_
                  refine ev_reti rfl ?_
                  refine ct_of h_MM_handles rfl rfl rfl ?_
                  refine ev_g0 rfl ?_
                  refine ev_inV 1 k_MM_344 h_MM_hold rfl rfl rfl rfl rfl ⟨by decide, by decide⟩ rfl ?_
                  refine ev_gV6 [] [] rfl ?_
                  refine ev_reti rfl ?_
                  refine ev_gV6 [] [some 10] rfl ?_
                  refine ev_inV 0 k_MM_380 h_MM_moves rfl rfl rfl rfl rfl ⟨by decide, by decide⟩ rfl ?_
                  refine ev_g0 rfl ?_
                  refine ev_inV 1 k_MM_344 h_MM_hold rfl rfl rfl rfl rfl ⟨by decide, by decide⟩ rfl ?_
                  refine ev_gV6 [] [] rfl ?_
                  refine ev_reti rfl ?_
                  refine ev_g0 rfl ?_
                  refine ev_inV 1 k_MM_344 h_MM_hold rfl rfl rfl rfl rfl ⟨by decide, by decide⟩ rfl ?_
                  refine ev_gV6 [] [] rfl ?_
                  refine ev_reti rfl ?_
                  refine ev_g0 rfl ?_
                  refine ev_inV 1 k_MM_357 h_MM_is rfl rfl rfl rfl rfl ⟨by decide, by decide⟩ rfl ?_
                  refine ev_gV6 [true, false] [] rfl ?_
                  refine ev_retz rfl (by first | decide | exact zb_01 _) ?_
                  refine ev_gV6 [false] [] rfl ?_
                  refine ev_inV 1 k_MM_357 h_MM_is rfl rfl rfl rfl rfl ⟨by decide, by decide⟩ rfl ?_
                  refine ev_gV6 [true, false] [] rfl ?_
                  refine ev_retz rfl (by first | decide | exact zb_01 _) ?_
                  refine ev_gV6 [true, false, true] [] rfl ?_
                  refine ev_inV 1 k_MM_277 h_MM_number rfl rfl rfl rfl rfl ⟨by decide, by decide⟩ rfl ?_
                  refine ev_gV6 [] [] rfl ?_
                  refine ev_retl rfl ?_
                  refine ev_g0 rfl ?_
                  refine ev_inV 1 k_MM_277 h_MM_number rfl rfl rfl rfl rfl ⟨by decide, by decide⟩ rfl ?_
                  refine ev_gV6 [] [] rfl ?_
                  refine ev_retl rfl ?_
                  refine ev_g0 rfl ?_
                  refine ev_inV 1 k_MM_277 h_MM_number rfl rfl rfl rfl rfl ⟨by decide, by decide⟩ rfl ?_
                  refine ev_gV6 [] [] rfl ?_
                  refine ev_retl rfl ?_
                  refine ev_gV6 [false, false] [] rfl ?_
                  refine ev_inS 3 k_MM_188 h_MM_in rfl rfl rfl rfl ⟨by decide, by decide⟩ rfl ?_
                  refine ev_gV6 [false, true] [] rfl ?_
                  refine ev_retz rfl (by first | decide | exact zb_01 _) ?_
                  refine ev_gV6 [true] [] rfl ?_
                  refine ev_inV 1 k_MM_301 h_MM_fails rfl rfl rfl rfl rfl ⟨by decide, by decide⟩ rfl ?_
                  refine ev_g0 rfl ?_
                  refine ev_ret rfl ?_
                  refine ev_g0 rfl ?_
                  refine ev_ret rfl ?_
                  refine ev_g0 rfl ?_
                  refine ev_ret rfl ?_
                  exact ⟨rfl, xj, xd, xf, xo, xi, xn, nI 2, rfl, bdd, lf_V6, lf_V6, hC, hM⟩
                · skip
                  refine ev_gV6 [true] [] rfl ?_
                  refine ev_retz rfl (by first | decide | exact zb_01 _) ?_
                  refine ev_gV6 [true] [] rfl ?_
                  refine ev_reti rfl ?_
                  refine ev_g0 rfl ?_
                  refine ev_reti rfl ?_
                  refine ct_of h_MM_handles rfl rfl rfl ?_
                  refine ev_g0 rfl ?_
                  refine ev_inV 1 k_MM_344 h_MM_hold rfl rfl rfl rfl rfl ⟨by decide, by decide⟩ rfl ?_
                  refine ev_gV6 [] [] rfl ?_
                  refine ev_reti rfl ?_
                  refine ev_gV6 [] [some 10] rfl ?_
                  refine ev_inV 0 k_MM_380 h_MM_moves rfl rfl rfl rfl rfl ⟨by decide, by decide⟩ rfl ?_
                  refine ev_g0 rfl ?_
                  refine ev_inV 1 k_MM_344 h_MM_hold rfl rfl rfl rfl rfl ⟨by decide, by decide⟩ rfl ?_
                  refine ev_gV6 [] [] rfl ?_
                  refine ev_reti rfl ?_
                  refine ev_g0 rfl ?_
                  refine ev_inV 1 k_MM_344 h_MM_hold rfl rfl rfl rfl rfl ⟨by decide, by decide⟩ rfl ?_
                  refine ev_gV6 [] [] rfl ?_
                  refine ev_reti rfl ?_
                  refine ev_g0 rfl ?_
                  refine ev_inV 1 k_MM_357 h_MM_is rfl rfl rfl rfl rfl ⟨by decide, by decide⟩ rfl ?_
                  refine ev_gV6 [true, false] [] rfl ?_
                  refine ev_retz rfl (by first | decide | exact zb_01 _) ?_
                  refine ev_gV6 [false] [] rfl ?_
                  refine ev_inV 1 k_MM_357 h_MM_is rfl rfl rfl rfl rfl ⟨by decide, by decide⟩ rfl ?_
                  refine ev_gV6 [true, false] [] rfl ?_
                  refine ev_retz rfl (by first | decide | exact zb_01 _) ?_
                  refine ev_gV6 [true, false, true] [] rfl ?_
                  refine ev_inV 1 k_MM_277 h_MM_number rfl rfl rfl rfl rfl ⟨by decide, by decide⟩ rfl ?_
                  refine ev_gV6 [] [] rfl ?_
                  refine ev_retl rfl ?_
                  refine ev_g0 rfl ?_
                  refine ev_inV 1 k_MM_277 h_MM_number rfl rfl rfl rfl rfl ⟨by decide, by decide⟩ rfl ?_
                  refine ev_gV6 [] [] rfl ?_
                  refine ev_retl rfl ?_
                  refine ev_g0 rfl ?_
                  refine ev_inV 1 k_MM_277 h_MM_number rfl rfl rfl rfl rfl ⟨by decide, by decide⟩ rfl ?_
                  refine ev_gV6 [] [] rfl ?_
                  refine ev_retl rfl ?_
                  refine ev_gV6 [false, false] [] rfl ?_
                  refine ev_inS 3 k_MM_188 h_MM_in rfl rfl rfl rfl ⟨by decide, by decide⟩ rfl ?_
                  refine ev_gV6 [false, true] [] rfl ?_
                  refine ev_retz rfl (by first | decide | exact zb_01 _) ?_
                  refine ev_gV6 [true] [] rfl ?_
                  refine ev_inV 1 k_MM_301 h_MM_fails rfl rfl rfl rfl rfl ⟨by decide, by decide⟩ rfl ?_
                  refine ev_g0 rfl ?_
                  refine ev_ret rfl ?_
                  refine ev_g0 rfl ?_
                  refine ev_ret rfl ?_
                  refine ev_g0 rfl ?_
                  refine ev_ret rfl ?_
                  exact ⟨rfl, xj, xd, xf, xo, xi, xn, nI 2, rfl, bdd, lf_V6, lf_V6, hC, hM⟩
          · skip
            refine ct_of h_HA_perform rfl rfl rfl ?_
            refine ev_gV6 [] [some 34] rfl ?_
            refine ev_inV 1 k_HA_15 h_SD_t rfl rfl rfl rfl rfl ⟨by decide, by decide⟩ rfl ?_
            refine ev_gV6 [] [some (94 + 4 * q)] rfl ?_
            refine ev_reta rfl ?_
            refine ev_g0 rfl ?_
            refine ev_inV 1 k_HA_15 h_SD_t rfl rfl rfl rfl rfl ⟨by decide, by decide⟩ rfl ?_
            refine ev_gV6 [] [some (94 + 4 * u)] rfl ?_
            refine ev_reta rfl ?_
            refine ev_g0 rfl ?_
            refine ev_inS 3 k_HA_41 h_HA_copyItems rfl rfl rfl rfl ⟨by decide, by decide⟩ rfl ?_
            refine ev_gV6 [false, true] [] rfl ?_
            refine ev_inV 1 k_HA_25 h_SD_n rfl rfl rfl rfl rfl ⟨by decide, by decide⟩ rfl ?_
            refine ev_gV6 [] [] rfl ?_
            refine ev_retl rfl ?_
            refine ev_g0 rfl ?_
            refine ev_inV 1 k_HA_25 h_SD_n rfl rfl rfl rfl rfl ⟨by decide, by decide⟩ rfl ?_
            refine ev_gV6 [] [] rfl ?_
            refine ev_retl rfl ?_
            refine ev_g0 rfl ?_
            refine ev_inV 1 k_HA_25 h_SD_n rfl rfl rfl rfl rfl ⟨by decide, by decide⟩ rfl ?_
            refine ev_gV6 [] [] rfl ?_
            refine ev_retl rfl ?_
            refine ev_g0 rfl ?_
            refine ev_inV 2 k_HA_93 h_TH_hasItems rfl rfl rfl rfl rfl ⟨by decide, by decide⟩ rfl ?_
            refine ev_g0 rfl ?_
            refine ev_bV6 rfl rfl (fun h_1 => ?_) (fun h_1 => ?_)
            · skip
              refine ev_g0 rfl ?_
              refine ev_retz rfl (by first | decide | exact zb_01 _) ?_
              refine ev_gV6 [true] [] rfl ?_
              refine ev_reti rfl ?_
              refine ev_g0 rfl ?_
              refine ev_reti rfl ?_
              refine ct_of h_MM_handles rfl rfl rfl ?_
              refine ev_g0 rfl ?_
              refine ev_inV 1 k_MM_344 h_MM_hold rfl rfl rfl rfl rfl ⟨by decide, by decide⟩ rfl ?_
              refine ev_gV6 [] [] rfl ?_
              refine ev_reti rfl ?_
              refine ev_gV6 [] [some 10] rfl ?_
              refine ev_inV 0 k_MM_380 h_MM_moves rfl rfl rfl rfl rfl ⟨by decide, by decide⟩ rfl ?_
              refine ev_g0 rfl ?_
              refine ev_inV 1 k_MM_344 h_MM_hold rfl rfl rfl rfl rfl ⟨by decide, by decide⟩ rfl ?_
              refine ev_gV6 [] [] rfl ?_
              refine ev_reti rfl ?_
              refine ev_g0 rfl ?_
              refine ev_inV 1 k_MM_344 h_MM_hold rfl rfl rfl rfl rfl ⟨by decide, by decide⟩ rfl ?_
              refine ev_gV6 [] [] rfl ?_
              refine ev_reti rfl ?_
              refine ev_g0 rfl ?_
              refine ev_inV 1 k_MM_357 h_MM_is rfl rfl rfl rfl rfl ⟨by decide, by decide⟩ rfl ?_
              refine ev_gV6 [true, false] [] rfl ?_
              refine ev_retz rfl (by first | decide | exact zb_01 _) ?_
              refine ev_gV6 [false] [] rfl ?_
              refine ev_inV 1 k_MM_357 h_MM_is rfl rfl rfl rfl rfl ⟨by decide, by decide⟩ rfl ?_
              refine ev_gV6 [true, false] [] rfl ?_
              refine ev_retz rfl (by first | decide | exact zb_01 _) ?_
              refine ev_gV6 [true, false, true] [] rfl ?_
              refine ev_inV 1 k_MM_277 h_MM_number rfl rfl rfl rfl rfl ⟨by decide, by decide⟩ rfl ?_
              refine ev_gV6 [] [] rfl ?_
              refine ev_retl rfl ?_
              refine ev_g0 rfl ?_
              refine ev_inV 1 k_MM_277 h_MM_number rfl rfl rfl rfl rfl ⟨by decide, by decide⟩ rfl ?_
              refine ev_gV6 [] [] rfl ?_
              refine ev_retl rfl ?_
              refine ev_g0 rfl ?_
              refine ev_inV 1 k_MM_277 h_MM_number rfl rfl rfl rfl rfl ⟨by decide, by decide⟩ rfl ?_
              refine ev_gV6 [] [] rfl ?_
              refine ev_retl rfl ?_
              refine ev_g0 rfl ?_
              refine ev_bV6 rfl rfl (fun h_2 => ?_) (fun h_2 => ?_)
              · skip
                refine ev_g0 rfl ?_
                refine ev_inV 1 k_MM_301 h_MM_fails rfl rfl rfl rfl rfl ⟨by decide, by decide⟩ rfl ?_
                refine ev_g0 rfl ?_
                refine ev_ret rfl ?_
                refine ev_g0 rfl ?_
                refine ev_ret rfl ?_
                refine ev_g0 rfl ?_
                refine ev_ret rfl ?_
                exact ⟨rfl, xj, xd, xf, xo, xi, xn, nI 2, rfl, bdd, lf_V6, lf_V6, hC, hM⟩
              · skip
                refine ev_gV6 [true] [] rfl ?_
                refine ev_inV 1 k_MM_301 h_MM_fails rfl rfl rfl rfl rfl ⟨by decide, by decide⟩ rfl ?_
                refine ev_g0 rfl ?_
                refine ev_ret rfl ?_
                refine ev_g0 rfl ?_
                refine ev_ret rfl ?_
                refine ev_g0 rfl ?_
                refine ev_ret rfl ?_
                exact ⟨rfl, xj, xd, xf, xo, xi, xn, nI 2, rfl, bdd, lf_V6, lf_V6, hC, hM⟩
            · skip
              refine ev_g0 rfl ?_
              refine ev_bV6 rfl rfl (fun h_3 => ?_) (fun h_3 => ?_)
              · skip
                refine ev_g0 rfl ?_
                refine ev_retz rfl (by first | decide | exact zb_01 _) ?_
                refine ev_gV6 [true] [] rfl ?_
                refine ev_reti rfl ?_
                refine ev_g0 rfl ?_
                refine ev_reti rfl ?_
                refine ct_of h_MM_handles rfl rfl rfl ?_
                refine ev_g0 rfl ?_
                refine ev_inV 1 k_MM_344 h_MM_hold rfl rfl rfl rfl rfl ⟨by decide, by decide⟩ rfl ?_
                refine ev_gV6 [] [] rfl ?_
                refine ev_reti rfl ?_
                refine ev_gV6 [] [some 10] rfl ?_
                refine ev_inV 0 k_MM_380 h_MM_moves rfl rfl rfl rfl rfl ⟨by decide, by decide⟩ rfl ?_
                refine ev_g0 rfl ?_
                refine ev_inV 1 k_MM_344 h_MM_hold rfl rfl rfl rfl rfl ⟨by decide, by decide⟩ rfl ?_
                refine ev_gV6 [] [] rfl ?_
                refine ev_reti rfl ?_
                refine ev_g0 rfl ?_
                refine ev_inV 1 k_MM_344 h_MM_hold rfl rfl rfl rfl rfl ⟨by decide, by decide⟩ rfl ?_
                refine ev_gV6 [] [] rfl ?_
                refine ev_reti rfl ?_
                refine ev_g0 rfl ?_
                refine ev_inV 1 k_MM_357 h_MM_is rfl rfl rfl rfl rfl ⟨by decide, by decide⟩ rfl ?_
                refine ev_gV6 [true, false] [] rfl ?_
                refine ev_retz rfl (by first | decide | exact zb_01 _) ?_
                refine ev_gV6 [false] [] rfl ?_
                refine ev_inV 1 k_MM_357 h_MM_is rfl rfl rfl rfl rfl ⟨by decide, by decide⟩ rfl ?_
                refine ev_gV6 [true, false] [] rfl ?_
                refine ev_retz rfl (by first | decide | exact zb_01 _) ?_
                refine ev_gV6 [true, false, true] [] rfl ?_
                refine ev_inV 1 k_MM_277 h_MM_number rfl rfl rfl rfl rfl ⟨by decide, by decide⟩ rfl ?_
                refine ev_gV6 [] [] rfl ?_
                refine ev_retl rfl ?_
                refine ev_g0 rfl ?_
                refine ev_inV 1 k_MM_277 h_MM_number rfl rfl rfl rfl rfl ⟨by decide, by decide⟩ rfl ?_
                refine ev_gV6 [] [] rfl ?_
                refine ev_retl rfl ?_
                refine ev_g0 rfl ?_
                refine ev_inV 1 k_MM_277 h_MM_number rfl rfl rfl rfl rfl ⟨by decide, by decide⟩ rfl ?_
                refine ev_gV6 [] [] rfl ?_
                refine ev_retl rfl ?_
                refine ev_gV6 [true] [] rfl ?_
                refine ev_inV 1 k_MM_301 h_MM_fails rfl rfl rfl rfl rfl ⟨by decide, by decide⟩ rfl ?_
                refine ev_g0 rfl ?_
                refine ev_ret rfl ?_
                refine ev_g0 rfl ?_
                refine ev_ret rfl ?_
                refine ev_g0 rfl ?_
                refine ev_ret rfl ?_
                exact ⟨rfl, xj, xd, xf, xo, xi, xn, nI 2, rfl, bdd, lf_V6, lf_V6, hC, hM⟩
              · skip
                refine ev_gV6 [true] [] rfl ?_
                refine ev_retz rfl (by first | decide | exact zb_01 _) ?_
                refine ev_gV6 [true] [] rfl ?_
                refine ev_reti rfl ?_
                refine ev_g0 rfl ?_
                refine ev_reti rfl ?_
                refine ct_of h_MM_handles rfl rfl rfl ?_
                refine ev_g0 rfl ?_
                refine ev_inV 1 k_MM_344 h_MM_hold rfl rfl rfl rfl rfl ⟨by decide, by decide⟩ rfl ?_
                refine ev_gV6 [] [] rfl ?_
                refine ev_reti rfl ?_
                refine ev_gV6 [] [some 10] rfl ?_
                refine ev_inV 0 k_MM_380 h_MM_moves rfl rfl rfl rfl rfl ⟨by decide, by decide⟩ rfl ?_
                refine ev_g0 rfl ?_
                refine ev_inV 1 k_MM_344 h_MM_hold rfl rfl rfl rfl rfl ⟨by decide, by decide⟩ rfl ?_
                refine ev_gV6 [] [] rfl ?_
                refine ev_reti rfl ?_
                refine ev_g0 rfl ?_
                refine ev_inV 1 k_MM_344 h_MM_hold rfl rfl rfl rfl rfl ⟨by decide, by decide⟩ rfl ?_
                refine ev_gV6 [] [] rfl ?_
                refine ev_reti rfl ?_
                refine ev_g0 rfl ?_
                refine ev_inV 1 k_MM_357 h_MM_is rfl rfl rfl rfl rfl ⟨by decide, by decide⟩ rfl ?_
                refine ev_gV6 [true, false] [] rfl ?_
                refine ev_retz rfl (by first | decide | exact zb_01 _) ?_
                refine ev_gV6 [false] [] rfl ?_
                refine ev_inV 1 k_MM_357 h_MM_is rfl rfl rfl rfl rfl ⟨by decide, by decide⟩ rfl ?_
                refine ev_gV6 [true, false] [] rfl ?_
                refine ev_retz rfl (by first | decide | exact zb_01 _) ?_
                refine ev_gV6 [true, false, true] [] rfl ?_
                refine ev_inV 1 k_MM_277 h_MM_number rfl rfl rfl rfl rfl ⟨by decide, by decide⟩ rfl ?_
                refine ev_gV6 [] [] rfl ?_
                refine ev_retl rfl ?_
                refine ev_g0 rfl ?_
                refine ev_inV 1 k_MM_277 h_MM_number rfl rfl rfl rfl rfl ⟨by decide, by decide⟩ rfl ?_
                refine ev_gV6 [] [] rfl ?_
                refine ev_retl rfl ?_
                refine ev_g0 rfl ?_
                refine ev_inV 1 k_MM_277 h_MM_number rfl rfl rfl rfl rfl ⟨by decide, by decide⟩ rfl ?_
                refine ev_gV6 [] [] rfl ?_
                refine ev_retl rfl ?_
                refine ev_gV6 [false, true] [] rfl ?_
                refine ev_inV 1 k_MM_301 h_MM_fails rfl rfl rfl rfl rfl ⟨by decide, by decide⟩ rfl ?_
                refine ev_g0 rfl ?_
                refine ev_ret rfl ?_
                refine ev_g0 rfl ?_
                refine ev_ret rfl ?_
                refine ev_g0 rfl ?_
                refine ev_ret rfl ?_
                exact ⟨rfl, xj, xd, xf, xo, xi, xn, nI 2, rfl, bdd, lf_V6, lf_V6, hC, hM⟩
        · skip
          refine ct_of h_HA_perform rfl rfl rfl ?_
          refine ev_gV6 [] [some 34] rfl ?_
          refine ev_inV 1 k_HA_15 h_SD_t rfl rfl rfl rfl rfl ⟨by decide, by decide⟩ rfl ?_
          refine ev_gV6 [] [some (94 + 4 * q)] rfl ?_
          refine ev_reta rfl ?_
          refine ev_g0 rfl ?_
          refine ev_inV 1 k_HA_15 h_SD_t rfl rfl rfl rfl rfl ⟨by decide, by decide⟩ rfl ?_
          refine ev_gV6 [] [some (94 + 4 * u)] rfl ?_
          refine ev_reta rfl ?_
          refine ev_g0 rfl ?_
          refine ev_inS 3 k_HA_41 h_HA_copyItems rfl rfl rfl rfl ⟨by decide, by decide⟩ rfl ?_
          refine ev_gV6 [false, false] [] rfl ?_
          refine ev_reti rfl ?_
          refine ev_g0 rfl ?_
          refine ev_reti rfl ?_
          refine ct_of h_MM_handles rfl rfl rfl ?_
          refine ev_g0 rfl ?_
          refine ev_inV 1 k_MM_344 h_MM_hold rfl rfl rfl rfl rfl ⟨by decide, by decide⟩ rfl ?_
          refine ev_gV6 [] [] rfl ?_
          refine ev_reti rfl ?_
          refine ev_gV6 [] [some 10] rfl ?_
          refine ev_inV 0 k_MM_380 h_MM_moves rfl rfl rfl rfl rfl ⟨by decide, by decide⟩ rfl ?_
          refine ev_g0 rfl ?_
          refine ev_inV 1 k_MM_344 h_MM_hold rfl rfl rfl rfl rfl ⟨by decide, by decide⟩ rfl ?_
          refine ev_gV6 [] [] rfl ?_
          refine ev_reti rfl ?_
          refine ev_g0 rfl ?_
          refine ev_inV 1 k_MM_344 h_MM_hold rfl rfl rfl rfl rfl ⟨by decide, by decide⟩ rfl ?_
          refine ev_gV6 [] [] rfl ?_
          refine ev_reti rfl ?_
          refine ev_g0 rfl ?_
          refine ev_inV 1 k_MM_357 h_MM_is rfl rfl rfl rfl rfl ⟨by decide, by decide⟩ rfl ?_
          refine ev_gV6 [true, false] [] rfl ?_
          refine ev_retz rfl (by first | decide | exact zb_01 _) ?_
          refine ev_gV6 [false] [] rfl ?_
          refine ev_inV 1 k_MM_357 h_MM_is rfl rfl rfl rfl rfl ⟨by decide, by decide⟩ rfl ?_
          refine ev_gV6 [true, false] [] rfl ?_
          refine ev_retz rfl (by first | decide | exact zb_01 _) ?_
          refine ev_gV6 [true, false, false] [] rfl ?_
          refine ev_inV 1 k_MM_301 h_MM_fails rfl rfl rfl rfl rfl ⟨by decide, by decide⟩ rfl ?_
          refine ev_g0 rfl ?_
          refine ev_ret rfl ?_
          refine ev_g0 rfl ?_
          refine ev_ret rfl ?_
          refine ev_g0 rfl ?_
          refine ev_ret rfl ?_
          exact ⟨rfl, xj, xd, xf, xo, xi, xn, nI 4, rfl, bdd, lf_V6, lf_V6, hC, hM⟩
      · skip
        refine ct_of h_HA_perform rfl rfl rfl ?_
        refine ev_gV6 [] [some 34] rfl ?_
        refine ev_inV 1 k_HA_15 h_SD_t rfl rfl rfl rfl rfl ⟨by decide, by decide⟩ rfl ?_
        refine ev_gV6 [] [some (94 + 4 * q)] rfl ?_
        refine ev_reta rfl ?_
        refine ev_g0 rfl ?_
        refine ev_inV 1 k_HA_15 h_SD_t rfl rfl rfl rfl rfl ⟨by decide, by decide⟩ rfl ?_
        refine ev_gV6 [] [some (94 + 4 * u)] rfl ?_
        refine ev_reta rfl ?_
        refine ev_g0 rfl ?_
        refine ev_inS 3 k_HA_41 h_HA_copyItems rfl rfl rfl rfl ⟨by decide, by decide⟩ rfl ?_
        refine ev_gV6 [true] [] rfl ?_
        refine ev_reti rfl ?_
        refine ev_g0 rfl ?_
        refine ev_reti rfl ?_
        refine ct_of h_MM_handles rfl rfl rfl ?_
        refine ev_g0 rfl ?_
        refine ev_inV 1 k_MM_344 h_MM_hold rfl rfl rfl rfl rfl ⟨by decide, by decide⟩ rfl ?_
        refine ev_gV6 [] [] rfl ?_
        refine ev_reti rfl ?_
        refine ev_gV6 [] [some 10] rfl ?_
        refine ev_inV 0 k_MM_380 h_MM_moves rfl rfl rfl rfl rfl ⟨by decide, by decide⟩ rfl ?_
        refine ev_g0 rfl ?_
        refine ev_inV 1 k_MM_344 h_MM_hold rfl rfl rfl rfl rfl ⟨by decide, by decide⟩ rfl ?_
        refine ev_gV6 [] [] rfl ?_
        refine ev_reti rfl ?_
        refine ev_g0 rfl ?_
        refine ev_inV 1 k_MM_344 h_MM_hold rfl rfl rfl rfl rfl ⟨by decide, by decide⟩ rfl ?_
        refine ev_gV6 [] [] rfl ?_
        refine ev_reti rfl ?_
        refine ev_g0 rfl ?_
        refine ev_inV 1 k_MM_357 h_MM_is rfl rfl rfl rfl rfl ⟨by decide, by decide⟩ rfl ?_
        refine ev_gV6 [true, false] [] rfl ?_
        refine ev_retz rfl (by first | decide | exact zb_01 _) ?_
        refine ev_gV6 [false] [] rfl ?_
        refine ev_inV 1 k_MM_357 h_MM_is rfl rfl rfl rfl rfl ⟨by decide, by decide⟩ rfl ?_
        refine ev_gV6 [true, false] [] rfl ?_
        refine ev_retz rfl (by first | decide | exact zb_01 _) ?_
        refine ev_gV6 [true, true] [] rfl ?_
        refine ev_inV 1 k_MM_301 h_MM_fails rfl rfl rfl rfl rfl ⟨by decide, by decide⟩ rfl ?_
        refine ev_g0 rfl ?_
        refine ev_ret rfl ?_
        refine ev_g0 rfl ?_
        refine ev_ret rfl ?_
        refine ev_g0 rfl ?_
        refine ev_ret rfl ?_
        exact ⟨rfl, xj, xd, xf, xo, xi, xn, nI 4, rfl, bdd, lf_V6, lf_V6, hC, hM⟩
