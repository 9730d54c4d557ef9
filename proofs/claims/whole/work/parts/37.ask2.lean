set_option maxHeartbeats 8000000 in
theorem Q_ring {ci : Nat → Nat → Nat → Int32} {cn : Nat → Nat → Nat → Nat} {co : Nat → Option Nat} {xj : Nat → Nat → Nat → Int64} {xd : Nat → Nat → Nat → UInt64} {xf : Nat → Nat → Nat → UInt32} {xo : Nat → Nat → Nat → Option Nat} {xi : Nat → Nat → Nat → Int32} {xn : Nat → Nat → Nat → Nat} {K : Nat → Nat} {I : Nat → Nat → Int32} {J : Nat → Nat → Int64} {F : Nat → Nat → UInt32} {D : Nat → Nat → UInt64} {R : Nat → Nat → Option Nat} {nx sl : Nat} {Km : Nat → Nat} {Im : Nat → Nat → Int32} {Jm : Nat → Nat → Int64} {Fm : Nat → Nat → UInt32} {Dm : Nat → Nat → UInt64} {Rm : Nat → Nat → Option Nat} {nxm slm : Nat} (hC : RC ci cn co xj xd xf xo xi xn I J F D R nx sl) (hM : RM ci cn co xj xd xf xo xi xn Im Jm Dm) (hI : IC ci cn) (hW : IW cn co) {th : Int32} : Ct Y_MW_ring [vr 10 6, vi th] (K, I, J, F, D, R, nx, sl) (fun r μ1 => Ct Y_MM_ring [vr 11 6, vi th] (Km, Im, Jm, Fm, Dm, Rm, nxm, slm) (fun r2 μ2 => r = r2 ∧ RELS μ1 μ2)) := by
  have ym := rc_imad hC
  rcases icc th 3 (by decide) with ⟨t, ht, rfl⟩ | hth
  · skip
    rcases w0 : co t with _ | q0
    · skip
      refine ct_of h_MW_ring rfl rfl rfl ?_
      refine ev_g0 rfl ?_
      refine ev_inV 1 k_MW_95 h_MW_strandAt rfl rfl rfl rfl rfl ⟨by decide, by decide⟩ rfl ?_
      refine ev_gW2 [false, false] [some (32 + 7 * t)] rfl ?_
      refine ev_reta rfl ?_
      refine ev_gW2 [false, false] [none] rfl ?_
      refine ev_reti rfl ?_
      refine ct_of h_MM_ring rfl rfl rfl ?_
      refine ev_g0 rfl ?_
      refine ev_inS 3 k_MM_188 h_MM_in rfl rfl rfl rfl ⟨by decide, by decide⟩ rfl ?_
      refine ev_gW2 [false, false] [] rfl ?_
      refine ev_retz rfl (by first | decide | exact zb_01 _) ?_
      refine ev_gW2 [true, false, false, false] [] rfl ?_
      refine ev_reti rfl ?_
      exact ⟨lf_W2, ci, cn, co, xj, xd, xf, xo, xi, xn, hC, hM, hI, hW⟩
    · skip
      have hq0 := rc_iwan hC ht _ w0
      rcases o0 : xo 4 q0 0 with _ | u1
      · skip
        refine ct_of h_MW_ring rfl rfl rfl ?_
        refine ev_g0 rfl ?_
        refine ev_inV 1 k_MW_95 h_MW_strandAt rfl rfl rfl rfl rfl ⟨by decide, by decide⟩ rfl ?_
        refine ev_gW2 [false, false] [some (32 + 7 * t)] rfl ?_
        refine ev_reta rfl ?_
        refine ev_gW2 [false] [some (94 + 4 * q0), some (94 + 4 * q0)] rfl ?_
        refine ev_inV 1 k_MW_95 h_MW_strandAt rfl rfl rfl rfl rfl ⟨by decide, by decide⟩ rfl ?_
        refine ev_gW2 [true] [] rfl ?_
        refine ev_retn rfl ?_
        refine ev_gW2 [false] [] rfl ?_
        refine ev_reti rfl ?_
        refine ct_of h_MM_ring rfl rfl rfl ?_
        refine ev_g0 rfl ?_
        refine ev_inS 3 k_MM_188 h_MM_in rfl rfl rfl rfl ⟨by decide, by decide⟩ rfl ?_
        refine ev_gW2 [false, false] [] rfl ?_
        refine ev_retz rfl (by first | decide | exact zb_01 _) ?_
        refine ev_gW2 [true, false, true, false] [] rfl ?_
        refine ev_reti rfl ?_
        exact ⟨lf_W2, ci, cn, co, xj, xd, xf, xo, xi, xn, hC, hM, hI, hW⟩
      · skip
        have hu1 := rc_iown hC hq0 _ o0
        by_cases e0 : u1 = t
        · skip
          refine ct_of h_MW_ring rfl rfl rfl ?_
          refine ev_g0 rfl ?_
          refine ev_inV 1 k_MW_95 h_MW_strandAt rfl rfl rfl rfl rfl ⟨by decide, by decide⟩ rfl ?_
          refine ev_gW2 [false, false] [some (32 + 7 * t)] rfl ?_
          refine ev_reta rfl ?_
          refine ev_gW2 [false] [some (94 + 4 * q0), some (94 + 4 * q0)] rfl ?_
          refine ev_inV 1 k_MW_95 h_MW_strandAt rfl rfl rfl rfl rfl ⟨by decide, by decide⟩ rfl ?_
          refine ev_gW2 [false, false] [some (32 + 7 * u1)] rfl ?_
          refine ev_reta rfl ?_
          refine ev_gW2 [false] [] rfl ?_
          refine ev_reti rfl ?_
          refine ct_of h_MM_ring rfl rfl rfl ?_
          refine ev_g0 rfl ?_
          refine ev_inS 3 k_MM_188 h_MM_in rfl rfl rfl rfl ⟨by decide, by decide⟩ rfl ?_
          refine ev_gW2 [false, false] [] rfl ?_
          refine ev_retz rfl (by first | decide | exact zb_01 _) ?_
          refine ev_gW2 [true, false, true, true, false] [] rfl ?_
          refine ev_reti rfl ?_
          exact ⟨lf_W2, ci, cn, co, xj, xd, xf, xo, xi, xn, hC, hM, hI, hW⟩
        · skip
          rcases w1 : co u1 with _ | q1
          · skip
            refine ct_of h_MW_ring rfl rfl rfl ?_
            refine ev_g0 rfl ?_
            refine ev_inV 1 k_MW_95 h_MW_strandAt rfl rfl rfl rfl rfl ⟨by decide, by decide⟩ rfl ?_
            refine ev_gW2 [false, false] [some (32 + 7 * t)] rfl ?_
            refine ev_reta rfl ?_
            refine ev_gW2 [false] [some (94 + 4 * q0), some (94 + 4 * q0)] rfl ?_
            refine ev_inV 1 k_MW_95 h_MW_strandAt rfl rfl rfl rfl rfl ⟨by decide, by decide⟩ rfl ?_
            refine ev_gW2 [false, false] [some (32 + 7 * u1)] rfl ?_
            refine ev_reta rfl ?_
            refine ev_gW2 [true, false, false] [none] rfl ?_
            refine ev_reti rfl ?_
            refine ct_of h_MM_ring rfl rfl rfl ?_
            refine ev_g0 rfl ?_
            refine ev_inS 3 k_MM_188 h_MM_in rfl rfl rfl rfl ⟨by decide, by decide⟩ rfl ?_
            refine ev_gW2 [false, false] [] rfl ?_
            refine ev_retz rfl (by first | decide | exact zb_01 _) ?_
            refine ev_gW2 [true, false, true, true, true, false, false, false] [] rfl ?_
            refine ev_reti rfl ?_
            exact ⟨lf_W2, ci, cn, co, xj, xd, xf, xo, xi, xn, hC, hM, hI, hW⟩
          · skip
            have hq1 := rc_iwan hC hu1 _ w1
            rcases o1 : xo 4 q1 0 with _ | u2
            · skip
              refine ct_of h_MW_ring rfl rfl rfl ?_
              refine ev_g0 rfl ?_
              refine ev_inV 1 k_MW_95 h_MW_strandAt rfl rfl rfl rfl rfl ⟨by decide, by decide⟩ rfl ?_
              refine ev_gW2 [false, false] [some (32 + 7 * t)] rfl ?_
              refine ev_reta rfl ?_
              refine ev_gW2 [false] [some (94 + 4 * q0), some (94 + 4 * q0)] rfl ?_
              refine ev_inV 1 k_MW_95 h_MW_strandAt rfl rfl rfl rfl rfl ⟨by decide, by decide⟩ rfl ?_
              refine ev_gW2 [false, false] [some (32 + 7 * u1)] rfl ?_
              refine ev_reta rfl ?_
              refine ev_gW2 [true, false] [some (94 + 4 * q1), some (94 + 4 * q1)] rfl ?_
              refine ev_inV 1 k_MW_95 h_MW_strandAt rfl rfl rfl rfl rfl ⟨by decide, by decide⟩ rfl ?_
              refine ev_gW2 [true] [] rfl ?_
              refine ev_retn rfl ?_
              refine ev_gW2 [false] [] rfl ?_
              refine ev_reti rfl ?_
              refine ct_of h_MM_ring rfl rfl rfl ?_
              refine ev_g0 rfl ?_
              refine ev_inS 3 k_MM_188 h_MM_in rfl rfl rfl rfl ⟨by decide, by decide⟩ rfl ?_
              refine ev_gW2 [false, false] [] rfl ?_
              refine ev_retz rfl (by first | decide | exact zb_01 _) ?_
              refine ev_gW2 [true, false, true, true, true, false, true, false] [] rfl ?_
              refine ev_reti rfl ?_
              exact ⟨lf_W2, ci, cn, co, xj, xd, xf, xo, xi, xn, hC, hM, hI, hW⟩
            · skip
              have hu2 := rc_iown hC hq1 _ o1
              by_cases e1 : u2 = t
              · skip
                refine ct_of h_MW_ring rfl rfl rfl ?_
                refine ev_g0 rfl ?_
                refine ev_inV 1 k_MW_95 h_MW_strandAt rfl rfl rfl rfl rfl ⟨by decide, by decide⟩ rfl ?_
                refine ev_gW2 [false, false] [some (32 + 7 * t)] rfl ?_
                refine ev_reta rfl ?_
                refine ev_gW2 [false] [some (94 + 4 * q0), some (94 + 4 * q0)] rfl ?_
                refine ev_inV 1 k_MW_95 h_MW_strandAt rfl rfl rfl rfl rfl ⟨by decide, by decide⟩ rfl ?_
                refine ev_gW2 [false, false] [some (32 + 7 * u1)] rfl ?_
                refine ev_reta rfl ?_
                refine ev_gW2 [true, false] [some (94 + 4 * q1), some (94 + 4 * q1)] rfl ?_
                refine ev_inV 1 k_MW_95 h_MW_strandAt rfl rfl rfl rfl rfl ⟨by decide, by decide⟩ rfl ?_
                refine ev_gW2 [false, false] [some (32 + 7 * u2)] rfl ?_
                refine ev_reta rfl ?_
                refine ev_gW2 [false] [] rfl ?_
                refine ev_reti rfl ?_
                refine ct_of h_MM_ring rfl rfl rfl ?_
                refine ev_g0 rfl ?_
                refine ev_inS 3 k_MM_188 h_MM_in rfl rfl rfl rfl ⟨by decide, by decide⟩ rfl ?_
                refine ev_gW2 [false, false] [] rfl ?_
                refine ev_retz rfl (by first | decide | exact zb_01 _) ?_
                refine ev_gW2 [true, false, true, true, true, false, true, true, false] [] rfl ?_
                refine ev_reti rfl ?_
                exact ⟨lf_W2, ci, cn, co, xj, xd, xf, xo, xi, xn, hC, hM, hI, hW⟩
              · skip
                rcases w2 : co u2 with _ | q2
                · skip
                  refine ct_of h_MW_ring rfl rfl rfl ?_
                  refine ev_g0 rfl ?_
                  refine ev_inV 1 k_MW_95 h_MW_strandAt rfl rfl rfl rfl rfl ⟨by decide, by decide⟩ rfl ?_
                  refine ev_gW2 [false, false] [some (32 + 7 * t)] rfl ?_
                  refine ev_reta rfl ?_
                  refine ev_gW2 [false] [some (94 + 4 * q0), some (94 + 4 * q0)] rfl ?_
                  refine ev_inV 1 k_MW_95 h_MW_strandAt rfl rfl rfl rfl rfl ⟨by decide, by decide⟩ rfl ?_
                  refine ev_gW2 [false, false] [some (32 + 7 * u1)] rfl ?_
                  refine ev_reta rfl ?_
                  refine ev_gW2 [true, false] [some (94 + 4 * q1), some (94 + 4 * q1)] rfl ?_
                  refine ev_inV 1 k_MW_95 h_MW_strandAt rfl rfl rfl rfl rfl ⟨by decide, by decide⟩ rfl ?_
                  refine ev_gW2 [false, false] [some (32 + 7 * u2)] rfl ?_
                  refine ev_reta rfl ?_
                  refine ev_gW2 [true, false, true] [none] rfl ?_
                  refine ev_reti rfl ?_
                  refine ct_of h_MM_ring rfl rfl rfl ?_
                  refine ev_g0 rfl ?_
                  refine ev_inS 3 k_MM_188 h_MM_in rfl rfl rfl rfl ⟨by decide, by decide⟩ rfl ?_
                  refine ev_gW2 [false, false] [] rfl ?_
                  refine ev_retz rfl (by first | decide | exact zb_01 _) ?_
                  refine ev_gW2 [true, false, true, true, true, false, true, true, true, false, false, false] [] rfl ?_
                  refine ev_reti rfl ?_
                  exact ⟨lf_W2, ci, cn, co, xj, xd, xf, xo, xi, xn, hC, hM, hI, hW⟩
                · skip
                  have hq2 := rc_iwan hC hu2 _ w2
                  rcases o2 : xo 4 q2 0 with _ | u3
                  · skip
                    refine ct_of h_MW_ring rfl rfl rfl ?_
                    refine ev_g0 rfl ?_
                    refine ev_inV 1 k_MW_95 h_MW_strandAt rfl rfl rfl rfl rfl ⟨by decide, by decide⟩ rfl ?_
                    refine ev_gW2 [false, false] [some (32 + 7 * t)] rfl ?_
                    refine ev_reta rfl ?_
                    refine ev_gW2 [false] [some (94 + 4 * q0), some (94 + 4 * q0)] rfl ?_
                    refine ev_inV 1 k_MW_95 h_MW_strandAt rfl rfl rfl rfl rfl ⟨by decide, by decide⟩ rfl ?_
                    refine ev_gW2 [false, false] [some (32 + 7 * u1)] rfl ?_
                    refine ev_reta rfl ?_
                    refine ev_gW2 [true, false] [some (94 + 4 * q1), some (94 + 4 * q1)] rfl ?_
                    refine ev_inV 1 k_MW_95 h_MW_strandAt rfl rfl rfl rfl rfl ⟨by decide, by decide⟩ rfl ?_
                    refine ev_gW2 [false, false] [some (32 + 7 * u2)] rfl ?_
                    refine ev_reta rfl ?_
                    refine ev_gW2 [true, false] [some (94 + 4 * q2), some (94 + 4 * q2)] rfl ?_
                    refine ev_inV 1 k_MW_95 h_MW_strandAt rfl rfl rfl rfl rfl ⟨by decide, by decide⟩ rfl ?_
                    refine ev_gW2 [true] [] rfl ?_
                    refine ev_retn rfl ?_
                    refine ev_gW2 [true] [] rfl ?_
                    refine ev_reti rfl ?_
                    refine ct_of h_MM_ring rfl rfl rfl ?_
                    refine ev_g0 rfl ?_
                    refine ev_inS 3 k_MM_188 h_MM_in rfl rfl rfl rfl ⟨by decide, by decide⟩ rfl ?_
                    refine ev_gW2 [false, false] [] rfl ?_
                    refine ev_retz rfl (by first | decide | exact zb_01 _) ?_
                    refine ev_gW2 [true, false, true, true, true, false, true, true, true, false, true, false] [] rfl ?_
                    refine ev_reti rfl ?_
                    exact ⟨lf_W2, ci, cn, co, xj, xd, xf, xo, xi, xn, hC, hM, hI, hW⟩
                  · skip
                    have hu3 := rc_iown hC hq2 _ o2
                    by_cases e2 : u3 = t
                    · skip
                      refine ct_of h_MW_ring rfl rfl rfl ?_
                      refine ev_g0 rfl ?_
                      refine ev_inV 1 k_MW_95 h_MW_strandAt rfl rfl rfl rfl rfl ⟨by decide, by decide⟩ rfl ?_
                      refine ev_gW2 [false, false] [some (32 + 7 * t)] rfl ?_
                      refine ev_reta rfl ?_
                      refine ev_gW2 [false] [some (94 + 4 * q0), some (94 + 4 * q0)] rfl ?_
                      refine ev_inV 1 k_MW_95 h_MW_strandAt rfl rfl rfl rfl rfl ⟨by decide, by decide⟩ rfl ?_
                      refine ev_gW2 [false, false] [some (32 + 7 * u1)] rfl ?_
                      refine ev_reta rfl ?_
                      refine ev_gW2 [true, false] [some (94 + 4 * q1), some (94 + 4 * q1)] rfl ?_
                      refine ev_inV 1 k_MW_95 h_MW_strandAt rfl rfl rfl rfl rfl ⟨by decide, by decide⟩ rfl ?_
                      refine ev_gW2 [false, false] [some (32 + 7 * u2)] rfl ?_
                      refine ev_reta rfl ?_
                      refine ev_gW2 [true, false] [some (94 + 4 * q2), some (94 + 4 * q2)] rfl ?_
                      refine ev_inV 1 k_MW_95 h_MW_strandAt rfl rfl rfl rfl rfl ⟨by decide, by decide⟩ rfl ?_
                      refine ev_gW2 [false, false] [some (32 + 7 * u3)] rfl ?_
                      refine ev_reta rfl ?_
                      refine ev_gW2 [false] [] rfl ?_
                      refine ev_reti rfl ?_
                      refine ct_of h_MM_ring rfl rfl rfl ?_
                      refine ev_g0 rfl ?_
                      refine ev_inS 3 k_MM_188 h_MM_in rfl rfl rfl rfl ⟨by decide, by decide⟩ rfl ?_
                      refine ev_gW2 [false, false] [] rfl ?_
                      refine ev_retz rfl (by first | decide | exact zb_01 _) ?_
                      refine ev_gW2 [true, false, true, true, true, false, true, true, true, false, true, true, false] [] rfl ?_
                      refine ev_reti rfl ?_
                      exact ⟨lf_W2, ci, cn, co, xj, xd, xf, xo, xi, xn, hC, hM, hI, hW⟩
                    · skip
                      refine ct_of h_MW_ring rfl rfl rfl ?_
                      refine ev_g0 rfl ?_
                      refine ev_inV 1 k_MW_95 h_MW_strandAt rfl rfl rfl rfl rfl ⟨by decide, by decide⟩ rfl ?_
                      refine ev_gW2 [false, false] [some (32 + 7 * t)] rfl ?_
                      refine ev_reta rfl ?_
                      refine ev_gW2 [false] [some (94 + 4 * q0), some (94 + 4 * q0)] rfl ?_
                      refine ev_inV 1 k_MW_95 h_MW_strandAt rfl rfl rfl rfl rfl ⟨by decide, by decide⟩ rfl ?_
                      refine ev_gW2 [false, false] [some (32 + 7 * u1)] rfl ?_
                      refine ev_reta rfl ?_
                      refine ev_gW2 [true, false] [some (94 + 4 * q1), some (94 + 4 * q1)] rfl ?_
                      refine ev_inV 1 k_MW_95 h_MW_strandAt rfl rfl rfl rfl rfl ⟨by decide, by decide⟩ rfl ?_
                      refine ev_gW2 [false, false] [some (32 + 7 * u2)] rfl ?_
                      refine ev_reta rfl ?_
                      refine ev_gW2 [true, false] [some (94 + 4 * q2), some (94 + 4 * q2)] rfl ?_
                      refine ev_inV 1 k_MW_95 h_MW_strandAt rfl rfl rfl rfl rfl ⟨by decide, by decide⟩ rfl ?_
                      refine ev_gW2 [false, false] [some (32 + 7 * u3)] rfl ?_
                      refine ev_reta rfl ?_
                      refine ev_gW2 [true, true] [] rfl ?_
                      refine ev_reti rfl ?_
                      refine ct_of h_MM_ring rfl rfl rfl ?_
                      refine ev_g0 rfl ?_
                      refine ev_inS 3 k_MM_188 h_MM_in rfl rfl rfl rfl ⟨by decide, by decide⟩ rfl ?_
                      refine ev_gW2 [false, false] [] rfl ?_
                      refine ev_retz rfl (by first | decide | exact zb_01 _) ?_
                      refine ev_gW2 [true, false, true, true, true, false, true, true, true, false, true, true, true, true] [] rfl ?_
                      refine ev_reti rfl ?_
                      exact ⟨lf_W2, ci, cn, co, xj, xd, xf, xo, xi, xn, hC, hM, hI, hW⟩
  · skip
    refine ct_of h_MW_ring rfl rfl rfl ?_
    refine ev_g0 rfl ?_
    refine ev_inV 1 k_MW_95 h_MW_strandAt rfl rfl rfl rfl rfl ⟨by decide, by decide⟩ rfl ?_
    refine ev_g0 rfl ?_
    refine ev_bW2 rfl rfl (fun h_1 => ?_) (fun h_1 => ?_)
    · skip
      refine ev_g0 rfl ?_
      refine ev_retn rfl ?_
      refine ev_g0 rfl ?_
      refine ev_reti rfl ?_
      refine ct_of h_MM_ring rfl rfl rfl ?_
      refine ev_g0 rfl ?_
      refine ev_inS 3 k_MM_188 h_MM_in rfl rfl rfl rfl ⟨by decide, by decide⟩ rfl ?_
      refine ev_gW2 [true] [] rfl ?_
      refine ev_retz rfl (by first | decide | exact zb_01 _) ?_
      refine ev_gW2 [false] [] rfl ?_
      refine ev_reti rfl ?_
      exact ⟨lf_W2, ci, cn, co, xj, xd, xf, xo, xi, xn, hC, hM, hI, hW⟩
    · skip
      refine ev_gW2 [true] [] rfl ?_
      refine ev_retn rfl ?_
      refine ev_g0 rfl ?_
      refine ev_reti rfl ?_
      refine ct_of h_MM_ring rfl rfl rfl ?_
      refine ev_g0 rfl ?_
      refine ev_inS 3 k_MM_188 h_MM_in rfl rfl rfl rfl ⟨by decide, by decide⟩ rfl ?_
      refine ev_gW2 [false, true] [] rfl ?_
      refine ev_retz rfl (by first | decide | exact zb_01 _) ?_
      refine ev_gW2 [false] [] rfl ?_
      refine ev_reti rfl ?_
      exact ⟨lf_W2, ci, cn, co, xj, xd, xf, xo, xi, xn, hC, hM, hI, hW⟩
