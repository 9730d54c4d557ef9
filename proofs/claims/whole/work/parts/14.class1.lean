theorem C_SD_n {K : Nat → Nat} {I : Nat → Nat → Int32} {J : Nat → Nat → Int64} {F : Nat → Nat → UInt32} {D : Nat → Nat → UInt64} {R : Nat → Nat → Option Nat} {nx sl : Nat} {s j : Nat} {k : Int32} (hk : k = nI j) (hj : j < 8) : mm_Det Y_SD_n [vr 8 s, vi k] (K, I, J, F, D, R, nx, sl) (some (vl (J (s + 1) j))) (K, I, J, F, D, R, nx, sl) := by
  refine det_of h_SD_n rfl rfl rfl ?_
  refine ev_go [] [] rfl ?_ ?_
  · (repeat' apply And.intro) <;> first | exact trivial | assumption | rfl | decide | omega | (rw [hk, nI_and7 hj]; exact vin hj (by decide))
  refine ev_retl rfl ?_
  exact ⟨by rw [hk, nI_and7 hj, nI_clamp (by omega)], rfl⟩
theorem C_SD_setN {K : Nat → Nat} {I : Nat → Nat → Int32} {J : Nat → Nat → Int64} {F : Nat → Nat → UInt32} {D : Nat → Nat → UInt64} {R : Nat → Nat → Option Nat} {nx sl : Nat} {s j : Nat} {k : Int32} {v : Int64} (hk : k = nI j) (hj : j < 8) : mm_Det Y_SD_setN [vr 8 s, vi k, vl v] (K, I, J, F, D, R, nx, sl) none (K, I, mm_up J (s + 1) j v, F, D, R, nx, sl) := by
  refine det_of h_SD_setN rfl rfl rfl ?_
  refine ev_go [] [] rfl ?_ ?_
  · (repeat' apply And.intro) <;> first | exact trivial | assumption | rfl | decide | omega | (rw [hk, nI_and7 hj]; exact vin hj (by decide))
  refine ev_ret rfl ?_
  exact ⟨rfl, by rw [hk, nI_and7 hj, nI_clamp (by omega)]⟩
theorem C_SD_x {K : Nat → Nat} {I : Nat → Nat → Int32} {J : Nat → Nat → Int64} {F : Nat → Nat → UInt32} {D : Nat → Nat → UInt64} {R : Nat → Nat → Option Nat} {nx sl : Nat} {s j : Nat} {k : Int32} (hk : k = nI j) (hj : j < 4) : mm_Det Y_SD_x [vr 8 s, vi k] (K, I, J, F, D, R, nx, sl) (some (vd (D (s + 2) j))) (K, I, J, F, D, R, nx, sl) := by
  refine det_of h_SD_x rfl rfl rfl ?_
  refine ev_go [] [] rfl ?_ ?_
  · (repeat' apply And.intro) <;> first | exact trivial | assumption | rfl | decide | omega | (rw [hk, nI_and3 hj]; exact vin hj (by decide))
  refine ev_retd rfl ?_
  exact ⟨by rw [hk, nI_and3 hj, nI_clamp (by omega)], rfl⟩
theorem C_SD_setX {K : Nat → Nat} {I : Nat → Nat → Int32} {J : Nat → Nat → Int64} {F : Nat → Nat → UInt32} {D : Nat → Nat → UInt64} {R : Nat → Nat → Option Nat} {nx sl : Nat} {s j : Nat} {k : Int32} {v : UInt64} (hk : k = nI j) (hj : j < 4) : mm_Det Y_SD_setX [vr 8 s, vi k, vd v] (K, I, J, F, D, R, nx, sl) none (K, I, J, F, mm_up D (s + 2) j v, R, nx, sl) := by
  refine det_of h_SD_setX rfl rfl rfl ?_
  refine ev_go [] [] rfl ?_ ?_
  · (repeat' apply And.intro) <;> first | exact trivial | assumption | rfl | decide | omega | (rw [hk, nI_and3 hj]; exact vin hj (by decide))
  refine ev_ret rfl ?_
  exact ⟨rfl, by rw [hk, nI_and3 hj, nI_clamp (by omega)]⟩
theorem C_SD_f {K : Nat → Nat} {I : Nat → Nat → Int32} {J : Nat → Nat → Int64} {F : Nat → Nat → UInt32} {D : Nat → Nat → UInt64} {R : Nat → Nat → Option Nat} {nx sl : Nat} {s j : Nat} {k : Int32} (hk : k = nI j) (hj : j < 4) : mm_Det Y_SD_f [vr 8 s, vi k] (K, I, J, F, D, R, nx, sl) (some (vf (F (s + 3) j))) (K, I, J, F, D, R, nx, sl) := by
  refine det_of h_SD_f rfl rfl rfl ?_
  refine ev_go [] [] rfl ?_ ?_
  · (repeat' apply And.intro) <;> first | exact trivial | assumption | rfl | decide | omega | (rw [hk, nI_and3 hj]; exact vin hj (by decide))
  refine ev_retf rfl ?_
  exact ⟨by rw [hk, nI_and3 hj, nI_clamp (by omega)], rfl⟩
theorem C_SD_setF {K : Nat → Nat} {I : Nat → Nat → Int32} {J : Nat → Nat → Int64} {F : Nat → Nat → UInt32} {D : Nat → Nat → UInt64} {R : Nat → Nat → Option Nat} {nx sl : Nat} {s j : Nat} {k : Int32} {v : UInt32} (hk : k = nI j) (hj : j < 4) : mm_Det Y_SD_setF [vr 8 s, vi k, vf v] (K, I, J, F, D, R, nx, sl) none (K, I, J, mm_up F (s + 3) j v, D, R, nx, sl) := by
  refine det_of h_SD_setF rfl rfl rfl ?_
  refine ev_go [] [] rfl ?_ ?_
  · (repeat' apply And.intro) <;> first | exact trivial | assumption | rfl | decide | omega | (rw [hk, nI_and3 hj]; exact vin hj (by decide))
  refine ev_ret rfl ?_
  exact ⟨rfl, by rw [hk, nI_and3 hj, nI_clamp (by omega)]⟩
theorem C_SD_t_s {K : Nat → Nat} {I : Nat → Nat → Int32} {J : Nat → Nat → Int64} {F : Nat → Nat → UInt32} {D : Nat → Nat → UInt64} {R : Nat → Nat → Option Nat} {nx sl : Nat} {s j q : Nat} {k : Int32} (hk : k = nI j) (hj : j < 8) (hR : R (s + 4) j = some q) : mm_Det Y_SD_t [vr 8 s, vi k] (K, I, J, F, D, R, nx, sl) (some (vr 9 q)) (K, I, J, F, D, R, nx, sl) := by
  refine det_of h_SD_t rfl rfl rfl ?_
  refine ev_go [] [some (q)] rfl ?_ ?_
  · (repeat' apply And.intro) <;> first | exact trivial | assumption | rfl | decide | omega | (rw [hk, nI_and7 hj]; exact vin hj (by decide)) | (rw [hk, nI_and7 hj, nI_clamp (by omega)]; assumption)
  refine ev_reta rfl ?_
  exact ⟨rfl, rfl⟩
theorem C_SD_t_n {K : Nat → Nat} {I : Nat → Nat → Int32} {J : Nat → Nat → Int64} {F : Nat → Nat → UInt32} {D : Nat → Nat → UInt64} {R : Nat → Nat → Option Nat} {nx sl : Nat} {s j : Nat} {k : Int32} (hk : k = nI j) (hj : j < 8) (hR : R (s + 4) j = none) : mm_Det Y_SD_t [vr 8 s, vi k] (K, I, J, F, D, R, nx, sl) (some vn) (K, I, J, F, D, R, nx, sl) := by
  refine det_of h_SD_t rfl rfl rfl ?_
  refine ev_go [] [none] rfl ?_ ?_
  · (repeat' apply And.intro) <;> first | exact trivial | assumption | rfl | decide | omega | (rw [hk, nI_and7 hj]; exact vin hj (by decide)) | (rw [hk, nI_and7 hj, nI_clamp (by omega)]; assumption)
  refine ev_retn rfl ?_
  exact ⟨rfl, rfl⟩
theorem C_SD_setT_s {K : Nat → Nat} {I : Nat → Nat → Int32} {J : Nat → Nat → Int64} {F : Nat → Nat → UInt32} {D : Nat → Nat → UInt64} {R : Nat → Nat → Option Nat} {nx sl : Nat} {s j q : Nat} {k : Int32} (hk : k = nI j) (hj : j < 8) : mm_Det Y_SD_setT [vr 8 s, vi k, vr 9 q] (K, I, J, F, D, R, nx, sl) none (K, I, J, F, D, mm_up R (s + 4) j (some q), nx, sl) := by
  refine det_of h_SD_setT rfl rfl rfl ?_
  refine ev_go [] [] rfl ?_ ?_
  · (repeat' apply And.intro) <;> first | exact trivial | assumption | rfl | decide | omega | (rw [hk, nI_and7 hj]; exact vin hj (by decide)) | (rw [hk, nI_and7 hj, nI_clamp (by omega)]; assumption)
  refine ev_ret rfl ?_
  exact ⟨rfl, by rw [hk, nI_and7 hj, nI_clamp (by omega)]⟩
theorem C_SD_setT_n {K : Nat → Nat} {I : Nat → Nat → Int32} {J : Nat → Nat → Int64} {F : Nat → Nat → UInt32} {D : Nat → Nat → UInt64} {R : Nat → Nat → Option Nat} {nx sl : Nat} {s j : Nat} {k : Int32} (hk : k = nI j) (hj : j < 8) : mm_Det Y_SD_setT [vr 8 s, vi k, vn] (K, I, J, F, D, R, nx, sl) none (K, I, J, F, D, mm_up R (s + 4) j none, nx, sl) := by
  refine det_of h_SD_setT rfl rfl rfl ?_
  refine ev_go [] [] rfl ?_ ?_
  · (repeat' apply And.intro) <;> first | exact trivial | assumption | rfl | decide | omega | (rw [hk, nI_and7 hj]; exact vin hj (by decide)) | (rw [hk, nI_and7 hj, nI_clamp (by omega)]; assumption)
  refine ev_ret rfl ?_
  exact ⟨rfl, by rw [hk, nI_and7 hj, nI_clamp (by omega)]⟩
theorem C_SD_isUW_t {K : Nat → Nat} {I : Nat → Nat → Int32} {J : Nat → Nat → Int64} {F : Nat → Nat → UInt32} {D : Nat → Nat → UInt64} {R : Nat → Nat → Option Nat} {nx sl : Nat} {s d : Nat} (hd : I s 7 = nI d) (h0 : 0 < d) (h8 : d ≤ 8) : mm_Det Y_SD_isUnderWay [vr 8 s] (K, I, J, F, D, R, nx, sl) (some (vi (nI 1))) (K, I, J, F, D, R, nx, sl) := by
  refine det_of h_SD_isUnderWay rfl rfl rfl ?_
  refine ev_go [false] [] rfl ?_ ?_
  · (repeat' apply And.intro) <;> first | exact trivial | assumption | rfl | decide | omega | (rw [hd]; first | assumption | decide | exact n_lt (by omega) (by omega) | exact n_nlt (by omega) (by omega) | exact n_le (by omega) (by omega) | exact n_nle (by omega) (by omega) | exact n_ne (by omega) (by omega) (by omega) | exact n_lt0 (by omega) | exact n_ge0 (by omega) | exact n_gt0 (by omega) (by omega) | exact n_le0 (by omega) (by omega) | exact n_ne0 (by omega) (by omega) | exact n_in (by omega) (by omega)) | (rw [hd, pk_sub h0]; exact n_in (by omega) (by decide)) | (rw [hd, pk_sub h0, n_cl (by omega)]; assumption)
  refine ev_retz rfl (by decide) ?_
  exact ⟨rfl, rfl⟩
theorem C_SD_isUW_f {K : Nat → Nat} {I : Nat → Nat → Int32} {J : Nat → Nat → Int64} {F : Nat → Nat → UInt32} {D : Nat → Nat → UInt64} {R : Nat → Nat → Option Nat} {nx sl : Nat} {s : Nat} (hd : I s 7 = nI 0) : mm_Det Y_SD_isUnderWay [vr 8 s] (K, I, J, F, D, R, nx, sl) (some (vi (nI 0))) (K, I, J, F, D, R, nx, sl) := by
  refine det_of h_SD_isUnderWay rfl rfl rfl ?_
  refine ev_go [true] [] rfl ?_ ?_
  · (repeat' apply And.intro) <;> first | exact trivial | assumption | rfl | decide | omega | (rw [hd]; decide)
  refine ev_retz rfl (by decide) ?_
  exact ⟨rfl, rfl⟩
theorem C_SD_lc_s {K : Nat → Nat} {I : Nat → Nat → Int32} {J : Nat → Nat → Int64} {F : Nat → Nat → UInt32} {D : Nat → Nat → UInt64} {R : Nat → Nat → Option Nat} {nx sl : Nat} {s d q : Nat} (hd : I s 7 = nI d) (h0 : 0 < d) (h8 : d ≤ 8) (hR : R (s + 5) (d - 1) = some q) : mm_Det Y_SD_latestCalled [vr 8 s] (K, I, J, F, D, R, nx, sl) (some (vr 5 q)) (K, I, J, F, D, R, nx, sl) := by
  refine det_of h_SD_latestCalled rfl rfl rfl ?_
  refine ev_go [false, false] [some (q)] rfl ?_ ?_
  · (repeat' apply And.intro) <;> first | exact trivial | assumption | rfl | decide | omega | (rw [hd]; first | assumption | decide | exact n_lt (by omega) (by omega) | exact n_nlt (by omega) (by omega) | exact n_le (by omega) (by omega) | exact n_nle (by omega) (by omega) | exact n_ne (by omega) (by omega) (by omega) | exact n_lt0 (by omega) | exact n_ge0 (by omega) | exact n_gt0 (by omega) (by omega) | exact n_le0 (by omega) (by omega) | exact n_ne0 (by omega) (by omega) | exact n_in (by omega) (by omega)) | (rw [hd, pk_sub h0]; exact n_in (by omega) (by decide)) | (rw [hd, pk_sub h0, n_cl (by omega)]; assumption)
  refine ev_reta rfl ?_
  exact ⟨rfl, rfl⟩
theorem C_SD_lc_n {K : Nat → Nat} {I : Nat → Nat → Int32} {J : Nat → Nat → Int64} {F : Nat → Nat → UInt32} {D : Nat → Nat → UInt64} {R : Nat → Nat → Option Nat} {nx sl : Nat} {s : Nat} (hd : I s 7 = nI 0) : mm_Det Y_SD_latestCalled [vr 8 s] (K, I, J, F, D, R, nx, sl) (some vn) (K, I, J, F, D, R, nx, sl) := by
  refine det_of h_SD_latestCalled rfl rfl rfl ?_
  refine ev_go [true] [] rfl ?_ ?_
  · (repeat' apply And.intro) <;> first | exact trivial | assumption | rfl | decide | omega | (rw [hd]; decide)
  refine ev_retn rfl ?_
  exact ⟨rfl, rfl⟩
theorem C_SD_place {K : Nat → Nat} {I : Nat → Nat → Int32} {J : Nat → Nat → Int64} {F : Nat → Nat → UInt32} {D : Nat → Nat → UInt64} {R : Nat → Nat → Option Nat} {nx sl : Nat} {s d : Nat} (hd : I s 7 = nI d) (h0 : 0 < d) (h8 : d ≤ 8) : mm_Det Y_SD_place [vr 8 s] (K, I, J, F, D, R, nx, sl) (some (vi (I (s + 6) (d - 1)))) (K, I, J, F, D, R, nx, sl) := by
  refine det_of h_SD_place rfl rfl rfl ?_
  refine ev_go [false, false] [] rfl ?_ ?_
  · (repeat' apply And.intro) <;> first | exact trivial | assumption | rfl | decide | omega | (rw [hd]; first | assumption | decide | exact n_lt (by omega) (by omega) | exact n_nlt (by omega) (by omega) | exact n_le (by omega) (by omega) | exact n_nle (by omega) (by omega) | exact n_ne (by omega) (by omega) (by omega) | exact n_lt0 (by omega) | exact n_ge0 (by omega) | exact n_gt0 (by omega) (by omega) | exact n_le0 (by omega) (by omega) | exact n_ne0 (by omega) (by omega) | exact n_in (by omega) (by omega)) | (rw [hd, pk_sub h0]; exact n_in (by omega) (by decide)) | (rw [hd, pk_sub h0, n_cl (by omega)]; assumption)
  refine ev_reti rfl ?_
  exact ⟨by rw [hd, pk_sub h0, nI_clamp (by omega)], rfl⟩
theorem C_SD_place0 {K : Nat → Nat} {I : Nat → Nat → Int32} {J : Nat → Nat → Int64} {F : Nat → Nat → UInt32} {D : Nat → Nat → UInt64} {R : Nat → Nat → Option Nat} {nx sl : Nat} {s : Nat} (hd : I s 7 = nI 0) : mm_Det Y_SD_place [vr 8 s] (K, I, J, F, D, R, nx, sl) (some (vi (nI 0))) (K, I, J, F, D, R, nx, sl) := by
  refine det_of h_SD_place rfl rfl rfl ?_
  refine ev_go [true] [] rfl ?_ ?_
  · (repeat' apply And.intro) <;> first | exact trivial | assumption | rfl | decide | omega | (rw [hd]; decide)
  refine ev_reti rfl ?_
  exact ⟨rfl, rfl⟩
theorem C_SD_goTo {K : Nat → Nat} {I : Nat → Nat → Int32} {J : Nat → Nat → Int64} {F : Nat → Nat → UInt32} {D : Nat → Nat → UInt64} {R : Nat → Nat → Option Nat} {nx sl : Nat} {s d : Nat} {p : Int32} (hd : I s 7 = nI d) (h0 : 0 < d) (h8 : d ≤ 8) : mm_Det Y_SD_goTo [vr 8 s, vi p] (K, I, J, F, D, R, nx, sl) none (K, mm_up I (s + 6) (d - 1) p, J, F, D, R, nx, sl) := by
  refine det_of h_SD_goTo rfl rfl rfl ?_
  refine ev_go [false, false] [] rfl ?_ ?_
  · (repeat' apply And.intro) <;> first | exact trivial | assumption | rfl | decide | omega | (rw [hd]; first | assumption | decide | exact n_lt (by omega) (by omega) | exact n_nlt (by omega) (by omega) | exact n_le (by omega) (by omega) | exact n_nle (by omega) (by omega) | exact n_ne (by omega) (by omega) (by omega) | exact n_lt0 (by omega) | exact n_ge0 (by omega) | exact n_gt0 (by omega) (by omega) | exact n_le0 (by omega) (by omega) | exact n_ne0 (by omega) (by omega) | exact n_in (by omega) (by omega)) | (rw [hd, pk_sub h0]; exact n_in (by omega) (by decide)) | (rw [hd, pk_sub h0, n_cl (by omega)]; assumption)
  refine ev_ret rfl ?_
  exact ⟨rfl, by rw [hd, pk_sub h0, nI_clamp (by omega)]⟩
theorem C_SD_goTo0 {K : Nat → Nat} {I : Nat → Nat → Int32} {J : Nat → Nat → Int64} {F : Nat → Nat → UInt32} {D : Nat → Nat → UInt64} {R : Nat → Nat → Option Nat} {nx sl : Nat} {s : Nat} {p : Int32} (hd : I s 7 = nI 0) : mm_Det Y_SD_goTo [vr 8 s, vi p] (K, I, J, F, D, R, nx, sl) none (K, I, J, F, D, R, nx, sl) := by
  refine det_of h_SD_goTo rfl rfl rfl ?_
  refine ev_go [true] [] rfl ?_ ?_
  · (repeat' apply And.intro) <;> first | exact trivial | assumption | rfl | decide | omega | (rw [hd]; decide)
  refine ev_ret rfl ?_
  exact ⟨rfl, rfl⟩
theorem C_SD_beginTurn {K : Nat → Nat} {I : Nat → Nat → Int32} {J : Nat → Nat → Int64} {F : Nat → Nat → UInt32} {D : Nat → Nat → UInt64} {R : Nat → Nat → Option Nat} {nx sl : Nat} {s : Nat} : mm_Det Y_SD_beginTurn [vr 8 s] (K, I, J, F, D, R, nx, sl) none (K, mm_up I s 10 (nI 0), J, F, D, mm_up R s 14 none, nx, sl) := by
  refine det_of h_SD_beginTurn rfl rfl rfl ?_
  refine ev_go [] [] rfl ?_ ?_
  · (repeat' apply And.intro) <;> first | exact trivial | assumption | rfl | omega | decide
  refine ev_ret rfl ?_
  exact ⟨rfl, rfl⟩
