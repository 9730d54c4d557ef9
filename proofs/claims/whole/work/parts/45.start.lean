theorem w_LC7 : Cond.classLink R_law 7 "MachineWitness" ∈ tables_1 := mm_m1 (List.mem_of_getElem? (i := 20) (by decide +kernel))
theorem w_LC10 : Cond.classLink R_law 10 "MachineWitnessModel" ∈ tables_1 := mm_m4 (List.mem_of_getElem? (i := 213) (by decide +kernel))
set_option maxHeartbeats 4000000 in
theorem lw_new {p : Program} {l : Launch} {e : Env} {s : State} {m : MethodId} {below : List Frame} {meth : Method} {c : Code} {b L : Nat} {xs : Nat → Int32} {H : Heap} {locs : List Loc} {cells slots : Nat} {Q : State → Prop} {ls : Array Slot} {pc i0 x1 : Nat} {Γ : mm_C} {st : List Value} {q : vw_C} (C0 : lw_At p s m meth c b L xs) (hA : mm_Aw Γ) (hLw : mm_Lw Γ) (hSw : mm_Sw Γ s) (hR : mm_Rw Γ mu_0 H) (hS : va_S (fun q => s.heap.size ≤ q) s.heap H locs) (hq : mm_cls[x1]? = some q) (hlk : Cond.classLink R_law i0 q.1 ∈ tables_1) (hd : decode code pc = .ok (.new i0, 3)) (hc : cells + 1 ≤ 600000) (hs : slots + q.2.2 ≤ 7302250) (k : ∀ H2 : Heap, mm_Rw Γ (mu_n (x1 + 21) q.2.2) H2 → H2.size = H.size + 1 → (∀ z : Nat, z < H.size → H2[z]? = H[z]?) → va_S (fun q => s.heap.size ≤ q) s.heap H2 locs → W p l e room_1 s m #[Value.ref b] below meth c H2 locs (cells + 1) (slots + q.2.2) Q (F0 m (pc + 3) ls (.ref (mm_ad Γ 6) :: st))) : W p l e room_1 s m #[Value.ref b] below meth c H locs cells slots Q (F0 m pc ls st) := by
  obtain ⟨hx, hb, hr, hml, hown, hts, hX, hbl, hlocks, hgv⟩ := C0
  have hts2 := lw_hts hts
  have htt : ∀ {w : Cond}, w ∈ tables_1 → w.before #[Value.ref b] s = true := fun h => hts _ (List.mem_append_right _ h)
  have hKn := hSw.1 x1 q hq
  have hsz : H.size = mm_ad Γ 6 := hR.2.1
  have h11 := mm_cls_lt hq
  refine W.newcK hx hb hown (htt hlk) (htt (mm_ins_in hq).1) (htt (mm_ins_in hq).2) rfl hd hc hs hKn.2.1 hsz fun H2 kC hkC he hz hoq => ?_
  have hwf : mm_wf (mu_n (x1 + 21) q.2.2) := by
    refine ⟨show 6 ≤ 7 by decide, fun n hn => ?_, fun n => ?_⟩
    · by_cases e : n = 6
      · subst e; exact ⟨Nat.le_refl 6, show 6 < 7 by decide⟩
      · exact absurd (show mm_uk (fun _ => 0) 6 (x1 + 21) n = 0 from mm_uk_ne e) hn
    · by_cases e : n = 6
      · subst e
        show mm_ty (mm_uk (fun _ => 0) 6 (x1 + 21)) (mm_cl (fun _ _ => none) 6 none) 6
        unfold mm_ty
        rw [mm_uk_eq, mm_kc_raw h11]
        exact ⟨fun k b g1 g2 g3 => (by rw [mm_cl_eq] at g3; cases g3), fun g => (by omega)⟩
      · show mm_ty (mm_uk (fun _ => 0) 6 (x1 + 21)) (mm_cl (fun _ _ => none) 6 none) n
        unfold mm_ty
        rw [mm_uk_ne e]
        exact trivial
  refine k H2 ?_ (by rw [hz, hsz]) (fun z hz2 => hoq z (by rw [← hsz]; exact hz2)) ⟨Nat.le_trans hS.1 (by omega), fun z g1 g2 => (hoq z (by rw [← hsz]; exact Nat.lt_of_lt_of_le g1 hS.1)).trans (hS.2.1 z g1 g2), hS.2.2⟩
  refine mm_Rw.new (μ := mu_0) hA hLw hR hwf (fun n hn => mm_uk_ne (f := fun _ => 0) (a := 6) (v := x1 + 21) hn) rfl (fun n hn j => mm_cl_ne (f := fun _ _ => 0) (a := 6) (v := 0) hn j) (fun n hn j => mm_cl_ne (f := fun _ _ => 0) (a := 6) (v := 0) hn j) (fun n hn j => mm_cl_ne (f := fun _ _ => 0) (a := 6) (v := 0) hn j) (fun n hn j => mm_cl_ne (f := fun _ _ => 0) (a := 6) (v := 0) hn j) (fun n hn j => mm_cl_ne (f := fun _ _ => none) (a := 6) (v := none) hn j) (by rw [hz, hsz]) (fun z hz2 => hoq z (by rw [← hsz]; exact hz2)) (mm_ce_obj (c := x1) (by show mm_kc (mm_uk (fun _ => 0) 6 (x1 + 21) 6) = _; rw [mm_uk_eq]; exact mm_kc_raw h11) ?_)
  refine ⟨q, hq, (u_born (mm_cty x1) hts2 (mm_lay_tb hq) hKn hkC he (mm_ty_ok hq)).to (fun k hk => ?_)⟩
  rw [mm_def _ (mm_tc_ok hq k hk).1]
  exact mm_fv_new.symm
theorem rw_0 {Γ : mm_C} {H : Heap} (h : H.size = mm_ad Γ 6) : mm_Rw Γ mu_0 H := ⟨⟨by decide, fun n hn => absurd rfl hn, fun n => trivial⟩, h, fun n => trivial⟩
set_option maxHeartbeats 16000000 in
set_option maxRecDepth 100000 in
theorem law_main {p : Program} {e : Env} {s : State} {m : MethodId} {below : List Frame} {meth : Method} {c : Code} (hR : RR) (hFT : FTT) (l : Launch) {b L : Nat} {xs : Nat → Int32} (hL : L ≤ 3072) (C0 : lw_At p s m meth c b L xs) : W p l e room_1 s m #[Value.ref b] below meth c s.heap [] 0 0 (lw_Z below #[Value.ref b] s) (entryFrame m ([Value.ref b] : List Value).toArray 4) := by
  obtain ⟨hx, hb, hr, hml, hown, hts, hX, hbl, hlocks, hgv⟩ := id C0
  obtain ⟨cl, fl, ar, sa, E⟩ := lw_env C0
  have hl := lv_entry ([.ref b]) (n := 4) (Nat.le_of_ble_eq_true rfl)
  rw [lg_entry_eq]
  generalize (lg_sl ([.ref b]) ++ List.replicate (4 - (lg_sl ([.ref b])).length) Slot.unset).toArray = ls at hl ⊢
  have hl : lv_has ls 4 [(0, .ref b)] := hl
  have hS : va_S (fun q => s.heap.size ≤ q) s.heap s.heap [] := va_S.rf
  refine lw_new (x1 := 9) (q := ("MachineWitness", _, 6)) C0 (gC_Aw E.1) gC_Lw E.2.1 (rw_0 (gC_ad (n := 6) (by decide)).symm) hS rfl w_LC7 d_law_0 (by decide) (by decide) (fun H hRw hz1 ho1 hS => ?_)
  refine lv_dup hx hb d_law_3 rfl ?_
  obtain ⟨r, μC, ⟨rfl, hkC, hnC, hsC, hRC⟩, dC⟩ := C_newC
  have okC : mm_okl (mu_n 30 6).1 [vr 30 6] := mm_okl.c (Or.inr ⟨by decide, by decide, Or.inl rfl⟩) trivial
  have hleC := (dC hRw.1 okC).1
  refine lw_callI C0 (gC_Aw E.1) (fun _ => gC_Lw) E.2.1 E.2.2 hRw (lw_inC (Nat.le_refl _) hRw.1) hS hl.1 k_LW_9 dC okC ⟨by decide, by decide⟩ d_law_4 (Nat.le_of_ble_eq_true rfl) ⟨by rw [hnC]; decide, by show 0 + 6 + (mm_sz μC - 6) ≤ 7302250; omega⟩ (fun H1 locs1 g1 g2 g3 g4 g5 g6 => ?_)
  refine W.widen (k := 100) (n := 5000) (by rw [hnC]; decide) (by show 0 + 6 + (mm_sz μC - 6) ≤ 5000; omega) ?_
  refine lv_astore_n (lv' := [(1, .ref s.heap.size), (0, .ref b)]) hx hb d_law_7 rfl hl (by decide) rfl (fun ls hl => ?_)
  have s1 : H1.size = s.heap.size + 50 := by
    rw [g4.2.1, hnC, gC_ad (by decide)]
  have hEM : mm_Sw (gC cl fl ar sa (s.heap.size + 50)) s := E.2.1
  have hAM : mm_Aw (gC cl fl ar sa (s.heap.size + 50)) := gC_Aw (fun n hn => Nat.lt_of_lt_of_le (E.1 n hn) (by omega))
  refine lw_new (x1 := 10) (q := ("MachineWitnessModel", _, 45)) C0 hAM gC_Lw hEM (rw_0 (by rw [s1, gC_ad (by decide)])) g6 rfl w_LC10 d_law_8 (by decide) (by decide) (fun H2 hRw2 hz2 ho2 hS2 => ?_)
  refine lv_dup hx hb d_law_11 rfl ?_
  obtain ⟨r2, μM, ⟨rfl, hkM, hnM, hsM, hBE⟩, dM⟩ := C_newM
  have okM : mm_okl (mu_n 31 45).1 [vr 31 6] := mm_okl.c (Or.inr ⟨by decide, by decide, Or.inl rfl⟩) trivial
  refine lw_callI C0 hAM (fun _ => gC_Lw) hEM (lw_ZL E) hRw2 (lw_inC (by omega) hRw2.1) hS2 hl.1 k_LW_12 dM okM ⟨by decide, by decide⟩ d_law_12 (Nat.le_of_ble_eq_true rfl) ⟨by rw [hnM]; decide, by show 5000 + 45 + (mm_sz μM - 45) ≤ 7302250; omega⟩ (fun H3 locs3 q1 q2 q3 q4 q5 q6 => ?_)
  have s3 : H3.size = s.heap.size + 88 := by
    rw [q4.2.1, hnM, gC_ad (by decide)]
  refine lv_astore_n (lv' := [(2, .ref (s.heap.size + 50)), (1, .ref s.heap.size), (0, .ref b)]) hx hb d_law_15 rfl hl (by decide) rfl (fun ls hl => ?_)
  refine lv_iconst (v := 0) hx hb d_law_16 (by decide) ?_
  refine lv_istore_n (lv' := [(3, .int 0), (2, .ref (s.heap.size + 50)), (1, .ref s.heap.size), (0, .ref b)]) hx hb d_law_17 rfl hl (by decide) rfl (fun ls hl => ?_)
  obtain ⟨KC, IC, JC, FC, DC, RC', nC, sC⟩ := μC
  have hnC : nC = 56 := hnC
  subst hnC
  have hJ : lw_J s cl fl ar sa (KC, IC, JC, FC, DC, RC', 94, 0) μM H3 := by
    refine ⟨⟨⟨show 6 ≤ 94 by decide, fun n hn => ?_, g4.1.2.2⟩, ?_, fun n => ?_⟩, ⟨q4.1, ?_, fun n => ?_⟩, hnM, Nat.le_refl _, fun n h1 h2 => ?_, hkC, hkM⟩
    · have := g4.1.2.1 n hn
      exact ⟨this.1, Nat.lt_of_lt_of_le this.2 (show 56 ≤ 94 by decide)⟩
    · rw [s3]
      exact (gC_ad (n := 94) (by decide)).symm
    · refine mm_ce.keep (μ := (KC, IC, JC, FC, DC, RC', 56, sC)) (H := H1) rfl (fun _ => rfl) (fun _ => rfl) (fun _ => rfl) (fun _ => rfl) (fun _ => rfl) (fun g0 => ?_) (g4.2.2 n)
      have g := g4.1.2.1 n g0
      have g2 : n < 56 := g.2
      rw [gC_ad g.1]
      have hlt : s.heap.size + (n - 6) < H1.size := by omega
      rw [q5.2 _ (by rw [hz2]; omega) (by
        rintro (⟨k, hk0, e⟩ | hge)
        · have gk := hRw2.1.2.1 k hk0
          rw [gC_ad gk.1] at e; omega
        · rw [gC_ad (by decide)] at hge
          have e7 : mm_nx (mu_n 31 45) = 7 := rfl
          omega), ho2 _ hlt]
    · rw [hnM, gM_a2 (by decide)]
      omega
    · refine ce_reb (Γ := gC cl fl ar sa (s.heap.size + 50)) (Γ' := gM cl fl ar sa s.heap.size H3.size) q4.1 rfl rfl rfl (fun n2 g0 => ?_) (q4.2.2 n)
      have g := q4.1.2.1 n2 g0
      rw [gM_a1 g.1 (by omega), gC_ad g.1]
    · apply Classical.byContradiction
      intro g0
      have g : n < 56 := (g4.1.2.1 n g0).2
      omega
  have hREL : RELS (KC, IC, JC, FC, DC, RC', 94, 0) μM := ⟨_, _, _, _, _, _, _, _, _, hRC, RM_zero hBE, IC_zero, IW_zero⟩
  refine W.widen (k := 94 + 100) (n := 0 + 20000) (by rw [hnM]; decide) (by show 5000 + 45 + (mm_sz μM - 45) ≤ 0 + 20000; omega) ?_
  exact law_loop hR hFT hL C0 E (L + 1) 0 _ μM H3 locs3 ls (Nat.zero_le L) (by omega) hJ hREL q6 (lv_sub hl [3, 2, 1, 0] rfl)
