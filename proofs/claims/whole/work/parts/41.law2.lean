def gC (cl : Nat → ClassId) (fl : Nat → Nat → Nat) (ar : Nat → ClassId) (sa : Nat → Nat) (h0 : Nat) : mm_C := (cl, fl, ar, fun n => if n < 6 then sa n else h0 + (n - 6), 0)
def gM (cl : Nat → ClassId) (fl : Nat → Nat → Nat) (ar : Nat → ClassId) (sa : Nat → Nat) (h0 hs : Nat) : mm_C := (cl, fl, ar, fun n => if n < 6 then sa n else if n < 44 then h0 + 50 + (n - 6) else hs + (n - 44), 0)
section
variable {cl : Nat → ClassId} {fl : Nat → Nat → Nat} {ar : Nat → ClassId} {sa : Nat → Nat} {h0 hs n : Nat}
theorem gC_ad (h : 6 ≤ n) : mm_ad (gC cl fl ar sa h0) n = h0 + (n - 6) := if_neg (by omega)
theorem gC_st (h : n < 6) : mm_ad (gC cl fl ar sa h0) n = sa n := if_pos h
theorem gM_a1 (h : 6 ≤ n) (h2 : n < 44) : mm_ad (gM cl fl ar sa h0 hs) n = h0 + 50 + (n - 6) := (if_neg (by omega)).trans (if_pos h2)
theorem gM_a2 (h : 44 ≤ n) : mm_ad (gM cl fl ar sa h0 hs) n = hs + (n - 44) := (if_neg (by omega)).trans (if_neg (by omega))
theorem gM_st (h : n < 6) : mm_ad (gM cl fl ar sa h0 hs) n = sa n := if_pos h
theorem gC_Aw (h : ∀ n, n < 6 → sa n < h0) : mm_Aw (gC cl fl ar sa h0) := by
  refine ⟨fun n m h1 h2 => ?_, fun n h1 => ?_⟩
  · rw [gC_ad h1, gC_ad (by omega)]; omega
  · rw [gC_st h1, gC_ad (by omega)]
    have := h n h1
    omega
theorem gC_Lw : mm_Lw (gC cl fl ar sa h0) := by
  intro n h1
  rw [gC_ad h1, gC_ad (by omega)]
  omega
theorem gM_Aw (h : ∀ n, n < 6 → sa n < h0) (h8 : h0 + 88 ≤ hs) : mm_Aw (gM cl fl ar sa h0 hs) := by
  refine ⟨fun n m h1 h2 => ?_, fun n h1 => ?_⟩
  · by_cases e1 : n < 44
    · rw [gM_a1 h1 e1]
      by_cases e2 : m < 44
      · rw [gM_a1 (by omega) e2]; omega
      · rw [gM_a2 (by omega)]; omega
    · rw [gM_a2 (by omega), gM_a2 (by omega)]; omega
  · rw [gM_st h1, gM_a1 (by omega) (by omega)]
    have := h n h1
    omega
end
theorem sn6 {j : Nat} {n : String} (h : mm_sn[j]? = some n) : j < 6 := by
  have := (List.getElem?_eq_some_iff.mp h).1
  have e : mm_sn.length = 6 := by decide
  omega
def lw_E (s : State) (cl : Nat → ClassId) (fl : Nat → Nat → Nat) (ar : Nat → ClassId) (sa : Nat → Nat) : Prop := (∀ n, n < 6 → sa n < s.heap.size) ∧ mm_Sw (gC cl fl ar sa s.heap.size) s ∧ mm_Zw (gC cl fl ar sa s.heap.size) (fun q => s.heap.size ≤ q) s s.heap
theorem lw_ZM {s : State} {cl : Nat → ClassId} {fl : Nat → Nat → Nat} {ar : Nat → ClassId} {sa : Nat → Nat} {hs : Nat} (E : lw_E s cl fl ar sa) : mm_Zw (gM cl fl ar sa s.heap.size hs) (fun q => s.heap.size ≤ q) s s.heap := fun j n hj => by
  have h := E.2.2 j n hj
  rw [gC_st (sn6 hj)] at h
  rw [gM_st (sn6 hj)]
  exact h
theorem lw_ZL {s : State} {cl : Nat → ClassId} {fl : Nat → Nat → Nat} {ar : Nat → ClassId} {sa : Nat → Nat} {h1 : Nat} (E : lw_E s cl fl ar sa) : mm_Zw (gC cl fl ar sa h1) (fun q => s.heap.size ≤ q) s s.heap := fun j n hj => by
  have h := E.2.2 j n hj
  rw [gC_st (sn6 hj)] at h
  rw [gC_st (sn6 hj)]
  exact h
theorem lw_ft6 : ((List.range 11).all fun c => match mm_cls[c]? with
  | some q => (List.range q.2.2).all fun k => Nat.ble (mm_ft c k).1 6
  | none => true) = true := by decide +kernel
theorem ft_le {c k : Nat} {q : vw_C} (hq : mm_cls[c]? = some q) (hk : k < q.2.2) : (mm_ft c k).1 ≤ 6 := by
  have h := List.all_eq_true.mp lw_ft6 c (List.mem_range.mpr (mm_cls_lt hq))
  rw [hq] at h
  exact Nat.le_of_ble_eq_true (List.all_eq_true.mp h k (List.mem_range.mpr hk))
/-- a context whose addresses of what is there are the same -/
theorem ce_reb {Γ Γ' : mm_C} {μ : mm_M} {H : Heap} (hw : mm_wf μ) (h1 : Γ'.1 = Γ.1) (h2 : Γ'.2.1 = Γ.2.1) (h3 : Γ'.2.2.1 = Γ.2.2.1) (ha : ∀ n, μ.1 n ≠ 0 → mm_ad Γ' n = mm_ad Γ n) {n : Nat} (h : mm_ce Γ μ H n) : mm_ce Γ' μ H n := by
  by_cases h0 : μ.1 n = 0
  · unfold mm_ce
    rw [h0]
    exact trivial
  · have ht := hw.2.2 n
    unfold mm_ty at ht
    unfold mm_ce at h ⊢
    cases hc : mm_kc (μ.1 n) with
    | some c =>
      rw [hc] at h ht
      dsimp only at h ht ⊢
      obtain ⟨q, hq, hob⟩ := h
      refine ⟨q, hq, ?_⟩
      rw [ha n h0, h1, h2]
      refine hob.to (fun k hk => ?_)
      have h6 := ft_le hq hk
      unfold mm_fv
      split
      · rfl
      · rfl
      · rfl
      · rfl
      · next g0 g1 g2 g3 =>
        cases hR : μ.2.2.2.2.2.1 n k with
        | none => rfl
        | some bb =>
          have h4 : 4 ≤ (mm_ft c k).1 := by
            rcases Nat.lt_or_ge (mm_ft c k).1 4 with z | z
            · exfalso
              rcases (by omega : (mm_ft c k).1 = 0 ∨ (mm_ft c k).1 = 1 ∨ (mm_ft c k).1 = 2 ∨ (mm_ft c k).1 = 3) with z | z | z | z
              · exact g0 z
              · exact g1 z
              · exact g2 z
              · exact g3 z
            · exact z
          have hb := ht.1 k bb h4 h6 hR
          show va_rf (some (mm_ad Γ bb)) = va_rf (some (mm_ad Γ' bb))
          rw [ha bb (by rw [hb]; exact mm_ft_ne c k h4 h6)]
    | none =>
      rw [hc] at h ht
      dsimp only at h ht ⊢
      cases hz : mm_ka (μ.1 n) with
      | none => exact trivial
      | some z =>
        rw [hz] at h ht
        dsimp only at h ht ⊢
        rw [ha n h0, h3, h]
        refine congrArg some ?_
        unfold mm_ac
        split
        · rfl
        · rfl
        · rfl
        · rfl
        · rfl
        · next g0 g1 g2 g3 g4 =>
          have h5 : 5 ≤ z.1 := by
            rcases Nat.lt_or_ge z.1 5 with y | y
            · exfalso
              rcases (by omega : z.1 = 0 ∨ z.1 = 1 ∨ z.1 = 2 ∨ z.1 = 3 ∨ z.1 = 4) with y | y | y | y | y
              · exact g0 y
              · exact g1 y
              · exact g2 y
              · exact g3 y
              · exact g4 y
            · exact y
          have hh := ht h5
          refine congrArg (fun f => arrV _ _ f) (funext fun j => ?_)
          cases hR : μ.2.2.2.2.2.1 n j with
          | none => rfl
          | some bb =>
            show va_rf (some (mm_ad Γ bb)) = va_rf (some (mm_ad Γ' bb))
            rw [ha bb (by rw [hh j bb hR]; exact mm_ek_ne hz h5)]
def lw_J (s : State) (cl : Nat → ClassId) (fl : Nat → Nat → Nat) (ar : Nat → ClassId) (sa : Nat → Nat) (μ μm : mm_M) (H : Heap) : Prop := mm_Rw (gC cl fl ar sa s.heap.size) μ H ∧ mm_Rw (gM cl fl ar sa s.heap.size H.size) μm H ∧ mm_nx μm = 44 ∧ 94 ≤ mm_nx μ ∧ (∀ n, 56 ≤ n → n < 94 → μ.1 n = 0) ∧ μ.1 6 = 10 ∧ μm.1 6 = 11
theorem lw_88 {s : State} {cl : Nat → ClassId} {fl : Nat → Nat → Nat} {ar : Nat → ClassId} {sa : Nat → Nat} {μ μm : mm_M} {H : Heap} (h : lw_J s cl fl ar sa μ μm H) : s.heap.size + 88 ≤ H.size := by
  rw [h.1.2.1, gC_ad (by have := h.2.2.2.1; omega)]
  have := h.2.2.2.1
  omega
theorem lw_inC {s : State} {cl : Nat → ClassId} {fl : Nat → Nat → Nat} {ar : Nat → ClassId} {sa : Nat → Nat} {μ : mm_M} {h1 : Nat} (hh : s.heap.size ≤ h1) (hw : mm_wf μ) : ∀ q, mm_A (gC cl fl ar sa h1) μ q → s.heap.size ≤ q := by
  rintro q (⟨n, hn, rfl⟩ | h)
  · rw [gC_ad (hw.2.1 n hn).1]; omega
  · rw [gC_ad hw.1] at h; omega
theorem lw_inM {s : State} {cl : Nat → ClassId} {fl : Nat → Nat → Nat} {ar : Nat → ClassId} {sa : Nat → Nat} {μ : mm_M} {hs : Nat} (h8 : s.heap.size ≤ hs) (hw : mm_wf μ) (hx : mm_nx μ = 44) : ∀ q, mm_A (gM cl fl ar sa s.heap.size hs) μ q → s.heap.size ≤ q := by
  rintro q (⟨n, hn, rfl⟩ | h)
  · have := hw.2.1 n hn
    rw [gM_a1 this.1 (by omega)]; omega
  · rw [hx, gM_a2 (by omega)] at h; omega
theorem kle10 {a c : Nat} (h : mm_kle a c) (ha : a = 10 ∨ a = 11) : c = a := by
  rcases h with h | h
  · exact h
  · omega
/-- the class has moved on -/
theorem lw_JC {s : State} {cl : Nat → ClassId} {fl : Nat → Nat → Nat} {ar : Nat → ClassId} {sa : Nat → Nat} {μ μm μ1 : mm_M} {H H1 : Heap} (h : lw_J s cl fl ar sa μ μm H) (hle : mm_le μ μ1) (hR : mm_Rw (gC cl fl ar sa s.heap.size) μ1 H1) (hF : H.size ≤ H1.size ∧ ∀ q : Nat, q < H.size → ¬ mm_A (gC cl fl ar sa s.heap.size) μ q → H1[q]? = H[q]?) : lw_J s cl fl ar sa μ1 μm H1 := by
  obtain ⟨r1, r2, hx, h94, hgap, hk, hkm⟩ := h
  have s1 := r1.2.1
  rw [gC_ad (by omega)] at s1
  refine ⟨hR, ⟨r2.1, ?_, fun n => ?_⟩, hx, Nat.le_trans h94 hle.1, fun n g1 g2 => ?_, (kle10 (hle.2.2.1 6 (by omega)) (Or.inl hk)).trans hk, hkm⟩
  · rw [hx, gM_a2 (by omega)]; omega
  · have hk2 : mm_ce (gM cl fl ar sa s.heap.size H.size) μm H1 n := by
      refine mm_ce.keep (μ := μm) rfl (fun _ => rfl) (fun _ => rfl) (fun _ => rfl) (fun _ => rfl) (fun _ => rfl) (fun g0 => ?_) (r2.2.2 n)
      have g := r2.1.2.1 n g0
      rw [gM_a1 g.1 (by omega)]
      refine hF.2 _ (by omega) ?_
      rintro (⟨k, hk0, e⟩ | hge)
      · have gk := r1.1.2.1 k hk0
        rw [gC_ad gk.1] at e
        exact hk0 (hgap k (by omega) (by omega))
      · rw [gC_ad (by omega)] at hge; omega
    refine ce_reb (Γ := gM cl fl ar sa s.heap.size H.size) (Γ' := gM cl fl ar sa s.heap.size H1.size) r2.1 rfl rfl rfl (fun n2 g0 => ?_) hk2
    have g := r2.1.2.1 n2 g0
    rw [gM_a1 g.1 (by omega), gM_a1 g.1 (by omega)]
  · apply Classical.byContradiction
    intro g0
    rcases hle.2.2.2 n g0 with g | g
    · exact g (hgap n g1 g2)
    · omega
/-- the model has moved on -/
theorem lw_JM {s : State} {cl : Nat → ClassId} {fl : Nat → Nat → Nat} {ar : Nat → ClassId} {sa : Nat → Nat} {μ μm μ1 : mm_M} {H H1 : Heap} (h : lw_J s cl fl ar sa μ μm H) (hle : mm_le μm μ1) (hx1 : mm_nx μ1 = mm_nx μm) (hR : mm_Rw (gM cl fl ar sa s.heap.size H.size) μ1 H1) (hF : H.size ≤ H1.size ∧ ∀ q : Nat, q < H.size → ¬ mm_A (gM cl fl ar sa s.heap.size H.size) μm q → H1[q]? = H[q]?) : lw_J s cl fl ar sa μ μ1 H1 := by
  obtain ⟨r1, r2, hx, h94, hgap, hk, hkm⟩ := h
  have s1 := r1.2.1
  have s2 := hR.2.1
  rw [hx1, hx, gM_a2 (by omega)] at s2
  have e : H1.size = H.size := by omega
  refine ⟨⟨r1.1, by rw [e]; exact s1, fun n => ?_⟩, by rw [e]; exact hR, by rw [hx1, hx], h94, hgap, hk, (kle10 (hle.2.2.1 6 (by omega)) (Or.inr hkm)).trans hkm⟩
  refine mm_ce.keep (μ := μ) rfl (fun _ => rfl) (fun _ => rfl) (fun _ => rfl) (fun _ => rfl) (fun _ => rfl) (fun g0 => ?_) (r1.2.2 n)
  have g := r1.1.2.1 n g0
  rw [gC_ad (by omega)] at s1
  rw [gC_ad g.1]
  refine hF.2 _ (by omega) ?_
  rintro (⟨k, hk0, e2⟩ | hge)
  · have gk := r2.1.2.1 k hk0
    rw [gM_a1 gk.1 (by omega)] at e2
    exact g0 (hgap n (by omega) (by omega))
  · rw [hx, gM_a2 (by omega)] at hge; omega
theorem rels_nx {μ μm : mm_M} (h : RELS μ μm) : mm_nx μ ≤ 734 ∧ mm_sz μ ≤ 8480 := by
  obtain ⟨ci, cn, co, xj, xd, xf, xo, xi, xn, hC, -⟩ := h
  have h1 := rc_imad hC
  have h2 : mm_nx μ = 94 + 4 * xn 3 0 0 := rc_nx hC
  have h3 : mm_sz μ = 53 * xn 3 0 0 := rc_sl hC
  omega
theorem lw_vi {K : Nat → Nat} {z : Int32} : mm_okv K (vi z) := fun a h => by cases h
set_option maxHeartbeats 4000000 in
theorem lw_C {p : Program} {l : Launch} {e : Env} {s : State} {m : MethodId} {below : List Frame} {meth : Method} {c : Code} {b L : Nat} {xs : Nat → Int32} {cl : Nat → ClassId} {fl : Nat → Nat → Nat} {ar : Nat → ClassId} {sa : Nat → Nat} {H : Heap} {locs : List Loc} {Q : State → Prop} {ls : Array Slot} {pc idx : Nat} {μ μm μ1 : mm_M} {Yc : mm_Y} {cargs : List mm_V} {r : Option mm_V} {st2 : List Value} (C0 : lw_At p s m meth c b L xs) (E : lw_E s cl fl ar sa) (hJ : lw_J s cl fl ar sa μ μm H) (hS : va_S (fun q => s.heap.size ≤ q) s.heap H locs) (hls : ls.size = 4) (hlk : mm_lkV R_law idx Yc cargs.length 9) (hD : mm_Det Yc (vr 10 6 :: cargs) μ r μ1) (hok : mm_okl μ.1 cargs) (hrm : mm_fr Yc + 1 ≤ 10 ∧ 8 + (mm_ml Yc + 11) + mm_lo Yc ≤ 434) (hd : decode code pc = .ok (.invokevirtual idx, 3)) (hcs : (st2.map fun v => v.category).sum ≤ 8) (hb1 : mm_nx μ1 ≤ 734 ∧ mm_sz μ1 ≤ 8480) {stk : List Value} (hstk : stk = (cargs.map (mm_tr (mm_ad (gC cl fl ar sa s.heap.size)))).reverse ++ .ref (mm_ad (gC cl fl ar sa s.heap.size) 6) :: st2) (k : ∀ (H1 : Heap) (locs1 : List Loc), mm_rt Yc r → lw_J s cl fl ar sa μ1 μm H1 → va_S (fun q => s.heap.size ≤ q) s.heap H1 locs1 → W p l e room_1 s m #[Value.ref b] below meth c H1 locs1 (mm_nx μ1 + 100) (mm_sz μ1 + 20000) Q (F0 m (pc + 3) ls ((r.map (mm_tr (mm_ad (gC cl fl ar sa s.heap.size)))).toList ++ st2))) : W p l e room_1 s m #[Value.ref b] below meth c H locs (mm_nx μ + 100) (mm_sz μ + 20000) Q (F0 m pc ls stk) := by
  have hle := (hD hJ.1.1 (mm_okl.c (Or.inr ⟨by decide, by decide, Or.inl hJ.2.2.2.2.2.1⟩) hok)).1
  have n1 := hle.1
  have n2 := hle.2.1
  refine lw_call C0 (gC_Aw E.1) (fun _ => gC_Lw) E.2.1 E.2.2 hJ.1 (lw_inC (Nat.le_refl _) hJ.1.1) hS hls hlk hD (mm_okl.c (Or.inr ⟨by decide, by decide, Or.inl hJ.2.2.2.2.2.1⟩) hok) rfl hrm hd hcs ⟨by omega, by omega⟩ hstk (fun H1 locs1 g1 g2 g3 g4 g5 g6 => ?_)
  refine W.widen (k := mm_nx μ1 + 100) (n := mm_sz μ1 + 20000) (by omega) (by omega) ?_
  exact k H1 locs1 g3 (lw_JC hJ g1 g4 g5) g6
set_option maxHeartbeats 4000000 in
theorem lw_M {p : Program} {l : Launch} {e : Env} {s : State} {m : MethodId} {below : List Frame} {meth : Method} {c : Code} {b L : Nat} {xs : Nat → Int32} {cl : Nat → ClassId} {fl : Nat → Nat → Nat} {ar : Nat → ClassId} {sa : Nat → Nat} {H : Heap} {locs : List Loc} {cells slots : Nat} {Q : State → Prop} {ls : Array Slot} {pc idx : Nat} {μ μm μ1 : mm_M} {Yc : mm_Y} {cargs : List mm_V} {r : Option mm_V} {st2 : List Value} (C0 : lw_At p s m meth c b L xs) (E : lw_E s cl fl ar sa) (hJ : lw_J s cl fl ar sa μ μm H) (hS : va_S (fun q => s.heap.size ≤ q) s.heap H locs) (hls : ls.size = 4) (hlk : mm_lkV R_law idx Yc cargs.length 10) (hD : mm_Det Yc (vr 11 6 :: cargs) μm r μ1) (hok : mm_okl μm.1 cargs) (hna : mm_na Yc = true) (hrm : mm_fr Yc + 1 ≤ 10 ∧ 8 + (mm_ml Yc + 11) + mm_lo Yc ≤ 434) (hd : decode code pc = .ok (.invokevirtual idx, 3)) (hcs : (st2.map fun v => v.category).sum ≤ 8) (hf : cells ≤ 600000 ∧ slots ≤ 7302250) {stk : List Value} (hstk : stk = (cargs.map (mm_tr (mm_ad (gM cl fl ar sa s.heap.size H.size)))).reverse ++ .ref (mm_ad (gM cl fl ar sa s.heap.size H.size) 6) :: st2) (k : ∀ (H1 : Heap) (locs1 : List Loc), lw_J s cl fl ar sa μ μ1 H1 → va_S (fun q => s.heap.size ≤ q) s.heap H1 locs1 → W p l e room_1 s m #[Value.ref b] below meth c H1 locs1 cells slots Q (F0 m (pc + 3) ls ((r.map (mm_tr (mm_ad (gM cl fl ar sa s.heap.size H.size)))).toList ++ st2))) : W p l e room_1 s m #[Value.ref b] below meth c H locs cells slots Q (F0 m pc ls stk) := by
  have ho := mm_okl.c (v := vr 11 6) (Or.inr ⟨by decide, by decide, Or.inl hJ.2.2.2.2.2.2⟩) hok
  have hst := (hD hJ.2.1.1 ho).2.2.1.2 hna
  refine lw_call C0 (gM_Aw E.1 (lw_88 hJ)) (fun h => absurd (h.symm.trans hna) (by decide)) E.2.1 (lw_ZM E) hJ.2.1 (lw_inM (by have := lw_88 hJ; omega) hJ.2.1.1 hJ.2.2.1) hS hls hlk hD ho rfl hrm hd hcs ⟨by omega, by omega⟩ hstk (fun H1 locs1 g1 g2 g3 g4 g5 g6 => ?_)
  refine W.widen (k := cells) (n := slots) (by omega) (by omega) ?_
  exact k H1 locs1 (lw_JM hJ g1 hst.1 g4 g5) g6
