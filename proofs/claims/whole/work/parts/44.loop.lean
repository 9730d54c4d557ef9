def FTT : Prop := ∀ (op a b c : Int32), ((∀ μ : mm_M, mm_Det Y_SH_fit [vi op, vi a, vi b, vi c] μ (some (vi (nI 0))) μ) ∧ (∀ μ : mm_M, mm_Det Y_MM_isAct [vi op, vi a, vi b, vi c] μ (some (vi (nI 0))) μ)) ∨ (∃ o : Nat, op = nI o ∧ (∀ μ : mm_M, mm_Det Y_SH_fit [vi op, vi a, vi b, vi c] μ (some (vi (nI 1))) μ) ∧ (∀ μ : mm_M, mm_Det Y_MM_isAct [vi op, vi a, vi b, vi c] μ (some (vi (nI 1))) μ) ∧ OKA o a b c)
theorem lw_le {i L : Nat} (hL : L ≤ 3072) (hi : i ≤ L) (h : ¬ Int32.ofNat L - 6 < nI i) : i + 6 ≤ L := by
  rw [Int32.lt_iff_toInt_lt] at h
  have e1 : (Int32.ofNat L).toInt = (L : Int) := nI_toInt (by omega)
  have e2 : (Int32.ofNat L - 6).toInt = (L : Int) - 6 := by
    rw [Int32.toInt_sub, e1, show (6 : Int32).toInt = 6 from by decide]
    exact Int.bmod_eq_of_le (by omega) (by omega)
  rw [e2, nI_toInt (by omega)] at h
  omega
set_option maxHeartbeats 16000000 in
theorem law_loop {p : Program} {l : Launch} {e : Env} {s : State} {m : MethodId} {below : List Frame} {meth : Method} {c : Code} {b L : Nat} {xs : Nat → Int32} {cl : Nat → ClassId} {fl : Nat → Nat → Nat} {ar : Nat → ClassId} {sa : Nat → Nat} (hR : RR) (hFT : FTT) (hL : L ≤ 3072) (C0 : lw_At p s m meth c b L xs) (E : lw_E s cl fl ar sa) :
    ∀ (n i : Nat) (μ μm : mm_M) (H : Heap) (locs : List Loc) (ls : Array Slot), i ≤ L → L + 1 ≤ i + n → lw_J s cl fl ar sa μ μm H → RELS μ μm → va_S (fun q => s.heap.size ≤ q) s.heap H locs → lv_has ls 4 [(0, .ref b), (1, .ref s.heap.size), (2, .ref (s.heap.size + 50)), (3, .int (nI i))] → W p l e room_1 s m #[Value.ref b] below meth c H locs (mm_nx μ + 100) (mm_sz μ + 20000) (lw_Z below #[Value.ref b] s) (F0 m 18 ls []) := by
  obtain ⟨hx, hb, hr, hml, hown, hts, hX, hbl, hlocks, hgv⟩ := id C0
  have hbA : ¬ (fun q => s.heap.size ≤ q) b := Nat.not_le.mpr hbl
  intro n
  induction n with
  | zero =>
    intro i μ μm H locs ls h1 h2
    exact absurd h2 (by omega)
  | succ n ih =>
    intro i μ μm H locs ls hi hin hJ hREL hS hl
    have hb0 := rels_nx hREL
    refine lv_iload_n hx hb d_law_18 rfl (lv_at hl 3 rfl) ?_
    refine lv_aload_n hx hb d_law_19 rfl (lv_at hl 0 rfl) ?_
    refine va_slen hx hb hX hbl hbA hS d_law_20 ?_
    refine lv_bipush (v := 6) hx hb d_law_21 (by decide) ?_
    refine lv_isub hx hb d_law_23 ?_
    refine lv_icmp_gt (tgt := 678) hx hb d_law_24 (by decide) (fun _ => ?_) (fun hlt => ?_)
    · refine lv_iconst (v := 1) hx hb d_law_678 (by decide) ?_
      refine va_forget (fun q hq => hS.2.2 q hq) ?_
      refine W.widen (k := 600000) (n := 7302250) (by omega) (by omega) ?_
      refine W.base ?_
      exact lw_ret (Drawn.sameBut.refl s.drawn lw_cs) hx hb hr hlocks d_law_679
    · have h6 := lw_le hL hi hlt
      have g0 : vp_in (nI i) L := vp_in_nI (by omega) (by omega)
      have g1 : vp_in (nI i + 1) L := by
        rw [show nI i + 1 = nI (i + 1) from nI_add i 1]
        exact vp_in_nI (by omega) (by omega)
      have g2 : vp_in (nI i + 2) L := by
        rw [show nI i + 2 = nI (i + 2) from nI_add i 2]
        exact vp_in_nI (by omega) (by omega)
      have g3 : vp_in (nI i + 3) L := by
        rw [show nI i + 3 = nI (i + 3) from nI_add i 3]
        exact vp_in_nI (by omega) (by omega)
      have g4 : vp_in (nI i + 4) L := by
        rw [show nI i + 4 = nI (i + 4) from nI_add i 4]
        exact vp_in_nI (by omega) (by omega)
      have g5 : vp_in (nI i + 5) L := by
        rw [show nI i + 5 = nI (i + 5) from nI_add i 5]
        exact vp_in_nI (by omega) (by omega)
      have fin : ∀ (μ1 μ2 : mm_M) (H : Heap) (locs : List Loc), lw_J s cl fl ar sa μ1 μ2 H → RELS μ1 μ2 → va_S (fun q => s.heap.size ≤ q) s.heap H locs → W p l e room_1 s m #[Value.ref b] below meth c H locs (mm_nx μ1 + 100) (mm_sz μ1 + 20000) (lw_Z below #[Value.ref b] s) (F0 m 672 ls []) := by
        intro μ1 μ2 H locs hJ hREL hS
        refine lv_iinc (v := nI (i + 6)) (lv' := [(3, .int (nI (i + 6))), (0, .ref b), (1, .ref s.heap.size), (2, .ref (s.heap.size + 50))]) hx hb d_law_672 hl (k := 3) rfl (nI_add i 6) (by decide) rfl (fun ls hl => ?_)
        refine lv_goto (tgt := 18) hx hb d_law_675 (by decide) ?_
        exact ih (i + 6) μ1 μ2 H locs ls (by omega) (by omega) hJ hREL hS (lv_sub hl [1, 2, 3, 0] rfl)
      refine lv_aload_n hx hb d_law_27 rfl (lv_at hl 0 rfl) ?_
      refine lv_iload_n hx hb d_law_28 rfl (lv_at hl 3 rfl) ?_
      refine va_sld hx hb hX hbl hbA hS g0 d_law_29 ?_
      refine lv_bipush (v := 31) hx hb d_law_30 (by decide) ?_
      refine lv_iand hx hb d_law_32 ?_
      generalize (xs (nI i).toNatClampNeg &&& 31) = w
      obtain ⟨K, I, J, F, D, R, nx, sl⟩ := μ
      obtain ⟨Km, Im, Jm, Fm, Dm, Rm, nxm, slm⟩ := μm
      obtain ⟨ci, cn, co, xj, xd, xf, xo, xi, xn, hC, hM, hI, hW⟩ := id hREL
      have hC : RC ci cn co xj xd xf xo xi xn I J F D R nx sl := hC
      have hM : RM ci cn co xj xd xf xo xi xn Im Jm Dm := hM
      rcases (by omega : w.toInt < 0 ∨ 16 < w.toInt ∨ w.toInt = 0 ∨ w.toInt = 1 ∨ w.toInt = 2 ∨ w.toInt = 3 ∨ w.toInt = 4 ∨ w.toInt = 5 ∨ w.toInt = 6 ∨ w.toInt = 7 ∨ w.toInt = 8 ∨ w.toInt = 9 ∨ w.toInt = 10 ∨ w.toInt = 11 ∨ w.toInt = 12 ∨ w.toInt = 13 ∨ w.toInt = 14 ∨ w.toInt = 15 ∨ w.toInt = 16) with hw | hw | hw | hw | hw | hw | hw | hw | hw | hw | hw | hw | hw | hw | hw | hw | hw | hw | hw
      · refine lv_tableOut (tgt := 672) hx hb d_law_33 (Or.inl hw) (by decide) ?_
        exact fin _ _ _ _ hJ hREL hS
      · refine lv_tableOut (tgt := 672) hx hb d_law_33 (Or.inr hw) (by decide) ?_
        exact fin _ _ _ _ hJ hREL hS
      · refine lv_tableIn (off := 83) (tgt := 116) hx hb d_law_33 (by omega) (by omega) (by rw [hw]; rfl) (by decide) ?_
        obtain ⟨r, ⟨K1, I1, J1, F1, D1, R1, nx1, sl1⟩, ⟨r2, ⟨K2, I2, J2, F2, D2, R2, nx2, sl2⟩, ⟨hrr, hREL2⟩, dM⟩, dC⟩ := Q_act (K := K) (Km := Km) (Fm := Fm) (Rm := Rm) (nxm := nxm) (slm := slm) (pr := (xs (nI i + 1).toNatClampNeg)) (op := (xs (nI i + 2).toNatClampNeg)) (a := (xs (nI i + 3).toNatClampNeg)) (b := (xs (nI i + 4).toNatClampNeg)) (c := (xs (nI i + 5).toNatClampNeg)) hC hM hI hW hFT
        subst hrr
        have hb1 := rels_nx hREL2
        refine lv_aload_n hx hb d_law_116 rfl (lv_at hl 1 rfl) ?_
        refine lv_aload_n hx hb d_law_117 rfl (lv_at hl 0 rfl) ?_
        refine lv_iload_n hx hb d_law_118 rfl (lv_at hl 3 rfl) ?_
        refine lv_iconst (v := 1) hx hb d_law_119 (by decide) ?_
        refine lv_iadd hx hb d_law_120 ?_
        refine va_sld hx hb hX hbl hbA hS g1 d_law_121 ?_
        refine lv_aload_n hx hb d_law_122 rfl (lv_at hl 0 rfl) ?_
        refine lv_iload_n hx hb d_law_123 rfl (lv_at hl 3 rfl) ?_
        refine lv_iconst (v := 2) hx hb d_law_124 (by decide) ?_
        refine lv_iadd hx hb d_law_125 ?_
        refine va_sld hx hb hX hbl hbA hS g2 d_law_126 ?_
        refine lv_aload_n hx hb d_law_127 rfl (lv_at hl 0 rfl) ?_
        refine lv_iload_n hx hb d_law_128 rfl (lv_at hl 3 rfl) ?_
        refine lv_iconst (v := 3) hx hb d_law_129 (by decide) ?_
        refine lv_iadd hx hb d_law_130 ?_
        refine va_sld hx hb hX hbl hbA hS g3 d_law_131 ?_
        refine lv_aload_n hx hb d_law_132 rfl (lv_at hl 0 rfl) ?_
        refine lv_iload_n hx hb d_law_133 rfl (lv_at hl 3 rfl) ?_
        refine lv_iconst (v := 4) hx hb d_law_134 (by decide) ?_
        refine lv_iadd hx hb d_law_135 ?_
        refine va_sld hx hb hX hbl hbA hS g4 d_law_136 ?_
        refine lv_aload_n hx hb d_law_137 rfl (lv_at hl 0 rfl) ?_
        refine lv_iload_n hx hb d_law_138 rfl (lv_at hl 3 rfl) ?_
        refine lv_iconst (v := 5) hx hb d_law_139 (by decide) ?_
        refine lv_iadd hx hb d_law_140 ?_
        refine va_sld hx hb hX hbl hbA hS g5 d_law_141 ?_
        refine lw_C (cargs := [vi (xs (nI i + 1).toNatClampNeg), vi (xs (nI i + 2).toNatClampNeg), vi (xs (nI i + 3).toNatClampNeg), vi (xs (nI i + 4).toNatClampNeg), vi (xs (nI i + 5).toNatClampNeg)]) C0 E hJ hS hl.1 k_LW_13 dC (mm_okl.c lw_vi (mm_okl.c lw_vi (mm_okl.c lw_vi (mm_okl.c lw_vi (mm_okl.c lw_vi trivial))))) ⟨by decide, by decide⟩ d_law_142 (Nat.le_of_ble_eq_true rfl) hb1 rfl (fun H locs hrt hJ hS => ?_)
        obtain ⟨z, rfl⟩ : ∃ z, r = some (vi z) := hrt
        show W p l e room_1 s m #[Value.ref b] below meth c H locs _ _ _ (F0 m 145 ls [Value.int z])
        refine lv_aload_n hx hb d_law_145 rfl (lv_at hl 2 rfl) ?_
        refine lv_aload_n hx hb d_law_146 rfl (lv_at hl 0 rfl) ?_
        refine lv_iload_n hx hb d_law_147 rfl (lv_at hl 3 rfl) ?_
        refine lv_iconst (v := 1) hx hb d_law_148 (by decide) ?_
        refine lv_iadd hx hb d_law_149 ?_
        refine va_sld hx hb hX hbl hbA hS g1 d_law_150 ?_
        refine lv_aload_n hx hb d_law_151 rfl (lv_at hl 0 rfl) ?_
        refine lv_iload_n hx hb d_law_152 rfl (lv_at hl 3 rfl) ?_
        refine lv_iconst (v := 2) hx hb d_law_153 (by decide) ?_
        refine lv_iadd hx hb d_law_154 ?_
        refine va_sld hx hb hX hbl hbA hS g2 d_law_155 ?_
        refine lv_aload_n hx hb d_law_156 rfl (lv_at hl 0 rfl) ?_
        refine lv_iload_n hx hb d_law_157 rfl (lv_at hl 3 rfl) ?_
        refine lv_iconst (v := 3) hx hb d_law_158 (by decide) ?_
        refine lv_iadd hx hb d_law_159 ?_
        refine va_sld hx hb hX hbl hbA hS g3 d_law_160 ?_
        refine lv_aload_n hx hb d_law_161 rfl (lv_at hl 0 rfl) ?_
        refine lv_iload_n hx hb d_law_162 rfl (lv_at hl 3 rfl) ?_
        refine lv_iconst (v := 4) hx hb d_law_163 (by decide) ?_
        refine lv_iadd hx hb d_law_164 ?_
        refine va_sld hx hb hX hbl hbA hS g4 d_law_165 ?_
        refine lv_aload_n hx hb d_law_166 rfl (lv_at hl 0 rfl) ?_
        refine lv_iload_n hx hb d_law_167 rfl (lv_at hl 3 rfl) ?_
        refine lv_iconst (v := 5) hx hb d_law_168 (by decide) ?_
        refine lv_iadd hx hb d_law_169 ?_
        refine va_sld hx hb hX hbl hbA hS g5 d_law_170 ?_
        refine lw_M (cargs := [vi (xs (nI i + 1).toNatClampNeg), vi (xs (nI i + 2).toNatClampNeg), vi (xs (nI i + 3).toNatClampNeg), vi (xs (nI i + 4).toNatClampNeg), vi (xs (nI i + 5).toNatClampNeg)]) C0 E hJ hS hl.1 k_LW_17 dM (mm_okl.c lw_vi (mm_okl.c lw_vi (mm_okl.c lw_vi (mm_okl.c lw_vi (mm_okl.c lw_vi trivial))))) rfl ⟨by decide, by decide⟩ d_law_171 (Nat.le_of_ble_eq_true rfl) ⟨by omega, by omega⟩ rfl (fun H locs hJ hS => ?_)
        show W p l e room_1 s m #[Value.ref b] below meth c H locs _ _ _ (F0 m 174 ls [Value.int z, Value.int z])
        refine lv_icmp_eq (tgt := 672) hx hb d_law_174 (by decide) (fun _ => ?_) (fun h => absurd rfl h)
        exact fin _ _ _ _ hJ hREL2 hS
      · refine lv_tableIn (off := 146) (tgt := 179) hx hb d_law_33 (by omega) (by omega) (by rw [hw]; rfl) (by decide) ?_
        obtain ⟨r, ⟨K1, I1, J1, F1, D1, R1, nx1, sl1⟩, ⟨r2, ⟨K2, I2, J2, F2, D2, R2, nx2, sl2⟩, ⟨hrr, hREL2⟩, dM⟩, dC⟩ := Q_handler (K := K) (Km := Km) (Fm := Fm) (Rm := Rm) (nxm := nxm) (slm := slm) (pr := (xs (nI i + 1).toNatClampNeg)) (fr := (xs (nI i + 2).toNatClampNeg)) (to := (xs (nI i + 3).toNatClampNeg)) (fl := (xs (nI i + 4).toNatClampNeg)) (pl := (xs (nI i + 5).toNatClampNeg)) hC hM hI hW
        subst hrr
        have hb1 := rels_nx hREL2
        refine lv_aload_n hx hb d_law_179 rfl (lv_at hl 1 rfl) ?_
        refine lv_aload_n hx hb d_law_180 rfl (lv_at hl 0 rfl) ?_
        refine lv_iload_n hx hb d_law_181 rfl (lv_at hl 3 rfl) ?_
        refine lv_iconst (v := 1) hx hb d_law_182 (by decide) ?_
        refine lv_iadd hx hb d_law_183 ?_
        refine va_sld hx hb hX hbl hbA hS g1 d_law_184 ?_
        refine lv_aload_n hx hb d_law_185 rfl (lv_at hl 0 rfl) ?_
        refine lv_iload_n hx hb d_law_186 rfl (lv_at hl 3 rfl) ?_
        refine lv_iconst (v := 2) hx hb d_law_187 (by decide) ?_
        refine lv_iadd hx hb d_law_188 ?_
        refine va_sld hx hb hX hbl hbA hS g2 d_law_189 ?_
        refine lv_aload_n hx hb d_law_190 rfl (lv_at hl 0 rfl) ?_
        refine lv_iload_n hx hb d_law_191 rfl (lv_at hl 3 rfl) ?_
        refine lv_iconst (v := 3) hx hb d_law_192 (by decide) ?_
        refine lv_iadd hx hb d_law_193 ?_
        refine va_sld hx hb hX hbl hbA hS g3 d_law_194 ?_
        refine lv_aload_n hx hb d_law_195 rfl (lv_at hl 0 rfl) ?_
        refine lv_iload_n hx hb d_law_196 rfl (lv_at hl 3 rfl) ?_
        refine lv_iconst (v := 4) hx hb d_law_197 (by decide) ?_
        refine lv_iadd hx hb d_law_198 ?_
        refine va_sld hx hb hX hbl hbA hS g4 d_law_199 ?_
        refine lv_aload_n hx hb d_law_200 rfl (lv_at hl 0 rfl) ?_
        refine lv_iload_n hx hb d_law_201 rfl (lv_at hl 3 rfl) ?_
        refine lv_iconst (v := 5) hx hb d_law_202 (by decide) ?_
        refine lv_iadd hx hb d_law_203 ?_
        refine va_sld hx hb hX hbl hbA hS g5 d_law_204 ?_
        refine lw_C (cargs := [vi (xs (nI i + 1).toNatClampNeg), vi (xs (nI i + 2).toNatClampNeg), vi (xs (nI i + 3).toNatClampNeg), vi (xs (nI i + 4).toNatClampNeg), vi (xs (nI i + 5).toNatClampNeg)]) C0 E hJ hS hl.1 k_LW_18 dC (mm_okl.c lw_vi (mm_okl.c lw_vi (mm_okl.c lw_vi (mm_okl.c lw_vi (mm_okl.c lw_vi trivial))))) ⟨by decide, by decide⟩ d_law_205 (Nat.le_of_ble_eq_true rfl) hb1 rfl (fun H locs hrt hJ hS => ?_)
        obtain ⟨z, rfl⟩ : ∃ z, r = some (vi z) := hrt
        show W p l e room_1 s m #[Value.ref b] below meth c H locs _ _ _ (F0 m 208 ls [Value.int z])
        refine lv_aload_n hx hb d_law_208 rfl (lv_at hl 2 rfl) ?_
        refine lv_aload_n hx hb d_law_209 rfl (lv_at hl 0 rfl) ?_
        refine lv_iload_n hx hb d_law_210 rfl (lv_at hl 3 rfl) ?_
        refine lv_iconst (v := 1) hx hb d_law_211 (by decide) ?_
        refine lv_iadd hx hb d_law_212 ?_
        refine va_sld hx hb hX hbl hbA hS g1 d_law_213 ?_
        refine lv_aload_n hx hb d_law_214 rfl (lv_at hl 0 rfl) ?_
        refine lv_iload_n hx hb d_law_215 rfl (lv_at hl 3 rfl) ?_
        refine lv_iconst (v := 2) hx hb d_law_216 (by decide) ?_
        refine lv_iadd hx hb d_law_217 ?_
        refine va_sld hx hb hX hbl hbA hS g2 d_law_218 ?_
        refine lv_aload_n hx hb d_law_219 rfl (lv_at hl 0 rfl) ?_
        refine lv_iload_n hx hb d_law_220 rfl (lv_at hl 3 rfl) ?_
        refine lv_iconst (v := 3) hx hb d_law_221 (by decide) ?_
        refine lv_iadd hx hb d_law_222 ?_
        refine va_sld hx hb hX hbl hbA hS g3 d_law_223 ?_
        refine lv_aload_n hx hb d_law_224 rfl (lv_at hl 0 rfl) ?_
        refine lv_iload_n hx hb d_law_225 rfl (lv_at hl 3 rfl) ?_
        refine lv_iconst (v := 4) hx hb d_law_226 (by decide) ?_
        refine lv_iadd hx hb d_law_227 ?_
        refine va_sld hx hb hX hbl hbA hS g4 d_law_228 ?_
        refine lv_aload_n hx hb d_law_229 rfl (lv_at hl 0 rfl) ?_
        refine lv_iload_n hx hb d_law_230 rfl (lv_at hl 3 rfl) ?_
        refine lv_iconst (v := 5) hx hb d_law_231 (by decide) ?_
        refine lv_iadd hx hb d_law_232 ?_
        refine va_sld hx hb hX hbl hbA hS g5 d_law_233 ?_
        refine lw_M (cargs := [vi (xs (nI i + 1).toNatClampNeg), vi (xs (nI i + 2).toNatClampNeg), vi (xs (nI i + 3).toNatClampNeg), vi (xs (nI i + 4).toNatClampNeg), vi (xs (nI i + 5).toNatClampNeg)]) C0 E hJ hS hl.1 k_LW_21 dM (mm_okl.c lw_vi (mm_okl.c lw_vi (mm_okl.c lw_vi (mm_okl.c lw_vi (mm_okl.c lw_vi trivial))))) rfl ⟨by decide, by decide⟩ d_law_234 (Nat.le_of_ble_eq_true rfl) ⟨by omega, by omega⟩ rfl (fun H locs hJ hS => ?_)
        show W p l e room_1 s m #[Value.ref b] below meth c H locs _ _ _ (F0 m 237 ls [Value.int z, Value.int z])
        refine lv_icmp_eq (tgt := 672) hx hb d_law_237 (by decide) (fun _ => ?_) (fun h => absurd rfl h)
        exact fin _ _ _ _ hJ hREL2 hS
      · refine lv_tableIn (off := 209) (tgt := 242) hx hb d_law_33 (by omega) (by omega) (by rw [hw]; rfl) (by decide) ?_
        obtain ⟨r, ⟨K1, I1, J1, F1, D1, R1, nx1, sl1⟩, ⟨r2, ⟨K2, I2, J2, F2, D2, R2, nx2, sl2⟩, ⟨hrr, hREL2⟩, dM⟩, dC⟩ := Q_empty (K := K) (Km := Km) (Fm := Fm) (Rm := Rm) (nxm := nxm) (slm := slm) (pr := (xs (nI i + 1).toNatClampNeg)) hC hM hI hW
        subst hrr
        have hb1 := rels_nx hREL2
        refine lv_aload_n hx hb d_law_242 rfl (lv_at hl 1 rfl) ?_
        refine lv_aload_n hx hb d_law_243 rfl (lv_at hl 0 rfl) ?_
        refine lv_iload_n hx hb d_law_244 rfl (lv_at hl 3 rfl) ?_
        refine lv_iconst (v := 1) hx hb d_law_245 (by decide) ?_
        refine lv_iadd hx hb d_law_246 ?_
        refine va_sld hx hb hX hbl hbA hS g1 d_law_247 ?_
        refine lw_C (cargs := [vi (xs (nI i + 1).toNatClampNeg)]) C0 E hJ hS hl.1 k_LW_22 dC (mm_okl.c lw_vi trivial) ⟨by decide, by decide⟩ d_law_248 (Nat.le_of_ble_eq_true rfl) hb1 rfl (fun H locs hrt hJ hS => ?_)
        obtain ⟨z, rfl⟩ : ∃ z, r = some (vi z) := hrt
        show W p l e room_1 s m #[Value.ref b] below meth c H locs _ _ _ (F0 m 251 ls [Value.int z])
        refine lv_aload_n hx hb d_law_251 rfl (lv_at hl 2 rfl) ?_
        refine lv_aload_n hx hb d_law_252 rfl (lv_at hl 0 rfl) ?_
        refine lv_iload_n hx hb d_law_253 rfl (lv_at hl 3 rfl) ?_
        refine lv_iconst (v := 1) hx hb d_law_254 (by decide) ?_
        refine lv_iadd hx hb d_law_255 ?_
        refine va_sld hx hb hX hbl hbA hS g1 d_law_256 ?_
        refine lw_M (cargs := [vi (xs (nI i + 1).toNatClampNeg)]) C0 E hJ hS hl.1 k_LW_26 dM (mm_okl.c lw_vi trivial) rfl ⟨by decide, by decide⟩ d_law_257 (Nat.le_of_ble_eq_true rfl) ⟨by omega, by omega⟩ rfl (fun H locs hJ hS => ?_)
        show W p l e room_1 s m #[Value.ref b] below meth c H locs _ _ _ (F0 m 260 ls [Value.int z, Value.int z])
        refine lv_icmp_eq (tgt := 672) hx hb d_law_260 (by decide) (fun _ => ?_) (fun h => absurd rfl h)
        exact fin _ _ _ _ hJ hREL2 hS
      · refine lv_tableIn (off := 232) (tgt := 265) hx hb d_law_33 (by omega) (by omega) (by rw [hw]; rfl) (by decide) ?_
        obtain ⟨r, ⟨K1, I1, J1, F1, D1, R1, nx1, sl1⟩, ⟨r2, ⟨K2, I2, J2, F2, D2, R2, nx2, sl2⟩, ⟨hrr, hREL2⟩, dM⟩, dC⟩ := Q_start (K := K) (Km := Km) (Fm := Fm) (Rm := Rm) (nxm := nxm) (slm := slm) (th := (xs (nI i + 1).toNatClampNeg)) (pr := (xs (nI i + 2).toNatClampNeg)) hC hM hI hW
        subst hrr
        have hb1 := rels_nx hREL2
        refine lv_aload_n hx hb d_law_265 rfl (lv_at hl 1 rfl) ?_
        refine lv_aload_n hx hb d_law_266 rfl (lv_at hl 0 rfl) ?_
        refine lv_iload_n hx hb d_law_267 rfl (lv_at hl 3 rfl) ?_
        refine lv_iconst (v := 1) hx hb d_law_268 (by decide) ?_
        refine lv_iadd hx hb d_law_269 ?_
        refine va_sld hx hb hX hbl hbA hS g1 d_law_270 ?_
        refine lv_aload_n hx hb d_law_271 rfl (lv_at hl 0 rfl) ?_
        refine lv_iload_n hx hb d_law_272 rfl (lv_at hl 3 rfl) ?_
        refine lv_iconst (v := 2) hx hb d_law_273 (by decide) ?_
        refine lv_iadd hx hb d_law_274 ?_
        refine va_sld hx hb hX hbl hbA hS g2 d_law_275 ?_
        refine lw_C (cargs := [vi (xs (nI i + 1).toNatClampNeg), vi (xs (nI i + 2).toNatClampNeg)]) C0 E hJ hS hl.1 k_LW_27 dC (mm_okl.c lw_vi (mm_okl.c lw_vi trivial)) ⟨by decide, by decide⟩ d_law_276 (Nat.le_of_ble_eq_true rfl) hb1 rfl (fun H locs hrt hJ hS => ?_)
        obtain ⟨z, rfl⟩ : ∃ z, r = some (vi z) := hrt
        show W p l e room_1 s m #[Value.ref b] below meth c H locs _ _ _ (F0 m 279 ls [Value.int z])
        refine lv_aload_n hx hb d_law_279 rfl (lv_at hl 2 rfl) ?_
        refine lv_aload_n hx hb d_law_280 rfl (lv_at hl 0 rfl) ?_
        refine lv_iload_n hx hb d_law_281 rfl (lv_at hl 3 rfl) ?_
        refine lv_iconst (v := 1) hx hb d_law_282 (by decide) ?_
        refine lv_iadd hx hb d_law_283 ?_
        refine va_sld hx hb hX hbl hbA hS g1 d_law_284 ?_
        refine lv_aload_n hx hb d_law_285 rfl (lv_at hl 0 rfl) ?_
        refine lv_iload_n hx hb d_law_286 rfl (lv_at hl 3 rfl) ?_
        refine lv_iconst (v := 2) hx hb d_law_287 (by decide) ?_
        refine lv_iadd hx hb d_law_288 ?_
        refine va_sld hx hb hX hbl hbA hS g2 d_law_289 ?_
        refine lw_M (cargs := [vi (xs (nI i + 1).toNatClampNeg), vi (xs (nI i + 2).toNatClampNeg)]) C0 E hJ hS hl.1 k_LW_31 dM (mm_okl.c lw_vi (mm_okl.c lw_vi trivial)) rfl ⟨by decide, by decide⟩ d_law_290 (Nat.le_of_ble_eq_true rfl) ⟨by omega, by omega⟩ rfl (fun H locs hJ hS => ?_)
        show W p l e room_1 s m #[Value.ref b] below meth c H locs _ _ _ (F0 m 293 ls [Value.int z, Value.int z])
        refine lv_icmp_eq (tgt := 672) hx hb d_law_293 (by decide) (fun _ => ?_) (fun h => absurd rfl h)
        exact fin _ _ _ _ hJ hREL2 hS
      · refine lv_tableIn (off := 265) (tgt := 298) hx hb d_law_33 (by omega) (by omega) (by rw [hw]; rfl) (by decide) ?_
        obtain ⟨r, ⟨K1, I1, J1, F1, D1, R1, nx1, sl1⟩, ⟨r2, ⟨K2, I2, J2, F2, D2, R2, nx2, sl2⟩, ⟨hrr, hREL2⟩, dM⟩, dC⟩ := Q_turn (K := K) (Km := Km) (Fm := Fm) (Rm := Rm) (nxm := nxm) (slm := slm) (th := (xs (nI i + 1).toNatClampNeg)) (nn := (xs (nI i + 2).toNatClampNeg)) hC hM hR hI hW
        subst hrr
        have hb1 := rels_nx hREL2
        refine lv_aload_n hx hb d_law_298 rfl (lv_at hl 1 rfl) ?_
        refine lv_aload_n hx hb d_law_299 rfl (lv_at hl 0 rfl) ?_
        refine lv_iload_n hx hb d_law_300 rfl (lv_at hl 3 rfl) ?_
        refine lv_iconst (v := 1) hx hb d_law_301 (by decide) ?_
        refine lv_iadd hx hb d_law_302 ?_
        refine va_sld hx hb hX hbl hbA hS g1 d_law_303 ?_
        refine lv_aload_n hx hb d_law_304 rfl (lv_at hl 0 rfl) ?_
        refine lv_iload_n hx hb d_law_305 rfl (lv_at hl 3 rfl) ?_
        refine lv_iconst (v := 2) hx hb d_law_306 (by decide) ?_
        refine lv_iadd hx hb d_law_307 ?_
        refine va_sld hx hb hX hbl hbA hS g2 d_law_308 ?_
        refine lw_C (cargs := [vi (xs (nI i + 1).toNatClampNeg), vi (xs (nI i + 2).toNatClampNeg)]) C0 E hJ hS hl.1 k_LW_32 dC (mm_okl.c lw_vi (mm_okl.c lw_vi trivial)) ⟨by decide, by decide⟩ d_law_309 (Nat.le_of_ble_eq_true rfl) hb1 rfl (fun H locs hrt hJ hS => ?_)
        obtain ⟨z, rfl⟩ : ∃ z, r = some (vi z) := hrt
        show W p l e room_1 s m #[Value.ref b] below meth c H locs _ _ _ (F0 m 312 ls [Value.int z])
        refine lv_aload_n hx hb d_law_312 rfl (lv_at hl 2 rfl) ?_
        refine lv_aload_n hx hb d_law_313 rfl (lv_at hl 0 rfl) ?_
        refine lv_iload_n hx hb d_law_314 rfl (lv_at hl 3 rfl) ?_
        refine lv_iconst (v := 1) hx hb d_law_315 (by decide) ?_
        refine lv_iadd hx hb d_law_316 ?_
        refine va_sld hx hb hX hbl hbA hS g1 d_law_317 ?_
        refine lv_aload_n hx hb d_law_318 rfl (lv_at hl 0 rfl) ?_
        refine lv_iload_n hx hb d_law_319 rfl (lv_at hl 3 rfl) ?_
        refine lv_iconst (v := 2) hx hb d_law_320 (by decide) ?_
        refine lv_iadd hx hb d_law_321 ?_
        refine va_sld hx hb hX hbl hbA hS g2 d_law_322 ?_
        refine lw_M (cargs := [vi (xs (nI i + 1).toNatClampNeg), vi (xs (nI i + 2).toNatClampNeg)]) C0 E hJ hS hl.1 k_LW_35 dM (mm_okl.c lw_vi (mm_okl.c lw_vi trivial)) rfl ⟨by decide, by decide⟩ d_law_323 (Nat.le_of_ble_eq_true rfl) ⟨by omega, by omega⟩ rfl (fun H locs hJ hS => ?_)
        show W p l e room_1 s m #[Value.ref b] below meth c H locs _ _ _ (F0 m 326 ls [Value.int z, Value.int z])
        refine lv_icmp_eq (tgt := 672) hx hb d_law_326 (by decide) (fun _ => ?_) (fun h => absurd rfl h)
        exact fin _ _ _ _ hJ hREL2 hS
      · refine lv_tableIn (off := 298) (tgt := 331) hx hb d_law_33 (by omega) (by omega) (by rw [hw]; rfl) (by decide) ?_
        obtain ⟨r, ⟨K1, I1, J1, F1, D1, R1, nx1, sl1⟩, ⟨r2, ⟨K2, I2, J2, F2, D2, R2, nx2, sl2⟩, ⟨hrr, hREL2⟩, dM⟩, dC⟩ := Q_number (K := K) (Km := Km) (Fm := Fm) (Rm := Rm) (nxm := nxm) (slm := slm) (th := (xs (nI i + 1).toNatClampNeg)) (kk := (xs (nI i + 2).toNatClampNeg)) hC hM hI hW
        subst hrr
        have hb1 := rels_nx hREL2
        refine lv_aload_n hx hb d_law_331 rfl (lv_at hl 1 rfl) ?_
        refine lv_aload_n hx hb d_law_332 rfl (lv_at hl 0 rfl) ?_
        refine lv_iload_n hx hb d_law_333 rfl (lv_at hl 3 rfl) ?_
        refine lv_iconst (v := 1) hx hb d_law_334 (by decide) ?_
        refine lv_iadd hx hb d_law_335 ?_
        refine va_sld hx hb hX hbl hbA hS g1 d_law_336 ?_
        refine lv_aload_n hx hb d_law_337 rfl (lv_at hl 0 rfl) ?_
        refine lv_iload_n hx hb d_law_338 rfl (lv_at hl 3 rfl) ?_
        refine lv_iconst (v := 2) hx hb d_law_339 (by decide) ?_
        refine lv_iadd hx hb d_law_340 ?_
        refine va_sld hx hb hX hbl hbA hS g2 d_law_341 ?_
        refine lw_C (cargs := [vi (xs (nI i + 1).toNatClampNeg), vi (xs (nI i + 2).toNatClampNeg)]) C0 E hJ hS hl.1 k_LW_36 dC (mm_okl.c lw_vi (mm_okl.c lw_vi trivial)) ⟨by decide, by decide⟩ d_law_342 (Nat.le_of_ble_eq_true rfl) hb1 rfl (fun H locs hrt hJ hS => ?_)
        obtain ⟨z, rfl⟩ : ∃ z, r = some (vl z) := hrt
        show W p l e room_1 s m #[Value.ref b] below meth c H locs _ _ _ (F0 m 345 ls [Value.long z])
        refine lv_aload_n hx hb d_law_345 rfl (lv_at hl 2 rfl) ?_
        refine lv_aload_n hx hb d_law_346 rfl (lv_at hl 0 rfl) ?_
        refine lv_iload_n hx hb d_law_347 rfl (lv_at hl 3 rfl) ?_
        refine lv_iconst (v := 1) hx hb d_law_348 (by decide) ?_
        refine lv_iadd hx hb d_law_349 ?_
        refine va_sld hx hb hX hbl hbA hS g1 d_law_350 ?_
        refine lv_aload_n hx hb d_law_351 rfl (lv_at hl 0 rfl) ?_
        refine lv_iload_n hx hb d_law_352 rfl (lv_at hl 3 rfl) ?_
        refine lv_iconst (v := 2) hx hb d_law_353 (by decide) ?_
        refine lv_iadd hx hb d_law_354 ?_
        refine va_sld hx hb hX hbl hbA hS g2 d_law_355 ?_
        refine lw_M (cargs := [vi (xs (nI i + 1).toNatClampNeg), vi (xs (nI i + 2).toNatClampNeg)]) C0 E hJ hS hl.1 k_LW_40 dM (mm_okl.c lw_vi (mm_okl.c lw_vi trivial)) rfl ⟨by decide, by decide⟩ d_law_356 (Nat.le_of_ble_eq_true rfl) ⟨by omega, by omega⟩ rfl (fun H locs hJ hS => ?_)
        show W p l e room_1 s m #[Value.ref b] below meth c H locs _ _ _ (F0 m 359 ls [Value.long z, Value.long z])
        refine W.lcmp hx hb d_law_359 ?_
        refine lv_if_eq (tgt := 672) hx hb d_law_360 (by decide) (fun _ => ?_) (fun h => absurd ((lg_cmp_eq _ _).mpr rfl) h)
        exact fin _ _ _ _ hJ hREL2 hS
      · refine lv_tableIn (off := 332) (tgt := 365) hx hb d_law_33 (by omega) (by omega) (by rw [hw]; rfl) (by decide) ?_
        obtain ⟨r, ⟨K1, I1, J1, F1, D1, R1, nx1, sl1⟩, ⟨r2, ⟨K2, I2, J2, F2, D2, R2, nx2, sl2⟩, ⟨hrr, hREL2⟩, dM⟩, dC⟩ := Q_real (K := K) (Km := Km) (Fm := Fm) (Rm := Rm) (nxm := nxm) (slm := slm) (th := (xs (nI i + 1).toNatClampNeg)) (kk := (xs (nI i + 2).toNatClampNeg)) hC hM hI hW
        subst hrr
        have hb1 := rels_nx hREL2
        refine lv_aload_n hx hb d_law_365 rfl (lv_at hl 1 rfl) ?_
        refine lv_aload_n hx hb d_law_366 rfl (lv_at hl 0 rfl) ?_
        refine lv_iload_n hx hb d_law_367 rfl (lv_at hl 3 rfl) ?_
        refine lv_iconst (v := 1) hx hb d_law_368 (by decide) ?_
        refine lv_iadd hx hb d_law_369 ?_
        refine va_sld hx hb hX hbl hbA hS g1 d_law_370 ?_
        refine lv_aload_n hx hb d_law_371 rfl (lv_at hl 0 rfl) ?_
        refine lv_iload_n hx hb d_law_372 rfl (lv_at hl 3 rfl) ?_
        refine lv_iconst (v := 2) hx hb d_law_373 (by decide) ?_
        refine lv_iadd hx hb d_law_374 ?_
        refine va_sld hx hb hX hbl hbA hS g2 d_law_375 ?_
        refine lw_C (cargs := [vi (xs (nI i + 1).toNatClampNeg), vi (xs (nI i + 2).toNatClampNeg)]) C0 E hJ hS hl.1 k_LW_41 dC (mm_okl.c lw_vi (mm_okl.c lw_vi trivial)) ⟨by decide, by decide⟩ d_law_376 (Nat.le_of_ble_eq_true rfl) hb1 rfl (fun H locs hrt hJ hS => ?_)
        obtain ⟨z, rfl⟩ : ∃ z, r = some (vl z) := hrt
        show W p l e room_1 s m #[Value.ref b] below meth c H locs _ _ _ (F0 m 379 ls [Value.long z])
        refine lv_aload_n hx hb d_law_379 rfl (lv_at hl 2 rfl) ?_
        refine lv_aload_n hx hb d_law_380 rfl (lv_at hl 0 rfl) ?_
        refine lv_iload_n hx hb d_law_381 rfl (lv_at hl 3 rfl) ?_
        refine lv_iconst (v := 1) hx hb d_law_382 (by decide) ?_
        refine lv_iadd hx hb d_law_383 ?_
        refine va_sld hx hb hX hbl hbA hS g1 d_law_384 ?_
        refine lv_aload_n hx hb d_law_385 rfl (lv_at hl 0 rfl) ?_
        refine lv_iload_n hx hb d_law_386 rfl (lv_at hl 3 rfl) ?_
        refine lv_iconst (v := 2) hx hb d_law_387 (by decide) ?_
        refine lv_iadd hx hb d_law_388 ?_
        refine va_sld hx hb hX hbl hbA hS g2 d_law_389 ?_
        refine lw_M (cargs := [vi (xs (nI i + 1).toNatClampNeg), vi (xs (nI i + 2).toNatClampNeg)]) C0 E hJ hS hl.1 k_LW_44 dM (mm_okl.c lw_vi (mm_okl.c lw_vi trivial)) rfl ⟨by decide, by decide⟩ d_law_390 (Nat.le_of_ble_eq_true rfl) ⟨by omega, by omega⟩ rfl (fun H locs hJ hS => ?_)
        show W p l e room_1 s m #[Value.ref b] below meth c H locs _ _ _ (F0 m 393 ls [Value.long z, Value.long z])
        refine W.lcmp hx hb d_law_393 ?_
        refine lv_if_eq (tgt := 672) hx hb d_law_394 (by decide) (fun _ => ?_) (fun h => absurd ((lg_cmp_eq _ _).mpr rfl) h)
        exact fin _ _ _ _ hJ hREL2 hS
      · refine lv_tableIn (off := 366) (tgt := 399) hx hb d_law_33 (by omega) (by omega) (by rw [hw]; rfl) (by decide) ?_
        obtain ⟨r, ⟨K1, I1, J1, F1, D1, R1, nx1, sl1⟩, ⟨r2, ⟨K2, I2, J2, F2, D2, R2, nx2, sl2⟩, ⟨hrr, hREL2⟩, dM⟩, dC⟩ := Q_small (K := K) (Km := Km) (Fm := Fm) (Rm := Rm) (nxm := nxm) (slm := slm) (th := (xs (nI i + 1).toNatClampNeg)) (kk := (xs (nI i + 2).toNatClampNeg)) hC hM hI hW
        subst hrr
        have hb1 := rels_nx hREL2
        refine lv_aload_n hx hb d_law_399 rfl (lv_at hl 1 rfl) ?_
        refine lv_aload_n hx hb d_law_400 rfl (lv_at hl 0 rfl) ?_
        refine lv_iload_n hx hb d_law_401 rfl (lv_at hl 3 rfl) ?_
        refine lv_iconst (v := 1) hx hb d_law_402 (by decide) ?_
        refine lv_iadd hx hb d_law_403 ?_
        refine va_sld hx hb hX hbl hbA hS g1 d_law_404 ?_
        refine lv_aload_n hx hb d_law_405 rfl (lv_at hl 0 rfl) ?_
        refine lv_iload_n hx hb d_law_406 rfl (lv_at hl 3 rfl) ?_
        refine lv_iconst (v := 2) hx hb d_law_407 (by decide) ?_
        refine lv_iadd hx hb d_law_408 ?_
        refine va_sld hx hb hX hbl hbA hS g2 d_law_409 ?_
        refine lw_C (cargs := [vi (xs (nI i + 1).toNatClampNeg), vi (xs (nI i + 2).toNatClampNeg)]) C0 E hJ hS hl.1 k_LW_45 dC (mm_okl.c lw_vi (mm_okl.c lw_vi trivial)) ⟨by decide, by decide⟩ d_law_410 (Nat.le_of_ble_eq_true rfl) hb1 rfl (fun H locs hrt hJ hS => ?_)
        obtain ⟨z, rfl⟩ : ∃ z, r = some (vl z) := hrt
        show W p l e room_1 s m #[Value.ref b] below meth c H locs _ _ _ (F0 m 413 ls [Value.long z])
        refine lv_aload_n hx hb d_law_413 rfl (lv_at hl 2 rfl) ?_
        refine lv_aload_n hx hb d_law_414 rfl (lv_at hl 0 rfl) ?_
        refine lv_iload_n hx hb d_law_415 rfl (lv_at hl 3 rfl) ?_
        refine lv_iconst (v := 1) hx hb d_law_416 (by decide) ?_
        refine lv_iadd hx hb d_law_417 ?_
        refine va_sld hx hb hX hbl hbA hS g1 d_law_418 ?_
        refine lv_aload_n hx hb d_law_419 rfl (lv_at hl 0 rfl) ?_
        refine lv_iload_n hx hb d_law_420 rfl (lv_at hl 3 rfl) ?_
        refine lv_iconst (v := 2) hx hb d_law_421 (by decide) ?_
        refine lv_iadd hx hb d_law_422 ?_
        refine va_sld hx hb hX hbl hbA hS g2 d_law_423 ?_
        refine lw_M (cargs := [vi (xs (nI i + 1).toNatClampNeg), vi (xs (nI i + 2).toNatClampNeg)]) C0 E hJ hS hl.1 k_LW_48 dM (mm_okl.c lw_vi (mm_okl.c lw_vi trivial)) rfl ⟨by decide, by decide⟩ d_law_424 (Nat.le_of_ble_eq_true rfl) ⟨by omega, by omega⟩ rfl (fun H locs hJ hS => ?_)
        show W p l e room_1 s m #[Value.ref b] below meth c H locs _ _ _ (F0 m 427 ls [Value.long z, Value.long z])
        refine W.lcmp hx hb d_law_427 ?_
        refine lv_if_eq (tgt := 672) hx hb d_law_428 (by decide) (fun _ => ?_) (fun h => absurd ((lg_cmp_eq _ _).mpr rfl) h)
        exact fin _ _ _ _ hJ hREL2 hS
      · refine lv_tableIn (off := 400) (tgt := 433) hx hb d_law_33 (by omega) (by omega) (by rw [hw]; rfl) (by decide) ?_
        obtain ⟨r, ⟨K1, I1, J1, F1, D1, R1, nx1, sl1⟩, ⟨r2, ⟨K2, I2, J2, F2, D2, R2, nx2, sl2⟩, ⟨hrr, hREL2⟩, dM⟩, dC⟩ := Q_hold (K := K) (Km := Km) (Fm := Fm) (Rm := Rm) (nxm := nxm) (slm := slm) (th := (xs (nI i + 1).toNatClampNeg)) (kk := (xs (nI i + 2).toNatClampNeg)) hC hM hI hW
        subst hrr
        have hb1 := rels_nx hREL2
        refine lv_aload_n hx hb d_law_433 rfl (lv_at hl 1 rfl) ?_
        refine lv_aload_n hx hb d_law_434 rfl (lv_at hl 0 rfl) ?_
        refine lv_iload_n hx hb d_law_435 rfl (lv_at hl 3 rfl) ?_
        refine lv_iconst (v := 1) hx hb d_law_436 (by decide) ?_
        refine lv_iadd hx hb d_law_437 ?_
        refine va_sld hx hb hX hbl hbA hS g1 d_law_438 ?_
        refine lv_aload_n hx hb d_law_439 rfl (lv_at hl 0 rfl) ?_
        refine lv_iload_n hx hb d_law_440 rfl (lv_at hl 3 rfl) ?_
        refine lv_iconst (v := 2) hx hb d_law_441 (by decide) ?_
        refine lv_iadd hx hb d_law_442 ?_
        refine va_sld hx hb hX hbl hbA hS g2 d_law_443 ?_
        refine lw_C (cargs := [vi (xs (nI i + 1).toNatClampNeg), vi (xs (nI i + 2).toNatClampNeg)]) C0 E hJ hS hl.1 k_LW_49 dC (mm_okl.c lw_vi (mm_okl.c lw_vi trivial)) ⟨by decide, by decide⟩ d_law_444 (Nat.le_of_ble_eq_true rfl) hb1 rfl (fun H locs hrt hJ hS => ?_)
        obtain ⟨z, rfl⟩ : ∃ z, r = some (vi z) := hrt
        show W p l e room_1 s m #[Value.ref b] below meth c H locs _ _ _ (F0 m 447 ls [Value.int z])
        refine lv_aload_n hx hb d_law_447 rfl (lv_at hl 2 rfl) ?_
        refine lv_aload_n hx hb d_law_448 rfl (lv_at hl 0 rfl) ?_
        refine lv_iload_n hx hb d_law_449 rfl (lv_at hl 3 rfl) ?_
        refine lv_iconst (v := 1) hx hb d_law_450 (by decide) ?_
        refine lv_iadd hx hb d_law_451 ?_
        refine va_sld hx hb hX hbl hbA hS g1 d_law_452 ?_
        refine lv_aload_n hx hb d_law_453 rfl (lv_at hl 0 rfl) ?_
        refine lv_iload_n hx hb d_law_454 rfl (lv_at hl 3 rfl) ?_
        refine lv_iconst (v := 2) hx hb d_law_455 (by decide) ?_
        refine lv_iadd hx hb d_law_456 ?_
        refine va_sld hx hb hX hbl hbA hS g2 d_law_457 ?_
        refine lw_M (cargs := [vi (xs (nI i + 1).toNatClampNeg), vi (xs (nI i + 2).toNatClampNeg)]) C0 E hJ hS hl.1 k_LW_52 dM (mm_okl.c lw_vi (mm_okl.c lw_vi trivial)) rfl ⟨by decide, by decide⟩ d_law_458 (Nat.le_of_ble_eq_true rfl) ⟨by omega, by omega⟩ rfl (fun H locs hJ hS => ?_)
        show W p l e room_1 s m #[Value.ref b] below meth c H locs _ _ _ (F0 m 461 ls [Value.int z, Value.int z])
        refine lv_icmp_eq (tgt := 672) hx hb d_law_461 (by decide) (fun _ => ?_) (fun h => absurd rfl h)
        exact fin _ _ _ _ hJ hREL2 hS
      · refine lv_tableIn (off := 433) (tgt := 466) hx hb d_law_33 (by omega) (by omega) (by rw [hw]; rfl) (by decide) ?_
        obtain ⟨r, ⟨K1, I1, J1, F1, D1, R1, nx1, sl1⟩, ⟨r2, ⟨K2, I2, J2, F2, D2, R2, nx2, sl2⟩, ⟨hrr, hREL2⟩, dM⟩, dC⟩ := Q_told (K := K) (Km := Km) (Fm := Fm) (Rm := Rm) (nxm := nxm) (slm := slm) (th := (xs (nI i + 1).toNatClampNeg)) (kk := (xs (nI i + 2).toNatClampNeg)) hC hM hI hW
        subst hrr
        have hb1 := rels_nx hREL2
        refine lv_aload_n hx hb d_law_466 rfl (lv_at hl 1 rfl) ?_
        refine lv_aload_n hx hb d_law_467 rfl (lv_at hl 0 rfl) ?_
        refine lv_iload_n hx hb d_law_468 rfl (lv_at hl 3 rfl) ?_
        refine lv_iconst (v := 1) hx hb d_law_469 (by decide) ?_
        refine lv_iadd hx hb d_law_470 ?_
        refine va_sld hx hb hX hbl hbA hS g1 d_law_471 ?_
        refine lv_aload_n hx hb d_law_472 rfl (lv_at hl 0 rfl) ?_
        refine lv_iload_n hx hb d_law_473 rfl (lv_at hl 3 rfl) ?_
        refine lv_iconst (v := 2) hx hb d_law_474 (by decide) ?_
        refine lv_iadd hx hb d_law_475 ?_
        refine va_sld hx hb hX hbl hbA hS g2 d_law_476 ?_
        refine lw_C (cargs := [vi (xs (nI i + 1).toNatClampNeg), vi (xs (nI i + 2).toNatClampNeg)]) C0 E hJ hS hl.1 k_LW_53 dC (mm_okl.c lw_vi (mm_okl.c lw_vi trivial)) ⟨by decide, by decide⟩ d_law_477 (Nat.le_of_ble_eq_true rfl) hb1 rfl (fun H locs hrt hJ hS => ?_)
        obtain ⟨z, rfl⟩ : ∃ z, r = some (vi z) := hrt
        show W p l e room_1 s m #[Value.ref b] below meth c H locs _ _ _ (F0 m 480 ls [Value.int z])
        refine lv_aload_n hx hb d_law_480 rfl (lv_at hl 2 rfl) ?_
        refine lv_aload_n hx hb d_law_481 rfl (lv_at hl 0 rfl) ?_
        refine lv_iload_n hx hb d_law_482 rfl (lv_at hl 3 rfl) ?_
        refine lv_iconst (v := 1) hx hb d_law_483 (by decide) ?_
        refine lv_iadd hx hb d_law_484 ?_
        refine va_sld hx hb hX hbl hbA hS g1 d_law_485 ?_
        refine lv_aload_n hx hb d_law_486 rfl (lv_at hl 0 rfl) ?_
        refine lv_iload_n hx hb d_law_487 rfl (lv_at hl 3 rfl) ?_
        refine lv_iconst (v := 2) hx hb d_law_488 (by decide) ?_
        refine lv_iadd hx hb d_law_489 ?_
        refine va_sld hx hb hX hbl hbA hS g2 d_law_490 ?_
        refine lw_M (cargs := [vi (xs (nI i + 1).toNatClampNeg), vi (xs (nI i + 2).toNatClampNeg)]) C0 E hJ hS hl.1 k_LW_56 dM (mm_okl.c lw_vi (mm_okl.c lw_vi trivial)) rfl ⟨by decide, by decide⟩ d_law_491 (Nat.le_of_ble_eq_true rfl) ⟨by omega, by omega⟩ rfl (fun H locs hJ hS => ?_)
        show W p l e room_1 s m #[Value.ref b] below meth c H locs _ _ _ (F0 m 494 ls [Value.int z, Value.int z])
        refine lv_icmp_eq (tgt := 672) hx hb d_law_494 (by decide) (fun _ => ?_) (fun h => absurd rfl h)
        exact fin _ _ _ _ hJ hREL2 hS
      · refine lv_tableIn (off := 466) (tgt := 499) hx hb d_law_33 (by omega) (by omega) (by rw [hw]; rfl) (by decide) ?_
        obtain ⟨r, ⟨K1, I1, J1, F1, D1, R1, nx1, sl1⟩, ⟨r2, ⟨K2, I2, J2, F2, D2, R2, nx2, sl2⟩, ⟨hrr, hREL2⟩, dM⟩, dC⟩ := Q_thing (K := K) (Km := Km) (Fm := Fm) (Rm := Rm) (nxm := nxm) (slm := slm) (th := (xs (nI i + 1).toNatClampNeg)) (kk := (xs (nI i + 2).toNatClampNeg)) hC hM hI hW
        subst hrr
        have hb1 := rels_nx hREL2
        refine lv_aload_n hx hb d_law_499 rfl (lv_at hl 1 rfl) ?_
        refine lv_aload_n hx hb d_law_500 rfl (lv_at hl 0 rfl) ?_
        refine lv_iload_n hx hb d_law_501 rfl (lv_at hl 3 rfl) ?_
        refine lv_iconst (v := 1) hx hb d_law_502 (by decide) ?_
        refine lv_iadd hx hb d_law_503 ?_
        refine va_sld hx hb hX hbl hbA hS g1 d_law_504 ?_
        refine lv_aload_n hx hb d_law_505 rfl (lv_at hl 0 rfl) ?_
        refine lv_iload_n hx hb d_law_506 rfl (lv_at hl 3 rfl) ?_
        refine lv_iconst (v := 2) hx hb d_law_507 (by decide) ?_
        refine lv_iadd hx hb d_law_508 ?_
        refine va_sld hx hb hX hbl hbA hS g2 d_law_509 ?_
        refine lw_C (cargs := [vi (xs (nI i + 1).toNatClampNeg), vi (xs (nI i + 2).toNatClampNeg)]) C0 E hJ hS hl.1 k_LW_57 dC (mm_okl.c lw_vi (mm_okl.c lw_vi trivial)) ⟨by decide, by decide⟩ d_law_510 (Nat.le_of_ble_eq_true rfl) hb1 rfl (fun H locs hrt hJ hS => ?_)
        obtain ⟨z, rfl⟩ : ∃ z, r = some (vi z) := hrt
        show W p l e room_1 s m #[Value.ref b] below meth c H locs _ _ _ (F0 m 513 ls [Value.int z])
        refine lv_aload_n hx hb d_law_513 rfl (lv_at hl 2 rfl) ?_
        refine lv_aload_n hx hb d_law_514 rfl (lv_at hl 0 rfl) ?_
        refine lv_iload_n hx hb d_law_515 rfl (lv_at hl 3 rfl) ?_
        refine lv_iconst (v := 1) hx hb d_law_516 (by decide) ?_
        refine lv_iadd hx hb d_law_517 ?_
        refine va_sld hx hb hX hbl hbA hS g1 d_law_518 ?_
        refine lv_aload_n hx hb d_law_519 rfl (lv_at hl 0 rfl) ?_
        refine lv_iload_n hx hb d_law_520 rfl (lv_at hl 3 rfl) ?_
        refine lv_iconst (v := 2) hx hb d_law_521 (by decide) ?_
        refine lv_iadd hx hb d_law_522 ?_
        refine va_sld hx hb hX hbl hbA hS g2 d_law_523 ?_
        refine lw_M (cargs := [vi (xs (nI i + 1).toNatClampNeg), vi (xs (nI i + 2).toNatClampNeg)]) C0 E hJ hS hl.1 k_LW_60 dM (mm_okl.c lw_vi (mm_okl.c lw_vi trivial)) rfl ⟨by decide, by decide⟩ d_law_524 (Nat.le_of_ble_eq_true rfl) ⟨by omega, by omega⟩ rfl (fun H locs hJ hS => ?_)
        show W p l e room_1 s m #[Value.ref b] below meth c H locs _ _ _ (F0 m 527 ls [Value.int z, Value.int z])
        refine lv_icmp_eq (tgt := 672) hx hb d_law_527 (by decide) (fun _ => ?_) (fun h => absurd rfl h)
        exact fin _ _ _ _ hJ hREL2 hS
      · refine lv_tableIn (off := 499) (tgt := 532) hx hb d_law_33 (by omega) (by omega) (by rw [hw]; rfl) (by decide) ?_
        obtain ⟨r, ⟨K1, I1, J1, F1, D1, R1, nx1, sl1⟩, ⟨r2, ⟨K2, I2, J2, F2, D2, R2, nx2, sl2⟩, ⟨hrr, hREL2⟩, dM⟩, dC⟩ := Q_item (K := K) (Km := Km) (Fm := Fm) (Rm := Rm) (nxm := nxm) (slm := slm) (th := (xs (nI i + 1).toNatClampNeg)) (kk := (xs (nI i + 2).toNatClampNeg)) hC hM hI hW
        subst hrr
        have hb1 := rels_nx hREL2
        refine lv_aload_n hx hb d_law_532 rfl (lv_at hl 1 rfl) ?_
        refine lv_aload_n hx hb d_law_533 rfl (lv_at hl 0 rfl) ?_
        refine lv_iload_n hx hb d_law_534 rfl (lv_at hl 3 rfl) ?_
        refine lv_iconst (v := 1) hx hb d_law_535 (by decide) ?_
        refine lv_iadd hx hb d_law_536 ?_
        refine va_sld hx hb hX hbl hbA hS g1 d_law_537 ?_
        refine lv_aload_n hx hb d_law_538 rfl (lv_at hl 0 rfl) ?_
        refine lv_iload_n hx hb d_law_539 rfl (lv_at hl 3 rfl) ?_
        refine lv_iconst (v := 2) hx hb d_law_540 (by decide) ?_
        refine lv_iadd hx hb d_law_541 ?_
        refine va_sld hx hb hX hbl hbA hS g2 d_law_542 ?_
        refine lw_C (cargs := [vi (xs (nI i + 1).toNatClampNeg), vi (xs (nI i + 2).toNatClampNeg)]) C0 E hJ hS hl.1 k_LW_61 dC (mm_okl.c lw_vi (mm_okl.c lw_vi trivial)) ⟨by decide, by decide⟩ d_law_543 (Nat.le_of_ble_eq_true rfl) hb1 rfl (fun H locs hrt hJ hS => ?_)
        obtain ⟨z, rfl⟩ : ∃ z, r = some (vl z) := hrt
        show W p l e room_1 s m #[Value.ref b] below meth c H locs _ _ _ (F0 m 546 ls [Value.long z])
        refine lv_aload_n hx hb d_law_546 rfl (lv_at hl 2 rfl) ?_
        refine lv_aload_n hx hb d_law_547 rfl (lv_at hl 0 rfl) ?_
        refine lv_iload_n hx hb d_law_548 rfl (lv_at hl 3 rfl) ?_
        refine lv_iconst (v := 1) hx hb d_law_549 (by decide) ?_
        refine lv_iadd hx hb d_law_550 ?_
        refine va_sld hx hb hX hbl hbA hS g1 d_law_551 ?_
        refine lv_aload_n hx hb d_law_552 rfl (lv_at hl 0 rfl) ?_
        refine lv_iload_n hx hb d_law_553 rfl (lv_at hl 3 rfl) ?_
        refine lv_iconst (v := 2) hx hb d_law_554 (by decide) ?_
        refine lv_iadd hx hb d_law_555 ?_
        refine va_sld hx hb hX hbl hbA hS g2 d_law_556 ?_
        refine lw_M (cargs := [vi (xs (nI i + 1).toNatClampNeg), vi (xs (nI i + 2).toNatClampNeg)]) C0 E hJ hS hl.1 k_LW_64 dM (mm_okl.c lw_vi (mm_okl.c lw_vi trivial)) rfl ⟨by decide, by decide⟩ d_law_557 (Nat.le_of_ble_eq_true rfl) ⟨by omega, by omega⟩ rfl (fun H locs hJ hS => ?_)
        show W p l e room_1 s m #[Value.ref b] below meth c H locs _ _ _ (F0 m 560 ls [Value.long z, Value.long z])
        refine W.lcmp hx hb d_law_560 ?_
        refine lv_if_eq (tgt := 672) hx hb d_law_561 (by decide) (fun _ => ?_) (fun h => absurd ((lg_cmp_eq _ _).mpr rfl) h)
        exact fin _ _ _ _ hJ hREL2 hS
      · refine lv_tableIn (off := 533) (tgt := 566) hx hb d_law_33 (by omega) (by omega) (by rw [hw]; rfl) (by decide) ?_
        obtain ⟨r, ⟨K1, I1, J1, F1, D1, R1, nx1, sl1⟩, ⟨r2, ⟨K2, I2, J2, F2, D2, R2, nx2, sl2⟩, ⟨hrr, hREL2⟩, dM⟩, dC⟩ := Q_field (K := K) (Km := Km) (Fm := Fm) (Rm := Rm) (nxm := nxm) (slm := slm) (th := (xs (nI i + 1).toNatClampNeg)) (kk := (xs (nI i + 2).toNatClampNeg)) hC hM hI hW
        subst hrr
        have hb1 := rels_nx hREL2
        refine lv_aload_n hx hb d_law_566 rfl (lv_at hl 1 rfl) ?_
        refine lv_aload_n hx hb d_law_567 rfl (lv_at hl 0 rfl) ?_
        refine lv_iload_n hx hb d_law_568 rfl (lv_at hl 3 rfl) ?_
        refine lv_iconst (v := 1) hx hb d_law_569 (by decide) ?_
        refine lv_iadd hx hb d_law_570 ?_
        refine va_sld hx hb hX hbl hbA hS g1 d_law_571 ?_
        refine lv_aload_n hx hb d_law_572 rfl (lv_at hl 0 rfl) ?_
        refine lv_iload_n hx hb d_law_573 rfl (lv_at hl 3 rfl) ?_
        refine lv_iconst (v := 2) hx hb d_law_574 (by decide) ?_
        refine lv_iadd hx hb d_law_575 ?_
        refine va_sld hx hb hX hbl hbA hS g2 d_law_576 ?_
        refine lw_C (cargs := [vi (xs (nI i + 1).toNatClampNeg), vi (xs (nI i + 2).toNatClampNeg)]) C0 E hJ hS hl.1 k_LW_65 dC (mm_okl.c lw_vi (mm_okl.c lw_vi trivial)) ⟨by decide, by decide⟩ d_law_577 (Nat.le_of_ble_eq_true rfl) hb1 rfl (fun H locs hrt hJ hS => ?_)
        obtain ⟨z, rfl⟩ : ∃ z, r = some (vl z) := hrt
        show W p l e room_1 s m #[Value.ref b] below meth c H locs _ _ _ (F0 m 580 ls [Value.long z])
        refine lv_aload_n hx hb d_law_580 rfl (lv_at hl 2 rfl) ?_
        refine lv_aload_n hx hb d_law_581 rfl (lv_at hl 0 rfl) ?_
        refine lv_iload_n hx hb d_law_582 rfl (lv_at hl 3 rfl) ?_
        refine lv_iconst (v := 1) hx hb d_law_583 (by decide) ?_
        refine lv_iadd hx hb d_law_584 ?_
        refine va_sld hx hb hX hbl hbA hS g1 d_law_585 ?_
        refine lv_aload_n hx hb d_law_586 rfl (lv_at hl 0 rfl) ?_
        refine lv_iload_n hx hb d_law_587 rfl (lv_at hl 3 rfl) ?_
        refine lv_iconst (v := 2) hx hb d_law_588 (by decide) ?_
        refine lv_iadd hx hb d_law_589 ?_
        refine va_sld hx hb hX hbl hbA hS g2 d_law_590 ?_
        refine lw_M (cargs := [vi (xs (nI i + 1).toNatClampNeg), vi (xs (nI i + 2).toNatClampNeg)]) C0 E hJ hS hl.1 k_LW_68 dM (mm_okl.c lw_vi (mm_okl.c lw_vi trivial)) rfl ⟨by decide, by decide⟩ d_law_591 (Nat.le_of_ble_eq_true rfl) ⟨by omega, by omega⟩ rfl (fun H locs hJ hS => ?_)
        show W p l e room_1 s m #[Value.ref b] below meth c H locs _ _ _ (F0 m 594 ls [Value.long z, Value.long z])
        refine W.lcmp hx hb d_law_594 ?_
        refine lv_if_eq (tgt := 672) hx hb d_law_595 (by decide) (fun _ => ?_) (fun h => absurd ((lg_cmp_eq _ _).mpr rfl) h)
        exact fin _ _ _ _ hJ hREL2 hS
      · refine lv_tableIn (off := 567) (tgt := 600) hx hb d_law_33 (by omega) (by omega) (by rw [hw]; rfl) (by decide) ?_
        obtain ⟨r, ⟨K1, I1, J1, F1, D1, R1, nx1, sl1⟩, ⟨r2, ⟨K2, I2, J2, F2, D2, R2, nx2, sl2⟩, ⟨hrr, hREL2⟩, dM⟩, dC⟩ := Q_ring (K := K) (Km := Km) (Fm := Fm) (Rm := Rm) (nxm := nxm) (slm := slm) (th := (xs (nI i + 1).toNatClampNeg)) hC hM hI hW
        subst hrr
        have hb1 := rels_nx hREL2
        refine lv_aload_n hx hb d_law_600 rfl (lv_at hl 1 rfl) ?_
        refine lv_aload_n hx hb d_law_601 rfl (lv_at hl 0 rfl) ?_
        refine lv_iload_n hx hb d_law_602 rfl (lv_at hl 3 rfl) ?_
        refine lv_iconst (v := 1) hx hb d_law_603 (by decide) ?_
        refine lv_iadd hx hb d_law_604 ?_
        refine va_sld hx hb hX hbl hbA hS g1 d_law_605 ?_
        refine lw_C (cargs := [vi (xs (nI i + 1).toNatClampNeg)]) C0 E hJ hS hl.1 k_LW_69 dC (mm_okl.c lw_vi trivial) ⟨by decide, by decide⟩ d_law_606 (Nat.le_of_ble_eq_true rfl) hb1 rfl (fun H locs hrt hJ hS => ?_)
        obtain ⟨z, rfl⟩ : ∃ z, r = some (vi z) := hrt
        show W p l e room_1 s m #[Value.ref b] below meth c H locs _ _ _ (F0 m 609 ls [Value.int z])
        refine lv_aload_n hx hb d_law_609 rfl (lv_at hl 2 rfl) ?_
        refine lv_aload_n hx hb d_law_610 rfl (lv_at hl 0 rfl) ?_
        refine lv_iload_n hx hb d_law_611 rfl (lv_at hl 3 rfl) ?_
        refine lv_iconst (v := 1) hx hb d_law_612 (by decide) ?_
        refine lv_iadd hx hb d_law_613 ?_
        refine va_sld hx hb hX hbl hbA hS g1 d_law_614 ?_
        refine lw_M (cargs := [vi (xs (nI i + 1).toNatClampNeg)]) C0 E hJ hS hl.1 k_LW_72 dM (mm_okl.c lw_vi trivial) rfl ⟨by decide, by decide⟩ d_law_615 (Nat.le_of_ble_eq_true rfl) ⟨by omega, by omega⟩ rfl (fun H locs hJ hS => ?_)
        show W p l e room_1 s m #[Value.ref b] below meth c H locs _ _ _ (F0 m 618 ls [Value.int z, Value.int z])
        refine lv_icmp_eq (tgt := 672) hx hb d_law_618 (by decide) (fun _ => ?_) (fun h => absurd rfl h)
        exact fin _ _ _ _ hJ hREL2 hS
      · refine lv_tableIn (off := 590) (tgt := 623) hx hb d_law_33 (by omega) (by omega) (by rw [hw]; rfl) (by decide) ?_
        obtain ⟨r, ⟨K1, I1, J1, F1, D1, R1, nx1, sl1⟩, ⟨r2, ⟨K2, I2, J2, F2, D2, R2, nx2, sl2⟩, ⟨hrr, hREL2⟩, dM⟩, dC⟩ := Q_trace (K := K) (Km := Km) (Fm := Fm) (Rm := Rm) (nxm := nxm) (slm := slm)  hC hM hI hW
        subst hrr
        have hb1 := rels_nx hREL2
        refine lv_aload_n hx hb d_law_623 rfl (lv_at hl 1 rfl) ?_
        refine lw_C (cargs := []) C0 E hJ hS hl.1 k_LW_73 dC trivial ⟨by decide, by decide⟩ d_law_624 (Nat.le_of_ble_eq_true rfl) hb1 rfl (fun H locs hrt hJ hS => ?_)
        obtain ⟨z, rfl⟩ : ∃ z, r = some (vi z) := hrt
        show W p l e room_1 s m #[Value.ref b] below meth c H locs _ _ _ (F0 m 627 ls [Value.int z])
        refine lv_aload_n hx hb d_law_627 rfl (lv_at hl 2 rfl) ?_
        refine lw_M (cargs := []) C0 E hJ hS hl.1 k_LW_77 dM trivial rfl ⟨by decide, by decide⟩ d_law_628 (Nat.le_of_ble_eq_true rfl) ⟨by omega, by omega⟩ rfl (fun H locs hJ hS => ?_)
        show W p l e room_1 s m #[Value.ref b] below meth c H locs _ _ _ (F0 m 631 ls [Value.int z, Value.int z])
        refine lv_icmp_eq (tgt := 672) hx hb d_law_631 (by decide) (fun _ => ?_) (fun h => absurd rfl h)
        exact fin _ _ _ _ hJ hREL2 hS
      · refine lv_tableIn (off := 603) (tgt := 636) hx hb d_law_33 (by omega) (by omega) (by rw [hw]; rfl) (by decide) ?_
        obtain ⟨r, ⟨K1, I1, J1, F1, D1, R1, nx1, sl1⟩, ⟨r2, ⟨K2, I2, J2, F2, D2, R2, nx2, sl2⟩, ⟨hrr, hREL2⟩, dM⟩, dC⟩ := Q_count (K := K) (Km := Km) (Fm := Fm) (Rm := Rm) (nxm := nxm) (slm := slm) (wh := (xs (nI i + 1).toNatClampNeg)) hC hM hI hW
        subst hrr
        have hb1 := rels_nx hREL2
        refine lv_aload_n hx hb d_law_636 rfl (lv_at hl 1 rfl) ?_
        refine lv_aload_n hx hb d_law_637 rfl (lv_at hl 0 rfl) ?_
        refine lv_iload_n hx hb d_law_638 rfl (lv_at hl 3 rfl) ?_
        refine lv_iconst (v := 1) hx hb d_law_639 (by decide) ?_
        refine lv_iadd hx hb d_law_640 ?_
        refine va_sld hx hb hX hbl hbA hS g1 d_law_641 ?_
        refine lw_C (cargs := [vi (xs (nI i + 1).toNatClampNeg)]) C0 E hJ hS hl.1 k_LW_78 dC (mm_okl.c lw_vi trivial) ⟨by decide, by decide⟩ d_law_642 (Nat.le_of_ble_eq_true rfl) hb1 rfl (fun H locs hrt hJ hS => ?_)
        obtain ⟨z, rfl⟩ : ∃ z, r = some (vi z) := hrt
        show W p l e room_1 s m #[Value.ref b] below meth c H locs _ _ _ (F0 m 645 ls [Value.int z])
        refine lv_aload_n hx hb d_law_645 rfl (lv_at hl 2 rfl) ?_
        refine lv_aload_n hx hb d_law_646 rfl (lv_at hl 0 rfl) ?_
        refine lv_iload_n hx hb d_law_647 rfl (lv_at hl 3 rfl) ?_
        refine lv_iconst (v := 1) hx hb d_law_648 (by decide) ?_
        refine lv_iadd hx hb d_law_649 ?_
        refine va_sld hx hb hX hbl hbA hS g1 d_law_650 ?_
        refine lw_M (cargs := [vi (xs (nI i + 1).toNatClampNeg)]) C0 E hJ hS hl.1 k_LW_81 dM (mm_okl.c lw_vi trivial) rfl ⟨by decide, by decide⟩ d_law_651 (Nat.le_of_ble_eq_true rfl) ⟨by omega, by omega⟩ rfl (fun H locs hJ hS => ?_)
        show W p l e room_1 s m #[Value.ref b] below meth c H locs _ _ _ (F0 m 654 ls [Value.int z, Value.int z])
        refine lv_icmp_eq (tgt := 672) hx hb d_law_654 (by decide) (fun _ => ?_) (fun h => absurd rfl h)
        exact fin _ _ _ _ hJ hREL2 hS
      · refine lv_tableIn (off := 626) (tgt := 659) hx hb d_law_33 (by omega) (by omega) (by rw [hw]; rfl) (by decide) ?_
        obtain ⟨r, ⟨K1, I1, J1, F1, D1, R1, nx1, sl1⟩, ⟨r2, ⟨K2, I2, J2, F2, D2, R2, nx2, sl2⟩, ⟨hrr, hREL2⟩, dM⟩, dC⟩ := Q_clear (K := K) (Km := Km) (Fm := Fm) (Rm := Rm) (nxm := nxm) (slm := slm)  hC hM hI hW
        subst hrr
        have hb1 := rels_nx hREL2
        refine lv_aload_n hx hb d_law_659 rfl (lv_at hl 1 rfl) ?_
        refine lw_C (cargs := []) C0 E hJ hS hl.1 k_LW_82 dC trivial ⟨by decide, by decide⟩ d_law_660 (Nat.le_of_ble_eq_true rfl) hb1 rfl (fun H locs hrt hJ hS => ?_)
        obtain ⟨z, rfl⟩ : ∃ z, r = some (vi z) := hrt
        show W p l e room_1 s m #[Value.ref b] below meth c H locs _ _ _ (F0 m 663 ls [Value.int z])
        refine lv_aload_n hx hb d_law_663 rfl (lv_at hl 2 rfl) ?_
        refine lw_M (cargs := []) C0 E hJ hS hl.1 k_LW_85 dM trivial rfl ⟨by decide, by decide⟩ d_law_664 (Nat.le_of_ble_eq_true rfl) ⟨by omega, by omega⟩ rfl (fun H locs hJ hS => ?_)
        show W p l e room_1 s m #[Value.ref b] below meth c H locs _ _ _ (F0 m 667 ls [Value.int z, Value.int z])
        refine lv_icmp_eq (tgt := 672) hx hb d_law_667 (by decide) (fun _ => ?_) (fun h => absurd rfl h)
        exact fin _ _ _ _ hJ hREL2 hS
