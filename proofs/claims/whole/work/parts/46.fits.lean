def rg (lo hi : Int) (v : Int32) : Bool := decide (lo ≤ v.toInt ∧ v.toInt ≤ hi)
theorem rg_t {lo hi : Int} {v : Int32} : rg lo hi v = true ↔ lo ≤ v.toInt ∧ v.toInt ≤ hi := decide_eq_true_iff
theorem rg_f {lo hi : Int} {v : Int32} : rg lo hi v = false ↔ ¬ (lo ≤ v.toInt ∧ v.toInt ≤ hi) := decide_eq_false_iff_not
def ri (lo hi v : Int64) : Bool := decide (lo.toInt ≤ v.toInt ∧ v.toInt ≤ hi.toInt)
theorem ri_t {lo hi v : Int64} : ri lo hi v = true ↔ lo.toInt ≤ v.toInt ∧ v.toInt ≤ hi.toInt := decide_eq_true_iff
theorem ri_f {lo hi v : Int64} : ri lo hi v = false ↔ ¬ (lo.toInt ≤ v.toInt ∧ v.toInt ≤ hi.toInt) := decide_eq_false_iff_not
theorem jl2 {x : Int32} : x.toInt64.toInt = x.toInt := Int32.toInt_toInt64 x
theorem i_m60 : (-(nI 60)).toInt = -60 := by decide
theorem i_m1i : (-(nI 1)).toInt = -1 := by decide
theorem sv_0_0 : mm_sv 0 0 = nI 1 := by decide
theorem sv_0_1 : mm_sv 0 1 = nI 0 := by decide
theorem sv_0_2 : mm_sv 0 2 = nI 0 := by decide
theorem sv_0_3 : mm_sv 0 3 = nI 2 := by decide
theorem sv_0_4 : mm_sv 0 4 = nI 0 := by decide
theorem sv_0_5 : mm_sv 0 5 = nI 7 := by decide
theorem sv_0_6 : mm_sv 0 6 = nI 3 := by decide
theorem sv_0_7 : mm_sv 0 7 = nI 0 := by decide
theorem sv_0_8 : mm_sv 0 8 = nI 7 := by decide
theorem sv_0_9 : mm_sv 0 9 = nI 1 := by decide
theorem sv_0_10 : mm_sv 0 10 = nI 8 := by decide
theorem sv_0_11 : mm_sv 0 11 = nI 1 := by decide
theorem sv_0_12 : mm_sv 0 12 = nI 1 := by decide
theorem sv_0_13 : mm_sv 0 13 = nI 8 := by decide
theorem sv_0_14 : mm_sv 0 14 = nI 1 := by decide
theorem sv_0_15 : mm_sv 0 15 = nI 2 := by decide
theorem sv_0_16 : mm_sv 0 16 = nI 9 := by decide
theorem sv_0_17 : mm_sv 0 17 = nI 2 := by decide
theorem sv_0_18 : mm_sv 0 18 = nI 3 := by decide
theorem sv_0_19 : mm_sv 0 19 = nI 9 := by decide
theorem sv_0_20 : mm_sv 0 20 = nI 3 := by decide
theorem sv_0_21 : mm_sv 0 21 = nI 2 := by decide
theorem sv_0_22 : mm_sv 0 22 = nI 10 := by decide
theorem sv_0_23 : mm_sv 0 23 = nI 2 := by decide
theorem sv_0_24 : mm_sv 0 24 = nI 3 := by decide
theorem sv_0_25 : mm_sv 0 25 = nI 10 := by decide
theorem sv_0_26 : mm_sv 0 26 = nI 3 := by decide
theorem sv_0_27 : mm_sv 0 27 = nI 1 := by decide
theorem sv_0_28 : mm_sv 0 28 = nI 2 := by decide
theorem sv_0_29 : mm_sv 0 29 = nI 2 := by decide
theorem sv_0_30 : mm_sv 0 30 = nI 1 := by decide
theorem sv_0_31 : mm_sv 0 31 = nI 3 := by decide
theorem sv_0_32 : mm_sv 0 32 = nI 3 := by decide
theorem sv_0_33 : mm_sv 0 33 = nI 19 := by decide
theorem sv_0_34 : mm_sv 0 34 = nI 11 := by decide
theorem sv_0_35 : mm_sv 0 35 = nI 19 := by decide
theorem sv_0_36 : mm_sv 0 36 = nI 4 := by decide
theorem sv_0_37 : mm_sv 0 37 = nI 0 := by decide
theorem sv_0_38 : mm_sv 0 38 = nI 4 := by decide
theorem sv_0_39 : mm_sv 0 39 = nI 4 := by decide
theorem sv_0_40 : mm_sv 0 40 = nI 0 := by decide
theorem sv_0_41 : mm_sv 0 41 = nI 0 := by decide
theorem sv_0_42 : mm_sv 0 42 = nI 4 := by decide
theorem sv_0_43 : mm_sv 0 43 = nI 12 := by decide
theorem sv_0_44 : mm_sv 0 44 = nI 1 := by decide
theorem sv_0_45 : mm_sv 0 45 = nI 4 := by decide
theorem sv_0_46 : mm_sv 0 46 = nI 13 := by decide
theorem sv_0_47 : mm_sv 0 47 = nI 1 := by decide
theorem sv_0_48 : mm_sv 0 48 = nI 4 := by decide
theorem sv_0_49 : mm_sv 0 49 = nI 1 := by decide
theorem sv_0_50 : mm_sv 0 50 = nI 1 := by decide
theorem sv_0_51 : mm_sv 0 51 = nI 4 := by decide
theorem sv_0_52 : mm_sv 0 52 = nI 1 := by decide
theorem sv_0_53 : mm_sv 0 53 = nI 1 := by decide
theorem sv_0_54 : mm_sv 0 54 = nI 4 := by decide
theorem sv_0_55 : mm_sv 0 55 = nI 13 := by decide
theorem sv_0_56 : mm_sv 0 56 = nI 0 := by decide
theorem sv_0_57 : mm_sv 0 57 = nI 20 := by decide
theorem sv_0_58 : mm_sv 0 58 = nI 0 := by decide
theorem sv_0_59 : mm_sv 0 59 = nI 0 := by decide
theorem sv_0_60 : mm_sv 0 60 = nI 1 := by decide
theorem sv_0_61 : mm_sv 0 61 = nI 4 := by decide
theorem sv_0_62 : mm_sv 0 62 = nI 1 := by decide
theorem sv_0_63 : mm_sv 0 63 = nI 1 := by decide
theorem sv_0_64 : mm_sv 0 64 = nI 4 := by decide
theorem sv_0_65 : mm_sv 0 65 = nI 1 := by decide
theorem sv_0_66 : mm_sv 0 66 = nI 1 := by decide
theorem sv_0_67 : mm_sv 0 67 = nI 4 := by decide
theorem sv_0_68 : mm_sv 0 68 = nI 1 := by decide
theorem sv_0_69 : mm_sv 0 69 = nI 1 := by decide
theorem sv_0_70 : mm_sv 0 70 = nI 4 := by decide
theorem sv_0_71 : mm_sv 0 71 = nI 1 := by decide
theorem sv_0_72 : mm_sv 0 72 = nI 1 := by decide
theorem sv_0_73 : mm_sv 0 73 = nI 4 := by decide
theorem sv_0_74 : mm_sv 0 74 = nI 1 := by decide
theorem sv_0_75 : mm_sv 0 75 = nI 1 := by decide
theorem sv_0_76 : mm_sv 0 76 = nI 4 := by decide
theorem sv_0_77 : mm_sv 0 77 = nI 1 := by decide
theorem sv_0_78 : mm_sv 0 78 = nI 3 := by decide
theorem sv_0_79 : mm_sv 0 79 = nI 4 := by decide
theorem sv_0_80 : mm_sv 0 80 = nI 1 := by decide
theorem sv_0_81 : mm_sv 0 81 = nI 2 := by decide
theorem sv_0_82 : mm_sv 0 82 = nI 4 := by decide
theorem sv_0_83 : mm_sv 0 83 = nI 1 := by decide
theorem sv_0_84 : mm_sv 0 84 = nI 1 := by decide
theorem sv_0_85 : mm_sv 0 85 = nI 4 := by decide
theorem sv_0_86 : mm_sv 0 86 = nI 1 := by decide
theorem sv_0_87 : mm_sv 0 87 = nI 1 := by decide
theorem sv_0_88 : mm_sv 0 88 = nI 4 := by decide
theorem sv_0_89 : mm_sv 0 89 = nI 1 := by decide
theorem sv_0_90 : mm_sv 0 90 = nI 1 := by decide
theorem sv_0_91 : mm_sv 0 91 = nI 4 := by decide
theorem sv_0_92 : mm_sv 0 92 = nI 1 := by decide
theorem sv_0_93 : mm_sv 0 93 = nI 1 := by decide
theorem sv_0_94 : mm_sv 0 94 = nI 4 := by decide
theorem sv_0_95 : mm_sv 0 95 = nI 1 := by decide
theorem sv_0_96 : mm_sv 0 96 = nI 1 := by decide
theorem sv_0_97 : mm_sv 0 97 = nI 4 := by decide
theorem sv_0_98 : mm_sv 0 98 = nI 1 := by decide
theorem sv_0_99 : mm_sv 0 99 = nI 1 := by decide
theorem sv_0_100 : mm_sv 0 100 = nI 4 := by decide
theorem sv_0_101 : mm_sv 0 101 = nI 1 := by decide
theorem sv_0_102 : mm_sv 0 102 = nI 3 := by decide
theorem sv_0_103 : mm_sv 0 103 = nI 4 := by decide
theorem sv_0_104 : mm_sv 0 104 = nI 1 := by decide
theorem sv_0_105 : mm_sv 0 105 = nI 2 := by decide
theorem sv_0_106 : mm_sv 0 106 = nI 4 := by decide
theorem sv_0_107 : mm_sv 0 107 = nI 1 := by decide
theorem sv_0_108 : mm_sv 0 108 = nI 4 := by decide
theorem sv_0_109 : mm_sv 0 109 = nI 4 := by decide
theorem sv_0_110 : mm_sv 0 110 = nI 1 := by decide
theorem sv_0_111 : mm_sv 0 111 = nI 4 := by decide
theorem sv_0_112 : mm_sv 0 112 = nI 4 := by decide
theorem sv_0_113 : mm_sv 0 113 = nI 1 := by decide
theorem sv_0_114 : mm_sv 0 114 = nI 4 := by decide
theorem sv_0_115 : mm_sv 0 115 = nI 4 := by decide
theorem sv_0_116 : mm_sv 0 116 = nI 1 := by decide
theorem sv_0_117 : mm_sv 0 117 = nI 4 := by decide
theorem sv_0_118 : mm_sv 0 118 = nI 4 := by decide
theorem sv_0_119 : mm_sv 0 119 = nI 1 := by decide
theorem sv_0_120 : mm_sv 0 120 = nI 4 := by decide
theorem sv_0_121 : mm_sv 0 121 = nI 4 := by decide
theorem sv_0_122 : mm_sv 0 122 = nI 1 := by decide
theorem sv_0_123 : mm_sv 0 123 = nI 4 := by decide
theorem sv_0_124 : mm_sv 0 124 = nI 4 := by decide
theorem sv_0_125 : mm_sv 0 125 = nI 1 := by decide
theorem sv_0_126 : mm_sv 0 126 = nI 1 := by decide
theorem sv_0_127 : mm_sv 0 127 = nI 4 := by decide
theorem sv_0_128 : mm_sv 0 128 = nI 0 := by decide
theorem sv_0_129 : mm_sv 0 129 = nI 1 := by decide
theorem sv_0_130 : mm_sv 0 130 = nI 4 := by decide
theorem sv_0_131 : mm_sv 0 131 = nI 1 := by decide
theorem sv_0_132 : mm_sv 0 132 = nI 2 := by decide
theorem sv_0_133 : mm_sv 0 133 = nI 4 := by decide
theorem sv_0_134 : mm_sv 0 134 = nI 1 := by decide
theorem sv_0_135 : mm_sv 0 135 = nI 1 := by decide
theorem sv_0_136 : mm_sv 0 136 = nI 4 := by decide
theorem sv_0_137 : mm_sv 0 137 = nI 1 := by decide
theorem sv_0_138 : mm_sv 0 138 = nI 4 := by decide
theorem sv_0_139 : mm_sv 0 139 = nI 4 := by decide
theorem sv_0_140 : mm_sv 0 140 = nI 0 := by decide
theorem sv_0_141 : mm_sv 0 141 = nI 4 := by decide
theorem sv_0_142 : mm_sv 0 142 = nI 4 := by decide
theorem sv_0_143 : mm_sv 0 143 = nI 0 := by decide
theorem sv_0_144 : mm_sv 0 144 = nI 1 := by decide
theorem sv_0_145 : mm_sv 0 145 = nI 4 := by decide
theorem sv_0_146 : mm_sv 0 146 = nI 14 := by decide
theorem sv_0_147 : mm_sv 0 147 = nI 4 := by decide
theorem sv_0_148 : mm_sv 0 148 = nI 4 := by decide
theorem sv_0_149 : mm_sv 0 149 = nI 14 := by decide
theorem sv_0_150 : mm_sv 0 150 = nI 1 := by decide
theorem sv_0_151 : mm_sv 0 151 = nI 4 := by decide
theorem sv_0_152 : mm_sv 0 152 = nI 4 := by decide
theorem sv_0_153 : mm_sv 0 153 = nI 19 := by decide
theorem sv_0_154 : mm_sv 0 154 = nI 15 := by decide
theorem sv_0_155 : mm_sv 0 155 = nI 4 := by decide
theorem sv_0_156 : mm_sv 0 156 = nI 19 := by decide
theorem sv_0_157 : mm_sv 0 157 = nI 16 := by decide
theorem sv_0_158 : mm_sv 0 158 = nI 4 := by decide
theorem sv_0_159 : mm_sv 0 159 = nI 1 := by decide
theorem sv_0_160 : mm_sv 0 160 = nI 4 := by decide
theorem sv_0_161 : mm_sv 0 161 = nI 1 := by decide
theorem sv_0_162 : mm_sv 0 162 = nI 2 := by decide
theorem sv_0_163 : mm_sv 0 163 = nI 4 := by decide
theorem sv_0_164 : mm_sv 0 164 = nI 0 := by decide
theorem sv_0_165 : mm_sv 0 165 = nI 1 := by decide
theorem sv_0_166 : mm_sv 0 166 = nI 4 := by decide
theorem sv_0_167 : mm_sv 0 167 = nI 0 := by decide
theorem sv_0_168 : mm_sv 0 168 = nI 1 := by decide
theorem sv_0_169 : mm_sv 0 169 = nI 4 := by decide
theorem sv_0_170 : mm_sv 0 170 = nI 1 := by decide
theorem sv_0_171 : mm_sv 0 171 = nI 2 := by decide
theorem sv_0_172 : mm_sv 0 172 = nI 4 := by decide
theorem sv_0_173 : mm_sv 0 173 = nI 0 := by decide
theorem sv_0_174 : mm_sv 0 174 = nI 0 := by decide
theorem sv_0_175 : mm_sv 0 175 = nI 17 := by decide
theorem sv_0_176 : mm_sv 0 176 = nI 0 := by decide
theorem sv_0_177 : mm_sv 0 177 = nI 5 := by decide
theorem sv_0_178 : mm_sv 0 178 = nI 0 := by decide
theorem sv_0_179 : mm_sv 0 179 = nI 0 := by decide
theorem sv_0_180 : mm_sv 0 180 = nI 5 := by decide
theorem sv_0_181 : mm_sv 0 181 = nI 1 := by decide
theorem sv_0_182 : mm_sv 0 182 = nI 18 := by decide
theorem sv_0_183 : mm_sv 0 183 = nI 5 := by decide
theorem sv_0_184 : mm_sv 0 184 = nI 4 := by decide
theorem sv_0_185 : mm_sv 0 185 = nI 0 := by decide
theorem sv_0_186 : mm_sv 0 186 = nI 6 := by decide
theorem sv_0_187 : mm_sv 0 187 = nI 0 := by decide
theorem sv_0_188 : mm_sv 0 188 = nI 0 := by decide
theorem sv_0_189 : mm_sv 0 189 = nI 0 := by decide
theorem sv_0_190 : mm_sv 0 190 = nI 0 := by decide
theorem sv_0_191 : mm_sv 0 191 = nI 0 := by decide
theorem sv_0_192 : mm_sv 0 192 = nI 0 := by decide
theorem sv_0_193 : mm_sv 0 193 = nI 4 := by decide
theorem sv_0_194 : mm_sv 0 194 = nI 0 := by decide
theorem sv_0_195 : mm_sv 0 195 = nI 0 := by decide
theorem sv_0_196 : mm_sv 0 196 = nI 4 := by decide
theorem sv_0_197 : mm_sv 0 197 = nI 0 := by decide
theorem sv_1_0 : mm_sv 1 0 = nI 0 := by decide
theorem sv_1_1 : mm_sv 1 1 = nI 0 := by decide
theorem sv_1_2 : mm_sv 1 2 = nI 0 := by decide
theorem sv_1_3 : mm_sv 1 3 = nI 0 := by decide
theorem sv_1_4 : mm_sv 1 4 = nI 0 := by decide
theorem sv_1_5 : mm_sv 1 5 = nI 0 := by decide
theorem sv_1_6 : mm_sv 1 6 = nI 0 := by decide
theorem sv_1_7 : mm_sv 1 7 = -(nI 60) := by decide
theorem sv_1_8 : mm_sv 1 8 = nI 0 := by decide
theorem sv_1_9 : mm_sv 1 9 = nI 0 := by decide
theorem sv_1_10 : mm_sv 1 10 = nI 0 := by decide
theorem sv_1_11 : mm_sv 1 11 = nI 0 := by decide
theorem sv_1_12 : mm_sv 1 12 = nI 0 := by decide
theorem sv_1_13 : mm_sv 1 13 = nI 0 := by decide
theorem sv_1_14 : mm_sv 1 14 = nI 0 := by decide
theorem sv_1_15 : mm_sv 1 15 = nI 0 := by decide
theorem sv_1_16 : mm_sv 1 16 = nI 0 := by decide
theorem sv_1_17 : mm_sv 1 17 = -(nI 1) := by decide
theorem sv_1_18 : mm_sv 1 18 = nI 0 := by decide
theorem sv_1_19 : mm_sv 1 19 = nI 0 := by decide
theorem sv_1_20 : mm_sv 1 20 = nI 1 := by decide
theorem sv_2_0 : mm_sv 2 0 = nI 0 := by decide
theorem sv_2_1 : mm_sv 2 1 = nI 7 := by decide
theorem sv_2_2 : mm_sv 2 2 = nI 3 := by decide
theorem sv_2_3 : mm_sv 2 3 = nI 3 := by decide
theorem sv_2_4 : mm_sv 2 4 = nI 7 := by decide
theorem sv_2_5 : mm_sv 2 5 = nI 39 := by decide
theorem sv_2_6 : mm_sv 2 6 = nI 5 := by decide
theorem sv_2_7 : mm_sv 2 7 = nI 60 := by decide
theorem sv_2_8 : mm_sv 2 8 = nI 11 := by decide
theorem sv_2_9 : mm_sv 2 9 = nI 7 := by decide
theorem sv_2_10 : mm_sv 2 10 = nI 5 := by decide
theorem sv_2_11 : mm_sv 2 11 = nI 11 := by decide
theorem sv_2_12 : mm_sv 2 12 = nI 7 := by decide
theorem sv_2_13 : mm_sv 2 13 = nI 4 := by decide
theorem sv_2_14 : mm_sv 2 14 = nI 25 := by decide
theorem sv_2_15 : mm_sv 2 15 = nI 8 := by decide
theorem sv_2_16 : mm_sv 2 16 = nI 8 := by decide
theorem sv_2_17 : mm_sv 2 17 = nI 29 := by decide
theorem sv_2_18 : mm_sv 2 18 = nI 3 := by decide
theorem sv_2_19 : mm_sv 2 19 = nI 0 := by decide
theorem sv_2_20 : mm_sv 2 20 = nI 0 := by decide
theorem sv_3_0 : mm_sv 3 0 = nI 2 := by decide
theorem sv_3_1 : mm_sv 3 1 = nI 1 := by decide
theorem sv_3_2 : mm_sv 3 2 = nI 1 := by decide
theorem sv_3_3 : mm_sv 3 3 = nI 3 := by decide
theorem sv_3_4 : mm_sv 3 4 = nI 1 := by decide
theorem sv_3_5 : mm_sv 3 5 = nI 1 := by decide
theorem sv_3_6 : mm_sv 3 6 = nI 2 := by decide
theorem sv_3_7 : mm_sv 3 7 = nI 3 := by decide
theorem sv_3_8 : mm_sv 3 8 = nI 1 := by decide
theorem sv_3_9 : mm_sv 3 9 = nI 1 := by decide
theorem sv_3_10 : mm_sv 3 10 = nI 1 := by decide
theorem sv_3_11 : mm_sv 3 11 = nI 1 := by decide
theorem sv_4_0 : mm_sv 4 0 = nI 1 := by decide
theorem sv_4_1 : mm_sv 4 1 = nI 2 := by decide
theorem sv_4_2 : mm_sv 4 2 = nI 2 := by decide
theorem sv_4_3 : mm_sv 4 3 = nI 1 := by decide
theorem sv_4_4 : mm_sv 4 4 = nI 3 := by decide
theorem sv_4_5 : mm_sv 4 5 = nI 3 := by decide
theorem sv_4_6 : mm_sv 4 6 = nI 3 := by decide
theorem sv_4_7 : mm_sv 4 7 = nI 2 := by decide
theorem sv_4_8 : mm_sv 4 8 = nI 1 := by decide
theorem sv_4_9 : mm_sv 4 9 = nI 1 := by decide
theorem sv_4_10 : mm_sv 4 10 = nI 1 := by decide
theorem sv_4_11 : mm_sv 4 11 = nI 1 := by decide
theorem sv_5_0 : mm_sv 5 0 = nI 1 := by decide
theorem sv_5_1 : mm_sv 5 1 = nI 2 := by decide
theorem sv_5_2 : mm_sv 5 2 = nI 3 := by decide
theorem sv_5_3 : mm_sv 5 3 = nI 4 := by decide
theorem sv_5_4 : mm_sv 5 4 = nI 4 := by decide
theorem sv_5_5 : mm_sv 5 5 = nI 1 := by decide
theorem sv_5_6 : mm_sv 5 6 = nI 1 := by decide
theorem sv_5_7 : mm_sv 5 7 = nI 1 := by decide
theorem sv_5_8 : mm_sv 5 8 = nI 1 := by decide
theorem ev_gF1 {Y : mm_Y} {μ0 : mm_M} {rem : List mm_E} {L : mm_L} {st : List mm_V} {μ : mm_M} {Post : Option mm_V → mm_M → Prop} (bs : List Bool) (os : List (Option Nat)) {e2 : mm_E} {rem2 : List mm_E} {L2 : mm_L} {st2 : List mm_V} {μ2 : mm_M} {P2 : Prop} (h : mm_go 5000 (mm_co Y) rem L st μ bs os True = some (e2 :: rem2, L2, st2, μ2, P2)) (k : Ev Y μ0 (e2 :: rem2) L2 st2 μ2 Post) (hp : P2 := by (repeat' apply And.intro) <;> first | exact trivial | assumption | rfl | decide | omega | (simp (disch := first | assumption | omega | decide) only [i_add, i_mul, n_cl, nI_and7, nI_and3, v_in, i_eq, i_lt, i_le, i_eq0, i_lt0, i_ge0, i_gt0, i_le0, lg_cmp_eq, lg_cmp_ge, lg_cmp_gt, lg_cmp_le, lg_cmp_lt, zb_e0, zb_n0, Classical.not_not, up_ne, Nat.zero_add, Nat.add_zero, Nat.reduceMul, Nat.reduceAdd, Nat.reduceDiv, sv_1_0, sv_1_1, sv_1_2, sv_1_3, sv_1_4, sv_1_5, sv_1_6, sv_1_7, sv_1_8, sv_1_9, sv_1_10, sv_1_11, sv_1_12, sv_1_13, sv_1_14, sv_1_15, sv_1_16, sv_1_17, sv_1_18, sv_1_19, sv_1_20, sv_2_0, sv_2_1, sv_2_2, sv_2_3, sv_2_4, sv_2_5, sv_2_6, sv_2_7, sv_2_8, sv_2_9, sv_2_10, sv_2_11, sv_2_12, sv_2_13, sv_2_14, sv_2_15, sv_2_16, sv_2_17, sv_2_18, sv_2_19, sv_2_20, j_lt, j_le, j_eq, j_z, n_ti, i_m60, i_m1i, rg_t, rg_f, *] <;> first | assumption | omega | decide)) : Ev Y μ0 rem L st μ Post := ev_go bs os h hp k
theorem ev_bF1 {Y : mm_Y} {μ0 : mm_M} {rem : List mm_E} {L : mm_L} {st : List mm_V} {μ : mm_M} {Post : Option mm_V → mm_M → Prop} {e2 e3 : mm_E} {rem2 rem3 : List mm_E} {L2 L3 : mm_L} {st2 st3 : List mm_V} {μ2 μ3 : mm_M} {c c2 d d2 : Prop} (hT : mm_go 1 (mm_co Y) rem L st μ [true] [] True = some (e2 :: rem2, L2, st2, μ2, True ∧ c)) (hF : mm_go 1 (mm_co Y) rem L st μ [false] [] True = some (e3 :: rem3, L3, st3, μ3, True ∧ c2)) (kt : d → Ev Y μ0 (e2 :: rem2) L2 st2 μ2 Post) (kf : d2 → Ev Y μ0 (e3 :: rem3) L3 st3 μ3 Post) (hc : ¬ c → c2 := by first | exact id | exact Classical.not_not.mp) (g1 : c → d := by intro hh; (try simp (disch := first | assumption | omega | decide) only [i_add, i_mul, n_cl, nI_and7, nI_and3, v_in, i_eq, i_lt, i_le, i_eq0, i_lt0, i_ge0, i_gt0, i_le0, lg_cmp_eq, lg_cmp_ge, lg_cmp_gt, lg_cmp_le, lg_cmp_lt, zb_e0, zb_n0, Classical.not_not, up_ne, Nat.zero_add, Nat.add_zero, Nat.reduceMul, Nat.reduceAdd, Nat.reduceDiv, sv_1_0, sv_1_1, sv_1_2, sv_1_3, sv_1_4, sv_1_5, sv_1_6, sv_1_7, sv_1_8, sv_1_9, sv_1_10, sv_1_11, sv_1_12, sv_1_13, sv_1_14, sv_1_15, sv_1_16, sv_1_17, sv_1_18, sv_1_19, sv_1_20, sv_2_0, sv_2_1, sv_2_2, sv_2_3, sv_2_4, sv_2_5, sv_2_6, sv_2_7, sv_2_8, sv_2_9, sv_2_10, sv_2_11, sv_2_12, sv_2_13, sv_2_14, sv_2_15, sv_2_16, sv_2_17, sv_2_18, sv_2_19, sv_2_20, j_lt, j_le, j_eq, j_z, n_ti, i_m60, i_m1i, rg_t, rg_f, *] at hh); exact hh) (g2 : c2 → d2 := by intro hh; (try simp (disch := first | assumption | omega | decide) only [i_add, i_mul, n_cl, nI_and7, nI_and3, v_in, i_eq, i_lt, i_le, i_eq0, i_lt0, i_ge0, i_gt0, i_le0, lg_cmp_eq, lg_cmp_ge, lg_cmp_gt, lg_cmp_le, lg_cmp_lt, zb_e0, zb_n0, Classical.not_not, up_ne, Nat.zero_add, Nat.add_zero, Nat.reduceMul, Nat.reduceAdd, Nat.reduceDiv, sv_1_0, sv_1_1, sv_1_2, sv_1_3, sv_1_4, sv_1_5, sv_1_6, sv_1_7, sv_1_8, sv_1_9, sv_1_10, sv_1_11, sv_1_12, sv_1_13, sv_1_14, sv_1_15, sv_1_16, sv_1_17, sv_1_18, sv_1_19, sv_1_20, sv_2_0, sv_2_1, sv_2_2, sv_2_3, sv_2_4, sv_2_5, sv_2_6, sv_2_7, sv_2_8, sv_2_9, sv_2_10, sv_2_11, sv_2_12, sv_2_13, sv_2_14, sv_2_15, sv_2_16, sv_2_17, sv_2_18, sv_2_19, sv_2_20, j_lt, j_le, j_eq, j_z, n_ti, i_m60, i_m1i, rg_t, rg_f, *] at hh); exact hh) : Ev Y μ0 rem L st μ Post := ev_br hT hF hc (fun h => kt (g1 h)) (fun h => kf (g2 h))
theorem lf_F1 {p : Prop} (h : p := by first | rfl | assumption | (simp (disch := first | assumption | omega | decide) only [i_add, i_mul, n_cl, nI_and7, nI_and3, v_in, i_eq, i_lt, i_le, i_eq0, i_lt0, i_ge0, i_gt0, i_le0, lg_cmp_eq, lg_cmp_ge, lg_cmp_gt, lg_cmp_le, lg_cmp_lt, zb_e0, zb_n0, Classical.not_not, up_ne, Nat.zero_add, Nat.add_zero, Nat.reduceMul, Nat.reduceAdd, Nat.reduceDiv, sv_1_0, sv_1_1, sv_1_2, sv_1_3, sv_1_4, sv_1_5, sv_1_6, sv_1_7, sv_1_8, sv_1_9, sv_1_10, sv_1_11, sv_1_12, sv_1_13, sv_1_14, sv_1_15, sv_1_16, sv_1_17, sv_1_18, sv_1_19, sv_1_20, sv_2_0, sv_2_1, sv_2_2, sv_2_3, sv_2_4, sv_2_5, sv_2_6, sv_2_7, sv_2_8, sv_2_9, sv_2_10, sv_2_11, sv_2_12, sv_2_13, sv_2_14, sv_2_15, sv_2_16, sv_2_17, sv_2_18, sv_2_19, sv_2_20, j_lt, j_le, j_eq, j_z, n_ti, i_m60, i_m1i, rg_t, rg_f, *] <;> first | rfl | assumption | omega | decide)) : p := h
theorem C_fits0 {μ : mm_M} {v : Int32} : mm_Det Y_SH_fits [vi (nI 0), vi v] μ (some (vi (zb (true)))) μ := by
  refine det_of h_SH_fits rfl rfl rfl ?_
  refine ev_gF1 [] [some 0] rfl ?_
  refine ev_retz rfl (by first | decide | exact zb_01 _) ?_
  exact ⟨rfl, rfl⟩
theorem C_fits1 {μ : mm_M} {v : Int32} : mm_Det Y_SH_fits [vi (nI 1), vi v] μ (some (vi (zb (rg 0 7 v)))) μ := by
  refine det_of h_SH_fits rfl rfl rfl ?_
  refine ev_gF1 [] [none] rfl ?_
  refine ev_inS 2 k_SH_23 h_SH_isWithin rfl rfl rfl rfl ⟨by decide, by decide⟩ rfl ?_
  refine ev_gF1 [false, false, false] [] rfl ?_
  refine ev_bF1 rfl rfl (fun h_1 => ?_) (fun h_1 => ?_)
  · skip
    refine ev_g0 rfl ?_
    refine ev_retz rfl (by first | decide | exact zb_01 _) ?_
    refine ev_g0 rfl ?_
    refine ev_retz rfl (by first | decide | exact zb_01 _) ?_
    refine ⟨congrArg (fun z => some (vi z)) ?_, rfl⟩
    exact (zb_f (by simp only [Bool.and_eq_false_iff, rg_f, Bool.not_eq_false', decide_eq_true_iff, decide_eq_false_iff_not] <;> omega)).symm
  · skip
    refine ev_gF1 [] [] rfl ?_
    refine ev_bF1 rfl rfl (fun h_2 => ?_) (fun h_2 => ?_)
    · skip
      refine ev_g0 rfl ?_
      refine ev_retz rfl (by first | decide | exact zb_01 _) ?_
      refine ev_g0 rfl ?_
      refine ev_retz rfl (by first | decide | exact zb_01 _) ?_
      refine ⟨congrArg (fun z => some (vi z)) ?_, rfl⟩
      exact (zb_f (by simp only [Bool.and_eq_false_iff, rg_f, Bool.not_eq_false', decide_eq_true_iff, decide_eq_false_iff_not] <;> omega)).symm
    · skip
      refine ev_g0 rfl ?_
      refine ev_retz rfl (by first | decide | exact zb_01 _) ?_
      refine ev_g0 rfl ?_
      refine ev_retz rfl (by first | decide | exact zb_01 _) ?_
      refine ⟨congrArg (fun z => some (vi z)) ?_, rfl⟩
      exact (zb_t (by simp only [Bool.and_eq_true, rg_t, Bool.not_eq_true', decide_eq_true_iff, decide_eq_false_iff_not] <;> omega)).symm
theorem C_fits2 {μ : mm_M} {v : Int32} : mm_Det Y_SH_fits [vi (nI 2), vi v] μ (some (vi (zb (rg 0 3 v)))) μ := by
  refine det_of h_SH_fits rfl rfl rfl ?_
  refine ev_gF1 [] [none] rfl ?_
  refine ev_inS 2 k_SH_23 h_SH_isWithin rfl rfl rfl rfl ⟨by decide, by decide⟩ rfl ?_
  refine ev_gF1 [false, false, false] [] rfl ?_
  refine ev_bF1 rfl rfl (fun h_1 => ?_) (fun h_1 => ?_)
  · skip
    refine ev_g0 rfl ?_
    refine ev_retz rfl (by first | decide | exact zb_01 _) ?_
    refine ev_g0 rfl ?_
    refine ev_retz rfl (by first | decide | exact zb_01 _) ?_
    refine ⟨congrArg (fun z => some (vi z)) ?_, rfl⟩
    exact (zb_f (by simp only [Bool.and_eq_false_iff, rg_f, Bool.not_eq_false', decide_eq_true_iff, decide_eq_false_iff_not] <;> omega)).symm
  · skip
    refine ev_gF1 [] [] rfl ?_
    refine ev_bF1 rfl rfl (fun h_2 => ?_) (fun h_2 => ?_)
    · skip
      refine ev_g0 rfl ?_
      refine ev_retz rfl (by first | decide | exact zb_01 _) ?_
      refine ev_g0 rfl ?_
      refine ev_retz rfl (by first | decide | exact zb_01 _) ?_
      refine ⟨congrArg (fun z => some (vi z)) ?_, rfl⟩
      exact (zb_f (by simp only [Bool.and_eq_false_iff, rg_f, Bool.not_eq_false', decide_eq_true_iff, decide_eq_false_iff_not] <;> omega)).symm
    · skip
      refine ev_g0 rfl ?_
      refine ev_retz rfl (by first | decide | exact zb_01 _) ?_
      refine ev_g0 rfl ?_
      refine ev_retz rfl (by first | decide | exact zb_01 _) ?_
      refine ⟨congrArg (fun z => some (vi z)) ?_, rfl⟩
      exact (zb_t (by simp only [Bool.and_eq_true, rg_t, Bool.not_eq_true', decide_eq_true_iff, decide_eq_false_iff_not] <;> omega)).symm
theorem C_fits3 {μ : mm_M} {v : Int32} : mm_Det Y_SH_fits [vi (nI 3), vi v] μ (some (vi (zb (rg 0 3 v)))) μ := by
  refine det_of h_SH_fits rfl rfl rfl ?_
  refine ev_gF1 [] [none] rfl ?_
  refine ev_inS 2 k_SH_23 h_SH_isWithin rfl rfl rfl rfl ⟨by decide, by decide⟩ rfl ?_
  refine ev_gF1 [false, false, false] [] rfl ?_
  refine ev_bF1 rfl rfl (fun h_1 => ?_) (fun h_1 => ?_)
  · skip
    refine ev_g0 rfl ?_
    refine ev_retz rfl (by first | decide | exact zb_01 _) ?_
    refine ev_g0 rfl ?_
    refine ev_retz rfl (by first | decide | exact zb_01 _) ?_
    refine ⟨congrArg (fun z => some (vi z)) ?_, rfl⟩
    exact (zb_f (by simp only [Bool.and_eq_false_iff, rg_f, Bool.not_eq_false', decide_eq_true_iff, decide_eq_false_iff_not] <;> omega)).symm
  · skip
    refine ev_gF1 [] [] rfl ?_
    refine ev_bF1 rfl rfl (fun h_2 => ?_) (fun h_2 => ?_)
    · skip
      refine ev_g0 rfl ?_
      refine ev_retz rfl (by first | decide | exact zb_01 _) ?_
      refine ev_g0 rfl ?_
      refine ev_retz rfl (by first | decide | exact zb_01 _) ?_
      refine ⟨congrArg (fun z => some (vi z)) ?_, rfl⟩
      exact (zb_f (by simp only [Bool.and_eq_false_iff, rg_f, Bool.not_eq_false', decide_eq_true_iff, decide_eq_false_iff_not] <;> omega)).symm
    · skip
      refine ev_g0 rfl ?_
      refine ev_retz rfl (by first | decide | exact zb_01 _) ?_
      refine ev_g0 rfl ?_
      refine ev_retz rfl (by first | decide | exact zb_01 _) ?_
      refine ⟨congrArg (fun z => some (vi z)) ?_, rfl⟩
      exact (zb_t (by simp only [Bool.and_eq_true, rg_t, Bool.not_eq_true', decide_eq_true_iff, decide_eq_false_iff_not] <;> omega)).symm
theorem C_fits4 {μ : mm_M} {v : Int32} : mm_Det Y_SH_fits [vi (nI 4), vi v] μ (some (vi (zb (rg 0 7 v)))) μ := by
  refine det_of h_SH_fits rfl rfl rfl ?_
  refine ev_gF1 [] [none] rfl ?_
  refine ev_inS 2 k_SH_23 h_SH_isWithin rfl rfl rfl rfl ⟨by decide, by decide⟩ rfl ?_
  refine ev_gF1 [false, false, false] [] rfl ?_
  refine ev_bF1 rfl rfl (fun h_1 => ?_) (fun h_1 => ?_)
  · skip
    refine ev_g0 rfl ?_
    refine ev_retz rfl (by first | decide | exact zb_01 _) ?_
    refine ev_g0 rfl ?_
    refine ev_retz rfl (by first | decide | exact zb_01 _) ?_
    refine ⟨congrArg (fun z => some (vi z)) ?_, rfl⟩
    exact (zb_f (by simp only [Bool.and_eq_false_iff, rg_f, Bool.not_eq_false', decide_eq_true_iff, decide_eq_false_iff_not] <;> omega)).symm
  · skip
    refine ev_gF1 [] [] rfl ?_
    refine ev_bF1 rfl rfl (fun h_2 => ?_) (fun h_2 => ?_)
    · skip
      refine ev_g0 rfl ?_
      refine ev_retz rfl (by first | decide | exact zb_01 _) ?_
      refine ev_g0 rfl ?_
      refine ev_retz rfl (by first | decide | exact zb_01 _) ?_
      refine ⟨congrArg (fun z => some (vi z)) ?_, rfl⟩
      exact (zb_f (by simp only [Bool.and_eq_false_iff, rg_f, Bool.not_eq_false', decide_eq_true_iff, decide_eq_false_iff_not] <;> omega)).symm
    · skip
      refine ev_g0 rfl ?_
      refine ev_retz rfl (by first | decide | exact zb_01 _) ?_
      refine ev_g0 rfl ?_
      refine ev_retz rfl (by first | decide | exact zb_01 _) ?_
      refine ⟨congrArg (fun z => some (vi z)) ?_, rfl⟩
      exact (zb_t (by simp only [Bool.and_eq_true, rg_t, Bool.not_eq_true', decide_eq_true_iff, decide_eq_false_iff_not] <;> omega)).symm
theorem C_fits5 {μ : mm_M} {v : Int32} : mm_Det Y_SH_fits [vi (nI 5), vi v] μ (some (vi (zb (rg 0 39 v)))) μ := by
  refine det_of h_SH_fits rfl rfl rfl ?_
  refine ev_gF1 [] [none] rfl ?_
  refine ev_inS 2 k_SH_23 h_SH_isWithin rfl rfl rfl rfl ⟨by decide, by decide⟩ rfl ?_
  refine ev_gF1 [false, false, false] [] rfl ?_
  refine ev_bF1 rfl rfl (fun h_1 => ?_) (fun h_1 => ?_)
  · skip
    refine ev_g0 rfl ?_
    refine ev_retz rfl (by first | decide | exact zb_01 _) ?_
    refine ev_g0 rfl ?_
    refine ev_retz rfl (by first | decide | exact zb_01 _) ?_
    refine ⟨congrArg (fun z => some (vi z)) ?_, rfl⟩
    exact (zb_f (by simp only [Bool.and_eq_false_iff, rg_f, Bool.not_eq_false', decide_eq_true_iff, decide_eq_false_iff_not] <;> omega)).symm
  · skip
    refine ev_gF1 [] [] rfl ?_
    refine ev_bF1 rfl rfl (fun h_2 => ?_) (fun h_2 => ?_)
    · skip
      refine ev_g0 rfl ?_
      refine ev_retz rfl (by first | decide | exact zb_01 _) ?_
      refine ev_g0 rfl ?_
      refine ev_retz rfl (by first | decide | exact zb_01 _) ?_
      refine ⟨congrArg (fun z => some (vi z)) ?_, rfl⟩
      exact (zb_f (by simp only [Bool.and_eq_false_iff, rg_f, Bool.not_eq_false', decide_eq_true_iff, decide_eq_false_iff_not] <;> omega)).symm
    · skip
      refine ev_g0 rfl ?_
      refine ev_retz rfl (by first | decide | exact zb_01 _) ?_
      refine ev_g0 rfl ?_
      refine ev_retz rfl (by first | decide | exact zb_01 _) ?_
      refine ⟨congrArg (fun z => some (vi z)) ?_, rfl⟩
      exact (zb_t (by simp only [Bool.and_eq_true, rg_t, Bool.not_eq_true', decide_eq_true_iff, decide_eq_false_iff_not] <;> omega)).symm
theorem C_fits6 {μ : mm_M} {v : Int32} : mm_Det Y_SH_fits [vi (nI 6), vi v] μ (some (vi (zb (rg 0 5 v)))) μ := by
  refine det_of h_SH_fits rfl rfl rfl ?_
  refine ev_gF1 [] [none] rfl ?_
  refine ev_inS 2 k_SH_23 h_SH_isWithin rfl rfl rfl rfl ⟨by decide, by decide⟩ rfl ?_
  refine ev_gF1 [false, false, false] [] rfl ?_
  refine ev_bF1 rfl rfl (fun h_1 => ?_) (fun h_1 => ?_)
  · skip
    refine ev_g0 rfl ?_
    refine ev_retz rfl (by first | decide | exact zb_01 _) ?_
    refine ev_g0 rfl ?_
    refine ev_retz rfl (by first | decide | exact zb_01 _) ?_
    refine ⟨congrArg (fun z => some (vi z)) ?_, rfl⟩
    exact (zb_f (by simp only [Bool.and_eq_false_iff, rg_f, Bool.not_eq_false', decide_eq_true_iff, decide_eq_false_iff_not] <;> omega)).symm
  · skip
    refine ev_gF1 [] [] rfl ?_
    refine ev_bF1 rfl rfl (fun h_2 => ?_) (fun h_2 => ?_)
    · skip
      refine ev_g0 rfl ?_
      refine ev_retz rfl (by first | decide | exact zb_01 _) ?_
      refine ev_g0 rfl ?_
      refine ev_retz rfl (by first | decide | exact zb_01 _) ?_
      refine ⟨congrArg (fun z => some (vi z)) ?_, rfl⟩
      exact (zb_f (by simp only [Bool.and_eq_false_iff, rg_f, Bool.not_eq_false', decide_eq_true_iff, decide_eq_false_iff_not] <;> omega)).symm
    · skip
      refine ev_g0 rfl ?_
      refine ev_retz rfl (by first | decide | exact zb_01 _) ?_
      refine ev_g0 rfl ?_
      refine ev_retz rfl (by first | decide | exact zb_01 _) ?_
      refine ⟨congrArg (fun z => some (vi z)) ?_, rfl⟩
      exact (zb_t (by simp only [Bool.and_eq_true, rg_t, Bool.not_eq_true', decide_eq_true_iff, decide_eq_false_iff_not] <;> omega)).symm
theorem C_fits7 {μ : mm_M} {v : Int32} : mm_Det Y_SH_fits [vi (nI 7), vi v] μ (some (vi (zb (rg (-60) 60 v)))) μ := by
  refine det_of h_SH_fits rfl rfl rfl ?_
  refine ev_gF1 [] [none] rfl ?_
  refine ev_inS 2 k_SH_23 h_SH_isWithin rfl rfl rfl rfl ⟨by decide, by decide⟩ rfl ?_
  refine ev_gF1 [false, false, false] [] rfl ?_
  refine ev_bF1 rfl rfl (fun h_1 => ?_) (fun h_1 => ?_)
  · skip
    refine ev_g0 rfl ?_
    refine ev_retz rfl (by first | decide | exact zb_01 _) ?_
    refine ev_g0 rfl ?_
    refine ev_retz rfl (by first | decide | exact zb_01 _) ?_
    refine ⟨congrArg (fun z => some (vi z)) ?_, rfl⟩
    exact (zb_f (by simp only [Bool.and_eq_false_iff, rg_f, Bool.not_eq_false', decide_eq_true_iff, decide_eq_false_iff_not] <;> omega)).symm
  · skip
    refine ev_gF1 [] [] rfl ?_
    refine ev_bF1 rfl rfl (fun h_2 => ?_) (fun h_2 => ?_)
    · skip
      refine ev_g0 rfl ?_
      refine ev_retz rfl (by first | decide | exact zb_01 _) ?_
      refine ev_g0 rfl ?_
      refine ev_retz rfl (by first | decide | exact zb_01 _) ?_
      refine ⟨congrArg (fun z => some (vi z)) ?_, rfl⟩
      exact (zb_f (by simp only [Bool.and_eq_false_iff, rg_f, Bool.not_eq_false', decide_eq_true_iff, decide_eq_false_iff_not] <;> omega)).symm
    · skip
      refine ev_g0 rfl ?_
      refine ev_retz rfl (by first | decide | exact zb_01 _) ?_
      refine ev_g0 rfl ?_
      refine ev_retz rfl (by first | decide | exact zb_01 _) ?_
      refine ⟨congrArg (fun z => some (vi z)) ?_, rfl⟩
      exact (zb_t (by simp only [Bool.and_eq_true, rg_t, Bool.not_eq_true', decide_eq_true_iff, decide_eq_false_iff_not] <;> omega)).symm
theorem C_fits8 {μ : mm_M} {v : Int32} : mm_Det Y_SH_fits [vi (nI 8), vi v] μ (some (vi (zb (rg 0 11 v)))) μ := by
  refine det_of h_SH_fits rfl rfl rfl ?_
  refine ev_gF1 [] [none] rfl ?_
  refine ev_inS 2 k_SH_23 h_SH_isWithin rfl rfl rfl rfl ⟨by decide, by decide⟩ rfl ?_
  refine ev_gF1 [false, false, false] [] rfl ?_
  refine ev_bF1 rfl rfl (fun h_1 => ?_) (fun h_1 => ?_)
  · skip
    refine ev_g0 rfl ?_
    refine ev_retz rfl (by first | decide | exact zb_01 _) ?_
    refine ev_g0 rfl ?_
    refine ev_retz rfl (by first | decide | exact zb_01 _) ?_
    refine ⟨congrArg (fun z => some (vi z)) ?_, rfl⟩
    exact (zb_f (by simp only [Bool.and_eq_false_iff, rg_f, Bool.not_eq_false', decide_eq_true_iff, decide_eq_false_iff_not] <;> omega)).symm
  · skip
    refine ev_gF1 [] [] rfl ?_
    refine ev_bF1 rfl rfl (fun h_2 => ?_) (fun h_2 => ?_)
    · skip
      refine ev_g0 rfl ?_
      refine ev_retz rfl (by first | decide | exact zb_01 _) ?_
      refine ev_g0 rfl ?_
      refine ev_retz rfl (by first | decide | exact zb_01 _) ?_
      refine ⟨congrArg (fun z => some (vi z)) ?_, rfl⟩
      exact (zb_f (by simp only [Bool.and_eq_false_iff, rg_f, Bool.not_eq_false', decide_eq_true_iff, decide_eq_false_iff_not] <;> omega)).symm
    · skip
      refine ev_g0 rfl ?_
      refine ev_retz rfl (by first | decide | exact zb_01 _) ?_
      refine ev_g0 rfl ?_
      refine ev_retz rfl (by first | decide | exact zb_01 _) ?_
      refine ⟨congrArg (fun z => some (vi z)) ?_, rfl⟩
      exact (zb_t (by simp only [Bool.and_eq_true, rg_t, Bool.not_eq_true', decide_eq_true_iff, decide_eq_false_iff_not] <;> omega)).symm
theorem C_fits9 {μ : mm_M} {v : Int32} : mm_Det Y_SH_fits [vi (nI 9), vi v] μ (some (vi (zb (rg 0 7 v)))) μ := by
  refine det_of h_SH_fits rfl rfl rfl ?_
  refine ev_gF1 [] [none] rfl ?_
  refine ev_inS 2 k_SH_23 h_SH_isWithin rfl rfl rfl rfl ⟨by decide, by decide⟩ rfl ?_
  refine ev_gF1 [false, false, false] [] rfl ?_
  refine ev_bF1 rfl rfl (fun h_1 => ?_) (fun h_1 => ?_)
  · skip
    refine ev_g0 rfl ?_
    refine ev_retz rfl (by first | decide | exact zb_01 _) ?_
    refine ev_g0 rfl ?_
    refine ev_retz rfl (by first | decide | exact zb_01 _) ?_
    refine ⟨congrArg (fun z => some (vi z)) ?_, rfl⟩
    exact (zb_f (by simp only [Bool.and_eq_false_iff, rg_f, Bool.not_eq_false', decide_eq_true_iff, decide_eq_false_iff_not] <;> omega)).symm
  · skip
    refine ev_gF1 [] [] rfl ?_
    refine ev_bF1 rfl rfl (fun h_2 => ?_) (fun h_2 => ?_)
    · skip
      refine ev_g0 rfl ?_
      refine ev_retz rfl (by first | decide | exact zb_01 _) ?_
      refine ev_g0 rfl ?_
      refine ev_retz rfl (by first | decide | exact zb_01 _) ?_
      refine ⟨congrArg (fun z => some (vi z)) ?_, rfl⟩
      exact (zb_f (by simp only [Bool.and_eq_false_iff, rg_f, Bool.not_eq_false', decide_eq_true_iff, decide_eq_false_iff_not] <;> omega)).symm
    · skip
      refine ev_g0 rfl ?_
      refine ev_retz rfl (by first | decide | exact zb_01 _) ?_
      refine ev_g0 rfl ?_
      refine ev_retz rfl (by first | decide | exact zb_01 _) ?_
      refine ⟨congrArg (fun z => some (vi z)) ?_, rfl⟩
      exact (zb_t (by simp only [Bool.and_eq_true, rg_t, Bool.not_eq_true', decide_eq_true_iff, decide_eq_false_iff_not] <;> omega)).symm
theorem C_fits10 {μ : mm_M} {v : Int32} : mm_Det Y_SH_fits [vi (nI 10), vi v] μ (some (vi (zb (rg 0 5 v)))) μ := by
  refine det_of h_SH_fits rfl rfl rfl ?_
  refine ev_gF1 [] [none] rfl ?_
  refine ev_inS 2 k_SH_23 h_SH_isWithin rfl rfl rfl rfl ⟨by decide, by decide⟩ rfl ?_
  refine ev_gF1 [false, false, false] [] rfl ?_
  refine ev_bF1 rfl rfl (fun h_1 => ?_) (fun h_1 => ?_)
  · skip
    refine ev_g0 rfl ?_
    refine ev_retz rfl (by first | decide | exact zb_01 _) ?_
    refine ev_g0 rfl ?_
    refine ev_retz rfl (by first | decide | exact zb_01 _) ?_
    refine ⟨congrArg (fun z => some (vi z)) ?_, rfl⟩
    exact (zb_f (by simp only [Bool.and_eq_false_iff, rg_f, Bool.not_eq_false', decide_eq_true_iff, decide_eq_false_iff_not] <;> omega)).symm
  · skip
    refine ev_gF1 [] [] rfl ?_
    refine ev_bF1 rfl rfl (fun h_2 => ?_) (fun h_2 => ?_)
    · skip
      refine ev_g0 rfl ?_
      refine ev_retz rfl (by first | decide | exact zb_01 _) ?_
      refine ev_g0 rfl ?_
      refine ev_retz rfl (by first | decide | exact zb_01 _) ?_
      refine ⟨congrArg (fun z => some (vi z)) ?_, rfl⟩
      exact (zb_f (by simp only [Bool.and_eq_false_iff, rg_f, Bool.not_eq_false', decide_eq_true_iff, decide_eq_false_iff_not] <;> omega)).symm
    · skip
      refine ev_g0 rfl ?_
      refine ev_retz rfl (by first | decide | exact zb_01 _) ?_
      refine ev_g0 rfl ?_
      refine ev_retz rfl (by first | decide | exact zb_01 _) ?_
      refine ⟨congrArg (fun z => some (vi z)) ?_, rfl⟩
      exact (zb_t (by simp only [Bool.and_eq_true, rg_t, Bool.not_eq_true', decide_eq_true_iff, decide_eq_false_iff_not] <;> omega)).symm
theorem C_fits11 {μ : mm_M} {v : Int32} : mm_Det Y_SH_fits [vi (nI 11), vi v] μ (some (vi (zb (rg 0 11 v)))) μ := by
  refine det_of h_SH_fits rfl rfl rfl ?_
  refine ev_gF1 [] [none] rfl ?_
  refine ev_inS 2 k_SH_23 h_SH_isWithin rfl rfl rfl rfl ⟨by decide, by decide⟩ rfl ?_
  refine ev_gF1 [false, false, false] [] rfl ?_
  refine ev_bF1 rfl rfl (fun h_1 => ?_) (fun h_1 => ?_)
  · skip
    refine ev_g0 rfl ?_
    refine ev_retz rfl (by first | decide | exact zb_01 _) ?_
    refine ev_g0 rfl ?_
    refine ev_retz rfl (by first | decide | exact zb_01 _) ?_
    refine ⟨congrArg (fun z => some (vi z)) ?_, rfl⟩
    exact (zb_f (by simp only [Bool.and_eq_false_iff, rg_f, Bool.not_eq_false', decide_eq_true_iff, decide_eq_false_iff_not] <;> omega)).symm
  · skip
    refine ev_gF1 [] [] rfl ?_
    refine ev_bF1 rfl rfl (fun h_2 => ?_) (fun h_2 => ?_)
    · skip
      refine ev_g0 rfl ?_
      refine ev_retz rfl (by first | decide | exact zb_01 _) ?_
      refine ev_g0 rfl ?_
      refine ev_retz rfl (by first | decide | exact zb_01 _) ?_
      refine ⟨congrArg (fun z => some (vi z)) ?_, rfl⟩
      exact (zb_f (by simp only [Bool.and_eq_false_iff, rg_f, Bool.not_eq_false', decide_eq_true_iff, decide_eq_false_iff_not] <;> omega)).symm
    · skip
      refine ev_g0 rfl ?_
      refine ev_retz rfl (by first | decide | exact zb_01 _) ?_
      refine ev_g0 rfl ?_
      refine ev_retz rfl (by first | decide | exact zb_01 _) ?_
      refine ⟨congrArg (fun z => some (vi z)) ?_, rfl⟩
      exact (zb_t (by simp only [Bool.and_eq_true, rg_t, Bool.not_eq_true', decide_eq_true_iff, decide_eq_false_iff_not] <;> omega)).symm
theorem C_fits12 {μ : mm_M} {v : Int32} : mm_Det Y_SH_fits [vi (nI 12), vi v] μ (some (vi (zb (rg 0 7 v)))) μ := by
  refine det_of h_SH_fits rfl rfl rfl ?_
  refine ev_gF1 [] [none] rfl ?_
  refine ev_inS 2 k_SH_23 h_SH_isWithin rfl rfl rfl rfl ⟨by decide, by decide⟩ rfl ?_
  refine ev_gF1 [false, false, false] [] rfl ?_
  refine ev_bF1 rfl rfl (fun h_1 => ?_) (fun h_1 => ?_)
  · skip
    refine ev_g0 rfl ?_
    refine ev_retz rfl (by first | decide | exact zb_01 _) ?_
    refine ev_g0 rfl ?_
    refine ev_retz rfl (by first | decide | exact zb_01 _) ?_
    refine ⟨congrArg (fun z => some (vi z)) ?_, rfl⟩
    exact (zb_f (by simp only [Bool.and_eq_false_iff, rg_f, Bool.not_eq_false', decide_eq_true_iff, decide_eq_false_iff_not] <;> omega)).symm
  · skip
    refine ev_gF1 [] [] rfl ?_
    refine ev_bF1 rfl rfl (fun h_2 => ?_) (fun h_2 => ?_)
    · skip
      refine ev_g0 rfl ?_
      refine ev_retz rfl (by first | decide | exact zb_01 _) ?_
      refine ev_g0 rfl ?_
      refine ev_retz rfl (by first | decide | exact zb_01 _) ?_
      refine ⟨congrArg (fun z => some (vi z)) ?_, rfl⟩
      exact (zb_f (by simp only [Bool.and_eq_false_iff, rg_f, Bool.not_eq_false', decide_eq_true_iff, decide_eq_false_iff_not] <;> omega)).symm
    · skip
      refine ev_g0 rfl ?_
      refine ev_retz rfl (by first | decide | exact zb_01 _) ?_
      refine ev_g0 rfl ?_
      refine ev_retz rfl (by first | decide | exact zb_01 _) ?_
      refine ⟨congrArg (fun z => some (vi z)) ?_, rfl⟩
      exact (zb_t (by simp only [Bool.and_eq_true, rg_t, Bool.not_eq_true', decide_eq_true_iff, decide_eq_false_iff_not] <;> omega)).symm
theorem C_fits13 {μ : mm_M} {v : Int32} : mm_Det Y_SH_fits [vi (nI 13), vi v] μ (some (vi (zb (rg 0 4 v)))) μ := by
  refine det_of h_SH_fits rfl rfl rfl ?_
  refine ev_gF1 [] [none] rfl ?_
  refine ev_inS 2 k_SH_23 h_SH_isWithin rfl rfl rfl rfl ⟨by decide, by decide⟩ rfl ?_
  refine ev_gF1 [false, false, false] [] rfl ?_
  refine ev_bF1 rfl rfl (fun h_1 => ?_) (fun h_1 => ?_)
  · skip
    refine ev_g0 rfl ?_
    refine ev_retz rfl (by first | decide | exact zb_01 _) ?_
    refine ev_g0 rfl ?_
    refine ev_retz rfl (by first | decide | exact zb_01 _) ?_
    refine ⟨congrArg (fun z => some (vi z)) ?_, rfl⟩
    exact (zb_f (by simp only [Bool.and_eq_false_iff, rg_f, Bool.not_eq_false', decide_eq_true_iff, decide_eq_false_iff_not] <;> omega)).symm
  · skip
    refine ev_gF1 [] [] rfl ?_
    refine ev_bF1 rfl rfl (fun h_2 => ?_) (fun h_2 => ?_)
    · skip
      refine ev_g0 rfl ?_
      refine ev_retz rfl (by first | decide | exact zb_01 _) ?_
      refine ev_g0 rfl ?_
      refine ev_retz rfl (by first | decide | exact zb_01 _) ?_
      refine ⟨congrArg (fun z => some (vi z)) ?_, rfl⟩
      exact (zb_f (by simp only [Bool.and_eq_false_iff, rg_f, Bool.not_eq_false', decide_eq_true_iff, decide_eq_false_iff_not] <;> omega)).symm
    · skip
      refine ev_g0 rfl ?_
      refine ev_retz rfl (by first | decide | exact zb_01 _) ?_
      refine ev_g0 rfl ?_
      refine ev_retz rfl (by first | decide | exact zb_01 _) ?_
      refine ⟨congrArg (fun z => some (vi z)) ?_, rfl⟩
      exact (zb_t (by simp only [Bool.and_eq_true, rg_t, Bool.not_eq_true', decide_eq_true_iff, decide_eq_false_iff_not] <;> omega)).symm
theorem C_fits14 {μ : mm_M} {v : Int32} : mm_Det Y_SH_fits [vi (nI 14), vi v] μ (some (vi (zb (rg 0 25 v && !decide (v.toInt = 15))))) μ := by
  refine det_of h_SH_fits rfl rfl rfl ?_
  refine ev_gF1 [] [some 1] rfl ?_
  refine ev_inS 2 k_SH_23 h_SH_isWithin rfl rfl rfl rfl ⟨by decide, by decide⟩ rfl ?_
  refine ev_gF1 [false, false, false] [] rfl ?_
  refine ev_bF1 rfl rfl (fun h_1 => ?_) (fun h_1 => ?_)
  · skip
    refine ev_g0 rfl ?_
    refine ev_retz rfl (by first | decide | exact zb_01 _) ?_
    refine ev_gF1 [true] [] rfl ?_
    refine ev_retz rfl (by first | decide | exact zb_01 _) ?_
    refine ⟨congrArg (fun z => some (vi z)) ?_, rfl⟩
    exact (zb_f (by simp only [Bool.and_eq_false_iff, rg_f, Bool.not_eq_false', decide_eq_true_iff, decide_eq_false_iff_not] <;> omega)).symm
  · skip
    refine ev_gF1 [] [] rfl ?_
    refine ev_bF1 rfl rfl (fun h_2 => ?_) (fun h_2 => ?_)
    · skip
      refine ev_g0 rfl ?_
      refine ev_retz rfl (by first | decide | exact zb_01 _) ?_
      refine ev_gF1 [true] [] rfl ?_
      refine ev_retz rfl (by first | decide | exact zb_01 _) ?_
      refine ⟨congrArg (fun z => some (vi z)) ?_, rfl⟩
      exact (zb_f (by simp only [Bool.and_eq_false_iff, rg_f, Bool.not_eq_false', decide_eq_true_iff, decide_eq_false_iff_not] <;> omega)).symm
    · skip
      refine ev_g0 rfl ?_
      refine ev_retz rfl (by first | decide | exact zb_01 _) ?_
      refine ev_gF1 [false] [] rfl ?_
      refine ev_bF1 rfl rfl (fun h_3 => ?_) (fun h_3 => ?_)
      · skip
        refine ev_g0 rfl ?_
        refine ev_retz rfl (by first | decide | exact zb_01 _) ?_
        refine ⟨congrArg (fun z => some (vi z)) ?_, rfl⟩
        exact (zb_f (by simp only [Bool.and_eq_false_iff, rg_f, Bool.not_eq_false', decide_eq_true_iff, decide_eq_false_iff_not] <;> omega)).symm
      · skip
        refine ev_g0 rfl ?_
        refine ev_retz rfl (by first | decide | exact zb_01 _) ?_
        refine ⟨congrArg (fun z => some (vi z)) ?_, rfl⟩
        exact (zb_t (by simp only [Bool.and_eq_true, rg_t, Bool.not_eq_true', decide_eq_true_iff, decide_eq_false_iff_not] <;> omega)).symm
theorem C_fits15 {μ : mm_M} {v : Int32} : mm_Det Y_SH_fits [vi (nI 15), vi v] μ (some (vi (zb (rg 0 8 v)))) μ := by
  refine det_of h_SH_fits rfl rfl rfl ?_
  refine ev_gF1 [] [none] rfl ?_
  refine ev_inS 2 k_SH_23 h_SH_isWithin rfl rfl rfl rfl ⟨by decide, by decide⟩ rfl ?_
  refine ev_gF1 [false, false, false] [] rfl ?_
  refine ev_bF1 rfl rfl (fun h_1 => ?_) (fun h_1 => ?_)
  · skip
    refine ev_g0 rfl ?_
    refine ev_retz rfl (by first | decide | exact zb_01 _) ?_
    refine ev_g0 rfl ?_
    refine ev_retz rfl (by first | decide | exact zb_01 _) ?_
    refine ⟨congrArg (fun z => some (vi z)) ?_, rfl⟩
    exact (zb_f (by simp only [Bool.and_eq_false_iff, rg_f, Bool.not_eq_false', decide_eq_true_iff, decide_eq_false_iff_not] <;> omega)).symm
  · skip
    refine ev_gF1 [] [] rfl ?_
    refine ev_bF1 rfl rfl (fun h_2 => ?_) (fun h_2 => ?_)
    · skip
      refine ev_g0 rfl ?_
      refine ev_retz rfl (by first | decide | exact zb_01 _) ?_
      refine ev_g0 rfl ?_
      refine ev_retz rfl (by first | decide | exact zb_01 _) ?_
      refine ⟨congrArg (fun z => some (vi z)) ?_, rfl⟩
      exact (zb_f (by simp only [Bool.and_eq_false_iff, rg_f, Bool.not_eq_false', decide_eq_true_iff, decide_eq_false_iff_not] <;> omega)).symm
    · skip
      refine ev_g0 rfl ?_
      refine ev_retz rfl (by first | decide | exact zb_01 _) ?_
      refine ev_g0 rfl ?_
      refine ev_retz rfl (by first | decide | exact zb_01 _) ?_
      refine ⟨congrArg (fun z => some (vi z)) ?_, rfl⟩
      exact (zb_t (by simp only [Bool.and_eq_true, rg_t, Bool.not_eq_true', decide_eq_true_iff, decide_eq_false_iff_not] <;> omega)).symm
theorem C_fits16 {μ : mm_M} {v : Int32} : mm_Det Y_SH_fits [vi (nI 16), vi v] μ (some (vi (zb (rg 0 8 v && !decide (v.toInt = 5))))) μ := by
  refine det_of h_SH_fits rfl rfl rfl ?_
  refine ev_gF1 [] [some 2] rfl ?_
  refine ev_inS 2 k_SH_23 h_SH_isWithin rfl rfl rfl rfl ⟨by decide, by decide⟩ rfl ?_
  refine ev_gF1 [false, false, false] [] rfl ?_
  refine ev_bF1 rfl rfl (fun h_1 => ?_) (fun h_1 => ?_)
  · skip
    refine ev_g0 rfl ?_
    refine ev_retz rfl (by first | decide | exact zb_01 _) ?_
    refine ev_gF1 [true] [] rfl ?_
    refine ev_retz rfl (by first | decide | exact zb_01 _) ?_
    refine ⟨congrArg (fun z => some (vi z)) ?_, rfl⟩
    exact (zb_f (by simp only [Bool.and_eq_false_iff, rg_f, Bool.not_eq_false', decide_eq_true_iff, decide_eq_false_iff_not] <;> omega)).symm
  · skip
    refine ev_gF1 [] [] rfl ?_
    refine ev_bF1 rfl rfl (fun h_2 => ?_) (fun h_2 => ?_)
    · skip
      refine ev_g0 rfl ?_
      refine ev_retz rfl (by first | decide | exact zb_01 _) ?_
      refine ev_gF1 [true] [] rfl ?_
      refine ev_retz rfl (by first | decide | exact zb_01 _) ?_
      refine ⟨congrArg (fun z => some (vi z)) ?_, rfl⟩
      exact (zb_f (by simp only [Bool.and_eq_false_iff, rg_f, Bool.not_eq_false', decide_eq_true_iff, decide_eq_false_iff_not] <;> omega)).symm
    · skip
      refine ev_g0 rfl ?_
      refine ev_retz rfl (by first | decide | exact zb_01 _) ?_
      refine ev_gF1 [false] [] rfl ?_
      refine ev_bF1 rfl rfl (fun h_3 => ?_) (fun h_3 => ?_)
      · skip
        refine ev_g0 rfl ?_
        refine ev_retz rfl (by first | decide | exact zb_01 _) ?_
        refine ⟨congrArg (fun z => some (vi z)) ?_, rfl⟩
        exact (zb_f (by simp only [Bool.and_eq_false_iff, rg_f, Bool.not_eq_false', decide_eq_true_iff, decide_eq_false_iff_not] <;> omega)).symm
      · skip
        refine ev_g0 rfl ?_
        refine ev_retz rfl (by first | decide | exact zb_01 _) ?_
        refine ⟨congrArg (fun z => some (vi z)) ?_, rfl⟩
        exact (zb_t (by simp only [Bool.and_eq_true, rg_t, Bool.not_eq_true', decide_eq_true_iff, decide_eq_false_iff_not] <;> omega)).symm
theorem C_fits17 {μ : mm_M} {v : Int32} : mm_Det Y_SH_fits [vi (nI 17), vi v] μ (some (vi (zb (rg (-1) 29 v && decide (v.toInt = -1 ∨ 20 ≤ v.toInt))))) μ := by
  refine det_of h_SH_fits rfl rfl rfl ?_
  refine ev_gF1 [] [some 3] rfl ?_
  refine ev_inS 2 k_SH_23 h_SH_isWithin rfl rfl rfl rfl ⟨by decide, by decide⟩ rfl ?_
  refine ev_gF1 [false, false, false] [] rfl ?_
  refine ev_bF1 rfl rfl (fun h_1 => ?_) (fun h_1 => ?_)
  · skip
    refine ev_g0 rfl ?_
    refine ev_retz rfl (by first | decide | exact zb_01 _) ?_
    refine ev_gF1 [true] [] rfl ?_
    refine ev_retz rfl (by first | decide | exact zb_01 _) ?_
    refine ⟨congrArg (fun z => some (vi z)) ?_, rfl⟩
    exact (zb_f (by simp only [Bool.and_eq_false_iff, rg_f, Bool.not_eq_false', decide_eq_true_iff, decide_eq_false_iff_not] <;> omega)).symm
  · skip
    refine ev_gF1 [] [] rfl ?_
    refine ev_bF1 rfl rfl (fun h_2 => ?_) (fun h_2 => ?_)
    · skip
      refine ev_g0 rfl ?_
      refine ev_retz rfl (by first | decide | exact zb_01 _) ?_
      refine ev_gF1 [true] [] rfl ?_
      refine ev_retz rfl (by first | decide | exact zb_01 _) ?_
      refine ⟨congrArg (fun z => some (vi z)) ?_, rfl⟩
      exact (zb_f (by simp only [Bool.and_eq_false_iff, rg_f, Bool.not_eq_false', decide_eq_true_iff, decide_eq_false_iff_not] <;> omega)).symm
    · skip
      refine ev_g0 rfl ?_
      refine ev_retz rfl (by first | decide | exact zb_01 _) ?_
      refine ev_gF1 [false] [] rfl ?_
      refine ev_bF1 rfl rfl (fun h_3 => ?_) (fun h_3 => ?_)
      · skip
        refine ev_g0 rfl ?_
        refine ev_retz rfl (by first | decide | exact zb_01 _) ?_
        refine ⟨congrArg (fun z => some (vi z)) ?_, rfl⟩
        exact (zb_t (by simp only [Bool.and_eq_true, rg_t, Bool.not_eq_true', decide_eq_true_iff, decide_eq_false_iff_not] <;> omega)).symm
      · skip
        refine ev_g0 rfl ?_
        refine ev_bF1 rfl rfl (fun h_4 => ?_) (fun h_4 => ?_)
        · skip
          refine ev_g0 rfl ?_
          refine ev_retz rfl (by first | decide | exact zb_01 _) ?_
          refine ⟨congrArg (fun z => some (vi z)) ?_, rfl⟩
          exact (zb_f (by simp only [Bool.and_eq_false_iff, rg_f, Bool.not_eq_false', decide_eq_true_iff, decide_eq_false_iff_not] <;> omega)).symm
        · skip
          refine ev_g0 rfl ?_
          refine ev_retz rfl (by first | decide | exact zb_01 _) ?_
          refine ⟨congrArg (fun z => some (vi z)) ?_, rfl⟩
          exact (zb_t (by simp only [Bool.and_eq_true, rg_t, Bool.not_eq_true', decide_eq_true_iff, decide_eq_false_iff_not] <;> omega)).symm
theorem C_fits18 {μ : mm_M} {v : Int32} : mm_Det Y_SH_fits [vi (nI 18), vi v] μ (some (vi (zb (rg 0 3 v)))) μ := by
  refine det_of h_SH_fits rfl rfl rfl ?_
  refine ev_gF1 [] [none] rfl ?_
  refine ev_inS 2 k_SH_23 h_SH_isWithin rfl rfl rfl rfl ⟨by decide, by decide⟩ rfl ?_
  refine ev_gF1 [false, false, false] [] rfl ?_
  refine ev_bF1 rfl rfl (fun h_1 => ?_) (fun h_1 => ?_)
  · skip
    refine ev_g0 rfl ?_
    refine ev_retz rfl (by first | decide | exact zb_01 _) ?_
    refine ev_g0 rfl ?_
    refine ev_retz rfl (by first | decide | exact zb_01 _) ?_
    refine ⟨congrArg (fun z => some (vi z)) ?_, rfl⟩
    exact (zb_f (by simp only [Bool.and_eq_false_iff, rg_f, Bool.not_eq_false', decide_eq_true_iff, decide_eq_false_iff_not] <;> omega)).symm
  · skip
    refine ev_gF1 [] [] rfl ?_
    refine ev_bF1 rfl rfl (fun h_2 => ?_) (fun h_2 => ?_)
    · skip
      refine ev_g0 rfl ?_
      refine ev_retz rfl (by first | decide | exact zb_01 _) ?_
      refine ev_g0 rfl ?_
      refine ev_retz rfl (by first | decide | exact zb_01 _) ?_
      refine ⟨congrArg (fun z => some (vi z)) ?_, rfl⟩
      exact (zb_f (by simp only [Bool.and_eq_false_iff, rg_f, Bool.not_eq_false', decide_eq_true_iff, decide_eq_false_iff_not] <;> omega)).symm
    · skip
      refine ev_g0 rfl ?_
      refine ev_retz rfl (by first | decide | exact zb_01 _) ?_
      refine ev_g0 rfl ?_
      refine ev_retz rfl (by first | decide | exact zb_01 _) ?_
      refine ⟨congrArg (fun z => some (vi z)) ?_, rfl⟩
      exact (zb_t (by simp only [Bool.and_eq_true, rg_t, Bool.not_eq_true', decide_eq_true_iff, decide_eq_false_iff_not] <;> omega)).symm
theorem C_fits19 {μ : mm_M} {v : Int32} : mm_Det Y_SH_fits [vi (nI 19), vi v] μ (some (vi (zb (true)))) μ := by
  refine det_of h_SH_fits rfl rfl rfl ?_
  refine ev_gF1 [] [some 4] rfl ?_
  refine ev_retz rfl (by first | decide | exact zb_01 _) ?_
  exact ⟨rfl, rfl⟩
theorem C_fits20 {μ : mm_M} {v : Int32} : mm_Det Y_SH_fits [vi (nI 20), vi v] μ (some (vi (zb (rg 1 0 v)))) μ := by
  refine det_of h_SH_fits rfl rfl rfl ?_
  refine ev_gF1 [] [none] rfl ?_
  refine ev_inS 2 k_SH_23 h_SH_isWithin rfl rfl rfl rfl ⟨by decide, by decide⟩ rfl ?_
  refine ev_gF1 [false, false, false] [] rfl ?_
  refine ev_bF1 rfl rfl (fun h_1 => ?_) (fun h_1 => ?_)
  · skip
    refine ev_g0 rfl ?_
    refine ev_retz rfl (by first | decide | exact zb_01 _) ?_
    refine ev_g0 rfl ?_
    refine ev_retz rfl (by first | decide | exact zb_01 _) ?_
    refine ⟨congrArg (fun z => some (vi z)) ?_, rfl⟩
    exact (zb_f (by simp only [Bool.and_eq_false_iff, rg_f, Bool.not_eq_false', decide_eq_true_iff, decide_eq_false_iff_not] <;> omega)).symm
  · skip
    refine ev_gF1 [true] [] rfl ?_
    refine ev_retz rfl (by first | decide | exact zb_01 _) ?_
    refine ev_g0 rfl ?_
    refine ev_retz rfl (by first | decide | exact zb_01 _) ?_
    refine ⟨congrArg (fun z => some (vi z)) ?_, rfl⟩
    exact (zb_f (by simp only [Bool.and_eq_false_iff, rg_f, Bool.not_eq_false', decide_eq_true_iff, decide_eq_false_iff_not] <;> omega)).symm
theorem ev_gF2 {Y : mm_Y} {μ0 : mm_M} {rem : List mm_E} {L : mm_L} {st : List mm_V} {μ : mm_M} {Post : Option mm_V → mm_M → Prop} (bs : List Bool) (os : List (Option Nat)) {e2 : mm_E} {rem2 : List mm_E} {L2 : mm_L} {st2 : List mm_V} {μ2 : mm_M} {P2 : Prop} (h : mm_go 5000 (mm_co Y) rem L st μ bs os True = some (e2 :: rem2, L2, st2, μ2, P2)) (k : Ev Y μ0 (e2 :: rem2) L2 st2 μ2 Post) (hp : P2 := by (repeat' apply And.intro) <;> first | exact trivial | assumption | rfl | decide | omega | (simp (disch := first | assumption | omega | decide) only [i_add, i_mul, n_cl, nI_and7, nI_and3, v_in, i_eq, i_lt, i_le, i_eq0, i_lt0, i_ge0, i_gt0, i_le0, ↓lg_cmp_eq, ↓lg_cmp_ge, ↓lg_cmp_gt, ↓lg_cmp_le, ↓lg_cmp_lt, zb_e0, zb_n0, Classical.not_not, up_ne, Nat.zero_add, Nat.add_zero, l_lt, l_le, l_eq, j_lt, j_le, j_eq, j_z, l_z, jl2, nI_tl, lN_t, i_l1, *] <;> first | assumption | omega | decide)) : Ev Y μ0 rem L st μ Post := ev_go bs os h hp k
theorem ev_bF2 {Y : mm_Y} {μ0 : mm_M} {rem : List mm_E} {L : mm_L} {st : List mm_V} {μ : mm_M} {Post : Option mm_V → mm_M → Prop} {e2 e3 : mm_E} {rem2 rem3 : List mm_E} {L2 L3 : mm_L} {st2 st3 : List mm_V} {μ2 μ3 : mm_M} {c c2 d d2 : Prop} (hT : mm_go 1 (mm_co Y) rem L st μ [true] [] True = some (e2 :: rem2, L2, st2, μ2, True ∧ c)) (hF : mm_go 1 (mm_co Y) rem L st μ [false] [] True = some (e3 :: rem3, L3, st3, μ3, True ∧ c2)) (kt : d → Ev Y μ0 (e2 :: rem2) L2 st2 μ2 Post) (kf : d2 → Ev Y μ0 (e3 :: rem3) L3 st3 μ3 Post) (hc : ¬ c → c2 := by first | exact id | exact Classical.not_not.mp) (g1 : c → d := by intro hh; (try simp (disch := first | assumption | omega | decide) only [i_add, i_mul, n_cl, nI_and7, nI_and3, v_in, i_eq, i_lt, i_le, i_eq0, i_lt0, i_ge0, i_gt0, i_le0, ↓lg_cmp_eq, ↓lg_cmp_ge, ↓lg_cmp_gt, ↓lg_cmp_le, ↓lg_cmp_lt, zb_e0, zb_n0, Classical.not_not, up_ne, Nat.zero_add, Nat.add_zero, l_lt, l_le, l_eq, j_lt, j_le, j_eq, j_z, l_z, jl2, nI_tl, lN_t, i_l1, *] at hh); exact hh) (g2 : c2 → d2 := by intro hh; (try simp (disch := first | assumption | omega | decide) only [i_add, i_mul, n_cl, nI_and7, nI_and3, v_in, i_eq, i_lt, i_le, i_eq0, i_lt0, i_ge0, i_gt0, i_le0, ↓lg_cmp_eq, ↓lg_cmp_ge, ↓lg_cmp_gt, ↓lg_cmp_le, ↓lg_cmp_lt, zb_e0, zb_n0, Classical.not_not, up_ne, Nat.zero_add, Nat.add_zero, l_lt, l_le, l_eq, j_lt, j_le, j_eq, j_z, l_z, jl2, nI_tl, lN_t, i_l1, *] at hh); exact hh) : Ev Y μ0 rem L st μ Post := ev_br hT hF hc (fun h => kt (g1 h)) (fun h => kf (g2 h))
theorem lf_F2 {p : Prop} (h : p := by first | rfl | assumption | (simp (disch := first | assumption | omega | decide) only [i_add, i_mul, n_cl, nI_and7, nI_and3, v_in, i_eq, i_lt, i_le, i_eq0, i_lt0, i_ge0, i_gt0, i_le0, ↓lg_cmp_eq, ↓lg_cmp_ge, ↓lg_cmp_gt, ↓lg_cmp_le, ↓lg_cmp_lt, zb_e0, zb_n0, Classical.not_not, up_ne, Nat.zero_add, Nat.add_zero, l_lt, l_le, l_eq, j_lt, j_le, j_eq, j_z, l_z, jl2, nI_tl, lN_t, i_l1, *] <;> first | rfl | assumption | omega | decide)) : p := h
theorem C_in {μ : mm_M} {v lo hi : Int64} : mm_Det Y_MM_in [vl v, vl lo, vl hi] μ (some (vi (zb (ri lo hi v)))) μ := by
  refine det_of h_MM_in rfl rfl rfl ?_
  refine ev_g0 rfl ?_
  refine ev_bF2 rfl rfl (fun h_1 => ?_) (fun h_1 => ?_)
  · skip
    refine ev_g0 rfl ?_
    refine ev_retz rfl (by first | decide | exact zb_01 _) ?_
    exact ⟨congrArg (fun z => some (vi z)) (zb_f (ri_f.mpr (by omega))).symm, rfl⟩
  · skip
    refine ev_g0 rfl ?_
    refine ev_bF2 rfl rfl (fun h_2 => ?_) (fun h_2 => ?_)
    · skip
      refine ev_g0 rfl ?_
      refine ev_retz rfl (by first | decide | exact zb_01 _) ?_
      exact ⟨congrArg (fun z => some (vi z)) (zb_f (ri_f.mpr (by omega))).symm, rfl⟩
    · skip
      refine ev_g0 rfl ?_
      refine ev_retz rfl (by first | decide | exact zb_01 _) ?_
      exact ⟨congrArg (fun z => some (vi z)) (zb_t (ri_t.mpr (by omega))).symm, rfl⟩
