/-! ===== the table is checked ===== -/
theorem xrowsF_spec {k : Nat} : ∀ (l : List xI) (j : Nat), xrowsF k j l = true → ∀ (i : Nat) (q : xI), l[i]? = some q → xrow k (j + i) q = true := by
  intro l
  induction l with
  | nil => intro j _ i q h; cases h
  | cons x r ih =>
    intro j h i q hq
    simp only [xrowsF, Bool.and_eq_true] at h
    cases i with
    | zero =>
      cases hq
      exact h.1
    | succ i =>
      have := ih (j + 1) h.2 i q hq
      rw [show j + (i + 1) = j + 1 + i by omega]
      exact this
theorem xrows_lo : ∀ k, k < 244 → xrowsF k 0 ((cds[k]?).getD []) = true := by
  intro k hk
  match k, hk with
  | 0, _ => exact xr_0
  | 1, _ => exact xr_1
  | 2, _ => exact xr_2
  | 3, _ => exact xr_3
  | 4, _ => exact xr_4
  | 5, _ => exact xr_5
  | 6, _ => exact xr_6
  | 7, _ => exact xr_7
  | 8, _ => exact xr_8
  | 9, _ => exact xr_9
  | 10, _ => exact xr_10
  | 11, _ => exact xr_11
  | 12, _ => exact xr_12
  | 13, _ => exact xr_13
  | 14, _ => exact xr_14
  | 15, _ => exact xr_15
  | 16, _ => exact xr_16
  | 17, _ => exact xr_17
  | 18, _ => exact xr_18
  | 19, _ => exact xr_19
  | 20, _ => exact xr_20
  | 21, _ => exact xr_21
  | 22, _ => exact xr_22
  | 23, _ => exact xr_23
  | 24, _ => exact xr_24
  | 25, _ => exact xr_25
  | 26, _ => exact xr_26
  | 27, _ => exact xr_27
  | 28, _ => exact xr_28
  | 29, _ => exact xr_29
  | 30, _ => exact xr_30
  | 31, _ => exact xr_31
  | 32, _ => exact xr_32
  | 33, _ => exact xr_33
  | 34, _ => exact xr_34
  | 35, _ => exact xr_35
  | 36, _ => exact xr_36
  | 37, _ => exact xr_37
  | 38, _ => exact xr_38
  | 39, _ => exact xr_39
  | 40, _ => exact xr_40
  | 41, _ => exact xr_41
  | 42, _ => exact xr_42
  | 43, _ => exact xr_43
  | 44, _ => exact xr_44
  | 45, _ => exact xr_45
  | 46, _ => exact xr_46
  | 47, _ => exact xr_47
  | 48, _ => exact xr_48
  | 49, _ => exact xr_49
  | 50, _ => exact xr_50
  | 51, _ => exact xr_51
  | 52, _ => exact xr_52
  | 53, _ => exact xr_53
  | 54, _ => exact xr_54
  | 55, _ => exact xr_55
  | 56, _ => exact xr_56
  | 57, _ => exact xr_57
  | 58, _ => exact xr_58
  | 59, _ => exact xr_59
  | 60, _ => exact xr_60
  | 61, _ => exact xr_61
  | 62, _ => exact xr_62
  | 63, _ => exact xr_63
  | 64, _ => exact xr_64
  | 65, _ => exact xr_65
  | 66, _ => exact xr_66
  | 67, _ => exact xr_67
  | 68, _ => exact xr_68
  | 69, _ => exact xr_69
  | 70, _ => exact xr_70
  | 71, _ => exact xr_71
  | 72, _ => exact xr_72
  | 73, _ => exact xr_73
  | 74, _ => exact xr_74
  | 75, _ => exact xr_75
  | 76, _ => exact xr_76
  | 77, _ => exact xr_77
  | 78, _ => exact xr_78
  | 79, _ => exact xr_79
  | 80, _ => exact xr_80
  | 81, _ => exact xr_81
  | 82, _ => exact xr_82
  | 83, _ => exact xr_83
  | 84, _ => exact xr_84
  | 85, _ => exact xr_85
  | 86, _ => exact xr_86
  | 87, _ => exact xr_87
  | 88, _ => exact xr_88
  | 89, _ => exact xr_89
  | 90, _ => exact xr_90
  | 91, _ => exact xr_91
  | 92, _ => exact xr_92
  | 93, _ => exact xr_93
  | 94, _ => exact xr_94
  | 95, _ => exact xr_95
  | 96, _ => exact xr_96
  | 97, _ => exact xr_97
  | 98, _ => exact xr_98
  | 99, _ => exact xr_99
  | 100, _ => exact xr_100
  | 101, _ => exact xr_101
  | 102, _ => exact xr_102
  | 103, _ => exact xr_103
  | 104, _ => exact xr_104
  | 105, _ => exact xr_105
  | 106, _ => exact xr_106
  | 107, _ => exact xr_107
  | 108, _ => exact xr_108
  | 109, _ => exact xr_109
  | 110, _ => exact xr_110
  | 111, _ => exact xr_111
  | 112, _ => exact xr_112
  | 113, _ => exact xr_113
  | 114, _ => exact xr_114
  | 115, _ => exact xr_115
  | 116, _ => exact xr_116
  | 117, _ => exact xr_117
  | 118, _ => exact xr_118
  | 119, _ => exact xr_119
  | 120, _ => exact xr_120
  | 121, _ => exact xr_121
  | 122, _ => exact xr_122
  | 123, _ => exact xr_123
  | 124, _ => exact xr_124
  | 125, _ => exact xr_125
  | 126, _ => exact xr_126
  | 127, _ => exact xr_127
  | 128, _ => exact xr_128
  | 129, _ => exact xr_129
  | 130, _ => exact xr_130
  | 131, _ => exact xr_131
  | 132, _ => exact xr_132
  | 133, _ => exact xr_133
  | 134, _ => exact xr_134
  | 135, _ => exact xr_135
  | 136, _ => exact xr_136
  | 137, _ => exact xr_137
  | 138, _ => exact xr_138
  | 139, _ => exact xr_139
  | 140, _ => exact xr_140
  | 141, _ => exact xr_141
  | 142, _ => exact xr_142
  | 143, _ => exact xr_143
  | 144, _ => exact xr_144
  | 145, _ => exact xr_145
  | 146, _ => exact xr_146
  | 147, _ => exact xr_147
  | 148, _ => exact xr_148
  | 149, _ => exact xr_149
  | 150, _ => exact xr_150
  | 151, _ => exact xr_151
  | 152, _ => exact xr_152
  | 153, _ => exact xr_153
  | 154, _ => exact xr_154
  | 155, _ => exact xr_155
  | 156, _ => exact xr_156
  | 157, _ => exact xr_157
  | 158, _ => exact xr_158
  | 159, _ => exact xr_159
  | 160, _ => exact xr_160
  | 161, _ => exact xr_161
  | 162, _ => exact xr_162
  | 163, _ => exact xr_163
  | 164, _ => exact xr_164
  | 165, _ => exact xr_165
  | 166, _ => exact xr_166
  | 167, _ => exact xr_167
  | 168, _ => exact xr_168
  | 169, _ => exact xr_169
  | 170, _ => exact xr_170
  | 171, _ => exact xr_171
  | 172, _ => exact xr_172
  | 173, _ => exact xr_173
  | 174, _ => exact xr_174
  | 175, _ => exact xr_175
  | 176, _ => exact xr_176
  | 177, _ => exact xr_177
  | 178, _ => exact xr_178
  | 179, _ => exact xr_179
  | 180, _ => exact xr_180
  | 181, _ => exact xr_181
  | 182, _ => exact xr_182
  | 183, _ => exact xr_183
  | 184, _ => exact xr_184
  | 185, _ => exact xr_185
  | 186, _ => exact xr_186
  | 187, _ => exact xr_187
  | 188, _ => exact xr_188
  | 189, _ => exact xr_189
  | 190, _ => exact xr_190
  | 191, _ => exact xr_191
  | 192, _ => exact xr_192
  | 193, _ => exact xr_193
  | 194, _ => exact xr_194
  | 195, _ => exact xr_195
  | 196, _ => exact xr_196
  | 197, _ => exact xr_197
  | 198, _ => exact xr_198
  | 199, _ => exact xr_199
  | 200, _ => exact xr_200
  | 201, _ => exact xr_201
  | 202, _ => exact xr_202
  | 203, _ => exact xr_203
  | 204, _ => exact xr_204
  | 205, _ => exact xr_205
  | 206, _ => exact xr_206
  | 207, _ => exact xr_207
  | 208, _ => exact xr_208
  | 209, _ => exact xr_209
  | 210, _ => exact xr_210
  | 211, _ => exact xr_211
  | 212, _ => exact xr_212
  | 213, _ => exact xr_213
  | 214, _ => exact xr_214
  | 215, _ => exact xr_215
  | 216, _ => exact xr_216
  | 217, _ => exact xr_217
  | 218, _ => exact xr_218
  | 219, _ => exact xr_219
  | 220, _ => exact xr_220
  | 221, _ => exact xr_221
  | 222, _ => exact xr_222
  | 223, _ => exact xr_223
  | 224, _ => exact xr_224
  | 225, _ => exact xr_225
  | 226, _ => exact xr_226
  | 227, _ => exact xr_227
  | 228, _ => exact xr_228
  | 229, _ => exact xr_229
  | 230, _ => exact xr_230
  | 231, _ => exact xr_231
  | 232, _ => exact xr_232
  | 233, _ => exact xr_233
  | 234, _ => exact xr_234
  | 235, _ => exact xr_235
  | 236, _ => exact xr_236
  | 237, _ => exact xr_237
  | 238, _ => exact xr_238
  | 239, _ => exact xr_239
  | 240, _ => exact xr_240
  | 241, _ => exact xr_241
  | 242, _ => exact xr_242
  | 243, _ => exact xr_243
theorem xrows_law : ∀ i q, ft 244 i = some q → xrow 244 i q = true := by
  intro i q hq
  have hi : i < 883 := by
    have h : (cds[244]?).getD [] = cd_244 := rfl
    unfold ft at hq
    rw [h] at hq
    exact (List.getElem?_eq_some_iff.mp hq).1
  by_cases h0 : i < 30
  · have h := List.all_eq_true.mp xrl_0 (i - 0) (List.mem_range.mpr (by omega))
    rw [show 0 + (i - 0) = i by omega, hq] at h
    exact h
  by_cases h1 : i < 60
  · have h := List.all_eq_true.mp xrl_1 (i - 30) (List.mem_range.mpr (by omega))
    rw [show 30 + (i - 30) = i by omega, hq] at h
    exact h
  by_cases h2 : i < 90
  · have h := List.all_eq_true.mp xrl_2 (i - 60) (List.mem_range.mpr (by omega))
    rw [show 60 + (i - 60) = i by omega, hq] at h
    exact h
  by_cases h3 : i < 120
  · have h := List.all_eq_true.mp xrl_3 (i - 90) (List.mem_range.mpr (by omega))
    rw [show 90 + (i - 90) = i by omega, hq] at h
    exact h
  by_cases h4 : i < 150
  · have h := List.all_eq_true.mp xrl_4 (i - 120) (List.mem_range.mpr (by omega))
    rw [show 120 + (i - 120) = i by omega, hq] at h
    exact h
  by_cases h5 : i < 180
  · have h := List.all_eq_true.mp xrl_5 (i - 150) (List.mem_range.mpr (by omega))
    rw [show 150 + (i - 150) = i by omega, hq] at h
    exact h
  by_cases h6 : i < 210
  · have h := List.all_eq_true.mp xrl_6 (i - 180) (List.mem_range.mpr (by omega))
    rw [show 180 + (i - 180) = i by omega, hq] at h
    exact h
  by_cases h7 : i < 240
  · have h := List.all_eq_true.mp xrl_7 (i - 210) (List.mem_range.mpr (by omega))
    rw [show 210 + (i - 210) = i by omega, hq] at h
    exact h
  by_cases h8 : i < 270
  · have h := List.all_eq_true.mp xrl_8 (i - 240) (List.mem_range.mpr (by omega))
    rw [show 240 + (i - 240) = i by omega, hq] at h
    exact h
  by_cases h9 : i < 300
  · have h := List.all_eq_true.mp xrl_9 (i - 270) (List.mem_range.mpr (by omega))
    rw [show 270 + (i - 270) = i by omega, hq] at h
    exact h
  by_cases h10 : i < 330
  · have h := List.all_eq_true.mp xrl_10 (i - 300) (List.mem_range.mpr (by omega))
    rw [show 300 + (i - 300) = i by omega, hq] at h
    exact h
  by_cases h11 : i < 360
  · have h := List.all_eq_true.mp xrl_11 (i - 330) (List.mem_range.mpr (by omega))
    rw [show 330 + (i - 330) = i by omega, hq] at h
    exact h
  by_cases h12 : i < 390
  · have h := List.all_eq_true.mp xrl_12 (i - 360) (List.mem_range.mpr (by omega))
    rw [show 360 + (i - 360) = i by omega, hq] at h
    exact h
  by_cases h13 : i < 420
  · have h := List.all_eq_true.mp xrl_13 (i - 390) (List.mem_range.mpr (by omega))
    rw [show 390 + (i - 390) = i by omega, hq] at h
    exact h
  by_cases h14 : i < 450
  · have h := List.all_eq_true.mp xrl_14 (i - 420) (List.mem_range.mpr (by omega))
    rw [show 420 + (i - 420) = i by omega, hq] at h
    exact h
  by_cases h15 : i < 480
  · have h := List.all_eq_true.mp xrl_15 (i - 450) (List.mem_range.mpr (by omega))
    rw [show 450 + (i - 450) = i by omega, hq] at h
    exact h
  by_cases h16 : i < 510
  · have h := List.all_eq_true.mp xrl_16 (i - 480) (List.mem_range.mpr (by omega))
    rw [show 480 + (i - 480) = i by omega, hq] at h
    exact h
  by_cases h17 : i < 540
  · have h := List.all_eq_true.mp xrl_17 (i - 510) (List.mem_range.mpr (by omega))
    rw [show 510 + (i - 510) = i by omega, hq] at h
    exact h
  by_cases h18 : i < 570
  · have h := List.all_eq_true.mp xrl_18 (i - 540) (List.mem_range.mpr (by omega))
    rw [show 540 + (i - 540) = i by omega, hq] at h
    exact h
  by_cases h19 : i < 600
  · have h := List.all_eq_true.mp xrl_19 (i - 570) (List.mem_range.mpr (by omega))
    rw [show 570 + (i - 570) = i by omega, hq] at h
    exact h
  by_cases h20 : i < 630
  · have h := List.all_eq_true.mp xrl_20 (i - 600) (List.mem_range.mpr (by omega))
    rw [show 600 + (i - 600) = i by omega, hq] at h
    exact h
  by_cases h21 : i < 660
  · have h := List.all_eq_true.mp xrl_21 (i - 630) (List.mem_range.mpr (by omega))
    rw [show 630 + (i - 630) = i by omega, hq] at h
    exact h
  by_cases h22 : i < 690
  · have h := List.all_eq_true.mp xrl_22 (i - 660) (List.mem_range.mpr (by omega))
    rw [show 660 + (i - 660) = i by omega, hq] at h
    exact h
  by_cases h23 : i < 720
  · have h := List.all_eq_true.mp xrl_23 (i - 690) (List.mem_range.mpr (by omega))
    rw [show 690 + (i - 690) = i by omega, hq] at h
    exact h
  by_cases h24 : i < 750
  · have h := List.all_eq_true.mp xrl_24 (i - 720) (List.mem_range.mpr (by omega))
    rw [show 720 + (i - 720) = i by omega, hq] at h
    exact h
  by_cases h25 : i < 780
  · have h := List.all_eq_true.mp xrl_25 (i - 750) (List.mem_range.mpr (by omega))
    rw [show 750 + (i - 750) = i by omega, hq] at h
    exact h
  by_cases h26 : i < 810
  · have h := List.all_eq_true.mp xrl_26 (i - 780) (List.mem_range.mpr (by omega))
    rw [show 780 + (i - 780) = i by omega, hq] at h
    exact h
  by_cases h27 : i < 840
  · have h := List.all_eq_true.mp xrl_27 (i - 810) (List.mem_range.mpr (by omega))
    rw [show 810 + (i - 810) = i by omega, hq] at h
    exact h
  by_cases h28 : i < 870
  · have h := List.all_eq_true.mp xrl_28 (i - 840) (List.mem_range.mpr (by omega))
    rw [show 840 + (i - 840) = i by omega, hq] at h
    exact h
  have h := List.all_eq_true.mp xrl_29 (i - 870) (List.mem_range.mpr (by omega))
  rw [show 870 + (i - 870) = i by omega, hq] at h
  exact h
theorem xme_lo : ∀ k, k < 244 → xme k = true := by
  intro k hk
  by_cases h0 : k < 31
  · have h := List.all_eq_true.mp xme_0 (k - 0) (List.mem_range.mpr (by omega))
    rw [show 0 + (k - 0) = k by omega] at h
    exact h
  by_cases h1 : k < 62
  · have h := List.all_eq_true.mp xme_1 (k - 31) (List.mem_range.mpr (by omega))
    rw [show 31 + (k - 31) = k by omega] at h
    exact h
  by_cases h2 : k < 93
  · have h := List.all_eq_true.mp xme_2 (k - 62) (List.mem_range.mpr (by omega))
    rw [show 62 + (k - 62) = k by omega] at h
    exact h
  by_cases h3 : k < 124
  · have h := List.all_eq_true.mp xme_3 (k - 93) (List.mem_range.mpr (by omega))
    rw [show 93 + (k - 93) = k by omega] at h
    exact h
  by_cases h4 : k < 155
  · have h := List.all_eq_true.mp xme_4 (k - 124) (List.mem_range.mpr (by omega))
    rw [show 124 + (k - 124) = k by omega] at h
    exact h
  by_cases h5 : k < 186
  · have h := List.all_eq_true.mp xme_5 (k - 155) (List.mem_range.mpr (by omega))
    rw [show 155 + (k - 155) = k by omega] at h
    exact h
  by_cases h6 : k < 217
  · have h := List.all_eq_true.mp xme_6 (k - 186) (List.mem_range.mpr (by omega))
    rw [show 186 + (k - 186) = k by omega] at h
    exact h
  have h := List.all_eq_true.mp xme_7 (k - 217) (List.mem_range.mpr (by omega))
  rw [show 217 + (k - 217) = k by omega] at h
  exact h
theorem xokt : xOKT := by
  refine ⟨fun k i q hq => ?_, xme_lo⟩
  by_cases hk : k < 244
  · have h := xrowsF_spec _ 0 (xrows_lo k hk) i q hq
    rw [Nat.zero_add] at h
    exact h
  · by_cases h4 : k = 244
    · subst h4
      exact xrows_law i q hq
    · exfalso
      have h : cds[k]? = none := List.getElem?_eq_none (by show 245 ≤ k; omega)
      unfold ft at hq
      rw [h] at hq
      cases hq
