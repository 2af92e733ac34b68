/-! ===== the table is checked ===== -/
theorem xrowsF_spec {k : Nat} : ∀ (l : List xI) (j : Nat), xrowsF k j l = true → ∀ (i : Nat) (q : xI), l[i]? = some q → xrow k (j + i) q = true := by
  intro l
  induction l with
  | nil => intro j _ i q h; cases h
  | cons x r ih =>
    intro j h i q hq
    simp only [xrowsF, Bool.and_eq_true] at h
    cases i with
    | zero =>
      cases hq
      exact h.1
    | succ i =>
      have := ih (j + 1) h.2 i q hq
      rw [show j + (i + 1) = j + 1 + i by omega]
      exact this
theorem xrows_lo : ∀ k, k < 244 → xrowsF k 0 ((cds[k]?).getD []) = true := by
  intro k hk
  by_cases h0_244 : k < 122
  · by_cases h0_122 : k < 61
    · by_cases h0_61 : k < 30
      · by_cases h0_30 : k < 15
        · by_cases h0_15 : k < 7
          · by_cases h0_7 : k < 3
            · by_cases h0_3 : k < 1
              · have e : k = 0 := by omega
                subst e
                exact xr_0
              · by_cases h1_3 : k < 2
                · have e : k = 1 := by omega
                  subst e
                  exact xr_1
                · have e : k = 2 := by omega
                  subst e
                  exact xr_2
            · by_cases h3_7 : k < 5
              · by_cases h3_5 : k < 4
                · have e : k = 3 := by omega
                  subst e
                  exact xr_3
                · have e : k = 4 := by omega
                  subst e
                  exact xr_4
              · by_cases h5_7 : k < 6
                · have e : k = 5 := by omega
                  subst e
                  exact xr_5
                · have e : k = 6 := by omega
                  subst e
                  exact xr_6
          · by_cases h7_15 : k < 11
            · by_cases h7_11 : k < 9
              · by_cases h7_9 : k < 8
                · have e : k = 7 := by omega
                  subst e
                  exact xr_7
                · have e : k = 8 := by omega
                  subst e
                  exact xr_8
              · by_cases h9_11 : k < 10
                · have e : k = 9 := by omega
                  subst e
                  exact xr_9
                · have e : k = 10 := by omega
                  subst e
                  exact xr_10
            · by_cases h11_15 : k < 13
              · by_cases h11_13 : k < 12
                · have e : k = 11 := by omega
                  subst e
                  exact xr_11
                · have e : k = 12 := by omega
                  subst e
                  exact xr_12
              · by_cases h13_15 : k < 14
                · have e : k = 13 := by omega
                  subst e
                  exact xr_13
                · have e : k = 14 := by omega
                  subst e
                  exact xr_14
        · by_cases h15_30 : k < 22
          · by_cases h15_22 : k < 18
            · by_cases h15_18 : k < 16
              · have e : k = 15 := by omega
                subst e
                exact xr_15
              · by_cases h16_18 : k < 17
                · have e : k = 16 := by omega
                  subst e
                  exact xr_16
                · have e : k = 17 := by omega
                  subst e
                  exact xr_17
            · by_cases h18_22 : k < 20
              · by_cases h18_20 : k < 19
                · have e : k = 18 := by omega
                  subst e
                  exact xr_18
                · have e : k = 19 := by omega
                  subst e
                  exact xr_19
              · by_cases h20_22 : k < 21
                · have e : k = 20 := by omega
                  subst e
                  exact xr_20
                · have e : k = 21 := by omega
                  subst e
                  exact xr_21
          · by_cases h22_30 : k < 26
            · by_cases h22_26 : k < 24
              · by_cases h22_24 : k < 23
                · have e : k = 22 := by omega
                  subst e
                  exact xr_22
                · have e : k = 23 := by omega
                  subst e
                  exact xr_23
              · by_cases h24_26 : k < 25
                · have e : k = 24 := by omega
                  subst e
                  exact xr_24
                · have e : k = 25 := by omega
                  subst e
                  exact xr_25
            · by_cases h26_30 : k < 28
              · by_cases h26_28 : k < 27
                · have e : k = 26 := by omega
                  subst e
                  exact xr_26
                · have e : k = 27 := by omega
                  subst e
                  exact xr_27
              · by_cases h28_30 : k < 29
                · have e : k = 28 := by omega
                  subst e
                  exact xr_28
                · have e : k = 29 := by omega
                  subst e
                  exact xr_29
      · by_cases h30_61 : k < 45
        · by_cases h30_45 : k < 37
          · by_cases h30_37 : k < 33
            · by_cases h30_33 : k < 31
              · have e : k = 30 := by omega
                subst e
                exact xr_30
              · by_cases h31_33 : k < 32
                · have e : k = 31 := by omega
                  subst e
                  exact xr_31
                · have e : k = 32 := by omega
                  subst e
                  exact xr_32
            · by_cases h33_37 : k < 35
              · by_cases h33_35 : k < 34
                · have e : k = 33 := by omega
                  subst e
                  exact xr_33
                · have e : k = 34 := by omega
                  subst e
                  exact xr_34
              · by_cases h35_37 : k < 36
                · have e : k = 35 := by omega
                  subst e
                  exact xr_35
                · have e : k = 36 := by omega
                  subst e
                  exact xr_36
          · by_cases h37_45 : k < 41
            · by_cases h37_41 : k < 39
              · by_cases h37_39 : k < 38
                · have e : k = 37 := by omega
                  subst e
                  exact xr_37
                · have e : k = 38 := by omega
                  subst e
                  exact xr_38
              · by_cases h39_41 : k < 40
                · have e : k = 39 := by omega
                  subst e
                  exact xr_39
                · have e : k = 40 := by omega
                  subst e
                  exact xr_40
            · by_cases h41_45 : k < 43
              · by_cases h41_43 : k < 42
                · have e : k = 41 := by omega
                  subst e
                  exact xr_41
                · have e : k = 42 := by omega
                  subst e
                  exact xr_42
              · by_cases h43_45 : k < 44
                · have e : k = 43 := by omega
                  subst e
                  exact xr_43
                · have e : k = 44 := by omega
                  subst e
                  exact xr_44
        · by_cases h45_61 : k < 53
          · by_cases h45_53 : k < 49
            · by_cases h45_49 : k < 47
              · by_cases h45_47 : k < 46
                · have e : k = 45 := by omega
                  subst e
                  exact xr_45
                · have e : k = 46 := by omega
                  subst e
                  exact xr_46
              · by_cases h47_49 : k < 48
                · have e : k = 47 := by omega
                  subst e
                  exact xr_47
                · have e : k = 48 := by omega
                  subst e
                  exact xr_48
            · by_cases h49_53 : k < 51
              · by_cases h49_51 : k < 50
                · have e : k = 49 := by omega
                  subst e
                  exact xr_49
                · have e : k = 50 := by omega
                  subst e
                  exact xr_50
              · by_cases h51_53 : k < 52
                · have e : k = 51 := by omega
                  subst e
                  exact xr_51
                · have e : k = 52 := by omega
                  subst e
                  exact xr_52
          · by_cases h53_61 : k < 57
            · by_cases h53_57 : k < 55
              · by_cases h53_55 : k < 54
                · have e : k = 53 := by omega
                  subst e
                  exact xr_53
                · have e : k = 54 := by omega
                  subst e
                  exact xr_54
              · by_cases h55_57 : k < 56
                · have e : k = 55 := by omega
                  subst e
                  exact xr_55
                · have e : k = 56 := by omega
                  subst e
                  exact xr_56
            · by_cases h57_61 : k < 59
              · by_cases h57_59 : k < 58
                · have e : k = 57 := by omega
                  subst e
                  exact xr_57
                · have e : k = 58 := by omega
                  subst e
                  exact xr_58
              · by_cases h59_61 : k < 60
                · have e : k = 59 := by omega
                  subst e
                  exact xr_59
                · have e : k = 60 := by omega
                  subst e
                  exact xr_60
    · by_cases h61_122 : k < 91
      · by_cases h61_91 : k < 76
        · by_cases h61_76 : k < 68
          · by_cases h61_68 : k < 64
            · by_cases h61_64 : k < 62
              · have e : k = 61 := by omega
                subst e
                exact xr_61
              · by_cases h62_64 : k < 63
                · have e : k = 62 := by omega
                  subst e
                  exact xr_62
                · have e : k = 63 := by omega
                  subst e
                  exact xr_63
            · by_cases h64_68 : k < 66
              · by_cases h64_66 : k < 65
                · have e : k = 64 := by omega
                  subst e
                  exact xr_64
                · have e : k = 65 := by omega
                  subst e
                  exact xr_65
              · by_cases h66_68 : k < 67
                · have e : k = 66 := by omega
                  subst e
                  exact xr_66
                · have e : k = 67 := by omega
                  subst e
                  exact xr_67
          · by_cases h68_76 : k < 72
            · by_cases h68_72 : k < 70
              · by_cases h68_70 : k < 69
                · have e : k = 68 := by omega
                  subst e
                  exact xr_68
                · have e : k = 69 := by omega
                  subst e
                  exact xr_69
              · by_cases h70_72 : k < 71
                · have e : k = 70 := by omega
                  subst e
                  exact xr_70
                · have e : k = 71 := by omega
                  subst e
                  exact xr_71
            · by_cases h72_76 : k < 74
              · by_cases h72_74 : k < 73
                · have e : k = 72 := by omega
                  subst e
                  exact xr_72
                · have e : k = 73 := by omega
                  subst e
                  exact xr_73
              · by_cases h74_76 : k < 75
                · have e : k = 74 := by omega
                  subst e
                  exact xr_74
                · have e : k = 75 := by omega
                  subst e
                  exact xr_75
        · by_cases h76_91 : k < 83
          · by_cases h76_83 : k < 79
            · by_cases h76_79 : k < 77
              · have e : k = 76 := by omega
                subst e
                exact xr_76
              · by_cases h77_79 : k < 78
                · have e : k = 77 := by omega
                  subst e
                  exact xr_77
                · have e : k = 78 := by omega
                  subst e
                  exact xr_78
            · by_cases h79_83 : k < 81
              · by_cases h79_81 : k < 80
                · have e : k = 79 := by omega
                  subst e
                  exact xr_79
                · have e : k = 80 := by omega
                  subst e
                  exact xr_80
              · by_cases h81_83 : k < 82
                · have e : k = 81 := by omega
                  subst e
                  exact xr_81
                · have e : k = 82 := by omega
                  subst e
                  exact xr_82
          · by_cases h83_91 : k < 87
            · by_cases h83_87 : k < 85
              · by_cases h83_85 : k < 84
                · have e : k = 83 := by omega
                  subst e
                  exact xr_83
                · have e : k = 84 := by omega
                  subst e
                  exact xr_84
              · by_cases h85_87 : k < 86
                · have e : k = 85 := by omega
                  subst e
                  exact xr_85
                · have e : k = 86 := by omega
                  subst e
                  exact xr_86
            · by_cases h87_91 : k < 89
              · by_cases h87_89 : k < 88
                · have e : k = 87 := by omega
                  subst e
                  exact xr_87
                · have e : k = 88 := by omega
                  subst e
                  exact xr_88
              · by_cases h89_91 : k < 90
                · have e : k = 89 := by omega
                  subst e
                  exact xr_89
                · have e : k = 90 := by omega
                  subst e
                  exact xr_90
      · by_cases h91_122 : k < 106
        · by_cases h91_106 : k < 98
          · by_cases h91_98 : k < 94
            · by_cases h91_94 : k < 92
              · have e : k = 91 := by omega
                subst e
                exact xr_91
              · by_cases h92_94 : k < 93
                · have e : k = 92 := by omega
                  subst e
                  exact xr_92
                · have e : k = 93 := by omega
                  subst e
                  exact xr_93
            · by_cases h94_98 : k < 96
              · by_cases h94_96 : k < 95
                · have e : k = 94 := by omega
                  subst e
                  exact xr_94
                · have e : k = 95 := by omega
                  subst e
                  exact xr_95
              · by_cases h96_98 : k < 97
                · have e : k = 96 := by omega
                  subst e
                  exact xr_96
                · have e : k = 97 := by omega
                  subst e
                  exact xr_97
          · by_cases h98_106 : k < 102
            · by_cases h98_102 : k < 100
              · by_cases h98_100 : k < 99
                · have e : k = 98 := by omega
                  subst e
                  exact xr_98
                · have e : k = 99 := by omega
                  subst e
                  exact xr_99
              · by_cases h100_102 : k < 101
                · have e : k = 100 := by omega
                  subst e
                  exact xr_100
                · have e : k = 101 := by omega
                  subst e
                  exact xr_101
            · by_cases h102_106 : k < 104
              · by_cases h102_104 : k < 103
                · have e : k = 102 := by omega
                  subst e
                  exact xr_102
                · have e : k = 103 := by omega
                  subst e
                  exact xr_103
              · by_cases h104_106 : k < 105
                · have e : k = 104 := by omega
                  subst e
                  exact xr_104
                · have e : k = 105 := by omega
                  subst e
                  exact xr_105
        · by_cases h106_122 : k < 114
          · by_cases h106_114 : k < 110
            · by_cases h106_110 : k < 108
              · by_cases h106_108 : k < 107
                · have e : k = 106 := by omega
                  subst e
                  exact xr_106
                · have e : k = 107 := by omega
                  subst e
                  exact xr_107
              · by_cases h108_110 : k < 109
                · have e : k = 108 := by omega
                  subst e
                  exact xr_108
                · have e : k = 109 := by omega
                  subst e
                  exact xr_109
            · by_cases h110_114 : k < 112
              · by_cases h110_112 : k < 111
                · have e : k = 110 := by omega
                  subst e
                  exact xr_110
                · have e : k = 111 := by omega
                  subst e
                  exact xr_111
              · by_cases h112_114 : k < 113
                · have e : k = 112 := by omega
                  subst e
                  exact xr_112
                · have e : k = 113 := by omega
                  subst e
                  exact xr_113
          · by_cases h114_122 : k < 118
            · by_cases h114_118 : k < 116
              · by_cases h114_116 : k < 115
                · have e : k = 114 := by omega
                  subst e
                  exact xr_114
                · have e : k = 115 := by omega
                  subst e
                  exact xr_115
              · by_cases h116_118 : k < 117
                · have e : k = 116 := by omega
                  subst e
                  exact xr_116
                · have e : k = 117 := by omega
                  subst e
                  exact xr_117
            · by_cases h118_122 : k < 120
              · by_cases h118_120 : k < 119
                · have e : k = 118 := by omega
                  subst e
                  exact xr_118
                · have e : k = 119 := by omega
                  subst e
                  exact xr_119
              · by_cases h120_122 : k < 121
                · have e : k = 120 := by omega
                  subst e
                  exact xr_120
                · have e : k = 121 := by omega
                  subst e
                  exact xr_121
  · by_cases h122_244 : k < 183
    · by_cases h122_183 : k < 152
      · by_cases h122_152 : k < 137
        · by_cases h122_137 : k < 129
          · by_cases h122_129 : k < 125
            · by_cases h122_125 : k < 123
              · have e : k = 122 := by omega
                subst e
                exact xr_122
              · by_cases h123_125 : k < 124
                · have e : k = 123 := by omega
                  subst e
                  exact xr_123
                · have e : k = 124 := by omega
                  subst e
                  exact xr_124
            · by_cases h125_129 : k < 127
              · by_cases h125_127 : k < 126
                · have e : k = 125 := by omega
                  subst e
                  exact xr_125
                · have e : k = 126 := by omega
                  subst e
                  exact xr_126
              · by_cases h127_129 : k < 128
                · have e : k = 127 := by omega
                  subst e
                  exact xr_127
                · have e : k = 128 := by omega
                  subst e
                  exact xr_128
          · by_cases h129_137 : k < 133
            · by_cases h129_133 : k < 131
              · by_cases h129_131 : k < 130
                · have e : k = 129 := by omega
                  subst e
                  exact xr_129
                · have e : k = 130 := by omega
                  subst e
                  exact xr_130
              · by_cases h131_133 : k < 132
                · have e : k = 131 := by omega
                  subst e
                  exact xr_131
                · have e : k = 132 := by omega
                  subst e
                  exact xr_132
            · by_cases h133_137 : k < 135
              · by_cases h133_135 : k < 134
                · have e : k = 133 := by omega
                  subst e
                  exact xr_133
                · have e : k = 134 := by omega
                  subst e
                  exact xr_134
              · by_cases h135_137 : k < 136
                · have e : k = 135 := by omega
                  subst e
                  exact xr_135
                · have e : k = 136 := by omega
                  subst e
                  exact xr_136
        · by_cases h137_152 : k < 144
          · by_cases h137_144 : k < 140
            · by_cases h137_140 : k < 138
              · have e : k = 137 := by omega
                subst e
                exact xr_137
              · by_cases h138_140 : k < 139
                · have e : k = 138 := by omega
                  subst e
                  exact xr_138
                · have e : k = 139 := by omega
                  subst e
                  exact xr_139
            · by_cases h140_144 : k < 142
              · by_cases h140_142 : k < 141
                · have e : k = 140 := by omega
                  subst e
                  exact xr_140
                · have e : k = 141 := by omega
                  subst e
                  exact xr_141
              · by_cases h142_144 : k < 143
                · have e : k = 142 := by omega
                  subst e
                  exact xr_142
                · have e : k = 143 := by omega
                  subst e
                  exact xr_143
          · by_cases h144_152 : k < 148
            · by_cases h144_148 : k < 146
              · by_cases h144_146 : k < 145
                · have e : k = 144 := by omega
                  subst e
                  exact xr_144
                · have e : k = 145 := by omega
                  subst e
                  exact xr_145
              · by_cases h146_148 : k < 147
                · have e : k = 146 := by omega
                  subst e
                  exact xr_146
                · have e : k = 147 := by omega
                  subst e
                  exact xr_147
            · by_cases h148_152 : k < 150
              · by_cases h148_150 : k < 149
                · have e : k = 148 := by omega
                  subst e
                  exact xr_148
                · have e : k = 149 := by omega
                  subst e
                  exact xr_149
              · by_cases h150_152 : k < 151
                · have e : k = 150 := by omega
                  subst e
                  exact xr_150
                · have e : k = 151 := by omega
                  subst e
                  exact xr_151
      · by_cases h152_183 : k < 167
        · by_cases h152_167 : k < 159
          · by_cases h152_159 : k < 155
            · by_cases h152_155 : k < 153
              · have e : k = 152 := by omega
                subst e
                exact xr_152
              · by_cases h153_155 : k < 154
                · have e : k = 153 := by omega
                  subst e
                  exact xr_153
                · have e : k = 154 := by omega
                  subst e
                  exact xr_154
            · by_cases h155_159 : k < 157
              · by_cases h155_157 : k < 156
                · have e : k = 155 := by omega
                  subst e
                  exact xr_155
                · have e : k = 156 := by omega
                  subst e
                  exact xr_156
              · by_cases h157_159 : k < 158
                · have e : k = 157 := by omega
                  subst e
                  exact xr_157
                · have e : k = 158 := by omega
                  subst e
                  exact xr_158
          · by_cases h159_167 : k < 163
            · by_cases h159_163 : k < 161
              · by_cases h159_161 : k < 160
                · have e : k = 159 := by omega
                  subst e
                  exact xr_159
                · have e : k = 160 := by omega
                  subst e
                  exact xr_160
              · by_cases h161_163 : k < 162
                · have e : k = 161 := by omega
                  subst e
                  exact xr_161
                · have e : k = 162 := by omega
                  subst e
                  exact xr_162
            · by_cases h163_167 : k < 165
              · by_cases h163_165 : k < 164
                · have e : k = 163 := by omega
                  subst e
                  exact xr_163
                · have e : k = 164 := by omega
                  subst e
                  exact xr_164
              · by_cases h165_167 : k < 166
                · have e : k = 165 := by omega
                  subst e
                  exact xr_165
                · have e : k = 166 := by omega
                  subst e
                  exact xr_166
        · by_cases h167_183 : k < 175
          · by_cases h167_175 : k < 171
            · by_cases h167_171 : k < 169
              · by_cases h167_169 : k < 168
                · have e : k = 167 := by omega
                  subst e
                  exact xr_167
                · have e : k = 168 := by omega
                  subst e
                  exact xr_168
              · by_cases h169_171 : k < 170
                · have e : k = 169 := by omega
                  subst e
                  exact xr_169
                · have e : k = 170 := by omega
                  subst e
                  exact xr_170
            · by_cases h171_175 : k < 173
              · by_cases h171_173 : k < 172
                · have e : k = 171 := by omega
                  subst e
                  exact xr_171
                · have e : k = 172 := by omega
                  subst e
                  exact xr_172
              · by_cases h173_175 : k < 174
                · have e : k = 173 := by omega
                  subst e
                  exact xr_173
                · have e : k = 174 := by omega
                  subst e
                  exact xr_174
          · by_cases h175_183 : k < 179
            · by_cases h175_179 : k < 177
              · by_cases h175_177 : k < 176
                · have e : k = 175 := by omega
                  subst e
                  exact xr_175
                · have e : k = 176 := by omega
                  subst e
                  exact xr_176
              · by_cases h177_179 : k < 178
                · have e : k = 177 := by omega
                  subst e
                  exact xr_177
                · have e : k = 178 := by omega
                  subst e
                  exact xr_178
            · by_cases h179_183 : k < 181
              · by_cases h179_181 : k < 180
                · have e : k = 179 := by omega
                  subst e
                  exact xr_179
                · have e : k = 180 := by omega
                  subst e
                  exact xr_180
              · by_cases h181_183 : k < 182
                · have e : k = 181 := by omega
                  subst e
                  exact xr_181
                · have e : k = 182 := by omega
                  subst e
                  exact xr_182
    · by_cases h183_244 : k < 213
      · by_cases h183_213 : k < 198
        · by_cases h183_198 : k < 190
          · by_cases h183_190 : k < 186
            · by_cases h183_186 : k < 184
              · have e : k = 183 := by omega
                subst e
                exact xr_183
              · by_cases h184_186 : k < 185
                · have e : k = 184 := by omega
                  subst e
                  exact xr_184
                · have e : k = 185 := by omega
                  subst e
                  exact xr_185
            · by_cases h186_190 : k < 188
              · by_cases h186_188 : k < 187
                · have e : k = 186 := by omega
                  subst e
                  exact xr_186
                · have e : k = 187 := by omega
                  subst e
                  exact xr_187
              · by_cases h188_190 : k < 189
                · have e : k = 188 := by omega
                  subst e
                  exact xr_188
                · have e : k = 189 := by omega
                  subst e
                  exact xr_189
          · by_cases h190_198 : k < 194
            · by_cases h190_194 : k < 192
              · by_cases h190_192 : k < 191
                · have e : k = 190 := by omega
                  subst e
                  exact xr_190
                · have e : k = 191 := by omega
                  subst e
                  exact xr_191
              · by_cases h192_194 : k < 193
                · have e : k = 192 := by omega
                  subst e
                  exact xr_192
                · have e : k = 193 := by omega
                  subst e
                  exact xr_193
            · by_cases h194_198 : k < 196
              · by_cases h194_196 : k < 195
                · have e : k = 194 := by omega
                  subst e
                  exact xr_194
                · have e : k = 195 := by omega
                  subst e
                  exact xr_195
              · by_cases h196_198 : k < 197
                · have e : k = 196 := by omega
                  subst e
                  exact xr_196
                · have e : k = 197 := by omega
                  subst e
                  exact xr_197
        · by_cases h198_213 : k < 205
          · by_cases h198_205 : k < 201
            · by_cases h198_201 : k < 199
              · have e : k = 198 := by omega
                subst e
                exact xr_198
              · by_cases h199_201 : k < 200
                · have e : k = 199 := by omega
                  subst e
                  exact xr_199
                · have e : k = 200 := by omega
                  subst e
                  exact xr_200
            · by_cases h201_205 : k < 203
              · by_cases h201_203 : k < 202
                · have e : k = 201 := by omega
                  subst e
                  exact xr_201
                · have e : k = 202 := by omega
                  subst e
                  exact xr_202
              · by_cases h203_205 : k < 204
                · have e : k = 203 := by omega
                  subst e
                  exact xr_203
                · have e : k = 204 := by omega
                  subst e
                  exact xr_204
          · by_cases h205_213 : k < 209
            · by_cases h205_209 : k < 207
              · by_cases h205_207 : k < 206
                · have e : k = 205 := by omega
                  subst e
                  exact xr_205
                · have e : k = 206 := by omega
                  subst e
                  exact xr_206
              · by_cases h207_209 : k < 208
                · have e : k = 207 := by omega
                  subst e
                  exact xr_207
                · have e : k = 208 := by omega
                  subst e
                  exact xr_208
            · by_cases h209_213 : k < 211
              · by_cases h209_211 : k < 210
                · have e : k = 209 := by omega
                  subst e
                  exact xr_209
                · have e : k = 210 := by omega
                  subst e
                  exact xr_210
              · by_cases h211_213 : k < 212
                · have e : k = 211 := by omega
                  subst e
                  exact xr_211
                · have e : k = 212 := by omega
                  subst e
                  exact xr_212
      · by_cases h213_244 : k < 228
        · by_cases h213_228 : k < 220
          · by_cases h213_220 : k < 216
            · by_cases h213_216 : k < 214
              · have e : k = 213 := by omega
                subst e
                exact xr_213
              · by_cases h214_216 : k < 215
                · have e : k = 214 := by omega
                  subst e
                  exact xr_214
                · have e : k = 215 := by omega
                  subst e
                  exact xr_215
            · by_cases h216_220 : k < 218
              · by_cases h216_218 : k < 217
                · have e : k = 216 := by omega
                  subst e
                  exact xr_216
                · have e : k = 217 := by omega
                  subst e
                  exact xr_217
              · by_cases h218_220 : k < 219
                · have e : k = 218 := by omega
                  subst e
                  exact xr_218
                · have e : k = 219 := by omega
                  subst e
                  exact xr_219
          · by_cases h220_228 : k < 224
            · by_cases h220_224 : k < 222
              · by_cases h220_222 : k < 221
                · have e : k = 220 := by omega
                  subst e
                  exact xr_220
                · have e : k = 221 := by omega
                  subst e
                  exact xr_221
              · by_cases h222_224 : k < 223
                · have e : k = 222 := by omega
                  subst e
                  exact xr_222
                · have e : k = 223 := by omega
                  subst e
                  exact xr_223
            · by_cases h224_228 : k < 226
              · by_cases h224_226 : k < 225
                · have e : k = 224 := by omega
                  subst e
                  exact xr_224
                · have e : k = 225 := by omega
                  subst e
                  exact xr_225
              · by_cases h226_228 : k < 227
                · have e : k = 226 := by omega
                  subst e
                  exact xr_226
                · have e : k = 227 := by omega
                  subst e
                  exact xr_227
        · by_cases h228_244 : k < 236
          · by_cases h228_236 : k < 232
            · by_cases h228_232 : k < 230
              · by_cases h228_230 : k < 229
                · have e : k = 228 := by omega
                  subst e
                  exact xr_228
                · have e : k = 229 := by omega
                  subst e
                  exact xr_229
              · by_cases h230_232 : k < 231
                · have e : k = 230 := by omega
                  subst e
                  exact xr_230
                · have e : k = 231 := by omega
                  subst e
                  exact xr_231
            · by_cases h232_236 : k < 234
              · by_cases h232_234 : k < 233
                · have e : k = 232 := by omega
                  subst e
                  exact xr_232
                · have e : k = 233 := by omega
                  subst e
                  exact xr_233
              · by_cases h234_236 : k < 235
                · have e : k = 234 := by omega
                  subst e
                  exact xr_234
                · have e : k = 235 := by omega
                  subst e
                  exact xr_235
          · by_cases h236_244 : k < 240
            · by_cases h236_240 : k < 238
              · by_cases h236_238 : k < 237
                · have e : k = 236 := by omega
                  subst e
                  exact xr_236
                · have e : k = 237 := by omega
                  subst e
                  exact xr_237
              · by_cases h238_240 : k < 239
                · have e : k = 238 := by omega
                  subst e
                  exact xr_238
                · have e : k = 239 := by omega
                  subst e
                  exact xr_239
            · by_cases h240_244 : k < 242
              · by_cases h240_242 : k < 241
                · have e : k = 240 := by omega
                  subst e
                  exact xr_240
                · have e : k = 241 := by omega
                  subst e
                  exact xr_241
              · by_cases h242_244 : k < 243
                · have e : k = 242 := by omega
                  subst e
                  exact xr_242
                · have e : k = 243 := by omega
                  subst e
                  exact xr_243
theorem xlawlen : cd_244.length = 674 := by decide +kernel
theorem xcdslen : cds.length = 245 := by decide +kernel
theorem xrows_law : ∀ i q, ft 244 i = some q → xrow 244 i q = true := by
  intro i q hq
  have hi : i < 674 := by
    have h : (cds[244]?).getD [] = cd_244 := rfl
    unfold ft at hq
    rw [h] at hq
    have h2 := (List.getElem?_eq_some_iff.mp hq).1
    rw [xlawlen] at h2
    exact h2
  by_cases h0 : i < 30
  · have h := List.all_eq_true.mp xrl_0 (i - 0) (List.mem_range.mpr (by omega))
    rw [show 0 + (i - 0) = i by omega, hq] at h
    exact h
  by_cases h1 : i < 60
  · have h := List.all_eq_true.mp xrl_1 (i - 30) (List.mem_range.mpr (by omega))
    rw [show 30 + (i - 30) = i by omega, hq] at h
    exact h
  by_cases h2 : i < 90
  · have h := List.all_eq_true.mp xrl_2 (i - 60) (List.mem_range.mpr (by omega))
    rw [show 60 + (i - 60) = i by omega, hq] at h
    exact h
  by_cases h3 : i < 120
  · have h := List.all_eq_true.mp xrl_3 (i - 90) (List.mem_range.mpr (by omega))
    rw [show 90 + (i - 90) = i by omega, hq] at h
    exact h
  by_cases h4 : i < 150
  · have h := List.all_eq_true.mp xrl_4 (i - 120) (List.mem_range.mpr (by omega))
    rw [show 120 + (i - 120) = i by omega, hq] at h
    exact h
  by_cases h5 : i < 180
  · have h := List.all_eq_true.mp xrl_5 (i - 150) (List.mem_range.mpr (by omega))
    rw [show 150 + (i - 150) = i by omega, hq] at h
    exact h
  by_cases h6 : i < 210
  · have h := List.all_eq_true.mp xrl_6 (i - 180) (List.mem_range.mpr (by omega))
    rw [show 180 + (i - 180) = i by omega, hq] at h
    exact h
  by_cases h7 : i < 240
  · have h := List.all_eq_true.mp xrl_7 (i - 210) (List.mem_range.mpr (by omega))
    rw [show 210 + (i - 210) = i by omega, hq] at h
    exact h
  by_cases h8 : i < 270
  · have h := List.all_eq_true.mp xrl_8 (i - 240) (List.mem_range.mpr (by omega))
    rw [show 240 + (i - 240) = i by omega, hq] at h
    exact h
  by_cases h9 : i < 300
  · have h := List.all_eq_true.mp xrl_9 (i - 270) (List.mem_range.mpr (by omega))
    rw [show 270 + (i - 270) = i by omega, hq] at h
    exact h
  by_cases h10 : i < 330
  · have h := List.all_eq_true.mp xrl_10 (i - 300) (List.mem_range.mpr (by omega))
    rw [show 300 + (i - 300) = i by omega, hq] at h
    exact h
  by_cases h11 : i < 360
  · have h := List.all_eq_true.mp xrl_11 (i - 330) (List.mem_range.mpr (by omega))
    rw [show 330 + (i - 330) = i by omega, hq] at h
    exact h
  by_cases h12 : i < 390
  · have h := List.all_eq_true.mp xrl_12 (i - 360) (List.mem_range.mpr (by omega))
    rw [show 360 + (i - 360) = i by omega, hq] at h
    exact h
  by_cases h13 : i < 420
  · have h := List.all_eq_true.mp xrl_13 (i - 390) (List.mem_range.mpr (by omega))
    rw [show 390 + (i - 390) = i by omega, hq] at h
    exact h
  by_cases h14 : i < 450
  · have h := List.all_eq_true.mp xrl_14 (i - 420) (List.mem_range.mpr (by omega))
    rw [show 420 + (i - 420) = i by omega, hq] at h
    exact h
  by_cases h15 : i < 480
  · have h := List.all_eq_true.mp xrl_15 (i - 450) (List.mem_range.mpr (by omega))
    rw [show 450 + (i - 450) = i by omega, hq] at h
    exact h
  by_cases h16 : i < 510
  · have h := List.all_eq_true.mp xrl_16 (i - 480) (List.mem_range.mpr (by omega))
    rw [show 480 + (i - 480) = i by omega, hq] at h
    exact h
  by_cases h17 : i < 540
  · have h := List.all_eq_true.mp xrl_17 (i - 510) (List.mem_range.mpr (by omega))
    rw [show 510 + (i - 510) = i by omega, hq] at h
    exact h
  by_cases h18 : i < 570
  · have h := List.all_eq_true.mp xrl_18 (i - 540) (List.mem_range.mpr (by omega))
    rw [show 540 + (i - 540) = i by omega, hq] at h
    exact h
  by_cases h19 : i < 600
  · have h := List.all_eq_true.mp xrl_19 (i - 570) (List.mem_range.mpr (by omega))
    rw [show 570 + (i - 570) = i by omega, hq] at h
    exact h
  by_cases h20 : i < 630
  · have h := List.all_eq_true.mp xrl_20 (i - 600) (List.mem_range.mpr (by omega))
    rw [show 600 + (i - 600) = i by omega, hq] at h
    exact h
  by_cases h21 : i < 660
  · have h := List.all_eq_true.mp xrl_21 (i - 630) (List.mem_range.mpr (by omega))
    rw [show 630 + (i - 630) = i by omega, hq] at h
    exact h
  have h := List.all_eq_true.mp xrl_22 (i - 660) (List.mem_range.mpr (by omega))
  rw [show 660 + (i - 660) = i by omega, hq] at h
  exact h
theorem xme_lo : ∀ k, k < 244 → xme k = true := by
  intro k hk
  by_cases h0 : k < 31
  · have h := List.all_eq_true.mp xme_0 (k - 0) (List.mem_range.mpr (by omega))
    rw [show 0 + (k - 0) = k by omega] at h
    exact h
  by_cases h1 : k < 62
  · have h := List.all_eq_true.mp xme_1 (k - 31) (List.mem_range.mpr (by omega))
    rw [show 31 + (k - 31) = k by omega] at h
    exact h
  by_cases h2 : k < 93
  · have h := List.all_eq_true.mp xme_2 (k - 62) (List.mem_range.mpr (by omega))
    rw [show 62 + (k - 62) = k by omega] at h
    exact h
  by_cases h3 : k < 124
  · have h := List.all_eq_true.mp xme_3 (k - 93) (List.mem_range.mpr (by omega))
    rw [show 93 + (k - 93) = k by omega] at h
    exact h
  by_cases h4 : k < 155
  · have h := List.all_eq_true.mp xme_4 (k - 124) (List.mem_range.mpr (by omega))
    rw [show 124 + (k - 124) = k by omega] at h
    exact h
  by_cases h5 : k < 186
  · have h := List.all_eq_true.mp xme_5 (k - 155) (List.mem_range.mpr (by omega))
    rw [show 155 + (k - 155) = k by omega] at h
    exact h
  by_cases h6 : k < 217
  · have h := List.all_eq_true.mp xme_6 (k - 186) (List.mem_range.mpr (by omega))
    rw [show 186 + (k - 186) = k by omega] at h
    exact h
  have h := List.all_eq_true.mp xme_7 (k - 217) (List.mem_range.mpr (by omega))
  rw [show 217 + (k - 217) = k by omega] at h
  exact h
theorem xokt : xOKT := by
  refine ⟨fun k i q hq => ?_, xme_lo⟩
  by_cases hk : k < 244
  · have h := xrowsF_spec _ 0 (xrows_lo k hk) i q hq
    rw [Nat.zero_add] at h
    exact h
  · by_cases h4 : k = 244
    · subst h4
      exact xrows_law i q hq
    · exfalso
      have h : cds[k]? = none := List.getElem?_eq_none (by rw [xcdslen]; omega)
      unfold ft at hq
      rw [h] at hq
      cases hq
