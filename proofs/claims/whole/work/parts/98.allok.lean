/-! ALL ROWS OWE NOTHING -/
set_option maxRecDepth 100000 in
theorem oka_0 : ∀ j, 0 ≤ j → j < 15 → (am_cd.getD j []).all (am_ok (am_mi j)) = true := by
  intro j h1 h2
  have : j = 0 ∨ j = 1 ∨ j = 2 ∨ j = 3 ∨ j = 4 ∨ j = 5 ∨ j = 6 ∨ j = 7 ∨ j = 8 ∨ j = 9 ∨ j = 10 ∨ j = 11 ∨ j = 12 ∨ j = 13 ∨ j = 14 := by omega
  rcases this with rfl | rfl | rfl | rfl | rfl | rfl | rfl | rfl | rfl | rfl | rfl | rfl | rfl | rfl | rfl
  · exact ok_0
  · exact ok_1
  · exact ok_2
  · exact ok_3
  · exact ok_4
  · exact ok_5
  · exact ok_6
  · exact ok_7
  · exact ok_8
  · exact ok_9
  · exact ok_10
  · exact ok_11
  · exact ok_12
  · exact ok_13
  · exact ok_14
set_option maxRecDepth 100000 in
theorem oka_15 : ∀ j, 15 ≤ j → j < 30 → (am_cd.getD j []).all (am_ok (am_mi j)) = true := by
  intro j h1 h2
  have : j = 15 ∨ j = 16 ∨ j = 17 ∨ j = 18 ∨ j = 19 ∨ j = 20 ∨ j = 21 ∨ j = 22 ∨ j = 23 ∨ j = 24 ∨ j = 25 ∨ j = 26 ∨ j = 27 ∨ j = 28 ∨ j = 29 := by omega
  rcases this with rfl | rfl | rfl | rfl | rfl | rfl | rfl | rfl | rfl | rfl | rfl | rfl | rfl | rfl | rfl
  · exact ok_15
  · exact ok_16
  · exact ok_17
  · exact ok_18
  · exact ok_19
  · exact ok_20
  · exact ok_21
  · exact ok_22
  · exact ok_23
  · exact ok_24
  · exact ok_25
  · exact ok_26
  · exact ok_27
  · exact ok_28
  · exact ok_29
set_option maxRecDepth 100000 in
theorem oka_30 : ∀ j, 30 ≤ j → j < 45 → (am_cd.getD j []).all (am_ok (am_mi j)) = true := by
  intro j h1 h2
  have : j = 30 ∨ j = 31 ∨ j = 32 ∨ j = 33 ∨ j = 34 ∨ j = 35 ∨ j = 36 ∨ j = 37 ∨ j = 38 ∨ j = 39 ∨ j = 40 ∨ j = 41 ∨ j = 42 ∨ j = 43 ∨ j = 44 := by omega
  rcases this with rfl | rfl | rfl | rfl | rfl | rfl | rfl | rfl | rfl | rfl | rfl | rfl | rfl | rfl | rfl
  · exact ok_30
  · exact ok_31
  · exact ok_32
  · exact ok_33
  · exact ok_34
  · exact ok_35
  · exact ok_36
  · exact ok_37
  · exact ok_38
  · exact ok_39
  · exact ok_40
  · exact ok_41
  · exact ok_42
  · exact ok_43
  · exact ok_44
set_option maxRecDepth 100000 in
theorem oka_45 : ∀ j, 45 ≤ j → j < 60 → (am_cd.getD j []).all (am_ok (am_mi j)) = true := by
  intro j h1 h2
  have : j = 45 ∨ j = 46 ∨ j = 47 ∨ j = 48 ∨ j = 49 ∨ j = 50 ∨ j = 51 ∨ j = 52 ∨ j = 53 ∨ j = 54 ∨ j = 55 ∨ j = 56 ∨ j = 57 ∨ j = 58 ∨ j = 59 := by omega
  rcases this with rfl | rfl | rfl | rfl | rfl | rfl | rfl | rfl | rfl | rfl | rfl | rfl | rfl | rfl | rfl
  · exact ok_45
  · exact ok_46
  · exact ok_47
  · exact ok_48
  · exact ok_49
  · exact ok_50
  · exact ok_51
  · exact ok_52
  · exact ok_53
  · exact ok_54
  · exact ok_55
  · exact ok_56
  · exact ok_57
  · exact ok_58
  · exact ok_59
set_option maxRecDepth 100000 in
theorem oka_60 : ∀ j, 60 ≤ j → j < 75 → (am_cd.getD j []).all (am_ok (am_mi j)) = true := by
  intro j h1 h2
  have : j = 60 ∨ j = 61 ∨ j = 62 ∨ j = 63 ∨ j = 64 ∨ j = 65 ∨ j = 66 ∨ j = 67 ∨ j = 68 ∨ j = 69 ∨ j = 70 ∨ j = 71 ∨ j = 72 ∨ j = 73 ∨ j = 74 := by omega
  rcases this with rfl | rfl | rfl | rfl | rfl | rfl | rfl | rfl | rfl | rfl | rfl | rfl | rfl | rfl | rfl
  · exact ok_60
  · exact ok_61
  · exact ok_62
  · exact ok_63
  · exact ok_64
  · exact ok_65
  · exact ok_66
  · exact ok_67
  · exact ok_68
  · exact ok_69
  · exact ok_70
  · exact ok_71
  · exact ok_72
  · exact ok_73
  · exact ok_74
set_option maxRecDepth 100000 in
theorem oka_75 : ∀ j, 75 ≤ j → j < 90 → (am_cd.getD j []).all (am_ok (am_mi j)) = true := by
  intro j h1 h2
  have : j = 75 ∨ j = 76 ∨ j = 77 ∨ j = 78 ∨ j = 79 ∨ j = 80 ∨ j = 81 ∨ j = 82 ∨ j = 83 ∨ j = 84 ∨ j = 85 ∨ j = 86 ∨ j = 87 ∨ j = 88 ∨ j = 89 := by omega
  rcases this with rfl | rfl | rfl | rfl | rfl | rfl | rfl | rfl | rfl | rfl | rfl | rfl | rfl | rfl | rfl
  · exact ok_75
  · exact ok_76
  · exact ok_77
  · exact ok_78
  · exact ok_79
  · exact ok_80
  · exact ok_81
  · exact ok_82
  · exact ok_83
  · exact ok_84
  · exact ok_85
  · exact ok_86
  · exact ok_87
  · exact ok_88
  · exact ok_89
set_option maxRecDepth 100000 in
theorem oka_90 : ∀ j, 90 ≤ j → j < 105 → (am_cd.getD j []).all (am_ok (am_mi j)) = true := by
  intro j h1 h2
  have : j = 90 ∨ j = 91 ∨ j = 92 ∨ j = 93 ∨ j = 94 ∨ j = 95 ∨ j = 96 ∨ j = 97 ∨ j = 98 ∨ j = 99 ∨ j = 100 ∨ j = 101 ∨ j = 102 ∨ j = 103 ∨ j = 104 := by omega
  rcases this with rfl | rfl | rfl | rfl | rfl | rfl | rfl | rfl | rfl | rfl | rfl | rfl | rfl | rfl | rfl
  · exact ok_90
  · exact ok_91
  · exact ok_92
  · exact ok_93
  · exact ok_94
  · exact ok_95
  · exact ok_96
  · exact ok_97
  · exact ok_98
  · exact ok_99
  · exact ok_100
  · exact ok_101
  · exact ok_102
  · exact ok_103
  · exact ok_104
set_option maxRecDepth 100000 in
theorem oka_105 : ∀ j, 105 ≤ j → j < 120 → (am_cd.getD j []).all (am_ok (am_mi j)) = true := by
  intro j h1 h2
  have : j = 105 ∨ j = 106 ∨ j = 107 ∨ j = 108 ∨ j = 109 ∨ j = 110 ∨ j = 111 ∨ j = 112 ∨ j = 113 ∨ j = 114 ∨ j = 115 ∨ j = 116 ∨ j = 117 ∨ j = 118 ∨ j = 119 := by omega
  rcases this with rfl | rfl | rfl | rfl | rfl | rfl | rfl | rfl | rfl | rfl | rfl | rfl | rfl | rfl | rfl
  · exact ok_105
  · exact ok_106
  · exact ok_107
  · exact ok_108
  · exact ok_109
  · exact ok_110
  · exact ok_111
  · exact ok_112
  · exact ok_113
  · exact ok_114
  · exact ok_115
  · exact ok_116
  · exact ok_117
  · exact ok_118
  · exact ok_119
set_option maxRecDepth 100000 in
theorem oka_120 : ∀ j, 120 ≤ j → j < 135 → (am_cd.getD j []).all (am_ok (am_mi j)) = true := by
  intro j h1 h2
  have : j = 120 ∨ j = 121 ∨ j = 122 ∨ j = 123 ∨ j = 124 ∨ j = 125 ∨ j = 126 ∨ j = 127 ∨ j = 128 ∨ j = 129 ∨ j = 130 ∨ j = 131 ∨ j = 132 ∨ j = 133 ∨ j = 134 := by omega
  rcases this with rfl | rfl | rfl | rfl | rfl | rfl | rfl | rfl | rfl | rfl | rfl | rfl | rfl | rfl | rfl
  · exact ok_120
  · exact ok_121
  · exact ok_122
  · exact ok_123
  · exact ok_124
  · exact ok_125
  · exact ok_126
  · exact ok_127
  · exact ok_128
  · exact ok_129
  · exact ok_130
  · exact ok_131
  · exact ok_132
  · exact ok_133
  · exact ok_134
set_option maxRecDepth 100000 in
theorem oka_135 : ∀ j, 135 ≤ j → j < 150 → (am_cd.getD j []).all (am_ok (am_mi j)) = true := by
  intro j h1 h2
  have : j = 135 ∨ j = 136 ∨ j = 137 ∨ j = 138 ∨ j = 139 ∨ j = 140 ∨ j = 141 ∨ j = 142 ∨ j = 143 ∨ j = 144 ∨ j = 145 ∨ j = 146 ∨ j = 147 ∨ j = 148 ∨ j = 149 := by omega
  rcases this with rfl | rfl | rfl | rfl | rfl | rfl | rfl | rfl | rfl | rfl | rfl | rfl | rfl | rfl | rfl
  · exact ok_135
  · exact ok_136
  · exact ok_137
  · exact ok_138
  · exact ok_139
  · exact ok_140
  · exact ok_141
  · exact ok_142
  · exact ok_143
  · exact ok_144
  · exact ok_145
  · exact ok_146
  · exact ok_147
  · exact ok_148
  · exact ok_149
set_option maxRecDepth 100000 in
theorem oka_150 : ∀ j, 150 ≤ j → j < 165 → (am_cd.getD j []).all (am_ok (am_mi j)) = true := by
  intro j h1 h2
  have : j = 150 ∨ j = 151 ∨ j = 152 ∨ j = 153 ∨ j = 154 ∨ j = 155 ∨ j = 156 ∨ j = 157 ∨ j = 158 ∨ j = 159 ∨ j = 160 ∨ j = 161 ∨ j = 162 ∨ j = 163 ∨ j = 164 := by omega
  rcases this with rfl | rfl | rfl | rfl | rfl | rfl | rfl | rfl | rfl | rfl | rfl | rfl | rfl | rfl | rfl
  · exact ok_150
  · exact ok_151
  · exact ok_152
  · exact ok_153
  · exact ok_154
  · exact ok_155
  · exact ok_156
  · exact ok_157
  · exact ok_158
  · exact ok_159
  · exact ok_160
  · exact ok_161
  · exact ok_162
  · exact ok_163
  · exact ok_164
set_option maxRecDepth 100000 in
theorem oka_165 : ∀ j, 165 ≤ j → j < 180 → (am_cd.getD j []).all (am_ok (am_mi j)) = true := by
  intro j h1 h2
  have : j = 165 ∨ j = 166 ∨ j = 167 ∨ j = 168 ∨ j = 169 ∨ j = 170 ∨ j = 171 ∨ j = 172 ∨ j = 173 ∨ j = 174 ∨ j = 175 ∨ j = 176 ∨ j = 177 ∨ j = 178 ∨ j = 179 := by omega
  rcases this with rfl | rfl | rfl | rfl | rfl | rfl | rfl | rfl | rfl | rfl | rfl | rfl | rfl | rfl | rfl
  · exact ok_165
  · exact ok_166
  · exact ok_167
  · exact ok_168
  · exact ok_169
  · exact ok_170
  · exact ok_171
  · exact ok_172
  · exact ok_173
  · exact ok_174
  · exact ok_175
  · exact ok_176
  · exact ok_177
  · exact ok_178
  · exact ok_179
set_option maxRecDepth 100000 in
theorem oka_180 : ∀ j, 180 ≤ j → j < 195 → (am_cd.getD j []).all (am_ok (am_mi j)) = true := by
  intro j h1 h2
  have : j = 180 ∨ j = 181 ∨ j = 182 ∨ j = 183 ∨ j = 184 ∨ j = 185 ∨ j = 186 ∨ j = 187 ∨ j = 188 ∨ j = 189 ∨ j = 190 ∨ j = 191 ∨ j = 192 ∨ j = 193 ∨ j = 194 := by omega
  rcases this with rfl | rfl | rfl | rfl | rfl | rfl | rfl | rfl | rfl | rfl | rfl | rfl | rfl | rfl | rfl
  · exact ok_180
  · exact ok_181
  · exact ok_182
  · exact ok_183
  · exact ok_184
  · exact ok_185
  · exact ok_186
  · exact ok_187
  · exact ok_188
  · exact ok_189
  · exact ok_190
  · exact ok_191
  · exact ok_192
  · exact ok_193
  · exact ok_194
set_option maxRecDepth 100000 in
theorem oka_195 : ∀ j, 195 ≤ j → j < 210 → (am_cd.getD j []).all (am_ok (am_mi j)) = true := by
  intro j h1 h2
  have : j = 195 ∨ j = 196 ∨ j = 197 ∨ j = 198 ∨ j = 199 ∨ j = 200 ∨ j = 201 ∨ j = 202 ∨ j = 203 ∨ j = 204 ∨ j = 205 ∨ j = 206 ∨ j = 207 ∨ j = 208 ∨ j = 209 := by omega
  rcases this with rfl | rfl | rfl | rfl | rfl | rfl | rfl | rfl | rfl | rfl | rfl | rfl | rfl | rfl | rfl
  · exact ok_195
  · exact ok_196
  · exact ok_197
  · exact ok_198
  · exact ok_199
  · exact ok_200
  · exact ok_201
  · exact ok_202
  · exact ok_203
  · exact ok_204
  · exact ok_205
  · exact ok_206
  · exact ok_207
  · exact ok_208
  · exact ok_209
set_option maxRecDepth 100000 in
theorem oka_210 : ∀ j, 210 ≤ j → j < 225 → (am_cd.getD j []).all (am_ok (am_mi j)) = true := by
  intro j h1 h2
  have : j = 210 ∨ j = 211 ∨ j = 212 ∨ j = 213 ∨ j = 214 ∨ j = 215 ∨ j = 216 ∨ j = 217 ∨ j = 218 ∨ j = 219 ∨ j = 220 ∨ j = 221 ∨ j = 222 ∨ j = 223 ∨ j = 224 := by omega
  rcases this with rfl | rfl | rfl | rfl | rfl | rfl | rfl | rfl | rfl | rfl | rfl | rfl | rfl | rfl | rfl
  · exact ok_210
  · exact ok_211
  · exact ok_212
  · exact ok_213
  · exact ok_214
  · exact ok_215
  · exact ok_216
  · exact ok_217
  · exact ok_218
  · exact ok_219
  · exact ok_220
  · exact ok_221
  · exact ok_222
  · exact ok_223
  · exact ok_224
set_option maxRecDepth 100000 in
theorem oka_225 : ∀ j, 225 ≤ j → j < 226 → (am_cd.getD j []).all (am_ok (am_mi j)) = true := by
  intro j h1 h2
  have : j = 225 := by omega
  subst this
  exact ok_225
set_option maxRecDepth 100000 in
theorem okb_0 : ∀ j, 0 ≤ j → j < 15 → Cond.code (am_mi j).1 (am_mi j).2.1 (am_mi j).2.2.1 (am_mi j).2.2.2 ∈ lw_tbl := by
  intro j h1 h2
  have : j = 0 ∨ j = 1 ∨ j = 2 ∨ j = 3 ∨ j = 4 ∨ j = 5 ∨ j = 6 ∨ j = 7 ∨ j = 8 ∨ j = 9 ∨ j = 10 ∨ j = 11 ∨ j = 12 ∨ j = 13 ∨ j = 14 := by omega
  rcases this with rfl | rfl | rfl | rfl | rfl | rfl | rfl | rfl | rfl | rfl | rfl | rfl | rfl | rfl | rfl
  · exact okc_0
  · exact okc_1
  · exact okc_2
  · exact okc_3
  · exact okc_4
  · exact okc_5
  · exact okc_6
  · exact okc_7
  · exact okc_8
  · exact okc_9
  · exact okc_10
  · exact okc_11
  · exact okc_12
  · exact okc_13
  · exact okc_14
set_option maxRecDepth 100000 in
theorem okb_15 : ∀ j, 15 ≤ j → j < 30 → Cond.code (am_mi j).1 (am_mi j).2.1 (am_mi j).2.2.1 (am_mi j).2.2.2 ∈ lw_tbl := by
  intro j h1 h2
  have : j = 15 ∨ j = 16 ∨ j = 17 ∨ j = 18 ∨ j = 19 ∨ j = 20 ∨ j = 21 ∨ j = 22 ∨ j = 23 ∨ j = 24 ∨ j = 25 ∨ j = 26 ∨ j = 27 ∨ j = 28 ∨ j = 29 := by omega
  rcases this with rfl | rfl | rfl | rfl | rfl | rfl | rfl | rfl | rfl | rfl | rfl | rfl | rfl | rfl | rfl
  · exact okc_15
  · exact okc_16
  · exact okc_17
  · exact okc_18
  · exact okc_19
  · exact okc_20
  · exact okc_21
  · exact okc_22
  · exact okc_23
  · exact okc_24
  · exact okc_25
  · exact okc_26
  · exact okc_27
  · exact okc_28
  · exact okc_29
set_option maxRecDepth 100000 in
theorem okb_30 : ∀ j, 30 ≤ j → j < 45 → Cond.code (am_mi j).1 (am_mi j).2.1 (am_mi j).2.2.1 (am_mi j).2.2.2 ∈ lw_tbl := by
  intro j h1 h2
  have : j = 30 ∨ j = 31 ∨ j = 32 ∨ j = 33 ∨ j = 34 ∨ j = 35 ∨ j = 36 ∨ j = 37 ∨ j = 38 ∨ j = 39 ∨ j = 40 ∨ j = 41 ∨ j = 42 ∨ j = 43 ∨ j = 44 := by omega
  rcases this with rfl | rfl | rfl | rfl | rfl | rfl | rfl | rfl | rfl | rfl | rfl | rfl | rfl | rfl | rfl
  · exact okc_30
  · exact okc_31
  · exact okc_32
  · exact okc_33
  · exact okc_34
  · exact okc_35
  · exact okc_36
  · exact okc_37
  · exact okc_38
  · exact okc_39
  · exact okc_40
  · exact okc_41
  · exact okc_42
  · exact okc_43
  · exact okc_44
set_option maxRecDepth 100000 in
theorem okb_45 : ∀ j, 45 ≤ j → j < 60 → Cond.code (am_mi j).1 (am_mi j).2.1 (am_mi j).2.2.1 (am_mi j).2.2.2 ∈ lw_tbl := by
  intro j h1 h2
  have : j = 45 ∨ j = 46 ∨ j = 47 ∨ j = 48 ∨ j = 49 ∨ j = 50 ∨ j = 51 ∨ j = 52 ∨ j = 53 ∨ j = 54 ∨ j = 55 ∨ j = 56 ∨ j = 57 ∨ j = 58 ∨ j = 59 := by omega
  rcases this with rfl | rfl | rfl | rfl | rfl | rfl | rfl | rfl | rfl | rfl | rfl | rfl | rfl | rfl | rfl
  · exact okc_45
  · exact okc_46
  · exact okc_47
  · exact okc_48
  · exact okc_49
  · exact okc_50
  · exact okc_51
  · exact okc_52
  · exact okc_53
  · exact okc_54
  · exact okc_55
  · exact okc_56
  · exact okc_57
  · exact okc_58
  · exact okc_59
set_option maxRecDepth 100000 in
theorem okb_60 : ∀ j, 60 ≤ j → j < 75 → Cond.code (am_mi j).1 (am_mi j).2.1 (am_mi j).2.2.1 (am_mi j).2.2.2 ∈ lw_tbl := by
  intro j h1 h2
  have : j = 60 ∨ j = 61 ∨ j = 62 ∨ j = 63 ∨ j = 64 ∨ j = 65 ∨ j = 66 ∨ j = 67 ∨ j = 68 ∨ j = 69 ∨ j = 70 ∨ j = 71 ∨ j = 72 ∨ j = 73 ∨ j = 74 := by omega
  rcases this with rfl | rfl | rfl | rfl | rfl | rfl | rfl | rfl | rfl | rfl | rfl | rfl | rfl | rfl | rfl
  · exact okc_60
  · exact okc_61
  · exact okc_62
  · exact okc_63
  · exact okc_64
  · exact okc_65
  · exact okc_66
  · exact okc_67
  · exact okc_68
  · exact okc_69
  · exact okc_70
  · exact okc_71
  · exact okc_72
  · exact okc_73
  · exact okc_74
set_option maxRecDepth 100000 in
theorem okb_75 : ∀ j, 75 ≤ j → j < 90 → Cond.code (am_mi j).1 (am_mi j).2.1 (am_mi j).2.2.1 (am_mi j).2.2.2 ∈ lw_tbl := by
  intro j h1 h2
  have : j = 75 ∨ j = 76 ∨ j = 77 ∨ j = 78 ∨ j = 79 ∨ j = 80 ∨ j = 81 ∨ j = 82 ∨ j = 83 ∨ j = 84 ∨ j = 85 ∨ j = 86 ∨ j = 87 ∨ j = 88 ∨ j = 89 := by omega
  rcases this with rfl | rfl | rfl | rfl | rfl | rfl | rfl | rfl | rfl | rfl | rfl | rfl | rfl | rfl | rfl
  · exact okc_75
  · exact okc_76
  · exact okc_77
  · exact okc_78
  · exact okc_79
  · exact okc_80
  · exact okc_81
  · exact okc_82
  · exact okc_83
  · exact okc_84
  · exact okc_85
  · exact okc_86
  · exact okc_87
  · exact okc_88
  · exact okc_89
set_option maxRecDepth 100000 in
theorem okb_90 : ∀ j, 90 ≤ j → j < 105 → Cond.code (am_mi j).1 (am_mi j).2.1 (am_mi j).2.2.1 (am_mi j).2.2.2 ∈ lw_tbl := by
  intro j h1 h2
  have : j = 90 ∨ j = 91 ∨ j = 92 ∨ j = 93 ∨ j = 94 ∨ j = 95 ∨ j = 96 ∨ j = 97 ∨ j = 98 ∨ j = 99 ∨ j = 100 ∨ j = 101 ∨ j = 102 ∨ j = 103 ∨ j = 104 := by omega
  rcases this with rfl | rfl | rfl | rfl | rfl | rfl | rfl | rfl | rfl | rfl | rfl | rfl | rfl | rfl | rfl
  · exact okc_90
  · exact okc_91
  · exact okc_92
  · exact okc_93
  · exact okc_94
  · exact okc_95
  · exact okc_96
  · exact okc_97
  · exact okc_98
  · exact okc_99
  · exact okc_100
  · exact okc_101
  · exact okc_102
  · exact okc_103
  · exact okc_104
set_option maxRecDepth 100000 in
theorem okb_105 : ∀ j, 105 ≤ j → j < 120 → Cond.code (am_mi j).1 (am_mi j).2.1 (am_mi j).2.2.1 (am_mi j).2.2.2 ∈ lw_tbl := by
  intro j h1 h2
  have : j = 105 ∨ j = 106 ∨ j = 107 ∨ j = 108 ∨ j = 109 ∨ j = 110 ∨ j = 111 ∨ j = 112 ∨ j = 113 ∨ j = 114 ∨ j = 115 ∨ j = 116 ∨ j = 117 ∨ j = 118 ∨ j = 119 := by omega
  rcases this with rfl | rfl | rfl | rfl | rfl | rfl | rfl | rfl | rfl | rfl | rfl | rfl | rfl | rfl | rfl
  · exact okc_105
  · exact okc_106
  · exact okc_107
  · exact okc_108
  · exact okc_109
  · exact okc_110
  · exact okc_111
  · exact okc_112
  · exact okc_113
  · exact okc_114
  · exact okc_115
  · exact okc_116
  · exact okc_117
  · exact okc_118
  · exact okc_119
set_option maxRecDepth 100000 in
theorem okb_120 : ∀ j, 120 ≤ j → j < 135 → Cond.code (am_mi j).1 (am_mi j).2.1 (am_mi j).2.2.1 (am_mi j).2.2.2 ∈ lw_tbl := by
  intro j h1 h2
  have : j = 120 ∨ j = 121 ∨ j = 122 ∨ j = 123 ∨ j = 124 ∨ j = 125 ∨ j = 126 ∨ j = 127 ∨ j = 128 ∨ j = 129 ∨ j = 130 ∨ j = 131 ∨ j = 132 ∨ j = 133 ∨ j = 134 := by omega
  rcases this with rfl | rfl | rfl | rfl | rfl | rfl | rfl | rfl | rfl | rfl | rfl | rfl | rfl | rfl | rfl
  · exact okc_120
  · exact okc_121
  · exact okc_122
  · exact okc_123
  · exact okc_124
  · exact okc_125
  · exact okc_126
  · exact okc_127
  · exact okc_128
  · exact okc_129
  · exact okc_130
  · exact okc_131
  · exact okc_132
  · exact okc_133
  · exact okc_134
set_option maxRecDepth 100000 in
theorem okb_135 : ∀ j, 135 ≤ j → j < 150 → Cond.code (am_mi j).1 (am_mi j).2.1 (am_mi j).2.2.1 (am_mi j).2.2.2 ∈ lw_tbl := by
  intro j h1 h2
  have : j = 135 ∨ j = 136 ∨ j = 137 ∨ j = 138 ∨ j = 139 ∨ j = 140 ∨ j = 141 ∨ j = 142 ∨ j = 143 ∨ j = 144 ∨ j = 145 ∨ j = 146 ∨ j = 147 ∨ j = 148 ∨ j = 149 := by omega
  rcases this with rfl | rfl | rfl | rfl | rfl | rfl | rfl | rfl | rfl | rfl | rfl | rfl | rfl | rfl | rfl
  · exact okc_135
  · exact okc_136
  · exact okc_137
  · exact okc_138
  · exact okc_139
  · exact okc_140
  · exact okc_141
  · exact okc_142
  · exact okc_143
  · exact okc_144
  · exact okc_145
  · exact okc_146
  · exact okc_147
  · exact okc_148
  · exact okc_149
set_option maxRecDepth 100000 in
theorem okb_150 : ∀ j, 150 ≤ j → j < 165 → Cond.code (am_mi j).1 (am_mi j).2.1 (am_mi j).2.2.1 (am_mi j).2.2.2 ∈ lw_tbl := by
  intro j h1 h2
  have : j = 150 ∨ j = 151 ∨ j = 152 ∨ j = 153 ∨ j = 154 ∨ j = 155 ∨ j = 156 ∨ j = 157 ∨ j = 158 ∨ j = 159 ∨ j = 160 ∨ j = 161 ∨ j = 162 ∨ j = 163 ∨ j = 164 := by omega
  rcases this with rfl | rfl | rfl | rfl | rfl | rfl | rfl | rfl | rfl | rfl | rfl | rfl | rfl | rfl | rfl
  · exact okc_150
  · exact okc_151
  · exact okc_152
  · exact okc_153
  · exact okc_154
  · exact okc_155
  · exact okc_156
  · exact okc_157
  · exact okc_158
  · exact okc_159
  · exact okc_160
  · exact okc_161
  · exact okc_162
  · exact okc_163
  · exact okc_164
set_option maxRecDepth 100000 in
theorem okb_165 : ∀ j, 165 ≤ j → j < 180 → Cond.code (am_mi j).1 (am_mi j).2.1 (am_mi j).2.2.1 (am_mi j).2.2.2 ∈ lw_tbl := by
  intro j h1 h2
  have : j = 165 ∨ j = 166 ∨ j = 167 ∨ j = 168 ∨ j = 169 ∨ j = 170 ∨ j = 171 ∨ j = 172 ∨ j = 173 ∨ j = 174 ∨ j = 175 ∨ j = 176 ∨ j = 177 ∨ j = 178 ∨ j = 179 := by omega
  rcases this with rfl | rfl | rfl | rfl | rfl | rfl | rfl | rfl | rfl | rfl | rfl | rfl | rfl | rfl | rfl
  · exact okc_165
  · exact okc_166
  · exact okc_167
  · exact okc_168
  · exact okc_169
  · exact okc_170
  · exact okc_171
  · exact okc_172
  · exact okc_173
  · exact okc_174
  · exact okc_175
  · exact okc_176
  · exact okc_177
  · exact okc_178
  · exact okc_179
set_option maxRecDepth 100000 in
theorem okb_180 : ∀ j, 180 ≤ j → j < 195 → Cond.code (am_mi j).1 (am_mi j).2.1 (am_mi j).2.2.1 (am_mi j).2.2.2 ∈ lw_tbl := by
  intro j h1 h2
  have : j = 180 ∨ j = 181 ∨ j = 182 ∨ j = 183 ∨ j = 184 ∨ j = 185 ∨ j = 186 ∨ j = 187 ∨ j = 188 ∨ j = 189 ∨ j = 190 ∨ j = 191 ∨ j = 192 ∨ j = 193 ∨ j = 194 := by omega
  rcases this with rfl | rfl | rfl | rfl | rfl | rfl | rfl | rfl | rfl | rfl | rfl | rfl | rfl | rfl | rfl
  · exact okc_180
  · exact okc_181
  · exact okc_182
  · exact okc_183
  · exact okc_184
  · exact okc_185
  · exact okc_186
  · exact okc_187
  · exact okc_188
  · exact okc_189
  · exact okc_190
  · exact okc_191
  · exact okc_192
  · exact okc_193
  · exact okc_194
set_option maxRecDepth 100000 in
theorem okb_195 : ∀ j, 195 ≤ j → j < 210 → Cond.code (am_mi j).1 (am_mi j).2.1 (am_mi j).2.2.1 (am_mi j).2.2.2 ∈ lw_tbl := by
  intro j h1 h2
  have : j = 195 ∨ j = 196 ∨ j = 197 ∨ j = 198 ∨ j = 199 ∨ j = 200 ∨ j = 201 ∨ j = 202 ∨ j = 203 ∨ j = 204 ∨ j = 205 ∨ j = 206 ∨ j = 207 ∨ j = 208 ∨ j = 209 := by omega
  rcases this with rfl | rfl | rfl | rfl | rfl | rfl | rfl | rfl | rfl | rfl | rfl | rfl | rfl | rfl | rfl
  · exact okc_195
  · exact okc_196
  · exact okc_197
  · exact okc_198
  · exact okc_199
  · exact okc_200
  · exact okc_201
  · exact okc_202
  · exact okc_203
  · exact okc_204
  · exact okc_205
  · exact okc_206
  · exact okc_207
  · exact okc_208
  · exact okc_209
set_option maxRecDepth 100000 in
theorem okb_210 : ∀ j, 210 ≤ j → j < 225 → Cond.code (am_mi j).1 (am_mi j).2.1 (am_mi j).2.2.1 (am_mi j).2.2.2 ∈ lw_tbl := by
  intro j h1 h2
  have : j = 210 ∨ j = 211 ∨ j = 212 ∨ j = 213 ∨ j = 214 ∨ j = 215 ∨ j = 216 ∨ j = 217 ∨ j = 218 ∨ j = 219 ∨ j = 220 ∨ j = 221 ∨ j = 222 ∨ j = 223 ∨ j = 224 := by omega
  rcases this with rfl | rfl | rfl | rfl | rfl | rfl | rfl | rfl | rfl | rfl | rfl | rfl | rfl | rfl | rfl
  · exact okc_210
  · exact okc_211
  · exact okc_212
  · exact okc_213
  · exact okc_214
  · exact okc_215
  · exact okc_216
  · exact okc_217
  · exact okc_218
  · exact okc_219
  · exact okc_220
  · exact okc_221
  · exact okc_222
  · exact okc_223
  · exact okc_224
theorem all_ok : am_AllOk := by
  refine ⟨fun j q hq => ?_, fun j hj => ?_⟩
  · have A : ∀ j, j < 226 → (am_cd.getD j []).all (am_ok (am_mi j)) = true := by
      intro j hj
      rcases Nat.lt_or_ge j 15 with h | h
      · exact oka_0 j (by omega) h
      rcases Nat.lt_or_ge j 30 with h | h
      · exact oka_15 j (by omega) h
      rcases Nat.lt_or_ge j 45 with h | h
      · exact oka_30 j (by omega) h
      rcases Nat.lt_or_ge j 60 with h | h
      · exact oka_45 j (by omega) h
      rcases Nat.lt_or_ge j 75 with h | h
      · exact oka_60 j (by omega) h
      rcases Nat.lt_or_ge j 90 with h | h
      · exact oka_75 j (by omega) h
      rcases Nat.lt_or_ge j 105 with h | h
      · exact oka_90 j (by omega) h
      rcases Nat.lt_or_ge j 120 with h | h
      · exact oka_105 j (by omega) h
      rcases Nat.lt_or_ge j 135 with h | h
      · exact oka_120 j (by omega) h
      rcases Nat.lt_or_ge j 150 with h | h
      · exact oka_135 j (by omega) h
      rcases Nat.lt_or_ge j 165 with h | h
      · exact oka_150 j (by omega) h
      rcases Nat.lt_or_ge j 180 with h | h
      · exact oka_165 j (by omega) h
      rcases Nat.lt_or_ge j 195 with h | h
      · exact oka_180 j (by omega) h
      rcases Nat.lt_or_ge j 210 with h | h
      · exact oka_195 j (by omega) h
      rcases Nat.lt_or_ge j 225 with h | h
      · exact oka_210 j (by omega) h
      rcases Nat.lt_or_ge j 226 with h | h
      · exact oka_225 j (by omega) h
      omega
    by_cases hj : j < 226
    · exact List.all_eq_true.1 (A j hj) q hq
    · exfalso
      have : am_cd.getD j [] = [] := by
        rw [List.getD_eq_getElem?_getD, List.getElem?_eq_none (show am_cd.length ≤ j by have : am_cd.length = 226 := rfl
                                                                                        omega)]
        rfl
      rw [this] at hq
      exact absurd hq (List.not_mem_nil)
  · change j < 225 at hj
    rcases Nat.lt_or_ge j 15 with h | h
    · exact ⟨List.all_eq_true.1 okm_a0 j (List.mem_range'_1.2 ⟨by omega, by omega⟩), okb_0 j (by omega) h⟩
    rcases Nat.lt_or_ge j 30 with h | h
    · exact ⟨List.all_eq_true.1 okm_a15 j (List.mem_range'_1.2 ⟨by omega, by omega⟩), okb_15 j (by omega) h⟩
    rcases Nat.lt_or_ge j 45 with h | h
    · exact ⟨List.all_eq_true.1 okm_a30 j (List.mem_range'_1.2 ⟨by omega, by omega⟩), okb_30 j (by omega) h⟩
    rcases Nat.lt_or_ge j 60 with h | h
    · exact ⟨List.all_eq_true.1 okm_a45 j (List.mem_range'_1.2 ⟨by omega, by omega⟩), okb_45 j (by omega) h⟩
    rcases Nat.lt_or_ge j 75 with h | h
    · exact ⟨List.all_eq_true.1 okm_a60 j (List.mem_range'_1.2 ⟨by omega, by omega⟩), okb_60 j (by omega) h⟩
    rcases Nat.lt_or_ge j 90 with h | h
    · exact ⟨List.all_eq_true.1 okm_a75 j (List.mem_range'_1.2 ⟨by omega, by omega⟩), okb_75 j (by omega) h⟩
    rcases Nat.lt_or_ge j 105 with h | h
    · exact ⟨List.all_eq_true.1 okm_a90 j (List.mem_range'_1.2 ⟨by omega, by omega⟩), okb_90 j (by omega) h⟩
    rcases Nat.lt_or_ge j 120 with h | h
    · exact ⟨List.all_eq_true.1 okm_a105 j (List.mem_range'_1.2 ⟨by omega, by omega⟩), okb_105 j (by omega) h⟩
    rcases Nat.lt_or_ge j 135 with h | h
    · exact ⟨List.all_eq_true.1 okm_a120 j (List.mem_range'_1.2 ⟨by omega, by omega⟩), okb_120 j (by omega) h⟩
    rcases Nat.lt_or_ge j 150 with h | h
    · exact ⟨List.all_eq_true.1 okm_a135 j (List.mem_range'_1.2 ⟨by omega, by omega⟩), okb_135 j (by omega) h⟩
    rcases Nat.lt_or_ge j 165 with h | h
    · exact ⟨List.all_eq_true.1 okm_a150 j (List.mem_range'_1.2 ⟨by omega, by omega⟩), okb_150 j (by omega) h⟩
    rcases Nat.lt_or_ge j 180 with h | h
    · exact ⟨List.all_eq_true.1 okm_a165 j (List.mem_range'_1.2 ⟨by omega, by omega⟩), okb_165 j (by omega) h⟩
    rcases Nat.lt_or_ge j 195 with h | h
    · exact ⟨List.all_eq_true.1 okm_a180 j (List.mem_range'_1.2 ⟨by omega, by omega⟩), okb_180 j (by omega) h⟩
    rcases Nat.lt_or_ge j 210 with h | h
    · exact ⟨List.all_eq_true.1 okm_a195 j (List.mem_range'_1.2 ⟨by omega, by omega⟩), okb_195 j (by omega) h⟩
    rcases Nat.lt_or_ge j 225 with h | h
    · exact ⟨List.all_eq_true.1 okm_a210 j (List.mem_range'_1.2 ⟨by omega, by omega⟩), okb_210 j (by omega) h⟩
    omega
