/-! THE TABLES HOLD, part z: every instruction is the machine's, every callee has its words. -/
theorem xcg_0 (y : Nat) (h1 : 0 ≤ y) (h2 : y < 20) : xcP y := by
  have h3 : y = 0 ∨ y = 1 ∨ y = 2 ∨ y = 3 ∨ y = 4 ∨ y = 5 ∨ y = 6 ∨ y = 7 ∨ y = 8 ∨ y = 9 ∨ y = 10 ∨ y = 11 ∨ y = 12 ∨ y = 13 ∨ y = 14 ∨ y = 15 ∨ y = 16 ∨ y = 17 ∨ y = 18 ∨ y = 19 := by omega
  rcases h3 with rfl | rfl | rfl | rfl | rfl | rfl | rfl | rfl | rfl | rfl | rfl | rfl | rfl | rfl | rfl | rfl | rfl | rfl | rfl | rfl
  · exact xc_0
  · exact xc_1
  · exact xc_2
  · exact xc_3
  · exact xc_4
  · exact xc_5
  · exact xc_6
  · exact xc_7
  · exact xc_8
  · exact xc_9
  · exact xc_10
  · exact xc_11
  · exact xc_12
  · exact xc_13
  · exact xc_14
  · exact xc_15
  · exact xc_16
  · exact xc_17
  · exact xc_18
  · exact xc_19
theorem xcg_1 (y : Nat) (h1 : 20 ≤ y) (h2 : y < 40) : xcP y := by
  have h3 : y = 20 ∨ y = 21 ∨ y = 22 ∨ y = 23 ∨ y = 24 ∨ y = 25 ∨ y = 26 ∨ y = 27 ∨ y = 28 ∨ y = 29 ∨ y = 30 ∨ y = 31 ∨ y = 32 ∨ y = 33 ∨ y = 34 ∨ y = 35 ∨ y = 36 ∨ y = 37 ∨ y = 38 ∨ y = 39 := by omega
  rcases h3 with rfl | rfl | rfl | rfl | rfl | rfl | rfl | rfl | rfl | rfl | rfl | rfl | rfl | rfl | rfl | rfl | rfl | rfl | rfl | rfl
  · exact xc_20
  · exact xc_21
  · exact xc_22
  · exact xc_23
  · exact xc_24
  · exact xc_25
  · exact xc_26
  · exact xc_27
  · exact xc_28
  · exact xc_29
  · exact xc_30
  · exact xc_31
  · exact xc_32
  · exact xc_33
  · exact xc_34
  · exact xc_35
  · exact xc_36
  · exact xc_37
  · exact xc_38
  · exact xc_39
theorem xcg_2 (y : Nat) (h1 : 40 ≤ y) (h2 : y < 60) : xcP y := by
  have h3 : y = 40 ∨ y = 41 ∨ y = 42 ∨ y = 43 ∨ y = 44 ∨ y = 45 ∨ y = 46 ∨ y = 47 ∨ y = 48 ∨ y = 49 ∨ y = 50 ∨ y = 51 ∨ y = 52 ∨ y = 53 ∨ y = 54 ∨ y = 55 ∨ y = 56 ∨ y = 57 ∨ y = 58 ∨ y = 59 := by omega
  rcases h3 with rfl | rfl | rfl | rfl | rfl | rfl | rfl | rfl | rfl | rfl | rfl | rfl | rfl | rfl | rfl | rfl | rfl | rfl | rfl | rfl
  · exact xc_40
  · exact xc_41
  · exact xc_42
  · exact xc_43
  · exact xc_44
  · exact xc_45
  · exact xc_46
  · exact xc_47
  · exact xc_48
  · exact xc_49
  · exact xc_50
  · exact xc_51
  · exact xc_52
  · exact xc_53
  · exact xc_54
  · exact xc_55
  · exact xc_56
  · exact xc_57
  · exact xc_58
  · exact xc_59
theorem xcg_3 (y : Nat) (h1 : 60 ≤ y) (h2 : y < 80) : xcP y := by
  have h3 : y = 60 ∨ y = 61 ∨ y = 62 ∨ y = 63 ∨ y = 64 ∨ y = 65 ∨ y = 66 ∨ y = 67 ∨ y = 68 ∨ y = 69 ∨ y = 70 ∨ y = 71 ∨ y = 72 ∨ y = 73 ∨ y = 74 ∨ y = 75 ∨ y = 76 ∨ y = 77 ∨ y = 78 ∨ y = 79 := by omega
  rcases h3 with rfl | rfl | rfl | rfl | rfl | rfl | rfl | rfl | rfl | rfl | rfl | rfl | rfl | rfl | rfl | rfl | rfl | rfl | rfl | rfl
  · exact xc_60
  · exact xc_61
  · exact xc_62
  · exact xc_63
  · exact xc_64
  · exact xc_65
  · exact xc_66
  · exact xc_67
  · exact xc_68
  · exact xc_69
  · exact xc_70
  · exact xc_71
  · exact xc_72
  · exact xc_73
  · exact xc_74
  · exact xc_75
  · exact xc_76
  · exact xc_77
  · exact xc_78
  · exact xc_79
theorem xcg_4 (y : Nat) (h1 : 80 ≤ y) (h2 : y < 100) : xcP y := by
  have h3 : y = 80 ∨ y = 81 ∨ y = 82 ∨ y = 83 ∨ y = 84 ∨ y = 85 ∨ y = 86 ∨ y = 87 ∨ y = 88 ∨ y = 89 ∨ y = 90 ∨ y = 91 ∨ y = 92 ∨ y = 93 ∨ y = 94 ∨ y = 95 ∨ y = 96 ∨ y = 97 ∨ y = 98 ∨ y = 99 := by omega
  rcases h3 with rfl | rfl | rfl | rfl | rfl | rfl | rfl | rfl | rfl | rfl | rfl | rfl | rfl | rfl | rfl | rfl | rfl | rfl | rfl | rfl
  · exact xc_80
  · exact xc_81
  · exact xc_82
  · exact xc_83
  · exact xc_84
  · exact xc_85
  · exact xc_86
  · exact xc_87
  · exact xc_88
  · exact xc_89
  · exact xc_90
  · exact xc_91
  · exact xc_92
  · exact xc_93
  · exact xc_94
  · exact xc_95
  · exact xc_96
  · exact xc_97
  · exact xc_98
  · exact xc_99
theorem xcg_5 (y : Nat) (h1 : 100 ≤ y) (h2 : y < 120) : xcP y := by
  have h3 : y = 100 ∨ y = 101 ∨ y = 102 ∨ y = 103 ∨ y = 104 ∨ y = 105 ∨ y = 106 ∨ y = 107 ∨ y = 108 ∨ y = 109 ∨ y = 110 ∨ y = 111 ∨ y = 112 ∨ y = 113 ∨ y = 114 ∨ y = 115 ∨ y = 116 ∨ y = 117 ∨ y = 118 ∨ y = 119 := by omega
  rcases h3 with rfl | rfl | rfl | rfl | rfl | rfl | rfl | rfl | rfl | rfl | rfl | rfl | rfl | rfl | rfl | rfl | rfl | rfl | rfl | rfl
  · exact xc_100
  · exact xc_101
  · exact xc_102
  · exact xc_103
  · exact xc_104
  · exact xc_105
  · exact xc_106
  · exact xc_107
  · exact xc_108
  · exact xc_109
  · exact xc_110
  · exact xc_111
  · exact xc_112
  · exact xc_113
  · exact xc_114
  · exact xc_115
  · exact xc_116
  · exact xc_117
  · exact xc_118
  · exact xc_119
theorem xcg_6 (y : Nat) (h1 : 120 ≤ y) (h2 : y < 140) : xcP y := by
  have h3 : y = 120 ∨ y = 121 ∨ y = 122 ∨ y = 123 ∨ y = 124 ∨ y = 125 ∨ y = 126 ∨ y = 127 ∨ y = 128 ∨ y = 129 ∨ y = 130 ∨ y = 131 ∨ y = 132 ∨ y = 133 ∨ y = 134 ∨ y = 135 ∨ y = 136 ∨ y = 137 ∨ y = 138 ∨ y = 139 := by omega
  rcases h3 with rfl | rfl | rfl | rfl | rfl | rfl | rfl | rfl | rfl | rfl | rfl | rfl | rfl | rfl | rfl | rfl | rfl | rfl | rfl | rfl
  · exact xc_120
  · exact xc_121
  · exact xc_122
  · exact xc_123
  · exact xc_124
  · exact xc_125
  · exact xc_126
  · exact xc_127
  · exact xc_128
  · exact xc_129
  · exact xc_130
  · exact xc_131
  · exact xc_132
  · exact xc_133
  · exact xc_134
  · exact xc_135
  · exact xc_136
  · exact xc_137
  · exact xc_138
  · exact xc_139
theorem xcg_7 (y : Nat) (h1 : 140 ≤ y) (h2 : y < 160) : xcP y := by
  have h3 : y = 140 ∨ y = 141 ∨ y = 142 ∨ y = 143 ∨ y = 144 ∨ y = 145 ∨ y = 146 ∨ y = 147 ∨ y = 148 ∨ y = 149 ∨ y = 150 ∨ y = 151 ∨ y = 152 ∨ y = 153 ∨ y = 154 ∨ y = 155 ∨ y = 156 ∨ y = 157 ∨ y = 158 ∨ y = 159 := by omega
  rcases h3 with rfl | rfl | rfl | rfl | rfl | rfl | rfl | rfl | rfl | rfl | rfl | rfl | rfl | rfl | rfl | rfl | rfl | rfl | rfl | rfl
  · exact xc_140
  · exact xc_141
  · exact xc_142
  · exact xc_143
  · exact xc_144
  · exact xc_145
  · exact xc_146
  · exact xc_147
  · exact xc_148
  · exact xc_149
  · exact xc_150
  · exact xc_151
  · exact xc_152
  · exact xc_153
  · exact xc_154
  · exact xc_155
  · exact xc_156
  · exact xc_157
  · exact xc_158
  · exact xc_159
theorem xcg_8 (y : Nat) (h1 : 160 ≤ y) (h2 : y < 180) : xcP y := by
  have h3 : y = 160 ∨ y = 161 ∨ y = 162 ∨ y = 163 ∨ y = 164 ∨ y = 165 ∨ y = 166 ∨ y = 167 ∨ y = 168 ∨ y = 169 ∨ y = 170 ∨ y = 171 ∨ y = 172 ∨ y = 173 ∨ y = 174 ∨ y = 175 ∨ y = 176 ∨ y = 177 ∨ y = 178 ∨ y = 179 := by omega
  rcases h3 with rfl | rfl | rfl | rfl | rfl | rfl | rfl | rfl | rfl | rfl | rfl | rfl | rfl | rfl | rfl | rfl | rfl | rfl | rfl | rfl
  · exact xc_160
  · exact xc_161
  · exact xc_162
  · exact xc_163
  · exact xc_164
  · exact xc_165
  · exact xc_166
  · exact xc_167
  · exact xc_168
  · exact xc_169
  · exact xc_170
  · exact xc_171
  · exact xc_172
  · exact xc_173
  · exact xc_174
  · exact xc_175
  · exact xc_176
  · exact xc_177
  · exact xc_178
  · exact xc_179
theorem xcg_9 (y : Nat) (h1 : 180 ≤ y) (h2 : y < 200) : xcP y := by
  have h3 : y = 180 ∨ y = 181 ∨ y = 182 ∨ y = 183 ∨ y = 184 ∨ y = 185 ∨ y = 186 ∨ y = 187 ∨ y = 188 ∨ y = 189 ∨ y = 190 ∨ y = 191 ∨ y = 192 ∨ y = 193 ∨ y = 194 ∨ y = 195 ∨ y = 196 ∨ y = 197 ∨ y = 198 ∨ y = 199 := by omega
  rcases h3 with rfl | rfl | rfl | rfl | rfl | rfl | rfl | rfl | rfl | rfl | rfl | rfl | rfl | rfl | rfl | rfl | rfl | rfl | rfl | rfl
  · exact xc_180
  · exact xc_181
  · exact xc_182
  · exact xc_183
  · exact xc_184
  · exact xc_185
  · exact xc_186
  · exact xc_187
  · exact xc_188
  · exact xc_189
  · exact xc_190
  · exact xc_191
  · exact xc_192
  · exact xc_193
  · exact xc_194
  · exact xc_195
  · exact xc_196
  · exact xc_197
  · exact xc_198
  · exact xc_199
theorem xcg_10 (y : Nat) (h1 : 200 ≤ y) (h2 : y < 220) : xcP y := by
  have h3 : y = 200 ∨ y = 201 ∨ y = 202 ∨ y = 203 ∨ y = 204 ∨ y = 205 ∨ y = 206 ∨ y = 207 ∨ y = 208 ∨ y = 209 ∨ y = 210 ∨ y = 211 ∨ y = 212 ∨ y = 213 ∨ y = 214 ∨ y = 215 ∨ y = 216 ∨ y = 217 ∨ y = 218 ∨ y = 219 := by omega
  rcases h3 with rfl | rfl | rfl | rfl | rfl | rfl | rfl | rfl | rfl | rfl | rfl | rfl | rfl | rfl | rfl | rfl | rfl | rfl | rfl | rfl
  · exact xc_200
  · exact xc_201
  · exact xc_202
  · exact xc_203
  · exact xc_204
  · exact xc_205
  · exact xc_206
  · exact xc_207
  · exact xc_208
  · exact xc_209
  · exact xc_210
  · exact xc_211
  · exact xc_212
  · exact xc_213
  · exact xc_214
  · exact xc_215
  · exact xc_216
  · exact xc_217
  · exact xc_218
  · exact xc_219
theorem xcg_11 (y : Nat) (h1 : 220 ≤ y) (h2 : y < 240) : xcP y := by
  have h3 : y = 220 ∨ y = 221 ∨ y = 222 ∨ y = 223 ∨ y = 224 ∨ y = 225 ∨ y = 226 ∨ y = 227 ∨ y = 228 ∨ y = 229 ∨ y = 230 ∨ y = 231 ∨ y = 232 ∨ y = 233 ∨ y = 234 ∨ y = 235 ∨ y = 236 ∨ y = 237 ∨ y = 238 ∨ y = 239 := by omega
  rcases h3 with rfl | rfl | rfl | rfl | rfl | rfl | rfl | rfl | rfl | rfl | rfl | rfl | rfl | rfl | rfl | rfl | rfl | rfl | rfl | rfl
  · exact xc_220
  · exact xc_221
  · exact xc_222
  · exact xc_223
  · exact xc_224
  · exact xc_225
  · exact xc_226
  · exact xc_227
  · exact xc_228
  · exact xc_229
  · exact xc_230
  · exact xc_231
  · exact xc_232
  · exact xc_233
  · exact xc_234
  · exact xc_235
  · exact xc_236
  · exact xc_237
  · exact xc_238
  · exact xc_239
theorem xcg (y : Nat) (hy : y < 240) : xcP y := by
  by_cases h0 : y < 20
  · exact xcg_0 y (by omega) h0
  by_cases h1 : y < 40
  · exact xcg_1 y (by omega) h1
  by_cases h2 : y < 60
  · exact xcg_2 y (by omega) h2
  by_cases h3 : y < 80
  · exact xcg_3 y (by omega) h3
  by_cases h4 : y < 100
  · exact xcg_4 y (by omega) h4
  by_cases h5 : y < 120
  · exact xcg_5 y (by omega) h5
  by_cases h6 : y < 140
  · exact xcg_6 y (by omega) h6
  by_cases h7 : y < 160
  · exact xcg_7 y (by omega) h7
  by_cases h8 : y < 180
  · exact xcg_8 y (by omega) h8
  by_cases h9 : y < 200
  · exact xcg_9 y (by omega) h9
  by_cases h10 : y < 220
  · exact xcg_10 y (by omega) h10
  by_cases h11 : y < 240
  · exact xcg_11 y (by omega) h11
  · omega
theorem xc_all : ∀ (y : Nat) (me : xMe), xtab[y]? = some me → xcok xtab 239 me = true := by
  intro y me h
  have h1 := (List.getElem?_eq_some_iff.mp h).1
  rw [xtab_len] at h1
  exact xcg y h1 me h
