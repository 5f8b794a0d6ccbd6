/-! THE TABLES HOLD, part 4: every instruction is the machine's, every callee has its words. -/
theorem xq_178_0 : xcp xm_178 0 59 = true := by decide +kernel
theorem xc_178 : xcP 178 := fun me h => by
  cases h
  exact xcp_ok (me := xm_178) (n := 59) (xq_178_0) (by decide +kernel)
theorem xq_179_0 : xcp xm_179 0 82 = true := by decide +kernel
theorem xc_179 : xcP 179 := fun me h => by
  cases h
  exact xcp_ok (me := xm_179) (n := 82) (xq_179_0) (by decide +kernel)
theorem xq_180_0 : xcp xm_180 0 81 = true := by decide +kernel
theorem xc_180 : xcP 180 := fun me h => by
  cases h
  exact xcp_ok (me := xm_180) (n := 81) (xq_180_0) (by decide +kernel)
theorem xq_181_0 : xcp xm_181 0 120 = true := by decide +kernel
theorem xq_181_1 : xcp xm_181 120 7 = true := by decide +kernel
theorem xc_181 : xcP 181 := fun me h => by
  cases h
  exact xcp_ok (me := xm_181) (n := 127) (xcp_app (a := 0) (n := 120) (b := 120) (k := 7) (m := 127) (xq_181_0) xq_181_1 (by decide) (by decide)) (by decide +kernel)
theorem xq_182_0 : xcp xm_182 0 120 = true := by decide +kernel
theorem xq_182_1 : xcp xm_182 120 4 = true := by decide +kernel
theorem xc_182 : xcP 182 := fun me h => by
  cases h
  exact xcp_ok (me := xm_182) (n := 124) (xcp_app (a := 0) (n := 120) (b := 120) (k := 4) (m := 124) (xq_182_0) xq_182_1 (by decide) (by decide)) (by decide +kernel)
theorem xq_183_0 : xcp xm_183 0 36 = true := by decide +kernel
theorem xc_183 : xcP 183 := fun me h => by
  cases h
  exact xcp_ok (me := xm_183) (n := 36) (xq_183_0) (by decide +kernel)
theorem xq_184_0 : xcp xm_184 0 21 = true := by decide +kernel
theorem xc_184 : xcP 184 := fun me h => by
  cases h
  exact xcp_ok (me := xm_184) (n := 21) (xq_184_0) (by decide +kernel)
theorem xq_185_0 : xcp xm_185 0 15 = true := by decide +kernel
theorem xc_185 : xcP 185 := fun me h => by
  cases h
  exact xcp_ok (me := xm_185) (n := 15) (xq_185_0) (by decide +kernel)
theorem xq_186_0 : xcp xm_186 0 12 = true := by decide +kernel
theorem xc_186 : xcP 186 := fun me h => by
  cases h
  exact xcp_ok (me := xm_186) (n := 12) (xq_186_0) (by decide +kernel)
theorem xq_187_0 : xcp xm_187 0 103 = true := by decide +kernel
theorem xc_187 : xcP 187 := fun me h => by
  cases h
  exact xcp_ok (me := xm_187) (n := 103) (xq_187_0) (by decide +kernel)
theorem xq_188_0 : xcp xm_188 0 120 = true := by decide +kernel
theorem xq_188_1 : xcp xm_188 120 33 = true := by decide +kernel
theorem xc_188 : xcP 188 := fun me h => by
  cases h
  exact xcp_ok (me := xm_188) (n := 153) (xcp_app (a := 0) (n := 120) (b := 120) (k := 33) (m := 153) (xq_188_0) xq_188_1 (by decide) (by decide)) (by decide +kernel)
theorem xq_189_0 : xcp xm_189 0 106 = true := by decide +kernel
theorem xc_189 : xcP 189 := fun me h => by
  cases h
  exact xcp_ok (me := xm_189) (n := 106) (xq_189_0) (by decide +kernel)
theorem xq_190_0 : xcp xm_190 0 19 = true := by decide +kernel
theorem xc_190 : xcP 190 := fun me h => by
  cases h
  exact xcp_ok (me := xm_190) (n := 19) (xq_190_0) (by decide +kernel)
theorem xq_191_0 : xcp xm_191 0 6 = true := by decide +kernel
theorem xc_191 : xcP 191 := fun me h => by
  cases h
  exact xcp_ok (me := xm_191) (n := 6) (xq_191_0) (by decide +kernel)
theorem xq_192_0 : xcp xm_192 0 74 = true := by decide +kernel
theorem xc_192 : xcP 192 := fun me h => by
  cases h
  exact xcp_ok (me := xm_192) (n := 74) (xq_192_0) (by decide +kernel)
theorem xq_193_0 : xcp xm_193 0 35 = true := by decide +kernel
theorem xc_193 : xcP 193 := fun me h => by
  cases h
  exact xcp_ok (me := xm_193) (n := 35) (xq_193_0) (by decide +kernel)
theorem xq_194_0 : xcp xm_194 0 66 = true := by decide +kernel
theorem xc_194 : xcP 194 := fun me h => by
  cases h
  exact xcp_ok (me := xm_194) (n := 66) (xq_194_0) (by decide +kernel)
theorem xq_195_0 : xcp xm_195 0 34 = true := by decide +kernel
theorem xc_195 : xcP 195 := fun me h => by
  cases h
  exact xcp_ok (me := xm_195) (n := 34) (xq_195_0) (by decide +kernel)
theorem xq_196_0 : xcp xm_196 0 65 = true := by decide +kernel
theorem xc_196 : xcP 196 := fun me h => by
  cases h
  exact xcp_ok (me := xm_196) (n := 65) (xq_196_0) (by decide +kernel)
theorem xq_197_0 : xcp xm_197 0 47 = true := by decide +kernel
theorem xc_197 : xcP 197 := fun me h => by
  cases h
  exact xcp_ok (me := xm_197) (n := 47) (xq_197_0) (by decide +kernel)
theorem xq_198_0 : xcp xm_198 0 120 = true := by decide +kernel
theorem xq_198_1 : xcp xm_198 120 13 = true := by decide +kernel
theorem xc_198 : xcP 198 := fun me h => by
  cases h
  exact xcp_ok (me := xm_198) (n := 133) (xcp_app (a := 0) (n := 120) (b := 120) (k := 13) (m := 133) (xq_198_0) xq_198_1 (by decide) (by decide)) (by decide +kernel)
theorem xq_199_0 : xcp xm_199 0 96 = true := by decide +kernel
theorem xc_199 : xcP 199 := fun me h => by
  cases h
  exact xcp_ok (me := xm_199) (n := 96) (xq_199_0) (by decide +kernel)
theorem xq_200_0 : xcp xm_200 0 114 = true := by decide +kernel
theorem xc_200 : xcP 200 := fun me h => by
  cases h
  exact xcp_ok (me := xm_200) (n := 114) (xq_200_0) (by decide +kernel)
theorem xq_201_0 : xcp xm_201 0 120 = true := by decide +kernel
theorem xq_201_1 : xcp xm_201 120 120 = true := by decide +kernel
theorem xq_201_2 : xcp xm_201 240 38 = true := by decide +kernel
theorem xc_201 : xcP 201 := fun me h => by
  cases h
  exact xcp_ok (me := xm_201) (n := 278) (xcp_app (a := 0) (n := 240) (b := 240) (k := 38) (m := 278) (xcp_app (a := 0) (n := 120) (b := 120) (k := 120) (m := 240) (xq_201_0) xq_201_1 (by decide) (by decide)) xq_201_2 (by decide) (by decide)) (by decide +kernel)
theorem xq_202_0 : xcp xm_202 0 104 = true := by decide +kernel
theorem xc_202 : xcP 202 := fun me h => by
  cases h
  exact xcp_ok (me := xm_202) (n := 104) (xq_202_0) (by decide +kernel)
theorem xq_203_0 : xcp xm_203 0 61 = true := by decide +kernel
theorem xc_203 : xcP 203 := fun me h => by
  cases h
  exact xcp_ok (me := xm_203) (n := 61) (xq_203_0) (by decide +kernel)
theorem xq_204_0 : xcp xm_204 0 55 = true := by decide +kernel
theorem xc_204 : xcP 204 := fun me h => by
  cases h
  exact xcp_ok (me := xm_204) (n := 55) (xq_204_0) (by decide +kernel)
theorem xq_205_0 : xcp xm_205 0 23 = true := by decide +kernel
theorem xc_205 : xcP 205 := fun me h => by
  cases h
  exact xcp_ok (me := xm_205) (n := 23) (xq_205_0) (by decide +kernel)
theorem xq_206_0 : xcp xm_206 0 17 = true := by decide +kernel
theorem xc_206 : xcP 206 := fun me h => by
  cases h
  exact xcp_ok (me := xm_206) (n := 17) (xq_206_0) (by decide +kernel)
theorem xq_207_0 : xcp xm_207 0 63 = true := by decide +kernel
theorem xc_207 : xcP 207 := fun me h => by
  cases h
  exact xcp_ok (me := xm_207) (n := 63) (xq_207_0) (by decide +kernel)
theorem xq_208_0 : xcp xm_208 0 120 = true := by decide +kernel
theorem xq_208_1 : xcp xm_208 120 45 = true := by decide +kernel
theorem xc_208 : xcP 208 := fun me h => by
  cases h
  exact xcp_ok (me := xm_208) (n := 165) (xcp_app (a := 0) (n := 120) (b := 120) (k := 45) (m := 165) (xq_208_0) xq_208_1 (by decide) (by decide)) (by decide +kernel)
theorem xq_209_0 : xcp xm_209 0 97 = true := by decide +kernel
theorem xc_209 : xcP 209 := fun me h => by
  cases h
  exact xcp_ok (me := xm_209) (n := 97) (xq_209_0) (by decide +kernel)
theorem xq_210_0 : xcp xm_210 0 93 = true := by decide +kernel
theorem xc_210 : xcP 210 := fun me h => by
  cases h
  exact xcp_ok (me := xm_210) (n := 93) (xq_210_0) (by decide +kernel)
theorem xq_211_0 : xcp xm_211 0 18 = true := by decide +kernel
theorem xc_211 : xcP 211 := fun me h => by
  cases h
  exact xcp_ok (me := xm_211) (n := 18) (xq_211_0) (by decide +kernel)
theorem xq_212_0 : xcp xm_212 0 18 = true := by decide +kernel
theorem xc_212 : xcP 212 := fun me h => by
  cases h
  exact xcp_ok (me := xm_212) (n := 18) (xq_212_0) (by decide +kernel)
theorem xq_213_0 : xcp xm_213 0 17 = true := by decide +kernel
theorem xc_213 : xcP 213 := fun me h => by
  cases h
  exact xcp_ok (me := xm_213) (n := 17) (xq_213_0) (by decide +kernel)
theorem xq_214_0 : xcp xm_214 0 17 = true := by decide +kernel
theorem xc_214 : xcP 214 := fun me h => by
  cases h
  exact xcp_ok (me := xm_214) (n := 17) (xq_214_0) (by decide +kernel)
theorem xq_215_0 : xcp xm_215 0 23 = true := by decide +kernel
theorem xc_215 : xcP 215 := fun me h => by
  cases h
  exact xcp_ok (me := xm_215) (n := 23) (xq_215_0) (by decide +kernel)
theorem xq_216_0 : xcp xm_216 0 23 = true := by decide +kernel
theorem xc_216 : xcP 216 := fun me h => by
  cases h
  exact xcp_ok (me := xm_216) (n := 23) (xq_216_0) (by decide +kernel)
theorem xq_217_0 : xcp xm_217 0 21 = true := by decide +kernel
theorem xc_217 : xcP 217 := fun me h => by
  cases h
  exact xcp_ok (me := xm_217) (n := 21) (xq_217_0) (by decide +kernel)
theorem xq_218_0 : xcp xm_218 0 22 = true := by decide +kernel
theorem xc_218 : xcP 218 := fun me h => by
  cases h
  exact xcp_ok (me := xm_218) (n := 22) (xq_218_0) (by decide +kernel)
theorem xq_219_0 : xcp xm_219 0 16 = true := by decide +kernel
theorem xc_219 : xcP 219 := fun me h => by
  cases h
  exact xcp_ok (me := xm_219) (n := 16) (xq_219_0) (by decide +kernel)
theorem xq_220_0 : xcp xm_220 0 23 = true := by decide +kernel
theorem xc_220 : xcP 220 := fun me h => by
  cases h
  exact xcp_ok (me := xm_220) (n := 23) (xq_220_0) (by decide +kernel)
theorem xq_221_0 : xcp xm_221 0 23 = true := by decide +kernel
theorem xc_221 : xcP 221 := fun me h => by
  cases h
  exact xcp_ok (me := xm_221) (n := 23) (xq_221_0) (by decide +kernel)
theorem xq_222_0 : xcp xm_222 0 16 = true := by decide +kernel
theorem xc_222 : xcP 222 := fun me h => by
  cases h
  exact xcp_ok (me := xm_222) (n := 16) (xq_222_0) (by decide +kernel)
theorem xq_223_0 : xcp xm_223 0 17 = true := by decide +kernel
theorem xc_223 : xcP 223 := fun me h => by
  cases h
  exact xcp_ok (me := xm_223) (n := 17) (xq_223_0) (by decide +kernel)
theorem xq_224_0 : xcp xm_224 0 17 = true := by decide +kernel
theorem xc_224 : xcP 224 := fun me h => by
  cases h
  exact xcp_ok (me := xm_224) (n := 17) (xq_224_0) (by decide +kernel)
theorem xq_225_0 : xcp xm_225 0 23 = true := by decide +kernel
theorem xc_225 : xcP 225 := fun me h => by
  cases h
  exact xcp_ok (me := xm_225) (n := 23) (xq_225_0) (by decide +kernel)
theorem xq_226_0 : xcp xm_226 0 17 = true := by decide +kernel
theorem xc_226 : xcP 226 := fun me h => by
  cases h
  exact xcp_ok (me := xm_226) (n := 17) (xq_226_0) (by decide +kernel)
theorem xq_227_0 : xcp xm_227 0 17 = true := by decide +kernel
theorem xc_227 : xcP 227 := fun me h => by
  cases h
  exact xcp_ok (me := xm_227) (n := 17) (xq_227_0) (by decide +kernel)
theorem xq_228_0 : xcp xm_228 0 17 = true := by decide +kernel
theorem xc_228 : xcP 228 := fun me h => by
  cases h
  exact xcp_ok (me := xm_228) (n := 17) (xq_228_0) (by decide +kernel)
theorem xq_229_0 : xcp xm_229 0 17 = true := by decide +kernel
theorem xc_229 : xcP 229 := fun me h => by
  cases h
  exact xcp_ok (me := xm_229) (n := 17) (xq_229_0) (by decide +kernel)
theorem xq_230_0 : xcp xm_230 0 26 = true := by decide +kernel
theorem xc_230 : xcP 230 := fun me h => by
  cases h
  exact xcp_ok (me := xm_230) (n := 26) (xq_230_0) (by decide +kernel)
theorem xq_231_0 : xcp xm_231 0 23 = true := by decide +kernel
theorem xc_231 : xcP 231 := fun me h => by
  cases h
  exact xcp_ok (me := xm_231) (n := 23) (xq_231_0) (by decide +kernel)
theorem xq_232_0 : xcp xm_232 0 23 = true := by decide +kernel
theorem xc_232 : xcP 232 := fun me h => by
  cases h
  exact xcp_ok (me := xm_232) (n := 23) (xq_232_0) (by decide +kernel)
theorem xq_233_0 : xcp xm_233 0 23 = true := by decide +kernel
theorem xc_233 : xcP 233 := fun me h => by
  cases h
  exact xcp_ok (me := xm_233) (n := 23) (xq_233_0) (by decide +kernel)
theorem xq_234_0 : xcp xm_234 0 27 = true := by decide +kernel
theorem xc_234 : xcP 234 := fun me h => by
  cases h
  exact xcp_ok (me := xm_234) (n := 27) (xq_234_0) (by decide +kernel)
theorem xq_235_0 : xcp xm_235 0 19 = true := by decide +kernel
theorem xc_235 : xcP 235 := fun me h => by
  cases h
  exact xcp_ok (me := xm_235) (n := 19) (xq_235_0) (by decide +kernel)
theorem xq_236_0 : xcp xm_236 0 19 = true := by decide +kernel
theorem xc_236 : xcP 236 := fun me h => by
  cases h
  exact xcp_ok (me := xm_236) (n := 19) (xq_236_0) (by decide +kernel)
theorem xq_237_0 : xcp xm_237 0 24 = true := by decide +kernel
theorem xc_237 : xcP 237 := fun me h => by
  cases h
  exact xcp_ok (me := xm_237) (n := 24) (xq_237_0) (by decide +kernel)
theorem xq_238_0 : xcp xm_238 0 20 = true := by decide +kernel
theorem xc_238 : xcP 238 := fun me h => by
  cases h
  exact xcp_ok (me := xm_238) (n := 20) (xq_238_0) (by decide +kernel)
