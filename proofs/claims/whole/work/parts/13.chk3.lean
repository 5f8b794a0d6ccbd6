/-! THE TABLES HOLD, part 3: every instruction is the machine's, every callee has its words. -/
theorem xq_121_0 : xcp xm_121 0 30 = true := by decide +kernel
theorem xc_121 : xcP 121 := fun me h => by
  cases h
  exact xcp_ok (me := xm_121) (n := 30) (xq_121_0) (by decide +kernel)
theorem xq_122_0 : xcp xm_122 0 63 = true := by decide +kernel
theorem xc_122 : xcP 122 := fun me h => by
  cases h
  exact xcp_ok (me := xm_122) (n := 63) (xq_122_0) (by decide +kernel)
theorem xq_123_0 : xcp xm_123 0 63 = true := by decide +kernel
theorem xc_123 : xcP 123 := fun me h => by
  cases h
  exact xcp_ok (me := xm_123) (n := 63) (xq_123_0) (by decide +kernel)
theorem xq_124_0 : xcp xm_124 0 53 = true := by decide +kernel
theorem xc_124 : xcP 124 := fun me h => by
  cases h
  exact xcp_ok (me := xm_124) (n := 53) (xq_124_0) (by decide +kernel)
theorem xq_125_0 : xcp xm_125 0 58 = true := by decide +kernel
theorem xc_125 : xcP 125 := fun me h => by
  cases h
  exact xcp_ok (me := xm_125) (n := 58) (xq_125_0) (by decide +kernel)
theorem xq_126_0 : xcp xm_126 0 67 = true := by decide +kernel
theorem xc_126 : xcP 126 := fun me h => by
  cases h
  exact xcp_ok (me := xm_126) (n := 67) (xq_126_0) (by decide +kernel)
theorem xq_127_0 : xcp xm_127 0 36 = true := by decide +kernel
theorem xc_127 : xcP 127 := fun me h => by
  cases h
  exact xcp_ok (me := xm_127) (n := 36) (xq_127_0) (by decide +kernel)
theorem xq_128_0 : xcp xm_128 0 16 = true := by decide +kernel
theorem xc_128 : xcP 128 := fun me h => by
  cases h
  exact xcp_ok (me := xm_128) (n := 16) (xq_128_0) (by decide +kernel)
theorem xq_129_0 : xcp xm_129 0 34 = true := by decide +kernel
theorem xc_129 : xcP 129 := fun me h => by
  cases h
  exact xcp_ok (me := xm_129) (n := 34) (xq_129_0) (by decide +kernel)
theorem xq_130_0 : xcp xm_130 0 83 = true := by decide +kernel
theorem xc_130 : xcP 130 := fun me h => by
  cases h
  exact xcp_ok (me := xm_130) (n := 83) (xq_130_0) (by decide +kernel)
theorem xq_131_0 : xcp xm_131 0 48 = true := by decide +kernel
theorem xc_131 : xcP 131 := fun me h => by
  cases h
  exact xcp_ok (me := xm_131) (n := 48) (xq_131_0) (by decide +kernel)
theorem xq_132_0 : xcp xm_132 0 63 = true := by decide +kernel
theorem xc_132 : xcP 132 := fun me h => by
  cases h
  exact xcp_ok (me := xm_132) (n := 63) (xq_132_0) (by decide +kernel)
theorem xq_133_0 : xcp xm_133 0 33 = true := by decide +kernel
theorem xc_133 : xcP 133 := fun me h => by
  cases h
  exact xcp_ok (me := xm_133) (n := 33) (xq_133_0) (by decide +kernel)
theorem xq_134_0 : xcp xm_134 0 85 = true := by decide +kernel
theorem xc_134 : xcP 134 := fun me h => by
  cases h
  exact xcp_ok (me := xm_134) (n := 85) (xq_134_0) (by decide +kernel)
theorem xq_135_0 : xcp xm_135 0 64 = true := by decide +kernel
theorem xc_135 : xcP 135 := fun me h => by
  cases h
  exact xcp_ok (me := xm_135) (n := 64) (xq_135_0) (by decide +kernel)
theorem xq_136_0 : xcp xm_136 0 107 = true := by decide +kernel
theorem xc_136 : xcP 136 := fun me h => by
  cases h
  exact xcp_ok (me := xm_136) (n := 107) (xq_136_0) (by decide +kernel)
theorem xq_137_0 : xcp xm_137 0 51 = true := by decide +kernel
theorem xc_137 : xcP 137 := fun me h => by
  cases h
  exact xcp_ok (me := xm_137) (n := 51) (xq_137_0) (by decide +kernel)
theorem xq_138_0 : xcp xm_138 0 20 = true := by decide +kernel
theorem xc_138 : xcP 138 := fun me h => by
  cases h
  exact xcp_ok (me := xm_138) (n := 20) (xq_138_0) (by decide +kernel)
theorem xq_139_0 : xcp xm_139 0 53 = true := by decide +kernel
theorem xc_139 : xcP 139 := fun me h => by
  cases h
  exact xcp_ok (me := xm_139) (n := 53) (xq_139_0) (by decide +kernel)
theorem xq_140_0 : xcp xm_140 0 72 = true := by decide +kernel
theorem xc_140 : xcP 140 := fun me h => by
  cases h
  exact xcp_ok (me := xm_140) (n := 72) (xq_140_0) (by decide +kernel)
theorem xq_141_0 : xcp xm_141 0 65 = true := by decide +kernel
theorem xc_141 : xcP 141 := fun me h => by
  cases h
  exact xcp_ok (me := xm_141) (n := 65) (xq_141_0) (by decide +kernel)
theorem xq_142_0 : xcp xm_142 0 63 = true := by decide +kernel
theorem xc_142 : xcP 142 := fun me h => by
  cases h
  exact xcp_ok (me := xm_142) (n := 63) (xq_142_0) (by decide +kernel)
theorem xq_143_0 : xcp xm_143 0 99 = true := by decide +kernel
theorem xc_143 : xcP 143 := fun me h => by
  cases h
  exact xcp_ok (me := xm_143) (n := 99) (xq_143_0) (by decide +kernel)
theorem xq_144_0 : xcp xm_144 0 54 = true := by decide +kernel
theorem xc_144 : xcP 144 := fun me h => by
  cases h
  exact xcp_ok (me := xm_144) (n := 54) (xq_144_0) (by decide +kernel)
theorem xq_145_0 : xcp xm_145 0 53 = true := by decide +kernel
theorem xc_145 : xcP 145 := fun me h => by
  cases h
  exact xcp_ok (me := xm_145) (n := 53) (xq_145_0) (by decide +kernel)
theorem xq_146_0 : xcp xm_146 0 21 = true := by decide +kernel
theorem xc_146 : xcP 146 := fun me h => by
  cases h
  exact xcp_ok (me := xm_146) (n := 21) (xq_146_0) (by decide +kernel)
theorem xq_147_0 : xcp xm_147 0 60 = true := by decide +kernel
theorem xc_147 : xcP 147 := fun me h => by
  cases h
  exact xcp_ok (me := xm_147) (n := 60) (xq_147_0) (by decide +kernel)
theorem xq_148_0 : xcp xm_148 0 115 = true := by decide +kernel
theorem xc_148 : xcP 148 := fun me h => by
  cases h
  exact xcp_ok (me := xm_148) (n := 115) (xq_148_0) (by decide +kernel)
theorem xq_149_0 : xcp xm_149 0 38 = true := by decide +kernel
theorem xc_149 : xcP 149 := fun me h => by
  cases h
  exact xcp_ok (me := xm_149) (n := 38) (xq_149_0) (by decide +kernel)
theorem xq_150_0 : xcp xm_150 0 32 = true := by decide +kernel
theorem xc_150 : xcP 150 := fun me h => by
  cases h
  exact xcp_ok (me := xm_150) (n := 32) (xq_150_0) (by decide +kernel)
theorem xq_151_0 : xcp xm_151 0 68 = true := by decide +kernel
theorem xc_151 : xcP 151 := fun me h => by
  cases h
  exact xcp_ok (me := xm_151) (n := 68) (xq_151_0) (by decide +kernel)
theorem xq_152_0 : xcp xm_152 0 73 = true := by decide +kernel
theorem xc_152 : xcP 152 := fun me h => by
  cases h
  exact xcp_ok (me := xm_152) (n := 73) (xq_152_0) (by decide +kernel)
theorem xq_153_0 : xcp xm_153 0 92 = true := by decide +kernel
theorem xc_153 : xcP 153 := fun me h => by
  cases h
  exact xcp_ok (me := xm_153) (n := 92) (xq_153_0) (by decide +kernel)
theorem xq_154_0 : xcp xm_154 0 120 = true := by decide +kernel
theorem xq_154_1 : xcp xm_154 120 86 = true := by decide +kernel
theorem xc_154 : xcP 154 := fun me h => by
  cases h
  exact xcp_ok (me := xm_154) (n := 206) (xcp_app (a := 0) (n := 120) (b := 120) (k := 86) (m := 206) (xq_154_0) xq_154_1 (by decide) (by decide)) (by decide +kernel)
theorem xq_155_0 : xcp xm_155 0 30 = true := by decide +kernel
theorem xc_155 : xcP 155 := fun me h => by
  cases h
  exact xcp_ok (me := xm_155) (n := 30) (xq_155_0) (by decide +kernel)
theorem xq_156_0 : xcp xm_156 0 41 = true := by decide +kernel
theorem xc_156 : xcP 156 := fun me h => by
  cases h
  exact xcp_ok (me := xm_156) (n := 41) (xq_156_0) (by decide +kernel)
theorem xq_157_0 : xcp xm_157 0 120 = true := by decide +kernel
theorem xq_157_1 : xcp xm_157 120 23 = true := by decide +kernel
theorem xc_157 : xcP 157 := fun me h => by
  cases h
  exact xcp_ok (me := xm_157) (n := 143) (xcp_app (a := 0) (n := 120) (b := 120) (k := 23) (m := 143) (xq_157_0) xq_157_1 (by decide) (by decide)) (by decide +kernel)
theorem xq_158_0 : xcp xm_158 0 120 = true := by decide +kernel
theorem xq_158_1 : xcp xm_158 120 49 = true := by decide +kernel
theorem xc_158 : xcP 158 := fun me h => by
  cases h
  exact xcp_ok (me := xm_158) (n := 169) (xcp_app (a := 0) (n := 120) (b := 120) (k := 49) (m := 169) (xq_158_0) xq_158_1 (by decide) (by decide)) (by decide +kernel)
theorem xq_159_0 : xcp xm_159 0 50 = true := by decide +kernel
theorem xc_159 : xcP 159 := fun me h => by
  cases h
  exact xcp_ok (me := xm_159) (n := 50) (xq_159_0) (by decide +kernel)
theorem xq_160_0 : xcp xm_160 0 34 = true := by decide +kernel
theorem xc_160 : xcP 160 := fun me h => by
  cases h
  exact xcp_ok (me := xm_160) (n := 34) (xq_160_0) (by decide +kernel)
theorem xq_161_0 : xcp xm_161 0 34 = true := by decide +kernel
theorem xc_161 : xcP 161 := fun me h => by
  cases h
  exact xcp_ok (me := xm_161) (n := 34) (xq_161_0) (by decide +kernel)
theorem xq_162_0 : xcp xm_162 0 56 = true := by decide +kernel
theorem xc_162 : xcP 162 := fun me h => by
  cases h
  exact xcp_ok (me := xm_162) (n := 56) (xq_162_0) (by decide +kernel)
theorem xq_163_0 : xcp xm_163 0 73 = true := by decide +kernel
theorem xc_163 : xcP 163 := fun me h => by
  cases h
  exact xcp_ok (me := xm_163) (n := 73) (xq_163_0) (by decide +kernel)
theorem xq_164_0 : xcp xm_164 0 8 = true := by decide +kernel
theorem xc_164 : xcP 164 := fun me h => by
  cases h
  exact xcp_ok (me := xm_164) (n := 8) (xq_164_0) (by decide +kernel)
theorem xq_165_0 : xcp xm_165 0 12 = true := by decide +kernel
theorem xc_165 : xcP 165 := fun me h => by
  cases h
  exact xcp_ok (me := xm_165) (n := 12) (xq_165_0) (by decide +kernel)
theorem xq_166_0 : xcp xm_166 0 12 = true := by decide +kernel
theorem xc_166 : xcP 166 := fun me h => by
  cases h
  exact xcp_ok (me := xm_166) (n := 12) (xq_166_0) (by decide +kernel)
theorem xq_167_0 : xcp xm_167 0 10 = true := by decide +kernel
theorem xc_167 : xcP 167 := fun me h => by
  cases h
  exact xcp_ok (me := xm_167) (n := 10) (xq_167_0) (by decide +kernel)
theorem xq_168_0 : xcp xm_168 0 73 = true := by decide +kernel
theorem xc_168 : xcP 168 := fun me h => by
  cases h
  exact xcp_ok (me := xm_168) (n := 73) (xq_168_0) (by decide +kernel)
theorem xq_169_0 : xcp xm_169 0 31 = true := by decide +kernel
theorem xc_169 : xcP 169 := fun me h => by
  cases h
  exact xcp_ok (me := xm_169) (n := 31) (xq_169_0) (by decide +kernel)
theorem xq_170_0 : xcp xm_170 0 120 = true := by decide +kernel
theorem xq_170_1 : xcp xm_170 120 87 = true := by decide +kernel
theorem xc_170 : xcP 170 := fun me h => by
  cases h
  exact xcp_ok (me := xm_170) (n := 207) (xcp_app (a := 0) (n := 120) (b := 120) (k := 87) (m := 207) (xq_170_0) xq_170_1 (by decide) (by decide)) (by decide +kernel)
theorem xq_171_0 : xcp xm_171 0 32 = true := by decide +kernel
theorem xc_171 : xcP 171 := fun me h => by
  cases h
  exact xcp_ok (me := xm_171) (n := 32) (xq_171_0) (by decide +kernel)
theorem xq_172_0 : xcp xm_172 0 12 = true := by decide +kernel
theorem xc_172 : xcP 172 := fun me h => by
  cases h
  exact xcp_ok (me := xm_172) (n := 12) (xq_172_0) (by decide +kernel)
theorem xq_173_0 : xcp xm_173 0 45 = true := by decide +kernel
theorem xc_173 : xcP 173 := fun me h => by
  cases h
  exact xcp_ok (me := xm_173) (n := 45) (xq_173_0) (by decide +kernel)
theorem xq_174_0 : xcp xm_174 0 33 = true := by decide +kernel
theorem xc_174 : xcP 174 := fun me h => by
  cases h
  exact xcp_ok (me := xm_174) (n := 33) (xq_174_0) (by decide +kernel)
theorem xq_175_0 : xcp xm_175 0 54 = true := by decide +kernel
theorem xc_175 : xcP 175 := fun me h => by
  cases h
  exact xcp_ok (me := xm_175) (n := 54) (xq_175_0) (by decide +kernel)
theorem xq_176_0 : xcp xm_176 0 120 = true := by decide +kernel
theorem xq_176_1 : xcp xm_176 120 23 = true := by decide +kernel
theorem xc_176 : xcP 176 := fun me h => by
  cases h
  exact xcp_ok (me := xm_176) (n := 143) (xcp_app (a := 0) (n := 120) (b := 120) (k := 23) (m := 143) (xq_176_0) xq_176_1 (by decide) (by decide)) (by decide +kernel)
theorem xq_177_0 : xcp xm_177 0 52 = true := by decide +kernel
theorem xc_177 : xcP 177 := fun me h => by
  cases h
  exact xcp_ok (me := xm_177) (n := 52) (xq_177_0) (by decide +kernel)
