-- the instructions are those of the byte code
set_option maxRecDepth 100000 in
theorem s_ckg_142_0 : (s_wj 142 s_c_142 && (s_wj 143 s_c_143 && (s_wj 144 s_c_144 && (s_wj 145 s_c_145 && (s_wj 146 s_c_146 && (s_wj 147 s_c_147 && (s_wj 148 s_c_148 && (s_wj 149 s_c_149 && (s_wj 150 s_c_150 && (s_wj 151 s_c_151 && (s_wj 152 s_c_152 && (s_wj 153 s_c_153 && (s_wj 154 s_c_154 && (s_wj 155 s_c_155 && (s_wj 156 s_c_156 && (s_wj 157 s_c_157 && (s_wj 158 s_c_158 && (s_wj 159 s_c_159 && (s_wj 160 s_c_160 && (s_wj 161 s_c_161 && (s_wj 162 s_c_162 && (s_wj 163 s_c_163 && ( true))))))))))))))))))))))) = true := by decide +kernel
theorem s_ck_142 : s_c_142.all (s_okI (g_by 142) (g_me 142).2.1) = true := s_wj_ok (s_a1 s_ckg_142_0)
theorem s_ckg_142_1 : _ = true := s_a2 s_ckg_142_0
theorem s_ck_143 : s_c_143.all (s_okI (g_by 143) (g_me 143).2.1) = true := s_wj_ok (s_a1 s_ckg_142_1)
theorem s_ckg_142_2 : _ = true := s_a2 s_ckg_142_1
theorem s_ck_144 : s_c_144.all (s_okI (g_by 144) (g_me 144).2.1) = true := s_wj_ok (s_a1 s_ckg_142_2)
theorem s_ckg_142_3 : _ = true := s_a2 s_ckg_142_2
theorem s_ck_145 : s_c_145.all (s_okI (g_by 145) (g_me 145).2.1) = true := s_wj_ok (s_a1 s_ckg_142_3)
theorem s_ckg_142_4 : _ = true := s_a2 s_ckg_142_3
theorem s_ck_146 : s_c_146.all (s_okI (g_by 146) (g_me 146).2.1) = true := s_wj_ok (s_a1 s_ckg_142_4)
theorem s_ckg_142_5 : _ = true := s_a2 s_ckg_142_4
theorem s_ck_147 : s_c_147.all (s_okI (g_by 147) (g_me 147).2.1) = true := s_wj_ok (s_a1 s_ckg_142_5)
theorem s_ckg_142_6 : _ = true := s_a2 s_ckg_142_5
theorem s_ck_148 : s_c_148.all (s_okI (g_by 148) (g_me 148).2.1) = true := s_wj_ok (s_a1 s_ckg_142_6)
theorem s_ckg_142_7 : _ = true := s_a2 s_ckg_142_6
theorem s_ck_149 : s_c_149.all (s_okI (g_by 149) (g_me 149).2.1) = true := s_wj_ok (s_a1 s_ckg_142_7)
theorem s_ckg_142_8 : _ = true := s_a2 s_ckg_142_7
theorem s_ck_150 : s_c_150.all (s_okI (g_by 150) (g_me 150).2.1) = true := s_wj_ok (s_a1 s_ckg_142_8)
theorem s_ckg_142_9 : _ = true := s_a2 s_ckg_142_8
theorem s_ck_151 : s_c_151.all (s_okI (g_by 151) (g_me 151).2.1) = true := s_wj_ok (s_a1 s_ckg_142_9)
theorem s_ckg_142_10 : _ = true := s_a2 s_ckg_142_9
theorem s_ck_152 : s_c_152.all (s_okI (g_by 152) (g_me 152).2.1) = true := s_wj_ok (s_a1 s_ckg_142_10)
theorem s_ckg_142_11 : _ = true := s_a2 s_ckg_142_10
theorem s_ck_153 : s_c_153.all (s_okI (g_by 153) (g_me 153).2.1) = true := s_wj_ok (s_a1 s_ckg_142_11)
theorem s_ckg_142_12 : _ = true := s_a2 s_ckg_142_11
theorem s_ck_154 : s_c_154.all (s_okI (g_by 154) (g_me 154).2.1) = true := s_wj_ok (s_a1 s_ckg_142_12)
theorem s_ckg_142_13 : _ = true := s_a2 s_ckg_142_12
theorem s_ck_155 : s_c_155.all (s_okI (g_by 155) (g_me 155).2.1) = true := s_wj_ok (s_a1 s_ckg_142_13)
theorem s_ckg_142_14 : _ = true := s_a2 s_ckg_142_13
theorem s_ck_156 : s_c_156.all (s_okI (g_by 156) (g_me 156).2.1) = true := s_wj_ok (s_a1 s_ckg_142_14)
theorem s_ckg_142_15 : _ = true := s_a2 s_ckg_142_14
theorem s_ck_157 : s_c_157.all (s_okI (g_by 157) (g_me 157).2.1) = true := s_wj_ok (s_a1 s_ckg_142_15)
theorem s_ckg_142_16 : _ = true := s_a2 s_ckg_142_15
theorem s_ck_158 : s_c_158.all (s_okI (g_by 158) (g_me 158).2.1) = true := s_wj_ok (s_a1 s_ckg_142_16)
theorem s_ckg_142_17 : _ = true := s_a2 s_ckg_142_16
theorem s_ck_159 : s_c_159.all (s_okI (g_by 159) (g_me 159).2.1) = true := s_wj_ok (s_a1 s_ckg_142_17)
theorem s_ckg_142_18 : _ = true := s_a2 s_ckg_142_17
theorem s_ck_160 : s_c_160.all (s_okI (g_by 160) (g_me 160).2.1) = true := s_wj_ok (s_a1 s_ckg_142_18)
theorem s_ckg_142_19 : _ = true := s_a2 s_ckg_142_18
theorem s_ck_161 : s_c_161.all (s_okI (g_by 161) (g_me 161).2.1) = true := s_wj_ok (s_a1 s_ckg_142_19)
theorem s_ckg_142_20 : _ = true := s_a2 s_ckg_142_19
theorem s_ck_162 : s_c_162.all (s_okI (g_by 162) (g_me 162).2.1) = true := s_wj_ok (s_a1 s_ckg_142_20)
theorem s_ckg_142_21 : _ = true := s_a2 s_ckg_142_20
theorem s_ck_163 : s_c_163.all (s_okI (g_by 163) (g_me 163).2.1) = true := s_wj_ok (s_a1 s_ckg_142_21)
set_option maxRecDepth 100000 in
theorem s_ckg_164_0 : (s_wj 164 s_c_164 && (s_wj 165 s_c_165 && (s_wj 166 s_c_166 && (s_wj 167 s_c_167 && (s_wj 168 s_c_168 && (s_wj 169 s_c_169 && (s_wj 170 s_c_170 && (s_wj 171 s_c_171 && (s_wj 172 s_c_172 && (s_wj 173 s_c_173 && (s_wj 174 s_c_174 && (s_wj 175 s_c_175 && (s_wj 176 s_c_176 && (s_wj 177 s_c_177 && (s_wj 178 s_c_178 && (s_wj 179 s_c_179 && (s_wj 180 s_c_180 && (s_wj 181 s_c_181 && (s_wj 182 s_c_182 && (s_wj 183 s_c_183 && (s_wj 184 s_c_184 && (s_wj 185 s_c_185 && (s_wj 186 s_c_186 && (s_wj 187 s_c_187 && (s_wj 188 s_c_188 && (s_wj 189 s_c_189 && (s_wj 190 s_c_190 && (s_wj 191 s_c_191 && (s_wj 192 s_c_192 && (s_wj 193 s_c_193 && (s_wj 194 s_c_194 && (s_wj 195 s_c_195 && (s_wj 196 s_c_196 && ( true)))))))))))))))))))))))))))))))))) = true := by decide +kernel
theorem s_ck_164 : s_c_164.all (s_okI (g_by 164) (g_me 164).2.1) = true := s_wj_ok (s_a1 s_ckg_164_0)
theorem s_ckg_164_1 : _ = true := s_a2 s_ckg_164_0
theorem s_ck_165 : s_c_165.all (s_okI (g_by 165) (g_me 165).2.1) = true := s_wj_ok (s_a1 s_ckg_164_1)
theorem s_ckg_164_2 : _ = true := s_a2 s_ckg_164_1
theorem s_ck_166 : s_c_166.all (s_okI (g_by 166) (g_me 166).2.1) = true := s_wj_ok (s_a1 s_ckg_164_2)
theorem s_ckg_164_3 : _ = true := s_a2 s_ckg_164_2
theorem s_ck_167 : s_c_167.all (s_okI (g_by 167) (g_me 167).2.1) = true := s_wj_ok (s_a1 s_ckg_164_3)
theorem s_ckg_164_4 : _ = true := s_a2 s_ckg_164_3
theorem s_ck_168 : s_c_168.all (s_okI (g_by 168) (g_me 168).2.1) = true := s_wj_ok (s_a1 s_ckg_164_4)
theorem s_ckg_164_5 : _ = true := s_a2 s_ckg_164_4
theorem s_ck_169 : s_c_169.all (s_okI (g_by 169) (g_me 169).2.1) = true := s_wj_ok (s_a1 s_ckg_164_5)
theorem s_ckg_164_6 : _ = true := s_a2 s_ckg_164_5
theorem s_ck_170 : s_c_170.all (s_okI (g_by 170) (g_me 170).2.1) = true := s_wj_ok (s_a1 s_ckg_164_6)
theorem s_ckg_164_7 : _ = true := s_a2 s_ckg_164_6
theorem s_ck_171 : s_c_171.all (s_okI (g_by 171) (g_me 171).2.1) = true := s_wj_ok (s_a1 s_ckg_164_7)
theorem s_ckg_164_8 : _ = true := s_a2 s_ckg_164_7
theorem s_ck_172 : s_c_172.all (s_okI (g_by 172) (g_me 172).2.1) = true := s_wj_ok (s_a1 s_ckg_164_8)
theorem s_ckg_164_9 : _ = true := s_a2 s_ckg_164_8
theorem s_ck_173 : s_c_173.all (s_okI (g_by 173) (g_me 173).2.1) = true := s_wj_ok (s_a1 s_ckg_164_9)
theorem s_ckg_164_10 : _ = true := s_a2 s_ckg_164_9
theorem s_ck_174 : s_c_174.all (s_okI (g_by 174) (g_me 174).2.1) = true := s_wj_ok (s_a1 s_ckg_164_10)
theorem s_ckg_164_11 : _ = true := s_a2 s_ckg_164_10
theorem s_ck_175 : s_c_175.all (s_okI (g_by 175) (g_me 175).2.1) = true := s_wj_ok (s_a1 s_ckg_164_11)
theorem s_ckg_164_12 : _ = true := s_a2 s_ckg_164_11
theorem s_ck_176 : s_c_176.all (s_okI (g_by 176) (g_me 176).2.1) = true := s_wj_ok (s_a1 s_ckg_164_12)
theorem s_ckg_164_13 : _ = true := s_a2 s_ckg_164_12
theorem s_ck_177 : s_c_177.all (s_okI (g_by 177) (g_me 177).2.1) = true := s_wj_ok (s_a1 s_ckg_164_13)
theorem s_ckg_164_14 : _ = true := s_a2 s_ckg_164_13
theorem s_ck_178 : s_c_178.all (s_okI (g_by 178) (g_me 178).2.1) = true := s_wj_ok (s_a1 s_ckg_164_14)
theorem s_ckg_164_15 : _ = true := s_a2 s_ckg_164_14
theorem s_ck_179 : s_c_179.all (s_okI (g_by 179) (g_me 179).2.1) = true := s_wj_ok (s_a1 s_ckg_164_15)
theorem s_ckg_164_16 : _ = true := s_a2 s_ckg_164_15
theorem s_ck_180 : s_c_180.all (s_okI (g_by 180) (g_me 180).2.1) = true := s_wj_ok (s_a1 s_ckg_164_16)
theorem s_ckg_164_17 : _ = true := s_a2 s_ckg_164_16
theorem s_ck_181 : s_c_181.all (s_okI (g_by 181) (g_me 181).2.1) = true := s_wj_ok (s_a1 s_ckg_164_17)
theorem s_ckg_164_18 : _ = true := s_a2 s_ckg_164_17
theorem s_ck_182 : s_c_182.all (s_okI (g_by 182) (g_me 182).2.1) = true := s_wj_ok (s_a1 s_ckg_164_18)
theorem s_ckg_164_19 : _ = true := s_a2 s_ckg_164_18
theorem s_ck_183 : s_c_183.all (s_okI (g_by 183) (g_me 183).2.1) = true := s_wj_ok (s_a1 s_ckg_164_19)
theorem s_ckg_164_20 : _ = true := s_a2 s_ckg_164_19
theorem s_ck_184 : s_c_184.all (s_okI (g_by 184) (g_me 184).2.1) = true := s_wj_ok (s_a1 s_ckg_164_20)
theorem s_ckg_164_21 : _ = true := s_a2 s_ckg_164_20
theorem s_ck_185 : s_c_185.all (s_okI (g_by 185) (g_me 185).2.1) = true := s_wj_ok (s_a1 s_ckg_164_21)
theorem s_ckg_164_22 : _ = true := s_a2 s_ckg_164_21
theorem s_ck_186 : s_c_186.all (s_okI (g_by 186) (g_me 186).2.1) = true := s_wj_ok (s_a1 s_ckg_164_22)
theorem s_ckg_164_23 : _ = true := s_a2 s_ckg_164_22
theorem s_ck_187 : s_c_187.all (s_okI (g_by 187) (g_me 187).2.1) = true := s_wj_ok (s_a1 s_ckg_164_23)
theorem s_ckg_164_24 : _ = true := s_a2 s_ckg_164_23
theorem s_ck_188 : s_c_188.all (s_okI (g_by 188) (g_me 188).2.1) = true := s_wj_ok (s_a1 s_ckg_164_24)
theorem s_ckg_164_25 : _ = true := s_a2 s_ckg_164_24
theorem s_ck_189 : s_c_189.all (s_okI (g_by 189) (g_me 189).2.1) = true := s_wj_ok (s_a1 s_ckg_164_25)
theorem s_ckg_164_26 : _ = true := s_a2 s_ckg_164_25
theorem s_ck_190 : s_c_190.all (s_okI (g_by 190) (g_me 190).2.1) = true := s_wj_ok (s_a1 s_ckg_164_26)
theorem s_ckg_164_27 : _ = true := s_a2 s_ckg_164_26
theorem s_ck_191 : s_c_191.all (s_okI (g_by 191) (g_me 191).2.1) = true := s_wj_ok (s_a1 s_ckg_164_27)
theorem s_ckg_164_28 : _ = true := s_a2 s_ckg_164_27
theorem s_ck_192 : s_c_192.all (s_okI (g_by 192) (g_me 192).2.1) = true := s_wj_ok (s_a1 s_ckg_164_28)
theorem s_ckg_164_29 : _ = true := s_a2 s_ckg_164_28
theorem s_ck_193 : s_c_193.all (s_okI (g_by 193) (g_me 193).2.1) = true := s_wj_ok (s_a1 s_ckg_164_29)
theorem s_ckg_164_30 : _ = true := s_a2 s_ckg_164_29
theorem s_ck_194 : s_c_194.all (s_okI (g_by 194) (g_me 194).2.1) = true := s_wj_ok (s_a1 s_ckg_164_30)
theorem s_ckg_164_31 : _ = true := s_a2 s_ckg_164_30
theorem s_ck_195 : s_c_195.all (s_okI (g_by 195) (g_me 195).2.1) = true := s_wj_ok (s_a1 s_ckg_164_31)
theorem s_ckg_164_32 : _ = true := s_a2 s_ckg_164_31
theorem s_ck_196 : s_c_196.all (s_okI (g_by 196) (g_me 196).2.1) = true := s_wj_ok (s_a1 s_ckg_164_32)
set_option maxRecDepth 100000 in
theorem s_ckg_197_0 : (s_wj 197 s_c_197 && (s_wj 198 s_c_198 && (s_wj 199 s_c_199 && (s_wj 200 s_c_200 && (s_wj 201 s_c_201 && (s_wj 202 s_c_202 && (s_wj 203 s_c_203 && (s_wj 204 s_c_204 && (s_wj 205 s_c_205 && (s_wj 206 s_c_206 && (s_wj 207 s_c_207 && (s_wj 208 s_c_208 && (s_wj 209 s_c_209 && (s_wj 210 s_c_210 && (s_wj 211 s_c_211 && (s_wj 212 s_c_212 && (s_wj 213 s_c_213 && (s_wj 214 s_c_214 && (s_wj 215 s_c_215 && (s_wj 216 s_c_216 && (s_wj 217 s_c_217 && (s_wj 218 s_c_218 && (s_wj 219 s_c_219 && (s_wj 220 s_c_220 && ( true))))))))))))))))))))))))) = true := by decide +kernel
theorem s_ck_197 : s_c_197.all (s_okI (g_by 197) (g_me 197).2.1) = true := s_wj_ok (s_a1 s_ckg_197_0)
theorem s_ckg_197_1 : _ = true := s_a2 s_ckg_197_0
theorem s_ck_198 : s_c_198.all (s_okI (g_by 198) (g_me 198).2.1) = true := s_wj_ok (s_a1 s_ckg_197_1)
theorem s_ckg_197_2 : _ = true := s_a2 s_ckg_197_1
theorem s_ck_199 : s_c_199.all (s_okI (g_by 199) (g_me 199).2.1) = true := s_wj_ok (s_a1 s_ckg_197_2)
theorem s_ckg_197_3 : _ = true := s_a2 s_ckg_197_2
theorem s_ck_200 : s_c_200.all (s_okI (g_by 200) (g_me 200).2.1) = true := s_wj_ok (s_a1 s_ckg_197_3)
theorem s_ckg_197_4 : _ = true := s_a2 s_ckg_197_3
theorem s_ck_201 : s_c_201.all (s_okI (g_by 201) (g_me 201).2.1) = true := s_wj_ok (s_a1 s_ckg_197_4)
theorem s_ckg_197_5 : _ = true := s_a2 s_ckg_197_4
theorem s_ck_202 : s_c_202.all (s_okI (g_by 202) (g_me 202).2.1) = true := s_wj_ok (s_a1 s_ckg_197_5)
theorem s_ckg_197_6 : _ = true := s_a2 s_ckg_197_5
theorem s_ck_203 : s_c_203.all (s_okI (g_by 203) (g_me 203).2.1) = true := s_wj_ok (s_a1 s_ckg_197_6)
theorem s_ckg_197_7 : _ = true := s_a2 s_ckg_197_6
theorem s_ck_204 : s_c_204.all (s_okI (g_by 204) (g_me 204).2.1) = true := s_wj_ok (s_a1 s_ckg_197_7)
theorem s_ckg_197_8 : _ = true := s_a2 s_ckg_197_7
theorem s_ck_205 : s_c_205.all (s_okI (g_by 205) (g_me 205).2.1) = true := s_wj_ok (s_a1 s_ckg_197_8)
theorem s_ckg_197_9 : _ = true := s_a2 s_ckg_197_8
theorem s_ck_206 : s_c_206.all (s_okI (g_by 206) (g_me 206).2.1) = true := s_wj_ok (s_a1 s_ckg_197_9)
theorem s_ckg_197_10 : _ = true := s_a2 s_ckg_197_9
theorem s_ck_207 : s_c_207.all (s_okI (g_by 207) (g_me 207).2.1) = true := s_wj_ok (s_a1 s_ckg_197_10)
theorem s_ckg_197_11 : _ = true := s_a2 s_ckg_197_10
theorem s_ck_208 : s_c_208.all (s_okI (g_by 208) (g_me 208).2.1) = true := s_wj_ok (s_a1 s_ckg_197_11)
theorem s_ckg_197_12 : _ = true := s_a2 s_ckg_197_11
theorem s_ck_209 : s_c_209.all (s_okI (g_by 209) (g_me 209).2.1) = true := s_wj_ok (s_a1 s_ckg_197_12)
theorem s_ckg_197_13 : _ = true := s_a2 s_ckg_197_12
theorem s_ck_210 : s_c_210.all (s_okI (g_by 210) (g_me 210).2.1) = true := s_wj_ok (s_a1 s_ckg_197_13)
theorem s_ckg_197_14 : _ = true := s_a2 s_ckg_197_13
theorem s_ck_211 : s_c_211.all (s_okI (g_by 211) (g_me 211).2.1) = true := s_wj_ok (s_a1 s_ckg_197_14)
theorem s_ckg_197_15 : _ = true := s_a2 s_ckg_197_14
theorem s_ck_212 : s_c_212.all (s_okI (g_by 212) (g_me 212).2.1) = true := s_wj_ok (s_a1 s_ckg_197_15)
theorem s_ckg_197_16 : _ = true := s_a2 s_ckg_197_15
theorem s_ck_213 : s_c_213.all (s_okI (g_by 213) (g_me 213).2.1) = true := s_wj_ok (s_a1 s_ckg_197_16)
theorem s_ckg_197_17 : _ = true := s_a2 s_ckg_197_16
theorem s_ck_214 : s_c_214.all (s_okI (g_by 214) (g_me 214).2.1) = true := s_wj_ok (s_a1 s_ckg_197_17)
theorem s_ckg_197_18 : _ = true := s_a2 s_ckg_197_17
theorem s_ck_215 : s_c_215.all (s_okI (g_by 215) (g_me 215).2.1) = true := s_wj_ok (s_a1 s_ckg_197_18)
theorem s_ckg_197_19 : _ = true := s_a2 s_ckg_197_18
theorem s_ck_216 : s_c_216.all (s_okI (g_by 216) (g_me 216).2.1) = true := s_wj_ok (s_a1 s_ckg_197_19)
theorem s_ckg_197_20 : _ = true := s_a2 s_ckg_197_19
theorem s_ck_217 : s_c_217.all (s_okI (g_by 217) (g_me 217).2.1) = true := s_wj_ok (s_a1 s_ckg_197_20)
theorem s_ckg_197_21 : _ = true := s_a2 s_ckg_197_20
theorem s_ck_218 : s_c_218.all (s_okI (g_by 218) (g_me 218).2.1) = true := s_wj_ok (s_a1 s_ckg_197_21)
theorem s_ckg_197_22 : _ = true := s_a2 s_ckg_197_21
theorem s_ck_219 : s_c_219.all (s_okI (g_by 219) (g_me 219).2.1) = true := s_wj_ok (s_a1 s_ckg_197_22)
theorem s_ckg_197_23 : _ = true := s_a2 s_ckg_197_22
theorem s_ck_220 : s_c_220.all (s_okI (g_by 220) (g_me 220).2.1) = true := s_wj_ok (s_a1 s_ckg_197_23)
set_option maxRecDepth 100000 in
theorem s_ckg_221_0 : (s_wj 221 s_c_221 && (s_wj 222 s_c_222 && (s_wj 223 s_c_223 && (s_wj 224 s_c_224 && (s_wj 225 s_c_225 && (s_wj 226 s_c_226 && (s_wj 227 s_c_227 && (s_wj 228 s_c_228 && (s_wj 229 s_c_229 && (s_wj 230 s_c_230 && (s_wj 231 s_c_231 && (s_wj 232 s_c_232 && (s_wj 233 s_c_233 && (s_wj 234 s_c_234 && (s_wj 235 s_c_235 && (s_wj 236 s_c_236 && (s_wj 237 s_c_237 && ( true)))))))))))))))))) = true := by decide +kernel
theorem s_ck_221 : s_c_221.all (s_okI (g_by 221) (g_me 221).2.1) = true := s_wj_ok (s_a1 s_ckg_221_0)
theorem s_ckg_221_1 : _ = true := s_a2 s_ckg_221_0
theorem s_ck_222 : s_c_222.all (s_okI (g_by 222) (g_me 222).2.1) = true := s_wj_ok (s_a1 s_ckg_221_1)
theorem s_ckg_221_2 : _ = true := s_a2 s_ckg_221_1
theorem s_ck_223 : s_c_223.all (s_okI (g_by 223) (g_me 223).2.1) = true := s_wj_ok (s_a1 s_ckg_221_2)
theorem s_ckg_221_3 : _ = true := s_a2 s_ckg_221_2
theorem s_ck_224 : s_c_224.all (s_okI (g_by 224) (g_me 224).2.1) = true := s_wj_ok (s_a1 s_ckg_221_3)
theorem s_ckg_221_4 : _ = true := s_a2 s_ckg_221_3
theorem s_ck_225 : s_c_225.all (s_okI (g_by 225) (g_me 225).2.1) = true := s_wj_ok (s_a1 s_ckg_221_4)
theorem s_ckg_221_5 : _ = true := s_a2 s_ckg_221_4
theorem s_ck_226 : s_c_226.all (s_okI (g_by 226) (g_me 226).2.1) = true := s_wj_ok (s_a1 s_ckg_221_5)
theorem s_ckg_221_6 : _ = true := s_a2 s_ckg_221_5
theorem s_ck_227 : s_c_227.all (s_okI (g_by 227) (g_me 227).2.1) = true := s_wj_ok (s_a1 s_ckg_221_6)
theorem s_ckg_221_7 : _ = true := s_a2 s_ckg_221_6
theorem s_ck_228 : s_c_228.all (s_okI (g_by 228) (g_me 228).2.1) = true := s_wj_ok (s_a1 s_ckg_221_7)
theorem s_ckg_221_8 : _ = true := s_a2 s_ckg_221_7
theorem s_ck_229 : s_c_229.all (s_okI (g_by 229) (g_me 229).2.1) = true := s_wj_ok (s_a1 s_ckg_221_8)
theorem s_ckg_221_9 : _ = true := s_a2 s_ckg_221_8
theorem s_ck_230 : s_c_230.all (s_okI (g_by 230) (g_me 230).2.1) = true := s_wj_ok (s_a1 s_ckg_221_9)
theorem s_ckg_221_10 : _ = true := s_a2 s_ckg_221_9
theorem s_ck_231 : s_c_231.all (s_okI (g_by 231) (g_me 231).2.1) = true := s_wj_ok (s_a1 s_ckg_221_10)
theorem s_ckg_221_11 : _ = true := s_a2 s_ckg_221_10
theorem s_ck_232 : s_c_232.all (s_okI (g_by 232) (g_me 232).2.1) = true := s_wj_ok (s_a1 s_ckg_221_11)
theorem s_ckg_221_12 : _ = true := s_a2 s_ckg_221_11
theorem s_ck_233 : s_c_233.all (s_okI (g_by 233) (g_me 233).2.1) = true := s_wj_ok (s_a1 s_ckg_221_12)
theorem s_ckg_221_13 : _ = true := s_a2 s_ckg_221_12
theorem s_ck_234 : s_c_234.all (s_okI (g_by 234) (g_me 234).2.1) = true := s_wj_ok (s_a1 s_ckg_221_13)
theorem s_ckg_221_14 : _ = true := s_a2 s_ckg_221_13
theorem s_ck_235 : s_c_235.all (s_okI (g_by 235) (g_me 235).2.1) = true := s_wj_ok (s_a1 s_ckg_221_14)
theorem s_ckg_221_15 : _ = true := s_a2 s_ckg_221_14
theorem s_ck_236 : s_c_236.all (s_okI (g_by 236) (g_me 236).2.1) = true := s_wj_ok (s_a1 s_ckg_221_15)
theorem s_ckg_221_16 : _ = true := s_a2 s_ckg_221_15
theorem s_ck_237 : s_c_237.all (s_okI (g_by 237) (g_me 237).2.1) = true := s_wj_ok (s_a1 s_ckg_221_16)
