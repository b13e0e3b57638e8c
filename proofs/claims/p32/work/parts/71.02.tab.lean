/-! the tables are right, by the kernel -/
theorem qk_157 : (qCode 157).all (qChk 157) = true := by decide +kernel
theorem qk_158 : (qCode 158).all (qChk 158) = true := by decide +kernel
theorem qk_159 : (qCode 159).all (qChk 159) = true := by decide +kernel
theorem qk_160 : (qCode 160).all (qChk 160) = true := by decide +kernel
theorem qk_161_0 : (((qCode 161).drop 0).take 60).all (qChk 161) = true := by decide +kernel
theorem qk_161_60 : (((qCode 161).drop 60).take 60).all (qChk 161) = true := by decide +kernel
theorem qk_161_120 : (((qCode 161).drop 120)).all (qChk 161) = true := by decide +kernel
theorem qk_162 : (qCode 162).all (qChk 162) = true := by decide +kernel
theorem qk_163 : (qCode 163).all (qChk 163) = true := by decide +kernel
theorem qk_164 : (qCode 164).all (qChk 164) = true := by decide +kernel
theorem qk_165 : (qCode 165).all (qChk 165) = true := by decide +kernel
theorem qk_166 : (qCode 166).all (qChk 166) = true := by decide +kernel
theorem qk_167 : (qCode 167).all (qChk 167) = true := by decide +kernel
theorem qk_168 : (qCode 168).all (qChk 168) = true := by decide +kernel
theorem qk_169 : (qCode 169).all (qChk 169) = true := by decide +kernel
theorem qk_170 : (qCode 170).all (qChk 170) = true := by decide +kernel
theorem qk_171 : (qCode 171).all (qChk 171) = true := by decide +kernel
theorem qk_172 : (qCode 172).all (qChk 172) = true := by decide +kernel
theorem qk_173 : (qCode 173).all (qChk 173) = true := by decide +kernel
theorem qk_174 : (qCode 174).all (qChk 174) = true := by decide +kernel
theorem qk_175 : (qCode 175).all (qChk 175) = true := by decide +kernel
theorem qk_176 : (qCode 176).all (qChk 176) = true := by decide +kernel
theorem qk_177 : (qCode 177).all (qChk 177) = true := by decide +kernel
theorem qk_178 : (qCode 178).all (qChk 178) = true := by decide +kernel
theorem qk_179 : (qCode 179).all (qChk 179) = true := by decide +kernel
theorem qk_180 : (qCode 180).all (qChk 180) = true := by decide +kernel
theorem qk_181 : (qCode 181).all (qChk 181) = true := by decide +kernel
theorem qk_182 : (qCode 182).all (qChk 182) = true := by decide +kernel
theorem qk_183 : (qCode 183).all (qChk 183) = true := by decide +kernel
theorem qk_184 : (qCode 184).all (qChk 184) = true := by decide +kernel
theorem qk_185 : (qCode 185).all (qChk 185) = true := by decide +kernel
theorem qk_186 : (qCode 186).all (qChk 186) = true := by decide +kernel
theorem qk_187 : (qCode 187).all (qChk 187) = true := by decide +kernel
theorem qk_188 : (qCode 188).all (qChk 188) = true := by decide +kernel
theorem qk_189 : (qCode 189).all (qChk 189) = true := by decide +kernel
theorem qk_190 : (qCode 190).all (qChk 190) = true := by decide +kernel
theorem qk_191 : (qCode 191).all (qChk 191) = true := by decide +kernel
theorem qk_192 : (qCode 192).all (qChk 192) = true := by decide +kernel
theorem qk_193 : (qCode 193).all (qChk 193) = true := by decide +kernel
theorem qk_194 : (qCode 194).all (qChk 194) = true := by decide +kernel
theorem qk_195 : (qCode 195).all (qChk 195) = true := by decide +kernel
theorem qk_196 : (qCode 196).all (qChk 196) = true := by decide +kernel
theorem qk_197 : (qCode 197).all (qChk 197) = true := by decide +kernel
theorem qk_198 : (qCode 198).all (qChk 198) = true := by decide +kernel
theorem qk_199 : (qCode 199).all (qChk 199) = true := by decide +kernel
theorem qk_200 : (qCode 200).all (qChk 200) = true := by decide +kernel
theorem qk_201 : (qCode 201).all (qChk 201) = true := by decide +kernel
theorem qk_202 : (qCode 202).all (qChk 202) = true := by decide +kernel
theorem qk_203 : (qCode 203).all (qChk 203) = true := by decide +kernel
theorem qk_204 : (qCode 204).all (qChk 204) = true := by decide +kernel
theorem qk_205 : (qCode 205).all (qChk 205) = true := by decide +kernel
theorem qk_206 : (qCode 206).all (qChk 206) = true := by decide +kernel
theorem qk_207 : (qCode 207).all (qChk 207) = true := by decide +kernel
theorem qk_208 : (qCode 208).all (qChk 208) = true := by decide +kernel
theorem qk_209 : (qCode 209).all (qChk 209) = true := by decide +kernel
theorem qk_210 : (qCode 210).all (qChk 210) = true := by decide +kernel
theorem qk_211 : (qCode 211).all (qChk 211) = true := by decide +kernel
theorem qk_212_0 : (((qCode 212).drop 0).take 60).all (qChk 212) = true := by decide +kernel
theorem qk_212_60 : (((qCode 212).drop 60).take 60).all (qChk 212) = true := by decide +kernel
theorem qk_212_120 : (((qCode 212).drop 120).take 60).all (qChk 212) = true := by decide +kernel
theorem qk_212_180 : (((qCode 212).drop 180)).all (qChk 212) = true := by decide +kernel
theorem qk_213 : (qCode 213).all (qChk 213) = true := by decide +kernel
theorem qk_214 : (qCode 214).all (qChk 214) = true := by decide +kernel
theorem qk_215 : (qCode 215).all (qChk 215) = true := by decide +kernel
theorem qk_216_0 : (((qCode 216).drop 0).take 60).all (qChk 216) = true := by decide +kernel
theorem qk_216_60 : (((qCode 216).drop 60).take 60).all (qChk 216) = true := by decide +kernel
theorem qk_216_120 : (((qCode 216).drop 120)).all (qChk 216) = true := by decide +kernel
theorem qk_217 : (qCode 217).all (qChk 217) = true := by decide +kernel
theorem qk_218 : (qCode 218).all (qChk 218) = true := by decide +kernel
theorem qk_219 : (qCode 219).all (qChk 219) = true := by decide +kernel
theorem qk_220 : (qCode 220).all (qChk 220) = true := by decide +kernel
theorem qk_221 : (qCode 221).all (qChk 221) = true := by decide +kernel
theorem qk_222 : (qCode 222).all (qChk 222) = true := by decide +kernel
theorem qk_223_0 : (((qCode 223).drop 0).take 60).all (qChk 223) = true := by decide +kernel
theorem qk_223_60 : (((qCode 223).drop 60).take 60).all (qChk 223) = true := by decide +kernel
theorem qk_223_120 : (((qCode 223).drop 120)).all (qChk 223) = true := by decide +kernel
theorem qk_224 : (qCode 224).all (qChk 224) = true := by decide +kernel
theorem qk_225 : (qCode 225).all (qChk 225) = true := by decide +kernel
theorem qk_226 : (qCode 226).all (qChk 226) = true := by decide +kernel
theorem qk_227 : (qCode 227).all (qChk 227) = true := by decide +kernel
theorem qk_228 : (qCode 228).all (qChk 228) = true := by decide +kernel
theorem qk_229 : (qCode 229).all (qChk 229) = true := by decide +kernel
theorem qk_230 : (qCode 230).all (qChk 230) = true := by decide +kernel
theorem qk_231 : (qCode 231).all (qChk 231) = true := by decide +kernel
theorem qk_232 : (qCode 232).all (qChk 232) = true := by decide +kernel
theorem qk_233 : (qCode 233).all (qChk 233) = true := by decide +kernel
theorem qk_234 : (qCode 234).all (qChk 234) = true := by decide +kernel
theorem qk_235 : (qCode 235).all (qChk 235) = true := by decide +kernel
theorem qk_236 : (qCode 236).all (qChk 236) = true := by decide +kernel
