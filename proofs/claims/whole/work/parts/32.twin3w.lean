def y_Tw_multiply : MethodName := ⟨"NumberBenchModel", "multiply", "(JJI)J"⟩
abbrev w_Tw_multiply : List Cond := Cond.code y_Tw_multiply prog_4_method_18_code 25 (Option.some FieldType.long) :: nb_tb
theorem hd_Tw_multiply : y_Tw_multiply.cls ≠ "java/lang/invoke/MethodHandle" ∧ y_Tw_multiply.cls ≠ "java/lang/invoke/VarHandle" ∧ (parseMethodDescriptor y_Tw_multiply.desc).map (fun d => d.parameters.length) = some 3 := by decide +kernel
theorem d_Tw_multiply_0 : decode prog_4_method_18_code 0 = .ok (.lload_n 0, 1) := by decide +kernel
theorem d_Tw_multiply_1 : decode prog_4_method_18_code 1 = .ok (.iload 4, 2) := by decide +kernel
theorem d_Tw_multiply_3 : decode prog_4_method_18_code 3 = .ok (.invokestatic 76, 3) := by decide +kernel
theorem d_Tw_multiply_6 : decode prog_4_method_18_code 6 = .ok (.lload_n 2, 1) := by decide +kernel
theorem d_Tw_multiply_7 : decode prog_4_method_18_code 7 = .ok (.iload 4, 2) := by decide +kernel
theorem d_Tw_multiply_9 : decode prog_4_method_18_code 9 = .ok (.invokestatic 76, 3) := by decide +kernel
theorem d_Tw_multiply_12 : decode prog_4_method_18_code 12 = .ok (.if_icmp .eq 7, 3) := by decide +kernel
theorem d_Tw_multiply_15 : decode prog_4_method_18_code 15 = .ok (.iconst 1, 1) := by decide +kernel
theorem d_Tw_multiply_16 : decode prog_4_method_18_code 16 = .ok (.goto 4, 3) := by decide +kernel
theorem d_Tw_multiply_19 : decode prog_4_method_18_code 19 = .ok (.iconst 0, 1) := by decide +kernel
theorem d_Tw_multiply_20 : decode prog_4_method_18_code 20 = .ok (.istore 5, 2) := by decide +kernel
theorem d_Tw_multiply_22 : decode prog_4_method_18_code 22 = .ok (.lload_n 0, 1) := by decide +kernel
theorem d_Tw_multiply_23 : decode prog_4_method_18_code 23 = .ok (.iload 4, 2) := by decide +kernel
theorem d_Tw_multiply_25 : decode prog_4_method_18_code 25 = .ok (.invokestatic 56, 3) := by decide +kernel
theorem d_Tw_multiply_28 : decode prog_4_method_18_code 28 = .ok (.ifCond .ne 12, 3) := by decide +kernel
theorem d_Tw_multiply_31 : decode prog_4_method_18_code 31 = .ok (.lload_n 2, 1) := by decide +kernel
theorem d_Tw_multiply_32 : decode prog_4_method_18_code 32 = .ok (.iload 4, 2) := by decide +kernel
theorem d_Tw_multiply_34 : decode prog_4_method_18_code 34 = .ok (.invokestatic 56, 3) := by decide +kernel
theorem d_Tw_multiply_37 : decode prog_4_method_18_code 37 = .ok (.ifCond .eq 9, 3) := by decide +kernel
theorem d_Tw_multiply_40 : decode prog_4_method_18_code 40 = .ok (.iload 4, 2) := by decide +kernel
theorem d_Tw_multiply_42 : decode prog_4_method_18_code 42 = .ok (.invokestatic 60, 3) := by decide +kernel
theorem d_Tw_multiply_45 : decode prog_4_method_18_code 45 = .ok (.lreturn, 1) := by decide +kernel
theorem d_Tw_multiply_46 : decode prog_4_method_18_code 46 = .ok (.lload_n 0, 1) := by decide +kernel
theorem d_Tw_multiply_47 : decode prog_4_method_18_code 47 = .ok (.iload 4, 2) := by decide +kernel
theorem d_Tw_multiply_49 : decode prog_4_method_18_code 49 = .ok (.invokestatic 63, 3) := by decide +kernel
theorem d_Tw_multiply_52 : decode prog_4_method_18_code 52 = .ok (.ifCond .ne 12, 3) := by decide +kernel
theorem d_Tw_multiply_55 : decode prog_4_method_18_code 55 = .ok (.lload_n 2, 1) := by decide +kernel
theorem d_Tw_multiply_56 : decode prog_4_method_18_code 56 = .ok (.iload 4, 2) := by decide +kernel
theorem d_Tw_multiply_58 : decode prog_4_method_18_code 58 = .ok (.invokestatic 63, 3) := by decide +kernel
theorem d_Tw_multiply_61 : decode prog_4_method_18_code 61 = .ok (.ifCond .eq 42, 3) := by decide +kernel
theorem d_Tw_multiply_64 : decode prog_4_method_18_code 64 = .ok (.lload_n 0, 1) := by decide +kernel
theorem d_Tw_multiply_65 : decode prog_4_method_18_code 65 = .ok (.iload 4, 2) := by decide +kernel
theorem d_Tw_multiply_67 : decode prog_4_method_18_code 67 = .ok (.invokestatic 66, 3) := by decide +kernel
theorem d_Tw_multiply_70 : decode prog_4_method_18_code 70 = .ok (.ifCond .ne 12, 3) := by decide +kernel
theorem d_Tw_multiply_73 : decode prog_4_method_18_code 73 = .ok (.lload_n 2, 1) := by decide +kernel
theorem d_Tw_multiply_74 : decode prog_4_method_18_code 74 = .ok (.iload 4, 2) := by decide +kernel
theorem d_Tw_multiply_76 : decode prog_4_method_18_code 76 = .ok (.invokestatic 66, 3) := by decide +kernel
theorem d_Tw_multiply_79 : decode prog_4_method_18_code 79 = .ok (.ifCond .eq 11, 3) := by decide +kernel
theorem d_Tw_multiply_82 : decode prog_4_method_18_code 82 = .ok (.iload 4, 2) := by decide +kernel
theorem d_Tw_multiply_84 : decode prog_4_method_18_code 84 = .ok (.invokestatic 60, 3) := by decide +kernel
theorem d_Tw_multiply_87 : decode prog_4_method_18_code 87 = .ok (.goto 15, 3) := by decide +kernel
theorem d_Tw_multiply_90 : decode prog_4_method_18_code 90 = .ok (.iload 4, 2) := by decide +kernel
theorem d_Tw_multiply_92 : decode prog_4_method_18_code 92 = .ok (.invokestatic 19, 3) := by decide +kernel
theorem d_Tw_multiply_95 : decode prog_4_method_18_code 95 = .ok (.iload 5, 2) := by decide +kernel
theorem d_Tw_multiply_97 : decode prog_4_method_18_code 97 = .ok (.iload 4, 2) := by decide +kernel
theorem d_Tw_multiply_99 : decode prog_4_method_18_code 99 = .ok (.invokestatic 36, 3) := by decide +kernel
theorem d_Tw_multiply_102 : decode prog_4_method_18_code 102 = .ok (.lreturn, 1) := by decide +kernel
theorem d_Tw_multiply_103 : decode prog_4_method_18_code 103 = .ok (.lload_n 0, 1) := by decide +kernel
theorem d_Tw_multiply_104 : decode prog_4_method_18_code 104 = .ok (.iload 4, 2) := by decide +kernel
theorem d_Tw_multiply_106 : decode prog_4_method_18_code 106 = .ok (.invokestatic 66, 3) := by decide +kernel
theorem d_Tw_multiply_109 : decode prog_4_method_18_code 109 = .ok (.ifCond .ne 12, 3) := by decide +kernel
theorem d_Tw_multiply_112 : decode prog_4_method_18_code 112 = .ok (.lload_n 2, 1) := by decide +kernel
theorem d_Tw_multiply_113 : decode prog_4_method_18_code 113 = .ok (.iload 4, 2) := by decide +kernel
theorem d_Tw_multiply_115 : decode prog_4_method_18_code 115 = .ok (.invokestatic 66, 3) := by decide +kernel
theorem d_Tw_multiply_118 : decode prog_4_method_18_code 118 = .ok (.ifCond .eq 12, 3) := by decide +kernel
theorem d_Tw_multiply_121 : decode prog_4_method_18_code 121 = .ok (.lconst 0, 1) := by decide +kernel
theorem d_Tw_multiply_122 : decode prog_4_method_18_code 122 = .ok (.iload 5, 2) := by decide +kernel
theorem d_Tw_multiply_124 : decode prog_4_method_18_code 124 = .ok (.iload 4, 2) := by decide +kernel
theorem d_Tw_multiply_126 : decode prog_4_method_18_code 126 = .ok (.invokestatic 36, 3) := by decide +kernel
theorem d_Tw_multiply_129 : decode prog_4_method_18_code 129 = .ok (.lreturn, 1) := by decide +kernel
theorem d_Tw_multiply_130 : decode prog_4_method_18_code 130 = .ok (.lload_n 0, 1) := by decide +kernel
theorem d_Tw_multiply_131 : decode prog_4_method_18_code 131 = .ok (.iload 4, 2) := by decide +kernel
theorem d_Tw_multiply_133 : decode prog_4_method_18_code 133 = .ok (.invokestatic 73, 3) := by decide +kernel
theorem d_Tw_multiply_136 : decode prog_4_method_18_code 136 = .ok (.lstore 6, 2) := by decide +kernel
theorem d_Tw_multiply_138 : decode prog_4_method_18_code 138 = .ok (.lload_n 2, 1) := by decide +kernel
theorem d_Tw_multiply_139 : decode prog_4_method_18_code 139 = .ok (.iload 4, 2) := by decide +kernel
theorem d_Tw_multiply_141 : decode prog_4_method_18_code 141 = .ok (.invokestatic 73, 3) := by decide +kernel
theorem d_Tw_multiply_144 : decode prog_4_method_18_code 144 = .ok (.lstore 8, 2) := by decide +kernel
theorem d_Tw_multiply_146 : decode prog_4_method_18_code 146 = .ok (.lload_n 0, 1) := by decide +kernel
theorem d_Tw_multiply_147 : decode prog_4_method_18_code 147 = .ok (.iload 4, 2) := by decide +kernel
theorem d_Tw_multiply_149 : decode prog_4_method_18_code 149 = .ok (.invokestatic 69, 3) := by decide +kernel
theorem d_Tw_multiply_152 : decode prog_4_method_18_code 152 = .ok (.lload_n 2, 1) := by decide +kernel
theorem d_Tw_multiply_153 : decode prog_4_method_18_code 153 = .ok (.iload 4, 2) := by decide +kernel
theorem d_Tw_multiply_155 : decode prog_4_method_18_code 155 = .ok (.invokestatic 69, 3) := by decide +kernel
theorem d_Tw_multiply_158 : decode prog_4_method_18_code 158 = .ok (.iadd, 1) := by decide +kernel
theorem d_Tw_multiply_159 : decode prog_4_method_18_code 159 = .ok (.lload 6, 2) := by decide +kernel
theorem d_Tw_multiply_161 : decode prog_4_method_18_code 161 = .ok (.iload 4, 2) := by decide +kernel
theorem d_Tw_multiply_163 : decode prog_4_method_18_code 163 = .ok (.invokestatic 86, 3) := by decide +kernel
theorem d_Tw_multiply_166 : decode prog_4_method_18_code 166 = .ok (.isub, 1) := by decide +kernel
theorem d_Tw_multiply_167 : decode prog_4_method_18_code 167 = .ok (.lload 8, 2) := by decide +kernel
theorem d_Tw_multiply_169 : decode prog_4_method_18_code 169 = .ok (.iload 4, 2) := by decide +kernel
theorem d_Tw_multiply_171 : decode prog_4_method_18_code 171 = .ok (.invokestatic 86, 3) := by decide +kernel
theorem d_Tw_multiply_174 : decode prog_4_method_18_code 174 = .ok (.isub, 1) := by decide +kernel
theorem d_Tw_multiply_175 : decode prog_4_method_18_code 175 = .ok (.istore 10, 2) := by decide +kernel
theorem d_Tw_multiply_177 : decode prog_4_method_18_code 177 = .ok (.lload 6, 2) := by decide +kernel
theorem d_Tw_multiply_179 : decode prog_4_method_18_code 179 = .ok (.lload 6, 2) := by decide +kernel
theorem d_Tw_multiply_181 : decode prog_4_method_18_code 181 = .ok (.iload 4, 2) := by decide +kernel
theorem d_Tw_multiply_183 : decode prog_4_method_18_code 183 = .ok (.invokestatic 86, 3) := by decide +kernel
theorem d_Tw_multiply_186 : decode prog_4_method_18_code 186 = .ok (.lshl, 1) := by decide +kernel
theorem d_Tw_multiply_187 : decode prog_4_method_18_code 187 = .ok (.lstore 6, 2) := by decide +kernel
theorem d_Tw_multiply_189 : decode prog_4_method_18_code 189 = .ok (.lload 8, 2) := by decide +kernel
theorem d_Tw_multiply_191 : decode prog_4_method_18_code 191 = .ok (.lload 8, 2) := by decide +kernel
theorem d_Tw_multiply_193 : decode prog_4_method_18_code 193 = .ok (.iload 4, 2) := by decide +kernel
theorem d_Tw_multiply_195 : decode prog_4_method_18_code 195 = .ok (.invokestatic 86, 3) := by decide +kernel
theorem d_Tw_multiply_198 : decode prog_4_method_18_code 198 = .ok (.lshl, 1) := by decide +kernel
theorem d_Tw_multiply_199 : decode prog_4_method_18_code 199 = .ok (.lstore 8, 2) := by decide +kernel
theorem d_Tw_multiply_201 : decode prog_4_method_18_code 201 = .ok (.iload 4, 2) := by decide +kernel
theorem d_Tw_multiply_203 : decode prog_4_method_18_code 203 = .ok (.iconst 1, 1) := by decide +kernel
theorem d_Tw_multiply_204 : decode prog_4_method_18_code 204 = .ok (.if_icmp .ne 18, 3) := by decide +kernel
theorem d_Tw_multiply_207 : decode prog_4_method_18_code 207 = .ok (.iload 5, 2) := by decide +kernel
theorem d_Tw_multiply_209 : decode prog_4_method_18_code 209 = .ok (.lload 6, 2) := by decide +kernel
theorem d_Tw_multiply_211 : decode prog_4_method_18_code 211 = .ok (.lload 8, 2) := by decide +kernel
theorem d_Tw_multiply_213 : decode prog_4_method_18_code 213 = .ok (.lmul, 1) := by decide +kernel
theorem d_Tw_multiply_214 : decode prog_4_method_18_code 214 = .ok (.iload 10, 2) := by decide +kernel
theorem d_Tw_multiply_216 : decode prog_4_method_18_code 216 = .ok (.iload 4, 2) := by decide +kernel
theorem d_Tw_multiply_218 : decode prog_4_method_18_code 218 = .ok (.invokestatic 89, 3) := by decide +kernel
theorem d_Tw_multiply_221 : decode prog_4_method_18_code 221 = .ok (.lreturn, 1) := by decide +kernel
theorem d_Tw_multiply_222 : decode prog_4_method_18_code 222 = .ok (.lload 6, 2) := by decide +kernel
theorem d_Tw_multiply_224 : decode prog_4_method_18_code 224 = .ok (.bipush 27, 2) := by decide +kernel
theorem d_Tw_multiply_226 : decode prog_4_method_18_code 226 = .ok (.lshr, 1) := by decide +kernel
theorem d_Tw_multiply_227 : decode prog_4_method_18_code 227 = .ok (.lstore 11, 2) := by decide +kernel
theorem d_Tw_multiply_229 : decode prog_4_method_18_code 229 = .ok (.lload 6, 2) := by decide +kernel
theorem d_Tw_multiply_231 : decode prog_4_method_18_code 231 = .ok (.ldc2_w 93, 3) := by decide +kernel
theorem d_Tw_multiply_234 : decode prog_4_method_18_code 234 = .ok (.land, 1) := by decide +kernel
theorem d_Tw_multiply_235 : decode prog_4_method_18_code 235 = .ok (.lstore 13, 2) := by decide +kernel
theorem d_Tw_multiply_237 : decode prog_4_method_18_code 237 = .ok (.lload 8, 2) := by decide +kernel
theorem d_Tw_multiply_239 : decode prog_4_method_18_code 239 = .ok (.bipush 27, 2) := by decide +kernel
theorem d_Tw_multiply_241 : decode prog_4_method_18_code 241 = .ok (.lshr, 1) := by decide +kernel
theorem d_Tw_multiply_242 : decode prog_4_method_18_code 242 = .ok (.lstore 15, 2) := by decide +kernel
theorem d_Tw_multiply_244 : decode prog_4_method_18_code 244 = .ok (.lload 8, 2) := by decide +kernel
theorem d_Tw_multiply_246 : decode prog_4_method_18_code 246 = .ok (.ldc2_w 93, 3) := by decide +kernel
theorem d_Tw_multiply_249 : decode prog_4_method_18_code 249 = .ok (.land, 1) := by decide +kernel
theorem d_Tw_multiply_250 : decode prog_4_method_18_code 250 = .ok (.lstore 17, 2) := by decide +kernel
theorem d_Tw_multiply_252 : decode prog_4_method_18_code 252 = .ok (.lload 11, 2) := by decide +kernel
theorem d_Tw_multiply_254 : decode prog_4_method_18_code 254 = .ok (.lload 17, 2) := by decide +kernel
theorem d_Tw_multiply_256 : decode prog_4_method_18_code 256 = .ok (.lmul, 1) := by decide +kernel
theorem d_Tw_multiply_257 : decode prog_4_method_18_code 257 = .ok (.lload 13, 2) := by decide +kernel
theorem d_Tw_multiply_259 : decode prog_4_method_18_code 259 = .ok (.lload 15, 2) := by decide +kernel
theorem d_Tw_multiply_261 : decode prog_4_method_18_code 261 = .ok (.lmul, 1) := by decide +kernel
theorem d_Tw_multiply_262 : decode prog_4_method_18_code 262 = .ok (.ladd, 1) := by decide +kernel
theorem d_Tw_multiply_263 : decode prog_4_method_18_code 263 = .ok (.lstore 19, 2) := by decide +kernel
theorem d_Tw_multiply_265 : decode prog_4_method_18_code 265 = .ok (.lload 13, 2) := by decide +kernel
theorem d_Tw_multiply_267 : decode prog_4_method_18_code 267 = .ok (.lload 17, 2) := by decide +kernel
theorem d_Tw_multiply_269 : decode prog_4_method_18_code 269 = .ok (.lmul, 1) := by decide +kernel
theorem d_Tw_multiply_270 : decode prog_4_method_18_code 270 = .ok (.lload 19, 2) := by decide +kernel
theorem d_Tw_multiply_272 : decode prog_4_method_18_code 272 = .ok (.ldc2_w 93, 3) := by decide +kernel
theorem d_Tw_multiply_275 : decode prog_4_method_18_code 275 = .ok (.land, 1) := by decide +kernel
theorem d_Tw_multiply_276 : decode prog_4_method_18_code 276 = .ok (.bipush 27, 2) := by decide +kernel
theorem d_Tw_multiply_278 : decode prog_4_method_18_code 278 = .ok (.lshl, 1) := by decide +kernel
theorem d_Tw_multiply_279 : decode prog_4_method_18_code 279 = .ok (.ladd, 1) := by decide +kernel
theorem d_Tw_multiply_280 : decode prog_4_method_18_code 280 = .ok (.lstore 21, 2) := by decide +kernel
theorem d_Tw_multiply_282 : decode prog_4_method_18_code 282 = .ok (.lload 11, 2) := by decide +kernel
theorem d_Tw_multiply_284 : decode prog_4_method_18_code 284 = .ok (.lload 15, 2) := by decide +kernel
theorem d_Tw_multiply_286 : decode prog_4_method_18_code 286 = .ok (.lmul, 1) := by decide +kernel
theorem d_Tw_multiply_287 : decode prog_4_method_18_code 287 = .ok (.lload 19, 2) := by decide +kernel
theorem d_Tw_multiply_289 : decode prog_4_method_18_code 289 = .ok (.bipush 27, 2) := by decide +kernel
theorem d_Tw_multiply_291 : decode prog_4_method_18_code 291 = .ok (.lshr, 1) := by decide +kernel
theorem d_Tw_multiply_292 : decode prog_4_method_18_code 292 = .ok (.ladd, 1) := by decide +kernel
theorem d_Tw_multiply_293 : decode prog_4_method_18_code 293 = .ok (.lload 21, 2) := by decide +kernel
theorem d_Tw_multiply_295 : decode prog_4_method_18_code 295 = .ok (.bipush 54, 2) := by decide +kernel
theorem d_Tw_multiply_297 : decode prog_4_method_18_code 297 = .ok (.lshr, 1) := by decide +kernel
theorem d_Tw_multiply_298 : decode prog_4_method_18_code 298 = .ok (.ladd, 1) := by decide +kernel
theorem d_Tw_multiply_299 : decode prog_4_method_18_code 299 = .ok (.lstore 23, 2) := by decide +kernel
theorem d_Tw_multiply_301 : decode prog_4_method_18_code 301 = .ok (.lload 21, 2) := by decide +kernel
theorem d_Tw_multiply_303 : decode prog_4_method_18_code 303 = .ok (.ldc2_w 95, 3) := by decide +kernel
theorem d_Tw_multiply_306 : decode prog_4_method_18_code 306 = .ok (.land, 1) := by decide +kernel
theorem d_Tw_multiply_307 : decode prog_4_method_18_code 307 = .ok (.lstore 21, 2) := by decide +kernel
theorem d_Tw_multiply_309 : decode prog_4_method_18_code 309 = .ok (.iload 5, 2) := by decide +kernel
theorem d_Tw_multiply_311 : decode prog_4_method_18_code 311 = .ok (.lload 23, 2) := by decide +kernel
theorem d_Tw_multiply_313 : decode prog_4_method_18_code 313 = .ok (.bipush 8, 2) := by decide +kernel
theorem d_Tw_multiply_315 : decode prog_4_method_18_code 315 = .ok (.lshl, 1) := by decide +kernel
theorem d_Tw_multiply_316 : decode prog_4_method_18_code 316 = .ok (.lload 21, 2) := by decide +kernel
theorem d_Tw_multiply_318 : decode prog_4_method_18_code 318 = .ok (.bipush 46, 2) := by decide +kernel
theorem d_Tw_multiply_320 : decode prog_4_method_18_code 320 = .ok (.lshr, 1) := by decide +kernel
theorem d_Tw_multiply_321 : decode prog_4_method_18_code 321 = .ok (.lor, 1) := by decide +kernel
theorem d_Tw_multiply_322 : decode prog_4_method_18_code 322 = .ok (.iload 10, 2) := by decide +kernel
theorem d_Tw_multiply_324 : decode prog_4_method_18_code 324 = .ok (.bipush 46, 2) := by decide +kernel
theorem d_Tw_multiply_326 : decode prog_4_method_18_code 326 = .ok (.iadd, 1) := by decide +kernel
theorem d_Tw_multiply_327 : decode prog_4_method_18_code 327 = .ok (.lload 21, 2) := by decide +kernel
theorem d_Tw_multiply_329 : decode prog_4_method_18_code 329 = .ok (.ldc2_w 97, 3) := by decide +kernel
theorem d_Tw_multiply_332 : decode prog_4_method_18_code 332 = .ok (.land, 1) := by decide +kernel
theorem d_Tw_multiply_333 : decode prog_4_method_18_code 333 = .ok (.lconst 0, 1) := by decide +kernel
theorem d_Tw_multiply_334 : decode prog_4_method_18_code 334 = .ok (.lcmp, 1) := by decide +kernel
theorem d_Tw_multiply_335 : decode prog_4_method_18_code 335 = .ok (.ifCond .eq 7, 3) := by decide +kernel
theorem d_Tw_multiply_338 : decode prog_4_method_18_code 338 = .ok (.iconst 1, 1) := by decide +kernel
theorem d_Tw_multiply_339 : decode prog_4_method_18_code 339 = .ok (.goto 4, 3) := by decide +kernel
theorem d_Tw_multiply_342 : decode prog_4_method_18_code 342 = .ok (.iconst 0, 1) := by decide +kernel
theorem d_Tw_multiply_343 : decode prog_4_method_18_code 343 = .ok (.iload 4, 2) := by decide +kernel
theorem d_Tw_multiply_345 : decode prog_4_method_18_code 345 = .ok (.invokestatic 52, 3) := by decide +kernel
theorem d_Tw_multiply_348 : decode prog_4_method_18_code 348 = .ok (.lreturn, 1) := by decide +kernel
set_option maxHeartbeats 1200000 in
set_option maxRecDepth 100000 in
theorem c_Tw_multiply (l : Launch) (ad : Nat → Nat) (a : Int64) (b : Int64) (f : Nat) (h_f : f < 2) : Met l y_Tw_multiply w_Tw_multiply ({ frames := 4, cells := 0, slots := 0, locals := 101 } : Room) (va_Pc [.long a, .long b, .int (nI f)] (nb_K ad)) (vp_Sl (fun r => r = mf_Tw_multiply a b f)) 0 0 (fun _ => False) := by
  refine Met.ofW (cc := prog_4_method_18_code) (maxL := 25) (ret := some .long) (by decide) rfl ?_
  intro p e s m args below meth c s₁ B hml hv
  obtain ⟨rfl, hC⟩ := hv
  have hx := B.exec
  have hb := B.bytes
  have hr := B.returns
  have hts := atoms_spec (ws := w_Tw_multiply) B.pre
  have hown : s.vm.findClass "NumberBenchModel" = some m.cls := findClass_of_methodNamed B.named
  have hlocks := B.notSynchronized
  have hC : nb_C ad (fun _ => False) s s.heap := hC
  have hS : va_S (fun _ => False) s.heap s.heap [] := va_S.rf
  have hl := lv_entry ([.long a, .long b, .int (nI f)]) (n := 25) (Nat.le_of_ble_eq_true rfl)
  rw [lg_entry_eq]
  generalize (lg_sl ([.long a, .long b, .int (nI f)]) ++ List.replicate (25 - (lg_sl ([.long a, .long b, .int (nI f)])).length) Slot.unset).toArray = ls at hl ⊢
  have hl : lv_has ls 25 [(0, .long a), (2, .long b), (4, .int (nI f))] := hl
  have b64 : ∀ (x5 : Int32) (ls : Array Slot), lv_has ls 25 [(0, .long a), (2, .long b), (4, .int (nI f)), (5, .int x5)] → mf_Tw_multiply a b f = mf_Tw_multiply_b64 a b f x5 → W p l e (headSpec w_Tw_multiply ({ frames := 4, cells := 0, slots := 0, locals := 101 } : Room)).room s m ([.long a, .long b, .int (nI f)] : List Value).toArray below meth c s.heap [] 0 0 (MQ below (vp_Sl (fun r => r = mf_Tw_multiply a b f)) ([.long a, .long b, .int (nI f)] : List Value).toArray s 0 0 (fun _ => False)) (F0 m 64 ls []) := by
    intro x5 ls hl  hE
    refine lv_lload_n hx hb d_Tw_multiply_64 rfl (lv_at hl 0 rfl) ?_
    refine lv_iload hx hb d_Tw_multiply_65 (lv_at hl 2 rfl) ?_
    refine nb_callSi (As := [.long a, .int (nI f)]) (rest := []) hx hb hml hown hts (c_Tw_isZero l ad a f h_f) nb_t329 nb_t330 nb_t2 nb_t331 hd_Tw_isZero rfl ⟨Nat.le_of_ble_eq_true rfl, Nat.le_of_ble_eq_true rfl⟩ ⟨rfl, rfl⟩ hC hS hl.1 rfl (Nat.le_of_ble_eq_true rfl) ⟨Nat.le_of_ble_eq_true rfl, Nat.le_of_ble_eq_true rfl⟩ d_Tw_multiply_67 ?_
    refine lv_if_ne (tgt := 82) hx hb d_Tw_multiply_70 (by decide) (fun h16 => ?_) (fun h16 => ?_)
    · refine lv_iload hx hb d_Tw_multiply_82 (lv_at hl 2 rfl) ?_
      refine nb_callSl (As := [.int (nI f)]) (rest := []) hx hb hml hown hts (c_Tw_none l ad f h_f) nb_t291 nb_t292 nb_t2 nb_t293 hd_Tw_none rfl ⟨Nat.le_of_ble_eq_true rfl, Nat.le_of_ble_eq_true rfl⟩ ⟨rfl, rfl⟩ hC hS hl.1 rfl (Nat.le_of_ble_eq_true rfl) ⟨Nat.le_of_ble_eq_true rfl, Nat.le_of_ble_eq_true rfl⟩ d_Tw_multiply_84 ?_
      refine lv_goto (tgt := 102) hx hb d_Tw_multiply_87 (by decide) ?_
      exact W.lret hx hb hr (fun t ht hW => ⟨_, rfl, (by rw [hE, mf_Tw_multiply_b64, if_neg h16]), ht⟩) t_nil d_Tw_multiply_102
    · refine lv_lload_n hx hb d_Tw_multiply_73 rfl (lv_at hl 1 rfl) ?_
      refine lv_iload hx hb d_Tw_multiply_74 (lv_at hl 2 rfl) ?_
      refine nb_callSi (As := [.long b, .int (nI f)]) (rest := []) hx hb hml hown hts (c_Tw_isZero l ad b f h_f) nb_t329 nb_t330 nb_t2 nb_t331 hd_Tw_isZero rfl ⟨Nat.le_of_ble_eq_true rfl, Nat.le_of_ble_eq_true rfl⟩ ⟨rfl, rfl⟩ hC hS hl.1 rfl (Nat.le_of_ble_eq_true rfl) ⟨Nat.le_of_ble_eq_true rfl, Nat.le_of_ble_eq_true rfl⟩ d_Tw_multiply_76 ?_
      refine lv_if_eq (tgt := 90) hx hb d_Tw_multiply_79 (by decide) (fun h17 => ?_) (fun h17 => ?_)
      · refine lv_iload hx hb d_Tw_multiply_90 (lv_at hl 2 rfl) ?_
        refine nb_callSl (As := [.int (nI f)]) (rest := []) hx hb hml hown hts (c_Tw_infinite l ad f h_f) nb_t286 nb_t287 nb_t2 nb_t288 hd_Tw_infinite rfl ⟨Nat.le_of_ble_eq_true rfl, Nat.le_of_ble_eq_true rfl⟩ ⟨rfl, rfl⟩ hC hS hl.1 rfl (Nat.le_of_ble_eq_true rfl) ⟨Nat.le_of_ble_eq_true rfl, Nat.le_of_ble_eq_true rfl⟩ d_Tw_multiply_92 ?_
        refine lv_iload hx hb d_Tw_multiply_95 (lv_at hl 3 rfl) ?_
        refine lv_iload hx hb d_Tw_multiply_97 (lv_at hl 2 rfl) ?_
        refine nb_callSl (As := [.long (mf_Tw_infinite f), .int x5, .int (nI f)]) (rest := []) hx hb hml hown hts (c_Tw_signed l ad (mf_Tw_infinite f) x5 f h_f) nb_t302 nb_t303 nb_t2 nb_t304 hd_Tw_signed rfl ⟨Nat.le_of_ble_eq_true rfl, Nat.le_of_ble_eq_true rfl⟩ ⟨rfl, rfl⟩ hC hS hl.1 rfl (Nat.le_of_ble_eq_true rfl) ⟨Nat.le_of_ble_eq_true rfl, Nat.le_of_ble_eq_true rfl⟩ d_Tw_multiply_99 ?_
        exact W.lret hx hb hr (fun t ht hW => ⟨_, rfl, (by rw [hE, mf_Tw_multiply_b64, if_pos h16, if_pos h17]), ht⟩) t_nil d_Tw_multiply_102
      · refine lv_iload hx hb d_Tw_multiply_82 (lv_at hl 2 rfl) ?_
        refine nb_callSl (As := [.int (nI f)]) (rest := []) hx hb hml hown hts (c_Tw_none l ad f h_f) nb_t291 nb_t292 nb_t2 nb_t293 hd_Tw_none rfl ⟨Nat.le_of_ble_eq_true rfl, Nat.le_of_ble_eq_true rfl⟩ ⟨rfl, rfl⟩ hC hS hl.1 rfl (Nat.le_of_ble_eq_true rfl) ⟨Nat.le_of_ble_eq_true rfl, Nat.le_of_ble_eq_true rfl⟩ d_Tw_multiply_84 ?_
        refine lv_goto (tgt := 102) hx hb d_Tw_multiply_87 (by decide) ?_
        exact W.lret hx hb hr (fun t ht hW => ⟨_, rfl, (by rw [hE, mf_Tw_multiply_b64, if_pos h16, if_neg h17]), ht⟩) t_nil d_Tw_multiply_102
  have b20 : ∀ (k0 : Int32) (ls : Array Slot), lv_has ls 25 [(0, .long a), (2, .long b), (4, .int (nI f))] → mf_Tw_multiply a b f = mf_Tw_multiply_b20 a b f k0 → W p l e (headSpec w_Tw_multiply ({ frames := 4, cells := 0, slots := 0, locals := 101 } : Room)).room s m ([.long a, .long b, .int (nI f)] : List Value).toArray below meth c s.heap [] 0 0 (MQ below (vp_Sl (fun r => r = mf_Tw_multiply a b f)) ([.long a, .long b, .int (nI f)] : List Value).toArray s 0 0 (fun _ => False)) (F0 m 20 ls [.int k0]) := by
    intro k0 ls hl  hE
    refine lv_istore hx hb d_Tw_multiply_20 hl (by decide) rfl (fun ls hl => ?_)
    have hl : lv_has ls 25 [(5, .int k0), (0, .long a), (2, .long b), (4, .int (nI f))] := hl
    refine lv_lload_n hx hb d_Tw_multiply_22 rfl (lv_at hl 1 rfl) ?_
    refine lv_iload hx hb d_Tw_multiply_23 (lv_at hl 3 rfl) ?_
    refine nb_callSi (As := [.long a, .int (nI f)]) (rest := []) hx hb hml hown hts (c_Tw_isNone l ad a f h_f) nb_t277 nb_t278 nb_t2 nb_t279 hd_Tw_isNone rfl ⟨Nat.le_of_ble_eq_true rfl, Nat.le_of_ble_eq_true rfl⟩ ⟨rfl, rfl⟩ hC hS hl.1 rfl (Nat.le_of_ble_eq_true rfl) ⟨Nat.le_of_ble_eq_true rfl, Nat.le_of_ble_eq_true rfl⟩ d_Tw_multiply_25 ?_
    refine lv_if_ne (tgt := 40) hx hb d_Tw_multiply_28 (by decide) (fun h2 => ?_) (fun h2 => ?_)
    · refine lv_iload hx hb d_Tw_multiply_40 (lv_at hl 3 rfl) ?_
      refine nb_callSl (As := [.int (nI f)]) (rest := []) hx hb hml hown hts (c_Tw_none l ad f h_f) nb_t291 nb_t292 nb_t2 nb_t293 hd_Tw_none rfl ⟨Nat.le_of_ble_eq_true rfl, Nat.le_of_ble_eq_true rfl⟩ ⟨rfl, rfl⟩ hC hS hl.1 rfl (Nat.le_of_ble_eq_true rfl) ⟨Nat.le_of_ble_eq_true rfl, Nat.le_of_ble_eq_true rfl⟩ d_Tw_multiply_42 ?_
      exact W.lret hx hb hr (fun t ht hW => ⟨_, rfl, (by rw [hE, mf_Tw_multiply_b20, if_neg h2]), ht⟩) t_nil d_Tw_multiply_45
    · refine lv_lload_n hx hb d_Tw_multiply_31 rfl (lv_at hl 2 rfl) ?_
      refine lv_iload hx hb d_Tw_multiply_32 (lv_at hl 3 rfl) ?_
      refine nb_callSi (As := [.long b, .int (nI f)]) (rest := []) hx hb hml hown hts (c_Tw_isNone l ad b f h_f) nb_t277 nb_t278 nb_t2 nb_t279 hd_Tw_isNone rfl ⟨Nat.le_of_ble_eq_true rfl, Nat.le_of_ble_eq_true rfl⟩ ⟨rfl, rfl⟩ hC hS hl.1 rfl (Nat.le_of_ble_eq_true rfl) ⟨Nat.le_of_ble_eq_true rfl, Nat.le_of_ble_eq_true rfl⟩ d_Tw_multiply_34 ?_
      refine lv_if_eq (tgt := 46) hx hb d_Tw_multiply_37 (by decide) (fun h3 => ?_) (fun h3 => ?_)
      · refine lv_lload_n hx hb d_Tw_multiply_46 rfl (lv_at hl 1 rfl) ?_
        refine lv_iload hx hb d_Tw_multiply_47 (lv_at hl 3 rfl) ?_
        refine nb_callSi (As := [.long a, .int (nI f)]) (rest := []) hx hb hml hown hts (c_Tw_isInfinite l ad a f h_f) nb_t296 nb_t297 nb_t2 nb_t298 hd_Tw_isInfinite rfl ⟨Nat.le_of_ble_eq_true rfl, Nat.le_of_ble_eq_true rfl⟩ ⟨rfl, rfl⟩ hC hS hl.1 rfl (Nat.le_of_ble_eq_true rfl) ⟨Nat.le_of_ble_eq_true rfl, Nat.le_of_ble_eq_true rfl⟩ d_Tw_multiply_49 ?_
        refine lv_if_ne (tgt := 64) hx hb d_Tw_multiply_52 (by decide) (fun h4 => ?_) (fun h4 => ?_)
        · exact b64 k0 ls (lv_sub hl [1, 2, 3, 0] rfl)  (by rw [hE, mf_Tw_multiply_b20, if_pos h2, if_pos h3, if_neg h4])
        · refine lv_lload_n hx hb d_Tw_multiply_55 rfl (lv_at hl 2 rfl) ?_
          refine lv_iload hx hb d_Tw_multiply_56 (lv_at hl 3 rfl) ?_
          refine nb_callSi (As := [.long b, .int (nI f)]) (rest := []) hx hb hml hown hts (c_Tw_isInfinite l ad b f h_f) nb_t296 nb_t297 nb_t2 nb_t298 hd_Tw_isInfinite rfl ⟨Nat.le_of_ble_eq_true rfl, Nat.le_of_ble_eq_true rfl⟩ ⟨rfl, rfl⟩ hC hS hl.1 rfl (Nat.le_of_ble_eq_true rfl) ⟨Nat.le_of_ble_eq_true rfl, Nat.le_of_ble_eq_true rfl⟩ d_Tw_multiply_58 ?_
          refine lv_if_eq (tgt := 103) hx hb d_Tw_multiply_61 (by decide) (fun h5 => ?_) (fun h5 => ?_)
          · refine lv_lload_n hx hb d_Tw_multiply_103 rfl (lv_at hl 1 rfl) ?_
            refine lv_iload hx hb d_Tw_multiply_104 (lv_at hl 3 rfl) ?_
            refine nb_callSi (As := [.long a, .int (nI f)]) (rest := []) hx hb hml hown hts (c_Tw_isZero l ad a f h_f) nb_t329 nb_t330 nb_t2 nb_t331 hd_Tw_isZero rfl ⟨Nat.le_of_ble_eq_true rfl, Nat.le_of_ble_eq_true rfl⟩ ⟨rfl, rfl⟩ hC hS hl.1 rfl (Nat.le_of_ble_eq_true rfl) ⟨Nat.le_of_ble_eq_true rfl, Nat.le_of_ble_eq_true rfl⟩ d_Tw_multiply_106 ?_
            refine lv_if_ne (tgt := 121) hx hb d_Tw_multiply_109 (by decide) (fun h6 => ?_) (fun h6 => ?_)
            · refine lv_lconst (v := 0) hx hb d_Tw_multiply_121 (by decide) ?_
              refine lv_iload hx hb d_Tw_multiply_122 (lv_at hl 0 rfl) ?_
              refine lv_iload hx hb d_Tw_multiply_124 (lv_at hl 3 rfl) ?_
              refine nb_callSl (As := [.long (0 : Int64), .int k0, .int (nI f)]) (rest := []) hx hb hml hown hts (c_Tw_signed l ad (0 : Int64) k0 f h_f) nb_t302 nb_t303 nb_t2 nb_t304 hd_Tw_signed rfl ⟨Nat.le_of_ble_eq_true rfl, Nat.le_of_ble_eq_true rfl⟩ ⟨rfl, rfl⟩ hC hS hl.1 rfl (Nat.le_of_ble_eq_true rfl) ⟨Nat.le_of_ble_eq_true rfl, Nat.le_of_ble_eq_true rfl⟩ d_Tw_multiply_126 ?_
              exact W.lret hx hb hr (fun t ht hW => ⟨_, rfl, (by rw [hE, mf_Tw_multiply_b20, if_pos h2, if_pos h3, if_pos h4, if_pos h5, if_neg h6]), ht⟩) t_nil d_Tw_multiply_129
            · refine lv_lload_n hx hb d_Tw_multiply_112 rfl (lv_at hl 2 rfl) ?_
              refine lv_iload hx hb d_Tw_multiply_113 (lv_at hl 3 rfl) ?_
              refine nb_callSi (As := [.long b, .int (nI f)]) (rest := []) hx hb hml hown hts (c_Tw_isZero l ad b f h_f) nb_t329 nb_t330 nb_t2 nb_t331 hd_Tw_isZero rfl ⟨Nat.le_of_ble_eq_true rfl, Nat.le_of_ble_eq_true rfl⟩ ⟨rfl, rfl⟩ hC hS hl.1 rfl (Nat.le_of_ble_eq_true rfl) ⟨Nat.le_of_ble_eq_true rfl, Nat.le_of_ble_eq_true rfl⟩ d_Tw_multiply_115 ?_
              refine lv_if_eq (tgt := 130) hx hb d_Tw_multiply_118 (by decide) (fun h7 => ?_) (fun h7 => ?_)
              · refine lv_lload_n hx hb d_Tw_multiply_130 rfl (lv_at hl 1 rfl) ?_
                refine lv_iload hx hb d_Tw_multiply_131 (lv_at hl 3 rfl) ?_
                refine nb_callSl (As := [.long a, .int (nI f)]) (rest := []) hx hb hml hown hts (c_Tw_whole l ad a f h_f) nb_t305 nb_t306 nb_t2 nb_t307 hd_Tw_whole rfl ⟨Nat.le_of_ble_eq_true rfl, Nat.le_of_ble_eq_true rfl⟩ ⟨rfl, rfl⟩ hC hS hl.1 rfl (Nat.le_of_ble_eq_true rfl) ⟨Nat.le_of_ble_eq_true rfl, Nat.le_of_ble_eq_true rfl⟩ d_Tw_multiply_133 ?_
                refine lv_lstore hx hb d_Tw_multiply_136 hl (by decide) rfl (fun ls hl => ?_)
                have hl : lv_has ls 25 [(6, .long (mf_Tw_whole a f)), (5, .int k0), (0, .long a), (2, .long b), (4, .int (nI f))] := hl
                refine lv_lload_n hx hb d_Tw_multiply_138 rfl (lv_at hl 3 rfl) ?_
                refine lv_iload hx hb d_Tw_multiply_139 (lv_at hl 4 rfl) ?_
                refine nb_callSl (As := [.long b, .int (nI f)]) (rest := []) hx hb hml hown hts (c_Tw_whole l ad b f h_f) nb_t305 nb_t306 nb_t2 nb_t307 hd_Tw_whole rfl ⟨Nat.le_of_ble_eq_true rfl, Nat.le_of_ble_eq_true rfl⟩ ⟨rfl, rfl⟩ hC hS hl.1 rfl (Nat.le_of_ble_eq_true rfl) ⟨Nat.le_of_ble_eq_true rfl, Nat.le_of_ble_eq_true rfl⟩ d_Tw_multiply_141 ?_
                refine lv_lstore hx hb d_Tw_multiply_144 hl (by decide) rfl (fun ls hl => ?_)
                have hl : lv_has ls 25 [(8, .long (mf_Tw_whole b f)), (6, .long (mf_Tw_whole a f)), (5, .int k0), (0, .long a), (2, .long b), (4, .int (nI f))] := hl
                refine lv_lload_n hx hb d_Tw_multiply_146 rfl (lv_at hl 3 rfl) ?_
                refine lv_iload hx hb d_Tw_multiply_147 (lv_at hl 5 rfl) ?_
                refine nb_callSi (As := [.long a, .int (nI f)]) (rest := []) hx hb hml hown hts (c_Tw_power l ad a f h_f) nb_t310 nb_t311 nb_t2 nb_t312 hd_Tw_power rfl ⟨Nat.le_of_ble_eq_true rfl, Nat.le_of_ble_eq_true rfl⟩ ⟨rfl, rfl⟩ hC hS hl.1 rfl (Nat.le_of_ble_eq_true rfl) ⟨Nat.le_of_ble_eq_true rfl, Nat.le_of_ble_eq_true rfl⟩ d_Tw_multiply_149 ?_
                refine lv_lload_n hx hb d_Tw_multiply_152 rfl (lv_at hl 4 rfl) ?_
                refine lv_iload hx hb d_Tw_multiply_153 (lv_at hl 5 rfl) ?_
                refine nb_callSi (As := [.long b, .int (nI f)]) (rest := [.int (mf_Tw_power a f)]) hx hb hml hown hts (c_Tw_power l ad b f h_f) nb_t310 nb_t311 nb_t2 nb_t312 hd_Tw_power rfl ⟨Nat.le_of_ble_eq_true rfl, Nat.le_of_ble_eq_true rfl⟩ ⟨rfl, rfl⟩ hC hS hl.1 rfl (Nat.le_of_ble_eq_true rfl) ⟨Nat.le_of_ble_eq_true rfl, Nat.le_of_ble_eq_true rfl⟩ d_Tw_multiply_155 ?_
                refine lv_iadd hx hb d_Tw_multiply_158 ?_
                refine lv_lload hx hb d_Tw_multiply_159 (lv_at hl 1 rfl) ?_
                refine lv_iload hx hb d_Tw_multiply_161 (lv_at hl 5 rfl) ?_
                refine nb_callSi (As := [.long (mf_Tw_whole a f), .int (nI f)]) (rest := [.int ((mf_Tw_power a f) + (mf_Tw_power b f))]) hx hb hml hown hts (c_Tw_moved l ad (mf_Tw_whole a f) f h_f) nb_t341 nb_t342 nb_t2 nb_t343 hd_Tw_moved rfl ⟨Nat.le_of_ble_eq_true rfl, Nat.le_of_ble_eq_true rfl⟩ ⟨rfl, rfl⟩ hC hS hl.1 rfl (Nat.le_of_ble_eq_true rfl) ⟨Nat.le_of_ble_eq_true rfl, Nat.le_of_ble_eq_true rfl⟩ d_Tw_multiply_163 ?_
                refine lv_isub hx hb d_Tw_multiply_166 ?_
                refine lv_lload hx hb d_Tw_multiply_167 (lv_at hl 0 rfl) ?_
                refine lv_iload hx hb d_Tw_multiply_169 (lv_at hl 5 rfl) ?_
                refine nb_callSi (As := [.long (mf_Tw_whole b f), .int (nI f)]) (rest := [.int (((mf_Tw_power a f) + (mf_Tw_power b f)) - (mf_Tw_moved (mf_Tw_whole a f) f))]) hx hb hml hown hts (c_Tw_moved l ad (mf_Tw_whole b f) f h_f) nb_t341 nb_t342 nb_t2 nb_t343 hd_Tw_moved rfl ⟨Nat.le_of_ble_eq_true rfl, Nat.le_of_ble_eq_true rfl⟩ ⟨rfl, rfl⟩ hC hS hl.1 rfl (Nat.le_of_ble_eq_true rfl) ⟨Nat.le_of_ble_eq_true rfl, Nat.le_of_ble_eq_true rfl⟩ d_Tw_multiply_171 ?_
                refine lv_isub hx hb d_Tw_multiply_174 ?_
                refine lv_topi (fun v8 ev8 => ?_)
                refine lv_istore hx hb d_Tw_multiply_175 hl (by decide) rfl (fun ls hl => ?_)
                have hl : lv_has ls 25 [(10, .int v8), (8, .long (mf_Tw_whole b f)), (6, .long (mf_Tw_whole a f)), (5, .int k0), (0, .long a), (2, .long b), (4, .int (nI f))] := hl
                refine lv_lload hx hb d_Tw_multiply_177 (lv_at hl 2 rfl) ?_
                refine lv_lload hx hb d_Tw_multiply_179 (lv_at hl 2 rfl) ?_
                refine lv_iload hx hb d_Tw_multiply_181 (lv_at hl 6 rfl) ?_
                refine nb_callSi (As := [.long (mf_Tw_whole a f), .int (nI f)]) (rest := [.long (mf_Tw_whole a f)]) hx hb hml hown hts (c_Tw_moved l ad (mf_Tw_whole a f) f h_f) nb_t341 nb_t342 nb_t2 nb_t343 hd_Tw_moved rfl ⟨Nat.le_of_ble_eq_true rfl, Nat.le_of_ble_eq_true rfl⟩ ⟨rfl, rfl⟩ hC hS hl.1 rfl (Nat.le_of_ble_eq_true rfl) ⟨Nat.le_of_ble_eq_true rfl, Nat.le_of_ble_eq_true rfl⟩ d_Tw_multiply_183 ?_
                refine lv_lshl hx hb d_Tw_multiply_186 rfl ?_
                refine lv_topl (fun v9 ev9 => ?_)
                refine lv_lstore hx hb d_Tw_multiply_187 hl (by decide) rfl (fun ls hl => ?_)
                have hl : lv_has ls 25 [(6, .long v9), (10, .int v8), (8, .long (mf_Tw_whole b f)), (5, .int k0), (0, .long a), (2, .long b), (4, .int (nI f))] := hl
                refine lv_lload hx hb d_Tw_multiply_189 (lv_at hl 2 rfl) ?_
                refine lv_lload hx hb d_Tw_multiply_191 (lv_at hl 2 rfl) ?_
                refine lv_iload hx hb d_Tw_multiply_193 (lv_at hl 6 rfl) ?_
                refine nb_callSi (As := [.long (mf_Tw_whole b f), .int (nI f)]) (rest := [.long (mf_Tw_whole b f)]) hx hb hml hown hts (c_Tw_moved l ad (mf_Tw_whole b f) f h_f) nb_t341 nb_t342 nb_t2 nb_t343 hd_Tw_moved rfl ⟨Nat.le_of_ble_eq_true rfl, Nat.le_of_ble_eq_true rfl⟩ ⟨rfl, rfl⟩ hC hS hl.1 rfl (Nat.le_of_ble_eq_true rfl) ⟨Nat.le_of_ble_eq_true rfl, Nat.le_of_ble_eq_true rfl⟩ d_Tw_multiply_195 ?_
                refine lv_lshl hx hb d_Tw_multiply_198 rfl ?_
                refine lv_topl (fun v10 ev10 => ?_)
                refine lv_lstore hx hb d_Tw_multiply_199 hl (by decide) rfl (fun ls hl => ?_)
                have hl : lv_has ls 25 [(8, .long v10), (6, .long v9), (10, .int v8), (5, .int k0), (0, .long a), (2, .long b), (4, .int (nI f))] := hl
                refine lv_iload hx hb d_Tw_multiply_201 (lv_at hl 6 rfl) ?_
                refine lv_iconst (v := 1) hx hb d_Tw_multiply_203 (by decide) ?_
                refine lv_icmp_ne (tgt := 222) hx hb d_Tw_multiply_204 (by decide) (fun h11 => ?_) (fun h11 => ?_)
                · refine lv_lload hx hb d_Tw_multiply_222 (lv_at hl 1 rfl) ?_
                  refine lv_bipush (v := 27) hx hb d_Tw_multiply_224 (by decide) ?_
                  refine lv_lshr hx hb d_Tw_multiply_226 rfl ?_
                  refine lv_lstore hx hb d_Tw_multiply_227 hl (by decide) rfl (fun ls hl => ?_)
                  have hl : lv_has ls 25 [(11, .long (v9 >>> ((27 : Int32).toInt64 &&& 63))), (8, .long v10), (6, .long v9), (10, .int v8), (5, .int k0), (0, .long a), (2, .long b), (4, .int (nI f))] := hl
                  refine lv_lload hx hb d_Tw_multiply_229 (lv_at hl 2 rfl) ?_
                  refine lv_ldc2 (v := (134217727 : Int64)) hx hb hown (hts (.constantLong "NumberBenchModel" 93 (134217727 : Int64)) (nb_c nb_t344)) d_Tw_multiply_231 ?_
                  refine lv_land hx hb d_Tw_multiply_234 ?_
                  refine lv_lstore hx hb d_Tw_multiply_235 hl (by decide) rfl (fun ls hl => ?_)
                  have hl : lv_has ls 25 [(13, .long (v9 &&& (134217727 : Int64))), (11, .long (v9 >>> ((27 : Int32).toInt64 &&& 63))), (8, .long v10), (6, .long v9), (10, .int v8), (5, .int k0), (0, .long a), (2, .long b), (4, .int (nI f))] := hl
                  refine lv_lload hx hb d_Tw_multiply_237 (lv_at hl 2 rfl) ?_
                  refine lv_bipush (v := 27) hx hb d_Tw_multiply_239 (by decide) ?_
                  refine lv_lshr hx hb d_Tw_multiply_241 rfl ?_
                  refine lv_lstore hx hb d_Tw_multiply_242 hl (by decide) rfl (fun ls hl => ?_)
                  have hl : lv_has ls 25 [(15, .long (v10 >>> ((27 : Int32).toInt64 &&& 63))), (13, .long (v9 &&& (134217727 : Int64))), (11, .long (v9 >>> ((27 : Int32).toInt64 &&& 63))), (8, .long v10), (6, .long v9), (10, .int v8), (5, .int k0), (0, .long a), (2, .long b), (4, .int (nI f))] := hl
                  refine lv_lload hx hb d_Tw_multiply_244 (lv_at hl 3 rfl) ?_
                  refine lv_ldc2 (v := (134217727 : Int64)) hx hb hown (hts (.constantLong "NumberBenchModel" 93 (134217727 : Int64)) (nb_c nb_t344)) d_Tw_multiply_246 ?_
                  refine lv_land hx hb d_Tw_multiply_249 ?_
                  refine lv_lstore hx hb d_Tw_multiply_250 hl (by decide) rfl (fun ls hl => ?_)
                  have hl : lv_has ls 25 [(17, .long (v10 &&& (134217727 : Int64))), (15, .long (v10 >>> ((27 : Int32).toInt64 &&& 63))), (13, .long (v9 &&& (134217727 : Int64))), (11, .long (v9 >>> ((27 : Int32).toInt64 &&& 63))), (8, .long v10), (6, .long v9), (10, .int v8), (5, .int k0), (0, .long a), (2, .long b), (4, .int (nI f))] := hl
                  refine lv_lload hx hb d_Tw_multiply_252 (lv_at hl 3 rfl) ?_
                  refine lv_lload hx hb d_Tw_multiply_254 (lv_at hl 0 rfl) ?_
                  refine lv_lmul hx hb d_Tw_multiply_256 ?_
                  refine lv_lload hx hb d_Tw_multiply_257 (lv_at hl 2 rfl) ?_
                  refine lv_lload hx hb d_Tw_multiply_259 (lv_at hl 1 rfl) ?_
                  refine lv_lmul hx hb d_Tw_multiply_261 ?_
                  refine lv_ladd hx hb d_Tw_multiply_262 ?_
                  refine lv_topl (fun v12 ev12 => ?_)
                  refine lv_lstore hx hb d_Tw_multiply_263 hl (by decide) rfl (fun ls hl => ?_)
                  have hl : lv_has ls 25 [(19, .long v12), (17, .long (v10 &&& (134217727 : Int64))), (15, .long (v10 >>> ((27 : Int32).toInt64 &&& 63))), (13, .long (v9 &&& (134217727 : Int64))), (11, .long (v9 >>> ((27 : Int32).toInt64 &&& 63))), (8, .long v10), (6, .long v9), (10, .int v8), (5, .int k0), (0, .long a), (2, .long b), (4, .int (nI f))] := hl
                  refine lv_lload hx hb d_Tw_multiply_265 (lv_at hl 3 rfl) ?_
                  refine lv_lload hx hb d_Tw_multiply_267 (lv_at hl 1 rfl) ?_
                  refine lv_lmul hx hb d_Tw_multiply_269 ?_
                  refine lv_lload hx hb d_Tw_multiply_270 (lv_at hl 0 rfl) ?_
                  refine lv_ldc2 (v := (134217727 : Int64)) hx hb hown (hts (.constantLong "NumberBenchModel" 93 (134217727 : Int64)) (nb_c nb_t344)) d_Tw_multiply_272 ?_
                  refine lv_land hx hb d_Tw_multiply_275 ?_
                  refine lv_bipush (v := 27) hx hb d_Tw_multiply_276 (by decide) ?_
                  refine lv_lshl hx hb d_Tw_multiply_278 rfl ?_
                  refine lv_ladd hx hb d_Tw_multiply_279 ?_
                  refine lv_topl (fun v13 ev13 => ?_)
                  refine lv_lstore hx hb d_Tw_multiply_280 hl (by decide) rfl (fun ls hl => ?_)
                  have hl : lv_has ls 25 [(21, .long v13), (19, .long v12), (17, .long (v10 &&& (134217727 : Int64))), (15, .long (v10 >>> ((27 : Int32).toInt64 &&& 63))), (13, .long (v9 &&& (134217727 : Int64))), (11, .long (v9 >>> ((27 : Int32).toInt64 &&& 63))), (8, .long v10), (6, .long v9), (10, .int v8), (5, .int k0), (0, .long a), (2, .long b), (4, .int (nI f))] := hl
                  refine lv_lload hx hb d_Tw_multiply_282 (lv_at hl 5 rfl) ?_
                  refine lv_lload hx hb d_Tw_multiply_284 (lv_at hl 3 rfl) ?_
                  refine lv_lmul hx hb d_Tw_multiply_286 ?_
                  refine lv_lload hx hb d_Tw_multiply_287 (lv_at hl 1 rfl) ?_
                  refine lv_bipush (v := 27) hx hb d_Tw_multiply_289 (by decide) ?_
                  refine lv_lshr hx hb d_Tw_multiply_291 rfl ?_
                  refine lv_ladd hx hb d_Tw_multiply_292 ?_
                  refine lv_lload hx hb d_Tw_multiply_293 (lv_at hl 0 rfl) ?_
                  refine lv_bipush (v := 54) hx hb d_Tw_multiply_295 (by decide) ?_
                  refine lv_lshr hx hb d_Tw_multiply_297 rfl ?_
                  refine lv_ladd hx hb d_Tw_multiply_298 ?_
                  refine lv_topl (fun v14 ev14 => ?_)
                  refine lv_lstore hx hb d_Tw_multiply_299 hl (by decide) rfl (fun ls hl => ?_)
                  have hl : lv_has ls 25 [(23, .long v14), (21, .long v13), (19, .long v12), (17, .long (v10 &&& (134217727 : Int64))), (15, .long (v10 >>> ((27 : Int32).toInt64 &&& 63))), (13, .long (v9 &&& (134217727 : Int64))), (11, .long (v9 >>> ((27 : Int32).toInt64 &&& 63))), (8, .long v10), (6, .long v9), (10, .int v8), (5, .int k0), (0, .long a), (2, .long b), (4, .int (nI f))] := hl
                  refine lv_lload hx hb d_Tw_multiply_301 (lv_at hl 1 rfl) ?_
                  refine lv_ldc2 (v := (18014398509481983 : Int64)) hx hb hown (hts (.constantLong "NumberBenchModel" 95 (18014398509481983 : Int64)) (nb_c nb_t345)) d_Tw_multiply_303 ?_
                  refine lv_land hx hb d_Tw_multiply_306 ?_
                  refine lv_lstore hx hb d_Tw_multiply_307 hl (by decide) rfl (fun ls hl => ?_)
                  have hl : lv_has ls 25 [(21, .long (v13 &&& (18014398509481983 : Int64))), (23, .long v14), (19, .long v12), (17, .long (v10 &&& (134217727 : Int64))), (15, .long (v10 >>> ((27 : Int32).toInt64 &&& 63))), (13, .long (v9 &&& (134217727 : Int64))), (11, .long (v9 >>> ((27 : Int32).toInt64 &&& 63))), (8, .long v10), (6, .long v9), (10, .int v8), (5, .int k0), (0, .long a), (2, .long b), (4, .int (nI f))] := hl
                  refine lv_iload hx hb d_Tw_multiply_309 (lv_at hl 10 rfl) ?_
                  refine lv_lload hx hb d_Tw_multiply_311 (lv_at hl 1 rfl) ?_
                  refine lv_bipush (v := 8) hx hb d_Tw_multiply_313 (by decide) ?_
                  refine lv_lshl hx hb d_Tw_multiply_315 rfl ?_
                  refine lv_lload hx hb d_Tw_multiply_316 (lv_at hl 0 rfl) ?_
                  refine lv_bipush (v := 46) hx hb d_Tw_multiply_318 (by decide) ?_
                  refine lv_lshr hx hb d_Tw_multiply_320 rfl ?_
                  refine lv_lor hx hb d_Tw_multiply_321 ?_
                  refine lv_iload hx hb d_Tw_multiply_322 (lv_at hl 9 rfl) ?_
                  refine lv_bipush (v := 46) hx hb d_Tw_multiply_324 (by decide) ?_
                  refine lv_iadd hx hb d_Tw_multiply_326 ?_
                  refine lv_lload hx hb d_Tw_multiply_327 (lv_at hl 0 rfl) ?_
                  refine lv_ldc2 (v := (70368744177663 : Int64)) hx hb hown (hts (.constantLong "NumberBenchModel" 97 (70368744177663 : Int64)) (nb_c nb_t346)) d_Tw_multiply_329 ?_
                  refine lv_land hx hb d_Tw_multiply_332 ?_
                  refine lv_lconst (v := 0) hx hb d_Tw_multiply_333 (by decide) ?_
                  refine nb_lc_eq (tgt := 342) hx hb d_Tw_multiply_334 d_Tw_multiply_335 (by decide) (fun h15 => ?_) (fun h15 => ?_)
                  · refine lv_iconst (v := 0) hx hb d_Tw_multiply_342 (by decide) ?_
                    refine lv_iload hx hb d_Tw_multiply_343 (lv_at hl 13 rfl) ?_
                    refine nb_callSl (As := [.int k0, .long ((v14 <<< ((8 : Int32).toInt64 &&& 63)) ||| ((v13 &&& (18014398509481983 : Int64)) >>> ((46 : Int32).toInt64 &&& 63))), .int (v8 + (46 : Int32)), .int (0 : Int32), .int (nI f)]) (rest := []) hx hb hml hown hts (c_Tw_rounded l ad k0 ((v14 <<< ((8 : Int32).toInt64 &&& 63)) ||| ((v13 &&& (18014398509481983 : Int64)) >>> ((46 : Int32).toInt64 &&& 63))) (v8 + (46 : Int32)) (0 : Int32) f h_f) nb_t319 nb_t320 nb_t2 nb_t321 hd_Tw_rounded rfl ⟨Nat.le_of_ble_eq_true rfl, Nat.le_of_ble_eq_true rfl⟩ ⟨rfl, rfl⟩ hC hS hl.1 rfl (Nat.le_of_ble_eq_true rfl) ⟨Nat.le_of_ble_eq_true rfl, Nat.le_of_ble_eq_true rfl⟩ d_Tw_multiply_345 ?_
                    exact W.lret hx hb hr (fun t ht hW => ⟨_, rfl, (by subst ev14; subst ev13; subst ev12; subst ev10; subst ev9; subst ev8; rw [hE, mf_Tw_multiply_b20, if_pos h2, if_pos h3, if_pos h4, if_pos h5, if_pos h6, if_pos h7, if_neg h11, if_pos h15]), ht⟩) t_nil d_Tw_multiply_348
                  · refine lv_iconst (v := 1) hx hb d_Tw_multiply_338 (by decide) ?_
                    refine lv_goto (tgt := 343) hx hb d_Tw_multiply_339 (by decide) ?_
                    refine lv_iload hx hb d_Tw_multiply_343 (lv_at hl 13 rfl) ?_
                    refine nb_callSl (As := [.int k0, .long ((v14 <<< ((8 : Int32).toInt64 &&& 63)) ||| ((v13 &&& (18014398509481983 : Int64)) >>> ((46 : Int32).toInt64 &&& 63))), .int (v8 + (46 : Int32)), .int (1 : Int32), .int (nI f)]) (rest := []) hx hb hml hown hts (c_Tw_rounded l ad k0 ((v14 <<< ((8 : Int32).toInt64 &&& 63)) ||| ((v13 &&& (18014398509481983 : Int64)) >>> ((46 : Int32).toInt64 &&& 63))) (v8 + (46 : Int32)) (1 : Int32) f h_f) nb_t319 nb_t320 nb_t2 nb_t321 hd_Tw_rounded rfl ⟨Nat.le_of_ble_eq_true rfl, Nat.le_of_ble_eq_true rfl⟩ ⟨rfl, rfl⟩ hC hS hl.1 rfl (Nat.le_of_ble_eq_true rfl) ⟨Nat.le_of_ble_eq_true rfl, Nat.le_of_ble_eq_true rfl⟩ d_Tw_multiply_345 ?_
                    exact W.lret hx hb hr (fun t ht hW => ⟨_, rfl, (by subst ev14; subst ev13; subst ev12; subst ev10; subst ev9; subst ev8; rw [hE, mf_Tw_multiply_b20, if_pos h2, if_pos h3, if_pos h4, if_pos h5, if_pos h6, if_pos h7, if_neg h11, if_neg h15]), ht⟩) t_nil d_Tw_multiply_348
                · refine lv_iload hx hb d_Tw_multiply_207 (lv_at hl 3 rfl) ?_
                  refine lv_lload hx hb d_Tw_multiply_209 (lv_at hl 1 rfl) ?_
                  refine lv_lload hx hb d_Tw_multiply_211 (lv_at hl 0 rfl) ?_
                  refine lv_lmul hx hb d_Tw_multiply_213 ?_
                  refine lv_iload hx hb d_Tw_multiply_214 (lv_at hl 2 rfl) ?_
                  refine lv_iload hx hb d_Tw_multiply_216 (lv_at hl 6 rfl) ?_
                  refine nb_callSl (As := [.int k0, .long (v9 * v10), .int v8, .int (nI f)]) (rest := []) hx hb hml hown hts (c_Tw_exact l ad k0 (v9 * v10) v8 f h_f) nb_t316 nb_t317 nb_t2 nb_t318 hd_Tw_exact rfl ⟨Nat.le_of_ble_eq_true rfl, Nat.le_of_ble_eq_true rfl⟩ ⟨rfl, rfl⟩ hC hS hl.1 rfl (Nat.le_of_ble_eq_true rfl) ⟨Nat.le_of_ble_eq_true rfl, Nat.le_of_ble_eq_true rfl⟩ d_Tw_multiply_218 ?_
                  exact W.lret hx hb hr (fun t ht hW => ⟨_, rfl, (by subst ev10; subst ev9; subst ev8; rw [hE, mf_Tw_multiply_b20, if_pos h2, if_pos h3, if_pos h4, if_pos h5, if_pos h6, if_pos h7, if_pos h11]), ht⟩) t_nil d_Tw_multiply_221
              · refine lv_lconst (v := 0) hx hb d_Tw_multiply_121 (by decide) ?_
                refine lv_iload hx hb d_Tw_multiply_122 (lv_at hl 0 rfl) ?_
                refine lv_iload hx hb d_Tw_multiply_124 (lv_at hl 3 rfl) ?_
                refine nb_callSl (As := [.long (0 : Int64), .int k0, .int (nI f)]) (rest := []) hx hb hml hown hts (c_Tw_signed l ad (0 : Int64) k0 f h_f) nb_t302 nb_t303 nb_t2 nb_t304 hd_Tw_signed rfl ⟨Nat.le_of_ble_eq_true rfl, Nat.le_of_ble_eq_true rfl⟩ ⟨rfl, rfl⟩ hC hS hl.1 rfl (Nat.le_of_ble_eq_true rfl) ⟨Nat.le_of_ble_eq_true rfl, Nat.le_of_ble_eq_true rfl⟩ d_Tw_multiply_126 ?_
                exact W.lret hx hb hr (fun t ht hW => ⟨_, rfl, (by rw [hE, mf_Tw_multiply_b20, if_pos h2, if_pos h3, if_pos h4, if_pos h5, if_pos h6, if_neg h7]), ht⟩) t_nil d_Tw_multiply_129
          · exact b64 k0 ls (lv_sub hl [1, 2, 3, 0] rfl)  (by rw [hE, mf_Tw_multiply_b20, if_pos h2, if_pos h3, if_pos h4, if_neg h5])
      · refine lv_iload hx hb d_Tw_multiply_40 (lv_at hl 3 rfl) ?_
        refine nb_callSl (As := [.int (nI f)]) (rest := []) hx hb hml hown hts (c_Tw_none l ad f h_f) nb_t291 nb_t292 nb_t2 nb_t293 hd_Tw_none rfl ⟨Nat.le_of_ble_eq_true rfl, Nat.le_of_ble_eq_true rfl⟩ ⟨rfl, rfl⟩ hC hS hl.1 rfl (Nat.le_of_ble_eq_true rfl) ⟨Nat.le_of_ble_eq_true rfl, Nat.le_of_ble_eq_true rfl⟩ d_Tw_multiply_42 ?_
        exact W.lret hx hb hr (fun t ht hW => ⟨_, rfl, (by rw [hE, mf_Tw_multiply_b20, if_pos h2, if_neg h3]), ht⟩) t_nil d_Tw_multiply_45
  refine lv_lload_n hx hb d_Tw_multiply_0 rfl (lv_at hl 0 rfl) ?_
  refine lv_iload hx hb d_Tw_multiply_1 (lv_at hl 2 rfl) ?_
  refine nb_callSi (As := [.long a, .int (nI f)]) (rest := []) hx hb hml hown hts (c_Tw_minus l ad a f h_f) nb_t299 nb_t300 nb_t2 nb_t301 hd_Tw_minus rfl ⟨Nat.le_of_ble_eq_true rfl, Nat.le_of_ble_eq_true rfl⟩ ⟨rfl, rfl⟩ hC hS hl.1 rfl (Nat.le_of_ble_eq_true rfl) ⟨Nat.le_of_ble_eq_true rfl, Nat.le_of_ble_eq_true rfl⟩ d_Tw_multiply_3 ?_
  refine lv_lload_n hx hb d_Tw_multiply_6 rfl (lv_at hl 1 rfl) ?_
  refine lv_iload hx hb d_Tw_multiply_7 (lv_at hl 2 rfl) ?_
  refine nb_callSi (As := [.long b, .int (nI f)]) (rest := [.int (mf_Tw_minus a f)]) hx hb hml hown hts (c_Tw_minus l ad b f h_f) nb_t299 nb_t300 nb_t2 nb_t301 hd_Tw_minus rfl ⟨Nat.le_of_ble_eq_true rfl, Nat.le_of_ble_eq_true rfl⟩ ⟨rfl, rfl⟩ hC hS hl.1 rfl (Nat.le_of_ble_eq_true rfl) ⟨Nat.le_of_ble_eq_true rfl, Nat.le_of_ble_eq_true rfl⟩ d_Tw_multiply_9 ?_
  refine lv_icmp_eq (tgt := 19) hx hb d_Tw_multiply_12 (by decide) (fun h1 => ?_) (fun h1 => ?_)
  · refine lv_iconst (v := 0) hx hb d_Tw_multiply_19 (by decide) ?_
    exact b20 (0 : Int32) ls (lv_sub hl [0, 1, 2] rfl)  (by rw [mf_Tw_multiply, if_pos h1])
  · refine lv_iconst (v := 1) hx hb d_Tw_multiply_15 (by decide) ?_
    refine lv_goto (tgt := 20) hx hb d_Tw_multiply_16 (by decide) ?_
    exact b20 (1 : Int32) ls (lv_sub hl [0, 1, 2] rfl)  (by rw [mf_Tw_multiply, if_neg h1])
def y_Tw_divide : MethodName := ⟨"NumberBenchModel", "divide", "(JJI)J"⟩
abbrev w_Tw_divide : List Cond := Cond.code y_Tw_divide prog_4_method_19_code 16 (Option.some FieldType.long) :: nb_tb
theorem hd_Tw_divide : y_Tw_divide.cls ≠ "java/lang/invoke/MethodHandle" ∧ y_Tw_divide.cls ≠ "java/lang/invoke/VarHandle" ∧ (parseMethodDescriptor y_Tw_divide.desc).map (fun d => d.parameters.length) = some 3 := by decide +kernel
theorem d_Tw_divide_0 : decode prog_4_method_19_code 0 = .ok (.lload_n 0, 1) := by decide +kernel
theorem d_Tw_divide_1 : decode prog_4_method_19_code 1 = .ok (.iload 4, 2) := by decide +kernel
theorem d_Tw_divide_3 : decode prog_4_method_19_code 3 = .ok (.invokestatic 76, 3) := by decide +kernel
theorem d_Tw_divide_6 : decode prog_4_method_19_code 6 = .ok (.lload_n 2, 1) := by decide +kernel
theorem d_Tw_divide_7 : decode prog_4_method_19_code 7 = .ok (.iload 4, 2) := by decide +kernel
theorem d_Tw_divide_9 : decode prog_4_method_19_code 9 = .ok (.invokestatic 76, 3) := by decide +kernel
theorem d_Tw_divide_12 : decode prog_4_method_19_code 12 = .ok (.if_icmp .eq 7, 3) := by decide +kernel
theorem d_Tw_divide_15 : decode prog_4_method_19_code 15 = .ok (.iconst 1, 1) := by decide +kernel
theorem d_Tw_divide_16 : decode prog_4_method_19_code 16 = .ok (.goto 4, 3) := by decide +kernel
theorem d_Tw_divide_19 : decode prog_4_method_19_code 19 = .ok (.iconst 0, 1) := by decide +kernel
theorem d_Tw_divide_20 : decode prog_4_method_19_code 20 = .ok (.istore 5, 2) := by decide +kernel
theorem d_Tw_divide_22 : decode prog_4_method_19_code 22 = .ok (.lload_n 0, 1) := by decide +kernel
theorem d_Tw_divide_23 : decode prog_4_method_19_code 23 = .ok (.iload 4, 2) := by decide +kernel
theorem d_Tw_divide_25 : decode prog_4_method_19_code 25 = .ok (.invokestatic 56, 3) := by decide +kernel
theorem d_Tw_divide_28 : decode prog_4_method_19_code 28 = .ok (.ifCond .ne 12, 3) := by decide +kernel
theorem d_Tw_divide_31 : decode prog_4_method_19_code 31 = .ok (.lload_n 2, 1) := by decide +kernel
theorem d_Tw_divide_32 : decode prog_4_method_19_code 32 = .ok (.iload 4, 2) := by decide +kernel
theorem d_Tw_divide_34 : decode prog_4_method_19_code 34 = .ok (.invokestatic 56, 3) := by decide +kernel
theorem d_Tw_divide_37 : decode prog_4_method_19_code 37 = .ok (.ifCond .eq 9, 3) := by decide +kernel
theorem d_Tw_divide_40 : decode prog_4_method_19_code 40 = .ok (.iload 4, 2) := by decide +kernel
theorem d_Tw_divide_42 : decode prog_4_method_19_code 42 = .ok (.invokestatic 60, 3) := by decide +kernel
theorem d_Tw_divide_45 : decode prog_4_method_19_code 45 = .ok (.lreturn, 1) := by decide +kernel
theorem d_Tw_divide_46 : decode prog_4_method_19_code 46 = .ok (.lload_n 0, 1) := by decide +kernel
theorem d_Tw_divide_47 : decode prog_4_method_19_code 47 = .ok (.iload 4, 2) := by decide +kernel
theorem d_Tw_divide_49 : decode prog_4_method_19_code 49 = .ok (.invokestatic 63, 3) := by decide +kernel
theorem d_Tw_divide_52 : decode prog_4_method_19_code 52 = .ok (.ifCond .eq 33, 3) := by decide +kernel
theorem d_Tw_divide_55 : decode prog_4_method_19_code 55 = .ok (.lload_n 2, 1) := by decide +kernel
theorem d_Tw_divide_56 : decode prog_4_method_19_code 56 = .ok (.iload 4, 2) := by decide +kernel
theorem d_Tw_divide_58 : decode prog_4_method_19_code 58 = .ok (.invokestatic 63, 3) := by decide +kernel
theorem d_Tw_divide_61 : decode prog_4_method_19_code 61 = .ok (.ifCond .eq 11, 3) := by decide +kernel
theorem d_Tw_divide_64 : decode prog_4_method_19_code 64 = .ok (.iload 4, 2) := by decide +kernel
theorem d_Tw_divide_66 : decode prog_4_method_19_code 66 = .ok (.invokestatic 60, 3) := by decide +kernel
theorem d_Tw_divide_69 : decode prog_4_method_19_code 69 = .ok (.goto 15, 3) := by decide +kernel
theorem d_Tw_divide_72 : decode prog_4_method_19_code 72 = .ok (.iload 4, 2) := by decide +kernel
theorem d_Tw_divide_74 : decode prog_4_method_19_code 74 = .ok (.invokestatic 19, 3) := by decide +kernel
theorem d_Tw_divide_77 : decode prog_4_method_19_code 77 = .ok (.iload 5, 2) := by decide +kernel
theorem d_Tw_divide_79 : decode prog_4_method_19_code 79 = .ok (.iload 4, 2) := by decide +kernel
theorem d_Tw_divide_81 : decode prog_4_method_19_code 81 = .ok (.invokestatic 36, 3) := by decide +kernel
theorem d_Tw_divide_84 : decode prog_4_method_19_code 84 = .ok (.lreturn, 1) := by decide +kernel
theorem d_Tw_divide_85 : decode prog_4_method_19_code 85 = .ok (.lload_n 2, 1) := by decide +kernel
theorem d_Tw_divide_86 : decode prog_4_method_19_code 86 = .ok (.iload 4, 2) := by decide +kernel
theorem d_Tw_divide_88 : decode prog_4_method_19_code 88 = .ok (.invokestatic 63, 3) := by decide +kernel
theorem d_Tw_divide_91 : decode prog_4_method_19_code 91 = .ok (.ifCond .eq 12, 3) := by decide +kernel
theorem d_Tw_divide_94 : decode prog_4_method_19_code 94 = .ok (.lconst 0, 1) := by decide +kernel
theorem d_Tw_divide_95 : decode prog_4_method_19_code 95 = .ok (.iload 5, 2) := by decide +kernel
theorem d_Tw_divide_97 : decode prog_4_method_19_code 97 = .ok (.iload 4, 2) := by decide +kernel
theorem d_Tw_divide_99 : decode prog_4_method_19_code 99 = .ok (.invokestatic 36, 3) := by decide +kernel
theorem d_Tw_divide_102 : decode prog_4_method_19_code 102 = .ok (.lreturn, 1) := by decide +kernel
theorem d_Tw_divide_103 : decode prog_4_method_19_code 103 = .ok (.lload_n 2, 1) := by decide +kernel
theorem d_Tw_divide_104 : decode prog_4_method_19_code 104 = .ok (.iload 4, 2) := by decide +kernel
theorem d_Tw_divide_106 : decode prog_4_method_19_code 106 = .ok (.invokestatic 66, 3) := by decide +kernel
theorem d_Tw_divide_109 : decode prog_4_method_19_code 109 = .ok (.ifCond .eq 33, 3) := by decide +kernel
theorem d_Tw_divide_112 : decode prog_4_method_19_code 112 = .ok (.lload_n 0, 1) := by decide +kernel
theorem d_Tw_divide_113 : decode prog_4_method_19_code 113 = .ok (.iload 4, 2) := by decide +kernel
theorem d_Tw_divide_115 : decode prog_4_method_19_code 115 = .ok (.invokestatic 66, 3) := by decide +kernel
theorem d_Tw_divide_118 : decode prog_4_method_19_code 118 = .ok (.ifCond .eq 11, 3) := by decide +kernel
theorem d_Tw_divide_121 : decode prog_4_method_19_code 121 = .ok (.iload 4, 2) := by decide +kernel
theorem d_Tw_divide_123 : decode prog_4_method_19_code 123 = .ok (.invokestatic 60, 3) := by decide +kernel
theorem d_Tw_divide_126 : decode prog_4_method_19_code 126 = .ok (.goto 15, 3) := by decide +kernel
theorem d_Tw_divide_129 : decode prog_4_method_19_code 129 = .ok (.iload 4, 2) := by decide +kernel
theorem d_Tw_divide_131 : decode prog_4_method_19_code 131 = .ok (.invokestatic 19, 3) := by decide +kernel
theorem d_Tw_divide_134 : decode prog_4_method_19_code 134 = .ok (.iload 5, 2) := by decide +kernel
theorem d_Tw_divide_136 : decode prog_4_method_19_code 136 = .ok (.iload 4, 2) := by decide +kernel
theorem d_Tw_divide_138 : decode prog_4_method_19_code 138 = .ok (.invokestatic 36, 3) := by decide +kernel
theorem d_Tw_divide_141 : decode prog_4_method_19_code 141 = .ok (.lreturn, 1) := by decide +kernel
theorem d_Tw_divide_142 : decode prog_4_method_19_code 142 = .ok (.lload_n 0, 1) := by decide +kernel
theorem d_Tw_divide_143 : decode prog_4_method_19_code 143 = .ok (.iload 4, 2) := by decide +kernel
theorem d_Tw_divide_145 : decode prog_4_method_19_code 145 = .ok (.invokestatic 66, 3) := by decide +kernel
theorem d_Tw_divide_148 : decode prog_4_method_19_code 148 = .ok (.ifCond .eq 12, 3) := by decide +kernel
theorem d_Tw_divide_151 : decode prog_4_method_19_code 151 = .ok (.lconst 0, 1) := by decide +kernel
theorem d_Tw_divide_152 : decode prog_4_method_19_code 152 = .ok (.iload 5, 2) := by decide +kernel
theorem d_Tw_divide_154 : decode prog_4_method_19_code 154 = .ok (.iload 4, 2) := by decide +kernel
theorem d_Tw_divide_156 : decode prog_4_method_19_code 156 = .ok (.invokestatic 36, 3) := by decide +kernel
theorem d_Tw_divide_159 : decode prog_4_method_19_code 159 = .ok (.lreturn, 1) := by decide +kernel
theorem d_Tw_divide_160 : decode prog_4_method_19_code 160 = .ok (.lload_n 0, 1) := by decide +kernel
theorem d_Tw_divide_161 : decode prog_4_method_19_code 161 = .ok (.iload 4, 2) := by decide +kernel
theorem d_Tw_divide_163 : decode prog_4_method_19_code 163 = .ok (.invokestatic 73, 3) := by decide +kernel
theorem d_Tw_divide_166 : decode prog_4_method_19_code 166 = .ok (.lstore 6, 2) := by decide +kernel
theorem d_Tw_divide_168 : decode prog_4_method_19_code 168 = .ok (.lload_n 2, 1) := by decide +kernel
theorem d_Tw_divide_169 : decode prog_4_method_19_code 169 = .ok (.iload 4, 2) := by decide +kernel
theorem d_Tw_divide_171 : decode prog_4_method_19_code 171 = .ok (.invokestatic 73, 3) := by decide +kernel
theorem d_Tw_divide_174 : decode prog_4_method_19_code 174 = .ok (.lstore 8, 2) := by decide +kernel
theorem d_Tw_divide_176 : decode prog_4_method_19_code 176 = .ok (.lload_n 0, 1) := by decide +kernel
theorem d_Tw_divide_177 : decode prog_4_method_19_code 177 = .ok (.iload 4, 2) := by decide +kernel
theorem d_Tw_divide_179 : decode prog_4_method_19_code 179 = .ok (.invokestatic 69, 3) := by decide +kernel
theorem d_Tw_divide_182 : decode prog_4_method_19_code 182 = .ok (.lload 6, 2) := by decide +kernel
theorem d_Tw_divide_184 : decode prog_4_method_19_code 184 = .ok (.iload 4, 2) := by decide +kernel
theorem d_Tw_divide_186 : decode prog_4_method_19_code 186 = .ok (.invokestatic 86, 3) := by decide +kernel
theorem d_Tw_divide_189 : decode prog_4_method_19_code 189 = .ok (.isub, 1) := by decide +kernel
theorem d_Tw_divide_190 : decode prog_4_method_19_code 190 = .ok (.lload_n 2, 1) := by decide +kernel
theorem d_Tw_divide_191 : decode prog_4_method_19_code 191 = .ok (.iload 4, 2) := by decide +kernel
theorem d_Tw_divide_193 : decode prog_4_method_19_code 193 = .ok (.invokestatic 69, 3) := by decide +kernel
theorem d_Tw_divide_196 : decode prog_4_method_19_code 196 = .ok (.isub, 1) := by decide +kernel
theorem d_Tw_divide_197 : decode prog_4_method_19_code 197 = .ok (.lload 8, 2) := by decide +kernel
theorem d_Tw_divide_199 : decode prog_4_method_19_code 199 = .ok (.iload 4, 2) := by decide +kernel
theorem d_Tw_divide_201 : decode prog_4_method_19_code 201 = .ok (.invokestatic 86, 3) := by decide +kernel
theorem d_Tw_divide_204 : decode prog_4_method_19_code 204 = .ok (.iadd, 1) := by decide +kernel
theorem d_Tw_divide_205 : decode prog_4_method_19_code 205 = .ok (.istore 10, 2) := by decide +kernel
theorem d_Tw_divide_207 : decode prog_4_method_19_code 207 = .ok (.lload 6, 2) := by decide +kernel
theorem d_Tw_divide_209 : decode prog_4_method_19_code 209 = .ok (.lload 6, 2) := by decide +kernel
theorem d_Tw_divide_211 : decode prog_4_method_19_code 211 = .ok (.iload 4, 2) := by decide +kernel
theorem d_Tw_divide_213 : decode prog_4_method_19_code 213 = .ok (.invokestatic 86, 3) := by decide +kernel
theorem d_Tw_divide_216 : decode prog_4_method_19_code 216 = .ok (.lshl, 1) := by decide +kernel
theorem d_Tw_divide_217 : decode prog_4_method_19_code 217 = .ok (.lstore 6, 2) := by decide +kernel
theorem d_Tw_divide_219 : decode prog_4_method_19_code 219 = .ok (.lload 8, 2) := by decide +kernel
theorem d_Tw_divide_221 : decode prog_4_method_19_code 221 = .ok (.lload 8, 2) := by decide +kernel
theorem d_Tw_divide_223 : decode prog_4_method_19_code 223 = .ok (.iload 4, 2) := by decide +kernel
theorem d_Tw_divide_225 : decode prog_4_method_19_code 225 = .ok (.invokestatic 86, 3) := by decide +kernel
theorem d_Tw_divide_228 : decode prog_4_method_19_code 228 = .ok (.lshl, 1) := by decide +kernel
theorem d_Tw_divide_229 : decode prog_4_method_19_code 229 = .ok (.lstore 8, 2) := by decide +kernel
theorem d_Tw_divide_231 : decode prog_4_method_19_code 231 = .ok (.lload 6, 2) := by decide +kernel
theorem d_Tw_divide_233 : decode prog_4_method_19_code 233 = .ok (.lload 8, 2) := by decide +kernel
theorem d_Tw_divide_235 : decode prog_4_method_19_code 235 = .ok (.lcmp, 1) := by decide +kernel
theorem d_Tw_divide_236 : decode prog_4_method_19_code 236 = .ok (.ifCond .lt 7, 3) := by decide +kernel
theorem d_Tw_divide_239 : decode prog_4_method_19_code 239 = .ok (.lconst 1, 1) := by decide +kernel
theorem d_Tw_divide_240 : decode prog_4_method_19_code 240 = .ok (.goto 4, 3) := by decide +kernel
theorem d_Tw_divide_243 : decode prog_4_method_19_code 243 = .ok (.lconst 0, 1) := by decide +kernel
theorem d_Tw_divide_244 : decode prog_4_method_19_code 244 = .ok (.lstore 11, 2) := by decide +kernel
theorem d_Tw_divide_246 : decode prog_4_method_19_code 246 = .ok (.lload 11, 2) := by decide +kernel
theorem d_Tw_divide_248 : decode prog_4_method_19_code 248 = .ok (.lconst 1, 1) := by decide +kernel
theorem d_Tw_divide_249 : decode prog_4_method_19_code 249 = .ok (.lcmp, 1) := by decide +kernel
theorem d_Tw_divide_250 : decode prog_4_method_19_code 250 = .ok (.ifCond .ne 11, 3) := by decide +kernel
theorem d_Tw_divide_253 : decode prog_4_method_19_code 253 = .ok (.lload 6, 2) := by decide +kernel
theorem d_Tw_divide_255 : decode prog_4_method_19_code 255 = .ok (.lload 8, 2) := by decide +kernel
theorem d_Tw_divide_257 : decode prog_4_method_19_code 257 = .ok (.lsub, 1) := by decide +kernel
theorem d_Tw_divide_258 : decode prog_4_method_19_code 258 = .ok (.goto 5, 3) := by decide +kernel
theorem d_Tw_divide_261 : decode prog_4_method_19_code 261 = .ok (.lload 6, 2) := by decide +kernel
theorem d_Tw_divide_263 : decode prog_4_method_19_code 263 = .ok (.lstore 13, 2) := by decide +kernel
theorem d_Tw_divide_265 : decode prog_4_method_19_code 265 = .ok (.iconst 0, 1) := by decide +kernel
theorem d_Tw_divide_266 : decode prog_4_method_19_code 266 = .ok (.istore 15, 2) := by decide +kernel
theorem d_Tw_divide_268 : decode prog_4_method_19_code 268 = .ok (.iload 15, 2) := by decide +kernel
theorem d_Tw_divide_270 : decode prog_4_method_19_code 270 = .ok (.bipush 60, 2) := by decide +kernel
theorem d_Tw_divide_272 : decode prog_4_method_19_code 272 = .ok (.if_icmp .ge 45, 3) := by decide +kernel
theorem d_Tw_divide_275 : decode prog_4_method_19_code 275 = .ok (.lload 13, 2) := by decide +kernel
theorem d_Tw_divide_277 : decode prog_4_method_19_code 277 = .ok (.iconst 1, 1) := by decide +kernel
theorem d_Tw_divide_278 : decode prog_4_method_19_code 278 = .ok (.lshl, 1) := by decide +kernel
theorem d_Tw_divide_279 : decode prog_4_method_19_code 279 = .ok (.lstore 13, 2) := by decide +kernel
theorem d_Tw_divide_281 : decode prog_4_method_19_code 281 = .ok (.lload 11, 2) := by decide +kernel
theorem d_Tw_divide_283 : decode prog_4_method_19_code 283 = .ok (.iconst 1, 1) := by decide +kernel
theorem d_Tw_divide_284 : decode prog_4_method_19_code 284 = .ok (.lshl, 1) := by decide +kernel
theorem d_Tw_divide_285 : decode prog_4_method_19_code 285 = .ok (.lstore 11, 2) := by decide +kernel
theorem d_Tw_divide_287 : decode prog_4_method_19_code 287 = .ok (.lload 13, 2) := by decide +kernel
theorem d_Tw_divide_289 : decode prog_4_method_19_code 289 = .ok (.lload 8, 2) := by decide +kernel
theorem d_Tw_divide_291 : decode prog_4_method_19_code 291 = .ok (.lcmp, 1) := by decide +kernel
theorem d_Tw_divide_292 : decode prog_4_method_19_code 292 = .ok (.ifCond .ge 6, 3) := by decide +kernel
theorem d_Tw_divide_295 : decode prog_4_method_19_code 295 = .ok (.goto 16, 3) := by decide +kernel
theorem d_Tw_divide_298 : decode prog_4_method_19_code 298 = .ok (.lload 13, 2) := by decide +kernel
theorem d_Tw_divide_300 : decode prog_4_method_19_code 300 = .ok (.lload 8, 2) := by decide +kernel
theorem d_Tw_divide_302 : decode prog_4_method_19_code 302 = .ok (.lsub, 1) := by decide +kernel
theorem d_Tw_divide_303 : decode prog_4_method_19_code 303 = .ok (.lstore 13, 2) := by decide +kernel
theorem d_Tw_divide_305 : decode prog_4_method_19_code 305 = .ok (.lload 11, 2) := by decide +kernel
theorem d_Tw_divide_307 : decode prog_4_method_19_code 307 = .ok (.lconst 1, 1) := by decide +kernel
theorem d_Tw_divide_308 : decode prog_4_method_19_code 308 = .ok (.lor, 1) := by decide +kernel
theorem d_Tw_divide_309 : decode prog_4_method_19_code 309 = .ok (.lstore 11, 2) := by decide +kernel
theorem d_Tw_divide_311 : decode prog_4_method_19_code 311 = .ok (.iinc 15 1, 3) := by decide +kernel
theorem d_Tw_divide_314 : decode prog_4_method_19_code 314 = .ok (.goto (-46), 3) := by decide +kernel
theorem d_Tw_divide_317 : decode prog_4_method_19_code 317 = .ok (.iload 5, 2) := by decide +kernel
theorem d_Tw_divide_319 : decode prog_4_method_19_code 319 = .ok (.lload 11, 2) := by decide +kernel
theorem d_Tw_divide_321 : decode prog_4_method_19_code 321 = .ok (.iload 10, 2) := by decide +kernel
theorem d_Tw_divide_323 : decode prog_4_method_19_code 323 = .ok (.bipush 60, 2) := by decide +kernel
theorem d_Tw_divide_325 : decode prog_4_method_19_code 325 = .ok (.isub, 1) := by decide +kernel
theorem d_Tw_divide_326 : decode prog_4_method_19_code 326 = .ok (.lload 13, 2) := by decide +kernel
theorem d_Tw_divide_328 : decode prog_4_method_19_code 328 = .ok (.lconst 0, 1) := by decide +kernel
theorem d_Tw_divide_329 : decode prog_4_method_19_code 329 = .ok (.lcmp, 1) := by decide +kernel
theorem d_Tw_divide_330 : decode prog_4_method_19_code 330 = .ok (.ifCond .eq 7, 3) := by decide +kernel
theorem d_Tw_divide_333 : decode prog_4_method_19_code 333 = .ok (.iconst 1, 1) := by decide +kernel
theorem d_Tw_divide_334 : decode prog_4_method_19_code 334 = .ok (.goto 4, 3) := by decide +kernel
theorem d_Tw_divide_337 : decode prog_4_method_19_code 337 = .ok (.iconst 0, 1) := by decide +kernel
theorem d_Tw_divide_338 : decode prog_4_method_19_code 338 = .ok (.iload 4, 2) := by decide +kernel
theorem d_Tw_divide_340 : decode prog_4_method_19_code 340 = .ok (.invokestatic 52, 3) := by decide +kernel
theorem d_Tw_divide_343 : decode prog_4_method_19_code 343 = .ok (.lreturn, 1) := by decide +kernel
set_option maxHeartbeats 1200000 in
set_option maxRecDepth 100000 in
theorem c_Tw_divide (l : Launch) (ad : Nat → Nat) (a : Int64) (b : Int64) (f : Nat) (h_f : f < 2) : Met l y_Tw_divide w_Tw_divide ({ frames := 3, cells := 0, slots := 0, locals := 77 } : Room) (va_Pc [.long a, .long b, .int (nI f)] (nb_K ad)) (vp_Sl (fun r => r = mf_Tw_divide a b f)) 0 0 (fun _ => False) := by
  refine Met.ofW (cc := prog_4_method_19_code) (maxL := 16) (ret := some .long) (by decide) rfl ?_
  intro p e s m args below meth c s₁ B hml hv
  obtain ⟨rfl, hC⟩ := hv
  have hx := B.exec
  have hb := B.bytes
  have hr := B.returns
  have hts := atoms_spec (ws := w_Tw_divide) B.pre
  have hown : s.vm.findClass "NumberBenchModel" = some m.cls := findClass_of_methodNamed B.named
  have hlocks := B.notSynchronized
  have hC : nb_C ad (fun _ => False) s s.heap := hC
  have hS : va_S (fun _ => False) s.heap s.heap [] := va_S.rf
  have hl := lv_entry ([.long a, .long b, .int (nI f)]) (n := 16) (Nat.le_of_ble_eq_true rfl)
  rw [lg_entry_eq]
  generalize (lg_sl ([.long a, .long b, .int (nI f)]) ++ List.replicate (16 - (lg_sl ([.long a, .long b, .int (nI f)])).length) Slot.unset).toArray = ls at hl ⊢
  have hl : lv_has ls 16 [(0, .long a), (2, .long b), (4, .int (nI f))] := hl
  have b268 : ∀ (fuel : Nat) (x5 : Int32) (x8 : Int64) (x10 : Int32) (x11 : Int64) (x13 : Int64) (x15 : Int32) (ls : Array Slot), (((60 : Int32).toInt - x15.toInt).toNat) < fuel → lv_has ls 16 [(4, .int (nI f)), (5, .int x5), (8, .long x8), (10, .int x10), (11, .long x11), (13, .long x13), (15, .int x15)] → mf_Tw_divide a b f = mf_Tw_divide_b268 a b f fuel x5 x8 x10 x11 x13 x15 → W p l e (headSpec w_Tw_divide ({ frames := 3, cells := 0, slots := 0, locals := 77 } : Room)).room s m ([.long a, .long b, .int (nI f)] : List Value).toArray below meth c s.heap [] 0 0 (MQ below (vp_Sl (fun r => r = mf_Tw_divide a b f)) ([.long a, .long b, .int (nI f)] : List Value).toArray s 0 0 (fun _ => False)) (F0 m 268 ls []) := by
    intro fuel
    induction fuel with
    | zero => intro x5 x8 x10 x11 x13 x15 ls hf; exact absurd hf (Nat.not_lt_zero _)
    | succ fuel ih =>
      intro x5 x8 x10 x11 x13 x15 ls hf hl  hE
      refine lv_iload hx hb d_Tw_divide_268 (lv_at hl 6 rfl) ?_
      refine lv_bipush (v := 60) hx hb d_Tw_divide_270 (by decide) ?_
      refine lv_icmp_ge (tgt := 317) hx hb d_Tw_divide_272 (by decide) (fun h15 => ?_) (fun h15 => ?_)
      · refine lv_iload hx hb d_Tw_divide_317 (lv_at hl 1 rfl) ?_
        refine lv_lload hx hb d_Tw_divide_319 (lv_at hl 4 rfl) ?_
        refine lv_iload hx hb d_Tw_divide_321 (lv_at hl 3 rfl) ?_
        refine lv_bipush (v := 60) hx hb d_Tw_divide_323 (by decide) ?_
        refine lv_isub hx hb d_Tw_divide_325 ?_
        refine lv_lload hx hb d_Tw_divide_326 (lv_at hl 5 rfl) ?_
        refine lv_lconst (v := 0) hx hb d_Tw_divide_328 (by decide) ?_
        refine nb_lc_eq (tgt := 337) hx hb d_Tw_divide_329 d_Tw_divide_330 (by decide) (fun h16 => ?_) (fun h16 => ?_)
        · refine lv_iconst (v := 0) hx hb d_Tw_divide_337 (by decide) ?_
          refine lv_iload hx hb d_Tw_divide_338 (lv_at hl 0 rfl) ?_
          refine nb_callSl (As := [.int x5, .long x11, .int (x10 - (60 : Int32)), .int (0 : Int32), .int (nI f)]) (rest := []) hx hb hml hown hts (c_Tw_rounded l ad x5 x11 (x10 - (60 : Int32)) (0 : Int32) f h_f) nb_t319 nb_t320 nb_t2 nb_t321 hd_Tw_rounded rfl ⟨Nat.le_of_ble_eq_true rfl, Nat.le_of_ble_eq_true rfl⟩ ⟨rfl, rfl⟩ hC hS hl.1 rfl (Nat.le_of_ble_eq_true rfl) ⟨Nat.le_of_ble_eq_true rfl, Nat.le_of_ble_eq_true rfl⟩ d_Tw_divide_340 ?_
          exact W.lret hx hb hr (fun t ht hW => ⟨_, rfl, (by rw [hE, mf_Tw_divide_b268, if_pos h15, if_pos h16]), ht⟩) t_nil d_Tw_divide_343
        · refine lv_iconst (v := 1) hx hb d_Tw_divide_333 (by decide) ?_
          refine lv_goto (tgt := 338) hx hb d_Tw_divide_334 (by decide) ?_
          refine lv_iload hx hb d_Tw_divide_338 (lv_at hl 0 rfl) ?_
          refine nb_callSl (As := [.int x5, .long x11, .int (x10 - (60 : Int32)), .int (1 : Int32), .int (nI f)]) (rest := []) hx hb hml hown hts (c_Tw_rounded l ad x5 x11 (x10 - (60 : Int32)) (1 : Int32) f h_f) nb_t319 nb_t320 nb_t2 nb_t321 hd_Tw_rounded rfl ⟨Nat.le_of_ble_eq_true rfl, Nat.le_of_ble_eq_true rfl⟩ ⟨rfl, rfl⟩ hC hS hl.1 rfl (Nat.le_of_ble_eq_true rfl) ⟨Nat.le_of_ble_eq_true rfl, Nat.le_of_ble_eq_true rfl⟩ d_Tw_divide_340 ?_
          exact W.lret hx hb hr (fun t ht hW => ⟨_, rfl, (by rw [hE, mf_Tw_divide_b268, if_pos h15, if_neg h16]), ht⟩) t_nil d_Tw_divide_343
      · refine lv_lload hx hb d_Tw_divide_275 (lv_at hl 5 rfl) ?_
        refine lv_iconst (v := 1) hx hb d_Tw_divide_277 (by decide) ?_
        refine lv_lshl hx hb d_Tw_divide_278 rfl ?_
        refine lv_lstore hx hb d_Tw_divide_279 hl (by decide) rfl (fun ls hl => ?_)
        have hl : lv_has ls 16 [(13, .long (x13 <<< ((1 : Int32).toInt64 &&& 63))), (4, .int (nI f)), (5, .int x5), (8, .long x8), (10, .int x10), (11, .long x11), (15, .int x15)] := hl
        refine lv_lload hx hb d_Tw_divide_281 (lv_at hl 5 rfl) ?_
        refine lv_iconst (v := 1) hx hb d_Tw_divide_283 (by decide) ?_
        refine lv_lshl hx hb d_Tw_divide_284 rfl ?_
        refine lv_lstore hx hb d_Tw_divide_285 hl (by decide) rfl (fun ls hl => ?_)
        have hl : lv_has ls 16 [(11, .long (x11 <<< ((1 : Int32).toInt64 &&& 63))), (13, .long (x13 <<< ((1 : Int32).toInt64 &&& 63))), (4, .int (nI f)), (5, .int x5), (8, .long x8), (10, .int x10), (15, .int x15)] := hl
        refine lv_lload hx hb d_Tw_divide_287 (lv_at hl 1 rfl) ?_
        refine lv_lload hx hb d_Tw_divide_289 (lv_at hl 4 rfl) ?_
        refine nb_lc_ge (tgt := 298) hx hb d_Tw_divide_291 d_Tw_divide_292 (by decide) (fun h17 => ?_) (fun h17 => ?_)
        · refine lv_lload hx hb d_Tw_divide_298 (lv_at hl 1 rfl) ?_
          refine lv_lload hx hb d_Tw_divide_300 (lv_at hl 4 rfl) ?_
          refine lv_lsub hx hb d_Tw_divide_302 ?_
          refine lv_lstore hx hb d_Tw_divide_303 hl (by decide) rfl (fun ls hl => ?_)
          have hl : lv_has ls 16 [(13, .long ((x13 <<< ((1 : Int32).toInt64 &&& 63)) - x8)), (11, .long (x11 <<< ((1 : Int32).toInt64 &&& 63))), (4, .int (nI f)), (5, .int x5), (8, .long x8), (10, .int x10), (15, .int x15)] := hl
          refine lv_lload hx hb d_Tw_divide_305 (lv_at hl 1 rfl) ?_
          refine lv_lconst (v := 1) hx hb d_Tw_divide_307 (by decide) ?_
          refine lv_lor hx hb d_Tw_divide_308 ?_
          refine lv_topl (fun v18 ev18 => ?_)
          refine lv_lstore hx hb d_Tw_divide_309 hl (by decide) rfl (fun ls hl => ?_)
          have hl : lv_has ls 16 [(11, .long v18), (13, .long ((x13 <<< ((1 : Int32).toInt64 &&& 63)) - x8)), (4, .int (nI f)), (5, .int x5), (8, .long x8), (10, .int x10), (15, .int x15)] := hl
          refine lv_iinc (k := 6) (v := x15 + (1 : Int32)) hx hb d_Tw_divide_311 hl rfl rfl (by decide) rfl (fun ls hl => ?_)
          have hl : lv_has ls 16 [(15, .int (x15 + (1 : Int32))), (11, .long v18), (13, .long ((x13 <<< ((1 : Int32).toInt64 &&& 63)) - x8)), (4, .int (nI f)), (5, .int x5), (8, .long x8), (10, .int x10)] := hl
          refine lv_goto (tgt := 268) hx hb d_Tw_divide_314 (by decide) ?_
          exact ih x5 x8 x10 v18 ((x13 <<< ((1 : Int32).toInt64 &&& 63)) - x8) (x15 + (1 : Int32)) ls (Nat.lt_of_lt_of_le (lp_up h15) (Nat.le_of_lt_succ hf)) (lv_sub hl [3, 4, 5, 6, 1, 2, 0] rfl)  (by subst ev18; rw [hE, mf_Tw_divide_b268, if_neg h15, if_pos h17])
        · refine lv_goto (tgt := 311) hx hb d_Tw_divide_295 (by decide) ?_
          refine lv_iinc (k := 6) (v := x15 + (1 : Int32)) hx hb d_Tw_divide_311 hl rfl rfl (by decide) rfl (fun ls hl => ?_)
          have hl : lv_has ls 16 [(15, .int (x15 + (1 : Int32))), (11, .long (x11 <<< ((1 : Int32).toInt64 &&& 63))), (13, .long (x13 <<< ((1 : Int32).toInt64 &&& 63))), (4, .int (nI f)), (5, .int x5), (8, .long x8), (10, .int x10)] := hl
          refine lv_goto (tgt := 268) hx hb d_Tw_divide_314 (by decide) ?_
          exact ih x5 x8 x10 (x11 <<< ((1 : Int32).toInt64 &&& 63)) (x13 <<< ((1 : Int32).toInt64 &&& 63)) (x15 + (1 : Int32)) ls (Nat.lt_of_lt_of_le (lp_up h15) (Nat.le_of_lt_succ hf)) (lv_sub hl [3, 4, 5, 6, 1, 2, 0] rfl)  (by rw [hE, mf_Tw_divide_b268, if_neg h15, if_neg h17])
  have b263 : ∀ (x5 : Int32) (x8 : Int64) (x10 : Int32) (x11 : Int64) (k0 : Int64) (ls : Array Slot), lv_has ls 16 [(4, .int (nI f)), (5, .int x5), (8, .long x8), (10, .int x10), (11, .long x11)] → mf_Tw_divide a b f = mf_Tw_divide_b263 a b f x5 x8 x10 x11 k0 → W p l e (headSpec w_Tw_divide ({ frames := 3, cells := 0, slots := 0, locals := 77 } : Room)).room s m ([.long a, .long b, .int (nI f)] : List Value).toArray below meth c s.heap [] 0 0 (MQ below (vp_Sl (fun r => r = mf_Tw_divide a b f)) ([.long a, .long b, .int (nI f)] : List Value).toArray s 0 0 (fun _ => False)) (F0 m 263 ls [.long k0]) := by
    intro x5 x8 x10 x11 k0 ls hl  hE
    refine lv_lstore hx hb d_Tw_divide_263 hl (by decide) rfl (fun ls hl => ?_)
    have hl : lv_has ls 16 [(13, .long k0), (4, .int (nI f)), (5, .int x5), (8, .long x8), (10, .int x10), (11, .long x11)] := hl
    refine lv_iconst (v := 0) hx hb d_Tw_divide_265 (by decide) ?_
    refine lv_istore hx hb d_Tw_divide_266 hl (by decide) rfl (fun ls hl => ?_)
    have hl : lv_has ls 16 [(15, .int (0 : Int32)), (13, .long k0), (4, .int (nI f)), (5, .int x5), (8, .long x8), (10, .int x10), (11, .long x11)] := hl
    exact b268 ((((60 : Int32).toInt - (0 : Int32).toInt).toNat) + 1) x5 x8 x10 x11 k0 (0 : Int32) ls (Nat.lt_succ_self _) (lv_sub hl [2, 3, 4, 5, 6, 1, 0] rfl)  (by rw [hE, mf_Tw_divide_b263])
  have b244 : ∀ (x5 : Int32) (x6 : Int64) (x8 : Int64) (x10 : Int32) (k0 : Int64) (ls : Array Slot), lv_has ls 16 [(4, .int (nI f)), (5, .int x5), (6, .long x6), (8, .long x8), (10, .int x10)] → mf_Tw_divide a b f = mf_Tw_divide_b244 a b f x5 x6 x8 x10 k0 → W p l e (headSpec w_Tw_divide ({ frames := 3, cells := 0, slots := 0, locals := 77 } : Room)).room s m ([.long a, .long b, .int (nI f)] : List Value).toArray below meth c s.heap [] 0 0 (MQ below (vp_Sl (fun r => r = mf_Tw_divide a b f)) ([.long a, .long b, .int (nI f)] : List Value).toArray s 0 0 (fun _ => False)) (F0 m 244 ls [.long k0]) := by
    intro x5 x6 x8 x10 k0 ls hl  hE
    refine lv_lstore hx hb d_Tw_divide_244 hl (by decide) rfl (fun ls hl => ?_)
    have hl : lv_has ls 16 [(11, .long k0), (4, .int (nI f)), (5, .int x5), (6, .long x6), (8, .long x8), (10, .int x10)] := hl
    refine lv_lload hx hb d_Tw_divide_246 (lv_at hl 0 rfl) ?_
    refine lv_lconst (v := 1) hx hb d_Tw_divide_248 (by decide) ?_
    refine nb_lc_ne (tgt := 261) hx hb d_Tw_divide_249 d_Tw_divide_250 (by decide) (fun h14 => ?_) (fun h14 => ?_)
    · refine lv_lload hx hb d_Tw_divide_261 (lv_at hl 3 rfl) ?_
      exact b263 x5 x8 x10 k0 x6 ls (lv_sub hl [1, 2, 4, 5, 0] rfl)  (by rw [hE, mf_Tw_divide_b244, if_neg h14])
    · refine lv_lload hx hb d_Tw_divide_253 (lv_at hl 3 rfl) ?_
      refine lv_lload hx hb d_Tw_divide_255 (lv_at hl 4 rfl) ?_
      refine lv_lsub hx hb d_Tw_divide_257 ?_
      refine lv_goto (tgt := 263) hx hb d_Tw_divide_258 (by decide) ?_
      exact b263 x5 x8 x10 k0 (x6 - x8) ls (lv_sub hl [1, 2, 4, 5, 0] rfl)  (by rw [hE, mf_Tw_divide_b244, if_pos h14])
  have b20 : ∀ (k0 : Int32) (ls : Array Slot), lv_has ls 16 [(0, .long a), (2, .long b), (4, .int (nI f))] → mf_Tw_divide a b f = mf_Tw_divide_b20 a b f k0 → W p l e (headSpec w_Tw_divide ({ frames := 3, cells := 0, slots := 0, locals := 77 } : Room)).room s m ([.long a, .long b, .int (nI f)] : List Value).toArray below meth c s.heap [] 0 0 (MQ below (vp_Sl (fun r => r = mf_Tw_divide a b f)) ([.long a, .long b, .int (nI f)] : List Value).toArray s 0 0 (fun _ => False)) (F0 m 20 ls [.int k0]) := by
    intro k0 ls hl  hE
    refine lv_istore hx hb d_Tw_divide_20 hl (by decide) rfl (fun ls hl => ?_)
    have hl : lv_has ls 16 [(5, .int k0), (0, .long a), (2, .long b), (4, .int (nI f))] := hl
    refine lv_lload_n hx hb d_Tw_divide_22 rfl (lv_at hl 1 rfl) ?_
    refine lv_iload hx hb d_Tw_divide_23 (lv_at hl 3 rfl) ?_
    refine nb_callSi (As := [.long a, .int (nI f)]) (rest := []) hx hb hml hown hts (c_Tw_isNone l ad a f h_f) nb_t277 nb_t278 nb_t2 nb_t279 hd_Tw_isNone rfl ⟨Nat.le_of_ble_eq_true rfl, Nat.le_of_ble_eq_true rfl⟩ ⟨rfl, rfl⟩ hC hS hl.1 rfl (Nat.le_of_ble_eq_true rfl) ⟨Nat.le_of_ble_eq_true rfl, Nat.le_of_ble_eq_true rfl⟩ d_Tw_divide_25 ?_
    refine lv_if_ne (tgt := 40) hx hb d_Tw_divide_28 (by decide) (fun h2 => ?_) (fun h2 => ?_)
    · refine lv_iload hx hb d_Tw_divide_40 (lv_at hl 3 rfl) ?_
      refine nb_callSl (As := [.int (nI f)]) (rest := []) hx hb hml hown hts (c_Tw_none l ad f h_f) nb_t291 nb_t292 nb_t2 nb_t293 hd_Tw_none rfl ⟨Nat.le_of_ble_eq_true rfl, Nat.le_of_ble_eq_true rfl⟩ ⟨rfl, rfl⟩ hC hS hl.1 rfl (Nat.le_of_ble_eq_true rfl) ⟨Nat.le_of_ble_eq_true rfl, Nat.le_of_ble_eq_true rfl⟩ d_Tw_divide_42 ?_
      exact W.lret hx hb hr (fun t ht hW => ⟨_, rfl, (by rw [hE, mf_Tw_divide_b20, if_neg h2]), ht⟩) t_nil d_Tw_divide_45
    · refine lv_lload_n hx hb d_Tw_divide_31 rfl (lv_at hl 2 rfl) ?_
      refine lv_iload hx hb d_Tw_divide_32 (lv_at hl 3 rfl) ?_
      refine nb_callSi (As := [.long b, .int (nI f)]) (rest := []) hx hb hml hown hts (c_Tw_isNone l ad b f h_f) nb_t277 nb_t278 nb_t2 nb_t279 hd_Tw_isNone rfl ⟨Nat.le_of_ble_eq_true rfl, Nat.le_of_ble_eq_true rfl⟩ ⟨rfl, rfl⟩ hC hS hl.1 rfl (Nat.le_of_ble_eq_true rfl) ⟨Nat.le_of_ble_eq_true rfl, Nat.le_of_ble_eq_true rfl⟩ d_Tw_divide_34 ?_
      refine lv_if_eq (tgt := 46) hx hb d_Tw_divide_37 (by decide) (fun h3 => ?_) (fun h3 => ?_)
      · refine lv_lload_n hx hb d_Tw_divide_46 rfl (lv_at hl 1 rfl) ?_
        refine lv_iload hx hb d_Tw_divide_47 (lv_at hl 3 rfl) ?_
        refine nb_callSi (As := [.long a, .int (nI f)]) (rest := []) hx hb hml hown hts (c_Tw_isInfinite l ad a f h_f) nb_t296 nb_t297 nb_t2 nb_t298 hd_Tw_isInfinite rfl ⟨Nat.le_of_ble_eq_true rfl, Nat.le_of_ble_eq_true rfl⟩ ⟨rfl, rfl⟩ hC hS hl.1 rfl (Nat.le_of_ble_eq_true rfl) ⟨Nat.le_of_ble_eq_true rfl, Nat.le_of_ble_eq_true rfl⟩ d_Tw_divide_49 ?_
        refine lv_if_eq (tgt := 85) hx hb d_Tw_divide_52 (by decide) (fun h4 => ?_) (fun h4 => ?_)
        · refine lv_lload_n hx hb d_Tw_divide_85 rfl (lv_at hl 2 rfl) ?_
          refine lv_iload hx hb d_Tw_divide_86 (lv_at hl 3 rfl) ?_
          refine nb_callSi (As := [.long b, .int (nI f)]) (rest := []) hx hb hml hown hts (c_Tw_isInfinite l ad b f h_f) nb_t296 nb_t297 nb_t2 nb_t298 hd_Tw_isInfinite rfl ⟨Nat.le_of_ble_eq_true rfl, Nat.le_of_ble_eq_true rfl⟩ ⟨rfl, rfl⟩ hC hS hl.1 rfl (Nat.le_of_ble_eq_true rfl) ⟨Nat.le_of_ble_eq_true rfl, Nat.le_of_ble_eq_true rfl⟩ d_Tw_divide_88 ?_
          refine lv_if_eq (tgt := 103) hx hb d_Tw_divide_91 (by decide) (fun h5 => ?_) (fun h5 => ?_)
          · refine lv_lload_n hx hb d_Tw_divide_103 rfl (lv_at hl 2 rfl) ?_
            refine lv_iload hx hb d_Tw_divide_104 (lv_at hl 3 rfl) ?_
            refine nb_callSi (As := [.long b, .int (nI f)]) (rest := []) hx hb hml hown hts (c_Tw_isZero l ad b f h_f) nb_t329 nb_t330 nb_t2 nb_t331 hd_Tw_isZero rfl ⟨Nat.le_of_ble_eq_true rfl, Nat.le_of_ble_eq_true rfl⟩ ⟨rfl, rfl⟩ hC hS hl.1 rfl (Nat.le_of_ble_eq_true rfl) ⟨Nat.le_of_ble_eq_true rfl, Nat.le_of_ble_eq_true rfl⟩ d_Tw_divide_106 ?_
            refine lv_if_eq (tgt := 142) hx hb d_Tw_divide_109 (by decide) (fun h6 => ?_) (fun h6 => ?_)
            · refine lv_lload_n hx hb d_Tw_divide_142 rfl (lv_at hl 1 rfl) ?_
              refine lv_iload hx hb d_Tw_divide_143 (lv_at hl 3 rfl) ?_
              refine nb_callSi (As := [.long a, .int (nI f)]) (rest := []) hx hb hml hown hts (c_Tw_isZero l ad a f h_f) nb_t329 nb_t330 nb_t2 nb_t331 hd_Tw_isZero rfl ⟨Nat.le_of_ble_eq_true rfl, Nat.le_of_ble_eq_true rfl⟩ ⟨rfl, rfl⟩ hC hS hl.1 rfl (Nat.le_of_ble_eq_true rfl) ⟨Nat.le_of_ble_eq_true rfl, Nat.le_of_ble_eq_true rfl⟩ d_Tw_divide_145 ?_
              refine lv_if_eq (tgt := 160) hx hb d_Tw_divide_148 (by decide) (fun h7 => ?_) (fun h7 => ?_)
              · refine lv_lload_n hx hb d_Tw_divide_160 rfl (lv_at hl 1 rfl) ?_
                refine lv_iload hx hb d_Tw_divide_161 (lv_at hl 3 rfl) ?_
                refine nb_callSl (As := [.long a, .int (nI f)]) (rest := []) hx hb hml hown hts (c_Tw_whole l ad a f h_f) nb_t305 nb_t306 nb_t2 nb_t307 hd_Tw_whole rfl ⟨Nat.le_of_ble_eq_true rfl, Nat.le_of_ble_eq_true rfl⟩ ⟨rfl, rfl⟩ hC hS hl.1 rfl (Nat.le_of_ble_eq_true rfl) ⟨Nat.le_of_ble_eq_true rfl, Nat.le_of_ble_eq_true rfl⟩ d_Tw_divide_163 ?_
                refine lv_lstore hx hb d_Tw_divide_166 hl (by decide) rfl (fun ls hl => ?_)
                have hl : lv_has ls 16 [(6, .long (mf_Tw_whole a f)), (5, .int k0), (0, .long a), (2, .long b), (4, .int (nI f))] := hl
                refine lv_lload_n hx hb d_Tw_divide_168 rfl (lv_at hl 3 rfl) ?_
                refine lv_iload hx hb d_Tw_divide_169 (lv_at hl 4 rfl) ?_
                refine nb_callSl (As := [.long b, .int (nI f)]) (rest := []) hx hb hml hown hts (c_Tw_whole l ad b f h_f) nb_t305 nb_t306 nb_t2 nb_t307 hd_Tw_whole rfl ⟨Nat.le_of_ble_eq_true rfl, Nat.le_of_ble_eq_true rfl⟩ ⟨rfl, rfl⟩ hC hS hl.1 rfl (Nat.le_of_ble_eq_true rfl) ⟨Nat.le_of_ble_eq_true rfl, Nat.le_of_ble_eq_true rfl⟩ d_Tw_divide_171 ?_
                refine lv_lstore hx hb d_Tw_divide_174 hl (by decide) rfl (fun ls hl => ?_)
                have hl : lv_has ls 16 [(8, .long (mf_Tw_whole b f)), (6, .long (mf_Tw_whole a f)), (5, .int k0), (0, .long a), (2, .long b), (4, .int (nI f))] := hl
                refine lv_lload_n hx hb d_Tw_divide_176 rfl (lv_at hl 3 rfl) ?_
                refine lv_iload hx hb d_Tw_divide_177 (lv_at hl 5 rfl) ?_
                refine nb_callSi (As := [.long a, .int (nI f)]) (rest := []) hx hb hml hown hts (c_Tw_power l ad a f h_f) nb_t310 nb_t311 nb_t2 nb_t312 hd_Tw_power rfl ⟨Nat.le_of_ble_eq_true rfl, Nat.le_of_ble_eq_true rfl⟩ ⟨rfl, rfl⟩ hC hS hl.1 rfl (Nat.le_of_ble_eq_true rfl) ⟨Nat.le_of_ble_eq_true rfl, Nat.le_of_ble_eq_true rfl⟩ d_Tw_divide_179 ?_
                refine lv_lload hx hb d_Tw_divide_182 (lv_at hl 1 rfl) ?_
                refine lv_iload hx hb d_Tw_divide_184 (lv_at hl 5 rfl) ?_
                refine nb_callSi (As := [.long (mf_Tw_whole a f), .int (nI f)]) (rest := [.int (mf_Tw_power a f)]) hx hb hml hown hts (c_Tw_moved l ad (mf_Tw_whole a f) f h_f) nb_t341 nb_t342 nb_t2 nb_t343 hd_Tw_moved rfl ⟨Nat.le_of_ble_eq_true rfl, Nat.le_of_ble_eq_true rfl⟩ ⟨rfl, rfl⟩ hC hS hl.1 rfl (Nat.le_of_ble_eq_true rfl) ⟨Nat.le_of_ble_eq_true rfl, Nat.le_of_ble_eq_true rfl⟩ d_Tw_divide_186 ?_
                refine lv_isub hx hb d_Tw_divide_189 ?_
                refine lv_lload_n hx hb d_Tw_divide_190 rfl (lv_at hl 4 rfl) ?_
                refine lv_iload hx hb d_Tw_divide_191 (lv_at hl 5 rfl) ?_
                refine nb_callSi (As := [.long b, .int (nI f)]) (rest := [.int ((mf_Tw_power a f) - (mf_Tw_moved (mf_Tw_whole a f) f))]) hx hb hml hown hts (c_Tw_power l ad b f h_f) nb_t310 nb_t311 nb_t2 nb_t312 hd_Tw_power rfl ⟨Nat.le_of_ble_eq_true rfl, Nat.le_of_ble_eq_true rfl⟩ ⟨rfl, rfl⟩ hC hS hl.1 rfl (Nat.le_of_ble_eq_true rfl) ⟨Nat.le_of_ble_eq_true rfl, Nat.le_of_ble_eq_true rfl⟩ d_Tw_divide_193 ?_
                refine lv_isub hx hb d_Tw_divide_196 ?_
                refine lv_lload hx hb d_Tw_divide_197 (lv_at hl 0 rfl) ?_
                refine lv_iload hx hb d_Tw_divide_199 (lv_at hl 5 rfl) ?_
                refine nb_callSi (As := [.long (mf_Tw_whole b f), .int (nI f)]) (rest := [.int (((mf_Tw_power a f) - (mf_Tw_moved (mf_Tw_whole a f) f)) - (mf_Tw_power b f))]) hx hb hml hown hts (c_Tw_moved l ad (mf_Tw_whole b f) f h_f) nb_t341 nb_t342 nb_t2 nb_t343 hd_Tw_moved rfl ⟨Nat.le_of_ble_eq_true rfl, Nat.le_of_ble_eq_true rfl⟩ ⟨rfl, rfl⟩ hC hS hl.1 rfl (Nat.le_of_ble_eq_true rfl) ⟨Nat.le_of_ble_eq_true rfl, Nat.le_of_ble_eq_true rfl⟩ d_Tw_divide_201 ?_
                refine lv_iadd hx hb d_Tw_divide_204 ?_
                refine lv_topi (fun v8 ev8 => ?_)
                refine lv_istore hx hb d_Tw_divide_205 hl (by decide) rfl (fun ls hl => ?_)
                have hl : lv_has ls 16 [(10, .int v8), (8, .long (mf_Tw_whole b f)), (6, .long (mf_Tw_whole a f)), (5, .int k0), (0, .long a), (2, .long b), (4, .int (nI f))] := hl
                refine lv_lload hx hb d_Tw_divide_207 (lv_at hl 2 rfl) ?_
                refine lv_lload hx hb d_Tw_divide_209 (lv_at hl 2 rfl) ?_
                refine lv_iload hx hb d_Tw_divide_211 (lv_at hl 6 rfl) ?_
                refine nb_callSi (As := [.long (mf_Tw_whole a f), .int (nI f)]) (rest := [.long (mf_Tw_whole a f)]) hx hb hml hown hts (c_Tw_moved l ad (mf_Tw_whole a f) f h_f) nb_t341 nb_t342 nb_t2 nb_t343 hd_Tw_moved rfl ⟨Nat.le_of_ble_eq_true rfl, Nat.le_of_ble_eq_true rfl⟩ ⟨rfl, rfl⟩ hC hS hl.1 rfl (Nat.le_of_ble_eq_true rfl) ⟨Nat.le_of_ble_eq_true rfl, Nat.le_of_ble_eq_true rfl⟩ d_Tw_divide_213 ?_
                refine lv_lshl hx hb d_Tw_divide_216 rfl ?_
                refine lv_topl (fun v9 ev9 => ?_)
                refine lv_lstore hx hb d_Tw_divide_217 hl (by decide) rfl (fun ls hl => ?_)
                have hl : lv_has ls 16 [(6, .long v9), (10, .int v8), (8, .long (mf_Tw_whole b f)), (5, .int k0), (0, .long a), (2, .long b), (4, .int (nI f))] := hl
                refine lv_lload hx hb d_Tw_divide_219 (lv_at hl 2 rfl) ?_
                refine lv_lload hx hb d_Tw_divide_221 (lv_at hl 2 rfl) ?_
                refine lv_iload hx hb d_Tw_divide_223 (lv_at hl 6 rfl) ?_
                refine nb_callSi (As := [.long (mf_Tw_whole b f), .int (nI f)]) (rest := [.long (mf_Tw_whole b f)]) hx hb hml hown hts (c_Tw_moved l ad (mf_Tw_whole b f) f h_f) nb_t341 nb_t342 nb_t2 nb_t343 hd_Tw_moved rfl ⟨Nat.le_of_ble_eq_true rfl, Nat.le_of_ble_eq_true rfl⟩ ⟨rfl, rfl⟩ hC hS hl.1 rfl (Nat.le_of_ble_eq_true rfl) ⟨Nat.le_of_ble_eq_true rfl, Nat.le_of_ble_eq_true rfl⟩ d_Tw_divide_225 ?_
                refine lv_lshl hx hb d_Tw_divide_228 rfl ?_
                refine lv_topl (fun v10 ev10 => ?_)
                refine lv_lstore hx hb d_Tw_divide_229 hl (by decide) rfl (fun ls hl => ?_)
                have hl : lv_has ls 16 [(8, .long v10), (6, .long v9), (10, .int v8), (5, .int k0), (0, .long a), (2, .long b), (4, .int (nI f))] := hl
                refine lv_lload hx hb d_Tw_divide_231 (lv_at hl 1 rfl) ?_
                refine lv_lload hx hb d_Tw_divide_233 (lv_at hl 0 rfl) ?_
                refine nb_lc_lt (tgt := 243) hx hb d_Tw_divide_235 d_Tw_divide_236 (by decide) (fun h11 => ?_) (fun h11 => ?_)
                · refine lv_lconst (v := 0) hx hb d_Tw_divide_243 (by decide) ?_
                  exact b244 k0 v9 v10 v8 (0 : Int64) ls (lv_sub hl [6, 3, 1, 0, 2] rfl)  (by subst ev10; subst ev9; subst ev8; rw [hE, mf_Tw_divide_b20, if_pos h2, if_pos h3, if_pos h4, if_pos h5, if_pos h6, if_pos h7, if_pos h11])
                · refine lv_lconst (v := 1) hx hb d_Tw_divide_239 (by decide) ?_
                  refine lv_goto (tgt := 244) hx hb d_Tw_divide_240 (by decide) ?_
                  exact b244 k0 v9 v10 v8 (1 : Int64) ls (lv_sub hl [6, 3, 1, 0, 2] rfl)  (by subst ev10; subst ev9; subst ev8; rw [hE, mf_Tw_divide_b20, if_pos h2, if_pos h3, if_pos h4, if_pos h5, if_pos h6, if_pos h7, if_neg h11])
              · refine lv_lconst (v := 0) hx hb d_Tw_divide_151 (by decide) ?_
                refine lv_iload hx hb d_Tw_divide_152 (lv_at hl 0 rfl) ?_
                refine lv_iload hx hb d_Tw_divide_154 (lv_at hl 3 rfl) ?_
                refine nb_callSl (As := [.long (0 : Int64), .int k0, .int (nI f)]) (rest := []) hx hb hml hown hts (c_Tw_signed l ad (0 : Int64) k0 f h_f) nb_t302 nb_t303 nb_t2 nb_t304 hd_Tw_signed rfl ⟨Nat.le_of_ble_eq_true rfl, Nat.le_of_ble_eq_true rfl⟩ ⟨rfl, rfl⟩ hC hS hl.1 rfl (Nat.le_of_ble_eq_true rfl) ⟨Nat.le_of_ble_eq_true rfl, Nat.le_of_ble_eq_true rfl⟩ d_Tw_divide_156 ?_
                exact W.lret hx hb hr (fun t ht hW => ⟨_, rfl, (by rw [hE, mf_Tw_divide_b20, if_pos h2, if_pos h3, if_pos h4, if_pos h5, if_pos h6, if_neg h7]), ht⟩) t_nil d_Tw_divide_159
            · refine lv_lload_n hx hb d_Tw_divide_112 rfl (lv_at hl 1 rfl) ?_
              refine lv_iload hx hb d_Tw_divide_113 (lv_at hl 3 rfl) ?_
              refine nb_callSi (As := [.long a, .int (nI f)]) (rest := []) hx hb hml hown hts (c_Tw_isZero l ad a f h_f) nb_t329 nb_t330 nb_t2 nb_t331 hd_Tw_isZero rfl ⟨Nat.le_of_ble_eq_true rfl, Nat.le_of_ble_eq_true rfl⟩ ⟨rfl, rfl⟩ hC hS hl.1 rfl (Nat.le_of_ble_eq_true rfl) ⟨Nat.le_of_ble_eq_true rfl, Nat.le_of_ble_eq_true rfl⟩ d_Tw_divide_115 ?_
              refine lv_if_eq (tgt := 129) hx hb d_Tw_divide_118 (by decide) (fun h12 => ?_) (fun h12 => ?_)
              · refine lv_iload hx hb d_Tw_divide_129 (lv_at hl 3 rfl) ?_
                refine nb_callSl (As := [.int (nI f)]) (rest := []) hx hb hml hown hts (c_Tw_infinite l ad f h_f) nb_t286 nb_t287 nb_t2 nb_t288 hd_Tw_infinite rfl ⟨Nat.le_of_ble_eq_true rfl, Nat.le_of_ble_eq_true rfl⟩ ⟨rfl, rfl⟩ hC hS hl.1 rfl (Nat.le_of_ble_eq_true rfl) ⟨Nat.le_of_ble_eq_true rfl, Nat.le_of_ble_eq_true rfl⟩ d_Tw_divide_131 ?_
                refine lv_iload hx hb d_Tw_divide_134 (lv_at hl 0 rfl) ?_
                refine lv_iload hx hb d_Tw_divide_136 (lv_at hl 3 rfl) ?_
                refine nb_callSl (As := [.long (mf_Tw_infinite f), .int k0, .int (nI f)]) (rest := []) hx hb hml hown hts (c_Tw_signed l ad (mf_Tw_infinite f) k0 f h_f) nb_t302 nb_t303 nb_t2 nb_t304 hd_Tw_signed rfl ⟨Nat.le_of_ble_eq_true rfl, Nat.le_of_ble_eq_true rfl⟩ ⟨rfl, rfl⟩ hC hS hl.1 rfl (Nat.le_of_ble_eq_true rfl) ⟨Nat.le_of_ble_eq_true rfl, Nat.le_of_ble_eq_true rfl⟩ d_Tw_divide_138 ?_
                exact W.lret hx hb hr (fun t ht hW => ⟨_, rfl, (by rw [hE, mf_Tw_divide_b20, if_pos h2, if_pos h3, if_pos h4, if_pos h5, if_neg h6, if_pos h12]), ht⟩) t_nil d_Tw_divide_141
              · refine lv_iload hx hb d_Tw_divide_121 (lv_at hl 3 rfl) ?_
                refine nb_callSl (As := [.int (nI f)]) (rest := []) hx hb hml hown hts (c_Tw_none l ad f h_f) nb_t291 nb_t292 nb_t2 nb_t293 hd_Tw_none rfl ⟨Nat.le_of_ble_eq_true rfl, Nat.le_of_ble_eq_true rfl⟩ ⟨rfl, rfl⟩ hC hS hl.1 rfl (Nat.le_of_ble_eq_true rfl) ⟨Nat.le_of_ble_eq_true rfl, Nat.le_of_ble_eq_true rfl⟩ d_Tw_divide_123 ?_
                refine lv_goto (tgt := 141) hx hb d_Tw_divide_126 (by decide) ?_
                exact W.lret hx hb hr (fun t ht hW => ⟨_, rfl, (by rw [hE, mf_Tw_divide_b20, if_pos h2, if_pos h3, if_pos h4, if_pos h5, if_neg h6, if_neg h12]), ht⟩) t_nil d_Tw_divide_141
          · refine lv_lconst (v := 0) hx hb d_Tw_divide_94 (by decide) ?_
            refine lv_iload hx hb d_Tw_divide_95 (lv_at hl 0 rfl) ?_
            refine lv_iload hx hb d_Tw_divide_97 (lv_at hl 3 rfl) ?_
            refine nb_callSl (As := [.long (0 : Int64), .int k0, .int (nI f)]) (rest := []) hx hb hml hown hts (c_Tw_signed l ad (0 : Int64) k0 f h_f) nb_t302 nb_t303 nb_t2 nb_t304 hd_Tw_signed rfl ⟨Nat.le_of_ble_eq_true rfl, Nat.le_of_ble_eq_true rfl⟩ ⟨rfl, rfl⟩ hC hS hl.1 rfl (Nat.le_of_ble_eq_true rfl) ⟨Nat.le_of_ble_eq_true rfl, Nat.le_of_ble_eq_true rfl⟩ d_Tw_divide_99 ?_
            exact W.lret hx hb hr (fun t ht hW => ⟨_, rfl, (by rw [hE, mf_Tw_divide_b20, if_pos h2, if_pos h3, if_pos h4, if_neg h5]), ht⟩) t_nil d_Tw_divide_102
        · refine lv_lload_n hx hb d_Tw_divide_55 rfl (lv_at hl 2 rfl) ?_
          refine lv_iload hx hb d_Tw_divide_56 (lv_at hl 3 rfl) ?_
          refine nb_callSi (As := [.long b, .int (nI f)]) (rest := []) hx hb hml hown hts (c_Tw_isInfinite l ad b f h_f) nb_t296 nb_t297 nb_t2 nb_t298 hd_Tw_isInfinite rfl ⟨Nat.le_of_ble_eq_true rfl, Nat.le_of_ble_eq_true rfl⟩ ⟨rfl, rfl⟩ hC hS hl.1 rfl (Nat.le_of_ble_eq_true rfl) ⟨Nat.le_of_ble_eq_true rfl, Nat.le_of_ble_eq_true rfl⟩ d_Tw_divide_58 ?_
          refine lv_if_eq (tgt := 72) hx hb d_Tw_divide_61 (by decide) (fun h13 => ?_) (fun h13 => ?_)
          · refine lv_iload hx hb d_Tw_divide_72 (lv_at hl 3 rfl) ?_
            refine nb_callSl (As := [.int (nI f)]) (rest := []) hx hb hml hown hts (c_Tw_infinite l ad f h_f) nb_t286 nb_t287 nb_t2 nb_t288 hd_Tw_infinite rfl ⟨Nat.le_of_ble_eq_true rfl, Nat.le_of_ble_eq_true rfl⟩ ⟨rfl, rfl⟩ hC hS hl.1 rfl (Nat.le_of_ble_eq_true rfl) ⟨Nat.le_of_ble_eq_true rfl, Nat.le_of_ble_eq_true rfl⟩ d_Tw_divide_74 ?_
            refine lv_iload hx hb d_Tw_divide_77 (lv_at hl 0 rfl) ?_
            refine lv_iload hx hb d_Tw_divide_79 (lv_at hl 3 rfl) ?_
            refine nb_callSl (As := [.long (mf_Tw_infinite f), .int k0, .int (nI f)]) (rest := []) hx hb hml hown hts (c_Tw_signed l ad (mf_Tw_infinite f) k0 f h_f) nb_t302 nb_t303 nb_t2 nb_t304 hd_Tw_signed rfl ⟨Nat.le_of_ble_eq_true rfl, Nat.le_of_ble_eq_true rfl⟩ ⟨rfl, rfl⟩ hC hS hl.1 rfl (Nat.le_of_ble_eq_true rfl) ⟨Nat.le_of_ble_eq_true rfl, Nat.le_of_ble_eq_true rfl⟩ d_Tw_divide_81 ?_
            exact W.lret hx hb hr (fun t ht hW => ⟨_, rfl, (by rw [hE, mf_Tw_divide_b20, if_pos h2, if_pos h3, if_neg h4, if_pos h13]), ht⟩) t_nil d_Tw_divide_84
          · refine lv_iload hx hb d_Tw_divide_64 (lv_at hl 3 rfl) ?_
            refine nb_callSl (As := [.int (nI f)]) (rest := []) hx hb hml hown hts (c_Tw_none l ad f h_f) nb_t291 nb_t292 nb_t2 nb_t293 hd_Tw_none rfl ⟨Nat.le_of_ble_eq_true rfl, Nat.le_of_ble_eq_true rfl⟩ ⟨rfl, rfl⟩ hC hS hl.1 rfl (Nat.le_of_ble_eq_true rfl) ⟨Nat.le_of_ble_eq_true rfl, Nat.le_of_ble_eq_true rfl⟩ d_Tw_divide_66 ?_
            refine lv_goto (tgt := 84) hx hb d_Tw_divide_69 (by decide) ?_
            exact W.lret hx hb hr (fun t ht hW => ⟨_, rfl, (by rw [hE, mf_Tw_divide_b20, if_pos h2, if_pos h3, if_neg h4, if_neg h13]), ht⟩) t_nil d_Tw_divide_84
      · refine lv_iload hx hb d_Tw_divide_40 (lv_at hl 3 rfl) ?_
        refine nb_callSl (As := [.int (nI f)]) (rest := []) hx hb hml hown hts (c_Tw_none l ad f h_f) nb_t291 nb_t292 nb_t2 nb_t293 hd_Tw_none rfl ⟨Nat.le_of_ble_eq_true rfl, Nat.le_of_ble_eq_true rfl⟩ ⟨rfl, rfl⟩ hC hS hl.1 rfl (Nat.le_of_ble_eq_true rfl) ⟨Nat.le_of_ble_eq_true rfl, Nat.le_of_ble_eq_true rfl⟩ d_Tw_divide_42 ?_
        exact W.lret hx hb hr (fun t ht hW => ⟨_, rfl, (by rw [hE, mf_Tw_divide_b20, if_pos h2, if_neg h3]), ht⟩) t_nil d_Tw_divide_45
  refine lv_lload_n hx hb d_Tw_divide_0 rfl (lv_at hl 0 rfl) ?_
  refine lv_iload hx hb d_Tw_divide_1 (lv_at hl 2 rfl) ?_
  refine nb_callSi (As := [.long a, .int (nI f)]) (rest := []) hx hb hml hown hts (c_Tw_minus l ad a f h_f) nb_t299 nb_t300 nb_t2 nb_t301 hd_Tw_minus rfl ⟨Nat.le_of_ble_eq_true rfl, Nat.le_of_ble_eq_true rfl⟩ ⟨rfl, rfl⟩ hC hS hl.1 rfl (Nat.le_of_ble_eq_true rfl) ⟨Nat.le_of_ble_eq_true rfl, Nat.le_of_ble_eq_true rfl⟩ d_Tw_divide_3 ?_
  refine lv_lload_n hx hb d_Tw_divide_6 rfl (lv_at hl 1 rfl) ?_
  refine lv_iload hx hb d_Tw_divide_7 (lv_at hl 2 rfl) ?_
  refine nb_callSi (As := [.long b, .int (nI f)]) (rest := [.int (mf_Tw_minus a f)]) hx hb hml hown hts (c_Tw_minus l ad b f h_f) nb_t299 nb_t300 nb_t2 nb_t301 hd_Tw_minus rfl ⟨Nat.le_of_ble_eq_true rfl, Nat.le_of_ble_eq_true rfl⟩ ⟨rfl, rfl⟩ hC hS hl.1 rfl (Nat.le_of_ble_eq_true rfl) ⟨Nat.le_of_ble_eq_true rfl, Nat.le_of_ble_eq_true rfl⟩ d_Tw_divide_9 ?_
  refine lv_icmp_eq (tgt := 19) hx hb d_Tw_divide_12 (by decide) (fun h1 => ?_) (fun h1 => ?_)
  · refine lv_iconst (v := 0) hx hb d_Tw_divide_19 (by decide) ?_
    exact b20 (0 : Int32) ls (lv_sub hl [0, 1, 2] rfl)  (by rw [mf_Tw_divide, if_pos h1])
  · refine lv_iconst (v := 1) hx hb d_Tw_divide_15 (by decide) ?_
    refine lv_goto (tgt := 20) hx hb d_Tw_divide_16 (by decide) ?_
    exact b20 (1 : Int32) ls (lv_sub hl [0, 1, 2] rfl)  (by rw [mf_Tw_divide, if_neg h1])
def y_Tw_rest : MethodName := ⟨"NumberBenchModel", "rest", "(JJI)J"⟩
abbrev w_Tw_rest : List Cond := Cond.code y_Tw_rest prog_4_method_20_code 13 (Option.some FieldType.long) :: nb_tb
theorem hd_Tw_rest : y_Tw_rest.cls ≠ "java/lang/invoke/MethodHandle" ∧ y_Tw_rest.cls ≠ "java/lang/invoke/VarHandle" ∧ (parseMethodDescriptor y_Tw_rest.desc).map (fun d => d.parameters.length) = some 3 := by decide +kernel
theorem d_Tw_rest_0 : decode prog_4_method_20_code 0 = .ok (.lload_n 0, 1) := by decide +kernel
theorem d_Tw_rest_1 : decode prog_4_method_20_code 1 = .ok (.iload 4, 2) := by decide +kernel
theorem d_Tw_rest_3 : decode prog_4_method_20_code 3 = .ok (.invokestatic 56, 3) := by decide +kernel
theorem d_Tw_rest_6 : decode prog_4_method_20_code 6 = .ok (.ifCond .ne 30, 3) := by decide +kernel
theorem d_Tw_rest_9 : decode prog_4_method_20_code 9 = .ok (.lload_n 2, 1) := by decide +kernel
theorem d_Tw_rest_10 : decode prog_4_method_20_code 10 = .ok (.iload 4, 2) := by decide +kernel
theorem d_Tw_rest_12 : decode prog_4_method_20_code 12 = .ok (.invokestatic 56, 3) := by decide +kernel
theorem d_Tw_rest_15 : decode prog_4_method_20_code 15 = .ok (.ifCond .ne 21, 3) := by decide +kernel
theorem d_Tw_rest_18 : decode prog_4_method_20_code 18 = .ok (.lload_n 0, 1) := by decide +kernel
theorem d_Tw_rest_19 : decode prog_4_method_20_code 19 = .ok (.iload 4, 2) := by decide +kernel
theorem d_Tw_rest_21 : decode prog_4_method_20_code 21 = .ok (.invokestatic 63, 3) := by decide +kernel
theorem d_Tw_rest_24 : decode prog_4_method_20_code 24 = .ok (.ifCond .ne 12, 3) := by decide +kernel
theorem d_Tw_rest_27 : decode prog_4_method_20_code 27 = .ok (.lload_n 2, 1) := by decide +kernel
theorem d_Tw_rest_28 : decode prog_4_method_20_code 28 = .ok (.iload 4, 2) := by decide +kernel
theorem d_Tw_rest_30 : decode prog_4_method_20_code 30 = .ok (.invokestatic 66, 3) := by decide +kernel
theorem d_Tw_rest_33 : decode prog_4_method_20_code 33 = .ok (.ifCond .eq 9, 3) := by decide +kernel
theorem d_Tw_rest_36 : decode prog_4_method_20_code 36 = .ok (.iload 4, 2) := by decide +kernel
theorem d_Tw_rest_38 : decode prog_4_method_20_code 38 = .ok (.invokestatic 60, 3) := by decide +kernel
theorem d_Tw_rest_41 : decode prog_4_method_20_code 41 = .ok (.lreturn, 1) := by decide +kernel
theorem d_Tw_rest_42 : decode prog_4_method_20_code 42 = .ok (.lload_n 2, 1) := by decide +kernel
theorem d_Tw_rest_43 : decode prog_4_method_20_code 43 = .ok (.iload 4, 2) := by decide +kernel
theorem d_Tw_rest_45 : decode prog_4_method_20_code 45 = .ok (.invokestatic 63, 3) := by decide +kernel
theorem d_Tw_rest_48 : decode prog_4_method_20_code 48 = .ok (.ifCond .ne 19, 3) := by decide +kernel
theorem d_Tw_rest_51 : decode prog_4_method_20_code 51 = .ok (.lload_n 0, 1) := by decide +kernel
theorem d_Tw_rest_52 : decode prog_4_method_20_code 52 = .ok (.iload 4, 2) := by decide +kernel
theorem d_Tw_rest_54 : decode prog_4_method_20_code 54 = .ok (.invokestatic 15, 3) := by decide +kernel
theorem d_Tw_rest_57 : decode prog_4_method_20_code 57 = .ok (.lload_n 2, 1) := by decide +kernel
theorem d_Tw_rest_58 : decode prog_4_method_20_code 58 = .ok (.iload 4, 2) := by decide +kernel
theorem d_Tw_rest_60 : decode prog_4_method_20_code 60 = .ok (.invokestatic 15, 3) := by decide +kernel
theorem d_Tw_rest_63 : decode prog_4_method_20_code 63 = .ok (.lcmp, 1) := by decide +kernel
theorem d_Tw_rest_64 : decode prog_4_method_20_code 64 = .ok (.ifCond .ge 5, 3) := by decide +kernel
theorem d_Tw_rest_67 : decode prog_4_method_20_code 67 = .ok (.lload_n 0, 1) := by decide +kernel
theorem d_Tw_rest_68 : decode prog_4_method_20_code 68 = .ok (.lreturn, 1) := by decide +kernel
theorem d_Tw_rest_69 : decode prog_4_method_20_code 69 = .ok (.lload_n 0, 1) := by decide +kernel
theorem d_Tw_rest_70 : decode prog_4_method_20_code 70 = .ok (.iload 4, 2) := by decide +kernel
theorem d_Tw_rest_72 : decode prog_4_method_20_code 72 = .ok (.invokestatic 73, 3) := by decide +kernel
theorem d_Tw_rest_75 : decode prog_4_method_20_code 75 = .ok (.lstore 5, 2) := by decide +kernel
theorem d_Tw_rest_77 : decode prog_4_method_20_code 77 = .ok (.lload_n 2, 1) := by decide +kernel
theorem d_Tw_rest_78 : decode prog_4_method_20_code 78 = .ok (.iload 4, 2) := by decide +kernel
theorem d_Tw_rest_80 : decode prog_4_method_20_code 80 = .ok (.invokestatic 73, 3) := by decide +kernel
theorem d_Tw_rest_83 : decode prog_4_method_20_code 83 = .ok (.lstore 7, 2) := by decide +kernel
theorem d_Tw_rest_85 : decode prog_4_method_20_code 85 = .ok (.lload_n 0, 1) := by decide +kernel
theorem d_Tw_rest_86 : decode prog_4_method_20_code 86 = .ok (.iload 4, 2) := by decide +kernel
theorem d_Tw_rest_88 : decode prog_4_method_20_code 88 = .ok (.invokestatic 69, 3) := by decide +kernel
theorem d_Tw_rest_91 : decode prog_4_method_20_code 91 = .ok (.lload_n 2, 1) := by decide +kernel
theorem d_Tw_rest_92 : decode prog_4_method_20_code 92 = .ok (.iload 4, 2) := by decide +kernel
theorem d_Tw_rest_94 : decode prog_4_method_20_code 94 = .ok (.invokestatic 69, 3) := by decide +kernel
theorem d_Tw_rest_97 : decode prog_4_method_20_code 97 = .ok (.isub, 1) := by decide +kernel
theorem d_Tw_rest_98 : decode prog_4_method_20_code 98 = .ok (.istore 9, 2) := by decide +kernel
theorem d_Tw_rest_100 : decode prog_4_method_20_code 100 = .ok (.iload 9, 2) := by decide +kernel
theorem d_Tw_rest_102 : decode prog_4_method_20_code 102 = .ok (.ifCond .ge 30, 3) := by decide +kernel
theorem d_Tw_rest_105 : decode prog_4_method_20_code 105 = .ok (.lload_n 0, 1) := by decide +kernel
theorem d_Tw_rest_106 : decode prog_4_method_20_code 106 = .ok (.iload 4, 2) := by decide +kernel
theorem d_Tw_rest_108 : decode prog_4_method_20_code 108 = .ok (.invokestatic 76, 3) := by decide +kernel
theorem d_Tw_rest_111 : decode prog_4_method_20_code 111 = .ok (.lload 5, 2) := by decide +kernel
theorem d_Tw_rest_113 : decode prog_4_method_20_code 113 = .ok (.lload 7, 2) := by decide +kernel
theorem d_Tw_rest_115 : decode prog_4_method_20_code 115 = .ok (.iload 9, 2) := by decide +kernel
theorem d_Tw_rest_117 : decode prog_4_method_20_code 117 = .ok (.ineg, 1) := by decide +kernel
theorem d_Tw_rest_118 : decode prog_4_method_20_code 118 = .ok (.lshl, 1) := by decide +kernel
theorem d_Tw_rest_119 : decode prog_4_method_20_code 119 = .ok (.lrem, 1) := by decide +kernel
theorem d_Tw_rest_120 : decode prog_4_method_20_code 120 = .ok (.lload_n 0, 1) := by decide +kernel
theorem d_Tw_rest_121 : decode prog_4_method_20_code 121 = .ok (.iload 4, 2) := by decide +kernel
theorem d_Tw_rest_123 : decode prog_4_method_20_code 123 = .ok (.invokestatic 69, 3) := by decide +kernel
theorem d_Tw_rest_126 : decode prog_4_method_20_code 126 = .ok (.iload 4, 2) := by decide +kernel
theorem d_Tw_rest_128 : decode prog_4_method_20_code 128 = .ok (.invokestatic 89, 3) := by decide +kernel
theorem d_Tw_rest_131 : decode prog_4_method_20_code 131 = .ok (.lreturn, 1) := by decide +kernel
theorem d_Tw_rest_132 : decode prog_4_method_20_code 132 = .ok (.lload 5, 2) := by decide +kernel
theorem d_Tw_rest_134 : decode prog_4_method_20_code 134 = .ok (.lload 7, 2) := by decide +kernel
theorem d_Tw_rest_136 : decode prog_4_method_20_code 136 = .ok (.lrem, 1) := by decide +kernel
theorem d_Tw_rest_137 : decode prog_4_method_20_code 137 = .ok (.lstore 10, 2) := by decide +kernel
theorem d_Tw_rest_139 : decode prog_4_method_20_code 139 = .ok (.iconst 0, 1) := by decide +kernel
theorem d_Tw_rest_140 : decode prog_4_method_20_code 140 = .ok (.istore 12, 2) := by decide +kernel
theorem d_Tw_rest_142 : decode prog_4_method_20_code 142 = .ok (.iload 12, 2) := by decide +kernel
theorem d_Tw_rest_144 : decode prog_4_method_20_code 144 = .ok (.iload 9, 2) := by decide +kernel
theorem d_Tw_rest_146 : decode prog_4_method_20_code 146 = .ok (.if_icmp .ge 18, 3) := by decide +kernel
theorem d_Tw_rest_149 : decode prog_4_method_20_code 149 = .ok (.lload 10, 2) := by decide +kernel
theorem d_Tw_rest_151 : decode prog_4_method_20_code 151 = .ok (.iconst 1, 1) := by decide +kernel
theorem d_Tw_rest_152 : decode prog_4_method_20_code 152 = .ok (.lshl, 1) := by decide +kernel
theorem d_Tw_rest_153 : decode prog_4_method_20_code 153 = .ok (.lload 7, 2) := by decide +kernel
theorem d_Tw_rest_155 : decode prog_4_method_20_code 155 = .ok (.lrem, 1) := by decide +kernel
theorem d_Tw_rest_156 : decode prog_4_method_20_code 156 = .ok (.lstore 10, 2) := by decide +kernel
theorem d_Tw_rest_158 : decode prog_4_method_20_code 158 = .ok (.iinc 12 1, 3) := by decide +kernel
theorem d_Tw_rest_161 : decode prog_4_method_20_code 161 = .ok (.goto (-19), 3) := by decide +kernel
theorem d_Tw_rest_164 : decode prog_4_method_20_code 164 = .ok (.lload_n 0, 1) := by decide +kernel
theorem d_Tw_rest_165 : decode prog_4_method_20_code 165 = .ok (.iload 4, 2) := by decide +kernel
theorem d_Tw_rest_167 : decode prog_4_method_20_code 167 = .ok (.invokestatic 76, 3) := by decide +kernel
theorem d_Tw_rest_170 : decode prog_4_method_20_code 170 = .ok (.lload 10, 2) := by decide +kernel
theorem d_Tw_rest_172 : decode prog_4_method_20_code 172 = .ok (.lload_n 2, 1) := by decide +kernel
theorem d_Tw_rest_173 : decode prog_4_method_20_code 173 = .ok (.iload 4, 2) := by decide +kernel
theorem d_Tw_rest_175 : decode prog_4_method_20_code 175 = .ok (.invokestatic 69, 3) := by decide +kernel
theorem d_Tw_rest_178 : decode prog_4_method_20_code 178 = .ok (.iload 4, 2) := by decide +kernel
theorem d_Tw_rest_180 : decode prog_4_method_20_code 180 = .ok (.invokestatic 89, 3) := by decide +kernel
theorem d_Tw_rest_183 : decode prog_4_method_20_code 183 = .ok (.lreturn, 1) := by decide +kernel
set_option maxHeartbeats 1200000 in
set_option maxRecDepth 100000 in
theorem c_Tw_rest (l : Launch) (ad : Nat → Nat) (a : Int64) (b : Int64) (f : Nat) (h_f : f < 2) : Met l y_Tw_rest w_Tw_rest ({ frames := 4, cells := 0, slots := 0, locals := 101 } : Room) (va_Pc [.long a, .long b, .int (nI f)] (nb_K ad)) (vp_Sl (fun r => r = mf_Tw_rest a b f)) 0 0 (fun _ => False) := by
  refine Met.ofW (cc := prog_4_method_20_code) (maxL := 13) (ret := some .long) (by decide) rfl ?_
  intro p e s m args below meth c s₁ B hml hv
  obtain ⟨rfl, hC⟩ := hv
  have hx := B.exec
  have hb := B.bytes
  have hr := B.returns
  have hts := atoms_spec (ws := w_Tw_rest) B.pre
  have hown : s.vm.findClass "NumberBenchModel" = some m.cls := findClass_of_methodNamed B.named
  have hlocks := B.notSynchronized
  have hC : nb_C ad (fun _ => False) s s.heap := hC
  have hS : va_S (fun _ => False) s.heap s.heap [] := va_S.rf
  have hl := lv_entry ([.long a, .long b, .int (nI f)]) (n := 13) (Nat.le_of_ble_eq_true rfl)
  rw [lg_entry_eq]
  generalize (lg_sl ([.long a, .long b, .int (nI f)]) ++ List.replicate (13 - (lg_sl ([.long a, .long b, .int (nI f)])).length) Slot.unset).toArray = ls at hl ⊢
  have hl : lv_has ls 13 [(0, .long a), (2, .long b), (4, .int (nI f))] := hl
  have b142 : ∀ (fuel : Nat) (x7 : Int64) (x9 : Int32) (x10 : Int64) (x12 : Int32) (ls : Array Slot), ((x9.toInt - x12.toInt).toNat) < fuel → lv_has ls 13 [(0, .long a), (2, .long b), (4, .int (nI f)), (7, .long x7), (9, .int x9), (10, .long x10), (12, .int x12)] → (¬ x7 = 0) → mf_Tw_rest a b f = mf_Tw_rest_b142 a b f fuel x7 x9 x10 x12 → W p l e (headSpec w_Tw_rest ({ frames := 4, cells := 0, slots := 0, locals := 101 } : Room)).room s m ([.long a, .long b, .int (nI f)] : List Value).toArray below meth c s.heap [] 0 0 (MQ below (vp_Sl (fun r => r = mf_Tw_rest a b f)) ([.long a, .long b, .int (nI f)] : List Value).toArray s 0 0 (fun _ => False)) (F0 m 142 ls []) := by
    intro fuel
    induction fuel with
    | zero => intro x7 x9 x10 x12 ls hf; exact absurd hf (Nat.not_lt_zero _)
    | succ fuel ih =>
      intro x7 x9 x10 x12 ls hf hl hd hE
      refine lv_iload hx hb d_Tw_rest_142 (lv_at hl 6 rfl) ?_
      refine lv_iload hx hb d_Tw_rest_144 (lv_at hl 4 rfl) ?_
      refine lv_icmp_ge (tgt := 164) hx hb d_Tw_rest_146 (by decide) (fun h9 => ?_) (fun h9 => ?_)
      · refine lv_lload_n hx hb d_Tw_rest_164 rfl (lv_at hl 0 rfl) ?_
        refine lv_iload hx hb d_Tw_rest_165 (lv_at hl 2 rfl) ?_
        refine nb_callSi (As := [.long a, .int (nI f)]) (rest := []) hx hb hml hown hts (c_Tw_minus l ad a f h_f) nb_t299 nb_t300 nb_t2 nb_t301 hd_Tw_minus rfl ⟨Nat.le_of_ble_eq_true rfl, Nat.le_of_ble_eq_true rfl⟩ ⟨rfl, rfl⟩ hC hS hl.1 rfl (Nat.le_of_ble_eq_true rfl) ⟨Nat.le_of_ble_eq_true rfl, Nat.le_of_ble_eq_true rfl⟩ d_Tw_rest_167 ?_
        refine lv_lload hx hb d_Tw_rest_170 (lv_at hl 5 rfl) ?_
        refine lv_lload_n hx hb d_Tw_rest_172 rfl (lv_at hl 1 rfl) ?_
        refine lv_iload hx hb d_Tw_rest_173 (lv_at hl 2 rfl) ?_
        refine nb_callSi (As := [.long b, .int (nI f)]) (rest := [.long x10, .int (mf_Tw_minus a f)]) hx hb hml hown hts (c_Tw_power l ad b f h_f) nb_t310 nb_t311 nb_t2 nb_t312 hd_Tw_power rfl ⟨Nat.le_of_ble_eq_true rfl, Nat.le_of_ble_eq_true rfl⟩ ⟨rfl, rfl⟩ hC hS hl.1 rfl (Nat.le_of_ble_eq_true rfl) ⟨Nat.le_of_ble_eq_true rfl, Nat.le_of_ble_eq_true rfl⟩ d_Tw_rest_175 ?_
        refine lv_iload hx hb d_Tw_rest_178 (lv_at hl 2 rfl) ?_
        refine nb_callSl (As := [.int (mf_Tw_minus a f), .long x10, .int (mf_Tw_power b f), .int (nI f)]) (rest := []) hx hb hml hown hts (c_Tw_exact l ad (mf_Tw_minus a f) x10 (mf_Tw_power b f) f h_f) nb_t316 nb_t317 nb_t2 nb_t318 hd_Tw_exact rfl ⟨Nat.le_of_ble_eq_true rfl, Nat.le_of_ble_eq_true rfl⟩ ⟨rfl, rfl⟩ hC hS hl.1 rfl (Nat.le_of_ble_eq_true rfl) ⟨Nat.le_of_ble_eq_true rfl, Nat.le_of_ble_eq_true rfl⟩ d_Tw_rest_180 ?_
        exact W.lret hx hb hr (fun t ht hW => ⟨_, rfl, (by rw [hE, mf_Tw_rest_b142, if_pos h9]), ht⟩) t_nil d_Tw_rest_183
      · refine lv_lload hx hb d_Tw_rest_149 (lv_at hl 5 rfl) ?_
        refine lv_iconst (v := 1) hx hb d_Tw_rest_151 (by decide) ?_
        refine lv_lshl hx hb d_Tw_rest_152 rfl ?_
        refine lv_lload hx hb d_Tw_rest_153 (lv_at hl 3 rfl) ?_
        refine lv_lrem hx hb d_Tw_rest_155 hd ?_
        refine lv_topl (fun v10 ev10 => ?_)
        refine lv_lstore hx hb d_Tw_rest_156 hl (by decide) rfl (fun ls hl => ?_)
        have hl : lv_has ls 13 [(10, .long v10), (0, .long a), (2, .long b), (4, .int (nI f)), (7, .long x7), (9, .int x9), (12, .int x12)] := hl
        refine lv_iinc (k := 6) (v := x12 + (1 : Int32)) hx hb d_Tw_rest_158 hl rfl rfl (by decide) rfl (fun ls hl => ?_)
        have hl : lv_has ls 13 [(12, .int (x12 + (1 : Int32))), (10, .long v10), (0, .long a), (2, .long b), (4, .int (nI f)), (7, .long x7), (9, .int x9)] := hl
        refine lv_goto (tgt := 142) hx hb d_Tw_rest_161 (by decide) ?_
        exact ih x7 x9 v10 (x12 + (1 : Int32)) ls (Nat.lt_of_lt_of_le (lp_up h9) (Nat.le_of_lt_succ hf)) (lv_sub hl [2, 3, 4, 5, 6, 1, 0] rfl) hd (by subst ev10; rw [hE, mf_Tw_rest_b142, if_neg h9])
  refine lv_lload_n hx hb d_Tw_rest_0 rfl (lv_at hl 0 rfl) ?_
  refine lv_iload hx hb d_Tw_rest_1 (lv_at hl 2 rfl) ?_
  refine nb_callSi (As := [.long a, .int (nI f)]) (rest := []) hx hb hml hown hts (c_Tw_isNone l ad a f h_f) nb_t277 nb_t278 nb_t2 nb_t279 hd_Tw_isNone rfl ⟨Nat.le_of_ble_eq_true rfl, Nat.le_of_ble_eq_true rfl⟩ ⟨rfl, rfl⟩ hC hS hl.1 rfl (Nat.le_of_ble_eq_true rfl) ⟨Nat.le_of_ble_eq_true rfl, Nat.le_of_ble_eq_true rfl⟩ d_Tw_rest_3 ?_
  refine lv_if_ne (tgt := 36) hx hb d_Tw_rest_6 (by decide) (fun h1 => ?_) (fun h1 => ?_)
  · refine lv_iload hx hb d_Tw_rest_36 (lv_at hl 2 rfl) ?_
    refine nb_callSl (As := [.int (nI f)]) (rest := []) hx hb hml hown hts (c_Tw_none l ad f h_f) nb_t291 nb_t292 nb_t2 nb_t293 hd_Tw_none rfl ⟨Nat.le_of_ble_eq_true rfl, Nat.le_of_ble_eq_true rfl⟩ ⟨rfl, rfl⟩ hC hS hl.1 rfl (Nat.le_of_ble_eq_true rfl) ⟨Nat.le_of_ble_eq_true rfl, Nat.le_of_ble_eq_true rfl⟩ d_Tw_rest_38 ?_
    exact W.lret hx hb hr (fun t ht hW => ⟨_, rfl, (by rw [mf_Tw_rest, if_neg h1]), ht⟩) t_nil d_Tw_rest_41
  · refine lv_lload_n hx hb d_Tw_rest_9 rfl (lv_at hl 1 rfl) ?_
    refine lv_iload hx hb d_Tw_rest_10 (lv_at hl 2 rfl) ?_
    refine nb_callSi (As := [.long b, .int (nI f)]) (rest := []) hx hb hml hown hts (c_Tw_isNone l ad b f h_f) nb_t277 nb_t278 nb_t2 nb_t279 hd_Tw_isNone rfl ⟨Nat.le_of_ble_eq_true rfl, Nat.le_of_ble_eq_true rfl⟩ ⟨rfl, rfl⟩ hC hS hl.1 rfl (Nat.le_of_ble_eq_true rfl) ⟨Nat.le_of_ble_eq_true rfl, Nat.le_of_ble_eq_true rfl⟩ d_Tw_rest_12 ?_
    refine lv_if_ne (tgt := 36) hx hb d_Tw_rest_15 (by decide) (fun h2 => ?_) (fun h2 => ?_)
    · refine lv_iload hx hb d_Tw_rest_36 (lv_at hl 2 rfl) ?_
      refine nb_callSl (As := [.int (nI f)]) (rest := []) hx hb hml hown hts (c_Tw_none l ad f h_f) nb_t291 nb_t292 nb_t2 nb_t293 hd_Tw_none rfl ⟨Nat.le_of_ble_eq_true rfl, Nat.le_of_ble_eq_true rfl⟩ ⟨rfl, rfl⟩ hC hS hl.1 rfl (Nat.le_of_ble_eq_true rfl) ⟨Nat.le_of_ble_eq_true rfl, Nat.le_of_ble_eq_true rfl⟩ d_Tw_rest_38 ?_
      exact W.lret hx hb hr (fun t ht hW => ⟨_, rfl, (by rw [mf_Tw_rest, if_pos h1, if_neg h2]), ht⟩) t_nil d_Tw_rest_41
    · refine lv_lload_n hx hb d_Tw_rest_18 rfl (lv_at hl 0 rfl) ?_
      refine lv_iload hx hb d_Tw_rest_19 (lv_at hl 2 rfl) ?_
      refine nb_callSi (As := [.long a, .int (nI f)]) (rest := []) hx hb hml hown hts (c_Tw_isInfinite l ad a f h_f) nb_t296 nb_t297 nb_t2 nb_t298 hd_Tw_isInfinite rfl ⟨Nat.le_of_ble_eq_true rfl, Nat.le_of_ble_eq_true rfl⟩ ⟨rfl, rfl⟩ hC hS hl.1 rfl (Nat.le_of_ble_eq_true rfl) ⟨Nat.le_of_ble_eq_true rfl, Nat.le_of_ble_eq_true rfl⟩ d_Tw_rest_21 ?_
      refine lv_if_ne (tgt := 36) hx hb d_Tw_rest_24 (by decide) (fun h3 => ?_) (fun h3 => ?_)
      · refine lv_iload hx hb d_Tw_rest_36 (lv_at hl 2 rfl) ?_
        refine nb_callSl (As := [.int (nI f)]) (rest := []) hx hb hml hown hts (c_Tw_none l ad f h_f) nb_t291 nb_t292 nb_t2 nb_t293 hd_Tw_none rfl ⟨Nat.le_of_ble_eq_true rfl, Nat.le_of_ble_eq_true rfl⟩ ⟨rfl, rfl⟩ hC hS hl.1 rfl (Nat.le_of_ble_eq_true rfl) ⟨Nat.le_of_ble_eq_true rfl, Nat.le_of_ble_eq_true rfl⟩ d_Tw_rest_38 ?_
        exact W.lret hx hb hr (fun t ht hW => ⟨_, rfl, (by rw [mf_Tw_rest, if_pos h1, if_pos h2, if_neg h3]), ht⟩) t_nil d_Tw_rest_41
      · refine lv_lload_n hx hb d_Tw_rest_27 rfl (lv_at hl 1 rfl) ?_
        refine lv_iload hx hb d_Tw_rest_28 (lv_at hl 2 rfl) ?_
        refine nb_callSi (As := [.long b, .int (nI f)]) (rest := []) hx hb hml hown hts (c_Tw_isZero l ad b f h_f) nb_t329 nb_t330 nb_t2 nb_t331 hd_Tw_isZero rfl ⟨Nat.le_of_ble_eq_true rfl, Nat.le_of_ble_eq_true rfl⟩ ⟨rfl, rfl⟩ hC hS hl.1 rfl (Nat.le_of_ble_eq_true rfl) ⟨Nat.le_of_ble_eq_true rfl, Nat.le_of_ble_eq_true rfl⟩ d_Tw_rest_30 ?_
        refine lv_if_eq (tgt := 42) hx hb d_Tw_rest_33 (by decide) (fun h4 => ?_) (fun h4 => ?_)
        · refine lv_lload_n hx hb d_Tw_rest_42 rfl (lv_at hl 1 rfl) ?_
          refine lv_iload hx hb d_Tw_rest_43 (lv_at hl 2 rfl) ?_
          refine nb_callSi (As := [.long b, .int (nI f)]) (rest := []) hx hb hml hown hts (c_Tw_isInfinite l ad b f h_f) nb_t296 nb_t297 nb_t2 nb_t298 hd_Tw_isInfinite rfl ⟨Nat.le_of_ble_eq_true rfl, Nat.le_of_ble_eq_true rfl⟩ ⟨rfl, rfl⟩ hC hS hl.1 rfl (Nat.le_of_ble_eq_true rfl) ⟨Nat.le_of_ble_eq_true rfl, Nat.le_of_ble_eq_true rfl⟩ d_Tw_rest_45 ?_
          refine lv_if_ne (tgt := 67) hx hb d_Tw_rest_48 (by decide) (fun h5 => ?_) (fun h5 => ?_)
          · refine lv_lload_n hx hb d_Tw_rest_67 rfl (lv_at hl 0 rfl) ?_
            exact W.lret hx hb hr (fun t ht hW => ⟨_, rfl, (by rw [mf_Tw_rest, if_pos h1, if_pos h2, if_pos h3, if_pos h4, if_neg h5]), ht⟩) t_nil d_Tw_rest_68
          · refine lv_lload_n hx hb d_Tw_rest_51 rfl (lv_at hl 0 rfl) ?_
            refine lv_iload hx hb d_Tw_rest_52 (lv_at hl 2 rfl) ?_
            refine nb_callSl (As := [.long a, .int (nI f)]) (rest := []) hx hb hml hown hts (c_Tw_size l ad a f h_f) nb_t280 nb_t281 nb_t2 nb_t282 hd_Tw_size rfl ⟨Nat.le_of_ble_eq_true rfl, Nat.le_of_ble_eq_true rfl⟩ ⟨rfl, rfl⟩ hC hS hl.1 rfl (Nat.le_of_ble_eq_true rfl) ⟨Nat.le_of_ble_eq_true rfl, Nat.le_of_ble_eq_true rfl⟩ d_Tw_rest_54 ?_
            refine lv_lload_n hx hb d_Tw_rest_57 rfl (lv_at hl 1 rfl) ?_
            refine lv_iload hx hb d_Tw_rest_58 (lv_at hl 2 rfl) ?_
            refine nb_callSl (As := [.long b, .int (nI f)]) (rest := [.long (mf_Tw_size a f)]) hx hb hml hown hts (c_Tw_size l ad b f h_f) nb_t280 nb_t281 nb_t2 nb_t282 hd_Tw_size rfl ⟨Nat.le_of_ble_eq_true rfl, Nat.le_of_ble_eq_true rfl⟩ ⟨rfl, rfl⟩ hC hS hl.1 rfl (Nat.le_of_ble_eq_true rfl) ⟨Nat.le_of_ble_eq_true rfl, Nat.le_of_ble_eq_true rfl⟩ d_Tw_rest_60 ?_
            refine nb_lc_ge (tgt := 69) hx hb d_Tw_rest_63 d_Tw_rest_64 (by decide) (fun h6 => ?_) (fun h6 => ?_)
            · refine lv_lload_n hx hb d_Tw_rest_69 rfl (lv_at hl 0 rfl) ?_
              refine lv_iload hx hb d_Tw_rest_70 (lv_at hl 2 rfl) ?_
              refine nb_callSl (As := [.long a, .int (nI f)]) (rest := []) hx hb hml hown hts (c_Tw_whole l ad a f h_f) nb_t305 nb_t306 nb_t2 nb_t307 hd_Tw_whole rfl ⟨Nat.le_of_ble_eq_true rfl, Nat.le_of_ble_eq_true rfl⟩ ⟨rfl, rfl⟩ hC hS hl.1 rfl (Nat.le_of_ble_eq_true rfl) ⟨Nat.le_of_ble_eq_true rfl, Nat.le_of_ble_eq_true rfl⟩ d_Tw_rest_72 ?_
              refine lv_lstore hx hb d_Tw_rest_75 hl (by decide) rfl (fun ls hl => ?_)
              have hl : lv_has ls 13 [(5, .long (mf_Tw_whole a f)), (0, .long a), (2, .long b), (4, .int (nI f))] := hl
              refine lv_lload_n hx hb d_Tw_rest_77 rfl (lv_at hl 2 rfl) ?_
              refine lv_iload hx hb d_Tw_rest_78 (lv_at hl 3 rfl) ?_
              refine nb_callSl (As := [.long b, .int (nI f)]) (rest := []) hx hb hml hown hts (c_Tw_whole l ad b f h_f) nb_t305 nb_t306 nb_t2 nb_t307 hd_Tw_whole rfl ⟨Nat.le_of_ble_eq_true rfl, Nat.le_of_ble_eq_true rfl⟩ ⟨rfl, rfl⟩ hC hS hl.1 rfl (Nat.le_of_ble_eq_true rfl) ⟨Nat.le_of_ble_eq_true rfl, Nat.le_of_ble_eq_true rfl⟩ d_Tw_rest_80 ?_
              refine lv_lstore hx hb d_Tw_rest_83 hl (by decide) rfl (fun ls hl => ?_)
              have hl : lv_has ls 13 [(7, .long (mf_Tw_whole b f)), (5, .long (mf_Tw_whole a f)), (0, .long a), (2, .long b), (4, .int (nI f))] := hl
              refine lv_lload_n hx hb d_Tw_rest_85 rfl (lv_at hl 2 rfl) ?_
              refine lv_iload hx hb d_Tw_rest_86 (lv_at hl 4 rfl) ?_
              refine nb_callSi (As := [.long a, .int (nI f)]) (rest := []) hx hb hml hown hts (c_Tw_power l ad a f h_f) nb_t310 nb_t311 nb_t2 nb_t312 hd_Tw_power rfl ⟨Nat.le_of_ble_eq_true rfl, Nat.le_of_ble_eq_true rfl⟩ ⟨rfl, rfl⟩ hC hS hl.1 rfl (Nat.le_of_ble_eq_true rfl) ⟨Nat.le_of_ble_eq_true rfl, Nat.le_of_ble_eq_true rfl⟩ d_Tw_rest_88 ?_
              refine lv_lload_n hx hb d_Tw_rest_91 rfl (lv_at hl 3 rfl) ?_
              refine lv_iload hx hb d_Tw_rest_92 (lv_at hl 4 rfl) ?_
              refine nb_callSi (As := [.long b, .int (nI f)]) (rest := [.int (mf_Tw_power a f)]) hx hb hml hown hts (c_Tw_power l ad b f h_f) nb_t310 nb_t311 nb_t2 nb_t312 hd_Tw_power rfl ⟨Nat.le_of_ble_eq_true rfl, Nat.le_of_ble_eq_true rfl⟩ ⟨rfl, rfl⟩ hC hS hl.1 rfl (Nat.le_of_ble_eq_true rfl) ⟨Nat.le_of_ble_eq_true rfl, Nat.le_of_ble_eq_true rfl⟩ d_Tw_rest_94 ?_
              refine lv_isub hx hb d_Tw_rest_97 ?_
              refine lv_istore hx hb d_Tw_rest_98 hl (by decide) rfl (fun ls hl => ?_)
              have hl : lv_has ls 13 [(9, .int ((mf_Tw_power a f) - (mf_Tw_power b f))), (7, .long (mf_Tw_whole b f)), (5, .long (mf_Tw_whole a f)), (0, .long a), (2, .long b), (4, .int (nI f))] := hl
              refine lv_iload hx hb d_Tw_rest_100 (lv_at hl 0 rfl) ?_
              refine lv_if_ge (tgt := 132) hx hb d_Tw_rest_102 (by decide) (fun h7 => ?_) (fun h7 => absurd (tw_power_le h_f h6) h7)
              refine lv_lload hx hb d_Tw_rest_132 (lv_at hl 2 rfl) ?_
              refine lv_lload hx hb d_Tw_rest_134 (lv_at hl 1 rfl) ?_
              refine lv_lrem hx hb d_Tw_rest_136 (tw_whole_ne h_f h4) ?_
              refine lv_topl (fun v8 ev8 => ?_)
              refine lv_lstore hx hb d_Tw_rest_137 hl (by decide) rfl (fun ls hl => ?_)
              have hl : lv_has ls 13 [(10, .long v8), (9, .int ((mf_Tw_power a f) - (mf_Tw_power b f))), (7, .long (mf_Tw_whole b f)), (5, .long (mf_Tw_whole a f)), (0, .long a), (2, .long b), (4, .int (nI f))] := hl
              refine lv_iconst (v := 0) hx hb d_Tw_rest_139 (by decide) ?_
              refine lv_istore hx hb d_Tw_rest_140 hl (by decide) rfl (fun ls hl => ?_)
              have hl : lv_has ls 13 [(12, .int (0 : Int32)), (10, .long v8), (9, .int ((mf_Tw_power a f) - (mf_Tw_power b f))), (7, .long (mf_Tw_whole b f)), (5, .long (mf_Tw_whole a f)), (0, .long a), (2, .long b), (4, .int (nI f))] := hl
              exact b142 (((((mf_Tw_power a f) - (mf_Tw_power b f)).toInt - (0 : Int32).toInt).toNat) + 1) (mf_Tw_whole b f) ((mf_Tw_power a f) - (mf_Tw_power b f)) v8 (0 : Int32) ls (Nat.lt_succ_self _) (lv_sub hl [5, 6, 7, 3, 2, 1, 0] rfl) (tw_whole_ne h_f h4) (by subst ev8; rw [mf_Tw_rest, if_pos h1, if_pos h2, if_pos h3, if_pos h4, if_pos h5, if_pos h6])
            · refine lv_lload_n hx hb d_Tw_rest_67 rfl (lv_at hl 0 rfl) ?_
              exact W.lret hx hb hr (fun t ht hW => ⟨_, rfl, (by rw [mf_Tw_rest, if_pos h1, if_pos h2, if_pos h3, if_pos h4, if_pos h5, if_neg h6]), ht⟩) t_nil d_Tw_rest_68
        · refine lv_iload hx hb d_Tw_rest_36 (lv_at hl 2 rfl) ?_
          refine nb_callSl (As := [.int (nI f)]) (rest := []) hx hb hml hown hts (c_Tw_none l ad f h_f) nb_t291 nb_t292 nb_t2 nb_t293 hd_Tw_none rfl ⟨Nat.le_of_ble_eq_true rfl, Nat.le_of_ble_eq_true rfl⟩ ⟨rfl, rfl⟩ hC hS hl.1 rfl (Nat.le_of_ble_eq_true rfl) ⟨Nat.le_of_ble_eq_true rfl, Nat.le_of_ble_eq_true rfl⟩ d_Tw_rest_38 ?_
          exact W.lret hx hb hr (fun t ht hW => ⟨_, rfl, (by rw [mf_Tw_rest, if_pos h1, if_pos h2, if_pos h3, if_neg h4]), ht⟩) t_nil d_Tw_rest_41
