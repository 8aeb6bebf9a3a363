def y_Tw_rounded : MethodName := ⟨"NumberBenchModel", "rounded", "(ZJIZI)J"⟩
abbrev w_Tw_rounded : List Cond := Cond.code y_Tw_rounded prog_4_method_13_code 15 (Option.some FieldType.long) :: nb_tb
theorem hd_Tw_rounded : y_Tw_rounded.cls ≠ "java/lang/invoke/MethodHandle" ∧ y_Tw_rounded.cls ≠ "java/lang/invoke/VarHandle" ∧ (parseMethodDescriptor y_Tw_rounded.desc).map (fun d => d.parameters.length) = some 5 := by decide +kernel
theorem d_Tw_rounded_0 : decode prog_4_method_13_code 0 = .ok (.lload_n 1, 1) := by decide +kernel
theorem d_Tw_rounded_1 : decode prog_4_method_13_code 1 = .ok (.lconst 0, 1) := by decide +kernel
theorem d_Tw_rounded_2 : decode prog_4_method_13_code 2 = .ok (.lcmp, 1) := by decide +kernel
theorem d_Tw_rounded_3 : decode prog_4_method_13_code 3 = .ok (.ifCond .ne 11, 3) := by decide +kernel
theorem d_Tw_rounded_6 : decode prog_4_method_13_code 6 = .ok (.lconst 0, 1) := by decide +kernel
theorem d_Tw_rounded_7 : decode prog_4_method_13_code 7 = .ok (.iload_n 0, 1) := by decide +kernel
theorem d_Tw_rounded_8 : decode prog_4_method_13_code 8 = .ok (.iload 5, 2) := by decide +kernel
theorem d_Tw_rounded_10 : decode prog_4_method_13_code 10 = .ok (.invokestatic 36, 3) := by decide +kernel
theorem d_Tw_rounded_13 : decode prog_4_method_13_code 13 = .ok (.lreturn, 1) := by decide +kernel
theorem d_Tw_rounded_14 : decode prog_4_method_13_code 14 = .ok (.getstatic 23, 3) := by decide +kernel
theorem d_Tw_rounded_17 : decode prog_4_method_13_code 17 = .ok (.iload 5, 2) := by decide +kernel
theorem d_Tw_rounded_19 : decode prog_4_method_13_code 19 = .ok (.iaload, 1) := by decide +kernel
theorem d_Tw_rounded_20 : decode prog_4_method_13_code 20 = .ok (.istore 6, 2) := by decide +kernel
theorem d_Tw_rounded_22 : decode prog_4_method_13_code 22 = .ok (.bipush 64, 2) := by decide +kernel
theorem d_Tw_rounded_24 : decode prog_4_method_13_code 24 = .ok (.lload_n 1, 1) := by decide +kernel
theorem d_Tw_rounded_25 : decode prog_4_method_13_code 25 = .ok (.invokestatic 40, 3) := by decide +kernel
theorem d_Tw_rounded_28 : decode prog_4_method_13_code 28 = .ok (.isub, 1) := by decide +kernel
theorem d_Tw_rounded_29 : decode prog_4_method_13_code 29 = .ok (.istore 7, 2) := by decide +kernel
theorem d_Tw_rounded_31 : decode prog_4_method_13_code 31 = .ok (.iload 7, 2) := by decide +kernel
theorem d_Tw_rounded_33 : decode prog_4_method_13_code 33 = .ok (.iload 6, 2) := by decide +kernel
theorem d_Tw_rounded_35 : decode prog_4_method_13_code 35 = .ok (.isub, 1) := by decide +kernel
theorem d_Tw_rounded_36 : decode prog_4_method_13_code 36 = .ok (.getstatic 27, 3) := by decide +kernel
theorem d_Tw_rounded_39 : decode prog_4_method_13_code 39 = .ok (.iload 5, 2) := by decide +kernel
theorem d_Tw_rounded_41 : decode prog_4_method_13_code 41 = .ok (.iaload, 1) := by decide +kernel
theorem d_Tw_rounded_42 : decode prog_4_method_13_code 42 = .ok (.iload_n 3, 1) := by decide +kernel
theorem d_Tw_rounded_43 : decode prog_4_method_13_code 43 = .ok (.isub, 1) := by decide +kernel
theorem d_Tw_rounded_44 : decode prog_4_method_13_code 44 = .ok (.invokestatic 46, 3) := by decide +kernel
theorem d_Tw_rounded_47 : decode prog_4_method_13_code 47 = .ok (.istore 8, 2) := by decide +kernel
theorem d_Tw_rounded_49 : decode prog_4_method_13_code 49 = .ok (.iload 8, 2) := by decide +kernel
theorem d_Tw_rounded_51 : decode prog_4_method_13_code 51 = .ok (.ifCond .gt 13, 3) := by decide +kernel
theorem d_Tw_rounded_54 : decode prog_4_method_13_code 54 = .ok (.lload_n 1, 1) := by decide +kernel
theorem d_Tw_rounded_55 : decode prog_4_method_13_code 55 = .ok (.iload 8, 2) := by decide +kernel
theorem d_Tw_rounded_57 : decode prog_4_method_13_code 57 = .ok (.ineg, 1) := by decide +kernel
theorem d_Tw_rounded_58 : decode prog_4_method_13_code 58 = .ok (.lshl, 1) := by decide +kernel
theorem d_Tw_rounded_59 : decode prog_4_method_13_code 59 = .ok (.lstore 9, 2) := by decide +kernel
theorem d_Tw_rounded_61 : decode prog_4_method_13_code 61 = .ok (.goto 76, 3) := by decide +kernel
theorem d_Tw_rounded_64 : decode prog_4_method_13_code 64 = .ok (.iload 8, 2) := by decide +kernel
theorem d_Tw_rounded_66 : decode prog_4_method_13_code 66 = .ok (.bipush 63, 2) := by decide +kernel
theorem d_Tw_rounded_68 : decode prog_4_method_13_code 68 = .ok (.if_icmp .le 9, 3) := by decide +kernel
theorem d_Tw_rounded_71 : decode prog_4_method_13_code 71 = .ok (.lconst 0, 1) := by decide +kernel
theorem d_Tw_rounded_72 : decode prog_4_method_13_code 72 = .ok (.lstore 9, 2) := by decide +kernel
theorem d_Tw_rounded_74 : decode prog_4_method_13_code 74 = .ok (.goto 63, 3) := by decide +kernel
theorem d_Tw_rounded_77 : decode prog_4_method_13_code 77 = .ok (.lload_n 1, 1) := by decide +kernel
theorem d_Tw_rounded_78 : decode prog_4_method_13_code 78 = .ok (.iload 8, 2) := by decide +kernel
theorem d_Tw_rounded_80 : decode prog_4_method_13_code 80 = .ok (.lshr, 1) := by decide +kernel
theorem d_Tw_rounded_81 : decode prog_4_method_13_code 81 = .ok (.lstore 9, 2) := by decide +kernel
theorem d_Tw_rounded_83 : decode prog_4_method_13_code 83 = .ok (.lload_n 1, 1) := by decide +kernel
theorem d_Tw_rounded_84 : decode prog_4_method_13_code 84 = .ok (.lconst 1, 1) := by decide +kernel
theorem d_Tw_rounded_85 : decode prog_4_method_13_code 85 = .ok (.iload 8, 2) := by decide +kernel
theorem d_Tw_rounded_87 : decode prog_4_method_13_code 87 = .ok (.lshl, 1) := by decide +kernel
theorem d_Tw_rounded_88 : decode prog_4_method_13_code 88 = .ok (.lconst 1, 1) := by decide +kernel
theorem d_Tw_rounded_89 : decode prog_4_method_13_code 89 = .ok (.lsub, 1) := by decide +kernel
theorem d_Tw_rounded_90 : decode prog_4_method_13_code 90 = .ok (.land, 1) := by decide +kernel
theorem d_Tw_rounded_91 : decode prog_4_method_13_code 91 = .ok (.lstore 11, 2) := by decide +kernel
theorem d_Tw_rounded_93 : decode prog_4_method_13_code 93 = .ok (.lconst 1, 1) := by decide +kernel
theorem d_Tw_rounded_94 : decode prog_4_method_13_code 94 = .ok (.iload 8, 2) := by decide +kernel
theorem d_Tw_rounded_96 : decode prog_4_method_13_code 96 = .ok (.iconst 1, 1) := by decide +kernel
theorem d_Tw_rounded_97 : decode prog_4_method_13_code 97 = .ok (.isub, 1) := by decide +kernel
theorem d_Tw_rounded_98 : decode prog_4_method_13_code 98 = .ok (.lshl, 1) := by decide +kernel
theorem d_Tw_rounded_99 : decode prog_4_method_13_code 99 = .ok (.lstore 13, 2) := by decide +kernel
theorem d_Tw_rounded_101 : decode prog_4_method_13_code 101 = .ok (.lload 11, 2) := by decide +kernel
theorem d_Tw_rounded_103 : decode prog_4_method_13_code 103 = .ok (.lload 13, 2) := by decide +kernel
theorem d_Tw_rounded_105 : decode prog_4_method_13_code 105 = .ok (.lcmp, 1) := by decide +kernel
theorem d_Tw_rounded_106 : decode prog_4_method_13_code 106 = .ok (.ifCond .gt 25, 3) := by decide +kernel
theorem d_Tw_rounded_109 : decode prog_4_method_13_code 109 = .ok (.lload 11, 2) := by decide +kernel
theorem d_Tw_rounded_111 : decode prog_4_method_13_code 111 = .ok (.lload 13, 2) := by decide +kernel
theorem d_Tw_rounded_113 : decode prog_4_method_13_code 113 = .ok (.lcmp, 1) := by decide +kernel
theorem d_Tw_rounded_114 : decode prog_4_method_13_code 114 = .ok (.ifCond .ne 23, 3) := by decide +kernel
theorem d_Tw_rounded_117 : decode prog_4_method_13_code 117 = .ok (.iload 4, 2) := by decide +kernel
theorem d_Tw_rounded_119 : decode prog_4_method_13_code 119 = .ok (.ifCond .ne 12, 3) := by decide +kernel
theorem d_Tw_rounded_122 : decode prog_4_method_13_code 122 = .ok (.lload 9, 2) := by decide +kernel
theorem d_Tw_rounded_124 : decode prog_4_method_13_code 124 = .ok (.lconst 1, 1) := by decide +kernel
theorem d_Tw_rounded_125 : decode prog_4_method_13_code 125 = .ok (.land, 1) := by decide +kernel
theorem d_Tw_rounded_126 : decode prog_4_method_13_code 126 = .ok (.lconst 1, 1) := by decide +kernel
theorem d_Tw_rounded_127 : decode prog_4_method_13_code 127 = .ok (.lcmp, 1) := by decide +kernel
theorem d_Tw_rounded_128 : decode prog_4_method_13_code 128 = .ok (.ifCond .ne 9, 3) := by decide +kernel
theorem d_Tw_rounded_131 : decode prog_4_method_13_code 131 = .ok (.lload 9, 2) := by decide +kernel
theorem d_Tw_rounded_133 : decode prog_4_method_13_code 133 = .ok (.lconst 1, 1) := by decide +kernel
theorem d_Tw_rounded_134 : decode prog_4_method_13_code 134 = .ok (.ladd, 1) := by decide +kernel
theorem d_Tw_rounded_135 : decode prog_4_method_13_code 135 = .ok (.lstore 9, 2) := by decide +kernel
theorem d_Tw_rounded_137 : decode prog_4_method_13_code 137 = .ok (.iload_n 3, 1) := by decide +kernel
theorem d_Tw_rounded_138 : decode prog_4_method_13_code 138 = .ok (.iload 8, 2) := by decide +kernel
theorem d_Tw_rounded_140 : decode prog_4_method_13_code 140 = .ok (.iadd, 1) := by decide +kernel
theorem d_Tw_rounded_141 : decode prog_4_method_13_code 141 = .ok (.istore 11, 2) := by decide +kernel
theorem d_Tw_rounded_143 : decode prog_4_method_13_code 143 = .ok (.lload 9, 2) := by decide +kernel
theorem d_Tw_rounded_145 : decode prog_4_method_13_code 145 = .ok (.iload 6, 2) := by decide +kernel
theorem d_Tw_rounded_147 : decode prog_4_method_13_code 147 = .ok (.lshr, 1) := by decide +kernel
theorem d_Tw_rounded_148 : decode prog_4_method_13_code 148 = .ok (.lconst 0, 1) := by decide +kernel
theorem d_Tw_rounded_149 : decode prog_4_method_13_code 149 = .ok (.lcmp, 1) := by decide +kernel
theorem d_Tw_rounded_150 : decode prog_4_method_13_code 150 = .ok (.ifCond .eq 12, 3) := by decide +kernel
theorem d_Tw_rounded_153 : decode prog_4_method_13_code 153 = .ok (.lload 9, 2) := by decide +kernel
theorem d_Tw_rounded_155 : decode prog_4_method_13_code 155 = .ok (.iconst 1, 1) := by decide +kernel
theorem d_Tw_rounded_156 : decode prog_4_method_13_code 156 = .ok (.lshr, 1) := by decide +kernel
theorem d_Tw_rounded_157 : decode prog_4_method_13_code 157 = .ok (.lstore 9, 2) := by decide +kernel
theorem d_Tw_rounded_159 : decode prog_4_method_13_code 159 = .ok (.iinc 11 1, 3) := by decide +kernel
theorem d_Tw_rounded_162 : decode prog_4_method_13_code 162 = .ok (.iload 11, 2) := by decide +kernel
theorem d_Tw_rounded_164 : decode prog_4_method_13_code 164 = .ok (.getstatic 49, 3) := by decide +kernel
theorem d_Tw_rounded_167 : decode prog_4_method_13_code 167 = .ok (.iload 5, 2) := by decide +kernel
theorem d_Tw_rounded_169 : decode prog_4_method_13_code 169 = .ok (.iaload, 1) := by decide +kernel
theorem d_Tw_rounded_170 : decode prog_4_method_13_code 170 = .ok (.if_icmp .le 15, 3) := by decide +kernel
theorem d_Tw_rounded_173 : decode prog_4_method_13_code 173 = .ok (.iload 5, 2) := by decide +kernel
theorem d_Tw_rounded_175 : decode prog_4_method_13_code 175 = .ok (.invokestatic 19, 3) := by decide +kernel
theorem d_Tw_rounded_178 : decode prog_4_method_13_code 178 = .ok (.iload_n 0, 1) := by decide +kernel
theorem d_Tw_rounded_179 : decode prog_4_method_13_code 179 = .ok (.iload 5, 2) := by decide +kernel
theorem d_Tw_rounded_181 : decode prog_4_method_13_code 181 = .ok (.invokestatic 36, 3) := by decide +kernel
theorem d_Tw_rounded_184 : decode prog_4_method_13_code 184 = .ok (.lreturn, 1) := by decide +kernel
theorem d_Tw_rounded_185 : decode prog_4_method_13_code 185 = .ok (.lload 9, 2) := by decide +kernel
theorem d_Tw_rounded_187 : decode prog_4_method_13_code 187 = .ok (.iload 6, 2) := by decide +kernel
theorem d_Tw_rounded_189 : decode prog_4_method_13_code 189 = .ok (.iconst 1, 1) := by decide +kernel
theorem d_Tw_rounded_190 : decode prog_4_method_13_code 190 = .ok (.isub, 1) := by decide +kernel
theorem d_Tw_rounded_191 : decode prog_4_method_13_code 191 = .ok (.lshr, 1) := by decide +kernel
theorem d_Tw_rounded_192 : decode prog_4_method_13_code 192 = .ok (.lconst 0, 1) := by decide +kernel
theorem d_Tw_rounded_193 : decode prog_4_method_13_code 193 = .ok (.lcmp, 1) := by decide +kernel
theorem d_Tw_rounded_194 : decode prog_4_method_13_code 194 = .ok (.ifCond .ne 8, 3) := by decide +kernel
theorem d_Tw_rounded_197 : decode prog_4_method_13_code 197 = .ok (.lload 9, 2) := by decide +kernel
theorem d_Tw_rounded_199 : decode prog_4_method_13_code 199 = .ok (.goto 32, 3) := by decide +kernel
theorem d_Tw_rounded_202 : decode prog_4_method_13_code 202 = .ok (.iload 11, 2) := by decide +kernel
theorem d_Tw_rounded_204 : decode prog_4_method_13_code 204 = .ok (.getstatic 27, 3) := by decide +kernel
theorem d_Tw_rounded_207 : decode prog_4_method_13_code 207 = .ok (.iload 5, 2) := by decide +kernel
theorem d_Tw_rounded_209 : decode prog_4_method_13_code 209 = .ok (.iaload, 1) := by decide +kernel
theorem d_Tw_rounded_210 : decode prog_4_method_13_code 210 = .ok (.isub, 1) := by decide +kernel
theorem d_Tw_rounded_211 : decode prog_4_method_13_code 211 = .ok (.iconst 1, 1) := by decide +kernel
theorem d_Tw_rounded_212 : decode prog_4_method_13_code 212 = .ok (.iadd, 1) := by decide +kernel
theorem d_Tw_rounded_213 : decode prog_4_method_13_code 213 = .ok (.i2l, 1) := by decide +kernel
theorem d_Tw_rounded_214 : decode prog_4_method_13_code 214 = .ok (.iload 6, 2) := by decide +kernel
theorem d_Tw_rounded_216 : decode prog_4_method_13_code 216 = .ok (.iconst 1, 1) := by decide +kernel
theorem d_Tw_rounded_217 : decode prog_4_method_13_code 217 = .ok (.isub, 1) := by decide +kernel
theorem d_Tw_rounded_218 : decode prog_4_method_13_code 218 = .ok (.lshl, 1) := by decide +kernel
theorem d_Tw_rounded_219 : decode prog_4_method_13_code 219 = .ok (.lload 9, 2) := by decide +kernel
theorem d_Tw_rounded_221 : decode prog_4_method_13_code 221 = .ok (.lconst 1, 1) := by decide +kernel
theorem d_Tw_rounded_222 : decode prog_4_method_13_code 222 = .ok (.iload 6, 2) := by decide +kernel
theorem d_Tw_rounded_224 : decode prog_4_method_13_code 224 = .ok (.iconst 1, 1) := by decide +kernel
theorem d_Tw_rounded_225 : decode prog_4_method_13_code 225 = .ok (.isub, 1) := by decide +kernel
theorem d_Tw_rounded_226 : decode prog_4_method_13_code 226 = .ok (.lshl, 1) := by decide +kernel
theorem d_Tw_rounded_227 : decode prog_4_method_13_code 227 = .ok (.lconst 1, 1) := by decide +kernel
theorem d_Tw_rounded_228 : decode prog_4_method_13_code 228 = .ok (.lsub, 1) := by decide +kernel
theorem d_Tw_rounded_229 : decode prog_4_method_13_code 229 = .ok (.land, 1) := by decide +kernel
theorem d_Tw_rounded_230 : decode prog_4_method_13_code 230 = .ok (.lor, 1) := by decide +kernel
theorem d_Tw_rounded_231 : decode prog_4_method_13_code 231 = .ok (.lstore 12, 2) := by decide +kernel
theorem d_Tw_rounded_233 : decode prog_4_method_13_code 233 = .ok (.lload 12, 2) := by decide +kernel
theorem d_Tw_rounded_235 : decode prog_4_method_13_code 235 = .ok (.iload_n 0, 1) := by decide +kernel
theorem d_Tw_rounded_236 : decode prog_4_method_13_code 236 = .ok (.iload 5, 2) := by decide +kernel
theorem d_Tw_rounded_238 : decode prog_4_method_13_code 238 = .ok (.invokestatic 36, 3) := by decide +kernel
theorem d_Tw_rounded_241 : decode prog_4_method_13_code 241 = .ok (.lreturn, 1) := by decide +kernel
set_option maxHeartbeats 1200000 in
set_option maxRecDepth 100000 in
theorem c_Tw_rounded (l : Launch) (ad : Nat → Nat) (g : Int32) (a : Int64) (z : Int32) (o : Int32) (f : Nat) (h_f : f < 2) : Met l y_Tw_rounded w_Tw_rounded ({ frames := 2, cells := 0, slots := 0, locals := 43 } : Room) (va_Pc [.int g, .long a, .int z, .int o, .int (nI f)] (nb_K ad)) (vp_Sl (fun r => r = mf_Tw_rounded g a z o f)) 0 0 (fun _ => False) := by
  refine Met.ofW (cc := prog_4_method_13_code) (maxL := 15) (ret := some .long) (by decide) rfl ?_
  intro p e s m args below meth c s₁ B hml hv
  obtain ⟨rfl, hC⟩ := hv
  have hx := B.exec
  have hb := B.bytes
  have hr := B.returns
  have hts := atoms_spec (ws := w_Tw_rounded) B.pre
  have hown : s.vm.findClass "NumberBenchModel" = some m.cls := findClass_of_methodNamed B.named
  have hlocks := B.notSynchronized
  have hC : nb_C ad (fun _ => False) s s.heap := hC
  have hS : va_S (fun _ => False) s.heap s.heap [] := va_S.rf
  have hl := lv_entry ([.int g, .long a, .int z, .int o, .int (nI f)]) (n := 15) (Nat.le_of_ble_eq_true rfl)
  rw [lg_entry_eq]
  generalize (lg_sl ([.int g, .long a, .int z, .int o, .int (nI f)]) ++ List.replicate (15 - (lg_sl ([.int g, .long a, .int z, .int o, .int (nI f)])).length) Slot.unset).toArray = ls at hl ⊢
  have hl : lv_has ls 15 [(0, .int g), (1, .long a), (3, .int z), (4, .int o), (5, .int (nI f))] := hl
  have b162 : ∀ (x6 : Int32) (x9 : Int64) (x11 : Int32) (ls : Array Slot), lv_has ls 15 [(0, .int g), (5, .int (nI f)), (6, .int x6), (9, .long x9), (11, .int x11)] → mf_Tw_rounded g a z o f = mf_Tw_rounded_b162 g a z o f x6 x9 x11 → W p l e (headSpec w_Tw_rounded ({ frames := 2, cells := 0, slots := 0, locals := 43 } : Room)).room s m ([.int g, .long a, .int z, .int o, .int (nI f)] : List Value).toArray below meth c s.heap [] 0 0 (MQ below (vp_Sl (fun r => r = mf_Tw_rounded g a z o f)) ([.int g, .long a, .int z, .int o, .int (nI f)] : List Value).toArray s 0 0 (fun _ => False)) (F0 m 162 ls []) := by
    intro x6 x9 x11 ls hl  hE
    refine lv_iload hx hb d_Tw_rounded_162 (lv_at hl 4 rfl) ?_
    refine va_gets (v := .ref (ad 4)) hx hb (nb_ZGr hC) hS hown (hts _ (nb_c nb_t324)) (fun _ h => h) d_Tw_rounded_164 ?_
    refine lv_iload hx hb d_Tw_rounded_167 (lv_at hl 1 rfl) ?_
    refine va_ti (v := .int (tw_gr f)) hx hb (nb_TGr hC) hS (nb_in2 h_f) (nb_cl2 h_f) d_Tw_rounded_169 ?_
    refine lv_icmp_le (tgt := 185) hx hb d_Tw_rounded_170 (by decide) (fun h12 => ?_) (fun h12 => ?_)
    · refine lv_lload hx hb d_Tw_rounded_185 (lv_at hl 3 rfl) ?_
      refine lv_iload hx hb d_Tw_rounded_187 (lv_at hl 2 rfl) ?_
      refine lv_iconst (v := 1) hx hb d_Tw_rounded_189 (by decide) ?_
      refine lv_isub hx hb d_Tw_rounded_190 ?_
      refine lv_lshr hx hb d_Tw_rounded_191 rfl ?_
      refine lv_lconst (v := 0) hx hb d_Tw_rounded_192 (by decide) ?_
      refine nb_lc_ne (tgt := 202) hx hb d_Tw_rounded_193 d_Tw_rounded_194 (by decide) (fun h13 => ?_) (fun h13 => ?_)
      · refine lv_iload hx hb d_Tw_rounded_202 (lv_at hl 4 rfl) ?_
        refine va_gets (v := .ref (ad 3)) hx hb (nb_ZLe hC) hS hown (hts _ (nb_c nb_t313)) (fun _ h => h) d_Tw_rounded_204 ?_
        refine lv_iload hx hb d_Tw_rounded_207 (lv_at hl 1 rfl) ?_
        refine va_ti (v := .int (tw_le f)) hx hb (nb_TLe hC) hS (nb_in2 h_f) (nb_cl2 h_f) d_Tw_rounded_209 ?_
        refine lv_isub hx hb d_Tw_rounded_210 ?_
        refine lv_iconst (v := 1) hx hb d_Tw_rounded_211 (by decide) ?_
        refine lv_iadd hx hb d_Tw_rounded_212 ?_
        refine lv_i2l hx hb d_Tw_rounded_213 rfl ?_
        refine lv_iload hx hb d_Tw_rounded_214 (lv_at hl 2 rfl) ?_
        refine lv_iconst (v := 1) hx hb d_Tw_rounded_216 (by decide) ?_
        refine lv_isub hx hb d_Tw_rounded_217 ?_
        refine lv_lshl hx hb d_Tw_rounded_218 rfl ?_
        refine lv_lload hx hb d_Tw_rounded_219 (lv_at hl 3 rfl) ?_
        refine lv_lconst (v := 1) hx hb d_Tw_rounded_221 (by decide) ?_
        refine lv_iload hx hb d_Tw_rounded_222 (lv_at hl 2 rfl) ?_
        refine lv_iconst (v := 1) hx hb d_Tw_rounded_224 (by decide) ?_
        refine lv_isub hx hb d_Tw_rounded_225 ?_
        refine lv_lshl hx hb d_Tw_rounded_226 rfl ?_
        refine lv_lconst (v := 1) hx hb d_Tw_rounded_227 (by decide) ?_
        refine lv_lsub hx hb d_Tw_rounded_228 ?_
        refine lv_land hx hb d_Tw_rounded_229 ?_
        refine lv_lor hx hb d_Tw_rounded_230 ?_
        refine lv_topl (fun v14 ev14 => ?_)
        refine lv_lstore hx hb d_Tw_rounded_231 hl (by decide) rfl (fun ls hl => ?_)
        have hl : lv_has ls 15 [(12, .long v14), (0, .int g), (5, .int (nI f)), (6, .int x6), (9, .long x9), (11, .int x11)] := hl
        refine lv_lload hx hb d_Tw_rounded_233 (lv_at hl 0 rfl) ?_
        refine lv_iload_n hx hb d_Tw_rounded_235 rfl (lv_at hl 1 rfl) ?_
        refine lv_iload hx hb d_Tw_rounded_236 (lv_at hl 2 rfl) ?_
        refine nb_callSl (As := [.long v14, .int g, .int (nI f)]) (rest := []) hx hb hml hown hts (c_Tw_signed l ad v14 g f h_f) nb_t302 nb_t303 nb_t2 nb_t304 hd_Tw_signed rfl ⟨Nat.le_of_ble_eq_true rfl, Nat.le_of_ble_eq_true rfl⟩ ⟨rfl, rfl⟩ hC hS hl.1 rfl (Nat.le_of_ble_eq_true rfl) ⟨Nat.le_of_ble_eq_true rfl, Nat.le_of_ble_eq_true rfl⟩ d_Tw_rounded_238 ?_
        exact W.lret hx hb hr (fun t ht hW => ⟨_, rfl, (by subst ev14; rw [hE, mf_Tw_rounded_b162, if_pos h12, if_neg h13]), ht⟩) t_nil d_Tw_rounded_241
      · refine lv_lload hx hb d_Tw_rounded_197 (lv_at hl 3 rfl) ?_
        refine lv_goto (tgt := 231) hx hb d_Tw_rounded_199 (by decide) ?_
        refine lv_lstore hx hb d_Tw_rounded_231 hl (by decide) rfl (fun ls hl => ?_)
        have hl : lv_has ls 15 [(12, .long x9), (0, .int g), (5, .int (nI f)), (6, .int x6), (9, .long x9), (11, .int x11)] := hl
        refine lv_lload hx hb d_Tw_rounded_233 (lv_at hl 0 rfl) ?_
        refine lv_iload_n hx hb d_Tw_rounded_235 rfl (lv_at hl 1 rfl) ?_
        refine lv_iload hx hb d_Tw_rounded_236 (lv_at hl 2 rfl) ?_
        refine nb_callSl (As := [.long x9, .int g, .int (nI f)]) (rest := []) hx hb hml hown hts (c_Tw_signed l ad x9 g f h_f) nb_t302 nb_t303 nb_t2 nb_t304 hd_Tw_signed rfl ⟨Nat.le_of_ble_eq_true rfl, Nat.le_of_ble_eq_true rfl⟩ ⟨rfl, rfl⟩ hC hS hl.1 rfl (Nat.le_of_ble_eq_true rfl) ⟨Nat.le_of_ble_eq_true rfl, Nat.le_of_ble_eq_true rfl⟩ d_Tw_rounded_238 ?_
        exact W.lret hx hb hr (fun t ht hW => ⟨_, rfl, (by rw [hE, mf_Tw_rounded_b162, if_pos h12, if_pos h13]), ht⟩) t_nil d_Tw_rounded_241
    · refine lv_iload hx hb d_Tw_rounded_173 (lv_at hl 1 rfl) ?_
      refine nb_callSl (As := [.int (nI f)]) (rest := []) hx hb hml hown hts (c_Tw_infinite l ad f h_f) nb_t286 nb_t287 nb_t2 nb_t288 hd_Tw_infinite rfl ⟨Nat.le_of_ble_eq_true rfl, Nat.le_of_ble_eq_true rfl⟩ ⟨rfl, rfl⟩ hC hS hl.1 rfl (Nat.le_of_ble_eq_true rfl) ⟨Nat.le_of_ble_eq_true rfl, Nat.le_of_ble_eq_true rfl⟩ d_Tw_rounded_175 ?_
      refine lv_iload_n hx hb d_Tw_rounded_178 rfl (lv_at hl 0 rfl) ?_
      refine lv_iload hx hb d_Tw_rounded_179 (lv_at hl 1 rfl) ?_
      refine nb_callSl (As := [.long (mf_Tw_infinite f), .int g, .int (nI f)]) (rest := []) hx hb hml hown hts (c_Tw_signed l ad (mf_Tw_infinite f) g f h_f) nb_t302 nb_t303 nb_t2 nb_t304 hd_Tw_signed rfl ⟨Nat.le_of_ble_eq_true rfl, Nat.le_of_ble_eq_true rfl⟩ ⟨rfl, rfl⟩ hC hS hl.1 rfl (Nat.le_of_ble_eq_true rfl) ⟨Nat.le_of_ble_eq_true rfl, Nat.le_of_ble_eq_true rfl⟩ d_Tw_rounded_181 ?_
      exact W.lret hx hb hr (fun t ht hW => ⟨_, rfl, (by rw [hE, mf_Tw_rounded_b162, if_neg h12]), ht⟩) t_nil d_Tw_rounded_184
  have b137 : ∀ (x6 : Int32) (x8 : Int32) (x9 : Int64) (ls : Array Slot), lv_has ls 15 [(0, .int g), (3, .int z), (5, .int (nI f)), (6, .int x6), (8, .int x8), (9, .long x9)] → mf_Tw_rounded g a z o f = mf_Tw_rounded_b137 g a z o f x6 x8 x9 → W p l e (headSpec w_Tw_rounded ({ frames := 2, cells := 0, slots := 0, locals := 43 } : Room)).room s m ([.int g, .long a, .int z, .int o, .int (nI f)] : List Value).toArray below meth c s.heap [] 0 0 (MQ below (vp_Sl (fun r => r = mf_Tw_rounded g a z o f)) ([.int g, .long a, .int z, .int o, .int (nI f)] : List Value).toArray s 0 0 (fun _ => False)) (F0 m 137 ls []) := by
    intro x6 x8 x9 ls hl  hE
    refine lv_iload_n hx hb d_Tw_rounded_137 rfl (lv_at hl 1 rfl) ?_
    refine lv_iload hx hb d_Tw_rounded_138 (lv_at hl 4 rfl) ?_
    refine lv_iadd hx hb d_Tw_rounded_140 ?_
    refine lv_istore hx hb d_Tw_rounded_141 hl (by decide) rfl (fun ls hl => ?_)
    have hl : lv_has ls 15 [(11, .int (z + x8)), (0, .int g), (3, .int z), (5, .int (nI f)), (6, .int x6), (8, .int x8), (9, .long x9)] := hl
    refine lv_lload hx hb d_Tw_rounded_143 (lv_at hl 6 rfl) ?_
    refine lv_iload hx hb d_Tw_rounded_145 (lv_at hl 4 rfl) ?_
    refine lv_lshr hx hb d_Tw_rounded_147 rfl ?_
    refine lv_lconst (v := 0) hx hb d_Tw_rounded_148 (by decide) ?_
    refine nb_lc_eq (tgt := 162) hx hb d_Tw_rounded_149 d_Tw_rounded_150 (by decide) (fun h11 => ?_) (fun h11 => ?_)
    · exact b162 x6 x9 (z + x8) ls (lv_sub hl [1, 3, 4, 6, 0] rfl)  (by rw [hE, mf_Tw_rounded_b137, if_pos h11])
    · refine lv_lload hx hb d_Tw_rounded_153 (lv_at hl 6 rfl) ?_
      refine lv_iconst (v := 1) hx hb d_Tw_rounded_155 (by decide) ?_
      refine lv_lshr hx hb d_Tw_rounded_156 rfl ?_
      refine lv_lstore hx hb d_Tw_rounded_157 hl (by decide) rfl (fun ls hl => ?_)
      have hl : lv_has ls 15 [(9, .long (x9 >>> ((1 : Int32).toInt64 &&& 63))), (11, .int (z + x8)), (0, .int g), (3, .int z), (5, .int (nI f)), (6, .int x6), (8, .int x8)] := hl
      refine lv_iinc (k := 1) (v := (z + x8) + (1 : Int32)) hx hb d_Tw_rounded_159 hl rfl rfl (by decide) rfl (fun ls hl => ?_)
      have hl : lv_has ls 15 [(11, .int ((z + x8) + (1 : Int32))), (9, .long (x9 >>> ((1 : Int32).toInt64 &&& 63))), (0, .int g), (3, .int z), (5, .int (nI f)), (6, .int x6), (8, .int x8)] := hl
      exact b162 x6 (x9 >>> ((1 : Int32).toInt64 &&& 63)) ((z + x8) + (1 : Int32)) ls (lv_sub hl [2, 4, 5, 1, 0] rfl)  (by rw [hE, mf_Tw_rounded_b137, if_neg h11])
  have b131 : ∀ (x6 : Int32) (x8 : Int32) (x9 : Int64) (ls : Array Slot), lv_has ls 15 [(0, .int g), (3, .int z), (5, .int (nI f)), (6, .int x6), (8, .int x8), (9, .long x9)] → mf_Tw_rounded g a z o f = mf_Tw_rounded_b131 g a z o f x6 x8 x9 → W p l e (headSpec w_Tw_rounded ({ frames := 2, cells := 0, slots := 0, locals := 43 } : Room)).room s m ([.int g, .long a, .int z, .int o, .int (nI f)] : List Value).toArray below meth c s.heap [] 0 0 (MQ below (vp_Sl (fun r => r = mf_Tw_rounded g a z o f)) ([.int g, .long a, .int z, .int o, .int (nI f)] : List Value).toArray s 0 0 (fun _ => False)) (F0 m 131 ls []) := by
    intro x6 x8 x9 ls hl  hE
    refine lv_lload hx hb d_Tw_rounded_131 (lv_at hl 5 rfl) ?_
    refine lv_lconst (v := 1) hx hb d_Tw_rounded_133 (by decide) ?_
    refine lv_ladd hx hb d_Tw_rounded_134 ?_
    refine lv_lstore hx hb d_Tw_rounded_135 hl (by decide) rfl (fun ls hl => ?_)
    have hl : lv_has ls 15 [(9, .long (x9 + (1 : Int64))), (0, .int g), (3, .int z), (5, .int (nI f)), (6, .int x6), (8, .int x8)] := hl
    exact b137 x6 x8 (x9 + (1 : Int64)) ls (lv_sub hl [1, 2, 3, 4, 5, 0] rfl)  (by rw [hE, mf_Tw_rounded_b131])
  refine lv_lload_n hx hb d_Tw_rounded_0 rfl (lv_at hl 1 rfl) ?_
  refine lv_lconst (v := 0) hx hb d_Tw_rounded_1 (by decide) ?_
  refine nb_lc_ne (tgt := 14) hx hb d_Tw_rounded_2 d_Tw_rounded_3 (by decide) (fun h1 => ?_) (fun h1 => ?_)
  · refine va_gets (v := .ref (ad 2)) hx hb (nb_ZPl hC) hS hown (hts _ (nb_c nb_t308)) (fun _ h => h) d_Tw_rounded_14 ?_
    refine lv_iload hx hb d_Tw_rounded_17 (lv_at hl 4 rfl) ?_
    refine va_ti (v := .int (tw_pl f)) hx hb (nb_TPl hC) hS (nb_in2 h_f) (nb_cl2 h_f) d_Tw_rounded_19 ?_
    refine lv_istore hx hb d_Tw_rounded_20 hl (by decide) rfl (fun ls hl => ?_)
    have hl : lv_has ls 15 [(6, .int (tw_pl f)), (0, .int g), (1, .long a), (3, .int z), (4, .int o), (5, .int (nI f))] := hl
    refine lv_bipush (v := 64) hx hb d_Tw_rounded_22 (by decide) ?_
    refine lv_lload_n hx hb d_Tw_rounded_24 rfl (lv_at hl 2 rfl) ?_
    refine nb_callSi (As := [.long a]) (rest := [.int (64 : Int32)]) hx hb hml hown hts (c_Jd_lnlz l ad a) nb_t322 nb_t92 nb_t6 nb_t93 hd_Jd_lnlz rfl ⟨Nat.le_of_ble_eq_true rfl, Nat.le_of_ble_eq_true rfl⟩ ⟨rfl, rfl⟩ hC hS hl.1 rfl (Nat.le_of_ble_eq_true rfl) ⟨Nat.le_of_ble_eq_true rfl, Nat.le_of_ble_eq_true rfl⟩ d_Tw_rounded_25 ?_
    refine lv_isub hx hb d_Tw_rounded_28 ?_
    refine lv_istore hx hb d_Tw_rounded_29 hl (by decide) rfl (fun ls hl => ?_)
    have hl : lv_has ls 15 [(7, .int ((64 : Int32) - (mf_Jd_lnlz a))), (6, .int (tw_pl f)), (0, .int g), (1, .long a), (3, .int z), (4, .int o), (5, .int (nI f))] := hl
    refine lv_iload hx hb d_Tw_rounded_31 (lv_at hl 0 rfl) ?_
    refine lv_iload hx hb d_Tw_rounded_33 (lv_at hl 1 rfl) ?_
    refine lv_isub hx hb d_Tw_rounded_35 ?_
    refine va_gets (v := .ref (ad 3)) hx hb (nb_ZLe hC) hS hown (hts _ (nb_c nb_t313)) (fun _ h => h) d_Tw_rounded_36 ?_
    refine lv_iload hx hb d_Tw_rounded_39 (lv_at hl 6 rfl) ?_
    refine va_ti (v := .int (tw_le f)) hx hb (nb_TLe hC) hS (nb_in2 h_f) (nb_cl2 h_f) d_Tw_rounded_41 ?_
    refine lv_iload_n hx hb d_Tw_rounded_42 rfl (lv_at hl 4 rfl) ?_
    refine lv_isub hx hb d_Tw_rounded_43 ?_
    refine va_mmax hx hb (by rw [hml]; exact hl.1.symm) hown (hts _ (nb_c nb_t323)) (hts _ (nb_c nb_t70)) (hts _ (nb_c nb_t5)) (hts _ (nb_c nb_code_va_mmax)) (Nat.le_of_ble_eq_true rfl) (Nat.le_of_ble_eq_true rfl) (Nat.le_of_ble_eq_true rfl) (Nat.le_of_ble_eq_true rfl) d_Tw_rounded_44 ?_
    refine lv_topi (fun v2 ev2 => ?_)
    refine lv_istore hx hb d_Tw_rounded_47 hl (by decide) rfl (fun ls hl => ?_)
    have hl : lv_has ls 15 [(8, .int v2), (7, .int ((64 : Int32) - (mf_Jd_lnlz a))), (6, .int (tw_pl f)), (0, .int g), (1, .long a), (3, .int z), (4, .int o), (5, .int (nI f))] := hl
    refine lv_iload hx hb d_Tw_rounded_49 (lv_at hl 0 rfl) ?_
    refine lv_if_gt (tgt := 64) hx hb d_Tw_rounded_51 (by decide) (fun h3 => ?_) (fun h3 => ?_)
    · refine lv_iload hx hb d_Tw_rounded_64 (lv_at hl 0 rfl) ?_
      refine lv_bipush (v := 63) hx hb d_Tw_rounded_66 (by decide) ?_
      refine lv_icmp_le (tgt := 77) hx hb d_Tw_rounded_68 (by decide) (fun h4 => ?_) (fun h4 => ?_)
      · refine lv_lload_n hx hb d_Tw_rounded_77 rfl (lv_at hl 4 rfl) ?_
        refine lv_iload hx hb d_Tw_rounded_78 (lv_at hl 0 rfl) ?_
        refine lv_lshr hx hb d_Tw_rounded_80 rfl ?_
        refine lv_lstore hx hb d_Tw_rounded_81 hl (by decide) rfl (fun ls hl => ?_)
        have hl : lv_has ls 15 [(9, .long (a >>> (v2.toInt64 &&& 63))), (8, .int v2), (7, .int ((64 : Int32) - (mf_Jd_lnlz a))), (6, .int (tw_pl f)), (0, .int g), (1, .long a), (3, .int z), (4, .int o), (5, .int (nI f))] := hl
        refine lv_lload_n hx hb d_Tw_rounded_83 rfl (lv_at hl 5 rfl) ?_
        refine lv_lconst (v := 1) hx hb d_Tw_rounded_84 (by decide) ?_
        refine lv_iload hx hb d_Tw_rounded_85 (lv_at hl 1 rfl) ?_
        refine lv_lshl hx hb d_Tw_rounded_87 rfl ?_
        refine lv_lconst (v := 1) hx hb d_Tw_rounded_88 (by decide) ?_
        refine lv_lsub hx hb d_Tw_rounded_89 ?_
        refine lv_land hx hb d_Tw_rounded_90 ?_
        refine lv_topl (fun v5 ev5 => ?_)
        refine lv_lstore hx hb d_Tw_rounded_91 hl (by decide) rfl (fun ls hl => ?_)
        have hl : lv_has ls 15 [(11, .long v5), (9, .long (a >>> (v2.toInt64 &&& 63))), (8, .int v2), (7, .int ((64 : Int32) - (mf_Jd_lnlz a))), (6, .int (tw_pl f)), (0, .int g), (1, .long a), (3, .int z), (4, .int o), (5, .int (nI f))] := hl
        refine lv_lconst (v := 1) hx hb d_Tw_rounded_93 (by decide) ?_
        refine lv_iload hx hb d_Tw_rounded_94 (lv_at hl 2 rfl) ?_
        refine lv_iconst (v := 1) hx hb d_Tw_rounded_96 (by decide) ?_
        refine lv_isub hx hb d_Tw_rounded_97 ?_
        refine lv_lshl hx hb d_Tw_rounded_98 rfl ?_
        refine lv_topl (fun v6 ev6 => ?_)
        refine lv_lstore hx hb d_Tw_rounded_99 hl (by decide) rfl (fun ls hl => ?_)
        have hl : lv_has ls 15 [(13, .long v6), (11, .long v5), (9, .long (a >>> (v2.toInt64 &&& 63))), (8, .int v2), (7, .int ((64 : Int32) - (mf_Jd_lnlz a))), (6, .int (tw_pl f)), (0, .int g), (1, .long a), (3, .int z), (4, .int o), (5, .int (nI f))] := hl
        refine lv_lload hx hb d_Tw_rounded_101 (lv_at hl 1 rfl) ?_
        refine lv_lload hx hb d_Tw_rounded_103 (lv_at hl 0 rfl) ?_
        refine nb_lc_gt (tgt := 131) hx hb d_Tw_rounded_105 d_Tw_rounded_106 (by decide) (fun h7 => ?_) (fun h7 => ?_)
        · exact b131 (tw_pl f) v2 (a >>> (v2.toInt64 &&& 63)) ls (lv_sub hl [6, 8, 10, 5, 3, 2] rfl)  (by subst ev6; subst ev5; subst ev2; rw [mf_Tw_rounded, if_neg h1, if_pos h3, if_pos h4, if_pos h7])
        · refine lv_lload hx hb d_Tw_rounded_109 (lv_at hl 1 rfl) ?_
          refine lv_lload hx hb d_Tw_rounded_111 (lv_at hl 0 rfl) ?_
          refine nb_lc_ne (tgt := 137) hx hb d_Tw_rounded_113 d_Tw_rounded_114 (by decide) (fun h8 => ?_) (fun h8 => ?_)
          · exact b137 (tw_pl f) v2 (a >>> (v2.toInt64 &&& 63)) ls (lv_sub hl [6, 8, 10, 5, 3, 2] rfl)  (by subst ev6; subst ev5; subst ev2; rw [mf_Tw_rounded, if_neg h1, if_pos h3, if_pos h4, if_neg h7, if_neg h8])
          · refine lv_iload hx hb d_Tw_rounded_117 (lv_at hl 9 rfl) ?_
            refine lv_if_ne (tgt := 131) hx hb d_Tw_rounded_119 (by decide) (fun h9 => ?_) (fun h9 => ?_)
            · exact b131 (tw_pl f) v2 (a >>> (v2.toInt64 &&& 63)) ls (lv_sub hl [6, 8, 10, 5, 3, 2] rfl)  (by subst ev6; subst ev5; subst ev2; rw [mf_Tw_rounded, if_neg h1, if_pos h3, if_pos h4, if_neg h7, if_pos h8, if_neg h9])
            · refine lv_lload hx hb d_Tw_rounded_122 (lv_at hl 2 rfl) ?_
              refine lv_lconst (v := 1) hx hb d_Tw_rounded_124 (by decide) ?_
              refine lv_land hx hb d_Tw_rounded_125 ?_
              refine lv_lconst (v := 1) hx hb d_Tw_rounded_126 (by decide) ?_
              refine nb_lc_ne (tgt := 137) hx hb d_Tw_rounded_127 d_Tw_rounded_128 (by decide) (fun h10 => ?_) (fun h10 => ?_)
              · exact b137 (tw_pl f) v2 (a >>> (v2.toInt64 &&& 63)) ls (lv_sub hl [6, 8, 10, 5, 3, 2] rfl)  (by subst ev6; subst ev5; subst ev2; rw [mf_Tw_rounded, if_neg h1, if_pos h3, if_pos h4, if_neg h7, if_pos h8, if_pos h9, if_neg h10])
              · exact b131 (tw_pl f) v2 (a >>> (v2.toInt64 &&& 63)) ls (lv_sub hl [6, 8, 10, 5, 3, 2] rfl)  (by subst ev6; subst ev5; subst ev2; rw [mf_Tw_rounded, if_neg h1, if_pos h3, if_pos h4, if_neg h7, if_pos h8, if_pos h9, if_pos h10])
      · refine lv_lconst (v := 0) hx hb d_Tw_rounded_71 (by decide) ?_
        refine lv_lstore hx hb d_Tw_rounded_72 hl (by decide) rfl (fun ls hl => ?_)
        have hl : lv_has ls 15 [(9, .long (0 : Int64)), (8, .int v2), (7, .int ((64 : Int32) - (mf_Jd_lnlz a))), (6, .int (tw_pl f)), (0, .int g), (1, .long a), (3, .int z), (4, .int o), (5, .int (nI f))] := hl
        refine lv_goto (tgt := 137) hx hb d_Tw_rounded_74 (by decide) ?_
        exact b137 (tw_pl f) v2 (0 : Int64) ls (lv_sub hl [4, 6, 8, 3, 1, 0] rfl)  (by subst ev2; rw [mf_Tw_rounded, if_neg h1, if_pos h3, if_neg h4])
    · refine lv_lload_n hx hb d_Tw_rounded_54 rfl (lv_at hl 4 rfl) ?_
      refine lv_iload hx hb d_Tw_rounded_55 (lv_at hl 0 rfl) ?_
      refine lv_ineg hx hb d_Tw_rounded_57 ?_
      refine lv_lshl hx hb d_Tw_rounded_58 rfl ?_
      refine lv_lstore hx hb d_Tw_rounded_59 hl (by decide) rfl (fun ls hl => ?_)
      have hl : lv_has ls 15 [(9, .long (a <<< ((-v2).toInt64 &&& 63))), (8, .int v2), (7, .int ((64 : Int32) - (mf_Jd_lnlz a))), (6, .int (tw_pl f)), (0, .int g), (1, .long a), (3, .int z), (4, .int o), (5, .int (nI f))] := hl
      refine lv_goto (tgt := 137) hx hb d_Tw_rounded_61 (by decide) ?_
      exact b137 (tw_pl f) v2 (a <<< ((-v2).toInt64 &&& 63)) ls (lv_sub hl [4, 6, 8, 3, 1, 0] rfl)  (by subst ev2; rw [mf_Tw_rounded, if_neg h1, if_neg h3])
  · refine lv_lconst (v := 0) hx hb d_Tw_rounded_6 (by decide) ?_
    refine lv_iload_n hx hb d_Tw_rounded_7 rfl (lv_at hl 0 rfl) ?_
    refine lv_iload hx hb d_Tw_rounded_8 (lv_at hl 4 rfl) ?_
    refine nb_callSl (As := [.long (0 : Int64), .int g, .int (nI f)]) (rest := []) hx hb hml hown hts (c_Tw_signed l ad (0 : Int64) g f h_f) nb_t302 nb_t303 nb_t2 nb_t304 hd_Tw_signed rfl ⟨Nat.le_of_ble_eq_true rfl, Nat.le_of_ble_eq_true rfl⟩ ⟨rfl, rfl⟩ hC hS hl.1 rfl (Nat.le_of_ble_eq_true rfl) ⟨Nat.le_of_ble_eq_true rfl, Nat.le_of_ble_eq_true rfl⟩ d_Tw_rounded_10 ?_
    exact W.lret hx hb hr (fun t ht hW => ⟨_, rfl, (by rw [mf_Tw_rounded, if_pos h1]), ht⟩) t_nil d_Tw_rounded_13
def y_Tw_exact : MethodName := ⟨"NumberBenchModel", "exact", "(ZJII)J"⟩
abbrev w_Tw_exact : List Cond := Cond.code y_Tw_exact prog_4_method_14_code 5 (Option.some FieldType.long) :: nb_tb
theorem hd_Tw_exact : y_Tw_exact.cls ≠ "java/lang/invoke/MethodHandle" ∧ y_Tw_exact.cls ≠ "java/lang/invoke/VarHandle" ∧ (parseMethodDescriptor y_Tw_exact.desc).map (fun d => d.parameters.length) = some 4 := by decide +kernel
theorem d_Tw_exact_0 : decode prog_4_method_14_code 0 = .ok (.iload_n 0, 1) := by decide +kernel
theorem d_Tw_exact_1 : decode prog_4_method_14_code 1 = .ok (.lload_n 1, 1) := by decide +kernel
theorem d_Tw_exact_2 : decode prog_4_method_14_code 2 = .ok (.iload_n 3, 1) := by decide +kernel
theorem d_Tw_exact_3 : decode prog_4_method_14_code 3 = .ok (.iconst 0, 1) := by decide +kernel
theorem d_Tw_exact_4 : decode prog_4_method_14_code 4 = .ok (.iload 4, 2) := by decide +kernel
theorem d_Tw_exact_6 : decode prog_4_method_14_code 6 = .ok (.invokestatic 52, 3) := by decide +kernel
theorem d_Tw_exact_9 : decode prog_4_method_14_code 9 = .ok (.lreturn, 1) := by decide +kernel
set_option maxHeartbeats 1200000 in
set_option maxRecDepth 100000 in
theorem c_Tw_exact (l : Launch) (ad : Nat → Nat) (g : Int32) (a : Int64) (z : Int32) (f : Nat) (h_f : f < 2) : Met l y_Tw_exact w_Tw_exact ({ frames := 3, cells := 0, slots := 0, locals := 77 } : Room) (va_Pc [.int g, .long a, .int z, .int (nI f)] (nb_K ad)) (vp_Sl (fun r => r = mf_Tw_exact g a z f)) 0 0 (fun _ => False) := by
  refine Met.ofW (cc := prog_4_method_14_code) (maxL := 5) (ret := some .long) (by decide) rfl ?_
  intro p e s m args below meth c s₁ B hml hv
  obtain ⟨rfl, hC⟩ := hv
  have hx := B.exec
  have hb := B.bytes
  have hr := B.returns
  have hts := atoms_spec (ws := w_Tw_exact) B.pre
  have hown : s.vm.findClass "NumberBenchModel" = some m.cls := findClass_of_methodNamed B.named
  have hlocks := B.notSynchronized
  have hC : nb_C ad (fun _ => False) s s.heap := hC
  have hS : va_S (fun _ => False) s.heap s.heap [] := va_S.rf
  have hl := lv_entry ([.int g, .long a, .int z, .int (nI f)]) (n := 5) (Nat.le_of_ble_eq_true rfl)
  rw [lg_entry_eq]
  generalize (lg_sl ([.int g, .long a, .int z, .int (nI f)]) ++ List.replicate (5 - (lg_sl ([.int g, .long a, .int z, .int (nI f)])).length) Slot.unset).toArray = ls at hl ⊢
  have hl : lv_has ls 5 [(0, .int g), (1, .long a), (3, .int z), (4, .int (nI f))] := hl
  refine lv_iload_n hx hb d_Tw_exact_0 rfl (lv_at hl 0 rfl) ?_
  refine lv_lload_n hx hb d_Tw_exact_1 rfl (lv_at hl 1 rfl) ?_
  refine lv_iload_n hx hb d_Tw_exact_2 rfl (lv_at hl 2 rfl) ?_
  refine lv_iconst (v := 0) hx hb d_Tw_exact_3 (by decide) ?_
  refine lv_iload hx hb d_Tw_exact_4 (lv_at hl 3 rfl) ?_
  refine nb_callSl (As := [.int g, .long a, .int z, .int (0 : Int32), .int (nI f)]) (rest := []) hx hb hml hown hts (c_Tw_rounded l ad g a z (0 : Int32) f h_f) nb_t319 nb_t320 nb_t2 nb_t321 hd_Tw_rounded rfl ⟨Nat.le_of_ble_eq_true rfl, Nat.le_of_ble_eq_true rfl⟩ ⟨rfl, rfl⟩ hC hS hl.1 rfl (Nat.le_of_ble_eq_true rfl) ⟨Nat.le_of_ble_eq_true rfl, Nat.le_of_ble_eq_true rfl⟩ d_Tw_exact_6 ?_
  exact W.lret hx hb hr (fun t ht hW => ⟨_, rfl, (by rw [mf_Tw_exact]), ht⟩) t_nil d_Tw_exact_9
def y_Tw_add : MethodName := ⟨"NumberBenchModel", "add", "(JJI)J"⟩
abbrev w_Tw_add : List Cond := Cond.code y_Tw_add prog_4_method_15_code 19 (Option.some FieldType.long) :: nb_tb
theorem hd_Tw_add : y_Tw_add.cls ≠ "java/lang/invoke/MethodHandle" ∧ y_Tw_add.cls ≠ "java/lang/invoke/VarHandle" ∧ (parseMethodDescriptor y_Tw_add.desc).map (fun d => d.parameters.length) = some 3 := by decide +kernel
theorem d_Tw_add_0 : decode prog_4_method_15_code 0 = .ok (.lload_n 0, 1) := by decide +kernel
theorem d_Tw_add_1 : decode prog_4_method_15_code 1 = .ok (.iload 4, 2) := by decide +kernel
theorem d_Tw_add_3 : decode prog_4_method_15_code 3 = .ok (.invokestatic 56, 3) := by decide +kernel
theorem d_Tw_add_6 : decode prog_4_method_15_code 6 = .ok (.ifCond .ne 12, 3) := by decide +kernel
theorem d_Tw_add_9 : decode prog_4_method_15_code 9 = .ok (.lload_n 2, 1) := by decide +kernel
theorem d_Tw_add_10 : decode prog_4_method_15_code 10 = .ok (.iload 4, 2) := by decide +kernel
theorem d_Tw_add_12 : decode prog_4_method_15_code 12 = .ok (.invokestatic 56, 3) := by decide +kernel
theorem d_Tw_add_15 : decode prog_4_method_15_code 15 = .ok (.ifCond .eq 9, 3) := by decide +kernel
theorem d_Tw_add_18 : decode prog_4_method_15_code 18 = .ok (.iload 4, 2) := by decide +kernel
theorem d_Tw_add_20 : decode prog_4_method_15_code 20 = .ok (.invokestatic 60, 3) := by decide +kernel
theorem d_Tw_add_23 : decode prog_4_method_15_code 23 = .ok (.lreturn, 1) := by decide +kernel
theorem d_Tw_add_24 : decode prog_4_method_15_code 24 = .ok (.lload_n 0, 1) := by decide +kernel
theorem d_Tw_add_25 : decode prog_4_method_15_code 25 = .ok (.iload 4, 2) := by decide +kernel
theorem d_Tw_add_27 : decode prog_4_method_15_code 27 = .ok (.invokestatic 63, 3) := by decide +kernel
theorem d_Tw_add_30 : decode prog_4_method_15_code 30 = .ok (.ifCond .ne 12, 3) := by decide +kernel
theorem d_Tw_add_33 : decode prog_4_method_15_code 33 = .ok (.lload_n 2, 1) := by decide +kernel
theorem d_Tw_add_34 : decode prog_4_method_15_code 34 = .ok (.iload 4, 2) := by decide +kernel
theorem d_Tw_add_36 : decode prog_4_method_15_code 36 = .ok (.invokestatic 63, 3) := by decide +kernel
theorem d_Tw_add_39 : decode prog_4_method_15_code 39 = .ok (.ifCond .eq 48, 3) := by decide +kernel
theorem d_Tw_add_42 : decode prog_4_method_15_code 42 = .ok (.lload_n 0, 1) := by decide +kernel
theorem d_Tw_add_43 : decode prog_4_method_15_code 43 = .ok (.iload 4, 2) := by decide +kernel
theorem d_Tw_add_45 : decode prog_4_method_15_code 45 = .ok (.invokestatic 63, 3) := by decide +kernel
theorem d_Tw_add_48 : decode prog_4_method_15_code 48 = .ok (.ifCond .eq 24, 3) := by decide +kernel
theorem d_Tw_add_51 : decode prog_4_method_15_code 51 = .ok (.lload_n 2, 1) := by decide +kernel
theorem d_Tw_add_52 : decode prog_4_method_15_code 52 = .ok (.iload 4, 2) := by decide +kernel
theorem d_Tw_add_54 : decode prog_4_method_15_code 54 = .ok (.invokestatic 63, 3) := by decide +kernel
theorem d_Tw_add_57 : decode prog_4_method_15_code 57 = .ok (.ifCond .eq 15, 3) := by decide +kernel
theorem d_Tw_add_60 : decode prog_4_method_15_code 60 = .ok (.lload_n 0, 1) := by decide +kernel
theorem d_Tw_add_61 : decode prog_4_method_15_code 61 = .ok (.lload_n 2, 1) := by decide +kernel
theorem d_Tw_add_62 : decode prog_4_method_15_code 62 = .ok (.lcmp, 1) := by decide +kernel
theorem d_Tw_add_63 : decode prog_4_method_15_code 63 = .ok (.ifCond .eq 9, 3) := by decide +kernel
theorem d_Tw_add_66 : decode prog_4_method_15_code 66 = .ok (.iload 4, 2) := by decide +kernel
theorem d_Tw_add_68 : decode prog_4_method_15_code 68 = .ok (.invokestatic 60, 3) := by decide +kernel
theorem d_Tw_add_71 : decode prog_4_method_15_code 71 = .ok (.lreturn, 1) := by decide +kernel
theorem d_Tw_add_72 : decode prog_4_method_15_code 72 = .ok (.lload_n 0, 1) := by decide +kernel
theorem d_Tw_add_73 : decode prog_4_method_15_code 73 = .ok (.iload 4, 2) := by decide +kernel
theorem d_Tw_add_75 : decode prog_4_method_15_code 75 = .ok (.invokestatic 63, 3) := by decide +kernel
theorem d_Tw_add_78 : decode prog_4_method_15_code 78 = .ok (.ifCond .eq 7, 3) := by decide +kernel
theorem d_Tw_add_81 : decode prog_4_method_15_code 81 = .ok (.lload_n 0, 1) := by decide +kernel
theorem d_Tw_add_82 : decode prog_4_method_15_code 82 = .ok (.goto 4, 3) := by decide +kernel
theorem d_Tw_add_85 : decode prog_4_method_15_code 85 = .ok (.lload_n 2, 1) := by decide +kernel
theorem d_Tw_add_86 : decode prog_4_method_15_code 86 = .ok (.lreturn, 1) := by decide +kernel
theorem d_Tw_add_87 : decode prog_4_method_15_code 87 = .ok (.lload_n 0, 1) := by decide +kernel
theorem d_Tw_add_88 : decode prog_4_method_15_code 88 = .ok (.iload 4, 2) := by decide +kernel
theorem d_Tw_add_90 : decode prog_4_method_15_code 90 = .ok (.invokestatic 66, 3) := by decide +kernel
theorem d_Tw_add_93 : decode prog_4_method_15_code 93 = .ok (.ifCond .eq 24, 3) := by decide +kernel
theorem d_Tw_add_96 : decode prog_4_method_15_code 96 = .ok (.lload_n 2, 1) := by decide +kernel
theorem d_Tw_add_97 : decode prog_4_method_15_code 97 = .ok (.iload 4, 2) := by decide +kernel
theorem d_Tw_add_99 : decode prog_4_method_15_code 99 = .ok (.invokestatic 66, 3) := by decide +kernel
theorem d_Tw_add_102 : decode prog_4_method_15_code 102 = .ok (.ifCond .eq 15, 3) := by decide +kernel
theorem d_Tw_add_105 : decode prog_4_method_15_code 105 = .ok (.lload_n 0, 1) := by decide +kernel
theorem d_Tw_add_106 : decode prog_4_method_15_code 106 = .ok (.lload_n 2, 1) := by decide +kernel
theorem d_Tw_add_107 : decode prog_4_method_15_code 107 = .ok (.lcmp, 1) := by decide +kernel
theorem d_Tw_add_108 : decode prog_4_method_15_code 108 = .ok (.ifCond .ne 7, 3) := by decide +kernel
theorem d_Tw_add_111 : decode prog_4_method_15_code 111 = .ok (.lload_n 0, 1) := by decide +kernel
theorem d_Tw_add_112 : decode prog_4_method_15_code 112 = .ok (.goto 4, 3) := by decide +kernel
theorem d_Tw_add_115 : decode prog_4_method_15_code 115 = .ok (.lconst 0, 1) := by decide +kernel
theorem d_Tw_add_116 : decode prog_4_method_15_code 116 = .ok (.lreturn, 1) := by decide +kernel
theorem d_Tw_add_117 : decode prog_4_method_15_code 117 = .ok (.lload_n 0, 1) := by decide +kernel
theorem d_Tw_add_118 : decode prog_4_method_15_code 118 = .ok (.iload 4, 2) := by decide +kernel
theorem d_Tw_add_120 : decode prog_4_method_15_code 120 = .ok (.invokestatic 69, 3) := by decide +kernel
theorem d_Tw_add_123 : decode prog_4_method_15_code 123 = .ok (.lload_n 2, 1) := by decide +kernel
theorem d_Tw_add_124 : decode prog_4_method_15_code 124 = .ok (.iload 4, 2) := by decide +kernel
theorem d_Tw_add_126 : decode prog_4_method_15_code 126 = .ok (.invokestatic 69, 3) := by decide +kernel
theorem d_Tw_add_129 : decode prog_4_method_15_code 129 = .ok (.if_icmp .lt 7, 3) := by decide +kernel
theorem d_Tw_add_132 : decode prog_4_method_15_code 132 = .ok (.iconst 1, 1) := by decide +kernel
theorem d_Tw_add_133 : decode prog_4_method_15_code 133 = .ok (.goto 4, 3) := by decide +kernel
theorem d_Tw_add_136 : decode prog_4_method_15_code 136 = .ok (.iconst 0, 1) := by decide +kernel
theorem d_Tw_add_137 : decode prog_4_method_15_code 137 = .ok (.istore 5, 2) := by decide +kernel
theorem d_Tw_add_139 : decode prog_4_method_15_code 139 = .ok (.iload 5, 2) := by decide +kernel
theorem d_Tw_add_141 : decode prog_4_method_15_code 141 = .ok (.ifCond .eq 7, 3) := by decide +kernel
theorem d_Tw_add_144 : decode prog_4_method_15_code 144 = .ok (.lload_n 0, 1) := by decide +kernel
theorem d_Tw_add_145 : decode prog_4_method_15_code 145 = .ok (.goto 4, 3) := by decide +kernel
theorem d_Tw_add_148 : decode prog_4_method_15_code 148 = .ok (.lload_n 2, 1) := by decide +kernel
theorem d_Tw_add_149 : decode prog_4_method_15_code 149 = .ok (.lstore 6, 2) := by decide +kernel
theorem d_Tw_add_151 : decode prog_4_method_15_code 151 = .ok (.iload 5, 2) := by decide +kernel
theorem d_Tw_add_153 : decode prog_4_method_15_code 153 = .ok (.ifCond .eq 7, 3) := by decide +kernel
theorem d_Tw_add_156 : decode prog_4_method_15_code 156 = .ok (.lload_n 2, 1) := by decide +kernel
theorem d_Tw_add_157 : decode prog_4_method_15_code 157 = .ok (.goto 4, 3) := by decide +kernel
theorem d_Tw_add_160 : decode prog_4_method_15_code 160 = .ok (.lload_n 0, 1) := by decide +kernel
theorem d_Tw_add_161 : decode prog_4_method_15_code 161 = .ok (.lstore 8, 2) := by decide +kernel
theorem d_Tw_add_163 : decode prog_4_method_15_code 163 = .ok (.lload 6, 2) := by decide +kernel
theorem d_Tw_add_165 : decode prog_4_method_15_code 165 = .ok (.iload 4, 2) := by decide +kernel
theorem d_Tw_add_167 : decode prog_4_method_15_code 167 = .ok (.invokestatic 69, 3) := by decide +kernel
theorem d_Tw_add_170 : decode prog_4_method_15_code 170 = .ok (.lload 8, 2) := by decide +kernel
theorem d_Tw_add_172 : decode prog_4_method_15_code 172 = .ok (.iload 4, 2) := by decide +kernel
theorem d_Tw_add_174 : decode prog_4_method_15_code 174 = .ok (.invokestatic 69, 3) := by decide +kernel
theorem d_Tw_add_177 : decode prog_4_method_15_code 177 = .ok (.isub, 1) := by decide +kernel
theorem d_Tw_add_178 : decode prog_4_method_15_code 178 = .ok (.istore 10, 2) := by decide +kernel
theorem d_Tw_add_180 : decode prog_4_method_15_code 180 = .ok (.lload 6, 2) := by decide +kernel
theorem d_Tw_add_182 : decode prog_4_method_15_code 182 = .ok (.iload 4, 2) := by decide +kernel
theorem d_Tw_add_184 : decode prog_4_method_15_code 184 = .ok (.invokestatic 73, 3) := by decide +kernel
theorem d_Tw_add_187 : decode prog_4_method_15_code 187 = .ok (.lstore 11, 2) := by decide +kernel
theorem d_Tw_add_189 : decode prog_4_method_15_code 189 = .ok (.lload 8, 2) := by decide +kernel
theorem d_Tw_add_191 : decode prog_4_method_15_code 191 = .ok (.iload 4, 2) := by decide +kernel
theorem d_Tw_add_193 : decode prog_4_method_15_code 193 = .ok (.invokestatic 73, 3) := by decide +kernel
theorem d_Tw_add_196 : decode prog_4_method_15_code 196 = .ok (.lstore 13, 2) := by decide +kernel
theorem d_Tw_add_198 : decode prog_4_method_15_code 198 = .ok (.lload 8, 2) := by decide +kernel
theorem d_Tw_add_200 : decode prog_4_method_15_code 200 = .ok (.iload 4, 2) := by decide +kernel
theorem d_Tw_add_202 : decode prog_4_method_15_code 202 = .ok (.invokestatic 69, 3) := by decide +kernel
theorem d_Tw_add_205 : decode prog_4_method_15_code 205 = .ok (.istore 15, 2) := by decide +kernel
theorem d_Tw_add_207 : decode prog_4_method_15_code 207 = .ok (.iconst 0, 1) := by decide +kernel
theorem d_Tw_add_208 : decode prog_4_method_15_code 208 = .ok (.istore 16, 2) := by decide +kernel
theorem d_Tw_add_210 : decode prog_4_method_15_code 210 = .ok (.iload 10, 2) := by decide +kernel
theorem d_Tw_add_212 : decode prog_4_method_15_code 212 = .ok (.bipush 9, 2) := by decide +kernel
theorem d_Tw_add_214 : decode prog_4_method_15_code 214 = .ok (.if_icmp .gt 13, 3) := by decide +kernel
theorem d_Tw_add_217 : decode prog_4_method_15_code 217 = .ok (.lload 11, 2) := by decide +kernel
theorem d_Tw_add_219 : decode prog_4_method_15_code 219 = .ok (.iload 10, 2) := by decide +kernel
theorem d_Tw_add_221 : decode prog_4_method_15_code 221 = .ok (.lshl, 1) := by decide +kernel
theorem d_Tw_add_222 : decode prog_4_method_15_code 222 = .ok (.lstore 11, 2) := by decide +kernel
theorem d_Tw_add_224 : decode prog_4_method_15_code 224 = .ok (.goto 90, 3) := by decide +kernel
theorem d_Tw_add_227 : decode prog_4_method_15_code 227 = .ok (.lload 11, 2) := by decide +kernel
theorem d_Tw_add_229 : decode prog_4_method_15_code 229 = .ok (.bipush 9, 2) := by decide +kernel
theorem d_Tw_add_231 : decode prog_4_method_15_code 231 = .ok (.lshl, 1) := by decide +kernel
theorem d_Tw_add_232 : decode prog_4_method_15_code 232 = .ok (.lstore 11, 2) := by decide +kernel
theorem d_Tw_add_234 : decode prog_4_method_15_code 234 = .ok (.lload 6, 2) := by decide +kernel
theorem d_Tw_add_236 : decode prog_4_method_15_code 236 = .ok (.iload 4, 2) := by decide +kernel
theorem d_Tw_add_238 : decode prog_4_method_15_code 238 = .ok (.invokestatic 69, 3) := by decide +kernel
theorem d_Tw_add_241 : decode prog_4_method_15_code 241 = .ok (.bipush 9, 2) := by decide +kernel
theorem d_Tw_add_243 : decode prog_4_method_15_code 243 = .ok (.isub, 1) := by decide +kernel
theorem d_Tw_add_244 : decode prog_4_method_15_code 244 = .ok (.istore 15, 2) := by decide +kernel
theorem d_Tw_add_246 : decode prog_4_method_15_code 246 = .ok (.iload 10, 2) := by decide +kernel
theorem d_Tw_add_248 : decode prog_4_method_15_code 248 = .ok (.bipush 9, 2) := by decide +kernel
theorem d_Tw_add_250 : decode prog_4_method_15_code 250 = .ok (.isub, 1) := by decide +kernel
theorem d_Tw_add_251 : decode prog_4_method_15_code 251 = .ok (.istore 17, 2) := by decide +kernel
theorem d_Tw_add_253 : decode prog_4_method_15_code 253 = .ok (.iload 17, 2) := by decide +kernel
theorem d_Tw_add_255 : decode prog_4_method_15_code 255 = .ok (.bipush 62, 2) := by decide +kernel
theorem d_Tw_add_257 : decode prog_4_method_15_code 257 = .ok (.if_icmp .le 18, 3) := by decide +kernel
theorem d_Tw_add_260 : decode prog_4_method_15_code 260 = .ok (.lload 13, 2) := by decide +kernel
theorem d_Tw_add_262 : decode prog_4_method_15_code 262 = .ok (.lconst 0, 1) := by decide +kernel
theorem d_Tw_add_263 : decode prog_4_method_15_code 263 = .ok (.lcmp, 1) := by decide +kernel
theorem d_Tw_add_264 : decode prog_4_method_15_code 264 = .ok (.ifCond .eq 7, 3) := by decide +kernel
theorem d_Tw_add_267 : decode prog_4_method_15_code 267 = .ok (.iconst 1, 1) := by decide +kernel
theorem d_Tw_add_268 : decode prog_4_method_15_code 268 = .ok (.goto 26, 3) := by decide +kernel
theorem d_Tw_add_271 : decode prog_4_method_15_code 271 = .ok (.iconst 0, 1) := by decide +kernel
theorem d_Tw_add_272 : decode prog_4_method_15_code 272 = .ok (.goto 22, 3) := by decide +kernel
theorem d_Tw_add_275 : decode prog_4_method_15_code 275 = .ok (.lload 13, 2) := by decide +kernel
theorem d_Tw_add_277 : decode prog_4_method_15_code 277 = .ok (.lconst 1, 1) := by decide +kernel
theorem d_Tw_add_278 : decode prog_4_method_15_code 278 = .ok (.iload 17, 2) := by decide +kernel
theorem d_Tw_add_280 : decode prog_4_method_15_code 280 = .ok (.lshl, 1) := by decide +kernel
theorem d_Tw_add_281 : decode prog_4_method_15_code 281 = .ok (.lconst 1, 1) := by decide +kernel
theorem d_Tw_add_282 : decode prog_4_method_15_code 282 = .ok (.lsub, 1) := by decide +kernel
theorem d_Tw_add_283 : decode prog_4_method_15_code 283 = .ok (.land, 1) := by decide +kernel
theorem d_Tw_add_284 : decode prog_4_method_15_code 284 = .ok (.lconst 0, 1) := by decide +kernel
theorem d_Tw_add_285 : decode prog_4_method_15_code 285 = .ok (.lcmp, 1) := by decide +kernel
theorem d_Tw_add_286 : decode prog_4_method_15_code 286 = .ok (.ifCond .eq 7, 3) := by decide +kernel
theorem d_Tw_add_289 : decode prog_4_method_15_code 289 = .ok (.iconst 1, 1) := by decide +kernel
theorem d_Tw_add_290 : decode prog_4_method_15_code 290 = .ok (.goto 4, 3) := by decide +kernel
theorem d_Tw_add_293 : decode prog_4_method_15_code 293 = .ok (.iconst 0, 1) := by decide +kernel
theorem d_Tw_add_294 : decode prog_4_method_15_code 294 = .ok (.istore 16, 2) := by decide +kernel
theorem d_Tw_add_296 : decode prog_4_method_15_code 296 = .ok (.iload 17, 2) := by decide +kernel
theorem d_Tw_add_298 : decode prog_4_method_15_code 298 = .ok (.bipush 62, 2) := by decide +kernel
theorem d_Tw_add_300 : decode prog_4_method_15_code 300 = .ok (.if_icmp .le 7, 3) := by decide +kernel
theorem d_Tw_add_303 : decode prog_4_method_15_code 303 = .ok (.lconst 0, 1) := by decide +kernel
theorem d_Tw_add_304 : decode prog_4_method_15_code 304 = .ok (.goto 8, 3) := by decide +kernel
theorem d_Tw_add_307 : decode prog_4_method_15_code 307 = .ok (.lload 13, 2) := by decide +kernel
theorem d_Tw_add_309 : decode prog_4_method_15_code 309 = .ok (.iload 17, 2) := by decide +kernel
theorem d_Tw_add_311 : decode prog_4_method_15_code 311 = .ok (.lshr, 1) := by decide +kernel
theorem d_Tw_add_312 : decode prog_4_method_15_code 312 = .ok (.lstore 13, 2) := by decide +kernel
theorem d_Tw_add_314 : decode prog_4_method_15_code 314 = .ok (.lload 6, 2) := by decide +kernel
theorem d_Tw_add_316 : decode prog_4_method_15_code 316 = .ok (.iload 4, 2) := by decide +kernel
theorem d_Tw_add_318 : decode prog_4_method_15_code 318 = .ok (.invokestatic 76, 3) := by decide +kernel
theorem d_Tw_add_321 : decode prog_4_method_15_code 321 = .ok (.lload 8, 2) := by decide +kernel
theorem d_Tw_add_323 : decode prog_4_method_15_code 323 = .ok (.iload 4, 2) := by decide +kernel
theorem d_Tw_add_325 : decode prog_4_method_15_code 325 = .ok (.invokestatic 76, 3) := by decide +kernel
theorem d_Tw_add_328 : decode prog_4_method_15_code 328 = .ok (.if_icmp .ne 25, 3) := by decide +kernel
theorem d_Tw_add_331 : decode prog_4_method_15_code 331 = .ok (.lload 6, 2) := by decide +kernel
theorem d_Tw_add_333 : decode prog_4_method_15_code 333 = .ok (.iload 4, 2) := by decide +kernel
theorem d_Tw_add_335 : decode prog_4_method_15_code 335 = .ok (.invokestatic 76, 3) := by decide +kernel
theorem d_Tw_add_338 : decode prog_4_method_15_code 338 = .ok (.lload 11, 2) := by decide +kernel
theorem d_Tw_add_340 : decode prog_4_method_15_code 340 = .ok (.lload 13, 2) := by decide +kernel
theorem d_Tw_add_342 : decode prog_4_method_15_code 342 = .ok (.ladd, 1) := by decide +kernel
theorem d_Tw_add_343 : decode prog_4_method_15_code 343 = .ok (.iload 15, 2) := by decide +kernel
theorem d_Tw_add_345 : decode prog_4_method_15_code 345 = .ok (.iload 16, 2) := by decide +kernel
theorem d_Tw_add_347 : decode prog_4_method_15_code 347 = .ok (.iload 4, 2) := by decide +kernel
theorem d_Tw_add_349 : decode prog_4_method_15_code 349 = .ok (.invokestatic 52, 3) := by decide +kernel
theorem d_Tw_add_352 : decode prog_4_method_15_code 352 = .ok (.lreturn, 1) := by decide +kernel
theorem d_Tw_add_353 : decode prog_4_method_15_code 353 = .ok (.lload 11, 2) := by decide +kernel
theorem d_Tw_add_355 : decode prog_4_method_15_code 355 = .ok (.lload 13, 2) := by decide +kernel
theorem d_Tw_add_357 : decode prog_4_method_15_code 357 = .ok (.lsub, 1) := by decide +kernel
theorem d_Tw_add_358 : decode prog_4_method_15_code 358 = .ok (.iload 16, 2) := by decide +kernel
theorem d_Tw_add_360 : decode prog_4_method_15_code 360 = .ok (.ifCond .eq 7, 3) := by decide +kernel
theorem d_Tw_add_363 : decode prog_4_method_15_code 363 = .ok (.iconst 1, 1) := by decide +kernel
theorem d_Tw_add_364 : decode prog_4_method_15_code 364 = .ok (.goto 4, 3) := by decide +kernel
theorem d_Tw_add_367 : decode prog_4_method_15_code 367 = .ok (.iconst 0, 1) := by decide +kernel
theorem d_Tw_add_368 : decode prog_4_method_15_code 368 = .ok (.i2l, 1) := by decide +kernel
theorem d_Tw_add_369 : decode prog_4_method_15_code 369 = .ok (.lsub, 1) := by decide +kernel
theorem d_Tw_add_370 : decode prog_4_method_15_code 370 = .ok (.lstore 17, 2) := by decide +kernel
theorem d_Tw_add_372 : decode prog_4_method_15_code 372 = .ok (.lload 17, 2) := by decide +kernel
theorem d_Tw_add_374 : decode prog_4_method_15_code 374 = .ok (.lconst 0, 1) := by decide +kernel
theorem d_Tw_add_375 : decode prog_4_method_15_code 375 = .ok (.lcmp, 1) := by decide +kernel
theorem d_Tw_add_376 : decode prog_4_method_15_code 376 = .ok (.ifCond .ne 10, 3) := by decide +kernel
theorem d_Tw_add_379 : decode prog_4_method_15_code 379 = .ok (.iload 16, 2) := by decide +kernel
theorem d_Tw_add_381 : decode prog_4_method_15_code 381 = .ok (.ifCond .ne 5, 3) := by decide +kernel
theorem d_Tw_add_384 : decode prog_4_method_15_code 384 = .ok (.lconst 0, 1) := by decide +kernel
theorem d_Tw_add_385 : decode prog_4_method_15_code 385 = .ok (.lreturn, 1) := by decide +kernel
theorem d_Tw_add_386 : decode prog_4_method_15_code 386 = .ok (.lload 17, 2) := by decide +kernel
theorem d_Tw_add_388 : decode prog_4_method_15_code 388 = .ok (.lconst 0, 1) := by decide +kernel
theorem d_Tw_add_389 : decode prog_4_method_15_code 389 = .ok (.lcmp, 1) := by decide +kernel
theorem d_Tw_add_390 : decode prog_4_method_15_code 390 = .ok (.ifCond .ge 24, 3) := by decide +kernel
theorem d_Tw_add_393 : decode prog_4_method_15_code 393 = .ok (.lload 8, 2) := by decide +kernel
theorem d_Tw_add_395 : decode prog_4_method_15_code 395 = .ok (.iload 4, 2) := by decide +kernel
theorem d_Tw_add_397 : decode prog_4_method_15_code 397 = .ok (.invokestatic 76, 3) := by decide +kernel
theorem d_Tw_add_400 : decode prog_4_method_15_code 400 = .ok (.lload 17, 2) := by decide +kernel
theorem d_Tw_add_402 : decode prog_4_method_15_code 402 = .ok (.lneg, 1) := by decide +kernel
theorem d_Tw_add_403 : decode prog_4_method_15_code 403 = .ok (.iload 15, 2) := by decide +kernel
theorem d_Tw_add_405 : decode prog_4_method_15_code 405 = .ok (.iconst 0, 1) := by decide +kernel
theorem d_Tw_add_406 : decode prog_4_method_15_code 406 = .ok (.iload 4, 2) := by decide +kernel
theorem d_Tw_add_408 : decode prog_4_method_15_code 408 = .ok (.invokestatic 52, 3) := by decide +kernel
theorem d_Tw_add_411 : decode prog_4_method_15_code 411 = .ok (.goto 21, 3) := by decide +kernel
theorem d_Tw_add_414 : decode prog_4_method_15_code 414 = .ok (.lload 6, 2) := by decide +kernel
theorem d_Tw_add_416 : decode prog_4_method_15_code 416 = .ok (.iload 4, 2) := by decide +kernel
theorem d_Tw_add_418 : decode prog_4_method_15_code 418 = .ok (.invokestatic 76, 3) := by decide +kernel
theorem d_Tw_add_421 : decode prog_4_method_15_code 421 = .ok (.lload 17, 2) := by decide +kernel
theorem d_Tw_add_423 : decode prog_4_method_15_code 423 = .ok (.iload 15, 2) := by decide +kernel
theorem d_Tw_add_425 : decode prog_4_method_15_code 425 = .ok (.iload 16, 2) := by decide +kernel
theorem d_Tw_add_427 : decode prog_4_method_15_code 427 = .ok (.iload 4, 2) := by decide +kernel
theorem d_Tw_add_429 : decode prog_4_method_15_code 429 = .ok (.invokestatic 52, 3) := by decide +kernel
theorem d_Tw_add_432 : decode prog_4_method_15_code 432 = .ok (.lreturn, 1) := by decide +kernel
set_option maxHeartbeats 1200000 in
set_option maxRecDepth 100000 in
theorem c_Tw_add (l : Launch) (ad : Nat → Nat) (a : Int64) (b : Int64) (f : Nat) (h_f : f < 2) : Met l y_Tw_add w_Tw_add ({ frames := 3, cells := 0, slots := 0, locals := 77 } : Room) (va_Pc [.long a, .long b, .int (nI f)] (nb_K ad)) (vp_Sl (fun r => r = mf_Tw_add a b f)) 0 0 (fun _ => False) := by
  refine Met.ofW (cc := prog_4_method_15_code) (maxL := 19) (ret := some .long) (by decide) rfl ?_
  intro p e s m args below meth c s₁ B hml hv
  obtain ⟨rfl, hC⟩ := hv
  have hx := B.exec
  have hb := B.bytes
  have hr := B.returns
  have hts := atoms_spec (ws := w_Tw_add) B.pre
  have hown : s.vm.findClass "NumberBenchModel" = some m.cls := findClass_of_methodNamed B.named
  have hlocks := B.notSynchronized
  have hC : nb_C ad (fun _ => False) s s.heap := hC
  have hS : va_S (fun _ => False) s.heap s.heap [] := va_S.rf
  have hl := lv_entry ([.long a, .long b, .int (nI f)]) (n := 19) (Nat.le_of_ble_eq_true rfl)
  rw [lg_entry_eq]
  generalize (lg_sl ([.long a, .long b, .int (nI f)]) ++ List.replicate (19 - (lg_sl ([.long a, .long b, .int (nI f)])).length) Slot.unset).toArray = ls at hl ⊢
  have hl : lv_has ls 19 [(0, .long a), (2, .long b), (4, .int (nI f))] := hl
  have b386 : ∀ (x6 : Int64) (x8 : Int64) (x15 : Int32) (x16 : Int32) (x17 : Int64) (ls : Array Slot), lv_has ls 19 [(4, .int (nI f)), (6, .long x6), (8, .long x8), (15, .int x15), (16, .int x16), (17, .long x17)] → mf_Tw_add a b f = mf_Tw_add_b386 a b f x6 x8 x15 x16 x17 → W p l e (headSpec w_Tw_add ({ frames := 3, cells := 0, slots := 0, locals := 77 } : Room)).room s m ([.long a, .long b, .int (nI f)] : List Value).toArray below meth c s.heap [] 0 0 (MQ below (vp_Sl (fun r => r = mf_Tw_add a b f)) ([.long a, .long b, .int (nI f)] : List Value).toArray s 0 0 (fun _ => False)) (F0 m 386 ls []) := by
    intro x6 x8 x15 x16 x17 ls hl  hE
    refine lv_lload hx hb d_Tw_add_386 (lv_at hl 5 rfl) ?_
    refine lv_lconst (v := 0) hx hb d_Tw_add_388 (by decide) ?_
    refine nb_lc_ge (tgt := 414) hx hb d_Tw_add_389 d_Tw_add_390 (by decide) (fun h29 => ?_) (fun h29 => ?_)
    · refine lv_lload hx hb d_Tw_add_414 (lv_at hl 1 rfl) ?_
      refine lv_iload hx hb d_Tw_add_416 (lv_at hl 0 rfl) ?_
      refine nb_callSi (As := [.long x6, .int (nI f)]) (rest := []) hx hb hml hown hts (c_Tw_minus l ad x6 f h_f) nb_t299 nb_t300 nb_t2 nb_t301 hd_Tw_minus rfl ⟨Nat.le_of_ble_eq_true rfl, Nat.le_of_ble_eq_true rfl⟩ ⟨rfl, rfl⟩ hC hS hl.1 rfl (Nat.le_of_ble_eq_true rfl) ⟨Nat.le_of_ble_eq_true rfl, Nat.le_of_ble_eq_true rfl⟩ d_Tw_add_418 ?_
      refine lv_lload hx hb d_Tw_add_421 (lv_at hl 5 rfl) ?_
      refine lv_iload hx hb d_Tw_add_423 (lv_at hl 3 rfl) ?_
      refine lv_iload hx hb d_Tw_add_425 (lv_at hl 4 rfl) ?_
      refine lv_iload hx hb d_Tw_add_427 (lv_at hl 0 rfl) ?_
      refine nb_callSl (As := [.int (mf_Tw_minus x6 f), .long x17, .int x15, .int x16, .int (nI f)]) (rest := []) hx hb hml hown hts (c_Tw_rounded l ad (mf_Tw_minus x6 f) x17 x15 x16 f h_f) nb_t319 nb_t320 nb_t2 nb_t321 hd_Tw_rounded rfl ⟨Nat.le_of_ble_eq_true rfl, Nat.le_of_ble_eq_true rfl⟩ ⟨rfl, rfl⟩ hC hS hl.1 rfl (Nat.le_of_ble_eq_true rfl) ⟨Nat.le_of_ble_eq_true rfl, Nat.le_of_ble_eq_true rfl⟩ d_Tw_add_429 ?_
      exact W.lret hx hb hr (fun t ht hW => ⟨_, rfl, (by rw [hE, mf_Tw_add_b386, if_pos h29]), ht⟩) t_nil d_Tw_add_432
    · refine lv_lload hx hb d_Tw_add_393 (lv_at hl 2 rfl) ?_
      refine lv_iload hx hb d_Tw_add_395 (lv_at hl 0 rfl) ?_
      refine nb_callSi (As := [.long x8, .int (nI f)]) (rest := []) hx hb hml hown hts (c_Tw_minus l ad x8 f h_f) nb_t299 nb_t300 nb_t2 nb_t301 hd_Tw_minus rfl ⟨Nat.le_of_ble_eq_true rfl, Nat.le_of_ble_eq_true rfl⟩ ⟨rfl, rfl⟩ hC hS hl.1 rfl (Nat.le_of_ble_eq_true rfl) ⟨Nat.le_of_ble_eq_true rfl, Nat.le_of_ble_eq_true rfl⟩ d_Tw_add_397 ?_
      refine lv_lload hx hb d_Tw_add_400 (lv_at hl 5 rfl) ?_
      refine lv_lneg hx hb d_Tw_add_402 ?_
      refine lv_iload hx hb d_Tw_add_403 (lv_at hl 3 rfl) ?_
      refine lv_iconst (v := 0) hx hb d_Tw_add_405 (by decide) ?_
      refine lv_iload hx hb d_Tw_add_406 (lv_at hl 0 rfl) ?_
      refine nb_callSl (As := [.int (mf_Tw_minus x8 f), .long (-x17), .int x15, .int (0 : Int32), .int (nI f)]) (rest := []) hx hb hml hown hts (c_Tw_rounded l ad (mf_Tw_minus x8 f) (-x17) x15 (0 : Int32) f h_f) nb_t319 nb_t320 nb_t2 nb_t321 hd_Tw_rounded rfl ⟨Nat.le_of_ble_eq_true rfl, Nat.le_of_ble_eq_true rfl⟩ ⟨rfl, rfl⟩ hC hS hl.1 rfl (Nat.le_of_ble_eq_true rfl) ⟨Nat.le_of_ble_eq_true rfl, Nat.le_of_ble_eq_true rfl⟩ d_Tw_add_408 ?_
      refine lv_goto (tgt := 432) hx hb d_Tw_add_411 (by decide) ?_
      exact W.lret hx hb hr (fun t ht hW => ⟨_, rfl, (by rw [hE, mf_Tw_add_b386, if_neg h29]), ht⟩) t_nil d_Tw_add_432
  have b368 : ∀ (x6 : Int64) (x8 : Int64) (x15 : Int32) (x16 : Int32) (k0 : Int32) (k1 : Int64) (ls : Array Slot), lv_has ls 19 [(4, .int (nI f)), (6, .long x6), (8, .long x8), (15, .int x15), (16, .int x16)] → mf_Tw_add a b f = mf_Tw_add_b368 a b f x6 x8 x15 x16 k0 k1 → W p l e (headSpec w_Tw_add ({ frames := 3, cells := 0, slots := 0, locals := 77 } : Room)).room s m ([.long a, .long b, .int (nI f)] : List Value).toArray below meth c s.heap [] 0 0 (MQ below (vp_Sl (fun r => r = mf_Tw_add a b f)) ([.long a, .long b, .int (nI f)] : List Value).toArray s 0 0 (fun _ => False)) (F0 m 368 ls [.int k0, .long k1]) := by
    intro x6 x8 x15 x16 k0 k1 ls hl  hE
    refine lv_i2l hx hb d_Tw_add_368 rfl ?_
    refine lv_lsub hx hb d_Tw_add_369 ?_
    refine lv_lstore hx hb d_Tw_add_370 hl (by decide) rfl (fun ls hl => ?_)
    have hl : lv_has ls 19 [(17, .long (k1 - k0.toInt64)), (4, .int (nI f)), (6, .long x6), (8, .long x8), (15, .int x15), (16, .int x16)] := hl
    refine lv_lload hx hb d_Tw_add_372 (lv_at hl 0 rfl) ?_
    refine lv_lconst (v := 0) hx hb d_Tw_add_374 (by decide) ?_
    refine nb_lc_ne (tgt := 386) hx hb d_Tw_add_375 d_Tw_add_376 (by decide) (fun h27 => ?_) (fun h27 => ?_)
    · exact b386 x6 x8 x15 x16 (k1 - k0.toInt64) ls (lv_sub hl [1, 2, 3, 4, 5, 0] rfl)  (by rw [hE, mf_Tw_add_b368, if_neg h27])
    · refine lv_iload hx hb d_Tw_add_379 (lv_at hl 5 rfl) ?_
      refine lv_if_ne (tgt := 386) hx hb d_Tw_add_381 (by decide) (fun h28 => ?_) (fun h28 => ?_)
      · exact b386 x6 x8 x15 x16 (k1 - k0.toInt64) ls (lv_sub hl [1, 2, 3, 4, 5, 0] rfl)  (by rw [hE, mf_Tw_add_b368, if_pos h27, if_neg h28])
      · refine lv_lconst (v := 0) hx hb d_Tw_add_384 (by decide) ?_
        exact W.lret hx hb hr (fun t ht hW => ⟨_, rfl, (by rw [hE, mf_Tw_add_b368, if_pos h27, if_pos h28]), ht⟩) t_nil d_Tw_add_385
  have b314 : ∀ (x6 : Int64) (x8 : Int64) (x11 : Int64) (x13 : Int64) (x15 : Int32) (x16 : Int32) (ls : Array Slot), lv_has ls 19 [(4, .int (nI f)), (6, .long x6), (8, .long x8), (11, .long x11), (13, .long x13), (15, .int x15), (16, .int x16)] → mf_Tw_add a b f = mf_Tw_add_b314 a b f x6 x8 x11 x13 x15 x16 → W p l e (headSpec w_Tw_add ({ frames := 3, cells := 0, slots := 0, locals := 77 } : Room)).room s m ([.long a, .long b, .int (nI f)] : List Value).toArray below meth c s.heap [] 0 0 (MQ below (vp_Sl (fun r => r = mf_Tw_add a b f)) ([.long a, .long b, .int (nI f)] : List Value).toArray s 0 0 (fun _ => False)) (F0 m 314 ls []) := by
    intro x6 x8 x11 x13 x15 x16 ls hl  hE
    refine lv_lload hx hb d_Tw_add_314 (lv_at hl 1 rfl) ?_
    refine lv_iload hx hb d_Tw_add_316 (lv_at hl 0 rfl) ?_
    refine nb_callSi (As := [.long x6, .int (nI f)]) (rest := []) hx hb hml hown hts (c_Tw_minus l ad x6 f h_f) nb_t299 nb_t300 nb_t2 nb_t301 hd_Tw_minus rfl ⟨Nat.le_of_ble_eq_true rfl, Nat.le_of_ble_eq_true rfl⟩ ⟨rfl, rfl⟩ hC hS hl.1 rfl (Nat.le_of_ble_eq_true rfl) ⟨Nat.le_of_ble_eq_true rfl, Nat.le_of_ble_eq_true rfl⟩ d_Tw_add_318 ?_
    refine lv_lload hx hb d_Tw_add_321 (lv_at hl 2 rfl) ?_
    refine lv_iload hx hb d_Tw_add_323 (lv_at hl 0 rfl) ?_
    refine nb_callSi (As := [.long x8, .int (nI f)]) (rest := [.int (mf_Tw_minus x6 f)]) hx hb hml hown hts (c_Tw_minus l ad x8 f h_f) nb_t299 nb_t300 nb_t2 nb_t301 hd_Tw_minus rfl ⟨Nat.le_of_ble_eq_true rfl, Nat.le_of_ble_eq_true rfl⟩ ⟨rfl, rfl⟩ hC hS hl.1 rfl (Nat.le_of_ble_eq_true rfl) ⟨Nat.le_of_ble_eq_true rfl, Nat.le_of_ble_eq_true rfl⟩ d_Tw_add_325 ?_
    refine lv_icmp_ne (tgt := 353) hx hb d_Tw_add_328 (by decide) (fun h25 => ?_) (fun h25 => ?_)
    · refine lv_lload hx hb d_Tw_add_353 (lv_at hl 3 rfl) ?_
      refine lv_lload hx hb d_Tw_add_355 (lv_at hl 4 rfl) ?_
      refine lv_lsub hx hb d_Tw_add_357 ?_
      refine lv_iload hx hb d_Tw_add_358 (lv_at hl 6 rfl) ?_
      refine lv_if_eq (tgt := 367) hx hb d_Tw_add_360 (by decide) (fun h26 => ?_) (fun h26 => ?_)
      · refine lv_iconst (v := 0) hx hb d_Tw_add_367 (by decide) ?_
        exact b368 x6 x8 x15 x16 (0 : Int32) (x11 - x13) ls (lv_sub hl [0, 1, 2, 5, 6] rfl)  (by rw [hE, mf_Tw_add_b314, if_neg h25, if_pos h26])
      · refine lv_iconst (v := 1) hx hb d_Tw_add_363 (by decide) ?_
        refine lv_goto (tgt := 368) hx hb d_Tw_add_364 (by decide) ?_
        exact b368 x6 x8 x15 x16 (1 : Int32) (x11 - x13) ls (lv_sub hl [0, 1, 2, 5, 6] rfl)  (by rw [hE, mf_Tw_add_b314, if_neg h25, if_neg h26])
    · refine lv_lload hx hb d_Tw_add_331 (lv_at hl 1 rfl) ?_
      refine lv_iload hx hb d_Tw_add_333 (lv_at hl 0 rfl) ?_
      refine nb_callSi (As := [.long x6, .int (nI f)]) (rest := []) hx hb hml hown hts (c_Tw_minus l ad x6 f h_f) nb_t299 nb_t300 nb_t2 nb_t301 hd_Tw_minus rfl ⟨Nat.le_of_ble_eq_true rfl, Nat.le_of_ble_eq_true rfl⟩ ⟨rfl, rfl⟩ hC hS hl.1 rfl (Nat.le_of_ble_eq_true rfl) ⟨Nat.le_of_ble_eq_true rfl, Nat.le_of_ble_eq_true rfl⟩ d_Tw_add_335 ?_
      refine lv_lload hx hb d_Tw_add_338 (lv_at hl 3 rfl) ?_
      refine lv_lload hx hb d_Tw_add_340 (lv_at hl 4 rfl) ?_
      refine lv_ladd hx hb d_Tw_add_342 ?_
      refine lv_iload hx hb d_Tw_add_343 (lv_at hl 5 rfl) ?_
      refine lv_iload hx hb d_Tw_add_345 (lv_at hl 6 rfl) ?_
      refine lv_iload hx hb d_Tw_add_347 (lv_at hl 0 rfl) ?_
      refine nb_callSl (As := [.int (mf_Tw_minus x6 f), .long (x11 + x13), .int x15, .int x16, .int (nI f)]) (rest := []) hx hb hml hown hts (c_Tw_rounded l ad (mf_Tw_minus x6 f) (x11 + x13) x15 x16 f h_f) nb_t319 nb_t320 nb_t2 nb_t321 hd_Tw_rounded rfl ⟨Nat.le_of_ble_eq_true rfl, Nat.le_of_ble_eq_true rfl⟩ ⟨rfl, rfl⟩ hC hS hl.1 rfl (Nat.le_of_ble_eq_true rfl) ⟨Nat.le_of_ble_eq_true rfl, Nat.le_of_ble_eq_true rfl⟩ d_Tw_add_349 ?_
      exact W.lret hx hb hr (fun t ht hW => ⟨_, rfl, (by rw [hE, mf_Tw_add_b314, if_pos h25]), ht⟩) t_nil d_Tw_add_352
  have b312 : ∀ (x6 : Int64) (x8 : Int64) (x11 : Int64) (x15 : Int32) (x16 : Int32) (k0 : Int64) (ls : Array Slot), lv_has ls 19 [(4, .int (nI f)), (6, .long x6), (8, .long x8), (11, .long x11), (15, .int x15), (16, .int x16)] → mf_Tw_add a b f = mf_Tw_add_b312 a b f x6 x8 x11 x15 x16 k0 → W p l e (headSpec w_Tw_add ({ frames := 3, cells := 0, slots := 0, locals := 77 } : Room)).room s m ([.long a, .long b, .int (nI f)] : List Value).toArray below meth c s.heap [] 0 0 (MQ below (vp_Sl (fun r => r = mf_Tw_add a b f)) ([.long a, .long b, .int (nI f)] : List Value).toArray s 0 0 (fun _ => False)) (F0 m 312 ls [.long k0]) := by
    intro x6 x8 x11 x15 x16 k0 ls hl  hE
    refine lv_lstore hx hb d_Tw_add_312 hl (by decide) rfl (fun ls hl => ?_)
    have hl : lv_has ls 19 [(13, .long k0), (4, .int (nI f)), (6, .long x6), (8, .long x8), (11, .long x11), (15, .int x15), (16, .int x16)] := hl
    exact b314 x6 x8 x11 k0 x15 x16 ls (lv_sub hl [1, 2, 3, 4, 0, 5, 6] rfl)  (by rw [hE, mf_Tw_add_b312])
  have b294 : ∀ (x6 : Int64) (x8 : Int64) (x11 : Int64) (x13 : Int64) (x15 : Int32) (x17 : Int32) (k0 : Int32) (ls : Array Slot), lv_has ls 19 [(4, .int (nI f)), (6, .long x6), (8, .long x8), (11, .long x11), (13, .long x13), (15, .int x15), (17, .int x17)] → mf_Tw_add a b f = mf_Tw_add_b294 a b f x6 x8 x11 x13 x15 x17 k0 → W p l e (headSpec w_Tw_add ({ frames := 3, cells := 0, slots := 0, locals := 77 } : Room)).room s m ([.long a, .long b, .int (nI f)] : List Value).toArray below meth c s.heap [] 0 0 (MQ below (vp_Sl (fun r => r = mf_Tw_add a b f)) ([.long a, .long b, .int (nI f)] : List Value).toArray s 0 0 (fun _ => False)) (F0 m 294 ls [.int k0]) := by
    intro x6 x8 x11 x13 x15 x17 k0 ls hl  hE
    refine lv_istore hx hb d_Tw_add_294 hl (by decide) rfl (fun ls hl => ?_)
    have hl : lv_has ls 19 [(16, .int k0), (4, .int (nI f)), (6, .long x6), (8, .long x8), (11, .long x11), (13, .long x13), (15, .int x15), (17, .int x17)] := hl
    refine lv_iload hx hb d_Tw_add_296 (lv_at hl 7 rfl) ?_
    refine lv_bipush (v := 62) hx hb d_Tw_add_298 (by decide) ?_
    refine lv_icmp_le (tgt := 307) hx hb d_Tw_add_300 (by decide) (fun h24 => ?_) (fun h24 => ?_)
    · refine lv_lload hx hb d_Tw_add_307 (lv_at hl 5 rfl) ?_
      refine lv_iload hx hb d_Tw_add_309 (lv_at hl 7 rfl) ?_
      refine lv_lshr hx hb d_Tw_add_311 rfl ?_
      exact b312 x6 x8 x11 x15 k0 (x13 >>> (x17.toInt64 &&& 63)) ls (lv_sub hl [1, 2, 3, 4, 6, 0] rfl)  (by rw [hE, mf_Tw_add_b294, if_pos h24])
    · refine lv_lconst (v := 0) hx hb d_Tw_add_303 (by decide) ?_
      refine lv_goto (tgt := 312) hx hb d_Tw_add_304 (by decide) ?_
      exact b312 x6 x8 x11 x15 k0 (0 : Int64) ls (lv_sub hl [1, 2, 3, 4, 6, 0] rfl)  (by rw [hE, mf_Tw_add_b294, if_neg h24])
  have b161 : ∀ (x6 : Int64) (k0 : Int64) (ls : Array Slot), lv_has ls 19 [(4, .int (nI f)), (6, .long x6)] → mf_Tw_add a b f = mf_Tw_add_b161 a b f x6 k0 → W p l e (headSpec w_Tw_add ({ frames := 3, cells := 0, slots := 0, locals := 77 } : Room)).room s m ([.long a, .long b, .int (nI f)] : List Value).toArray below meth c s.heap [] 0 0 (MQ below (vp_Sl (fun r => r = mf_Tw_add a b f)) ([.long a, .long b, .int (nI f)] : List Value).toArray s 0 0 (fun _ => False)) (F0 m 161 ls [.long k0]) := by
    intro x6 k0 ls hl  hE
    refine lv_lstore hx hb d_Tw_add_161 hl (by decide) rfl (fun ls hl => ?_)
    have hl : lv_has ls 19 [(8, .long k0), (4, .int (nI f)), (6, .long x6)] := hl
    refine lv_lload hx hb d_Tw_add_163 (lv_at hl 2 rfl) ?_
    refine lv_iload hx hb d_Tw_add_165 (lv_at hl 1 rfl) ?_
    refine nb_callSi (As := [.long x6, .int (nI f)]) (rest := []) hx hb hml hown hts (c_Tw_power l ad x6 f h_f) nb_t310 nb_t311 nb_t2 nb_t312 hd_Tw_power rfl ⟨Nat.le_of_ble_eq_true rfl, Nat.le_of_ble_eq_true rfl⟩ ⟨rfl, rfl⟩ hC hS hl.1 rfl (Nat.le_of_ble_eq_true rfl) ⟨Nat.le_of_ble_eq_true rfl, Nat.le_of_ble_eq_true rfl⟩ d_Tw_add_167 ?_
    refine lv_lload hx hb d_Tw_add_170 (lv_at hl 0 rfl) ?_
    refine lv_iload hx hb d_Tw_add_172 (lv_at hl 1 rfl) ?_
    refine nb_callSi (As := [.long k0, .int (nI f)]) (rest := [.int (mf_Tw_power x6 f)]) hx hb hml hown hts (c_Tw_power l ad k0 f h_f) nb_t310 nb_t311 nb_t2 nb_t312 hd_Tw_power rfl ⟨Nat.le_of_ble_eq_true rfl, Nat.le_of_ble_eq_true rfl⟩ ⟨rfl, rfl⟩ hC hS hl.1 rfl (Nat.le_of_ble_eq_true rfl) ⟨Nat.le_of_ble_eq_true rfl, Nat.le_of_ble_eq_true rfl⟩ d_Tw_add_174 ?_
    refine lv_isub hx hb d_Tw_add_177 ?_
    refine lv_istore hx hb d_Tw_add_178 hl (by decide) rfl (fun ls hl => ?_)
    have hl : lv_has ls 19 [(10, .int ((mf_Tw_power x6 f) - (mf_Tw_power k0 f))), (8, .long k0), (4, .int (nI f)), (6, .long x6)] := hl
    refine lv_lload hx hb d_Tw_add_180 (lv_at hl 3 rfl) ?_
    refine lv_iload hx hb d_Tw_add_182 (lv_at hl 2 rfl) ?_
    refine nb_callSl (As := [.long x6, .int (nI f)]) (rest := []) hx hb hml hown hts (c_Tw_whole l ad x6 f h_f) nb_t305 nb_t306 nb_t2 nb_t307 hd_Tw_whole rfl ⟨Nat.le_of_ble_eq_true rfl, Nat.le_of_ble_eq_true rfl⟩ ⟨rfl, rfl⟩ hC hS hl.1 rfl (Nat.le_of_ble_eq_true rfl) ⟨Nat.le_of_ble_eq_true rfl, Nat.le_of_ble_eq_true rfl⟩ d_Tw_add_184 ?_
    refine lv_lstore hx hb d_Tw_add_187 hl (by decide) rfl (fun ls hl => ?_)
    have hl : lv_has ls 19 [(11, .long (mf_Tw_whole x6 f)), (10, .int ((mf_Tw_power x6 f) - (mf_Tw_power k0 f))), (8, .long k0), (4, .int (nI f)), (6, .long x6)] := hl
    refine lv_lload hx hb d_Tw_add_189 (lv_at hl 2 rfl) ?_
    refine lv_iload hx hb d_Tw_add_191 (lv_at hl 3 rfl) ?_
    refine nb_callSl (As := [.long k0, .int (nI f)]) (rest := []) hx hb hml hown hts (c_Tw_whole l ad k0 f h_f) nb_t305 nb_t306 nb_t2 nb_t307 hd_Tw_whole rfl ⟨Nat.le_of_ble_eq_true rfl, Nat.le_of_ble_eq_true rfl⟩ ⟨rfl, rfl⟩ hC hS hl.1 rfl (Nat.le_of_ble_eq_true rfl) ⟨Nat.le_of_ble_eq_true rfl, Nat.le_of_ble_eq_true rfl⟩ d_Tw_add_193 ?_
    refine lv_lstore hx hb d_Tw_add_196 hl (by decide) rfl (fun ls hl => ?_)
    have hl : lv_has ls 19 [(13, .long (mf_Tw_whole k0 f)), (11, .long (mf_Tw_whole x6 f)), (10, .int ((mf_Tw_power x6 f) - (mf_Tw_power k0 f))), (8, .long k0), (4, .int (nI f)), (6, .long x6)] := hl
    refine lv_lload hx hb d_Tw_add_198 (lv_at hl 3 rfl) ?_
    refine lv_iload hx hb d_Tw_add_200 (lv_at hl 4 rfl) ?_
    refine nb_callSi (As := [.long k0, .int (nI f)]) (rest := []) hx hb hml hown hts (c_Tw_power l ad k0 f h_f) nb_t310 nb_t311 nb_t2 nb_t312 hd_Tw_power rfl ⟨Nat.le_of_ble_eq_true rfl, Nat.le_of_ble_eq_true rfl⟩ ⟨rfl, rfl⟩ hC hS hl.1 rfl (Nat.le_of_ble_eq_true rfl) ⟨Nat.le_of_ble_eq_true rfl, Nat.le_of_ble_eq_true rfl⟩ d_Tw_add_202 ?_
    refine lv_istore hx hb d_Tw_add_205 hl (by decide) rfl (fun ls hl => ?_)
    have hl : lv_has ls 19 [(15, .int (mf_Tw_power k0 f)), (13, .long (mf_Tw_whole k0 f)), (11, .long (mf_Tw_whole x6 f)), (10, .int ((mf_Tw_power x6 f) - (mf_Tw_power k0 f))), (8, .long k0), (4, .int (nI f)), (6, .long x6)] := hl
    refine lv_iconst (v := 0) hx hb d_Tw_add_207 (by decide) ?_
    refine lv_istore hx hb d_Tw_add_208 hl (by decide) rfl (fun ls hl => ?_)
    have hl : lv_has ls 19 [(16, .int (0 : Int32)), (15, .int (mf_Tw_power k0 f)), (13, .long (mf_Tw_whole k0 f)), (11, .long (mf_Tw_whole x6 f)), (10, .int ((mf_Tw_power x6 f) - (mf_Tw_power k0 f))), (8, .long k0), (4, .int (nI f)), (6, .long x6)] := hl
    refine lv_iload hx hb d_Tw_add_210 (lv_at hl 4 rfl) ?_
    refine lv_bipush (v := 9) hx hb d_Tw_add_212 (by decide) ?_
    refine lv_icmp_gt (tgt := 227) hx hb d_Tw_add_214 (by decide) (fun h17 => ?_) (fun h17 => ?_)
    · refine lv_lload hx hb d_Tw_add_227 (lv_at hl 3 rfl) ?_
      refine lv_bipush (v := 9) hx hb d_Tw_add_229 (by decide) ?_
      refine lv_lshl hx hb d_Tw_add_231 rfl ?_
      refine lv_topl (fun v18 ev18 => ?_)
      refine lv_lstore hx hb d_Tw_add_232 hl (by decide) rfl (fun ls hl => ?_)
      have hl : lv_has ls 19 [(11, .long v18), (16, .int (0 : Int32)), (15, .int (mf_Tw_power k0 f)), (13, .long (mf_Tw_whole k0 f)), (10, .int ((mf_Tw_power x6 f) - (mf_Tw_power k0 f))), (8, .long k0), (4, .int (nI f)), (6, .long x6)] := hl
      refine lv_lload hx hb d_Tw_add_234 (lv_at hl 7 rfl) ?_
      refine lv_iload hx hb d_Tw_add_236 (lv_at hl 6 rfl) ?_
      refine nb_callSi (As := [.long x6, .int (nI f)]) (rest := []) hx hb hml hown hts (c_Tw_power l ad x6 f h_f) nb_t310 nb_t311 nb_t2 nb_t312 hd_Tw_power rfl ⟨Nat.le_of_ble_eq_true rfl, Nat.le_of_ble_eq_true rfl⟩ ⟨rfl, rfl⟩ hC hS hl.1 rfl (Nat.le_of_ble_eq_true rfl) ⟨Nat.le_of_ble_eq_true rfl, Nat.le_of_ble_eq_true rfl⟩ d_Tw_add_238 ?_
      refine lv_bipush (v := 9) hx hb d_Tw_add_241 (by decide) ?_
      refine lv_isub hx hb d_Tw_add_243 ?_
      refine lv_istore hx hb d_Tw_add_244 hl (by decide) rfl (fun ls hl => ?_)
      have hl : lv_has ls 19 [(15, .int ((mf_Tw_power x6 f) - (9 : Int32))), (11, .long v18), (16, .int (0 : Int32)), (13, .long (mf_Tw_whole k0 f)), (10, .int ((mf_Tw_power x6 f) - (mf_Tw_power k0 f))), (8, .long k0), (4, .int (nI f)), (6, .long x6)] := hl
      refine lv_iload hx hb d_Tw_add_246 (lv_at hl 4 rfl) ?_
      refine lv_bipush (v := 9) hx hb d_Tw_add_248 (by decide) ?_
      refine lv_isub hx hb d_Tw_add_250 ?_
      refine lv_topi (fun v19 ev19 => ?_)
      refine lv_istore hx hb d_Tw_add_251 hl (by decide) rfl (fun ls hl => ?_)
      have hl : lv_has ls 19 [(17, .int v19), (15, .int ((mf_Tw_power x6 f) - (9 : Int32))), (11, .long v18), (16, .int (0 : Int32)), (13, .long (mf_Tw_whole k0 f)), (10, .int ((mf_Tw_power x6 f) - (mf_Tw_power k0 f))), (8, .long k0), (4, .int (nI f)), (6, .long x6)] := hl
      refine lv_iload hx hb d_Tw_add_253 (lv_at hl 0 rfl) ?_
      refine lv_bipush (v := 62) hx hb d_Tw_add_255 (by decide) ?_
      refine lv_icmp_le (tgt := 275) hx hb d_Tw_add_257 (by decide) (fun h20 => ?_) (fun h20 => ?_)
      · refine lv_lload hx hb d_Tw_add_275 (lv_at hl 4 rfl) ?_
        refine lv_lconst (v := 1) hx hb d_Tw_add_277 (by decide) ?_
        refine lv_iload hx hb d_Tw_add_278 (lv_at hl 0 rfl) ?_
        refine lv_lshl hx hb d_Tw_add_280 rfl ?_
        refine lv_lconst (v := 1) hx hb d_Tw_add_281 (by decide) ?_
        refine lv_lsub hx hb d_Tw_add_282 ?_
        refine lv_land hx hb d_Tw_add_283 ?_
        refine lv_lconst (v := 0) hx hb d_Tw_add_284 (by decide) ?_
        refine nb_lc_eq (tgt := 293) hx hb d_Tw_add_285 d_Tw_add_286 (by decide) (fun h21 => ?_) (fun h21 => ?_)
        · refine lv_iconst (v := 0) hx hb d_Tw_add_293 (by decide) ?_
          exact b294 x6 k0 v18 (mf_Tw_whole k0 f) ((mf_Tw_power x6 f) - (9 : Int32)) v19 (0 : Int32) ls (lv_sub hl [7, 8, 6, 2, 4, 1, 0] rfl)  (by subst ev19; subst ev18; rw [hE, mf_Tw_add_b161, if_pos h17, if_pos h20, if_pos h21])
        · refine lv_iconst (v := 1) hx hb d_Tw_add_289 (by decide) ?_
          refine lv_goto (tgt := 294) hx hb d_Tw_add_290 (by decide) ?_
          exact b294 x6 k0 v18 (mf_Tw_whole k0 f) ((mf_Tw_power x6 f) - (9 : Int32)) v19 (1 : Int32) ls (lv_sub hl [7, 8, 6, 2, 4, 1, 0] rfl)  (by subst ev19; subst ev18; rw [hE, mf_Tw_add_b161, if_pos h17, if_pos h20, if_neg h21])
      · refine lv_lload hx hb d_Tw_add_260 (lv_at hl 4 rfl) ?_
        refine lv_lconst (v := 0) hx hb d_Tw_add_262 (by decide) ?_
        refine nb_lc_eq (tgt := 271) hx hb d_Tw_add_263 d_Tw_add_264 (by decide) (fun h22 => ?_) (fun h22 => ?_)
        · refine lv_iconst (v := 0) hx hb d_Tw_add_271 (by decide) ?_
          refine lv_goto (tgt := 294) hx hb d_Tw_add_272 (by decide) ?_
          exact b294 x6 k0 v18 (mf_Tw_whole k0 f) ((mf_Tw_power x6 f) - (9 : Int32)) v19 (0 : Int32) ls (lv_sub hl [7, 8, 6, 2, 4, 1, 0] rfl)  (by subst ev19; subst ev18; rw [hE, mf_Tw_add_b161, if_pos h17, if_neg h20, if_pos h22])
        · refine lv_iconst (v := 1) hx hb d_Tw_add_267 (by decide) ?_
          refine lv_goto (tgt := 294) hx hb d_Tw_add_268 (by decide) ?_
          exact b294 x6 k0 v18 (mf_Tw_whole k0 f) ((mf_Tw_power x6 f) - (9 : Int32)) v19 (1 : Int32) ls (lv_sub hl [7, 8, 6, 2, 4, 1, 0] rfl)  (by subst ev19; subst ev18; rw [hE, mf_Tw_add_b161, if_pos h17, if_neg h20, if_neg h22])
    · refine lv_lload hx hb d_Tw_add_217 (lv_at hl 3 rfl) ?_
      refine lv_iload hx hb d_Tw_add_219 (lv_at hl 4 rfl) ?_
      refine lv_lshl hx hb d_Tw_add_221 rfl ?_
      refine lv_topl (fun v23 ev23 => ?_)
      refine lv_lstore hx hb d_Tw_add_222 hl (by decide) rfl (fun ls hl => ?_)
      have hl : lv_has ls 19 [(11, .long v23), (16, .int (0 : Int32)), (15, .int (mf_Tw_power k0 f)), (13, .long (mf_Tw_whole k0 f)), (10, .int ((mf_Tw_power x6 f) - (mf_Tw_power k0 f))), (8, .long k0), (4, .int (nI f)), (6, .long x6)] := hl
      refine lv_goto (tgt := 314) hx hb d_Tw_add_224 (by decide) ?_
      exact b314 x6 k0 v23 (mf_Tw_whole k0 f) (mf_Tw_power k0 f) (0 : Int32) ls (lv_sub hl [6, 7, 5, 0, 3, 2, 1] rfl)  (by subst ev23; rw [hE, mf_Tw_add_b161, if_neg h17])
  have b149 : ∀ (x5 : Int32) (k0 : Int64) (ls : Array Slot), lv_has ls 19 [(0, .long a), (2, .long b), (4, .int (nI f)), (5, .int x5)] → mf_Tw_add a b f = mf_Tw_add_b149 a b f x5 k0 → W p l e (headSpec w_Tw_add ({ frames := 3, cells := 0, slots := 0, locals := 77 } : Room)).room s m ([.long a, .long b, .int (nI f)] : List Value).toArray below meth c s.heap [] 0 0 (MQ below (vp_Sl (fun r => r = mf_Tw_add a b f)) ([.long a, .long b, .int (nI f)] : List Value).toArray s 0 0 (fun _ => False)) (F0 m 149 ls [.long k0]) := by
    intro x5 k0 ls hl  hE
    refine lv_lstore hx hb d_Tw_add_149 hl (by decide) rfl (fun ls hl => ?_)
    have hl : lv_has ls 19 [(6, .long k0), (0, .long a), (2, .long b), (4, .int (nI f)), (5, .int x5)] := hl
    refine lv_iload hx hb d_Tw_add_151 (lv_at hl 4 rfl) ?_
    refine lv_if_eq (tgt := 160) hx hb d_Tw_add_153 (by decide) (fun h16 => ?_) (fun h16 => ?_)
    · refine lv_lload_n hx hb d_Tw_add_160 rfl (lv_at hl 1 rfl) ?_
      exact b161 k0 a ls (lv_sub hl [3, 0] rfl)  (by rw [hE, mf_Tw_add_b149, if_pos h16])
    · refine lv_lload_n hx hb d_Tw_add_156 rfl (lv_at hl 2 rfl) ?_
      refine lv_goto (tgt := 161) hx hb d_Tw_add_157 (by decide) ?_
      exact b161 k0 b ls (lv_sub hl [3, 0] rfl)  (by rw [hE, mf_Tw_add_b149, if_neg h16])
  have b137 : ∀ (k0 : Int32) (ls : Array Slot), lv_has ls 19 [(0, .long a), (2, .long b), (4, .int (nI f))] → mf_Tw_add a b f = mf_Tw_add_b137 a b f k0 → W p l e (headSpec w_Tw_add ({ frames := 3, cells := 0, slots := 0, locals := 77 } : Room)).room s m ([.long a, .long b, .int (nI f)] : List Value).toArray below meth c s.heap [] 0 0 (MQ below (vp_Sl (fun r => r = mf_Tw_add a b f)) ([.long a, .long b, .int (nI f)] : List Value).toArray s 0 0 (fun _ => False)) (F0 m 137 ls [.int k0]) := by
    intro k0 ls hl  hE
    refine lv_istore hx hb d_Tw_add_137 hl (by decide) rfl (fun ls hl => ?_)
    have hl : lv_has ls 19 [(5, .int k0), (0, .long a), (2, .long b), (4, .int (nI f))] := hl
    refine lv_iload hx hb d_Tw_add_139 (lv_at hl 0 rfl) ?_
    refine lv_if_eq (tgt := 148) hx hb d_Tw_add_141 (by decide) (fun h15 => ?_) (fun h15 => ?_)
    · refine lv_lload_n hx hb d_Tw_add_148 rfl (lv_at hl 2 rfl) ?_
      exact b149 k0 b ls (lv_sub hl [1, 2, 3, 0] rfl)  (by rw [hE, mf_Tw_add_b137, if_pos h15])
    · refine lv_lload_n hx hb d_Tw_add_144 rfl (lv_at hl 1 rfl) ?_
      refine lv_goto (tgt := 149) hx hb d_Tw_add_145 (by decide) ?_
      exact b149 k0 a ls (lv_sub hl [1, 2, 3, 0] rfl)  (by rw [hE, mf_Tw_add_b137, if_neg h15])
  have b117 : ∀  (ls : Array Slot), lv_has ls 19 [(0, .long a), (2, .long b), (4, .int (nI f))] → mf_Tw_add a b f = mf_Tw_add_b117 a b f  → W p l e (headSpec w_Tw_add ({ frames := 3, cells := 0, slots := 0, locals := 77 } : Room)).room s m ([.long a, .long b, .int (nI f)] : List Value).toArray below meth c s.heap [] 0 0 (MQ below (vp_Sl (fun r => r = mf_Tw_add a b f)) ([.long a, .long b, .int (nI f)] : List Value).toArray s 0 0 (fun _ => False)) (F0 m 117 ls []) := by
    intro  ls hl  hE
    refine lv_lload_n hx hb d_Tw_add_117 rfl (lv_at hl 0 rfl) ?_
    refine lv_iload hx hb d_Tw_add_118 (lv_at hl 2 rfl) ?_
    refine nb_callSi (As := [.long a, .int (nI f)]) (rest := []) hx hb hml hown hts (c_Tw_power l ad a f h_f) nb_t310 nb_t311 nb_t2 nb_t312 hd_Tw_power rfl ⟨Nat.le_of_ble_eq_true rfl, Nat.le_of_ble_eq_true rfl⟩ ⟨rfl, rfl⟩ hC hS hl.1 rfl (Nat.le_of_ble_eq_true rfl) ⟨Nat.le_of_ble_eq_true rfl, Nat.le_of_ble_eq_true rfl⟩ d_Tw_add_120 ?_
    refine lv_lload_n hx hb d_Tw_add_123 rfl (lv_at hl 1 rfl) ?_
    refine lv_iload hx hb d_Tw_add_124 (lv_at hl 2 rfl) ?_
    refine nb_callSi (As := [.long b, .int (nI f)]) (rest := [.int (mf_Tw_power a f)]) hx hb hml hown hts (c_Tw_power l ad b f h_f) nb_t310 nb_t311 nb_t2 nb_t312 hd_Tw_power rfl ⟨Nat.le_of_ble_eq_true rfl, Nat.le_of_ble_eq_true rfl⟩ ⟨rfl, rfl⟩ hC hS hl.1 rfl (Nat.le_of_ble_eq_true rfl) ⟨Nat.le_of_ble_eq_true rfl, Nat.le_of_ble_eq_true rfl⟩ d_Tw_add_126 ?_
    refine lv_icmp_lt (tgt := 136) hx hb d_Tw_add_129 (by decide) (fun h14 => ?_) (fun h14 => ?_)
    · refine lv_iconst (v := 0) hx hb d_Tw_add_136 (by decide) ?_
      exact b137 (0 : Int32) ls (lv_sub hl [0, 1, 2] rfl)  (by rw [hE, mf_Tw_add_b117, if_pos h14])
    · refine lv_iconst (v := 1) hx hb d_Tw_add_132 (by decide) ?_
      refine lv_goto (tgt := 137) hx hb d_Tw_add_133 (by decide) ?_
      exact b137 (1 : Int32) ls (lv_sub hl [0, 1, 2] rfl)  (by rw [hE, mf_Tw_add_b117, if_neg h14])
  have b42 : ∀  (ls : Array Slot), lv_has ls 19 [(0, .long a), (2, .long b), (4, .int (nI f))] → mf_Tw_add a b f = mf_Tw_add_b42 a b f  → W p l e (headSpec w_Tw_add ({ frames := 3, cells := 0, slots := 0, locals := 77 } : Room)).room s m ([.long a, .long b, .int (nI f)] : List Value).toArray below meth c s.heap [] 0 0 (MQ below (vp_Sl (fun r => r = mf_Tw_add a b f)) ([.long a, .long b, .int (nI f)] : List Value).toArray s 0 0 (fun _ => False)) (F0 m 42 ls []) := by
    intro  ls hl  hE
    refine lv_lload_n hx hb d_Tw_add_42 rfl (lv_at hl 0 rfl) ?_
    refine lv_iload hx hb d_Tw_add_43 (lv_at hl 2 rfl) ?_
    refine nb_callSi (As := [.long a, .int (nI f)]) (rest := []) hx hb hml hown hts (c_Tw_isInfinite l ad a f h_f) nb_t296 nb_t297 nb_t2 nb_t298 hd_Tw_isInfinite rfl ⟨Nat.le_of_ble_eq_true rfl, Nat.le_of_ble_eq_true rfl⟩ ⟨rfl, rfl⟩ hC hS hl.1 rfl (Nat.le_of_ble_eq_true rfl) ⟨Nat.le_of_ble_eq_true rfl, Nat.le_of_ble_eq_true rfl⟩ d_Tw_add_45 ?_
    refine lv_if_eq (tgt := 72) hx hb d_Tw_add_48 (by decide) (fun h8 => ?_) (fun h8 => ?_)
    · refine lv_lload_n hx hb d_Tw_add_72 rfl (lv_at hl 0 rfl) ?_
      refine lv_iload hx hb d_Tw_add_73 (lv_at hl 2 rfl) ?_
      refine nb_callSi (As := [.long a, .int (nI f)]) (rest := []) hx hb hml hown hts (c_Tw_isInfinite l ad a f h_f) nb_t296 nb_t297 nb_t2 nb_t298 hd_Tw_isInfinite rfl ⟨Nat.le_of_ble_eq_true rfl, Nat.le_of_ble_eq_true rfl⟩ ⟨rfl, rfl⟩ hC hS hl.1 rfl (Nat.le_of_ble_eq_true rfl) ⟨Nat.le_of_ble_eq_true rfl, Nat.le_of_ble_eq_true rfl⟩ d_Tw_add_75 ?_
      refine lv_if_eq (tgt := 85) hx hb d_Tw_add_78 (by decide) (fun _ => ?_) (fun h9 => by first | exact absurd h9 h8 | exact absurd h8 h9)
      refine lv_lload_n hx hb d_Tw_add_85 rfl (lv_at hl 1 rfl) ?_
      exact W.lret hx hb hr (fun t ht hW => ⟨_, rfl, (by rw [hE, mf_Tw_add_b42, if_pos h8]), ht⟩) t_nil d_Tw_add_86
    · refine lv_lload_n hx hb d_Tw_add_51 rfl (lv_at hl 1 rfl) ?_
      refine lv_iload hx hb d_Tw_add_52 (lv_at hl 2 rfl) ?_
      refine nb_callSi (As := [.long b, .int (nI f)]) (rest := []) hx hb hml hown hts (c_Tw_isInfinite l ad b f h_f) nb_t296 nb_t297 nb_t2 nb_t298 hd_Tw_isInfinite rfl ⟨Nat.le_of_ble_eq_true rfl, Nat.le_of_ble_eq_true rfl⟩ ⟨rfl, rfl⟩ hC hS hl.1 rfl (Nat.le_of_ble_eq_true rfl) ⟨Nat.le_of_ble_eq_true rfl, Nat.le_of_ble_eq_true rfl⟩ d_Tw_add_54 ?_
      refine lv_if_eq (tgt := 72) hx hb d_Tw_add_57 (by decide) (fun h10 => ?_) (fun h10 => ?_)
      · refine lv_lload_n hx hb d_Tw_add_72 rfl (lv_at hl 0 rfl) ?_
        refine lv_iload hx hb d_Tw_add_73 (lv_at hl 2 rfl) ?_
        refine nb_callSi (As := [.long a, .int (nI f)]) (rest := []) hx hb hml hown hts (c_Tw_isInfinite l ad a f h_f) nb_t296 nb_t297 nb_t2 nb_t298 hd_Tw_isInfinite rfl ⟨Nat.le_of_ble_eq_true rfl, Nat.le_of_ble_eq_true rfl⟩ ⟨rfl, rfl⟩ hC hS hl.1 rfl (Nat.le_of_ble_eq_true rfl) ⟨Nat.le_of_ble_eq_true rfl, Nat.le_of_ble_eq_true rfl⟩ d_Tw_add_75 ?_
        refine lv_if_eq (tgt := 85) hx hb d_Tw_add_78 (by decide) (fun h11 => by first | exact absurd h11 h8 | exact absurd h8 h11) (fun _ => ?_)
        refine lv_lload_n hx hb d_Tw_add_81 rfl (lv_at hl 0 rfl) ?_
        refine lv_goto (tgt := 86) hx hb d_Tw_add_82 (by decide) ?_
        exact W.lret hx hb hr (fun t ht hW => ⟨_, rfl, (by rw [hE, mf_Tw_add_b42, if_neg h8, if_pos h10]), ht⟩) t_nil d_Tw_add_86
      · refine lv_lload_n hx hb d_Tw_add_60 rfl (lv_at hl 0 rfl) ?_
        refine lv_lload_n hx hb d_Tw_add_61 rfl (lv_at hl 1 rfl) ?_
        refine nb_lc_eq (tgt := 72) hx hb d_Tw_add_62 d_Tw_add_63 (by decide) (fun h12 => ?_) (fun h12 => ?_)
        · refine lv_lload_n hx hb d_Tw_add_72 rfl (lv_at hl 0 rfl) ?_
          refine lv_iload hx hb d_Tw_add_73 (lv_at hl 2 rfl) ?_
          refine nb_callSi (As := [.long a, .int (nI f)]) (rest := []) hx hb hml hown hts (c_Tw_isInfinite l ad a f h_f) nb_t296 nb_t297 nb_t2 nb_t298 hd_Tw_isInfinite rfl ⟨Nat.le_of_ble_eq_true rfl, Nat.le_of_ble_eq_true rfl⟩ ⟨rfl, rfl⟩ hC hS hl.1 rfl (Nat.le_of_ble_eq_true rfl) ⟨Nat.le_of_ble_eq_true rfl, Nat.le_of_ble_eq_true rfl⟩ d_Tw_add_75 ?_
          refine lv_if_eq (tgt := 85) hx hb d_Tw_add_78 (by decide) (fun h13 => by first | exact absurd h13 h8 | exact absurd h8 h13) (fun _ => ?_)
          refine lv_lload_n hx hb d_Tw_add_81 rfl (lv_at hl 0 rfl) ?_
          refine lv_goto (tgt := 86) hx hb d_Tw_add_82 (by decide) ?_
          exact W.lret hx hb hr (fun t ht hW => ⟨_, rfl, (by rw [hE, mf_Tw_add_b42, if_neg h8, if_neg h10, if_pos h12]), ht⟩) t_nil d_Tw_add_86
        · refine lv_iload hx hb d_Tw_add_66 (lv_at hl 2 rfl) ?_
          refine nb_callSl (As := [.int (nI f)]) (rest := []) hx hb hml hown hts (c_Tw_none l ad f h_f) nb_t291 nb_t292 nb_t2 nb_t293 hd_Tw_none rfl ⟨Nat.le_of_ble_eq_true rfl, Nat.le_of_ble_eq_true rfl⟩ ⟨rfl, rfl⟩ hC hS hl.1 rfl (Nat.le_of_ble_eq_true rfl) ⟨Nat.le_of_ble_eq_true rfl, Nat.le_of_ble_eq_true rfl⟩ d_Tw_add_68 ?_
          exact W.lret hx hb hr (fun t ht hW => ⟨_, rfl, (by rw [hE, mf_Tw_add_b42, if_neg h8, if_neg h10, if_neg h12]), ht⟩) t_nil d_Tw_add_71
  refine lv_lload_n hx hb d_Tw_add_0 rfl (lv_at hl 0 rfl) ?_
  refine lv_iload hx hb d_Tw_add_1 (lv_at hl 2 rfl) ?_
  refine nb_callSi (As := [.long a, .int (nI f)]) (rest := []) hx hb hml hown hts (c_Tw_isNone l ad a f h_f) nb_t277 nb_t278 nb_t2 nb_t279 hd_Tw_isNone rfl ⟨Nat.le_of_ble_eq_true rfl, Nat.le_of_ble_eq_true rfl⟩ ⟨rfl, rfl⟩ hC hS hl.1 rfl (Nat.le_of_ble_eq_true rfl) ⟨Nat.le_of_ble_eq_true rfl, Nat.le_of_ble_eq_true rfl⟩ d_Tw_add_3 ?_
  refine lv_if_ne (tgt := 18) hx hb d_Tw_add_6 (by decide) (fun h1 => ?_) (fun h1 => ?_)
  · refine lv_iload hx hb d_Tw_add_18 (lv_at hl 2 rfl) ?_
    refine nb_callSl (As := [.int (nI f)]) (rest := []) hx hb hml hown hts (c_Tw_none l ad f h_f) nb_t291 nb_t292 nb_t2 nb_t293 hd_Tw_none rfl ⟨Nat.le_of_ble_eq_true rfl, Nat.le_of_ble_eq_true rfl⟩ ⟨rfl, rfl⟩ hC hS hl.1 rfl (Nat.le_of_ble_eq_true rfl) ⟨Nat.le_of_ble_eq_true rfl, Nat.le_of_ble_eq_true rfl⟩ d_Tw_add_20 ?_
    exact W.lret hx hb hr (fun t ht hW => ⟨_, rfl, (by rw [mf_Tw_add, if_neg h1]), ht⟩) t_nil d_Tw_add_23
  · refine lv_lload_n hx hb d_Tw_add_9 rfl (lv_at hl 1 rfl) ?_
    refine lv_iload hx hb d_Tw_add_10 (lv_at hl 2 rfl) ?_
    refine nb_callSi (As := [.long b, .int (nI f)]) (rest := []) hx hb hml hown hts (c_Tw_isNone l ad b f h_f) nb_t277 nb_t278 nb_t2 nb_t279 hd_Tw_isNone rfl ⟨Nat.le_of_ble_eq_true rfl, Nat.le_of_ble_eq_true rfl⟩ ⟨rfl, rfl⟩ hC hS hl.1 rfl (Nat.le_of_ble_eq_true rfl) ⟨Nat.le_of_ble_eq_true rfl, Nat.le_of_ble_eq_true rfl⟩ d_Tw_add_12 ?_
    refine lv_if_eq (tgt := 24) hx hb d_Tw_add_15 (by decide) (fun h2 => ?_) (fun h2 => ?_)
    · refine lv_lload_n hx hb d_Tw_add_24 rfl (lv_at hl 0 rfl) ?_
      refine lv_iload hx hb d_Tw_add_25 (lv_at hl 2 rfl) ?_
      refine nb_callSi (As := [.long a, .int (nI f)]) (rest := []) hx hb hml hown hts (c_Tw_isInfinite l ad a f h_f) nb_t296 nb_t297 nb_t2 nb_t298 hd_Tw_isInfinite rfl ⟨Nat.le_of_ble_eq_true rfl, Nat.le_of_ble_eq_true rfl⟩ ⟨rfl, rfl⟩ hC hS hl.1 rfl (Nat.le_of_ble_eq_true rfl) ⟨Nat.le_of_ble_eq_true rfl, Nat.le_of_ble_eq_true rfl⟩ d_Tw_add_27 ?_
      refine lv_if_ne (tgt := 42) hx hb d_Tw_add_30 (by decide) (fun h3 => ?_) (fun h3 => ?_)
      · exact b42  ls (lv_sub hl [0, 1, 2] rfl)  (by rw [mf_Tw_add, if_pos h1, if_pos h2, if_neg h3])
      · refine lv_lload_n hx hb d_Tw_add_33 rfl (lv_at hl 1 rfl) ?_
        refine lv_iload hx hb d_Tw_add_34 (lv_at hl 2 rfl) ?_
        refine nb_callSi (As := [.long b, .int (nI f)]) (rest := []) hx hb hml hown hts (c_Tw_isInfinite l ad b f h_f) nb_t296 nb_t297 nb_t2 nb_t298 hd_Tw_isInfinite rfl ⟨Nat.le_of_ble_eq_true rfl, Nat.le_of_ble_eq_true rfl⟩ ⟨rfl, rfl⟩ hC hS hl.1 rfl (Nat.le_of_ble_eq_true rfl) ⟨Nat.le_of_ble_eq_true rfl, Nat.le_of_ble_eq_true rfl⟩ d_Tw_add_36 ?_
        refine lv_if_eq (tgt := 87) hx hb d_Tw_add_39 (by decide) (fun h4 => ?_) (fun h4 => ?_)
        · refine lv_lload_n hx hb d_Tw_add_87 rfl (lv_at hl 0 rfl) ?_
          refine lv_iload hx hb d_Tw_add_88 (lv_at hl 2 rfl) ?_
          refine nb_callSi (As := [.long a, .int (nI f)]) (rest := []) hx hb hml hown hts (c_Tw_isZero l ad a f h_f) nb_t329 nb_t330 nb_t2 nb_t331 hd_Tw_isZero rfl ⟨Nat.le_of_ble_eq_true rfl, Nat.le_of_ble_eq_true rfl⟩ ⟨rfl, rfl⟩ hC hS hl.1 rfl (Nat.le_of_ble_eq_true rfl) ⟨Nat.le_of_ble_eq_true rfl, Nat.le_of_ble_eq_true rfl⟩ d_Tw_add_90 ?_
          refine lv_if_eq (tgt := 117) hx hb d_Tw_add_93 (by decide) (fun h5 => ?_) (fun h5 => ?_)
          · exact b117  ls (lv_sub hl [0, 1, 2] rfl)  (by rw [mf_Tw_add, if_pos h1, if_pos h2, if_pos h3, if_pos h4, if_pos h5])
          · refine lv_lload_n hx hb d_Tw_add_96 rfl (lv_at hl 1 rfl) ?_
            refine lv_iload hx hb d_Tw_add_97 (lv_at hl 2 rfl) ?_
            refine nb_callSi (As := [.long b, .int (nI f)]) (rest := []) hx hb hml hown hts (c_Tw_isZero l ad b f h_f) nb_t329 nb_t330 nb_t2 nb_t331 hd_Tw_isZero rfl ⟨Nat.le_of_ble_eq_true rfl, Nat.le_of_ble_eq_true rfl⟩ ⟨rfl, rfl⟩ hC hS hl.1 rfl (Nat.le_of_ble_eq_true rfl) ⟨Nat.le_of_ble_eq_true rfl, Nat.le_of_ble_eq_true rfl⟩ d_Tw_add_99 ?_
            refine lv_if_eq (tgt := 117) hx hb d_Tw_add_102 (by decide) (fun h6 => ?_) (fun h6 => ?_)
            · exact b117  ls (lv_sub hl [0, 1, 2] rfl)  (by rw [mf_Tw_add, if_pos h1, if_pos h2, if_pos h3, if_pos h4, if_neg h5, if_pos h6])
            · refine lv_lload_n hx hb d_Tw_add_105 rfl (lv_at hl 0 rfl) ?_
              refine lv_lload_n hx hb d_Tw_add_106 rfl (lv_at hl 1 rfl) ?_
              refine nb_lc_ne (tgt := 115) hx hb d_Tw_add_107 d_Tw_add_108 (by decide) (fun h7 => ?_) (fun h7 => ?_)
              · refine lv_lconst (v := 0) hx hb d_Tw_add_115 (by decide) ?_
                exact W.lret hx hb hr (fun t ht hW => ⟨_, rfl, (by rw [mf_Tw_add, if_pos h1, if_pos h2, if_pos h3, if_pos h4, if_neg h5, if_neg h6, if_neg h7]), ht⟩) t_nil d_Tw_add_116
              · refine lv_lload_n hx hb d_Tw_add_111 rfl (lv_at hl 0 rfl) ?_
                refine lv_goto (tgt := 116) hx hb d_Tw_add_112 (by decide) ?_
                exact W.lret hx hb hr (fun t ht hW => ⟨_, rfl, (by rw [mf_Tw_add, if_pos h1, if_pos h2, if_pos h3, if_pos h4, if_neg h5, if_neg h6, if_pos h7]), ht⟩) t_nil d_Tw_add_116
        · exact b42  ls (lv_sub hl [0, 1, 2] rfl)  (by rw [mf_Tw_add, if_pos h1, if_pos h2, if_pos h3, if_neg h4])
    · refine lv_iload hx hb d_Tw_add_18 (lv_at hl 2 rfl) ?_
      refine nb_callSl (As := [.int (nI f)]) (rest := []) hx hb hml hown hts (c_Tw_none l ad f h_f) nb_t291 nb_t292 nb_t2 nb_t293 hd_Tw_none rfl ⟨Nat.le_of_ble_eq_true rfl, Nat.le_of_ble_eq_true rfl⟩ ⟨rfl, rfl⟩ hC hS hl.1 rfl (Nat.le_of_ble_eq_true rfl) ⟨Nat.le_of_ble_eq_true rfl, Nat.le_of_ble_eq_true rfl⟩ d_Tw_add_20 ?_
      exact W.lret hx hb hr (fun t ht hW => ⟨_, rfl, (by rw [mf_Tw_add, if_pos h1, if_neg h2]), ht⟩) t_nil d_Tw_add_23
def y_Tw_subtract : MethodName := ⟨"NumberBenchModel", "subtract", "(JJI)J"⟩
abbrev w_Tw_subtract : List Cond := Cond.code y_Tw_subtract prog_4_method_16_code 5 (Option.some FieldType.long) :: nb_tb
theorem hd_Tw_subtract : y_Tw_subtract.cls ≠ "java/lang/invoke/MethodHandle" ∧ y_Tw_subtract.cls ≠ "java/lang/invoke/VarHandle" ∧ (parseMethodDescriptor y_Tw_subtract.desc).map (fun d => d.parameters.length) = some 3 := by decide +kernel
theorem d_Tw_subtract_0 : decode prog_4_method_16_code 0 = .ok (.lload_n 2, 1) := by decide +kernel
theorem d_Tw_subtract_1 : decode prog_4_method_16_code 1 = .ok (.iload 4, 2) := by decide +kernel
theorem d_Tw_subtract_3 : decode prog_4_method_16_code 3 = .ok (.invokestatic 56, 3) := by decide +kernel
theorem d_Tw_subtract_6 : decode prog_4_method_16_code 6 = .ok (.ifCond .eq 11, 3) := by decide +kernel
theorem d_Tw_subtract_9 : decode prog_4_method_16_code 9 = .ok (.iload 4, 2) := by decide +kernel
theorem d_Tw_subtract_11 : decode prog_4_method_16_code 11 = .ok (.invokestatic 60, 3) := by decide +kernel
theorem d_Tw_subtract_14 : decode prog_4_method_16_code 14 = .ok (.goto 15, 3) := by decide +kernel
theorem d_Tw_subtract_17 : decode prog_4_method_16_code 17 = .ok (.lload_n 0, 1) := by decide +kernel
theorem d_Tw_subtract_18 : decode prog_4_method_16_code 18 = .ok (.lload_n 2, 1) := by decide +kernel
theorem d_Tw_subtract_19 : decode prog_4_method_16_code 19 = .ok (.iload 4, 2) := by decide +kernel
theorem d_Tw_subtract_21 : decode prog_4_method_16_code 21 = .ok (.invokestatic 79, 3) := by decide +kernel
theorem d_Tw_subtract_24 : decode prog_4_method_16_code 24 = .ok (.iload 4, 2) := by decide +kernel
theorem d_Tw_subtract_26 : decode prog_4_method_16_code 26 = .ok (.invokestatic 82, 3) := by decide +kernel
theorem d_Tw_subtract_29 : decode prog_4_method_16_code 29 = .ok (.lreturn, 1) := by decide +kernel
set_option maxHeartbeats 1200000 in
set_option maxRecDepth 100000 in
theorem c_Tw_subtract (l : Launch) (ad : Nat → Nat) (a : Int64) (b : Int64) (f : Nat) (h_f : f < 2) : Met l y_Tw_subtract w_Tw_subtract ({ frames := 4, cells := 0, slots := 0, locals := 115 } : Room) (va_Pc [.long a, .long b, .int (nI f)] (nb_K ad)) (vp_Sl (fun r => r = mf_Tw_subtract a b f)) 0 0 (fun _ => False) := by
  refine Met.ofW (cc := prog_4_method_16_code) (maxL := 5) (ret := some .long) (by decide) rfl ?_
  intro p e s m args below meth c s₁ B hml hv
  obtain ⟨rfl, hC⟩ := hv
  have hx := B.exec
  have hb := B.bytes
  have hr := B.returns
  have hts := atoms_spec (ws := w_Tw_subtract) B.pre
  have hown : s.vm.findClass "NumberBenchModel" = some m.cls := findClass_of_methodNamed B.named
  have hlocks := B.notSynchronized
  have hC : nb_C ad (fun _ => False) s s.heap := hC
  have hS : va_S (fun _ => False) s.heap s.heap [] := va_S.rf
  have hl := lv_entry ([.long a, .long b, .int (nI f)]) (n := 5) (Nat.le_of_ble_eq_true rfl)
  rw [lg_entry_eq]
  generalize (lg_sl ([.long a, .long b, .int (nI f)]) ++ List.replicate (5 - (lg_sl ([.long a, .long b, .int (nI f)])).length) Slot.unset).toArray = ls at hl ⊢
  have hl : lv_has ls 5 [(0, .long a), (2, .long b), (4, .int (nI f))] := hl
  refine lv_lload_n hx hb d_Tw_subtract_0 rfl (lv_at hl 1 rfl) ?_
  refine lv_iload hx hb d_Tw_subtract_1 (lv_at hl 2 rfl) ?_
  refine nb_callSi (As := [.long b, .int (nI f)]) (rest := []) hx hb hml hown hts (c_Tw_isNone l ad b f h_f) nb_t277 nb_t278 nb_t2 nb_t279 hd_Tw_isNone rfl ⟨Nat.le_of_ble_eq_true rfl, Nat.le_of_ble_eq_true rfl⟩ ⟨rfl, rfl⟩ hC hS hl.1 rfl (Nat.le_of_ble_eq_true rfl) ⟨Nat.le_of_ble_eq_true rfl, Nat.le_of_ble_eq_true rfl⟩ d_Tw_subtract_3 ?_
  refine lv_if_eq (tgt := 17) hx hb d_Tw_subtract_6 (by decide) (fun h1 => ?_) (fun h1 => ?_)
  · refine lv_lload_n hx hb d_Tw_subtract_17 rfl (lv_at hl 0 rfl) ?_
    refine lv_lload_n hx hb d_Tw_subtract_18 rfl (lv_at hl 1 rfl) ?_
    refine lv_iload hx hb d_Tw_subtract_19 (lv_at hl 2 rfl) ?_
    refine nb_callSl (As := [.long b, .int (nI f)]) (rest := [.long a]) hx hb hml hown hts (c_Tw_turned l ad b f h_f) nb_t335 nb_t336 nb_t2 nb_t337 hd_Tw_turned rfl ⟨Nat.le_of_ble_eq_true rfl, Nat.le_of_ble_eq_true rfl⟩ ⟨rfl, rfl⟩ hC hS hl.1 rfl (Nat.le_of_ble_eq_true rfl) ⟨Nat.le_of_ble_eq_true rfl, Nat.le_of_ble_eq_true rfl⟩ d_Tw_subtract_21 ?_
    refine lv_iload hx hb d_Tw_subtract_24 (lv_at hl 2 rfl) ?_
    refine nb_callSl (As := [.long a, .long (mf_Tw_turned b f), .int (nI f)]) (rest := []) hx hb hml hown hts (c_Tw_add l ad a (mf_Tw_turned b f) f h_f) nb_t326 nb_t327 nb_t2 nb_t328 hd_Tw_add rfl ⟨Nat.le_of_ble_eq_true rfl, Nat.le_of_ble_eq_true rfl⟩ ⟨rfl, rfl⟩ hC hS hl.1 rfl (Nat.le_of_ble_eq_true rfl) ⟨Nat.le_of_ble_eq_true rfl, Nat.le_of_ble_eq_true rfl⟩ d_Tw_subtract_26 ?_
    exact W.lret hx hb hr (fun t ht hW => ⟨_, rfl, (by rw [mf_Tw_subtract, if_pos h1]), ht⟩) t_nil d_Tw_subtract_29
  · refine lv_iload hx hb d_Tw_subtract_9 (lv_at hl 2 rfl) ?_
    refine nb_callSl (As := [.int (nI f)]) (rest := []) hx hb hml hown hts (c_Tw_none l ad f h_f) nb_t291 nb_t292 nb_t2 nb_t293 hd_Tw_none rfl ⟨Nat.le_of_ble_eq_true rfl, Nat.le_of_ble_eq_true rfl⟩ ⟨rfl, rfl⟩ hC hS hl.1 rfl (Nat.le_of_ble_eq_true rfl) ⟨Nat.le_of_ble_eq_true rfl, Nat.le_of_ble_eq_true rfl⟩ d_Tw_subtract_11 ?_
    refine lv_goto (tgt := 29) hx hb d_Tw_subtract_14 (by decide) ?_
    exact W.lret hx hb hr (fun t ht hW => ⟨_, rfl, (by rw [mf_Tw_subtract, if_neg h1]), ht⟩) t_nil d_Tw_subtract_29
def y_Tw_moved : MethodName := ⟨"NumberBenchModel", "moved", "(JI)I"⟩
abbrev w_Tw_moved : List Cond := Cond.code y_Tw_moved prog_4_method_17_code 3 (Option.some FieldType.int) :: nb_tb
theorem hd_Tw_moved : y_Tw_moved.cls ≠ "java/lang/invoke/MethodHandle" ∧ y_Tw_moved.cls ≠ "java/lang/invoke/VarHandle" ∧ (parseMethodDescriptor y_Tw_moved.desc).map (fun d => d.parameters.length) = some 2 := by decide +kernel
theorem d_Tw_moved_0 : decode prog_4_method_17_code 0 = .ok (.lload_n 0, 1) := by decide +kernel
theorem d_Tw_moved_1 : decode prog_4_method_17_code 1 = .ok (.invokestatic 40, 3) := by decide +kernel
theorem d_Tw_moved_4 : decode prog_4_method_17_code 4 = .ok (.bipush 64, 2) := by decide +kernel
theorem d_Tw_moved_6 : decode prog_4_method_17_code 6 = .ok (.isub, 1) := by decide +kernel
theorem d_Tw_moved_7 : decode prog_4_method_17_code 7 = .ok (.getstatic 23, 3) := by decide +kernel
theorem d_Tw_moved_10 : decode prog_4_method_17_code 10 = .ok (.iload_n 2, 1) := by decide +kernel
theorem d_Tw_moved_11 : decode prog_4_method_17_code 11 = .ok (.iaload, 1) := by decide +kernel
theorem d_Tw_moved_12 : decode prog_4_method_17_code 12 = .ok (.iadd, 1) := by decide +kernel
theorem d_Tw_moved_13 : decode prog_4_method_17_code 13 = .ok (.ireturn, 1) := by decide +kernel
set_option maxHeartbeats 1200000 in
set_option maxRecDepth 100000 in
theorem c_Tw_moved (l : Launch) (ad : Nat → Nat) (a : Int64) (f : Nat) (h_f : f < 2) : Met l y_Tw_moved w_Tw_moved ({ frames := 2, cells := 0, slots := 0, locals := 43 } : Room) (va_Pc [.long a, .int (nI f)] (nb_K ad)) (vp_Si (fun r => r = mf_Tw_moved a f)) 0 0 (fun _ => False) := by
  refine Met.ofW (cc := prog_4_method_17_code) (maxL := 3) (ret := some .int) (by decide) rfl ?_
  intro p e s m args below meth c s₁ B hml hv
  obtain ⟨rfl, hC⟩ := hv
  have hx := B.exec
  have hb := B.bytes
  have hr := B.returns
  have hts := atoms_spec (ws := w_Tw_moved) B.pre
  have hown : s.vm.findClass "NumberBenchModel" = some m.cls := findClass_of_methodNamed B.named
  have hlocks := B.notSynchronized
  have hC : nb_C ad (fun _ => False) s s.heap := hC
  have hS : va_S (fun _ => False) s.heap s.heap [] := va_S.rf
  have hl := lv_entry ([.long a, .int (nI f)]) (n := 3) (Nat.le_of_ble_eq_true rfl)
  rw [lg_entry_eq]
  generalize (lg_sl ([.long a, .int (nI f)]) ++ List.replicate (3 - (lg_sl ([.long a, .int (nI f)])).length) Slot.unset).toArray = ls at hl ⊢
  have hl : lv_has ls 3 [(0, .long a), (2, .int (nI f))] := hl
  refine lv_lload_n hx hb d_Tw_moved_0 rfl (lv_at hl 0 rfl) ?_
  refine nb_callSi (As := [.long a]) (rest := []) hx hb hml hown hts (c_Jd_lnlz l ad a) nb_t322 nb_t92 nb_t6 nb_t93 hd_Jd_lnlz rfl ⟨Nat.le_of_ble_eq_true rfl, Nat.le_of_ble_eq_true rfl⟩ ⟨rfl, rfl⟩ hC hS hl.1 rfl (Nat.le_of_ble_eq_true rfl) ⟨Nat.le_of_ble_eq_true rfl, Nat.le_of_ble_eq_true rfl⟩ d_Tw_moved_1 ?_
  refine lv_bipush (v := 64) hx hb d_Tw_moved_4 (by decide) ?_
  refine lv_isub hx hb d_Tw_moved_6 ?_
  refine va_gets (v := .ref (ad 2)) hx hb (nb_ZPl hC) hS hown (hts _ (nb_c nb_t308)) (fun _ h => h) d_Tw_moved_7 ?_
  refine lv_iload_n hx hb d_Tw_moved_10 rfl (lv_at hl 1 rfl) ?_
  refine va_ti (v := .int (tw_pl f)) hx hb (nb_TPl hC) hS (nb_in2 h_f) (nb_cl2 h_f) d_Tw_moved_11 ?_
  refine lv_iadd hx hb d_Tw_moved_12 ?_
  exact W.iret hx hb hr (fun t ht hW => ⟨_, rfl, (by rw [mf_Tw_moved]), ht⟩) t_nil d_Tw_moved_13
