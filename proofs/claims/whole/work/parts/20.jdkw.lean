def y_Jd_inlz : MethodName := ⟨"java/lang/Integer", "numberOfLeadingZeros", "(I)I"⟩
abbrev w_Jd_inlz : List Cond := Cond.code y_Jd_inlz prog_6_method_47_code 2 (Option.some FieldType.int) :: nb_tb
theorem hd_Jd_inlz : y_Jd_inlz.cls ≠ "java/lang/invoke/MethodHandle" ∧ y_Jd_inlz.cls ≠ "java/lang/invoke/VarHandle" ∧ (parseMethodDescriptor y_Jd_inlz.desc).map (fun d => d.parameters.length) = some 1 := by decide +kernel
theorem d_Jd_inlz_0 : decode prog_6_method_47_code 0 = .ok (.iload_n 0, 1) := by decide +kernel
theorem d_Jd_inlz_1 : decode prog_6_method_47_code 1 = .ok (.ifCond .gt 14, 3) := by decide +kernel
theorem d_Jd_inlz_4 : decode prog_6_method_47_code 4 = .ok (.iload_n 0, 1) := by decide +kernel
theorem d_Jd_inlz_5 : decode prog_6_method_47_code 5 = .ok (.ifCond .ne 8, 3) := by decide +kernel
theorem d_Jd_inlz_8 : decode prog_6_method_47_code 8 = .ok (.bipush 32, 2) := by decide +kernel
theorem d_Jd_inlz_10 : decode prog_6_method_47_code 10 = .ok (.goto 4, 3) := by decide +kernel
theorem d_Jd_inlz_13 : decode prog_6_method_47_code 13 = .ok (.iconst 0, 1) := by decide +kernel
theorem d_Jd_inlz_14 : decode prog_6_method_47_code 14 = .ok (.ireturn, 1) := by decide +kernel
theorem d_Jd_inlz_15 : decode prog_6_method_47_code 15 = .ok (.bipush 31, 2) := by decide +kernel
theorem d_Jd_inlz_17 : decode prog_6_method_47_code 17 = .ok (.istore_n 1, 1) := by decide +kernel
theorem d_Jd_inlz_18 : decode prog_6_method_47_code 18 = .ok (.iload_n 0, 1) := by decide +kernel
theorem d_Jd_inlz_19 : decode prog_6_method_47_code 19 = .ok (.ldc_w 264, 3) := by decide +kernel
theorem d_Jd_inlz_22 : decode prog_6_method_47_code 22 = .ok (.if_icmp .lt 11, 3) := by decide +kernel
theorem d_Jd_inlz_25 : decode prog_6_method_47_code 25 = .ok (.iinc 1 (-16), 3) := by decide +kernel
theorem d_Jd_inlz_28 : decode prog_6_method_47_code 28 = .ok (.iload_n 0, 1) := by decide +kernel
theorem d_Jd_inlz_29 : decode prog_6_method_47_code 29 = .ok (.bipush 16, 2) := by decide +kernel
theorem d_Jd_inlz_31 : decode prog_6_method_47_code 31 = .ok (.iushr, 1) := by decide +kernel
theorem d_Jd_inlz_32 : decode prog_6_method_47_code 32 = .ok (.istore_n 0, 1) := by decide +kernel
theorem d_Jd_inlz_33 : decode prog_6_method_47_code 33 = .ok (.iload_n 0, 1) := by decide +kernel
theorem d_Jd_inlz_34 : decode prog_6_method_47_code 34 = .ok (.sipush 256, 3) := by decide +kernel
theorem d_Jd_inlz_37 : decode prog_6_method_47_code 37 = .ok (.if_icmp .lt 11, 3) := by decide +kernel
theorem d_Jd_inlz_40 : decode prog_6_method_47_code 40 = .ok (.iinc 1 (-8), 3) := by decide +kernel
theorem d_Jd_inlz_43 : decode prog_6_method_47_code 43 = .ok (.iload_n 0, 1) := by decide +kernel
theorem d_Jd_inlz_44 : decode prog_6_method_47_code 44 = .ok (.bipush 8, 2) := by decide +kernel
theorem d_Jd_inlz_46 : decode prog_6_method_47_code 46 = .ok (.iushr, 1) := by decide +kernel
theorem d_Jd_inlz_47 : decode prog_6_method_47_code 47 = .ok (.istore_n 0, 1) := by decide +kernel
theorem d_Jd_inlz_48 : decode prog_6_method_47_code 48 = .ok (.iload_n 0, 1) := by decide +kernel
theorem d_Jd_inlz_49 : decode prog_6_method_47_code 49 = .ok (.bipush 16, 2) := by decide +kernel
theorem d_Jd_inlz_51 : decode prog_6_method_47_code 51 = .ok (.if_icmp .lt 10, 3) := by decide +kernel
theorem d_Jd_inlz_54 : decode prog_6_method_47_code 54 = .ok (.iinc 1 (-4), 3) := by decide +kernel
theorem d_Jd_inlz_57 : decode prog_6_method_47_code 57 = .ok (.iload_n 0, 1) := by decide +kernel
theorem d_Jd_inlz_58 : decode prog_6_method_47_code 58 = .ok (.iconst 4, 1) := by decide +kernel
theorem d_Jd_inlz_59 : decode prog_6_method_47_code 59 = .ok (.iushr, 1) := by decide +kernel
theorem d_Jd_inlz_60 : decode prog_6_method_47_code 60 = .ok (.istore_n 0, 1) := by decide +kernel
theorem d_Jd_inlz_61 : decode prog_6_method_47_code 61 = .ok (.iload_n 0, 1) := by decide +kernel
theorem d_Jd_inlz_62 : decode prog_6_method_47_code 62 = .ok (.iconst 4, 1) := by decide +kernel
theorem d_Jd_inlz_63 : decode prog_6_method_47_code 63 = .ok (.if_icmp .lt 10, 3) := by decide +kernel
theorem d_Jd_inlz_66 : decode prog_6_method_47_code 66 = .ok (.iinc 1 (-2), 3) := by decide +kernel
theorem d_Jd_inlz_69 : decode prog_6_method_47_code 69 = .ok (.iload_n 0, 1) := by decide +kernel
theorem d_Jd_inlz_70 : decode prog_6_method_47_code 70 = .ok (.iconst 2, 1) := by decide +kernel
theorem d_Jd_inlz_71 : decode prog_6_method_47_code 71 = .ok (.iushr, 1) := by decide +kernel
theorem d_Jd_inlz_72 : decode prog_6_method_47_code 72 = .ok (.istore_n 0, 1) := by decide +kernel
theorem d_Jd_inlz_73 : decode prog_6_method_47_code 73 = .ok (.iload_n 1, 1) := by decide +kernel
theorem d_Jd_inlz_74 : decode prog_6_method_47_code 74 = .ok (.iload_n 0, 1) := by decide +kernel
theorem d_Jd_inlz_75 : decode prog_6_method_47_code 75 = .ok (.iconst 1, 1) := by decide +kernel
theorem d_Jd_inlz_76 : decode prog_6_method_47_code 76 = .ok (.iushr, 1) := by decide +kernel
theorem d_Jd_inlz_77 : decode prog_6_method_47_code 77 = .ok (.isub, 1) := by decide +kernel
theorem d_Jd_inlz_78 : decode prog_6_method_47_code 78 = .ok (.ireturn, 1) := by decide +kernel
set_option maxHeartbeats 1200000 in
set_option maxRecDepth 100000 in
theorem c_Jd_inlz (l : Launch) (ad : Nat → Nat) (x : Int32)  : Met l y_Jd_inlz w_Jd_inlz ({ frames := 0, cells := 0, slots := 0, locals := 0 } : Room) (va_Pc [.int x] (nb_K ad)) (vp_Si (fun r => r = mf_Jd_inlz x)) 0 0 (fun _ => False) := by
  refine Met.ofW (cc := prog_6_method_47_code) (maxL := 2) (ret := some .int) (by decide) rfl ?_
  intro p e s m args below meth c s₁ B hml hv
  obtain ⟨rfl, hC⟩ := hv
  have hx := B.exec
  have hb := B.bytes
  have hr := B.returns
  have hts := atoms_spec (ws := w_Jd_inlz) B.pre
  have hown : s.vm.findClass "java/lang/Integer" = some m.cls := findClass_of_methodNamed B.named
  have hlocks := B.notSynchronized
  have hC : nb_C ad (fun _ => False) s s.heap := hC
  have hS : va_S (fun _ => False) s.heap s.heap [] := va_S.rf
  have hl := lv_entry ([.int x]) (n := 2) (Nat.le_of_ble_eq_true rfl)
  rw [lg_entry_eq]
  generalize (lg_sl ([.int x]) ++ List.replicate (2 - (lg_sl ([.int x])).length) Slot.unset).toArray = ls at hl ⊢
  have hl : lv_has ls 2 [(0, .int x)] := hl
  have b61 : ∀ (x0 : Int32) (x1 : Int32) (ls : Array Slot), lv_has ls 2 [(0, .int x0), (1, .int x1)] → mf_Jd_inlz x = mf_Jd_inlz_b61 x x0 x1 → W p l e (headSpec w_Jd_inlz ({ frames := 0, cells := 0, slots := 0, locals := 0 } : Room)).room s m ([.int x] : List Value).toArray below meth c s.heap [] 0 0 (MQ below (vp_Si (fun r => r = mf_Jd_inlz x)) ([.int x] : List Value).toArray s 0 0 (fun _ => False)) (F0 m 61 ls []) := by
    intro x0 x1 ls hl  hE
    refine lv_iload_n hx hb d_Jd_inlz_61 rfl (lv_at hl 0 rfl) ?_
    refine lv_iconst (v := 4) hx hb d_Jd_inlz_62 (by decide) ?_
    refine lv_icmp_lt (tgt := 73) hx hb d_Jd_inlz_63 (by decide) (fun h9 => ?_) (fun h9 => ?_)
    · refine lv_iload_n hx hb d_Jd_inlz_73 rfl (lv_at hl 1 rfl) ?_
      refine lv_iload_n hx hb d_Jd_inlz_74 rfl (lv_at hl 0 rfl) ?_
      refine lv_iconst (v := 1) hx hb d_Jd_inlz_75 (by decide) ?_
      refine lv_iushr hx hb d_Jd_inlz_76 rfl ?_
      refine lv_isub hx hb d_Jd_inlz_77 ?_
      exact W.iret hx hb hr (fun t ht hW => ⟨_, rfl, (by rw [hE, mf_Jd_inlz_b61, if_pos h9]), ht⟩) t_nil d_Jd_inlz_78
    · refine lv_iinc (k := 1) (v := x1 + (-2 : Int32)) hx hb d_Jd_inlz_66 hl rfl rfl (by decide) rfl (fun ls hl => ?_)
      have hl : lv_has ls 2 [(1, .int (x1 + (-2 : Int32))), (0, .int x0)] := hl
      refine lv_iload_n hx hb d_Jd_inlz_69 rfl (lv_at hl 1 rfl) ?_
      refine lv_iconst (v := 2) hx hb d_Jd_inlz_70 (by decide) ?_
      refine lv_iushr hx hb d_Jd_inlz_71 rfl ?_
      refine lv_topi (fun v10 ev10 => ?_)
      refine lv_istore_n hx hb d_Jd_inlz_72 rfl hl (by decide) rfl (fun ls hl => ?_)
      have hl : lv_has ls 2 [(0, .int v10), (1, .int (x1 + (-2 : Int32)))] := hl
      refine lv_iload_n hx hb d_Jd_inlz_73 rfl (lv_at hl 1 rfl) ?_
      refine lv_iload_n hx hb d_Jd_inlz_74 rfl (lv_at hl 0 rfl) ?_
      refine lv_iconst (v := 1) hx hb d_Jd_inlz_75 (by decide) ?_
      refine lv_iushr hx hb d_Jd_inlz_76 rfl ?_
      refine lv_isub hx hb d_Jd_inlz_77 ?_
      exact W.iret hx hb hr (fun t ht hW => ⟨_, rfl, (by subst ev10; rw [hE, mf_Jd_inlz_b61, if_neg h9]), ht⟩) t_nil d_Jd_inlz_78
  have b48 : ∀ (x0 : Int32) (x1 : Int32) (ls : Array Slot), lv_has ls 2 [(0, .int x0), (1, .int x1)] → mf_Jd_inlz x = mf_Jd_inlz_b48 x x0 x1 → W p l e (headSpec w_Jd_inlz ({ frames := 0, cells := 0, slots := 0, locals := 0 } : Room)).room s m ([.int x] : List Value).toArray below meth c s.heap [] 0 0 (MQ below (vp_Si (fun r => r = mf_Jd_inlz x)) ([.int x] : List Value).toArray s 0 0 (fun _ => False)) (F0 m 48 ls []) := by
    intro x0 x1 ls hl  hE
    refine lv_iload_n hx hb d_Jd_inlz_48 rfl (lv_at hl 0 rfl) ?_
    refine lv_bipush (v := 16) hx hb d_Jd_inlz_49 (by decide) ?_
    refine lv_icmp_lt (tgt := 61) hx hb d_Jd_inlz_51 (by decide) (fun h7 => ?_) (fun h7 => ?_)
    · exact b61 x0 x1 ls (lv_sub hl [0, 1] rfl)  (by rw [hE, mf_Jd_inlz_b48, if_pos h7])
    · refine lv_iinc (k := 1) (v := x1 + (-4 : Int32)) hx hb d_Jd_inlz_54 hl rfl rfl (by decide) rfl (fun ls hl => ?_)
      have hl : lv_has ls 2 [(1, .int (x1 + (-4 : Int32))), (0, .int x0)] := hl
      refine lv_iload_n hx hb d_Jd_inlz_57 rfl (lv_at hl 1 rfl) ?_
      refine lv_iconst (v := 4) hx hb d_Jd_inlz_58 (by decide) ?_
      refine lv_iushr hx hb d_Jd_inlz_59 rfl ?_
      refine lv_topi (fun v8 ev8 => ?_)
      refine lv_istore_n hx hb d_Jd_inlz_60 rfl hl (by decide) rfl (fun ls hl => ?_)
      have hl : lv_has ls 2 [(0, .int v8), (1, .int (x1 + (-4 : Int32)))] := hl
      exact b61 v8 (x1 + (-4 : Int32)) ls (lv_sub hl [0, 1] rfl)  (by subst ev8; rw [hE, mf_Jd_inlz_b48, if_neg h7])
  have b33 : ∀ (x0 : Int32) (x1 : Int32) (ls : Array Slot), lv_has ls 2 [(0, .int x0), (1, .int x1)] → mf_Jd_inlz x = mf_Jd_inlz_b33 x x0 x1 → W p l e (headSpec w_Jd_inlz ({ frames := 0, cells := 0, slots := 0, locals := 0 } : Room)).room s m ([.int x] : List Value).toArray below meth c s.heap [] 0 0 (MQ below (vp_Si (fun r => r = mf_Jd_inlz x)) ([.int x] : List Value).toArray s 0 0 (fun _ => False)) (F0 m 33 ls []) := by
    intro x0 x1 ls hl  hE
    refine lv_iload_n hx hb d_Jd_inlz_33 rfl (lv_at hl 0 rfl) ?_
    refine lv_sipush (v := 256) hx hb d_Jd_inlz_34 (by decide) ?_
    refine lv_icmp_lt (tgt := 48) hx hb d_Jd_inlz_37 (by decide) (fun h5 => ?_) (fun h5 => ?_)
    · exact b48 x0 x1 ls (lv_sub hl [0, 1] rfl)  (by rw [hE, mf_Jd_inlz_b33, if_pos h5])
    · refine lv_iinc (k := 1) (v := x1 + (-8 : Int32)) hx hb d_Jd_inlz_40 hl rfl rfl (by decide) rfl (fun ls hl => ?_)
      have hl : lv_has ls 2 [(1, .int (x1 + (-8 : Int32))), (0, .int x0)] := hl
      refine lv_iload_n hx hb d_Jd_inlz_43 rfl (lv_at hl 1 rfl) ?_
      refine lv_bipush (v := 8) hx hb d_Jd_inlz_44 (by decide) ?_
      refine lv_iushr hx hb d_Jd_inlz_46 rfl ?_
      refine lv_topi (fun v6 ev6 => ?_)
      refine lv_istore_n hx hb d_Jd_inlz_47 rfl hl (by decide) rfl (fun ls hl => ?_)
      have hl : lv_has ls 2 [(0, .int v6), (1, .int (x1 + (-8 : Int32)))] := hl
      exact b48 v6 (x1 + (-8 : Int32)) ls (lv_sub hl [0, 1] rfl)  (by subst ev6; rw [hE, mf_Jd_inlz_b33, if_neg h5])
  refine lv_iload_n hx hb d_Jd_inlz_0 rfl (lv_at hl 0 rfl) ?_
  refine lv_if_gt (tgt := 15) hx hb d_Jd_inlz_1 (by decide) (fun h1 => ?_) (fun h1 => ?_)
  · refine lv_bipush (v := 31) hx hb d_Jd_inlz_15 (by decide) ?_
    refine lv_istore_n hx hb d_Jd_inlz_17 rfl hl (by decide) rfl (fun ls hl => ?_)
    have hl : lv_has ls 2 [(1, .int (31 : Int32)), (0, .int x)] := hl
    refine lv_iload_n hx hb d_Jd_inlz_18 rfl (lv_at hl 1 rfl) ?_
    refine lv_ldcw (v := (65536 : Int32)) hx hb hown (hts (.constant "java/lang/Integer" 264 (65536 : Int32)) (nb_c nb_t97)) d_Jd_inlz_19 ?_
    refine lv_icmp_lt (tgt := 33) hx hb d_Jd_inlz_22 (by decide) (fun h2 => ?_) (fun h2 => ?_)
    · exact b33 x (31 : Int32) ls (lv_sub hl [1, 0] rfl)  (by rw [mf_Jd_inlz, if_pos h1, if_pos h2])
    · refine lv_iinc (k := 0) (v := (31 : Int32) + (-16 : Int32)) hx hb d_Jd_inlz_25 hl rfl rfl (by decide) rfl (fun ls hl => ?_)
      have hl : lv_has ls 2 [(1, .int ((31 : Int32) + (-16 : Int32))), (0, .int x)] := hl
      refine lv_iload_n hx hb d_Jd_inlz_28 rfl (lv_at hl 1 rfl) ?_
      refine lv_bipush (v := 16) hx hb d_Jd_inlz_29 (by decide) ?_
      refine lv_iushr hx hb d_Jd_inlz_31 rfl ?_
      refine lv_topi (fun v3 ev3 => ?_)
      refine lv_istore_n hx hb d_Jd_inlz_32 rfl hl (by decide) rfl (fun ls hl => ?_)
      have hl : lv_has ls 2 [(0, .int v3), (1, .int ((31 : Int32) + (-16 : Int32)))] := hl
      exact b33 v3 ((31 : Int32) + (-16 : Int32)) ls (lv_sub hl [0, 1] rfl)  (by subst ev3; rw [mf_Jd_inlz, if_pos h1, if_neg h2])
  · refine lv_iload_n hx hb d_Jd_inlz_4 rfl (lv_at hl 0 rfl) ?_
    refine lv_if_ne (tgt := 13) hx hb d_Jd_inlz_5 (by decide) (fun h4 => ?_) (fun h4 => ?_)
    · refine lv_iconst (v := 0) hx hb d_Jd_inlz_13 (by decide) ?_
      exact W.iret hx hb hr (fun t ht hW => ⟨_, rfl, (by rw [mf_Jd_inlz, if_neg h1, if_neg h4]), ht⟩) t_nil d_Jd_inlz_14
    · refine lv_bipush (v := 32) hx hb d_Jd_inlz_8 (by decide) ?_
      refine lv_goto (tgt := 14) hx hb d_Jd_inlz_10 (by decide) ?_
      exact W.iret hx hb hr (fun t ht hW => ⟨_, rfl, (by rw [mf_Jd_inlz, if_neg h1, if_pos h4]), ht⟩) t_nil d_Jd_inlz_14
def y_Jd_lnlz : MethodName := ⟨"java/lang/Long", "numberOfLeadingZeros", "(J)I"⟩
abbrev w_Jd_lnlz : List Cond := Cond.code y_Jd_lnlz prog_7_method_48_code 3 (Option.some FieldType.int) :: nb_tb
theorem hd_Jd_lnlz : y_Jd_lnlz.cls ≠ "java/lang/invoke/MethodHandle" ∧ y_Jd_lnlz.cls ≠ "java/lang/invoke/VarHandle" ∧ (parseMethodDescriptor y_Jd_lnlz.desc).map (fun d => d.parameters.length) = some 1 := by decide +kernel
theorem d_Jd_lnlz_0 : decode prog_7_method_48_code 0 = .ok (.lload_n 0, 1) := by decide +kernel
theorem d_Jd_lnlz_1 : decode prog_7_method_48_code 1 = .ok (.bipush 32, 2) := by decide +kernel
theorem d_Jd_lnlz_3 : decode prog_7_method_48_code 3 = .ok (.lushr, 1) := by decide +kernel
theorem d_Jd_lnlz_4 : decode prog_7_method_48_code 4 = .ok (.l2i, 1) := by decide +kernel
theorem d_Jd_lnlz_5 : decode prog_7_method_48_code 5 = .ok (.istore_n 2, 1) := by decide +kernel
theorem d_Jd_lnlz_6 : decode prog_7_method_48_code 6 = .ok (.iload_n 2, 1) := by decide +kernel
theorem d_Jd_lnlz_7 : decode prog_7_method_48_code 7 = .ok (.ifCond .ne 14, 3) := by decide +kernel
theorem d_Jd_lnlz_10 : decode prog_7_method_48_code 10 = .ok (.bipush 32, 2) := by decide +kernel
theorem d_Jd_lnlz_12 : decode prog_7_method_48_code 12 = .ok (.lload_n 0, 1) := by decide +kernel
theorem d_Jd_lnlz_13 : decode prog_7_method_48_code 13 = .ok (.l2i, 1) := by decide +kernel
theorem d_Jd_lnlz_14 : decode prog_7_method_48_code 14 = .ok (.invokestatic 308, 3) := by decide +kernel
theorem d_Jd_lnlz_17 : decode prog_7_method_48_code 17 = .ok (.iadd, 1) := by decide +kernel
theorem d_Jd_lnlz_18 : decode prog_7_method_48_code 18 = .ok (.goto 7, 3) := by decide +kernel
theorem d_Jd_lnlz_21 : decode prog_7_method_48_code 21 = .ok (.iload_n 2, 1) := by decide +kernel
theorem d_Jd_lnlz_22 : decode prog_7_method_48_code 22 = .ok (.invokestatic 308, 3) := by decide +kernel
theorem d_Jd_lnlz_25 : decode prog_7_method_48_code 25 = .ok (.ireturn, 1) := by decide +kernel
set_option maxHeartbeats 1200000 in
set_option maxRecDepth 100000 in
theorem c_Jd_lnlz (l : Launch) (ad : Nat → Nat) (x : Int64)  : Met l y_Jd_lnlz w_Jd_lnlz ({ frames := 1, cells := 0, slots := 0, locals := 21 } : Room) (va_Pc [.long x] (nb_K ad)) (vp_Si (fun r => r = mf_Jd_lnlz x)) 0 0 (fun _ => False) := by
  refine Met.ofW (cc := prog_7_method_48_code) (maxL := 3) (ret := some .int) (by decide) rfl ?_
  intro p e s m args below meth c s₁ B hml hv
  obtain ⟨rfl, hC⟩ := hv
  have hx := B.exec
  have hb := B.bytes
  have hr := B.returns
  have hts := atoms_spec (ws := w_Jd_lnlz) B.pre
  have hown : s.vm.findClass "java/lang/Long" = some m.cls := findClass_of_methodNamed B.named
  have hlocks := B.notSynchronized
  have hC : nb_C ad (fun _ => False) s s.heap := hC
  have hS : va_S (fun _ => False) s.heap s.heap [] := va_S.rf
  have hl := lv_entry ([.long x]) (n := 3) (Nat.le_of_ble_eq_true rfl)
  rw [lg_entry_eq]
  generalize (lg_sl ([.long x]) ++ List.replicate (3 - (lg_sl ([.long x])).length) Slot.unset).toArray = ls at hl ⊢
  have hl : lv_has ls 3 [(0, .long x)] := hl
  refine lv_lload_n hx hb d_Jd_lnlz_0 rfl (lv_at hl 0 rfl) ?_
  refine lv_bipush (v := 32) hx hb d_Jd_lnlz_1 (by decide) ?_
  refine lv_lushr hx hb d_Jd_lnlz_3 rfl ?_
  refine lv_l2i hx hb d_Jd_lnlz_4 rfl ?_
  refine lv_topi (fun v1 ev1 => ?_)
  refine lv_istore_n hx hb d_Jd_lnlz_5 rfl hl (by decide) rfl (fun ls hl => ?_)
  have hl : lv_has ls 3 [(2, .int v1), (0, .long x)] := hl
  refine lv_iload_n hx hb d_Jd_lnlz_6 rfl (lv_at hl 0 rfl) ?_
  refine lv_if_ne (tgt := 21) hx hb d_Jd_lnlz_7 (by decide) (fun h2 => ?_) (fun h2 => ?_)
  · refine lv_iload_n hx hb d_Jd_lnlz_21 rfl (lv_at hl 0 rfl) ?_
    refine nb_callSi (As := [.int v1]) (rest := []) hx hb hml hown hts (c_Jd_inlz l ad v1) nb_t94 nb_t95 nb_t7 nb_t96 hd_Jd_inlz rfl ⟨Nat.le_of_ble_eq_true rfl, Nat.le_of_ble_eq_true rfl⟩ ⟨rfl, rfl⟩ hC hS hl.1 rfl (Nat.le_of_ble_eq_true rfl) ⟨Nat.le_of_ble_eq_true rfl, Nat.le_of_ble_eq_true rfl⟩ d_Jd_lnlz_22 ?_
    exact W.iret hx hb hr (fun t ht hW => ⟨_, rfl, (by subst ev1; rw [mf_Jd_lnlz, if_neg h2]), ht⟩) t_nil d_Jd_lnlz_25
  · refine lv_bipush (v := 32) hx hb d_Jd_lnlz_10 (by decide) ?_
    refine lv_lload_n hx hb d_Jd_lnlz_12 rfl (lv_at hl 1 rfl) ?_
    refine lv_l2i hx hb d_Jd_lnlz_13 rfl ?_
    refine nb_callSi (As := [.int x.toInt32]) (rest := [.int (32 : Int32)]) hx hb hml hown hts (c_Jd_inlz l ad x.toInt32) nb_t94 nb_t95 nb_t7 nb_t96 hd_Jd_inlz rfl ⟨Nat.le_of_ble_eq_true rfl, Nat.le_of_ble_eq_true rfl⟩ ⟨rfl, rfl⟩ hC hS hl.1 rfl (Nat.le_of_ble_eq_true rfl) ⟨Nat.le_of_ble_eq_true rfl, Nat.le_of_ble_eq_true rfl⟩ d_Jd_lnlz_14 ?_
    refine lv_iadd hx hb d_Jd_lnlz_17 ?_
    refine lv_goto (tgt := 25) hx hb d_Jd_lnlz_18 (by decide) ?_
    exact W.iret hx hb hr (fun t ht hW => ⟨_, rfl, (by subst ev1; rw [mf_Jd_lnlz, if_pos h2]), ht⟩) t_nil d_Jd_lnlz_25
def y_Jd_lcmp : MethodName := ⟨"java/lang/Long", "compare", "(JJ)I"⟩
abbrev w_Jd_lcmp : List Cond := Cond.code y_Jd_lcmp prog_7_method_42_code 4 (Option.some FieldType.int) :: nb_tb
theorem hd_Jd_lcmp : y_Jd_lcmp.cls ≠ "java/lang/invoke/MethodHandle" ∧ y_Jd_lcmp.cls ≠ "java/lang/invoke/VarHandle" ∧ (parseMethodDescriptor y_Jd_lcmp.desc).map (fun d => d.parameters.length) = some 2 := by decide +kernel
theorem d_Jd_lcmp_0 : decode prog_7_method_42_code 0 = .ok (.lload_n 0, 1) := by decide +kernel
theorem d_Jd_lcmp_1 : decode prog_7_method_42_code 1 = .ok (.lload_n 2, 1) := by decide +kernel
theorem d_Jd_lcmp_2 : decode prog_7_method_42_code 2 = .ok (.lcmp, 1) := by decide +kernel
theorem d_Jd_lcmp_3 : decode prog_7_method_42_code 3 = .ok (.ifCond .ge 7, 3) := by decide +kernel
theorem d_Jd_lcmp_6 : decode prog_7_method_42_code 6 = .ok (.iconst (-1), 1) := by decide +kernel
theorem d_Jd_lcmp_7 : decode prog_7_method_42_code 7 = .ok (.goto 14, 3) := by decide +kernel
theorem d_Jd_lcmp_10 : decode prog_7_method_42_code 10 = .ok (.lload_n 0, 1) := by decide +kernel
theorem d_Jd_lcmp_11 : decode prog_7_method_42_code 11 = .ok (.lload_n 2, 1) := by decide +kernel
theorem d_Jd_lcmp_12 : decode prog_7_method_42_code 12 = .ok (.lcmp, 1) := by decide +kernel
theorem d_Jd_lcmp_13 : decode prog_7_method_42_code 13 = .ok (.ifCond .ne 7, 3) := by decide +kernel
theorem d_Jd_lcmp_16 : decode prog_7_method_42_code 16 = .ok (.iconst 0, 1) := by decide +kernel
theorem d_Jd_lcmp_17 : decode prog_7_method_42_code 17 = .ok (.goto 4, 3) := by decide +kernel
theorem d_Jd_lcmp_20 : decode prog_7_method_42_code 20 = .ok (.iconst 1, 1) := by decide +kernel
theorem d_Jd_lcmp_21 : decode prog_7_method_42_code 21 = .ok (.ireturn, 1) := by decide +kernel
set_option maxHeartbeats 1200000 in
set_option maxRecDepth 100000 in
theorem c_Jd_lcmp (l : Launch) (ad : Nat → Nat) (x : Int64) (y : Int64)  : Met l y_Jd_lcmp w_Jd_lcmp ({ frames := 0, cells := 0, slots := 0, locals := 0 } : Room) (va_Pc [.long x, .long y] (nb_K ad)) (vp_Si (fun r => r = mf_Jd_lcmp x y)) 0 0 (fun _ => False) := by
  refine Met.ofW (cc := prog_7_method_42_code) (maxL := 4) (ret := some .int) (by decide) rfl ?_
  intro p e s m args below meth c s₁ B hml hv
  obtain ⟨rfl, hC⟩ := hv
  have hx := B.exec
  have hb := B.bytes
  have hr := B.returns
  have hts := atoms_spec (ws := w_Jd_lcmp) B.pre
  have hown : s.vm.findClass "java/lang/Long" = some m.cls := findClass_of_methodNamed B.named
  have hlocks := B.notSynchronized
  have hC : nb_C ad (fun _ => False) s s.heap := hC
  have hS : va_S (fun _ => False) s.heap s.heap [] := va_S.rf
  have hl := lv_entry ([.long x, .long y]) (n := 4) (Nat.le_of_ble_eq_true rfl)
  rw [lg_entry_eq]
  generalize (lg_sl ([.long x, .long y]) ++ List.replicate (4 - (lg_sl ([.long x, .long y])).length) Slot.unset).toArray = ls at hl ⊢
  have hl : lv_has ls 4 [(0, .long x), (2, .long y)] := hl
  refine lv_lload_n hx hb d_Jd_lcmp_0 rfl (lv_at hl 0 rfl) ?_
  refine lv_lload_n hx hb d_Jd_lcmp_1 rfl (lv_at hl 1 rfl) ?_
  refine nb_lc_ge (tgt := 10) hx hb d_Jd_lcmp_2 d_Jd_lcmp_3 (by decide) (fun h1 => ?_) (fun h1 => ?_)
  · refine lv_lload_n hx hb d_Jd_lcmp_10 rfl (lv_at hl 0 rfl) ?_
    refine lv_lload_n hx hb d_Jd_lcmp_11 rfl (lv_at hl 1 rfl) ?_
    refine nb_lc_ne (tgt := 20) hx hb d_Jd_lcmp_12 d_Jd_lcmp_13 (by decide) (fun h2 => ?_) (fun h2 => ?_)
    · refine lv_iconst (v := 1) hx hb d_Jd_lcmp_20 (by decide) ?_
      exact W.iret hx hb hr (fun t ht hW => ⟨_, rfl, (by rw [mf_Jd_lcmp, if_pos h1, if_neg h2]), ht⟩) t_nil d_Jd_lcmp_21
    · refine lv_iconst (v := 0) hx hb d_Jd_lcmp_16 (by decide) ?_
      refine lv_goto (tgt := 21) hx hb d_Jd_lcmp_17 (by decide) ?_
      exact W.iret hx hb hr (fun t ht hW => ⟨_, rfl, (by rw [mf_Jd_lcmp, if_pos h1, if_pos h2]), ht⟩) t_nil d_Jd_lcmp_21
  · refine lv_iconst (v := (-1)) hx hb d_Jd_lcmp_6 (by decide) ?_
    refine lv_goto (tgt := 21) hx hb d_Jd_lcmp_7 (by decide) ?_
    exact W.iret hx hb hr (fun t ht hW => ⟨_, rfl, (by rw [mf_Jd_lcmp, if_neg h1]), ht⟩) t_nil d_Jd_lcmp_21
