def y_Fo_rounded : MethodName := ⟨"NumberBench$Form", "rounded", "(ZJI)J"⟩
abbrev w_Fo_rounded : List Cond := Cond.code y_Fo_rounded prog_2_method_30_code 10 (Option.some FieldType.long) :: nb_tb
theorem hd_Fo_rounded : y_Fo_rounded.cls ≠ "java/lang/invoke/MethodHandle" ∧ y_Fo_rounded.cls ≠ "java/lang/invoke/VarHandle" ∧ (parseMethodDescriptor y_Fo_rounded.desc).map (fun d => d.parameters.length) = some 3 := by decide +kernel
theorem d_Fo_rounded_0 : decode prog_2_method_30_code 0 = .ok (.lload_n 2, 1) := by decide +kernel
theorem d_Fo_rounded_1 : decode prog_2_method_30_code 1 = .ok (.lconst 0, 1) := by decide +kernel
theorem d_Fo_rounded_2 : decode prog_2_method_30_code 2 = .ok (.lcmp, 1) := by decide +kernel
theorem d_Fo_rounded_3 : decode prog_2_method_30_code 3 = .ok (.ifCond .ne 10, 3) := by decide +kernel
theorem d_Fo_rounded_6 : decode prog_2_method_30_code 6 = .ok (.aload_n 0, 1) := by decide +kernel
theorem d_Fo_rounded_7 : decode prog_2_method_30_code 7 = .ok (.iload_n 1, 1) := by decide +kernel
theorem d_Fo_rounded_8 : decode prog_2_method_30_code 8 = .ok (.lconst 0, 1) := by decide +kernel
theorem d_Fo_rounded_9 : decode prog_2_method_30_code 9 = .ok (.invokevirtual 84, 3) := by decide +kernel
theorem d_Fo_rounded_12 : decode prog_2_method_30_code 12 = .ok (.lreturn, 1) := by decide +kernel
theorem d_Fo_rounded_13 : decode prog_2_method_30_code 13 = .ok (.lload_n 2, 1) := by decide +kernel
theorem d_Fo_rounded_14 : decode prog_2_method_30_code 14 = .ok (.invokestatic 138, 3) := by decide +kernel
theorem d_Fo_rounded_17 : decode prog_2_method_30_code 17 = .ok (.iconst 1, 1) := by decide +kernel
theorem d_Fo_rounded_18 : decode prog_2_method_30_code 18 = .ok (.isub, 1) := by decide +kernel
theorem d_Fo_rounded_19 : decode prog_2_method_30_code 19 = .ok (.istore 5, 2) := by decide +kernel
theorem d_Fo_rounded_21 : decode prog_2_method_30_code 21 = .ok (.iload 4, 2) := by decide +kernel
theorem d_Fo_rounded_23 : decode prog_2_method_30_code 23 = .ok (.iload 5, 2) := by decide +kernel
theorem d_Fo_rounded_25 : decode prog_2_method_30_code 25 = .ok (.isub, 1) := by decide +kernel
theorem d_Fo_rounded_26 : decode prog_2_method_30_code 26 = .ok (.bipush 62, 2) := by decide +kernel
theorem d_Fo_rounded_28 : decode prog_2_method_30_code 28 = .ok (.iadd, 1) := by decide +kernel
theorem d_Fo_rounded_29 : decode prog_2_method_30_code 29 = .ok (.aload_n 0, 1) := by decide +kernel
theorem d_Fo_rounded_30 : decode prog_2_method_30_code 30 = .ok (.getfield 35, 3) := by decide +kernel
theorem d_Fo_rounded_33 : decode prog_2_method_30_code 33 = .ok (.iadd, 1) := by decide +kernel
theorem d_Fo_rounded_34 : decode prog_2_method_30_code 34 = .ok (.istore 6, 2) := by decide +kernel
theorem d_Fo_rounded_36 : decode prog_2_method_30_code 36 = .ok (.iload 6, 2) := by decide +kernel
theorem d_Fo_rounded_38 : decode prog_2_method_30_code 38 = .ok (.aload_n 0, 1) := by decide +kernel
theorem d_Fo_rounded_39 : decode prog_2_method_30_code 39 = .ok (.getfield 38, 3) := by decide +kernel
theorem d_Fo_rounded_42 : decode prog_2_method_30_code 42 = .ok (.if_icmp .lt 13, 3) := by decide +kernel
theorem d_Fo_rounded_45 : decode prog_2_method_30_code 45 = .ok (.aload_n 0, 1) := by decide +kernel
theorem d_Fo_rounded_46 : decode prog_2_method_30_code 46 = .ok (.iload_n 1, 1) := by decide +kernel
theorem d_Fo_rounded_47 : decode prog_2_method_30_code 47 = .ok (.aload_n 0, 1) := by decide +kernel
theorem d_Fo_rounded_48 : decode prog_2_method_30_code 48 = .ok (.getfield 48, 3) := by decide +kernel
theorem d_Fo_rounded_51 : decode prog_2_method_30_code 51 = .ok (.invokevirtual 84, 3) := by decide +kernel
theorem d_Fo_rounded_54 : decode prog_2_method_30_code 54 = .ok (.lreturn, 1) := by decide +kernel
theorem d_Fo_rounded_55 : decode prog_2_method_30_code 55 = .ok (.bipush 62, 2) := by decide +kernel
theorem d_Fo_rounded_57 : decode prog_2_method_30_code 57 = .ok (.aload_n 0, 1) := by decide +kernel
theorem d_Fo_rounded_58 : decode prog_2_method_30_code 58 = .ok (.getfield 31, 3) := by decide +kernel
theorem d_Fo_rounded_61 : decode prog_2_method_30_code 61 = .ok (.isub, 1) := by decide +kernel
theorem d_Fo_rounded_62 : decode prog_2_method_30_code 62 = .ok (.iconst 1, 1) := by decide +kernel
theorem d_Fo_rounded_63 : decode prog_2_method_30_code 63 = .ok (.iload 6, 2) := by decide +kernel
theorem d_Fo_rounded_65 : decode prog_2_method_30_code 65 = .ok (.isub, 1) := by decide +kernel
theorem d_Fo_rounded_66 : decode prog_2_method_30_code 66 = .ok (.iconst 0, 1) := by decide +kernel
theorem d_Fo_rounded_67 : decode prog_2_method_30_code 67 = .ok (.invokestatic 118, 3) := by decide +kernel
theorem d_Fo_rounded_70 : decode prog_2_method_30_code 70 = .ok (.iadd, 1) := by decide +kernel
theorem d_Fo_rounded_71 : decode prog_2_method_30_code 71 = .ok (.istore 7, 2) := by decide +kernel
theorem d_Fo_rounded_73 : decode prog_2_method_30_code 73 = .ok (.iload 7, 2) := by decide +kernel
theorem d_Fo_rounded_75 : decode prog_2_method_30_code 75 = .ok (.bipush 63, 2) := by decide +kernel
theorem d_Fo_rounded_77 : decode prog_2_method_30_code 77 = .ok (.if_icmp .le 10, 3) := by decide +kernel
theorem d_Fo_rounded_80 : decode prog_2_method_30_code 80 = .ok (.aload_n 0, 1) := by decide +kernel
theorem d_Fo_rounded_81 : decode prog_2_method_30_code 81 = .ok (.iload_n 1, 1) := by decide +kernel
theorem d_Fo_rounded_82 : decode prog_2_method_30_code 82 = .ok (.lconst 0, 1) := by decide +kernel
theorem d_Fo_rounded_83 : decode prog_2_method_30_code 83 = .ok (.invokevirtual 84, 3) := by decide +kernel
theorem d_Fo_rounded_86 : decode prog_2_method_30_code 86 = .ok (.lreturn, 1) := by decide +kernel
theorem d_Fo_rounded_87 : decode prog_2_method_30_code 87 = .ok (.lload_n 2, 1) := by decide +kernel
theorem d_Fo_rounded_88 : decode prog_2_method_30_code 88 = .ok (.iload 5, 2) := by decide +kernel
theorem d_Fo_rounded_90 : decode prog_2_method_30_code 90 = .ok (.lshl, 1) := by decide +kernel
theorem d_Fo_rounded_91 : decode prog_2_method_30_code 91 = .ok (.iload 7, 2) := by decide +kernel
theorem d_Fo_rounded_93 : decode prog_2_method_30_code 93 = .ok (.invokestatic 145, 3) := by decide +kernel
theorem d_Fo_rounded_96 : decode prog_2_method_30_code 96 = .ok (.lstore 8, 2) := by decide +kernel
theorem d_Fo_rounded_98 : decode prog_2_method_30_code 98 = .ok (.aload_n 0, 1) := by decide +kernel
theorem d_Fo_rounded_99 : decode prog_2_method_30_code 99 = .ok (.iload_n 1, 1) := by decide +kernel
theorem d_Fo_rounded_100 : decode prog_2_method_30_code 100 = .ok (.iload 6, 2) := by decide +kernel
theorem d_Fo_rounded_102 : decode prog_2_method_30_code 102 = .ok (.iconst 1, 1) := by decide +kernel
theorem d_Fo_rounded_103 : decode prog_2_method_30_code 103 = .ok (.isub, 1) := by decide +kernel
theorem d_Fo_rounded_104 : decode prog_2_method_30_code 104 = .ok (.iconst 0, 1) := by decide +kernel
theorem d_Fo_rounded_105 : decode prog_2_method_30_code 105 = .ok (.invokestatic 118, 3) := by decide +kernel
theorem d_Fo_rounded_108 : decode prog_2_method_30_code 108 = .ok (.i2l, 1) := by decide +kernel
theorem d_Fo_rounded_109 : decode prog_2_method_30_code 109 = .ok (.aload_n 0, 1) := by decide +kernel
theorem d_Fo_rounded_110 : decode prog_2_method_30_code 110 = .ok (.getfield 31, 3) := by decide +kernel
theorem d_Fo_rounded_113 : decode prog_2_method_30_code 113 = .ok (.lshl, 1) := by decide +kernel
theorem d_Fo_rounded_114 : decode prog_2_method_30_code 114 = .ok (.lload 8, 2) := by decide +kernel
theorem d_Fo_rounded_116 : decode prog_2_method_30_code 116 = .ok (.ladd, 1) := by decide +kernel
theorem d_Fo_rounded_117 : decode prog_2_method_30_code 117 = .ok (.invokevirtual 84, 3) := by decide +kernel
theorem d_Fo_rounded_120 : decode prog_2_method_30_code 120 = .ok (.lreturn, 1) := by decide +kernel
set_option maxHeartbeats 1200000 in
set_option maxRecDepth 100000 in
theorem c_Fo_rounded (l : Launch) (ad : Nat → Nat) (i : Nat) (g : Int32) (a : Int64) (z : Int32) (h_i : i < 2) : Met l y_Fo_rounded w_Fo_rounded ({ frames := 2, cells := 0, slots := 0, locals := 43 } : Room) (va_Pc [.ref (ad i), .int g, .long a, .int z] (nb_K ad)) (vp_Sl (fun r => r = mf_Fo_rounded i g a z)) 0 0 (fun _ => False) := by
  refine Met.ofW (cc := prog_2_method_30_code) (maxL := 10) (ret := some .long) (by decide) rfl ?_
  intro p e s m args below meth c s₁ B hml hv
  obtain ⟨rfl, hC⟩ := hv
  have hx := B.exec
  have hb := B.bytes
  have hr := B.returns
  have hts := atoms_spec (ws := w_Fo_rounded) B.pre
  have hown : s.vm.findClass "NumberBench$Form" = some m.cls := findClass_of_methodNamed B.named
  have hlocks := B.notSynchronized
  have hC : nb_C ad (fun _ => False) s s.heap := hC
  have hS : va_S (fun _ => False) s.heap s.heap [] := va_S.rf
  have hl := lv_entry ([.ref (ad i), .int g, .long a, .int z]) (n := 10) (Nat.le_of_ble_eq_true rfl)
  rw [lg_entry_eq]
  generalize (lg_sl ([.ref (ad i), .int g, .long a, .int z]) ++ List.replicate (10 - (lg_sl ([.ref (ad i), .int g, .long a, .int z])).length) Slot.unset).toArray = ls at hl ⊢
  have hl : lv_has ls 10 [(0, .ref (ad i)), (1, .int g), (2, .long a), (4, .int z)] := hl
  refine lv_lload_n hx hb d_Fo_rounded_0 rfl (lv_at hl 2 rfl) ?_
  refine lv_lconst (v := 0) hx hb d_Fo_rounded_1 (by decide) ?_
  refine nb_lc_ne (tgt := 13) hx hb d_Fo_rounded_2 d_Fo_rounded_3 (by decide) (fun h1 => ?_) (fun h1 => ?_)
  · refine lv_lload_n hx hb d_Fo_rounded_13 rfl (lv_at hl 2 rfl) ?_
    refine nb_callSi (As := [.long a]) (rest := []) hx hb hml hown hts (c_Jd_lnlz l ad a) nb_t91 nb_t92 nb_t6 nb_t93 hd_Jd_lnlz rfl ⟨Nat.le_of_ble_eq_true rfl, Nat.le_of_ble_eq_true rfl⟩ ⟨rfl, rfl⟩ hC hS hl.1 rfl (Nat.le_of_ble_eq_true rfl) ⟨Nat.le_of_ble_eq_true rfl, Nat.le_of_ble_eq_true rfl⟩ d_Fo_rounded_14 ?_
    refine lv_iconst (v := 1) hx hb d_Fo_rounded_17 (by decide) ?_
    refine lv_isub hx hb d_Fo_rounded_18 ?_
    refine lv_istore hx hb d_Fo_rounded_19 hl (by decide) rfl (fun ls hl => ?_)
    have hl : lv_has ls 10 [(5, .int ((mf_Jd_lnlz a) - (1 : Int32))), (0, .ref (ad i)), (1, .int g), (2, .long a), (4, .int z)] := hl
    refine lv_iload hx hb d_Fo_rounded_21 (lv_at hl 4 rfl) ?_
    refine lv_iload hx hb d_Fo_rounded_23 (lv_at hl 0 rfl) ?_
    refine lv_isub hx hb d_Fo_rounded_25 ?_
    refine lv_bipush (v := 62) hx hb d_Fo_rounded_26 (by decide) ?_
    refine lv_iadd hx hb d_Fo_rounded_28 ?_
    refine lv_aload_n hx hb d_Fo_rounded_29 rfl (lv_at hl 1 rfl) ?_
    refine vk_getf (v := .int (fo_bias i)) hx hb (nb_f_bias hC h_i) hS hown (hts _ (nb_c nb_t430)) (fun _ h => h) d_Fo_rounded_30 ?_
    refine lv_iadd hx hb d_Fo_rounded_33 ?_
    refine lv_topi (fun v2 ev2 => ?_)
    refine lv_istore hx hb d_Fo_rounded_34 hl (by decide) rfl (fun ls hl => ?_)
    have hl : lv_has ls 10 [(6, .int v2), (5, .int ((mf_Jd_lnlz a) - (1 : Int32))), (0, .ref (ad i)), (1, .int g), (2, .long a), (4, .int z)] := hl
    refine lv_iload hx hb d_Fo_rounded_36 (lv_at hl 0 rfl) ?_
    refine lv_aload_n hx hb d_Fo_rounded_38 rfl (lv_at hl 2 rfl) ?_
    refine vk_getf (v := .int (fo_top i)) hx hb (nb_f_top hC h_i) hS hown (hts _ (nb_c nb_t432)) (fun _ h => h) d_Fo_rounded_39 ?_
    refine lv_icmp_lt (tgt := 55) hx hb d_Fo_rounded_42 (by decide) (fun h3 => ?_) (fun h3 => ?_)
    · refine lv_bipush (v := 62) hx hb d_Fo_rounded_55 (by decide) ?_
      refine lv_aload_n hx hb d_Fo_rounded_57 rfl (lv_at hl 2 rfl) ?_
      refine vk_getf (v := .int (fo_fb i)) hx hb (nb_f_fb hC h_i) hS hown (hts _ (nb_c nb_t429)) (fun _ h => h) d_Fo_rounded_58 ?_
      refine lv_isub hx hb d_Fo_rounded_61 ?_
      refine lv_iconst (v := 1) hx hb d_Fo_rounded_62 (by decide) ?_
      refine lv_iload hx hb d_Fo_rounded_63 (lv_at hl 0 rfl) ?_
      refine lv_isub hx hb d_Fo_rounded_65 ?_
      refine lv_iconst (v := 0) hx hb d_Fo_rounded_66 (by decide) ?_
      refine va_mmax hx hb (by rw [hml]; exact hl.1.symm) hown (hts _ (nb_c nb_t69)) (hts _ (nb_c nb_t70)) (hts _ (nb_c nb_t5)) (hts _ (nb_c nb_code_va_mmax)) (Nat.le_of_ble_eq_true rfl) (Nat.le_of_ble_eq_true rfl) (Nat.le_of_ble_eq_true rfl) (Nat.le_of_ble_eq_true rfl) d_Fo_rounded_67 ?_
      refine lv_iadd hx hb d_Fo_rounded_70 ?_
      refine lv_topi (fun v4 ev4 => ?_)
      refine lv_istore hx hb d_Fo_rounded_71 hl (by decide) rfl (fun ls hl => ?_)
      have hl : lv_has ls 10 [(7, .int v4), (6, .int v2), (5, .int ((mf_Jd_lnlz a) - (1 : Int32))), (0, .ref (ad i)), (1, .int g), (2, .long a), (4, .int z)] := hl
      refine lv_iload hx hb d_Fo_rounded_73 (lv_at hl 0 rfl) ?_
      refine lv_bipush (v := 63) hx hb d_Fo_rounded_75 (by decide) ?_
      refine lv_icmp_le (tgt := 87) hx hb d_Fo_rounded_77 (by decide) (fun h5 => ?_) (fun h5 => ?_)
      · refine lv_lload_n hx hb d_Fo_rounded_87 rfl (lv_at hl 5 rfl) ?_
        refine lv_iload hx hb d_Fo_rounded_88 (lv_at hl 2 rfl) ?_
        refine lv_lshl hx hb d_Fo_rounded_90 rfl ?_
        refine lv_iload hx hb d_Fo_rounded_91 (lv_at hl 0 rfl) ?_
        refine nb_callSl (As := [.long (a <<< (((mf_Jd_lnlz a) - (1 : Int32)).toInt64 &&& 63)), .int v4]) (rest := []) hx hb hml hown hts (c_Fo_withoutLowest l ad (a <<< (((mf_Jd_lnlz a) - (1 : Int32)).toInt64 &&& 63)) v4) nb_t98 nb_t99 nb_t4 nb_t100 hd_Fo_withoutLowest rfl ⟨Nat.le_of_ble_eq_true rfl, Nat.le_of_ble_eq_true rfl⟩ ⟨rfl, rfl⟩ hC hS hl.1 rfl (Nat.le_of_ble_eq_true rfl) ⟨Nat.le_of_ble_eq_true rfl, Nat.le_of_ble_eq_true rfl⟩ d_Fo_rounded_93 ?_
        refine lv_topl (fun v6 ev6 => ?_)
        refine lv_lstore hx hb d_Fo_rounded_96 hl (by decide) rfl (fun ls hl => ?_)
        have hl : lv_has ls 10 [(8, .long v6), (7, .int v4), (6, .int v2), (5, .int ((mf_Jd_lnlz a) - (1 : Int32))), (0, .ref (ad i)), (1, .int g), (2, .long a), (4, .int z)] := hl
        refine lv_aload_n hx hb d_Fo_rounded_98 rfl (lv_at hl 4 rfl) ?_
        refine lv_iload_n hx hb d_Fo_rounded_99 rfl (lv_at hl 5 rfl) ?_
        refine lv_iload hx hb d_Fo_rounded_100 (lv_at hl 2 rfl) ?_
        refine lv_iconst (v := 1) hx hb d_Fo_rounded_102 (by decide) ?_
        refine lv_isub hx hb d_Fo_rounded_103 ?_
        refine lv_iconst (v := 0) hx hb d_Fo_rounded_104 (by decide) ?_
        refine va_mmax hx hb (by rw [hml]; exact hl.1.symm) hown (hts _ (nb_c nb_t69)) (hts _ (nb_c nb_t70)) (hts _ (nb_c nb_t5)) (hts _ (nb_c nb_code_va_mmax)) (Nat.le_of_ble_eq_true rfl) (Nat.le_of_ble_eq_true rfl) (Nat.le_of_ble_eq_true rfl) (Nat.le_of_ble_eq_true rfl) d_Fo_rounded_105 ?_
        refine lv_i2l hx hb d_Fo_rounded_108 rfl ?_
        refine lv_aload_n hx hb d_Fo_rounded_109 rfl (lv_at hl 4 rfl) ?_
        refine vk_getf (v := .int (fo_fb i)) hx hb (nb_f_fb hC h_i) hS hown (hts _ (nb_c nb_t429)) (fun _ h => h) d_Fo_rounded_110 ?_
        refine lv_lshl hx hb d_Fo_rounded_113 rfl ?_
        refine lv_lload hx hb d_Fo_rounded_114 (lv_at hl 0 rfl) ?_
        refine lv_ladd hx hb d_Fo_rounded_116 ?_
        refine nb_callVl (As := [.int g, .long ((((if (v2 - (1 : Int32)) < (0 : Int32) then (0 : Int32) else (v2 - (1 : Int32))).toInt64) <<< ((fo_fb i).toInt64 &&& 63)) + v6)]) (rest := []) hx hb hml hown hts (c_Fo_signed l ad i g ((((if (v2 - (1 : Int32)) < (0 : Int32) then (0 : Int32) else (v2 - (1 : Int32))).toInt64) <<< ((fo_fb i).toInt64 &&& 63)) + v6) h_i) nb_t87 nb_t89 nb_s7 h_i nb_t4 nb_t90 hd_Fo_signed rfl ⟨Nat.le_of_ble_eq_true rfl, Nat.le_of_ble_eq_true rfl⟩ ⟨rfl, rfl⟩ hC hS hl.1 rfl (Nat.le_of_ble_eq_true rfl) ⟨Nat.le_of_ble_eq_true rfl, Nat.le_of_ble_eq_true rfl⟩ d_Fo_rounded_117 ?_
        exact W.lret hx hb hr (fun t ht hW => ⟨_, rfl, (by subst ev6; subst ev4; subst ev2; rw [mf_Fo_rounded, if_neg h1, if_pos h3, if_pos h5]), ht⟩) t_nil d_Fo_rounded_120
      · refine lv_aload_n hx hb d_Fo_rounded_80 rfl (lv_at hl 3 rfl) ?_
        refine lv_iload_n hx hb d_Fo_rounded_81 rfl (lv_at hl 4 rfl) ?_
        refine lv_lconst (v := 0) hx hb d_Fo_rounded_82 (by decide) ?_
        refine nb_callVl (As := [.int g, .long (0 : Int64)]) (rest := []) hx hb hml hown hts (c_Fo_signed l ad i g (0 : Int64) h_i) nb_t87 nb_t89 nb_s7 h_i nb_t4 nb_t90 hd_Fo_signed rfl ⟨Nat.le_of_ble_eq_true rfl, Nat.le_of_ble_eq_true rfl⟩ ⟨rfl, rfl⟩ hC hS hl.1 rfl (Nat.le_of_ble_eq_true rfl) ⟨Nat.le_of_ble_eq_true rfl, Nat.le_of_ble_eq_true rfl⟩ d_Fo_rounded_83 ?_
        exact W.lret hx hb hr (fun t ht hW => ⟨_, rfl, (by subst ev4; subst ev2; rw [mf_Fo_rounded, if_neg h1, if_pos h3, if_neg h5]), ht⟩) t_nil d_Fo_rounded_86
    · refine lv_aload_n hx hb d_Fo_rounded_45 rfl (lv_at hl 2 rfl) ?_
      refine lv_iload_n hx hb d_Fo_rounded_46 rfl (lv_at hl 3 rfl) ?_
      refine lv_aload_n hx hb d_Fo_rounded_47 rfl (lv_at hl 2 rfl) ?_
      refine vk_getf (v := .long (fo_inf i)) hx hb (nb_f_inf hC h_i) hS hown (hts _ (nb_c nb_t427)) (fun _ h => h) d_Fo_rounded_48 ?_
      refine nb_callVl (As := [.int g, .long (fo_inf i)]) (rest := []) hx hb hml hown hts (c_Fo_signed l ad i g (fo_inf i) h_i) nb_t87 nb_t89 nb_s7 h_i nb_t4 nb_t90 hd_Fo_signed rfl ⟨Nat.le_of_ble_eq_true rfl, Nat.le_of_ble_eq_true rfl⟩ ⟨rfl, rfl⟩ hC hS hl.1 rfl (Nat.le_of_ble_eq_true rfl) ⟨Nat.le_of_ble_eq_true rfl, Nat.le_of_ble_eq_true rfl⟩ d_Fo_rounded_51 ?_
      exact W.lret hx hb hr (fun t ht hW => ⟨_, rfl, (by subst ev2; rw [mf_Fo_rounded, if_neg h1, if_neg h3]), ht⟩) t_nil d_Fo_rounded_54
  · refine lv_aload_n hx hb d_Fo_rounded_6 rfl (lv_at hl 0 rfl) ?_
    refine lv_iload_n hx hb d_Fo_rounded_7 rfl (lv_at hl 1 rfl) ?_
    refine lv_lconst (v := 0) hx hb d_Fo_rounded_8 (by decide) ?_
    refine nb_callVl (As := [.int g, .long (0 : Int64)]) (rest := []) hx hb hml hown hts (c_Fo_signed l ad i g (0 : Int64) h_i) nb_t87 nb_t89 nb_s7 h_i nb_t4 nb_t90 hd_Fo_signed rfl ⟨Nat.le_of_ble_eq_true rfl, Nat.le_of_ble_eq_true rfl⟩ ⟨rfl, rfl⟩ hC hS hl.1 rfl (Nat.le_of_ble_eq_true rfl) ⟨Nat.le_of_ble_eq_true rfl, Nat.le_of_ble_eq_true rfl⟩ d_Fo_rounded_9 ?_
    exact W.lret hx hb hr (fun t ht hW => ⟨_, rfl, (by rw [mf_Fo_rounded, if_pos h1]), ht⟩) t_nil d_Fo_rounded_12
def y_Fo_finiteSum : MethodName := ⟨"NumberBench$Form", "finiteSum", "(JJ)J"⟩
abbrev w_Fo_finiteSum : List Cond := Cond.code y_Fo_finiteSum prog_2_method_22_code 11 (Option.some FieldType.long) :: nb_tb
theorem hd_Fo_finiteSum : y_Fo_finiteSum.cls ≠ "java/lang/invoke/MethodHandle" ∧ y_Fo_finiteSum.cls ≠ "java/lang/invoke/VarHandle" ∧ (parseMethodDescriptor y_Fo_finiteSum.desc).map (fun d => d.parameters.length) = some 2 := by decide +kernel
theorem d_Fo_finiteSum_0 : decode prog_2_method_22_code 0 = .ok (.aload_n 0, 1) := by decide +kernel
theorem d_Fo_finiteSum_1 : decode prog_2_method_22_code 1 = .ok (.lload_n 1, 1) := by decide +kernel
theorem d_Fo_finiteSum_2 : decode prog_2_method_22_code 2 = .ok (.invokevirtual 101, 3) := by decide +kernel
theorem d_Fo_finiteSum_5 : decode prog_2_method_22_code 5 = .ok (.istore 5, 2) := by decide +kernel
theorem d_Fo_finiteSum_7 : decode prog_2_method_22_code 7 = .ok (.aload_n 0, 1) := by decide +kernel
theorem d_Fo_finiteSum_8 : decode prog_2_method_22_code 8 = .ok (.lload_n 1, 1) := by decide +kernel
theorem d_Fo_finiteSum_9 : decode prog_2_method_22_code 9 = .ok (.invokevirtual 98, 3) := by decide +kernel
theorem d_Fo_finiteSum_12 : decode prog_2_method_22_code 12 = .ok (.bipush 9, 2) := by decide +kernel
theorem d_Fo_finiteSum_14 : decode prog_2_method_22_code 14 = .ok (.lshl, 1) := by decide +kernel
theorem d_Fo_finiteSum_15 : decode prog_2_method_22_code 15 = .ok (.lstore 6, 2) := by decide +kernel
theorem d_Fo_finiteSum_17 : decode prog_2_method_22_code 17 = .ok (.aload_n 0, 1) := by decide +kernel
theorem d_Fo_finiteSum_18 : decode prog_2_method_22_code 18 = .ok (.lload_n 3, 1) := by decide +kernel
theorem d_Fo_finiteSum_19 : decode prog_2_method_22_code 19 = .ok (.invokevirtual 98, 3) := by decide +kernel
theorem d_Fo_finiteSum_22 : decode prog_2_method_22_code 22 = .ok (.bipush 9, 2) := by decide +kernel
theorem d_Fo_finiteSum_24 : decode prog_2_method_22_code 24 = .ok (.lshl, 1) := by decide +kernel
theorem d_Fo_finiteSum_25 : decode prog_2_method_22_code 25 = .ok (.iload 5, 2) := by decide +kernel
theorem d_Fo_finiteSum_27 : decode prog_2_method_22_code 27 = .ok (.aload_n 0, 1) := by decide +kernel
theorem d_Fo_finiteSum_28 : decode prog_2_method_22_code 28 = .ok (.lload_n 3, 1) := by decide +kernel
theorem d_Fo_finiteSum_29 : decode prog_2_method_22_code 29 = .ok (.invokevirtual 101, 3) := by decide +kernel
theorem d_Fo_finiteSum_32 : decode prog_2_method_22_code 32 = .ok (.isub, 1) := by decide +kernel
theorem d_Fo_finiteSum_33 : decode prog_2_method_22_code 33 = .ok (.invokestatic 122, 3) := by decide +kernel
theorem d_Fo_finiteSum_36 : decode prog_2_method_22_code 36 = .ok (.lstore 8, 2) := by decide +kernel
theorem d_Fo_finiteSum_38 : decode prog_2_method_22_code 38 = .ok (.aload_n 0, 1) := by decide +kernel
theorem d_Fo_finiteSum_39 : decode prog_2_method_22_code 39 = .ok (.lload_n 1, 1) := by decide +kernel
theorem d_Fo_finiteSum_40 : decode prog_2_method_22_code 40 = .ok (.invokevirtual 78, 3) := by decide +kernel
theorem d_Fo_finiteSum_43 : decode prog_2_method_22_code 43 = .ok (.aload_n 0, 1) := by decide +kernel
theorem d_Fo_finiteSum_44 : decode prog_2_method_22_code 44 = .ok (.lload_n 3, 1) := by decide +kernel
theorem d_Fo_finiteSum_45 : decode prog_2_method_22_code 45 = .ok (.invokevirtual 78, 3) := by decide +kernel
theorem d_Fo_finiteSum_48 : decode prog_2_method_22_code 48 = .ok (.if_icmp .ne 23, 3) := by decide +kernel
theorem d_Fo_finiteSum_51 : decode prog_2_method_22_code 51 = .ok (.aload_n 0, 1) := by decide +kernel
theorem d_Fo_finiteSum_52 : decode prog_2_method_22_code 52 = .ok (.aload_n 0, 1) := by decide +kernel
theorem d_Fo_finiteSum_53 : decode prog_2_method_22_code 53 = .ok (.lload_n 1, 1) := by decide +kernel
theorem d_Fo_finiteSum_54 : decode prog_2_method_22_code 54 = .ok (.invokevirtual 78, 3) := by decide +kernel
theorem d_Fo_finiteSum_57 : decode prog_2_method_22_code 57 = .ok (.lload 6, 2) := by decide +kernel
theorem d_Fo_finiteSum_59 : decode prog_2_method_22_code 59 = .ok (.lload 8, 2) := by decide +kernel
theorem d_Fo_finiteSum_61 : decode prog_2_method_22_code 61 = .ok (.ladd, 1) := by decide +kernel
theorem d_Fo_finiteSum_62 : decode prog_2_method_22_code 62 = .ok (.iload 5, 2) := by decide +kernel
theorem d_Fo_finiteSum_64 : decode prog_2_method_22_code 64 = .ok (.bipush 9, 2) := by decide +kernel
theorem d_Fo_finiteSum_66 : decode prog_2_method_22_code 66 = .ok (.isub, 1) := by decide +kernel
theorem d_Fo_finiteSum_67 : decode prog_2_method_22_code 67 = .ok (.invokevirtual 105, 3) := by decide +kernel
theorem d_Fo_finiteSum_70 : decode prog_2_method_22_code 70 = .ok (.lreturn, 1) := by decide +kernel
theorem d_Fo_finiteSum_71 : decode prog_2_method_22_code 71 = .ok (.aload_n 0, 1) := by decide +kernel
theorem d_Fo_finiteSum_72 : decode prog_2_method_22_code 72 = .ok (.lload_n 1, 1) := by decide +kernel
theorem d_Fo_finiteSum_73 : decode prog_2_method_22_code 73 = .ok (.invokevirtual 78, 3) := by decide +kernel
theorem d_Fo_finiteSum_76 : decode prog_2_method_22_code 76 = .ok (.ifCond .eq 15, 3) := by decide +kernel
theorem d_Fo_finiteSum_79 : decode prog_2_method_22_code 79 = .ok (.lload 6, 2) := by decide +kernel
theorem d_Fo_finiteSum_81 : decode prog_2_method_22_code 81 = .ok (.lload 8, 2) := by decide +kernel
theorem d_Fo_finiteSum_83 : decode prog_2_method_22_code 83 = .ok (.lcmp, 1) := by decide +kernel
theorem d_Fo_finiteSum_84 : decode prog_2_method_22_code 84 = .ok (.ifCond .eq 7, 3) := by decide +kernel
theorem d_Fo_finiteSum_87 : decode prog_2_method_22_code 87 = .ok (.iconst 1, 1) := by decide +kernel
theorem d_Fo_finiteSum_88 : decode prog_2_method_22_code 88 = .ok (.goto 4, 3) := by decide +kernel
theorem d_Fo_finiteSum_91 : decode prog_2_method_22_code 91 = .ok (.iconst 0, 1) := by decide +kernel
theorem d_Fo_finiteSum_92 : decode prog_2_method_22_code 92 = .ok (.istore 10, 2) := by decide +kernel
theorem d_Fo_finiteSum_94 : decode prog_2_method_22_code 94 = .ok (.aload_n 0, 1) := by decide +kernel
theorem d_Fo_finiteSum_95 : decode prog_2_method_22_code 95 = .ok (.iload 10, 2) := by decide +kernel
theorem d_Fo_finiteSum_97 : decode prog_2_method_22_code 97 = .ok (.lload 6, 2) := by decide +kernel
theorem d_Fo_finiteSum_99 : decode prog_2_method_22_code 99 = .ok (.lload 8, 2) := by decide +kernel
theorem d_Fo_finiteSum_101 : decode prog_2_method_22_code 101 = .ok (.lsub, 1) := by decide +kernel
theorem d_Fo_finiteSum_102 : decode prog_2_method_22_code 102 = .ok (.iload 5, 2) := by decide +kernel
theorem d_Fo_finiteSum_104 : decode prog_2_method_22_code 104 = .ok (.bipush 9, 2) := by decide +kernel
theorem d_Fo_finiteSum_106 : decode prog_2_method_22_code 106 = .ok (.isub, 1) := by decide +kernel
theorem d_Fo_finiteSum_107 : decode prog_2_method_22_code 107 = .ok (.invokevirtual 105, 3) := by decide +kernel
theorem d_Fo_finiteSum_110 : decode prog_2_method_22_code 110 = .ok (.lreturn, 1) := by decide +kernel
set_option maxHeartbeats 1200000 in
set_option maxRecDepth 100000 in
theorem c_Fo_finiteSum (l : Launch) (ad : Nat → Nat) (i : Nat) (a : Int64) (b : Int64) (h_i : i < 2) : Met l y_Fo_finiteSum w_Fo_finiteSum ({ frames := 3, cells := 0, slots := 0, locals := 72 } : Room) (va_Pc [.ref (ad i), .long a, .long b] (nb_K ad)) (vp_Sl (fun r => r = mf_Fo_finiteSum i a b)) 0 0 (fun _ => False) := by
  refine Met.ofW (cc := prog_2_method_22_code) (maxL := 11) (ret := some .long) (by decide) rfl ?_
  intro p e s m args below meth c s₁ B hml hv
  obtain ⟨rfl, hC⟩ := hv
  have hx := B.exec
  have hb := B.bytes
  have hr := B.returns
  have hts := atoms_spec (ws := w_Fo_finiteSum) B.pre
  have hown : s.vm.findClass "NumberBench$Form" = some m.cls := findClass_of_methodNamed B.named
  have hlocks := B.notSynchronized
  have hC : nb_C ad (fun _ => False) s s.heap := hC
  have hS : va_S (fun _ => False) s.heap s.heap [] := va_S.rf
  have hl := lv_entry ([.ref (ad i), .long a, .long b]) (n := 11) (Nat.le_of_ble_eq_true rfl)
  rw [lg_entry_eq]
  generalize (lg_sl ([.ref (ad i), .long a, .long b]) ++ List.replicate (11 - (lg_sl ([.ref (ad i), .long a, .long b])).length) Slot.unset).toArray = ls at hl ⊢
  have hl : lv_has ls 11 [(0, .ref (ad i)), (1, .long a), (3, .long b)] := hl
  refine lv_aload_n hx hb d_Fo_finiteSum_0 rfl (lv_at hl 0 rfl) ?_
  refine lv_lload_n hx hb d_Fo_finiteSum_1 rfl (lv_at hl 1 rfl) ?_
  refine nb_callVi (As := [.long a]) (rest := []) hx hb hml hown hts (c_Fo_scale l ad i a h_i) nb_t65 nb_t67 nb_s3 h_i nb_t4 nb_t68 hd_Fo_scale rfl ⟨Nat.le_of_ble_eq_true rfl, Nat.le_of_ble_eq_true rfl⟩ ⟨rfl, rfl⟩ hC hS hl.1 rfl (Nat.le_of_ble_eq_true rfl) ⟨Nat.le_of_ble_eq_true rfl, Nat.le_of_ble_eq_true rfl⟩ d_Fo_finiteSum_2 ?_
  refine lv_istore hx hb d_Fo_finiteSum_5 hl (by decide) rfl (fun ls hl => ?_)
  have hl : lv_has ls 11 [(5, .int (mf_Fo_scale i a)), (0, .ref (ad i)), (1, .long a), (3, .long b)] := hl
  refine lv_aload_n hx hb d_Fo_finiteSum_7 rfl (lv_at hl 1 rfl) ?_
  refine lv_lload_n hx hb d_Fo_finiteSum_8 rfl (lv_at hl 2 rfl) ?_
  refine nb_callVl (As := [.long a]) (rest := []) hx hb hml hown hts (c_Fo_significand l ad i a h_i) nb_t72 nb_t74 nb_s4 h_i nb_t4 nb_t75 hd_Fo_significand rfl ⟨Nat.le_of_ble_eq_true rfl, Nat.le_of_ble_eq_true rfl⟩ ⟨rfl, rfl⟩ hC hS hl.1 rfl (Nat.le_of_ble_eq_true rfl) ⟨Nat.le_of_ble_eq_true rfl, Nat.le_of_ble_eq_true rfl⟩ d_Fo_finiteSum_9 ?_
  refine lv_bipush (v := 9) hx hb d_Fo_finiteSum_12 (by decide) ?_
  refine lv_lshl hx hb d_Fo_finiteSum_14 rfl ?_
  refine lv_topl (fun v1 ev1 => ?_)
  refine lv_lstore hx hb d_Fo_finiteSum_15 hl (by decide) rfl (fun ls hl => ?_)
  have hl : lv_has ls 11 [(6, .long v1), (5, .int (mf_Fo_scale i a)), (0, .ref (ad i)), (1, .long a), (3, .long b)] := hl
  refine lv_aload_n hx hb d_Fo_finiteSum_17 rfl (lv_at hl 2 rfl) ?_
  refine lv_lload_n hx hb d_Fo_finiteSum_18 rfl (lv_at hl 4 rfl) ?_
  refine nb_callVl (As := [.long b]) (rest := []) hx hb hml hown hts (c_Fo_significand l ad i b h_i) nb_t72 nb_t74 nb_s4 h_i nb_t4 nb_t75 hd_Fo_significand rfl ⟨Nat.le_of_ble_eq_true rfl, Nat.le_of_ble_eq_true rfl⟩ ⟨rfl, rfl⟩ hC hS hl.1 rfl (Nat.le_of_ble_eq_true rfl) ⟨Nat.le_of_ble_eq_true rfl, Nat.le_of_ble_eq_true rfl⟩ d_Fo_finiteSum_19 ?_
  refine lv_bipush (v := 9) hx hb d_Fo_finiteSum_22 (by decide) ?_
  refine lv_lshl hx hb d_Fo_finiteSum_24 rfl ?_
  refine lv_iload hx hb d_Fo_finiteSum_25 (lv_at hl 1 rfl) ?_
  refine lv_aload_n hx hb d_Fo_finiteSum_27 rfl (lv_at hl 2 rfl) ?_
  refine lv_lload_n hx hb d_Fo_finiteSum_28 rfl (lv_at hl 4 rfl) ?_
  refine nb_callVi (As := [.long b]) (rest := [.int (mf_Fo_scale i a), .long ((mf_Fo_significand i b) <<< ((9 : Int32).toInt64 &&& 63))]) hx hb hml hown hts (c_Fo_scale l ad i b h_i) nb_t65 nb_t67 nb_s3 h_i nb_t4 nb_t68 hd_Fo_scale rfl ⟨Nat.le_of_ble_eq_true rfl, Nat.le_of_ble_eq_true rfl⟩ ⟨rfl, rfl⟩ hC hS hl.1 rfl (Nat.le_of_ble_eq_true rfl) ⟨Nat.le_of_ble_eq_true rfl, Nat.le_of_ble_eq_true rfl⟩ d_Fo_finiteSum_29 ?_
  refine lv_isub hx hb d_Fo_finiteSum_32 ?_
  refine nb_callSl (As := [.long ((mf_Fo_significand i b) <<< ((9 : Int32).toInt64 &&& 63)), .int ((mf_Fo_scale i a) - (mf_Fo_scale i b))]) (rest := []) hx hb hml hown hts (c_Fo_shiftedOut l ad ((mf_Fo_significand i b) <<< ((9 : Int32).toInt64 &&& 63)) ((mf_Fo_scale i a) - (mf_Fo_scale i b))) nb_t76 nb_t77 nb_t4 nb_t78 hd_Fo_shiftedOut rfl ⟨Nat.le_of_ble_eq_true rfl, Nat.le_of_ble_eq_true rfl⟩ ⟨rfl, rfl⟩ hC hS hl.1 rfl (Nat.le_of_ble_eq_true rfl) ⟨Nat.le_of_ble_eq_true rfl, Nat.le_of_ble_eq_true rfl⟩ d_Fo_finiteSum_33 ?_
  refine lv_topl (fun v2 ev2 => ?_)
  refine lv_lstore hx hb d_Fo_finiteSum_36 hl (by decide) rfl (fun ls hl => ?_)
  have hl : lv_has ls 11 [(8, .long v2), (6, .long v1), (5, .int (mf_Fo_scale i a)), (0, .ref (ad i)), (1, .long a), (3, .long b)] := hl
  refine lv_aload_n hx hb d_Fo_finiteSum_38 rfl (lv_at hl 3 rfl) ?_
  refine lv_lload_n hx hb d_Fo_finiteSum_39 rfl (lv_at hl 4 rfl) ?_
  refine nb_callVi (As := [.long a]) (rest := []) hx hb hml hown hts (c_Fo_isNegative l ad i a h_i) nb_t79 nb_t81 nb_s5 h_i nb_t4 nb_t82 hd_Fo_isNegative rfl ⟨Nat.le_of_ble_eq_true rfl, Nat.le_of_ble_eq_true rfl⟩ ⟨rfl, rfl⟩ hC hS hl.1 rfl (Nat.le_of_ble_eq_true rfl) ⟨Nat.le_of_ble_eq_true rfl, Nat.le_of_ble_eq_true rfl⟩ d_Fo_finiteSum_40 ?_
  refine lv_aload_n hx hb d_Fo_finiteSum_43 rfl (lv_at hl 3 rfl) ?_
  refine lv_lload_n hx hb d_Fo_finiteSum_44 rfl (lv_at hl 5 rfl) ?_
  refine nb_callVi (As := [.long b]) (rest := [.int (mf_Fo_isNegative i a)]) hx hb hml hown hts (c_Fo_isNegative l ad i b h_i) nb_t79 nb_t81 nb_s5 h_i nb_t4 nb_t82 hd_Fo_isNegative rfl ⟨Nat.le_of_ble_eq_true rfl, Nat.le_of_ble_eq_true rfl⟩ ⟨rfl, rfl⟩ hC hS hl.1 rfl (Nat.le_of_ble_eq_true rfl) ⟨Nat.le_of_ble_eq_true rfl, Nat.le_of_ble_eq_true rfl⟩ d_Fo_finiteSum_45 ?_
  refine lv_icmp_ne (tgt := 71) hx hb d_Fo_finiteSum_48 (by decide) (fun h3 => ?_) (fun h3 => ?_)
  · refine lv_aload_n hx hb d_Fo_finiteSum_71 rfl (lv_at hl 3 rfl) ?_
    refine lv_lload_n hx hb d_Fo_finiteSum_72 rfl (lv_at hl 4 rfl) ?_
    refine nb_callVi (As := [.long a]) (rest := []) hx hb hml hown hts (c_Fo_isNegative l ad i a h_i) nb_t79 nb_t81 nb_s5 h_i nb_t4 nb_t82 hd_Fo_isNegative rfl ⟨Nat.le_of_ble_eq_true rfl, Nat.le_of_ble_eq_true rfl⟩ ⟨rfl, rfl⟩ hC hS hl.1 rfl (Nat.le_of_ble_eq_true rfl) ⟨Nat.le_of_ble_eq_true rfl, Nat.le_of_ble_eq_true rfl⟩ d_Fo_finiteSum_73 ?_
    refine lv_if_eq (tgt := 91) hx hb d_Fo_finiteSum_76 (by decide) (fun h4 => ?_) (fun h4 => ?_)
    · refine lv_iconst (v := 0) hx hb d_Fo_finiteSum_91 (by decide) ?_
      refine lv_istore hx hb d_Fo_finiteSum_92 hl (by decide) rfl (fun ls hl => ?_)
      have hl : lv_has ls 11 [(10, .int (0 : Int32)), (8, .long v2), (6, .long v1), (5, .int (mf_Fo_scale i a)), (0, .ref (ad i)), (1, .long a), (3, .long b)] := hl
      refine lv_aload_n hx hb d_Fo_finiteSum_94 rfl (lv_at hl 4 rfl) ?_
      refine lv_iload hx hb d_Fo_finiteSum_95 (lv_at hl 0 rfl) ?_
      refine lv_lload hx hb d_Fo_finiteSum_97 (lv_at hl 2 rfl) ?_
      refine lv_lload hx hb d_Fo_finiteSum_99 (lv_at hl 1 rfl) ?_
      refine lv_lsub hx hb d_Fo_finiteSum_101 ?_
      refine lv_iload hx hb d_Fo_finiteSum_102 (lv_at hl 3 rfl) ?_
      refine lv_bipush (v := 9) hx hb d_Fo_finiteSum_104 (by decide) ?_
      refine lv_isub hx hb d_Fo_finiteSum_106 ?_
      refine nb_callVl (As := [.int (0 : Int32), .long (v1 - v2), .int ((mf_Fo_scale i a) - (9 : Int32))]) (rest := []) hx hb hml hown hts (c_Fo_rounded l ad i (0 : Int32) (v1 - v2) ((mf_Fo_scale i a) - (9 : Int32)) h_i) nb_t83 nb_t85 nb_s6 h_i nb_t4 nb_t86 hd_Fo_rounded rfl ⟨Nat.le_of_ble_eq_true rfl, Nat.le_of_ble_eq_true rfl⟩ ⟨rfl, rfl⟩ hC hS hl.1 rfl (Nat.le_of_ble_eq_true rfl) ⟨Nat.le_of_ble_eq_true rfl, Nat.le_of_ble_eq_true rfl⟩ d_Fo_finiteSum_107 ?_
      exact W.lret hx hb hr (fun t ht hW => ⟨_, rfl, (by subst ev2; subst ev1; rw [mf_Fo_finiteSum, if_neg h3, if_pos h4]), ht⟩) t_nil d_Fo_finiteSum_110
    · refine lv_lload hx hb d_Fo_finiteSum_79 (lv_at hl 1 rfl) ?_
      refine lv_lload hx hb d_Fo_finiteSum_81 (lv_at hl 0 rfl) ?_
      refine nb_lc_eq (tgt := 91) hx hb d_Fo_finiteSum_83 d_Fo_finiteSum_84 (by decide) (fun h5 => ?_) (fun h5 => ?_)
      · refine lv_iconst (v := 0) hx hb d_Fo_finiteSum_91 (by decide) ?_
        refine lv_istore hx hb d_Fo_finiteSum_92 hl (by decide) rfl (fun ls hl => ?_)
        have hl : lv_has ls 11 [(10, .int (0 : Int32)), (8, .long v2), (6, .long v1), (5, .int (mf_Fo_scale i a)), (0, .ref (ad i)), (1, .long a), (3, .long b)] := hl
        refine lv_aload_n hx hb d_Fo_finiteSum_94 rfl (lv_at hl 4 rfl) ?_
        refine lv_iload hx hb d_Fo_finiteSum_95 (lv_at hl 0 rfl) ?_
        refine lv_lload hx hb d_Fo_finiteSum_97 (lv_at hl 2 rfl) ?_
        refine lv_lload hx hb d_Fo_finiteSum_99 (lv_at hl 1 rfl) ?_
        refine lv_lsub hx hb d_Fo_finiteSum_101 ?_
        refine lv_iload hx hb d_Fo_finiteSum_102 (lv_at hl 3 rfl) ?_
        refine lv_bipush (v := 9) hx hb d_Fo_finiteSum_104 (by decide) ?_
        refine lv_isub hx hb d_Fo_finiteSum_106 ?_
        refine nb_callVl (As := [.int (0 : Int32), .long (v1 - v2), .int ((mf_Fo_scale i a) - (9 : Int32))]) (rest := []) hx hb hml hown hts (c_Fo_rounded l ad i (0 : Int32) (v1 - v2) ((mf_Fo_scale i a) - (9 : Int32)) h_i) nb_t83 nb_t85 nb_s6 h_i nb_t4 nb_t86 hd_Fo_rounded rfl ⟨Nat.le_of_ble_eq_true rfl, Nat.le_of_ble_eq_true rfl⟩ ⟨rfl, rfl⟩ hC hS hl.1 rfl (Nat.le_of_ble_eq_true rfl) ⟨Nat.le_of_ble_eq_true rfl, Nat.le_of_ble_eq_true rfl⟩ d_Fo_finiteSum_107 ?_
        exact W.lret hx hb hr (fun t ht hW => ⟨_, rfl, (by subst ev2; subst ev1; rw [mf_Fo_finiteSum, if_neg h3, if_neg h4, if_pos h5]), ht⟩) t_nil d_Fo_finiteSum_110
      · refine lv_iconst (v := 1) hx hb d_Fo_finiteSum_87 (by decide) ?_
        refine lv_goto (tgt := 92) hx hb d_Fo_finiteSum_88 (by decide) ?_
        refine lv_istore hx hb d_Fo_finiteSum_92 hl (by decide) rfl (fun ls hl => ?_)
        have hl : lv_has ls 11 [(10, .int (1 : Int32)), (8, .long v2), (6, .long v1), (5, .int (mf_Fo_scale i a)), (0, .ref (ad i)), (1, .long a), (3, .long b)] := hl
        refine lv_aload_n hx hb d_Fo_finiteSum_94 rfl (lv_at hl 4 rfl) ?_
        refine lv_iload hx hb d_Fo_finiteSum_95 (lv_at hl 0 rfl) ?_
        refine lv_lload hx hb d_Fo_finiteSum_97 (lv_at hl 2 rfl) ?_
        refine lv_lload hx hb d_Fo_finiteSum_99 (lv_at hl 1 rfl) ?_
        refine lv_lsub hx hb d_Fo_finiteSum_101 ?_
        refine lv_iload hx hb d_Fo_finiteSum_102 (lv_at hl 3 rfl) ?_
        refine lv_bipush (v := 9) hx hb d_Fo_finiteSum_104 (by decide) ?_
        refine lv_isub hx hb d_Fo_finiteSum_106 ?_
        refine nb_callVl (As := [.int (1 : Int32), .long (v1 - v2), .int ((mf_Fo_scale i a) - (9 : Int32))]) (rest := []) hx hb hml hown hts (c_Fo_rounded l ad i (1 : Int32) (v1 - v2) ((mf_Fo_scale i a) - (9 : Int32)) h_i) nb_t83 nb_t85 nb_s6 h_i nb_t4 nb_t86 hd_Fo_rounded rfl ⟨Nat.le_of_ble_eq_true rfl, Nat.le_of_ble_eq_true rfl⟩ ⟨rfl, rfl⟩ hC hS hl.1 rfl (Nat.le_of_ble_eq_true rfl) ⟨Nat.le_of_ble_eq_true rfl, Nat.le_of_ble_eq_true rfl⟩ d_Fo_finiteSum_107 ?_
        exact W.lret hx hb hr (fun t ht hW => ⟨_, rfl, (by subst ev2; subst ev1; rw [mf_Fo_finiteSum, if_neg h3, if_neg h4, if_neg h5]), ht⟩) t_nil d_Fo_finiteSum_110
  · refine lv_aload_n hx hb d_Fo_finiteSum_51 rfl (lv_at hl 3 rfl) ?_
    refine lv_aload_n hx hb d_Fo_finiteSum_52 rfl (lv_at hl 3 rfl) ?_
    refine lv_lload_n hx hb d_Fo_finiteSum_53 rfl (lv_at hl 4 rfl) ?_
    refine nb_callVi (As := [.long a]) (rest := [.ref (ad i)]) hx hb hml hown hts (c_Fo_isNegative l ad i a h_i) nb_t79 nb_t81 nb_s5 h_i nb_t4 nb_t82 hd_Fo_isNegative rfl ⟨Nat.le_of_ble_eq_true rfl, Nat.le_of_ble_eq_true rfl⟩ ⟨rfl, rfl⟩ hC hS hl.1 rfl (Nat.le_of_ble_eq_true rfl) ⟨Nat.le_of_ble_eq_true rfl, Nat.le_of_ble_eq_true rfl⟩ d_Fo_finiteSum_54 ?_
    refine lv_lload hx hb d_Fo_finiteSum_57 (lv_at hl 1 rfl) ?_
    refine lv_lload hx hb d_Fo_finiteSum_59 (lv_at hl 0 rfl) ?_
    refine lv_ladd hx hb d_Fo_finiteSum_61 ?_
    refine lv_iload hx hb d_Fo_finiteSum_62 (lv_at hl 2 rfl) ?_
    refine lv_bipush (v := 9) hx hb d_Fo_finiteSum_64 (by decide) ?_
    refine lv_isub hx hb d_Fo_finiteSum_66 ?_
    refine nb_callVl (As := [.int (mf_Fo_isNegative i a), .long (v1 + v2), .int ((mf_Fo_scale i a) - (9 : Int32))]) (rest := []) hx hb hml hown hts (c_Fo_rounded l ad i (mf_Fo_isNegative i a) (v1 + v2) ((mf_Fo_scale i a) - (9 : Int32)) h_i) nb_t83 nb_t85 nb_s6 h_i nb_t4 nb_t86 hd_Fo_rounded rfl ⟨Nat.le_of_ble_eq_true rfl, Nat.le_of_ble_eq_true rfl⟩ ⟨rfl, rfl⟩ hC hS hl.1 rfl (Nat.le_of_ble_eq_true rfl) ⟨Nat.le_of_ble_eq_true rfl, Nat.le_of_ble_eq_true rfl⟩ d_Fo_finiteSum_67 ?_
    exact W.lret hx hb hr (fun t ht hW => ⟨_, rfl, (by subst ev2; subst ev1; rw [mf_Fo_finiteSum, if_pos h3]), ht⟩) t_nil d_Fo_finiteSum_70
def y_Fo_upperProduct : MethodName := ⟨"NumberBench$Form", "upperProduct", "(JJ)J"⟩
abbrev w_Fo_upperProduct : List Cond := Cond.code y_Fo_upperProduct prog_2_method_27_code 20 (Option.some FieldType.long) :: nb_tb
theorem hd_Fo_upperProduct : y_Fo_upperProduct.cls ≠ "java/lang/invoke/MethodHandle" ∧ y_Fo_upperProduct.cls ≠ "java/lang/invoke/VarHandle" ∧ (parseMethodDescriptor y_Fo_upperProduct.desc).map (fun d => d.parameters.length) = some 2 := by decide +kernel
theorem d_Fo_upperProduct_0 : decode prog_2_method_27_code 0 = .ok (.lload_n 0, 1) := by decide +kernel
theorem d_Fo_upperProduct_1 : decode prog_2_method_27_code 1 = .ok (.bipush 27, 2) := by decide +kernel
theorem d_Fo_upperProduct_3 : decode prog_2_method_27_code 3 = .ok (.lshr, 1) := by decide +kernel
theorem d_Fo_upperProduct_4 : decode prog_2_method_27_code 4 = .ok (.lstore 4, 2) := by decide +kernel
theorem d_Fo_upperProduct_6 : decode prog_2_method_27_code 6 = .ok (.lload_n 0, 1) := by decide +kernel
theorem d_Fo_upperProduct_7 : decode prog_2_method_27_code 7 = .ok (.ldc2_w 143, 3) := by decide +kernel
theorem d_Fo_upperProduct_10 : decode prog_2_method_27_code 10 = .ok (.land, 1) := by decide +kernel
theorem d_Fo_upperProduct_11 : decode prog_2_method_27_code 11 = .ok (.lstore 6, 2) := by decide +kernel
theorem d_Fo_upperProduct_13 : decode prog_2_method_27_code 13 = .ok (.lload_n 2, 1) := by decide +kernel
theorem d_Fo_upperProduct_14 : decode prog_2_method_27_code 14 = .ok (.bipush 27, 2) := by decide +kernel
theorem d_Fo_upperProduct_16 : decode prog_2_method_27_code 16 = .ok (.lshr, 1) := by decide +kernel
theorem d_Fo_upperProduct_17 : decode prog_2_method_27_code 17 = .ok (.lstore 8, 2) := by decide +kernel
theorem d_Fo_upperProduct_19 : decode prog_2_method_27_code 19 = .ok (.lload_n 2, 1) := by decide +kernel
theorem d_Fo_upperProduct_20 : decode prog_2_method_27_code 20 = .ok (.ldc2_w 143, 3) := by decide +kernel
theorem d_Fo_upperProduct_23 : decode prog_2_method_27_code 23 = .ok (.land, 1) := by decide +kernel
theorem d_Fo_upperProduct_24 : decode prog_2_method_27_code 24 = .ok (.lstore 10, 2) := by decide +kernel
theorem d_Fo_upperProduct_26 : decode prog_2_method_27_code 26 = .ok (.lload 6, 2) := by decide +kernel
theorem d_Fo_upperProduct_28 : decode prog_2_method_27_code 28 = .ok (.lload 10, 2) := by decide +kernel
theorem d_Fo_upperProduct_30 : decode prog_2_method_27_code 30 = .ok (.lmul, 1) := by decide +kernel
theorem d_Fo_upperProduct_31 : decode prog_2_method_27_code 31 = .ok (.lstore 12, 2) := by decide +kernel
theorem d_Fo_upperProduct_33 : decode prog_2_method_27_code 33 = .ok (.lload 4, 2) := by decide +kernel
theorem d_Fo_upperProduct_35 : decode prog_2_method_27_code 35 = .ok (.lload 10, 2) := by decide +kernel
theorem d_Fo_upperProduct_37 : decode prog_2_method_27_code 37 = .ok (.lmul, 1) := by decide +kernel
theorem d_Fo_upperProduct_38 : decode prog_2_method_27_code 38 = .ok (.lload 6, 2) := by decide +kernel
theorem d_Fo_upperProduct_40 : decode prog_2_method_27_code 40 = .ok (.lload 8, 2) := by decide +kernel
theorem d_Fo_upperProduct_42 : decode prog_2_method_27_code 42 = .ok (.lmul, 1) := by decide +kernel
theorem d_Fo_upperProduct_43 : decode prog_2_method_27_code 43 = .ok (.ladd, 1) := by decide +kernel
theorem d_Fo_upperProduct_44 : decode prog_2_method_27_code 44 = .ok (.lload 12, 2) := by decide +kernel
theorem d_Fo_upperProduct_46 : decode prog_2_method_27_code 46 = .ok (.bipush 27, 2) := by decide +kernel
theorem d_Fo_upperProduct_48 : decode prog_2_method_27_code 48 = .ok (.lshr, 1) := by decide +kernel
theorem d_Fo_upperProduct_49 : decode prog_2_method_27_code 49 = .ok (.ladd, 1) := by decide +kernel
theorem d_Fo_upperProduct_50 : decode prog_2_method_27_code 50 = .ok (.lstore 14, 2) := by decide +kernel
theorem d_Fo_upperProduct_52 : decode prog_2_method_27_code 52 = .ok (.lload 4, 2) := by decide +kernel
theorem d_Fo_upperProduct_54 : decode prog_2_method_27_code 54 = .ok (.lload 8, 2) := by decide +kernel
theorem d_Fo_upperProduct_56 : decode prog_2_method_27_code 56 = .ok (.lmul, 1) := by decide +kernel
theorem d_Fo_upperProduct_57 : decode prog_2_method_27_code 57 = .ok (.lload 14, 2) := by decide +kernel
theorem d_Fo_upperProduct_59 : decode prog_2_method_27_code 59 = .ok (.bipush 27, 2) := by decide +kernel
theorem d_Fo_upperProduct_61 : decode prog_2_method_27_code 61 = .ok (.lshr, 1) := by decide +kernel
theorem d_Fo_upperProduct_62 : decode prog_2_method_27_code 62 = .ok (.ladd, 1) := by decide +kernel
theorem d_Fo_upperProduct_63 : decode prog_2_method_27_code 63 = .ok (.lstore 16, 2) := by decide +kernel
theorem d_Fo_upperProduct_65 : decode prog_2_method_27_code 65 = .ok (.lload 14, 2) := by decide +kernel
theorem d_Fo_upperProduct_67 : decode prog_2_method_27_code 67 = .ok (.ldc2_w 143, 3) := by decide +kernel
theorem d_Fo_upperProduct_70 : decode prog_2_method_27_code 70 = .ok (.land, 1) := by decide +kernel
theorem d_Fo_upperProduct_71 : decode prog_2_method_27_code 71 = .ok (.bipush 27, 2) := by decide +kernel
theorem d_Fo_upperProduct_73 : decode prog_2_method_27_code 73 = .ok (.lshl, 1) := by decide +kernel
theorem d_Fo_upperProduct_74 : decode prog_2_method_27_code 74 = .ok (.lload 12, 2) := by decide +kernel
theorem d_Fo_upperProduct_76 : decode prog_2_method_27_code 76 = .ok (.ldc2_w 143, 3) := by decide +kernel
theorem d_Fo_upperProduct_79 : decode prog_2_method_27_code 79 = .ok (.land, 1) := by decide +kernel
theorem d_Fo_upperProduct_80 : decode prog_2_method_27_code 80 = .ok (.lor, 1) := by decide +kernel
theorem d_Fo_upperProduct_81 : decode prog_2_method_27_code 81 = .ok (.lstore 18, 2) := by decide +kernel
theorem d_Fo_upperProduct_83 : decode prog_2_method_27_code 83 = .ok (.lload 16, 2) := by decide +kernel
theorem d_Fo_upperProduct_85 : decode prog_2_method_27_code 85 = .ok (.bipush 10, 2) := by decide +kernel
theorem d_Fo_upperProduct_87 : decode prog_2_method_27_code 87 = .ok (.lshl, 1) := by decide +kernel
theorem d_Fo_upperProduct_88 : decode prog_2_method_27_code 88 = .ok (.lload 18, 2) := by decide +kernel
theorem d_Fo_upperProduct_90 : decode prog_2_method_27_code 90 = .ok (.bipush 44, 2) := by decide +kernel
theorem d_Fo_upperProduct_92 : decode prog_2_method_27_code 92 = .ok (.invokestatic 122, 3) := by decide +kernel
theorem d_Fo_upperProduct_95 : decode prog_2_method_27_code 95 = .ok (.lor, 1) := by decide +kernel
theorem d_Fo_upperProduct_96 : decode prog_2_method_27_code 96 = .ok (.lreturn, 1) := by decide +kernel
set_option maxHeartbeats 1200000 in
set_option maxRecDepth 100000 in
theorem c_Fo_upperProduct (l : Launch) (ad : Nat → Nat) (a : Int64) (b : Int64)  : Met l y_Fo_upperProduct w_Fo_upperProduct ({ frames := 1, cells := 0, slots := 0, locals := 24 } : Room) (va_Pc [.long a, .long b] (nb_K ad)) (vp_Sl (fun r => r = mf_Fo_upperProduct a b)) 0 0 (fun _ => False) := by
  refine Met.ofW (cc := prog_2_method_27_code) (maxL := 20) (ret := some .long) (by decide) rfl ?_
  intro p e s m args below meth c s₁ B hml hv
  obtain ⟨rfl, hC⟩ := hv
  have hx := B.exec
  have hb := B.bytes
  have hr := B.returns
  have hts := atoms_spec (ws := w_Fo_upperProduct) B.pre
  have hown : s.vm.findClass "NumberBench$Form" = some m.cls := findClass_of_methodNamed B.named
  have hlocks := B.notSynchronized
  have hC : nb_C ad (fun _ => False) s s.heap := hC
  have hS : va_S (fun _ => False) s.heap s.heap [] := va_S.rf
  have hl := lv_entry ([.long a, .long b]) (n := 20) (Nat.le_of_ble_eq_true rfl)
  rw [lg_entry_eq]
  generalize (lg_sl ([.long a, .long b]) ++ List.replicate (20 - (lg_sl ([.long a, .long b])).length) Slot.unset).toArray = ls at hl ⊢
  have hl : lv_has ls 20 [(0, .long a), (2, .long b)] := hl
  refine lv_lload_n hx hb d_Fo_upperProduct_0 rfl (lv_at hl 0 rfl) ?_
  refine lv_bipush (v := 27) hx hb d_Fo_upperProduct_1 (by decide) ?_
  refine lv_lshr hx hb d_Fo_upperProduct_3 rfl ?_
  refine lv_lstore hx hb d_Fo_upperProduct_4 hl (by decide) rfl (fun ls hl => ?_)
  have hl : lv_has ls 20 [(4, .long (a >>> ((27 : Int32).toInt64 &&& 63))), (0, .long a), (2, .long b)] := hl
  refine lv_lload_n hx hb d_Fo_upperProduct_6 rfl (lv_at hl 1 rfl) ?_
  refine lv_ldc2 (v := (134217727 : Int64)) hx hb hown (hts (.constantLong "NumberBench$Form" 143 (134217727 : Int64)) (nb_c nb_t129)) d_Fo_upperProduct_7 ?_
  refine lv_land hx hb d_Fo_upperProduct_10 ?_
  refine lv_lstore hx hb d_Fo_upperProduct_11 hl (by decide) rfl (fun ls hl => ?_)
  have hl : lv_has ls 20 [(6, .long (a &&& (134217727 : Int64))), (4, .long (a >>> ((27 : Int32).toInt64 &&& 63))), (0, .long a), (2, .long b)] := hl
  refine lv_lload_n hx hb d_Fo_upperProduct_13 rfl (lv_at hl 3 rfl) ?_
  refine lv_bipush (v := 27) hx hb d_Fo_upperProduct_14 (by decide) ?_
  refine lv_lshr hx hb d_Fo_upperProduct_16 rfl ?_
  refine lv_lstore hx hb d_Fo_upperProduct_17 hl (by decide) rfl (fun ls hl => ?_)
  have hl : lv_has ls 20 [(8, .long (b >>> ((27 : Int32).toInt64 &&& 63))), (6, .long (a &&& (134217727 : Int64))), (4, .long (a >>> ((27 : Int32).toInt64 &&& 63))), (0, .long a), (2, .long b)] := hl
  refine lv_lload_n hx hb d_Fo_upperProduct_19 rfl (lv_at hl 4 rfl) ?_
  refine lv_ldc2 (v := (134217727 : Int64)) hx hb hown (hts (.constantLong "NumberBench$Form" 143 (134217727 : Int64)) (nb_c nb_t129)) d_Fo_upperProduct_20 ?_
  refine lv_land hx hb d_Fo_upperProduct_23 ?_
  refine lv_lstore hx hb d_Fo_upperProduct_24 hl (by decide) rfl (fun ls hl => ?_)
  have hl : lv_has ls 20 [(10, .long (b &&& (134217727 : Int64))), (8, .long (b >>> ((27 : Int32).toInt64 &&& 63))), (6, .long (a &&& (134217727 : Int64))), (4, .long (a >>> ((27 : Int32).toInt64 &&& 63))), (0, .long a), (2, .long b)] := hl
  refine lv_lload hx hb d_Fo_upperProduct_26 (lv_at hl 2 rfl) ?_
  refine lv_lload hx hb d_Fo_upperProduct_28 (lv_at hl 0 rfl) ?_
  refine lv_lmul hx hb d_Fo_upperProduct_30 ?_
  refine lv_topl (fun v1 ev1 => ?_)
  refine lv_lstore hx hb d_Fo_upperProduct_31 hl (by decide) rfl (fun ls hl => ?_)
  have hl : lv_has ls 20 [(12, .long v1), (10, .long (b &&& (134217727 : Int64))), (8, .long (b >>> ((27 : Int32).toInt64 &&& 63))), (6, .long (a &&& (134217727 : Int64))), (4, .long (a >>> ((27 : Int32).toInt64 &&& 63))), (0, .long a), (2, .long b)] := hl
  refine lv_lload hx hb d_Fo_upperProduct_33 (lv_at hl 4 rfl) ?_
  refine lv_lload hx hb d_Fo_upperProduct_35 (lv_at hl 1 rfl) ?_
  refine lv_lmul hx hb d_Fo_upperProduct_37 ?_
  refine lv_lload hx hb d_Fo_upperProduct_38 (lv_at hl 3 rfl) ?_
  refine lv_lload hx hb d_Fo_upperProduct_40 (lv_at hl 2 rfl) ?_
  refine lv_lmul hx hb d_Fo_upperProduct_42 ?_
  refine lv_ladd hx hb d_Fo_upperProduct_43 ?_
  refine lv_lload hx hb d_Fo_upperProduct_44 (lv_at hl 0 rfl) ?_
  refine lv_bipush (v := 27) hx hb d_Fo_upperProduct_46 (by decide) ?_
  refine lv_lshr hx hb d_Fo_upperProduct_48 rfl ?_
  refine lv_ladd hx hb d_Fo_upperProduct_49 ?_
  refine lv_topl (fun v2 ev2 => ?_)
  refine lv_lstore hx hb d_Fo_upperProduct_50 hl (by decide) rfl (fun ls hl => ?_)
  have hl : lv_has ls 20 [(14, .long v2), (12, .long v1), (10, .long (b &&& (134217727 : Int64))), (8, .long (b >>> ((27 : Int32).toInt64 &&& 63))), (6, .long (a &&& (134217727 : Int64))), (4, .long (a >>> ((27 : Int32).toInt64 &&& 63))), (0, .long a), (2, .long b)] := hl
  refine lv_lload hx hb d_Fo_upperProduct_52 (lv_at hl 5 rfl) ?_
  refine lv_lload hx hb d_Fo_upperProduct_54 (lv_at hl 3 rfl) ?_
  refine lv_lmul hx hb d_Fo_upperProduct_56 ?_
  refine lv_lload hx hb d_Fo_upperProduct_57 (lv_at hl 0 rfl) ?_
  refine lv_bipush (v := 27) hx hb d_Fo_upperProduct_59 (by decide) ?_
  refine lv_lshr hx hb d_Fo_upperProduct_61 rfl ?_
  refine lv_ladd hx hb d_Fo_upperProduct_62 ?_
  refine lv_topl (fun v3 ev3 => ?_)
  refine lv_lstore hx hb d_Fo_upperProduct_63 hl (by decide) rfl (fun ls hl => ?_)
  have hl : lv_has ls 20 [(16, .long v3), (14, .long v2), (12, .long v1), (10, .long (b &&& (134217727 : Int64))), (8, .long (b >>> ((27 : Int32).toInt64 &&& 63))), (6, .long (a &&& (134217727 : Int64))), (4, .long (a >>> ((27 : Int32).toInt64 &&& 63))), (0, .long a), (2, .long b)] := hl
  refine lv_lload hx hb d_Fo_upperProduct_65 (lv_at hl 1 rfl) ?_
  refine lv_ldc2 (v := (134217727 : Int64)) hx hb hown (hts (.constantLong "NumberBench$Form" 143 (134217727 : Int64)) (nb_c nb_t129)) d_Fo_upperProduct_67 ?_
  refine lv_land hx hb d_Fo_upperProduct_70 ?_
  refine lv_bipush (v := 27) hx hb d_Fo_upperProduct_71 (by decide) ?_
  refine lv_lshl hx hb d_Fo_upperProduct_73 rfl ?_
  refine lv_lload hx hb d_Fo_upperProduct_74 (lv_at hl 2 rfl) ?_
  refine lv_ldc2 (v := (134217727 : Int64)) hx hb hown (hts (.constantLong "NumberBench$Form" 143 (134217727 : Int64)) (nb_c nb_t129)) d_Fo_upperProduct_76 ?_
  refine lv_land hx hb d_Fo_upperProduct_79 ?_
  refine lv_lor hx hb d_Fo_upperProduct_80 ?_
  refine lv_topl (fun v4 ev4 => ?_)
  refine lv_lstore hx hb d_Fo_upperProduct_81 hl (by decide) rfl (fun ls hl => ?_)
  have hl : lv_has ls 20 [(18, .long v4), (16, .long v3), (14, .long v2), (12, .long v1), (10, .long (b &&& (134217727 : Int64))), (8, .long (b >>> ((27 : Int32).toInt64 &&& 63))), (6, .long (a &&& (134217727 : Int64))), (4, .long (a >>> ((27 : Int32).toInt64 &&& 63))), (0, .long a), (2, .long b)] := hl
  refine lv_lload hx hb d_Fo_upperProduct_83 (lv_at hl 1 rfl) ?_
  refine lv_bipush (v := 10) hx hb d_Fo_upperProduct_85 (by decide) ?_
  refine lv_lshl hx hb d_Fo_upperProduct_87 rfl ?_
  refine lv_lload hx hb d_Fo_upperProduct_88 (lv_at hl 0 rfl) ?_
  refine lv_bipush (v := 44) hx hb d_Fo_upperProduct_90 (by decide) ?_
  refine nb_callSl (As := [.long v4, .int (44 : Int32)]) (rest := [.long (v3 <<< ((10 : Int32).toInt64 &&& 63))]) hx hb hml hown hts (c_Fo_shiftedOut l ad v4 (44 : Int32)) nb_t76 nb_t77 nb_t4 nb_t78 hd_Fo_shiftedOut rfl ⟨Nat.le_of_ble_eq_true rfl, Nat.le_of_ble_eq_true rfl⟩ ⟨rfl, rfl⟩ hC hS hl.1 rfl (Nat.le_of_ble_eq_true rfl) ⟨Nat.le_of_ble_eq_true rfl, Nat.le_of_ble_eq_true rfl⟩ d_Fo_upperProduct_92 ?_
  refine lv_lor hx hb d_Fo_upperProduct_95 ?_
  exact W.lret hx hb hr (fun t ht hW => ⟨_, rfl, (by subst ev4; subst ev3; subst ev2; subst ev1; rw [mf_Fo_upperProduct]), ht⟩) t_nil d_Fo_upperProduct_96
def y_Fo_longQuotient : MethodName := ⟨"NumberBench$Form", "longQuotient", "(JJ)J"⟩
abbrev w_Fo_longQuotient : List Cond := Cond.code y_Fo_longQuotient prog_2_method_28_code 9 (Option.some FieldType.long) :: nb_tb
theorem hd_Fo_longQuotient : y_Fo_longQuotient.cls ≠ "java/lang/invoke/MethodHandle" ∧ y_Fo_longQuotient.cls ≠ "java/lang/invoke/VarHandle" ∧ (parseMethodDescriptor y_Fo_longQuotient.desc).map (fun d => d.parameters.length) = some 2 := by decide +kernel
theorem d_Fo_longQuotient_0 : decode prog_2_method_28_code 0 = .ok (.lload_n 2, 1) := by decide +kernel
theorem d_Fo_longQuotient_1 : decode prog_2_method_28_code 1 = .ok (.lconst 0, 1) := by decide +kernel
theorem d_Fo_longQuotient_2 : decode prog_2_method_28_code 2 = .ok (.lcmp, 1) := by decide +kernel
theorem d_Fo_longQuotient_3 : decode prog_2_method_28_code 3 = .ok (.ifCond .ne 5, 3) := by decide +kernel
theorem d_Fo_longQuotient_6 : decode prog_2_method_28_code 6 = .ok (.lconst 0, 1) := by decide +kernel
theorem d_Fo_longQuotient_7 : decode prog_2_method_28_code 7 = .ok (.lreturn, 1) := by decide +kernel
theorem d_Fo_longQuotient_8 : decode prog_2_method_28_code 8 = .ok (.lload_n 0, 1) := by decide +kernel
theorem d_Fo_longQuotient_9 : decode prog_2_method_28_code 9 = .ok (.lload_n 2, 1) := by decide +kernel
theorem d_Fo_longQuotient_10 : decode prog_2_method_28_code 10 = .ok (.ldiv, 1) := by decide +kernel
theorem d_Fo_longQuotient_11 : decode prog_2_method_28_code 11 = .ok (.lstore 4, 2) := by decide +kernel
theorem d_Fo_longQuotient_13 : decode prog_2_method_28_code 13 = .ok (.lload_n 0, 1) := by decide +kernel
theorem d_Fo_longQuotient_14 : decode prog_2_method_28_code 14 = .ok (.lload_n 2, 1) := by decide +kernel
theorem d_Fo_longQuotient_15 : decode prog_2_method_28_code 15 = .ok (.lrem, 1) := by decide +kernel
theorem d_Fo_longQuotient_16 : decode prog_2_method_28_code 16 = .ok (.lstore 6, 2) := by decide +kernel
theorem d_Fo_longQuotient_18 : decode prog_2_method_28_code 18 = .ok (.iconst 0, 1) := by decide +kernel
theorem d_Fo_longQuotient_19 : decode prog_2_method_28_code 19 = .ok (.istore 8, 2) := by decide +kernel
theorem d_Fo_longQuotient_21 : decode prog_2_method_28_code 21 = .ok (.iload 8, 2) := by decide +kernel
theorem d_Fo_longQuotient_23 : decode prog_2_method_28_code 23 = .ok (.bipush 6, 2) := by decide +kernel
theorem d_Fo_longQuotient_25 : decode prog_2_method_28_code 25 = .ok (.if_icmp .ge 34, 3) := by decide +kernel
theorem d_Fo_longQuotient_28 : decode prog_2_method_28_code 28 = .ok (.lload 6, 2) := by decide +kernel
theorem d_Fo_longQuotient_30 : decode prog_2_method_28_code 30 = .ok (.bipush 10, 2) := by decide +kernel
theorem d_Fo_longQuotient_32 : decode prog_2_method_28_code 32 = .ok (.lshl, 1) := by decide +kernel
theorem d_Fo_longQuotient_33 : decode prog_2_method_28_code 33 = .ok (.lstore 6, 2) := by decide +kernel
theorem d_Fo_longQuotient_35 : decode prog_2_method_28_code 35 = .ok (.lload 4, 2) := by decide +kernel
theorem d_Fo_longQuotient_37 : decode prog_2_method_28_code 37 = .ok (.bipush 10, 2) := by decide +kernel
theorem d_Fo_longQuotient_39 : decode prog_2_method_28_code 39 = .ok (.lshl, 1) := by decide +kernel
theorem d_Fo_longQuotient_40 : decode prog_2_method_28_code 40 = .ok (.lload 6, 2) := by decide +kernel
theorem d_Fo_longQuotient_42 : decode prog_2_method_28_code 42 = .ok (.lload_n 2, 1) := by decide +kernel
theorem d_Fo_longQuotient_43 : decode prog_2_method_28_code 43 = .ok (.ldiv, 1) := by decide +kernel
theorem d_Fo_longQuotient_44 : decode prog_2_method_28_code 44 = .ok (.lor, 1) := by decide +kernel
theorem d_Fo_longQuotient_45 : decode prog_2_method_28_code 45 = .ok (.lstore 4, 2) := by decide +kernel
theorem d_Fo_longQuotient_47 : decode prog_2_method_28_code 47 = .ok (.lload 6, 2) := by decide +kernel
theorem d_Fo_longQuotient_49 : decode prog_2_method_28_code 49 = .ok (.lload_n 2, 1) := by decide +kernel
theorem d_Fo_longQuotient_50 : decode prog_2_method_28_code 50 = .ok (.lrem, 1) := by decide +kernel
theorem d_Fo_longQuotient_51 : decode prog_2_method_28_code 51 = .ok (.lstore 6, 2) := by decide +kernel
theorem d_Fo_longQuotient_53 : decode prog_2_method_28_code 53 = .ok (.iinc 8 1, 3) := by decide +kernel
theorem d_Fo_longQuotient_56 : decode prog_2_method_28_code 56 = .ok (.goto (-35), 3) := by decide +kernel
theorem d_Fo_longQuotient_59 : decode prog_2_method_28_code 59 = .ok (.lload 6, 2) := by decide +kernel
theorem d_Fo_longQuotient_61 : decode prog_2_method_28_code 61 = .ok (.lconst 0, 1) := by decide +kernel
theorem d_Fo_longQuotient_62 : decode prog_2_method_28_code 62 = .ok (.lcmp, 1) := by decide +kernel
theorem d_Fo_longQuotient_63 : decode prog_2_method_28_code 63 = .ok (.ifCond .ne 8, 3) := by decide +kernel
theorem d_Fo_longQuotient_66 : decode prog_2_method_28_code 66 = .ok (.lload 4, 2) := by decide +kernel
theorem d_Fo_longQuotient_68 : decode prog_2_method_28_code 68 = .ok (.goto 7, 3) := by decide +kernel
theorem d_Fo_longQuotient_71 : decode prog_2_method_28_code 71 = .ok (.lload 4, 2) := by decide +kernel
theorem d_Fo_longQuotient_73 : decode prog_2_method_28_code 73 = .ok (.lconst 1, 1) := by decide +kernel
theorem d_Fo_longQuotient_74 : decode prog_2_method_28_code 74 = .ok (.lor, 1) := by decide +kernel
theorem d_Fo_longQuotient_75 : decode prog_2_method_28_code 75 = .ok (.lreturn, 1) := by decide +kernel
set_option maxHeartbeats 1200000 in
set_option maxRecDepth 100000 in
theorem c_Fo_longQuotient (l : Launch) (ad : Nat → Nat) (a : Int64) (b : Int64)  : Met l y_Fo_longQuotient w_Fo_longQuotient ({ frames := 0, cells := 0, slots := 0, locals := 0 } : Room) (va_Pc [.long a, .long b] (nb_K ad)) (vp_Sl (fun r => r = mf_Fo_longQuotient a b)) 0 0 (fun _ => False) := by
  refine Met.ofW (cc := prog_2_method_28_code) (maxL := 9) (ret := some .long) (by decide) rfl ?_
  intro p e s m args below meth c s₁ B hml hv
  obtain ⟨rfl, hC⟩ := hv
  have hx := B.exec
  have hb := B.bytes
  have hr := B.returns
  have hts := atoms_spec (ws := w_Fo_longQuotient) B.pre
  have hown : s.vm.findClass "NumberBench$Form" = some m.cls := findClass_of_methodNamed B.named
  have hlocks := B.notSynchronized
  have hC : nb_C ad (fun _ => False) s s.heap := hC
  have hS : va_S (fun _ => False) s.heap s.heap [] := va_S.rf
  have hl := lv_entry ([.long a, .long b]) (n := 9) (Nat.le_of_ble_eq_true rfl)
  rw [lg_entry_eq]
  generalize (lg_sl ([.long a, .long b]) ++ List.replicate (9 - (lg_sl ([.long a, .long b])).length) Slot.unset).toArray = ls at hl ⊢
  have hl : lv_has ls 9 [(0, .long a), (2, .long b)] := hl
  have b21 : ∀ (fuel : Nat) (x4 : Int64) (x6 : Int64) (x8 : Int32) (ls : Array Slot), (((6 : Int32).toInt - x8.toInt).toNat) < fuel → lv_has ls 9 [(2, .long b), (4, .long x4), (6, .long x6), (8, .int x8)] → (¬ b = 0) → mf_Fo_longQuotient a b = mf_Fo_longQuotient_b21 a b fuel x4 x6 x8 → W p l e (headSpec w_Fo_longQuotient ({ frames := 0, cells := 0, slots := 0, locals := 0 } : Room)).room s m ([.long a, .long b] : List Value).toArray below meth c s.heap [] 0 0 (MQ below (vp_Sl (fun r => r = mf_Fo_longQuotient a b)) ([.long a, .long b] : List Value).toArray s 0 0 (fun _ => False)) (F0 m 21 ls []) := by
    intro fuel
    induction fuel with
    | zero => intro x4 x6 x8 ls hf; exact absurd hf (Nat.not_lt_zero _)
    | succ fuel ih =>
      intro x4 x6 x8 ls hf hl hd hE
      refine lv_iload hx hb d_Fo_longQuotient_21 (lv_at hl 3 rfl) ?_
      refine lv_bipush (v := 6) hx hb d_Fo_longQuotient_23 (by decide) ?_
      refine lv_icmp_ge (tgt := 59) hx hb d_Fo_longQuotient_25 (by decide) (fun h2 => ?_) (fun h2 => ?_)
      · refine lv_lload hx hb d_Fo_longQuotient_59 (lv_at hl 2 rfl) ?_
        refine lv_lconst (v := 0) hx hb d_Fo_longQuotient_61 (by decide) ?_
        refine nb_lc_ne (tgt := 71) hx hb d_Fo_longQuotient_62 d_Fo_longQuotient_63 (by decide) (fun h3 => ?_) (fun h3 => ?_)
        · refine lv_lload hx hb d_Fo_longQuotient_71 (lv_at hl 1 rfl) ?_
          refine lv_lconst (v := 1) hx hb d_Fo_longQuotient_73 (by decide) ?_
          refine lv_lor hx hb d_Fo_longQuotient_74 ?_
          exact W.lret hx hb hr (fun t ht hW => ⟨_, rfl, (by rw [hE, mf_Fo_longQuotient_b21, if_pos h2, if_neg h3]), ht⟩) t_nil d_Fo_longQuotient_75
        · refine lv_lload hx hb d_Fo_longQuotient_66 (lv_at hl 1 rfl) ?_
          refine lv_goto (tgt := 75) hx hb d_Fo_longQuotient_68 (by decide) ?_
          exact W.lret hx hb hr (fun t ht hW => ⟨_, rfl, (by rw [hE, mf_Fo_longQuotient_b21, if_pos h2, if_pos h3]), ht⟩) t_nil d_Fo_longQuotient_75
      · refine lv_lload hx hb d_Fo_longQuotient_28 (lv_at hl 2 rfl) ?_
        refine lv_bipush (v := 10) hx hb d_Fo_longQuotient_30 (by decide) ?_
        refine lv_lshl hx hb d_Fo_longQuotient_32 rfl ?_
        refine lv_lstore hx hb d_Fo_longQuotient_33 hl (by decide) rfl (fun ls hl => ?_)
        have hl : lv_has ls 9 [(6, .long (x6 <<< ((10 : Int32).toInt64 &&& 63))), (2, .long b), (4, .long x4), (8, .int x8)] := hl
        refine lv_lload hx hb d_Fo_longQuotient_35 (lv_at hl 2 rfl) ?_
        refine lv_bipush (v := 10) hx hb d_Fo_longQuotient_37 (by decide) ?_
        refine lv_lshl hx hb d_Fo_longQuotient_39 rfl ?_
        refine lv_lload hx hb d_Fo_longQuotient_40 (lv_at hl 0 rfl) ?_
        refine lv_lload_n hx hb d_Fo_longQuotient_42 rfl (lv_at hl 1 rfl) ?_
        refine lv_ldiv hx hb d_Fo_longQuotient_43 hd ?_
        refine lv_lor hx hb d_Fo_longQuotient_44 ?_
        refine lv_topl (fun v4 ev4 => ?_)
        refine lv_lstore hx hb d_Fo_longQuotient_45 hl (by decide) rfl (fun ls hl => ?_)
        have hl : lv_has ls 9 [(4, .long v4), (6, .long (x6 <<< ((10 : Int32).toInt64 &&& 63))), (2, .long b), (8, .int x8)] := hl
        refine lv_lload hx hb d_Fo_longQuotient_47 (lv_at hl 1 rfl) ?_
        refine lv_lload_n hx hb d_Fo_longQuotient_49 rfl (lv_at hl 2 rfl) ?_
        refine lv_lrem hx hb d_Fo_longQuotient_50 hd ?_
        refine lv_topl (fun v5 ev5 => ?_)
        refine lv_lstore hx hb d_Fo_longQuotient_51 hl (by decide) rfl (fun ls hl => ?_)
        have hl : lv_has ls 9 [(6, .long v5), (4, .long v4), (2, .long b), (8, .int x8)] := hl
        refine lv_iinc (k := 3) (v := x8 + (1 : Int32)) hx hb d_Fo_longQuotient_53 hl rfl rfl (by decide) rfl (fun ls hl => ?_)
        have hl : lv_has ls 9 [(8, .int (x8 + (1 : Int32))), (6, .long v5), (4, .long v4), (2, .long b)] := hl
        refine lv_goto (tgt := 21) hx hb d_Fo_longQuotient_56 (by decide) ?_
        exact ih v4 v5 (x8 + (1 : Int32)) ls (Nat.lt_of_lt_of_le (lp_up h2) (Nat.le_of_lt_succ hf)) (lv_sub hl [3, 2, 1, 0] rfl) hd (by subst ev5; subst ev4; rw [hE, mf_Fo_longQuotient_b21, if_neg h2])
  refine lv_lload_n hx hb d_Fo_longQuotient_0 rfl (lv_at hl 1 rfl) ?_
  refine lv_lconst (v := 0) hx hb d_Fo_longQuotient_1 (by decide) ?_
  refine nb_lc_ne (tgt := 8) hx hb d_Fo_longQuotient_2 d_Fo_longQuotient_3 (by decide) (fun h1 => ?_) (fun h1 => ?_)
  · refine lv_lload_n hx hb d_Fo_longQuotient_8 rfl (lv_at hl 0 rfl) ?_
    refine lv_lload_n hx hb d_Fo_longQuotient_9 rfl (lv_at hl 1 rfl) ?_
    refine lv_ldiv hx hb d_Fo_longQuotient_10 h1 ?_
    refine lv_lstore hx hb d_Fo_longQuotient_11 hl (by decide) rfl (fun ls hl => ?_)
    have hl : lv_has ls 9 [(4, .long (a / b)), (0, .long a), (2, .long b)] := hl
    refine lv_lload_n hx hb d_Fo_longQuotient_13 rfl (lv_at hl 1 rfl) ?_
    refine lv_lload_n hx hb d_Fo_longQuotient_14 rfl (lv_at hl 2 rfl) ?_
    refine lv_lrem hx hb d_Fo_longQuotient_15 h1 ?_
    refine lv_lstore hx hb d_Fo_longQuotient_16 hl (by decide) rfl (fun ls hl => ?_)
    have hl : lv_has ls 9 [(6, .long (a - a / b * b)), (4, .long (a / b)), (0, .long a), (2, .long b)] := hl
    refine lv_iconst (v := 0) hx hb d_Fo_longQuotient_18 (by decide) ?_
    refine lv_istore hx hb d_Fo_longQuotient_19 hl (by decide) rfl (fun ls hl => ?_)
    have hl : lv_has ls 9 [(8, .int (0 : Int32)), (6, .long (a - a / b * b)), (4, .long (a / b)), (0, .long a), (2, .long b)] := hl
    exact b21 ((((6 : Int32).toInt - (0 : Int32).toInt).toNat) + 1) (a / b) (a - a / b * b) (0 : Int32) ls (Nat.lt_succ_self _) (lv_sub hl [4, 2, 1, 0] rfl) h1 (by rw [mf_Fo_longQuotient, if_neg h1])
  · refine lv_lconst (v := 0) hx hb d_Fo_longQuotient_6 (by decide) ?_
    exact W.lret hx hb hr (fun t ht hW => ⟨_, rfl, (by rw [mf_Fo_longQuotient, if_pos h1]), ht⟩) t_nil d_Fo_longQuotient_7
def y_Fo_finiteProduct : MethodName := ⟨"NumberBench$Form", "finiteProduct", "(ZJJ)J"⟩
abbrev w_Fo_finiteProduct : List Cond := Cond.code y_Fo_finiteProduct prog_2_method_23_code 15 (Option.some FieldType.long) :: nb_tb
theorem hd_Fo_finiteProduct : y_Fo_finiteProduct.cls ≠ "java/lang/invoke/MethodHandle" ∧ y_Fo_finiteProduct.cls ≠ "java/lang/invoke/VarHandle" ∧ (parseMethodDescriptor y_Fo_finiteProduct.desc).map (fun d => d.parameters.length) = some 3 := by decide +kernel
theorem d_Fo_finiteProduct_0 : decode prog_2_method_23_code 0 = .ok (.aload_n 0, 1) := by decide +kernel
theorem d_Fo_finiteProduct_1 : decode prog_2_method_23_code 1 = .ok (.lload_n 2, 1) := by decide +kernel
theorem d_Fo_finiteProduct_2 : decode prog_2_method_23_code 2 = .ok (.invokevirtual 98, 3) := by decide +kernel
theorem d_Fo_finiteProduct_5 : decode prog_2_method_23_code 5 = .ok (.lstore 6, 2) := by decide +kernel
theorem d_Fo_finiteProduct_7 : decode prog_2_method_23_code 7 = .ok (.aload_n 0, 1) := by decide +kernel
theorem d_Fo_finiteProduct_8 : decode prog_2_method_23_code 8 = .ok (.lload 4, 2) := by decide +kernel
theorem d_Fo_finiteProduct_10 : decode prog_2_method_23_code 10 = .ok (.invokevirtual 98, 3) := by decide +kernel
theorem d_Fo_finiteProduct_13 : decode prog_2_method_23_code 13 = .ok (.lstore 8, 2) := by decide +kernel
theorem d_Fo_finiteProduct_15 : decode prog_2_method_23_code 15 = .ok (.lload 6, 2) := by decide +kernel
theorem d_Fo_finiteProduct_17 : decode prog_2_method_23_code 17 = .ok (.invokestatic 126, 3) := by decide +kernel
theorem d_Fo_finiteProduct_20 : decode prog_2_method_23_code 20 = .ok (.istore 10, 2) := by decide +kernel
theorem d_Fo_finiteProduct_22 : decode prog_2_method_23_code 22 = .ok (.lload 8, 2) := by decide +kernel
theorem d_Fo_finiteProduct_24 : decode prog_2_method_23_code 24 = .ok (.invokestatic 126, 3) := by decide +kernel
theorem d_Fo_finiteProduct_27 : decode prog_2_method_23_code 27 = .ok (.istore 11, 2) := by decide +kernel
theorem d_Fo_finiteProduct_29 : decode prog_2_method_23_code 29 = .ok (.lload 6, 2) := by decide +kernel
theorem d_Fo_finiteProduct_31 : decode prog_2_method_23_code 31 = .ok (.iload 10, 2) := by decide +kernel
theorem d_Fo_finiteProduct_33 : decode prog_2_method_23_code 33 = .ok (.lshl, 1) := by decide +kernel
theorem d_Fo_finiteProduct_34 : decode prog_2_method_23_code 34 = .ok (.lload 8, 2) := by decide +kernel
theorem d_Fo_finiteProduct_36 : decode prog_2_method_23_code 36 = .ok (.iload 11, 2) := by decide +kernel
theorem d_Fo_finiteProduct_38 : decode prog_2_method_23_code 38 = .ok (.lshl, 1) := by decide +kernel
theorem d_Fo_finiteProduct_39 : decode prog_2_method_23_code 39 = .ok (.invokestatic 129, 3) := by decide +kernel
theorem d_Fo_finiteProduct_42 : decode prog_2_method_23_code 42 = .ok (.lstore 12, 2) := by decide +kernel
theorem d_Fo_finiteProduct_44 : decode prog_2_method_23_code 44 = .ok (.aload_n 0, 1) := by decide +kernel
theorem d_Fo_finiteProduct_45 : decode prog_2_method_23_code 45 = .ok (.lload_n 2, 1) := by decide +kernel
theorem d_Fo_finiteProduct_46 : decode prog_2_method_23_code 46 = .ok (.invokevirtual 101, 3) := by decide +kernel
theorem d_Fo_finiteProduct_49 : decode prog_2_method_23_code 49 = .ok (.iload 10, 2) := by decide +kernel
theorem d_Fo_finiteProduct_51 : decode prog_2_method_23_code 51 = .ok (.isub, 1) := by decide +kernel
theorem d_Fo_finiteProduct_52 : decode prog_2_method_23_code 52 = .ok (.aload_n 0, 1) := by decide +kernel
theorem d_Fo_finiteProduct_53 : decode prog_2_method_23_code 53 = .ok (.lload 4, 2) := by decide +kernel
theorem d_Fo_finiteProduct_55 : decode prog_2_method_23_code 55 = .ok (.invokevirtual 101, 3) := by decide +kernel
theorem d_Fo_finiteProduct_58 : decode prog_2_method_23_code 58 = .ok (.iadd, 1) := by decide +kernel
theorem d_Fo_finiteProduct_59 : decode prog_2_method_23_code 59 = .ok (.iload 11, 2) := by decide +kernel
theorem d_Fo_finiteProduct_61 : decode prog_2_method_23_code 61 = .ok (.isub, 1) := by decide +kernel
theorem d_Fo_finiteProduct_62 : decode prog_2_method_23_code 62 = .ok (.bipush 54, 2) := by decide +kernel
theorem d_Fo_finiteProduct_64 : decode prog_2_method_23_code 64 = .ok (.iadd, 1) := by decide +kernel
theorem d_Fo_finiteProduct_65 : decode prog_2_method_23_code 65 = .ok (.bipush 10, 2) := by decide +kernel
theorem d_Fo_finiteProduct_67 : decode prog_2_method_23_code 67 = .ok (.isub, 1) := by decide +kernel
theorem d_Fo_finiteProduct_68 : decode prog_2_method_23_code 68 = .ok (.istore 14, 2) := by decide +kernel
theorem d_Fo_finiteProduct_70 : decode prog_2_method_23_code 70 = .ok (.aload_n 0, 1) := by decide +kernel
theorem d_Fo_finiteProduct_71 : decode prog_2_method_23_code 71 = .ok (.iload_n 1, 1) := by decide +kernel
theorem d_Fo_finiteProduct_72 : decode prog_2_method_23_code 72 = .ok (.lload 12, 2) := by decide +kernel
theorem d_Fo_finiteProduct_74 : decode prog_2_method_23_code 74 = .ok (.iload 14, 2) := by decide +kernel
theorem d_Fo_finiteProduct_76 : decode prog_2_method_23_code 76 = .ok (.invokevirtual 105, 3) := by decide +kernel
theorem d_Fo_finiteProduct_79 : decode prog_2_method_23_code 79 = .ok (.lreturn, 1) := by decide +kernel
set_option maxHeartbeats 1200000 in
set_option maxRecDepth 100000 in
theorem c_Fo_finiteProduct (l : Launch) (ad : Nat → Nat) (i : Nat) (g : Int32) (a : Int64) (b : Int64) (h_i : i < 2) : Met l y_Fo_finiteProduct w_Fo_finiteProduct ({ frames := 3, cells := 0, slots := 0, locals := 72 } : Room) (va_Pc [.ref (ad i), .int g, .long a, .long b] (nb_K ad)) (vp_Sl (fun r => r = mf_Fo_finiteProduct i g a b)) 0 0 (fun _ => False) := by
  refine Met.ofW (cc := prog_2_method_23_code) (maxL := 15) (ret := some .long) (by decide) rfl ?_
  intro p e s m args below meth c s₁ B hml hv
  obtain ⟨rfl, hC⟩ := hv
  have hx := B.exec
  have hb := B.bytes
  have hr := B.returns
  have hts := atoms_spec (ws := w_Fo_finiteProduct) B.pre
  have hown : s.vm.findClass "NumberBench$Form" = some m.cls := findClass_of_methodNamed B.named
  have hlocks := B.notSynchronized
  have hC : nb_C ad (fun _ => False) s s.heap := hC
  have hS : va_S (fun _ => False) s.heap s.heap [] := va_S.rf
  have hl := lv_entry ([.ref (ad i), .int g, .long a, .long b]) (n := 15) (Nat.le_of_ble_eq_true rfl)
  rw [lg_entry_eq]
  generalize (lg_sl ([.ref (ad i), .int g, .long a, .long b]) ++ List.replicate (15 - (lg_sl ([.ref (ad i), .int g, .long a, .long b])).length) Slot.unset).toArray = ls at hl ⊢
  have hl : lv_has ls 15 [(0, .ref (ad i)), (1, .int g), (2, .long a), (4, .long b)] := hl
  refine lv_aload_n hx hb d_Fo_finiteProduct_0 rfl (lv_at hl 0 rfl) ?_
  refine lv_lload_n hx hb d_Fo_finiteProduct_1 rfl (lv_at hl 2 rfl) ?_
  refine nb_callVl (As := [.long a]) (rest := []) hx hb hml hown hts (c_Fo_significand l ad i a h_i) nb_t72 nb_t74 nb_s4 h_i nb_t4 nb_t75 hd_Fo_significand rfl ⟨Nat.le_of_ble_eq_true rfl, Nat.le_of_ble_eq_true rfl⟩ ⟨rfl, rfl⟩ hC hS hl.1 rfl (Nat.le_of_ble_eq_true rfl) ⟨Nat.le_of_ble_eq_true rfl, Nat.le_of_ble_eq_true rfl⟩ d_Fo_finiteProduct_2 ?_
  refine lv_lstore hx hb d_Fo_finiteProduct_5 hl (by decide) rfl (fun ls hl => ?_)
  have hl : lv_has ls 15 [(6, .long (mf_Fo_significand i a)), (0, .ref (ad i)), (1, .int g), (2, .long a), (4, .long b)] := hl
  refine lv_aload_n hx hb d_Fo_finiteProduct_7 rfl (lv_at hl 1 rfl) ?_
  refine lv_lload hx hb d_Fo_finiteProduct_8 (lv_at hl 4 rfl) ?_
  refine nb_callVl (As := [.long b]) (rest := []) hx hb hml hown hts (c_Fo_significand l ad i b h_i) nb_t72 nb_t74 nb_s4 h_i nb_t4 nb_t75 hd_Fo_significand rfl ⟨Nat.le_of_ble_eq_true rfl, Nat.le_of_ble_eq_true rfl⟩ ⟨rfl, rfl⟩ hC hS hl.1 rfl (Nat.le_of_ble_eq_true rfl) ⟨Nat.le_of_ble_eq_true rfl, Nat.le_of_ble_eq_true rfl⟩ d_Fo_finiteProduct_10 ?_
  refine lv_lstore hx hb d_Fo_finiteProduct_13 hl (by decide) rfl (fun ls hl => ?_)
  have hl : lv_has ls 15 [(8, .long (mf_Fo_significand i b)), (6, .long (mf_Fo_significand i a)), (0, .ref (ad i)), (1, .int g), (2, .long a), (4, .long b)] := hl
  refine lv_lload hx hb d_Fo_finiteProduct_15 (lv_at hl 1 rfl) ?_
  refine nb_callSi (As := [.long (mf_Fo_significand i a)]) (rest := []) hx hb hml hown hts (c_Fo_shiftToLead l ad (mf_Fo_significand i a)) nb_t123 nb_t124 nb_t4 nb_t125 hd_Fo_shiftToLead rfl ⟨Nat.le_of_ble_eq_true rfl, Nat.le_of_ble_eq_true rfl⟩ ⟨rfl, rfl⟩ hC hS hl.1 rfl (Nat.le_of_ble_eq_true rfl) ⟨Nat.le_of_ble_eq_true rfl, Nat.le_of_ble_eq_true rfl⟩ d_Fo_finiteProduct_17 ?_
  refine lv_istore hx hb d_Fo_finiteProduct_20 hl (by decide) rfl (fun ls hl => ?_)
  have hl : lv_has ls 15 [(10, .int (mf_Fo_shiftToLead (mf_Fo_significand i a))), (8, .long (mf_Fo_significand i b)), (6, .long (mf_Fo_significand i a)), (0, .ref (ad i)), (1, .int g), (2, .long a), (4, .long b)] := hl
  refine lv_lload hx hb d_Fo_finiteProduct_22 (lv_at hl 1 rfl) ?_
  refine nb_callSi (As := [.long (mf_Fo_significand i b)]) (rest := []) hx hb hml hown hts (c_Fo_shiftToLead l ad (mf_Fo_significand i b)) nb_t123 nb_t124 nb_t4 nb_t125 hd_Fo_shiftToLead rfl ⟨Nat.le_of_ble_eq_true rfl, Nat.le_of_ble_eq_true rfl⟩ ⟨rfl, rfl⟩ hC hS hl.1 rfl (Nat.le_of_ble_eq_true rfl) ⟨Nat.le_of_ble_eq_true rfl, Nat.le_of_ble_eq_true rfl⟩ d_Fo_finiteProduct_24 ?_
  refine lv_istore hx hb d_Fo_finiteProduct_27 hl (by decide) rfl (fun ls hl => ?_)
  have hl : lv_has ls 15 [(11, .int (mf_Fo_shiftToLead (mf_Fo_significand i b))), (10, .int (mf_Fo_shiftToLead (mf_Fo_significand i a))), (8, .long (mf_Fo_significand i b)), (6, .long (mf_Fo_significand i a)), (0, .ref (ad i)), (1, .int g), (2, .long a), (4, .long b)] := hl
  refine lv_lload hx hb d_Fo_finiteProduct_29 (lv_at hl 3 rfl) ?_
  refine lv_iload hx hb d_Fo_finiteProduct_31 (lv_at hl 1 rfl) ?_
  refine lv_lshl hx hb d_Fo_finiteProduct_33 rfl ?_
  refine lv_lload hx hb d_Fo_finiteProduct_34 (lv_at hl 2 rfl) ?_
  refine lv_iload hx hb d_Fo_finiteProduct_36 (lv_at hl 0 rfl) ?_
  refine lv_lshl hx hb d_Fo_finiteProduct_38 rfl ?_
  refine nb_callSl (As := [.long ((mf_Fo_significand i a) <<< ((mf_Fo_shiftToLead (mf_Fo_significand i a)).toInt64 &&& 63)), .long ((mf_Fo_significand i b) <<< ((mf_Fo_shiftToLead (mf_Fo_significand i b)).toInt64 &&& 63))]) (rest := []) hx hb hml hown hts (c_Fo_upperProduct l ad ((mf_Fo_significand i a) <<< ((mf_Fo_shiftToLead (mf_Fo_significand i a)).toInt64 &&& 63)) ((mf_Fo_significand i b) <<< ((mf_Fo_shiftToLead (mf_Fo_significand i b)).toInt64 &&& 63))) nb_t126 nb_t127 nb_t4 nb_t128 hd_Fo_upperProduct rfl ⟨Nat.le_of_ble_eq_true rfl, Nat.le_of_ble_eq_true rfl⟩ ⟨rfl, rfl⟩ hC hS hl.1 rfl (Nat.le_of_ble_eq_true rfl) ⟨Nat.le_of_ble_eq_true rfl, Nat.le_of_ble_eq_true rfl⟩ d_Fo_finiteProduct_39 ?_
  refine lv_topl (fun v1 ev1 => ?_)
  refine lv_lstore hx hb d_Fo_finiteProduct_42 hl (by decide) rfl (fun ls hl => ?_)
  have hl : lv_has ls 15 [(12, .long v1), (11, .int (mf_Fo_shiftToLead (mf_Fo_significand i b))), (10, .int (mf_Fo_shiftToLead (mf_Fo_significand i a))), (8, .long (mf_Fo_significand i b)), (6, .long (mf_Fo_significand i a)), (0, .ref (ad i)), (1, .int g), (2, .long a), (4, .long b)] := hl
  refine lv_aload_n hx hb d_Fo_finiteProduct_44 rfl (lv_at hl 5 rfl) ?_
  refine lv_lload_n hx hb d_Fo_finiteProduct_45 rfl (lv_at hl 7 rfl) ?_
  refine nb_callVi (As := [.long a]) (rest := []) hx hb hml hown hts (c_Fo_scale l ad i a h_i) nb_t65 nb_t67 nb_s3 h_i nb_t4 nb_t68 hd_Fo_scale rfl ⟨Nat.le_of_ble_eq_true rfl, Nat.le_of_ble_eq_true rfl⟩ ⟨rfl, rfl⟩ hC hS hl.1 rfl (Nat.le_of_ble_eq_true rfl) ⟨Nat.le_of_ble_eq_true rfl, Nat.le_of_ble_eq_true rfl⟩ d_Fo_finiteProduct_46 ?_
  refine lv_iload hx hb d_Fo_finiteProduct_49 (lv_at hl 2 rfl) ?_
  refine lv_isub hx hb d_Fo_finiteProduct_51 ?_
  refine lv_aload_n hx hb d_Fo_finiteProduct_52 rfl (lv_at hl 5 rfl) ?_
  refine lv_lload hx hb d_Fo_finiteProduct_53 (lv_at hl 8 rfl) ?_
  refine nb_callVi (As := [.long b]) (rest := [.int ((mf_Fo_scale i a) - (mf_Fo_shiftToLead (mf_Fo_significand i a)))]) hx hb hml hown hts (c_Fo_scale l ad i b h_i) nb_t65 nb_t67 nb_s3 h_i nb_t4 nb_t68 hd_Fo_scale rfl ⟨Nat.le_of_ble_eq_true rfl, Nat.le_of_ble_eq_true rfl⟩ ⟨rfl, rfl⟩ hC hS hl.1 rfl (Nat.le_of_ble_eq_true rfl) ⟨Nat.le_of_ble_eq_true rfl, Nat.le_of_ble_eq_true rfl⟩ d_Fo_finiteProduct_55 ?_
  refine lv_iadd hx hb d_Fo_finiteProduct_58 ?_
  refine lv_iload hx hb d_Fo_finiteProduct_59 (lv_at hl 1 rfl) ?_
  refine lv_isub hx hb d_Fo_finiteProduct_61 ?_
  refine lv_bipush (v := 54) hx hb d_Fo_finiteProduct_62 (by decide) ?_
  refine lv_iadd hx hb d_Fo_finiteProduct_64 ?_
  refine lv_bipush (v := 10) hx hb d_Fo_finiteProduct_65 (by decide) ?_
  refine lv_isub hx hb d_Fo_finiteProduct_67 ?_
  refine lv_topi (fun v2 ev2 => ?_)
  refine lv_istore hx hb d_Fo_finiteProduct_68 hl (by decide) rfl (fun ls hl => ?_)
  have hl : lv_has ls 15 [(14, .int v2), (12, .long v1), (11, .int (mf_Fo_shiftToLead (mf_Fo_significand i b))), (10, .int (mf_Fo_shiftToLead (mf_Fo_significand i a))), (8, .long (mf_Fo_significand i b)), (6, .long (mf_Fo_significand i a)), (0, .ref (ad i)), (1, .int g), (2, .long a), (4, .long b)] := hl
  refine lv_aload_n hx hb d_Fo_finiteProduct_70 rfl (lv_at hl 6 rfl) ?_
  refine lv_iload_n hx hb d_Fo_finiteProduct_71 rfl (lv_at hl 7 rfl) ?_
  refine lv_lload hx hb d_Fo_finiteProduct_72 (lv_at hl 1 rfl) ?_
  refine lv_iload hx hb d_Fo_finiteProduct_74 (lv_at hl 0 rfl) ?_
  refine nb_callVl (As := [.int g, .long v1, .int v2]) (rest := []) hx hb hml hown hts (c_Fo_rounded l ad i g v1 v2 h_i) nb_t83 nb_t85 nb_s6 h_i nb_t4 nb_t86 hd_Fo_rounded rfl ⟨Nat.le_of_ble_eq_true rfl, Nat.le_of_ble_eq_true rfl⟩ ⟨rfl, rfl⟩ hC hS hl.1 rfl (Nat.le_of_ble_eq_true rfl) ⟨Nat.le_of_ble_eq_true rfl, Nat.le_of_ble_eq_true rfl⟩ d_Fo_finiteProduct_76 ?_
  exact W.lret hx hb hr (fun t ht hW => ⟨_, rfl, (by subst ev2; subst ev1; rw [mf_Fo_finiteProduct]), ht⟩) t_nil d_Fo_finiteProduct_79
def y_Fo_finiteQuotient : MethodName := ⟨"NumberBench$Form", "finiteQuotient", "(ZJJ)J"⟩
abbrev w_Fo_finiteQuotient : List Cond := Cond.code y_Fo_finiteQuotient prog_2_method_24_code 15 (Option.some FieldType.long) :: nb_tb
theorem hd_Fo_finiteQuotient : y_Fo_finiteQuotient.cls ≠ "java/lang/invoke/MethodHandle" ∧ y_Fo_finiteQuotient.cls ≠ "java/lang/invoke/VarHandle" ∧ (parseMethodDescriptor y_Fo_finiteQuotient.desc).map (fun d => d.parameters.length) = some 3 := by decide +kernel
theorem d_Fo_finiteQuotient_0 : decode prog_2_method_24_code 0 = .ok (.aload_n 0, 1) := by decide +kernel
theorem d_Fo_finiteQuotient_1 : decode prog_2_method_24_code 1 = .ok (.lload_n 2, 1) := by decide +kernel
theorem d_Fo_finiteQuotient_2 : decode prog_2_method_24_code 2 = .ok (.invokevirtual 98, 3) := by decide +kernel
theorem d_Fo_finiteQuotient_5 : decode prog_2_method_24_code 5 = .ok (.lstore 6, 2) := by decide +kernel
theorem d_Fo_finiteQuotient_7 : decode prog_2_method_24_code 7 = .ok (.aload_n 0, 1) := by decide +kernel
theorem d_Fo_finiteQuotient_8 : decode prog_2_method_24_code 8 = .ok (.lload 4, 2) := by decide +kernel
theorem d_Fo_finiteQuotient_10 : decode prog_2_method_24_code 10 = .ok (.invokevirtual 98, 3) := by decide +kernel
theorem d_Fo_finiteQuotient_13 : decode prog_2_method_24_code 13 = .ok (.lstore 8, 2) := by decide +kernel
theorem d_Fo_finiteQuotient_15 : decode prog_2_method_24_code 15 = .ok (.lload 6, 2) := by decide +kernel
theorem d_Fo_finiteQuotient_17 : decode prog_2_method_24_code 17 = .ok (.invokestatic 126, 3) := by decide +kernel
theorem d_Fo_finiteQuotient_20 : decode prog_2_method_24_code 20 = .ok (.istore 10, 2) := by decide +kernel
theorem d_Fo_finiteQuotient_22 : decode prog_2_method_24_code 22 = .ok (.lload 8, 2) := by decide +kernel
theorem d_Fo_finiteQuotient_24 : decode prog_2_method_24_code 24 = .ok (.invokestatic 126, 3) := by decide +kernel
theorem d_Fo_finiteQuotient_27 : decode prog_2_method_24_code 27 = .ok (.istore 11, 2) := by decide +kernel
theorem d_Fo_finiteQuotient_29 : decode prog_2_method_24_code 29 = .ok (.lload 6, 2) := by decide +kernel
theorem d_Fo_finiteQuotient_31 : decode prog_2_method_24_code 31 = .ok (.iload 10, 2) := by decide +kernel
theorem d_Fo_finiteQuotient_33 : decode prog_2_method_24_code 33 = .ok (.lshl, 1) := by decide +kernel
theorem d_Fo_finiteQuotient_34 : decode prog_2_method_24_code 34 = .ok (.lload 8, 2) := by decide +kernel
theorem d_Fo_finiteQuotient_36 : decode prog_2_method_24_code 36 = .ok (.iload 11, 2) := by decide +kernel
theorem d_Fo_finiteQuotient_38 : decode prog_2_method_24_code 38 = .ok (.lshl, 1) := by decide +kernel
theorem d_Fo_finiteQuotient_39 : decode prog_2_method_24_code 39 = .ok (.invokestatic 132, 3) := by decide +kernel
theorem d_Fo_finiteQuotient_42 : decode prog_2_method_24_code 42 = .ok (.lstore 12, 2) := by decide +kernel
theorem d_Fo_finiteQuotient_44 : decode prog_2_method_24_code 44 = .ok (.aload_n 0, 1) := by decide +kernel
theorem d_Fo_finiteQuotient_45 : decode prog_2_method_24_code 45 = .ok (.lload_n 2, 1) := by decide +kernel
theorem d_Fo_finiteQuotient_46 : decode prog_2_method_24_code 46 = .ok (.invokevirtual 101, 3) := by decide +kernel
theorem d_Fo_finiteQuotient_49 : decode prog_2_method_24_code 49 = .ok (.iload 10, 2) := by decide +kernel
theorem d_Fo_finiteQuotient_51 : decode prog_2_method_24_code 51 = .ok (.isub, 1) := by decide +kernel
theorem d_Fo_finiteQuotient_52 : decode prog_2_method_24_code 52 = .ok (.aload_n 0, 1) := by decide +kernel
theorem d_Fo_finiteQuotient_53 : decode prog_2_method_24_code 53 = .ok (.lload 4, 2) := by decide +kernel
theorem d_Fo_finiteQuotient_55 : decode prog_2_method_24_code 55 = .ok (.invokevirtual 101, 3) := by decide +kernel
theorem d_Fo_finiteQuotient_58 : decode prog_2_method_24_code 58 = .ok (.iload 11, 2) := by decide +kernel
theorem d_Fo_finiteQuotient_60 : decode prog_2_method_24_code 60 = .ok (.isub, 1) := by decide +kernel
theorem d_Fo_finiteQuotient_61 : decode prog_2_method_24_code 61 = .ok (.isub, 1) := by decide +kernel
theorem d_Fo_finiteQuotient_62 : decode prog_2_method_24_code 62 = .ok (.bipush 60, 2) := by decide +kernel
theorem d_Fo_finiteQuotient_64 : decode prog_2_method_24_code 64 = .ok (.isub, 1) := by decide +kernel
theorem d_Fo_finiteQuotient_65 : decode prog_2_method_24_code 65 = .ok (.istore 14, 2) := by decide +kernel
theorem d_Fo_finiteQuotient_67 : decode prog_2_method_24_code 67 = .ok (.aload_n 0, 1) := by decide +kernel
theorem d_Fo_finiteQuotient_68 : decode prog_2_method_24_code 68 = .ok (.iload_n 1, 1) := by decide +kernel
theorem d_Fo_finiteQuotient_69 : decode prog_2_method_24_code 69 = .ok (.lload 12, 2) := by decide +kernel
theorem d_Fo_finiteQuotient_71 : decode prog_2_method_24_code 71 = .ok (.iload 14, 2) := by decide +kernel
theorem d_Fo_finiteQuotient_73 : decode prog_2_method_24_code 73 = .ok (.invokevirtual 105, 3) := by decide +kernel
theorem d_Fo_finiteQuotient_76 : decode prog_2_method_24_code 76 = .ok (.lreturn, 1) := by decide +kernel
set_option maxHeartbeats 1200000 in
set_option maxRecDepth 100000 in
theorem c_Fo_finiteQuotient (l : Launch) (ad : Nat → Nat) (i : Nat) (g : Int32) (a : Int64) (b : Int64) (h_i : i < 2) : Met l y_Fo_finiteQuotient w_Fo_finiteQuotient ({ frames := 3, cells := 0, slots := 0, locals := 72 } : Room) (va_Pc [.ref (ad i), .int g, .long a, .long b] (nb_K ad)) (vp_Sl (fun r => r = mf_Fo_finiteQuotient i g a b)) 0 0 (fun _ => False) := by
  refine Met.ofW (cc := prog_2_method_24_code) (maxL := 15) (ret := some .long) (by decide) rfl ?_
  intro p e s m args below meth c s₁ B hml hv
  obtain ⟨rfl, hC⟩ := hv
  have hx := B.exec
  have hb := B.bytes
  have hr := B.returns
  have hts := atoms_spec (ws := w_Fo_finiteQuotient) B.pre
  have hown : s.vm.findClass "NumberBench$Form" = some m.cls := findClass_of_methodNamed B.named
  have hlocks := B.notSynchronized
  have hC : nb_C ad (fun _ => False) s s.heap := hC
  have hS : va_S (fun _ => False) s.heap s.heap [] := va_S.rf
  have hl := lv_entry ([.ref (ad i), .int g, .long a, .long b]) (n := 15) (Nat.le_of_ble_eq_true rfl)
  rw [lg_entry_eq]
  generalize (lg_sl ([.ref (ad i), .int g, .long a, .long b]) ++ List.replicate (15 - (lg_sl ([.ref (ad i), .int g, .long a, .long b])).length) Slot.unset).toArray = ls at hl ⊢
  have hl : lv_has ls 15 [(0, .ref (ad i)), (1, .int g), (2, .long a), (4, .long b)] := hl
  refine lv_aload_n hx hb d_Fo_finiteQuotient_0 rfl (lv_at hl 0 rfl) ?_
  refine lv_lload_n hx hb d_Fo_finiteQuotient_1 rfl (lv_at hl 2 rfl) ?_
  refine nb_callVl (As := [.long a]) (rest := []) hx hb hml hown hts (c_Fo_significand l ad i a h_i) nb_t72 nb_t74 nb_s4 h_i nb_t4 nb_t75 hd_Fo_significand rfl ⟨Nat.le_of_ble_eq_true rfl, Nat.le_of_ble_eq_true rfl⟩ ⟨rfl, rfl⟩ hC hS hl.1 rfl (Nat.le_of_ble_eq_true rfl) ⟨Nat.le_of_ble_eq_true rfl, Nat.le_of_ble_eq_true rfl⟩ d_Fo_finiteQuotient_2 ?_
  refine lv_lstore hx hb d_Fo_finiteQuotient_5 hl (by decide) rfl (fun ls hl => ?_)
  have hl : lv_has ls 15 [(6, .long (mf_Fo_significand i a)), (0, .ref (ad i)), (1, .int g), (2, .long a), (4, .long b)] := hl
  refine lv_aload_n hx hb d_Fo_finiteQuotient_7 rfl (lv_at hl 1 rfl) ?_
  refine lv_lload hx hb d_Fo_finiteQuotient_8 (lv_at hl 4 rfl) ?_
  refine nb_callVl (As := [.long b]) (rest := []) hx hb hml hown hts (c_Fo_significand l ad i b h_i) nb_t72 nb_t74 nb_s4 h_i nb_t4 nb_t75 hd_Fo_significand rfl ⟨Nat.le_of_ble_eq_true rfl, Nat.le_of_ble_eq_true rfl⟩ ⟨rfl, rfl⟩ hC hS hl.1 rfl (Nat.le_of_ble_eq_true rfl) ⟨Nat.le_of_ble_eq_true rfl, Nat.le_of_ble_eq_true rfl⟩ d_Fo_finiteQuotient_10 ?_
  refine lv_lstore hx hb d_Fo_finiteQuotient_13 hl (by decide) rfl (fun ls hl => ?_)
  have hl : lv_has ls 15 [(8, .long (mf_Fo_significand i b)), (6, .long (mf_Fo_significand i a)), (0, .ref (ad i)), (1, .int g), (2, .long a), (4, .long b)] := hl
  refine lv_lload hx hb d_Fo_finiteQuotient_15 (lv_at hl 1 rfl) ?_
  refine nb_callSi (As := [.long (mf_Fo_significand i a)]) (rest := []) hx hb hml hown hts (c_Fo_shiftToLead l ad (mf_Fo_significand i a)) nb_t123 nb_t124 nb_t4 nb_t125 hd_Fo_shiftToLead rfl ⟨Nat.le_of_ble_eq_true rfl, Nat.le_of_ble_eq_true rfl⟩ ⟨rfl, rfl⟩ hC hS hl.1 rfl (Nat.le_of_ble_eq_true rfl) ⟨Nat.le_of_ble_eq_true rfl, Nat.le_of_ble_eq_true rfl⟩ d_Fo_finiteQuotient_17 ?_
  refine lv_istore hx hb d_Fo_finiteQuotient_20 hl (by decide) rfl (fun ls hl => ?_)
  have hl : lv_has ls 15 [(10, .int (mf_Fo_shiftToLead (mf_Fo_significand i a))), (8, .long (mf_Fo_significand i b)), (6, .long (mf_Fo_significand i a)), (0, .ref (ad i)), (1, .int g), (2, .long a), (4, .long b)] := hl
  refine lv_lload hx hb d_Fo_finiteQuotient_22 (lv_at hl 1 rfl) ?_
  refine nb_callSi (As := [.long (mf_Fo_significand i b)]) (rest := []) hx hb hml hown hts (c_Fo_shiftToLead l ad (mf_Fo_significand i b)) nb_t123 nb_t124 nb_t4 nb_t125 hd_Fo_shiftToLead rfl ⟨Nat.le_of_ble_eq_true rfl, Nat.le_of_ble_eq_true rfl⟩ ⟨rfl, rfl⟩ hC hS hl.1 rfl (Nat.le_of_ble_eq_true rfl) ⟨Nat.le_of_ble_eq_true rfl, Nat.le_of_ble_eq_true rfl⟩ d_Fo_finiteQuotient_24 ?_
  refine lv_istore hx hb d_Fo_finiteQuotient_27 hl (by decide) rfl (fun ls hl => ?_)
  have hl : lv_has ls 15 [(11, .int (mf_Fo_shiftToLead (mf_Fo_significand i b))), (10, .int (mf_Fo_shiftToLead (mf_Fo_significand i a))), (8, .long (mf_Fo_significand i b)), (6, .long (mf_Fo_significand i a)), (0, .ref (ad i)), (1, .int g), (2, .long a), (4, .long b)] := hl
  refine lv_lload hx hb d_Fo_finiteQuotient_29 (lv_at hl 3 rfl) ?_
  refine lv_iload hx hb d_Fo_finiteQuotient_31 (lv_at hl 1 rfl) ?_
  refine lv_lshl hx hb d_Fo_finiteQuotient_33 rfl ?_
  refine lv_lload hx hb d_Fo_finiteQuotient_34 (lv_at hl 2 rfl) ?_
  refine lv_iload hx hb d_Fo_finiteQuotient_36 (lv_at hl 0 rfl) ?_
  refine lv_lshl hx hb d_Fo_finiteQuotient_38 rfl ?_
  refine nb_callSl (As := [.long ((mf_Fo_significand i a) <<< ((mf_Fo_shiftToLead (mf_Fo_significand i a)).toInt64 &&& 63)), .long ((mf_Fo_significand i b) <<< ((mf_Fo_shiftToLead (mf_Fo_significand i b)).toInt64 &&& 63))]) (rest := []) hx hb hml hown hts (c_Fo_longQuotient l ad ((mf_Fo_significand i a) <<< ((mf_Fo_shiftToLead (mf_Fo_significand i a)).toInt64 &&& 63)) ((mf_Fo_significand i b) <<< ((mf_Fo_shiftToLead (mf_Fo_significand i b)).toInt64 &&& 63))) nb_t138 nb_t139 nb_t4 nb_t140 hd_Fo_longQuotient rfl ⟨Nat.le_of_ble_eq_true rfl, Nat.le_of_ble_eq_true rfl⟩ ⟨rfl, rfl⟩ hC hS hl.1 rfl (Nat.le_of_ble_eq_true rfl) ⟨Nat.le_of_ble_eq_true rfl, Nat.le_of_ble_eq_true rfl⟩ d_Fo_finiteQuotient_39 ?_
  refine lv_topl (fun v1 ev1 => ?_)
  refine lv_lstore hx hb d_Fo_finiteQuotient_42 hl (by decide) rfl (fun ls hl => ?_)
  have hl : lv_has ls 15 [(12, .long v1), (11, .int (mf_Fo_shiftToLead (mf_Fo_significand i b))), (10, .int (mf_Fo_shiftToLead (mf_Fo_significand i a))), (8, .long (mf_Fo_significand i b)), (6, .long (mf_Fo_significand i a)), (0, .ref (ad i)), (1, .int g), (2, .long a), (4, .long b)] := hl
  refine lv_aload_n hx hb d_Fo_finiteQuotient_44 rfl (lv_at hl 5 rfl) ?_
  refine lv_lload_n hx hb d_Fo_finiteQuotient_45 rfl (lv_at hl 7 rfl) ?_
  refine nb_callVi (As := [.long a]) (rest := []) hx hb hml hown hts (c_Fo_scale l ad i a h_i) nb_t65 nb_t67 nb_s3 h_i nb_t4 nb_t68 hd_Fo_scale rfl ⟨Nat.le_of_ble_eq_true rfl, Nat.le_of_ble_eq_true rfl⟩ ⟨rfl, rfl⟩ hC hS hl.1 rfl (Nat.le_of_ble_eq_true rfl) ⟨Nat.le_of_ble_eq_true rfl, Nat.le_of_ble_eq_true rfl⟩ d_Fo_finiteQuotient_46 ?_
  refine lv_iload hx hb d_Fo_finiteQuotient_49 (lv_at hl 2 rfl) ?_
  refine lv_isub hx hb d_Fo_finiteQuotient_51 ?_
  refine lv_aload_n hx hb d_Fo_finiteQuotient_52 rfl (lv_at hl 5 rfl) ?_
  refine lv_lload hx hb d_Fo_finiteQuotient_53 (lv_at hl 8 rfl) ?_
  refine nb_callVi (As := [.long b]) (rest := [.int ((mf_Fo_scale i a) - (mf_Fo_shiftToLead (mf_Fo_significand i a)))]) hx hb hml hown hts (c_Fo_scale l ad i b h_i) nb_t65 nb_t67 nb_s3 h_i nb_t4 nb_t68 hd_Fo_scale rfl ⟨Nat.le_of_ble_eq_true rfl, Nat.le_of_ble_eq_true rfl⟩ ⟨rfl, rfl⟩ hC hS hl.1 rfl (Nat.le_of_ble_eq_true rfl) ⟨Nat.le_of_ble_eq_true rfl, Nat.le_of_ble_eq_true rfl⟩ d_Fo_finiteQuotient_55 ?_
  refine lv_iload hx hb d_Fo_finiteQuotient_58 (lv_at hl 1 rfl) ?_
  refine lv_isub hx hb d_Fo_finiteQuotient_60 ?_
  refine lv_isub hx hb d_Fo_finiteQuotient_61 ?_
  refine lv_bipush (v := 60) hx hb d_Fo_finiteQuotient_62 (by decide) ?_
  refine lv_isub hx hb d_Fo_finiteQuotient_64 ?_
  refine lv_topi (fun v2 ev2 => ?_)
  refine lv_istore hx hb d_Fo_finiteQuotient_65 hl (by decide) rfl (fun ls hl => ?_)
  have hl : lv_has ls 15 [(14, .int v2), (12, .long v1), (11, .int (mf_Fo_shiftToLead (mf_Fo_significand i b))), (10, .int (mf_Fo_shiftToLead (mf_Fo_significand i a))), (8, .long (mf_Fo_significand i b)), (6, .long (mf_Fo_significand i a)), (0, .ref (ad i)), (1, .int g), (2, .long a), (4, .long b)] := hl
  refine lv_aload_n hx hb d_Fo_finiteQuotient_67 rfl (lv_at hl 6 rfl) ?_
  refine lv_iload_n hx hb d_Fo_finiteQuotient_68 rfl (lv_at hl 7 rfl) ?_
  refine lv_lload hx hb d_Fo_finiteQuotient_69 (lv_at hl 1 rfl) ?_
  refine lv_iload hx hb d_Fo_finiteQuotient_71 (lv_at hl 0 rfl) ?_
  refine nb_callVl (As := [.int g, .long v1, .int v2]) (rest := []) hx hb hml hown hts (c_Fo_rounded l ad i g v1 v2 h_i) nb_t83 nb_t85 nb_s6 h_i nb_t4 nb_t86 hd_Fo_rounded rfl ⟨Nat.le_of_ble_eq_true rfl, Nat.le_of_ble_eq_true rfl⟩ ⟨rfl, rfl⟩ hC hS hl.1 rfl (Nat.le_of_ble_eq_true rfl) ⟨Nat.le_of_ble_eq_true rfl, Nat.le_of_ble_eq_true rfl⟩ d_Fo_finiteQuotient_73 ?_
  exact W.lret hx hb hr (fun t ht hW => ⟨_, rfl, (by subst ev2; subst ev1; rw [mf_Fo_finiteQuotient]), ht⟩) t_nil d_Fo_finiteQuotient_76
def y_Fo_finiteRemainder : MethodName := ⟨"NumberBench$Form", "finiteRemainder", "(JJ)J"⟩
abbrev w_Fo_finiteRemainder : List Cond := Cond.code y_Fo_finiteRemainder prog_2_method_25_code 10 (Option.some FieldType.long) :: nb_tb
theorem hd_Fo_finiteRemainder : y_Fo_finiteRemainder.cls ≠ "java/lang/invoke/MethodHandle" ∧ y_Fo_finiteRemainder.cls ≠ "java/lang/invoke/VarHandle" ∧ (parseMethodDescriptor y_Fo_finiteRemainder.desc).map (fun d => d.parameters.length) = some 2 := by decide +kernel
theorem d_Fo_finiteRemainder_0 : decode prog_2_method_25_code 0 = .ok (.aload_n 0, 1) := by decide +kernel
theorem d_Fo_finiteRemainder_1 : decode prog_2_method_25_code 1 = .ok (.lload_n 3, 1) := by decide +kernel
theorem d_Fo_finiteRemainder_2 : decode prog_2_method_25_code 2 = .ok (.invokevirtual 98, 3) := by decide +kernel
theorem d_Fo_finiteRemainder_5 : decode prog_2_method_25_code 5 = .ok (.lstore 5, 2) := by decide +kernel
theorem d_Fo_finiteRemainder_7 : decode prog_2_method_25_code 7 = .ok (.lload 5, 2) := by decide +kernel
theorem d_Fo_finiteRemainder_9 : decode prog_2_method_25_code 9 = .ok (.lconst 0, 1) := by decide +kernel
theorem d_Fo_finiteRemainder_10 : decode prog_2_method_25_code 10 = .ok (.lcmp, 1) := by decide +kernel
theorem d_Fo_finiteRemainder_11 : decode prog_2_method_25_code 11 = .ok (.ifCond .ne 8, 3) := by decide +kernel
theorem d_Fo_finiteRemainder_14 : decode prog_2_method_25_code 14 = .ok (.aload_n 0, 1) := by decide +kernel
theorem d_Fo_finiteRemainder_15 : decode prog_2_method_25_code 15 = .ok (.getfield 51, 3) := by decide +kernel
theorem d_Fo_finiteRemainder_18 : decode prog_2_method_25_code 18 = .ok (.lreturn, 1) := by decide +kernel
theorem d_Fo_finiteRemainder_19 : decode prog_2_method_25_code 19 = .ok (.aload_n 0, 1) := by decide +kernel
theorem d_Fo_finiteRemainder_20 : decode prog_2_method_25_code 20 = .ok (.lload_n 1, 1) := by decide +kernel
theorem d_Fo_finiteRemainder_21 : decode prog_2_method_25_code 21 = .ok (.invokevirtual 98, 3) := by decide +kernel
theorem d_Fo_finiteRemainder_24 : decode prog_2_method_25_code 24 = .ok (.lload 5, 2) := by decide +kernel
theorem d_Fo_finiteRemainder_26 : decode prog_2_method_25_code 26 = .ok (.lrem, 1) := by decide +kernel
theorem d_Fo_finiteRemainder_27 : decode prog_2_method_25_code 27 = .ok (.lstore 7, 2) := by decide +kernel
theorem d_Fo_finiteRemainder_29 : decode prog_2_method_25_code 29 = .ok (.aload_n 0, 1) := by decide +kernel
theorem d_Fo_finiteRemainder_30 : decode prog_2_method_25_code 30 = .ok (.lload_n 1, 1) := by decide +kernel
theorem d_Fo_finiteRemainder_31 : decode prog_2_method_25_code 31 = .ok (.invokevirtual 101, 3) := by decide +kernel
theorem d_Fo_finiteRemainder_34 : decode prog_2_method_25_code 34 = .ok (.aload_n 0, 1) := by decide +kernel
theorem d_Fo_finiteRemainder_35 : decode prog_2_method_25_code 35 = .ok (.lload_n 3, 1) := by decide +kernel
theorem d_Fo_finiteRemainder_36 : decode prog_2_method_25_code 36 = .ok (.invokevirtual 101, 3) := by decide +kernel
theorem d_Fo_finiteRemainder_39 : decode prog_2_method_25_code 39 = .ok (.isub, 1) := by decide +kernel
theorem d_Fo_finiteRemainder_40 : decode prog_2_method_25_code 40 = .ok (.istore 9, 2) := by decide +kernel
theorem d_Fo_finiteRemainder_42 : decode prog_2_method_25_code 42 = .ok (.iload 9, 2) := by decide +kernel
theorem d_Fo_finiteRemainder_44 : decode prog_2_method_25_code 44 = .ok (.ifCond .le 24, 3) := by decide +kernel
theorem d_Fo_finiteRemainder_47 : decode prog_2_method_25_code 47 = .ok (.lload 7, 2) := by decide +kernel
theorem d_Fo_finiteRemainder_49 : decode prog_2_method_25_code 49 = .ok (.iload 9, 2) := by decide +kernel
theorem d_Fo_finiteRemainder_51 : decode prog_2_method_25_code 51 = .ok (.bipush 10, 2) := by decide +kernel
theorem d_Fo_finiteRemainder_53 : decode prog_2_method_25_code 53 = .ok (.invokestatic 135, 3) := by decide +kernel
theorem d_Fo_finiteRemainder_56 : decode prog_2_method_25_code 56 = .ok (.lshl, 1) := by decide +kernel
theorem d_Fo_finiteRemainder_57 : decode prog_2_method_25_code 57 = .ok (.lload 5, 2) := by decide +kernel
theorem d_Fo_finiteRemainder_59 : decode prog_2_method_25_code 59 = .ok (.lrem, 1) := by decide +kernel
theorem d_Fo_finiteRemainder_60 : decode prog_2_method_25_code 60 = .ok (.lstore 7, 2) := by decide +kernel
theorem d_Fo_finiteRemainder_62 : decode prog_2_method_25_code 62 = .ok (.iinc 9 (-10), 3) := by decide +kernel
theorem d_Fo_finiteRemainder_65 : decode prog_2_method_25_code 65 = .ok (.goto (-23), 3) := by decide +kernel
theorem d_Fo_finiteRemainder_68 : decode prog_2_method_25_code 68 = .ok (.aload_n 0, 1) := by decide +kernel
theorem d_Fo_finiteRemainder_69 : decode prog_2_method_25_code 69 = .ok (.aload_n 0, 1) := by decide +kernel
theorem d_Fo_finiteRemainder_70 : decode prog_2_method_25_code 70 = .ok (.lload_n 1, 1) := by decide +kernel
theorem d_Fo_finiteRemainder_71 : decode prog_2_method_25_code 71 = .ok (.invokevirtual 78, 3) := by decide +kernel
theorem d_Fo_finiteRemainder_74 : decode prog_2_method_25_code 74 = .ok (.lload 7, 2) := by decide +kernel
theorem d_Fo_finiteRemainder_76 : decode prog_2_method_25_code 76 = .ok (.aload_n 0, 1) := by decide +kernel
theorem d_Fo_finiteRemainder_77 : decode prog_2_method_25_code 77 = .ok (.lload_n 3, 1) := by decide +kernel
theorem d_Fo_finiteRemainder_78 : decode prog_2_method_25_code 78 = .ok (.invokevirtual 101, 3) := by decide +kernel
theorem d_Fo_finiteRemainder_81 : decode prog_2_method_25_code 81 = .ok (.invokevirtual 105, 3) := by decide +kernel
theorem d_Fo_finiteRemainder_84 : decode prog_2_method_25_code 84 = .ok (.lreturn, 1) := by decide +kernel
set_option maxHeartbeats 1200000 in
set_option maxRecDepth 100000 in
theorem c_Fo_finiteRemainder (l : Launch) (ad : Nat → Nat) (i : Nat) (a : Int64) (b : Int64) (h_i : i < 2) : Met l y_Fo_finiteRemainder w_Fo_finiteRemainder ({ frames := 3, cells := 0, slots := 0, locals := 72 } : Room) (va_Pc [.ref (ad i), .long a, .long b] (nb_K ad)) (vp_Sl (fun r => r = mf_Fo_finiteRemainder i a b)) 0 0 (fun _ => False) := by
  refine Met.ofW (cc := prog_2_method_25_code) (maxL := 10) (ret := some .long) (by decide) rfl ?_
  intro p e s m args below meth c s₁ B hml hv
  obtain ⟨rfl, hC⟩ := hv
  have hx := B.exec
  have hb := B.bytes
  have hr := B.returns
  have hts := atoms_spec (ws := w_Fo_finiteRemainder) B.pre
  have hown : s.vm.findClass "NumberBench$Form" = some m.cls := findClass_of_methodNamed B.named
  have hlocks := B.notSynchronized
  have hC : nb_C ad (fun _ => False) s s.heap := hC
  have hS : va_S (fun _ => False) s.heap s.heap [] := va_S.rf
  have hl := lv_entry ([.ref (ad i), .long a, .long b]) (n := 10) (Nat.le_of_ble_eq_true rfl)
  rw [lg_entry_eq]
  generalize (lg_sl ([.ref (ad i), .long a, .long b]) ++ List.replicate (10 - (lg_sl ([.ref (ad i), .long a, .long b])).length) Slot.unset).toArray = ls at hl ⊢
  have hl : lv_has ls 10 [(0, .ref (ad i)), (1, .long a), (3, .long b)] := hl
  have b42 : ∀ (fuel : Nat) (x5 : Int64) (x7 : Int64) (x9 : Int32) (ls : Array Slot), (x9.toInt.toNat) < fuel → lv_has ls 10 [(0, .ref (ad i)), (1, .long a), (3, .long b), (5, .long x5), (7, .long x7), (9, .int x9)] → (¬ x5 = 0) → mf_Fo_finiteRemainder i a b = mf_Fo_finiteRemainder_b42 i a b fuel x5 x7 x9 → W p l e (headSpec w_Fo_finiteRemainder ({ frames := 3, cells := 0, slots := 0, locals := 72 } : Room)).room s m ([.ref (ad i), .long a, .long b] : List Value).toArray below meth c s.heap [] 0 0 (MQ below (vp_Sl (fun r => r = mf_Fo_finiteRemainder i a b)) ([.ref (ad i), .long a, .long b] : List Value).toArray s 0 0 (fun _ => False)) (F0 m 42 ls []) := by
    intro fuel
    induction fuel with
    | zero => intro x5 x7 x9 ls hf; exact absurd hf (Nat.not_lt_zero _)
    | succ fuel ih =>
      intro x5 x7 x9 ls hf hl hd hE
      refine lv_iload hx hb d_Fo_finiteRemainder_42 (lv_at hl 5 rfl) ?_
      refine lv_if_le (tgt := 68) hx hb d_Fo_finiteRemainder_44 (by decide) (fun h3 => ?_) (fun h3 => ?_)
      · refine lv_aload_n hx hb d_Fo_finiteRemainder_68 rfl (lv_at hl 0 rfl) ?_
        refine lv_aload_n hx hb d_Fo_finiteRemainder_69 rfl (lv_at hl 0 rfl) ?_
        refine lv_lload_n hx hb d_Fo_finiteRemainder_70 rfl (lv_at hl 1 rfl) ?_
        refine nb_callVi (As := [.long a]) (rest := [.ref (ad i)]) hx hb hml hown hts (c_Fo_isNegative l ad i a h_i) nb_t79 nb_t81 nb_s5 h_i nb_t4 nb_t82 hd_Fo_isNegative rfl ⟨Nat.le_of_ble_eq_true rfl, Nat.le_of_ble_eq_true rfl⟩ ⟨rfl, rfl⟩ hC hS hl.1 rfl (Nat.le_of_ble_eq_true rfl) ⟨Nat.le_of_ble_eq_true rfl, Nat.le_of_ble_eq_true rfl⟩ d_Fo_finiteRemainder_71 ?_
        refine lv_lload hx hb d_Fo_finiteRemainder_74 (lv_at hl 4 rfl) ?_
        refine lv_aload_n hx hb d_Fo_finiteRemainder_76 rfl (lv_at hl 0 rfl) ?_
        refine lv_lload_n hx hb d_Fo_finiteRemainder_77 rfl (lv_at hl 2 rfl) ?_
        refine nb_callVi (As := [.long b]) (rest := [.long x7, .int (mf_Fo_isNegative i a), .ref (ad i)]) hx hb hml hown hts (c_Fo_scale l ad i b h_i) nb_t65 nb_t67 nb_s3 h_i nb_t4 nb_t68 hd_Fo_scale rfl ⟨Nat.le_of_ble_eq_true rfl, Nat.le_of_ble_eq_true rfl⟩ ⟨rfl, rfl⟩ hC hS hl.1 rfl (Nat.le_of_ble_eq_true rfl) ⟨Nat.le_of_ble_eq_true rfl, Nat.le_of_ble_eq_true rfl⟩ d_Fo_finiteRemainder_78 ?_
        refine nb_callVl (As := [.int (mf_Fo_isNegative i a), .long x7, .int (mf_Fo_scale i b)]) (rest := []) hx hb hml hown hts (c_Fo_rounded l ad i (mf_Fo_isNegative i a) x7 (mf_Fo_scale i b) h_i) nb_t83 nb_t85 nb_s6 h_i nb_t4 nb_t86 hd_Fo_rounded rfl ⟨Nat.le_of_ble_eq_true rfl, Nat.le_of_ble_eq_true rfl⟩ ⟨rfl, rfl⟩ hC hS hl.1 rfl (Nat.le_of_ble_eq_true rfl) ⟨Nat.le_of_ble_eq_true rfl, Nat.le_of_ble_eq_true rfl⟩ d_Fo_finiteRemainder_81 ?_
        exact W.lret hx hb hr (fun t ht hW => ⟨_, rfl, (by rw [hE, mf_Fo_finiteRemainder_b42, if_pos h3]), ht⟩) t_nil d_Fo_finiteRemainder_84
      · refine lv_lload hx hb d_Fo_finiteRemainder_47 (lv_at hl 4 rfl) ?_
        refine lv_iload hx hb d_Fo_finiteRemainder_49 (lv_at hl 5 rfl) ?_
        refine lv_bipush (v := 10) hx hb d_Fo_finiteRemainder_51 (by decide) ?_
        refine va_mmin hx hb (by rw [hml]; exact hl.1.symm) hown (hts _ (nb_c nb_t149)) (hts _ (nb_c nb_t150)) (hts _ (nb_c nb_t5)) (hts _ (nb_c nb_code_va_mmin)) (Nat.le_of_ble_eq_true rfl) (Nat.le_of_ble_eq_true rfl) (Nat.le_of_ble_eq_true rfl) (Nat.le_of_ble_eq_true rfl) d_Fo_finiteRemainder_53 ?_
        refine lv_lshl hx hb d_Fo_finiteRemainder_56 rfl ?_
        refine lv_lload hx hb d_Fo_finiteRemainder_57 (lv_at hl 3 rfl) ?_
        refine lv_lrem hx hb d_Fo_finiteRemainder_59 hd ?_
        refine lv_topl (fun v4 ev4 => ?_)
        refine lv_lstore hx hb d_Fo_finiteRemainder_60 hl (by decide) rfl (fun ls hl => ?_)
        have hl : lv_has ls 10 [(7, .long v4), (0, .ref (ad i)), (1, .long a), (3, .long b), (5, .long x5), (9, .int x9)] := hl
        refine lv_iinc (k := 5) (v := x9 + (-10 : Int32)) hx hb d_Fo_finiteRemainder_62 hl rfl rfl (by decide) rfl (fun ls hl => ?_)
        have hl : lv_has ls 10 [(9, .int (x9 + (-10 : Int32))), (7, .long v4), (0, .ref (ad i)), (1, .long a), (3, .long b), (5, .long x5)] := hl
        refine lv_goto (tgt := 42) hx hb d_Fo_finiteRemainder_65 (by decide) ?_
        exact ih x5 v4 (x9 + (-10 : Int32)) ls (Nat.lt_of_lt_of_le (lp_dn10 h3) (Nat.le_of_lt_succ hf)) (lv_sub hl [2, 3, 4, 5, 1, 0] rfl) hd (by subst ev4; rw [hE, mf_Fo_finiteRemainder_b42, if_neg h3])
  refine lv_aload_n hx hb d_Fo_finiteRemainder_0 rfl (lv_at hl 0 rfl) ?_
  refine lv_lload_n hx hb d_Fo_finiteRemainder_1 rfl (lv_at hl 2 rfl) ?_
  refine nb_callVl (As := [.long b]) (rest := []) hx hb hml hown hts (c_Fo_significand l ad i b h_i) nb_t72 nb_t74 nb_s4 h_i nb_t4 nb_t75 hd_Fo_significand rfl ⟨Nat.le_of_ble_eq_true rfl, Nat.le_of_ble_eq_true rfl⟩ ⟨rfl, rfl⟩ hC hS hl.1 rfl (Nat.le_of_ble_eq_true rfl) ⟨Nat.le_of_ble_eq_true rfl, Nat.le_of_ble_eq_true rfl⟩ d_Fo_finiteRemainder_2 ?_
  refine lv_lstore hx hb d_Fo_finiteRemainder_5 hl (by decide) rfl (fun ls hl => ?_)
  have hl : lv_has ls 10 [(5, .long (mf_Fo_significand i b)), (0, .ref (ad i)), (1, .long a), (3, .long b)] := hl
  refine lv_lload hx hb d_Fo_finiteRemainder_7 (lv_at hl 0 rfl) ?_
  refine lv_lconst (v := 0) hx hb d_Fo_finiteRemainder_9 (by decide) ?_
  refine nb_lc_ne (tgt := 19) hx hb d_Fo_finiteRemainder_10 d_Fo_finiteRemainder_11 (by decide) (fun h1 => ?_) (fun h1 => ?_)
  · refine lv_aload_n hx hb d_Fo_finiteRemainder_19 rfl (lv_at hl 1 rfl) ?_
    refine lv_lload_n hx hb d_Fo_finiteRemainder_20 rfl (lv_at hl 2 rfl) ?_
    refine nb_callVl (As := [.long a]) (rest := []) hx hb hml hown hts (c_Fo_significand l ad i a h_i) nb_t72 nb_t74 nb_s4 h_i nb_t4 nb_t75 hd_Fo_significand rfl ⟨Nat.le_of_ble_eq_true rfl, Nat.le_of_ble_eq_true rfl⟩ ⟨rfl, rfl⟩ hC hS hl.1 rfl (Nat.le_of_ble_eq_true rfl) ⟨Nat.le_of_ble_eq_true rfl, Nat.le_of_ble_eq_true rfl⟩ d_Fo_finiteRemainder_21 ?_
    refine lv_lload hx hb d_Fo_finiteRemainder_24 (lv_at hl 0 rfl) ?_
    refine lv_lrem hx hb d_Fo_finiteRemainder_26 h1 ?_
    refine lv_topl (fun v2 ev2 => ?_)
    refine lv_lstore hx hb d_Fo_finiteRemainder_27 hl (by decide) rfl (fun ls hl => ?_)
    have hl : lv_has ls 10 [(7, .long v2), (5, .long (mf_Fo_significand i b)), (0, .ref (ad i)), (1, .long a), (3, .long b)] := hl
    refine lv_aload_n hx hb d_Fo_finiteRemainder_29 rfl (lv_at hl 2 rfl) ?_
    refine lv_lload_n hx hb d_Fo_finiteRemainder_30 rfl (lv_at hl 3 rfl) ?_
    refine nb_callVi (As := [.long a]) (rest := []) hx hb hml hown hts (c_Fo_scale l ad i a h_i) nb_t65 nb_t67 nb_s3 h_i nb_t4 nb_t68 hd_Fo_scale rfl ⟨Nat.le_of_ble_eq_true rfl, Nat.le_of_ble_eq_true rfl⟩ ⟨rfl, rfl⟩ hC hS hl.1 rfl (Nat.le_of_ble_eq_true rfl) ⟨Nat.le_of_ble_eq_true rfl, Nat.le_of_ble_eq_true rfl⟩ d_Fo_finiteRemainder_31 ?_
    refine lv_aload_n hx hb d_Fo_finiteRemainder_34 rfl (lv_at hl 2 rfl) ?_
    refine lv_lload_n hx hb d_Fo_finiteRemainder_35 rfl (lv_at hl 4 rfl) ?_
    refine nb_callVi (As := [.long b]) (rest := [.int (mf_Fo_scale i a)]) hx hb hml hown hts (c_Fo_scale l ad i b h_i) nb_t65 nb_t67 nb_s3 h_i nb_t4 nb_t68 hd_Fo_scale rfl ⟨Nat.le_of_ble_eq_true rfl, Nat.le_of_ble_eq_true rfl⟩ ⟨rfl, rfl⟩ hC hS hl.1 rfl (Nat.le_of_ble_eq_true rfl) ⟨Nat.le_of_ble_eq_true rfl, Nat.le_of_ble_eq_true rfl⟩ d_Fo_finiteRemainder_36 ?_
    refine lv_isub hx hb d_Fo_finiteRemainder_39 ?_
    refine lv_istore hx hb d_Fo_finiteRemainder_40 hl (by decide) rfl (fun ls hl => ?_)
    have hl : lv_has ls 10 [(9, .int ((mf_Fo_scale i a) - (mf_Fo_scale i b))), (7, .long v2), (5, .long (mf_Fo_significand i b)), (0, .ref (ad i)), (1, .long a), (3, .long b)] := hl
    exact b42 ((((mf_Fo_scale i a) - (mf_Fo_scale i b)).toInt.toNat) + 1) (mf_Fo_significand i b) v2 ((mf_Fo_scale i a) - (mf_Fo_scale i b)) ls (Nat.lt_succ_self _) (lv_sub hl [3, 4, 5, 2, 1, 0] rfl) h1 (by subst ev2; rw [mf_Fo_finiteRemainder, if_neg h1])
  · refine lv_aload_n hx hb d_Fo_finiteRemainder_14 rfl (lv_at hl 1 rfl) ?_
    refine vk_getf (v := .long (fo_nan i)) hx hb (nb_f_nan hC h_i) hS hown (hts _ (nb_c nb_t428)) (fun _ h => h) d_Fo_finiteRemainder_15 ?_
    exact W.lret hx hb hr (fun t ht hW => ⟨_, rfl, (by rw [mf_Fo_finiteRemainder, if_pos h1]), ht⟩) t_nil d_Fo_finiteRemainder_18
