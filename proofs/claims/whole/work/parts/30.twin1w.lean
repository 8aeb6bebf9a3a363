def y_Tw_wide : MethodName := ⟨"NumberBenchModel", "wide", "(I)I"⟩
abbrev w_Tw_wide : List Cond := Cond.code y_Tw_wide prog_4_method_1_code 1 (Option.some FieldType.int) :: nb_tb
theorem hd_Tw_wide : y_Tw_wide.cls ≠ "java/lang/invoke/MethodHandle" ∧ y_Tw_wide.cls ≠ "java/lang/invoke/VarHandle" ∧ (parseMethodDescriptor y_Tw_wide.desc).map (fun d => d.parameters.length) = some 1 := by decide +kernel
theorem d_Tw_wide_0 : decode prog_4_method_1_code 0 = .ok (.iload_n 0, 1) := by decide +kernel
theorem d_Tw_wide_1 : decode prog_4_method_1_code 1 = .ok (.ifCond .ne 8, 3) := by decide +kernel
theorem d_Tw_wide_4 : decode prog_4_method_1_code 4 = .ok (.bipush 64, 2) := by decide +kernel
theorem d_Tw_wide_6 : decode prog_4_method_1_code 6 = .ok (.goto 5, 3) := by decide +kernel
theorem d_Tw_wide_9 : decode prog_4_method_1_code 9 = .ok (.bipush 32, 2) := by decide +kernel
theorem d_Tw_wide_11 : decode prog_4_method_1_code 11 = .ok (.ireturn, 1) := by decide +kernel
set_option maxHeartbeats 1200000 in
set_option maxRecDepth 100000 in
theorem c_Tw_wide (l : Launch) (ad : Nat → Nat) (f : Nat) (h_f : f < 2) : Met l y_Tw_wide w_Tw_wide ({ frames := 0, cells := 0, slots := 0, locals := 0 } : Room) (va_Pc [.int (nI f)] (nb_K ad)) (vp_Si (fun r => r = mf_Tw_wide f)) 0 0 (fun _ => False) := by
  refine Met.ofW (cc := prog_4_method_1_code) (maxL := 1) (ret := some .int) (by decide) rfl ?_
  intro p e s m args below meth c s₁ B hml hv
  obtain ⟨rfl, hC⟩ := hv
  have hx := B.exec
  have hb := B.bytes
  have hr := B.returns
  have hts := atoms_spec (ws := w_Tw_wide) B.pre
  have hown : s.vm.findClass "NumberBenchModel" = some m.cls := findClass_of_methodNamed B.named
  have hlocks := B.notSynchronized
  have hC : nb_C ad (fun _ => False) s s.heap := hC
  have hS : va_S (fun _ => False) s.heap s.heap [] := va_S.rf
  have hl := lv_entry ([.int (nI f)]) (n := 1) (Nat.le_of_ble_eq_true rfl)
  rw [lg_entry_eq]
  generalize (lg_sl ([.int (nI f)]) ++ List.replicate (1 - (lg_sl ([.int (nI f)])).length) Slot.unset).toArray = ls at hl ⊢
  have hl : lv_has ls 1 [(0, .int (nI f))] := hl
  refine lv_iload_n hx hb d_Tw_wide_0 rfl (lv_at hl 0 rfl) ?_
  refine lv_if_ne (tgt := 9) hx hb d_Tw_wide_1 (by decide) (fun h1 => ?_) (fun h1 => ?_)
  · refine lv_bipush (v := 32) hx hb d_Tw_wide_9 (by decide) ?_
    exact W.iret hx hb hr (fun t ht hW => ⟨_, rfl, (by rw [mf_Tw_wide, if_neg h1]), ht⟩) t_nil d_Tw_wide_11
  · refine lv_bipush (v := 64) hx hb d_Tw_wide_4 (by decide) ?_
    refine lv_goto (tgt := 11) hx hb d_Tw_wide_6 (by decide) ?_
    exact W.iret hx hb hr (fun t ht hW => ⟨_, rfl, (by rw [mf_Tw_wide, if_pos h1]), ht⟩) t_nil d_Tw_wide_11
def y_Tw_minus : MethodName := ⟨"NumberBenchModel", "minus", "(JI)Z"⟩
abbrev w_Tw_minus : List Cond := Cond.code y_Tw_minus prog_4_method_2_code 3 (Option.some FieldType.boolean) :: nb_tb
theorem hd_Tw_minus : y_Tw_minus.cls ≠ "java/lang/invoke/MethodHandle" ∧ y_Tw_minus.cls ≠ "java/lang/invoke/VarHandle" ∧ (parseMethodDescriptor y_Tw_minus.desc).map (fun d => d.parameters.length) = some 2 := by decide +kernel
theorem d_Tw_minus_0 : decode prog_4_method_2_code 0 = .ok (.lload_n 0, 1) := by decide +kernel
theorem d_Tw_minus_1 : decode prog_4_method_2_code 1 = .ok (.iload_n 2, 1) := by decide +kernel
theorem d_Tw_minus_2 : decode prog_4_method_2_code 2 = .ok (.invokestatic 1, 3) := by decide +kernel
theorem d_Tw_minus_5 : decode prog_4_method_2_code 5 = .ok (.iconst 1, 1) := by decide +kernel
theorem d_Tw_minus_6 : decode prog_4_method_2_code 6 = .ok (.isub, 1) := by decide +kernel
theorem d_Tw_minus_7 : decode prog_4_method_2_code 7 = .ok (.lushr, 1) := by decide +kernel
theorem d_Tw_minus_8 : decode prog_4_method_2_code 8 = .ok (.lconst 1, 1) := by decide +kernel
theorem d_Tw_minus_9 : decode prog_4_method_2_code 9 = .ok (.land, 1) := by decide +kernel
theorem d_Tw_minus_10 : decode prog_4_method_2_code 10 = .ok (.lconst 1, 1) := by decide +kernel
theorem d_Tw_minus_11 : decode prog_4_method_2_code 11 = .ok (.lcmp, 1) := by decide +kernel
theorem d_Tw_minus_12 : decode prog_4_method_2_code 12 = .ok (.ifCond .ne 7, 3) := by decide +kernel
theorem d_Tw_minus_15 : decode prog_4_method_2_code 15 = .ok (.iconst 1, 1) := by decide +kernel
theorem d_Tw_minus_16 : decode prog_4_method_2_code 16 = .ok (.goto 4, 3) := by decide +kernel
theorem d_Tw_minus_19 : decode prog_4_method_2_code 19 = .ok (.iconst 0, 1) := by decide +kernel
theorem d_Tw_minus_20 : decode prog_4_method_2_code 20 = .ok (.ireturn, 1) := by decide +kernel
set_option maxHeartbeats 1200000 in
set_option maxRecDepth 100000 in
theorem c_Tw_minus (l : Launch) (ad : Nat → Nat) (a : Int64) (f : Nat) (h_f : f < 2) : Met l y_Tw_minus w_Tw_minus ({ frames := 1, cells := 0, slots := 0, locals := 20 } : Room) (va_Pc [.long a, .int (nI f)] (nb_K ad)) (vp_Si (fun r => r = mf_Tw_minus a f)) 0 0 (fun _ => False) := by
  refine Met.ofW (cc := prog_4_method_2_code) (maxL := 3) (ret := some .boolean) (by decide) rfl ?_
  intro p e s m args below meth c s₁ B hml hv
  obtain ⟨rfl, hC⟩ := hv
  have hx := B.exec
  have hb := B.bytes
  have hr := B.returns
  have hts := atoms_spec (ws := w_Tw_minus) B.pre
  have hown : s.vm.findClass "NumberBenchModel" = some m.cls := findClass_of_methodNamed B.named
  have hlocks := B.notSynchronized
  have hC : nb_C ad (fun _ => False) s s.heap := hC
  have hS : va_S (fun _ => False) s.heap s.heap [] := va_S.rf
  have hl := lv_entry ([.long a, .int (nI f)]) (n := 3) (Nat.le_of_ble_eq_true rfl)
  rw [lg_entry_eq]
  generalize (lg_sl ([.long a, .int (nI f)]) ++ List.replicate (3 - (lg_sl ([.long a, .int (nI f)])).length) Slot.unset).toArray = ls at hl ⊢
  have hl : lv_has ls 3 [(0, .long a), (2, .int (nI f))] := hl
  refine lv_lload_n hx hb d_Tw_minus_0 rfl (lv_at hl 0 rfl) ?_
  refine lv_iload_n hx hb d_Tw_minus_1 rfl (lv_at hl 1 rfl) ?_
  refine nb_callSi (As := [.int (nI f)]) (rest := [.long a]) hx hb hml hown hts (c_Tw_wide l ad f h_f) nb_t283 nb_t284 nb_t2 nb_t285 hd_Tw_wide rfl ⟨Nat.le_of_ble_eq_true rfl, Nat.le_of_ble_eq_true rfl⟩ ⟨rfl, rfl⟩ hC hS hl.1 rfl (Nat.le_of_ble_eq_true rfl) ⟨Nat.le_of_ble_eq_true rfl, Nat.le_of_ble_eq_true rfl⟩ d_Tw_minus_2 ?_
  refine lv_iconst (v := 1) hx hb d_Tw_minus_5 (by decide) ?_
  refine lv_isub hx hb d_Tw_minus_6 ?_
  refine lv_lushr hx hb d_Tw_minus_7 rfl ?_
  refine lv_lconst (v := 1) hx hb d_Tw_minus_8 (by decide) ?_
  refine lv_land hx hb d_Tw_minus_9 ?_
  refine lv_lconst (v := 1) hx hb d_Tw_minus_10 (by decide) ?_
  refine nb_lc_ne (tgt := 19) hx hb d_Tw_minus_11 d_Tw_minus_12 (by decide) (fun h1 => ?_) (fun h1 => ?_)
  · refine lv_iconst (v := 0) hx hb d_Tw_minus_19 (by decide) ?_
    exact W.zret (ty := .boolean) hx hb hr (by decide) (fun t ht hW => ⟨_, rfl, (by rw [mf_Tw_minus, if_neg h1]), ht⟩) t_nil d_Tw_minus_20
  · refine lv_iconst (v := 1) hx hb d_Tw_minus_15 (by decide) ?_
    refine lv_goto (tgt := 20) hx hb d_Tw_minus_16 (by decide) ?_
    exact W.zret (ty := .boolean) hx hb hr (by decide) (fun t ht hW => ⟨_, rfl, (by rw [mf_Tw_minus, if_pos h1]), ht⟩) t_nil d_Tw_minus_20
def y_Tw_size : MethodName := ⟨"NumberBenchModel", "size", "(JI)J"⟩
abbrev w_Tw_size : List Cond := Cond.code y_Tw_size prog_4_method_3_code 3 (Option.some FieldType.long) :: nb_tb
theorem hd_Tw_size : y_Tw_size.cls ≠ "java/lang/invoke/MethodHandle" ∧ y_Tw_size.cls ≠ "java/lang/invoke/VarHandle" ∧ (parseMethodDescriptor y_Tw_size.desc).map (fun d => d.parameters.length) = some 2 := by decide +kernel
theorem d_Tw_size_0 : decode prog_4_method_3_code 0 = .ok (.lload_n 0, 1) := by decide +kernel
theorem d_Tw_size_1 : decode prog_4_method_3_code 1 = .ok (.lconst 1, 1) := by decide +kernel
theorem d_Tw_size_2 : decode prog_4_method_3_code 2 = .ok (.iload_n 2, 1) := by decide +kernel
theorem d_Tw_size_3 : decode prog_4_method_3_code 3 = .ok (.invokestatic 1, 3) := by decide +kernel
theorem d_Tw_size_6 : decode prog_4_method_3_code 6 = .ok (.iconst 1, 1) := by decide +kernel
theorem d_Tw_size_7 : decode prog_4_method_3_code 7 = .ok (.isub, 1) := by decide +kernel
theorem d_Tw_size_8 : decode prog_4_method_3_code 8 = .ok (.lshl, 1) := by decide +kernel
theorem d_Tw_size_9 : decode prog_4_method_3_code 9 = .ok (.lconst 1, 1) := by decide +kernel
theorem d_Tw_size_10 : decode prog_4_method_3_code 10 = .ok (.lsub, 1) := by decide +kernel
theorem d_Tw_size_11 : decode prog_4_method_3_code 11 = .ok (.land, 1) := by decide +kernel
theorem d_Tw_size_12 : decode prog_4_method_3_code 12 = .ok (.lreturn, 1) := by decide +kernel
set_option maxHeartbeats 1200000 in
set_option maxRecDepth 100000 in
theorem c_Tw_size (l : Launch) (ad : Nat → Nat) (a : Int64) (f : Nat) (h_f : f < 2) : Met l y_Tw_size w_Tw_size ({ frames := 1, cells := 0, slots := 0, locals := 20 } : Room) (va_Pc [.long a, .int (nI f)] (nb_K ad)) (vp_Sl (fun r => r = mf_Tw_size a f)) 0 0 (fun _ => False) := by
  refine Met.ofW (cc := prog_4_method_3_code) (maxL := 3) (ret := some .long) (by decide) rfl ?_
  intro p e s m args below meth c s₁ B hml hv
  obtain ⟨rfl, hC⟩ := hv
  have hx := B.exec
  have hb := B.bytes
  have hr := B.returns
  have hts := atoms_spec (ws := w_Tw_size) B.pre
  have hown : s.vm.findClass "NumberBenchModel" = some m.cls := findClass_of_methodNamed B.named
  have hlocks := B.notSynchronized
  have hC : nb_C ad (fun _ => False) s s.heap := hC
  have hS : va_S (fun _ => False) s.heap s.heap [] := va_S.rf
  have hl := lv_entry ([.long a, .int (nI f)]) (n := 3) (Nat.le_of_ble_eq_true rfl)
  rw [lg_entry_eq]
  generalize (lg_sl ([.long a, .int (nI f)]) ++ List.replicate (3 - (lg_sl ([.long a, .int (nI f)])).length) Slot.unset).toArray = ls at hl ⊢
  have hl : lv_has ls 3 [(0, .long a), (2, .int (nI f))] := hl
  refine lv_lload_n hx hb d_Tw_size_0 rfl (lv_at hl 0 rfl) ?_
  refine lv_lconst (v := 1) hx hb d_Tw_size_1 (by decide) ?_
  refine lv_iload_n hx hb d_Tw_size_2 rfl (lv_at hl 1 rfl) ?_
  refine nb_callSi (As := [.int (nI f)]) (rest := [.long (1 : Int64), .long a]) hx hb hml hown hts (c_Tw_wide l ad f h_f) nb_t283 nb_t284 nb_t2 nb_t285 hd_Tw_wide rfl ⟨Nat.le_of_ble_eq_true rfl, Nat.le_of_ble_eq_true rfl⟩ ⟨rfl, rfl⟩ hC hS hl.1 rfl (Nat.le_of_ble_eq_true rfl) ⟨Nat.le_of_ble_eq_true rfl, Nat.le_of_ble_eq_true rfl⟩ d_Tw_size_3 ?_
  refine lv_iconst (v := 1) hx hb d_Tw_size_6 (by decide) ?_
  refine lv_isub hx hb d_Tw_size_7 ?_
  refine lv_lshl hx hb d_Tw_size_8 rfl ?_
  refine lv_lconst (v := 1) hx hb d_Tw_size_9 (by decide) ?_
  refine lv_lsub hx hb d_Tw_size_10 ?_
  refine lv_land hx hb d_Tw_size_11 ?_
  exact W.lret hx hb hr (fun t ht hW => ⟨_, rfl, (by rw [mf_Tw_size]), ht⟩) t_nil d_Tw_size_12
def y_Tw_infinite : MethodName := ⟨"NumberBenchModel", "infinite", "(I)J"⟩
abbrev w_Tw_infinite : List Cond := Cond.code y_Tw_infinite prog_4_method_4_code 1 (Option.some FieldType.long) :: nb_tb
theorem hd_Tw_infinite : y_Tw_infinite.cls ≠ "java/lang/invoke/MethodHandle" ∧ y_Tw_infinite.cls ≠ "java/lang/invoke/VarHandle" ∧ (parseMethodDescriptor y_Tw_infinite.desc).map (fun d => d.parameters.length) = some 1 := by decide +kernel
theorem d_Tw_infinite_0 : decode prog_4_method_4_code 0 = .ok (.iload_n 0, 1) := by decide +kernel
theorem d_Tw_infinite_1 : decode prog_4_method_4_code 1 = .ok (.ifCond .ne 9, 3) := by decide +kernel
theorem d_Tw_infinite_4 : decode prog_4_method_4_code 4 = .ok (.ldc2_w 7, 3) := by decide +kernel
theorem d_Tw_infinite_7 : decode prog_4_method_4_code 7 = .ok (.goto 6, 3) := by decide +kernel
theorem d_Tw_infinite_10 : decode prog_4_method_4_code 10 = .ok (.ldc2_w 9, 3) := by decide +kernel
theorem d_Tw_infinite_13 : decode prog_4_method_4_code 13 = .ok (.lreturn, 1) := by decide +kernel
set_option maxHeartbeats 1200000 in
set_option maxRecDepth 100000 in
theorem c_Tw_infinite (l : Launch) (ad : Nat → Nat) (f : Nat) (h_f : f < 2) : Met l y_Tw_infinite w_Tw_infinite ({ frames := 0, cells := 0, slots := 0, locals := 0 } : Room) (va_Pc [.int (nI f)] (nb_K ad)) (vp_Sl (fun r => r = mf_Tw_infinite f)) 0 0 (fun _ => False) := by
  refine Met.ofW (cc := prog_4_method_4_code) (maxL := 1) (ret := some .long) (by decide) rfl ?_
  intro p e s m args below meth c s₁ B hml hv
  obtain ⟨rfl, hC⟩ := hv
  have hx := B.exec
  have hb := B.bytes
  have hr := B.returns
  have hts := atoms_spec (ws := w_Tw_infinite) B.pre
  have hown : s.vm.findClass "NumberBenchModel" = some m.cls := findClass_of_methodNamed B.named
  have hlocks := B.notSynchronized
  have hC : nb_C ad (fun _ => False) s s.heap := hC
  have hS : va_S (fun _ => False) s.heap s.heap [] := va_S.rf
  have hl := lv_entry ([.int (nI f)]) (n := 1) (Nat.le_of_ble_eq_true rfl)
  rw [lg_entry_eq]
  generalize (lg_sl ([.int (nI f)]) ++ List.replicate (1 - (lg_sl ([.int (nI f)])).length) Slot.unset).toArray = ls at hl ⊢
  have hl : lv_has ls 1 [(0, .int (nI f))] := hl
  refine lv_iload_n hx hb d_Tw_infinite_0 rfl (lv_at hl 0 rfl) ?_
  refine lv_if_ne (tgt := 10) hx hb d_Tw_infinite_1 (by decide) (fun h1 => ?_) (fun h1 => ?_)
  · refine lv_ldc2 (v := (2139095040 : Int64)) hx hb hown (hts (.constantLong "NumberBenchModel" 9 (2139095040 : Int64)) (nb_c nb_t290)) d_Tw_infinite_10 ?_
    exact W.lret hx hb hr (fun t ht hW => ⟨_, rfl, (by rw [mf_Tw_infinite, if_neg h1]), ht⟩) t_nil d_Tw_infinite_13
  · refine lv_ldc2 (v := (9218868437227405312 : Int64)) hx hb hown (hts (.constantLong "NumberBenchModel" 7 (9218868437227405312 : Int64)) (nb_c nb_t289)) d_Tw_infinite_4 ?_
    refine lv_goto (tgt := 13) hx hb d_Tw_infinite_7 (by decide) ?_
    exact W.lret hx hb hr (fun t ht hW => ⟨_, rfl, (by rw [mf_Tw_infinite, if_pos h1]), ht⟩) t_nil d_Tw_infinite_13
def y_Tw_none : MethodName := ⟨"NumberBenchModel", "none", "(I)J"⟩
abbrev w_Tw_none : List Cond := Cond.code y_Tw_none prog_4_method_5_code 1 (Option.some FieldType.long) :: nb_tb
theorem hd_Tw_none : y_Tw_none.cls ≠ "java/lang/invoke/MethodHandle" ∧ y_Tw_none.cls ≠ "java/lang/invoke/VarHandle" ∧ (parseMethodDescriptor y_Tw_none.desc).map (fun d => d.parameters.length) = some 1 := by decide +kernel
theorem d_Tw_none_0 : decode prog_4_method_5_code 0 = .ok (.iload_n 0, 1) := by decide +kernel
theorem d_Tw_none_1 : decode prog_4_method_5_code 1 = .ok (.ifCond .ne 9, 3) := by decide +kernel
theorem d_Tw_none_4 : decode prog_4_method_5_code 4 = .ok (.ldc2_w 11, 3) := by decide +kernel
theorem d_Tw_none_7 : decode prog_4_method_5_code 7 = .ok (.goto 6, 3) := by decide +kernel
theorem d_Tw_none_10 : decode prog_4_method_5_code 10 = .ok (.ldc2_w 13, 3) := by decide +kernel
theorem d_Tw_none_13 : decode prog_4_method_5_code 13 = .ok (.lreturn, 1) := by decide +kernel
set_option maxHeartbeats 1200000 in
set_option maxRecDepth 100000 in
theorem c_Tw_none (l : Launch) (ad : Nat → Nat) (f : Nat) (h_f : f < 2) : Met l y_Tw_none w_Tw_none ({ frames := 0, cells := 0, slots := 0, locals := 0 } : Room) (va_Pc [.int (nI f)] (nb_K ad)) (vp_Sl (fun r => r = mf_Tw_none f)) 0 0 (fun _ => False) := by
  refine Met.ofW (cc := prog_4_method_5_code) (maxL := 1) (ret := some .long) (by decide) rfl ?_
  intro p e s m args below meth c s₁ B hml hv
  obtain ⟨rfl, hC⟩ := hv
  have hx := B.exec
  have hb := B.bytes
  have hr := B.returns
  have hts := atoms_spec (ws := w_Tw_none) B.pre
  have hown : s.vm.findClass "NumberBenchModel" = some m.cls := findClass_of_methodNamed B.named
  have hlocks := B.notSynchronized
  have hC : nb_C ad (fun _ => False) s s.heap := hC
  have hS : va_S (fun _ => False) s.heap s.heap [] := va_S.rf
  have hl := lv_entry ([.int (nI f)]) (n := 1) (Nat.le_of_ble_eq_true rfl)
  rw [lg_entry_eq]
  generalize (lg_sl ([.int (nI f)]) ++ List.replicate (1 - (lg_sl ([.int (nI f)])).length) Slot.unset).toArray = ls at hl ⊢
  have hl : lv_has ls 1 [(0, .int (nI f))] := hl
  refine lv_iload_n hx hb d_Tw_none_0 rfl (lv_at hl 0 rfl) ?_
  refine lv_if_ne (tgt := 10) hx hb d_Tw_none_1 (by decide) (fun h1 => ?_) (fun h1 => ?_)
  · refine lv_ldc2 (v := (2143289344 : Int64)) hx hb hown (hts (.constantLong "NumberBenchModel" 13 (2143289344 : Int64)) (nb_c nb_t295)) d_Tw_none_10 ?_
    exact W.lret hx hb hr (fun t ht hW => ⟨_, rfl, (by rw [mf_Tw_none, if_neg h1]), ht⟩) t_nil d_Tw_none_13
  · refine lv_ldc2 (v := (9221120237041090560 : Int64)) hx hb hown (hts (.constantLong "NumberBenchModel" 11 (9221120237041090560 : Int64)) (nb_c nb_t294)) d_Tw_none_4 ?_
    refine lv_goto (tgt := 13) hx hb d_Tw_none_7 (by decide) ?_
    exact W.lret hx hb hr (fun t ht hW => ⟨_, rfl, (by rw [mf_Tw_none, if_pos h1]), ht⟩) t_nil d_Tw_none_13
def y_Tw_isNone : MethodName := ⟨"NumberBenchModel", "isNone", "(JI)Z"⟩
abbrev w_Tw_isNone : List Cond := Cond.code y_Tw_isNone prog_4_method_6_code 3 (Option.some FieldType.boolean) :: nb_tb
theorem hd_Tw_isNone : y_Tw_isNone.cls ≠ "java/lang/invoke/MethodHandle" ∧ y_Tw_isNone.cls ≠ "java/lang/invoke/VarHandle" ∧ (parseMethodDescriptor y_Tw_isNone.desc).map (fun d => d.parameters.length) = some 2 := by decide +kernel
theorem d_Tw_isNone_0 : decode prog_4_method_6_code 0 = .ok (.lload_n 0, 1) := by decide +kernel
theorem d_Tw_isNone_1 : decode prog_4_method_6_code 1 = .ok (.iload_n 2, 1) := by decide +kernel
theorem d_Tw_isNone_2 : decode prog_4_method_6_code 2 = .ok (.invokestatic 15, 3) := by decide +kernel
theorem d_Tw_isNone_5 : decode prog_4_method_6_code 5 = .ok (.iload_n 2, 1) := by decide +kernel
theorem d_Tw_isNone_6 : decode prog_4_method_6_code 6 = .ok (.invokestatic 19, 3) := by decide +kernel
theorem d_Tw_isNone_9 : decode prog_4_method_6_code 9 = .ok (.lcmp, 1) := by decide +kernel
theorem d_Tw_isNone_10 : decode prog_4_method_6_code 10 = .ok (.ifCond .le 7, 3) := by decide +kernel
theorem d_Tw_isNone_13 : decode prog_4_method_6_code 13 = .ok (.iconst 1, 1) := by decide +kernel
theorem d_Tw_isNone_14 : decode prog_4_method_6_code 14 = .ok (.goto 4, 3) := by decide +kernel
theorem d_Tw_isNone_17 : decode prog_4_method_6_code 17 = .ok (.iconst 0, 1) := by decide +kernel
theorem d_Tw_isNone_18 : decode prog_4_method_6_code 18 = .ok (.ireturn, 1) := by decide +kernel
set_option maxHeartbeats 1200000 in
set_option maxRecDepth 100000 in
theorem c_Tw_isNone (l : Launch) (ad : Nat → Nat) (a : Int64) (f : Nat) (h_f : f < 2) : Met l y_Tw_isNone w_Tw_isNone ({ frames := 2, cells := 0, slots := 0, locals := 42 } : Room) (va_Pc [.long a, .int (nI f)] (nb_K ad)) (vp_Si (fun r => r = mf_Tw_isNone a f)) 0 0 (fun _ => False) := by
  refine Met.ofW (cc := prog_4_method_6_code) (maxL := 3) (ret := some .boolean) (by decide) rfl ?_
  intro p e s m args below meth c s₁ B hml hv
  obtain ⟨rfl, hC⟩ := hv
  have hx := B.exec
  have hb := B.bytes
  have hr := B.returns
  have hts := atoms_spec (ws := w_Tw_isNone) B.pre
  have hown : s.vm.findClass "NumberBenchModel" = some m.cls := findClass_of_methodNamed B.named
  have hlocks := B.notSynchronized
  have hC : nb_C ad (fun _ => False) s s.heap := hC
  have hS : va_S (fun _ => False) s.heap s.heap [] := va_S.rf
  have hl := lv_entry ([.long a, .int (nI f)]) (n := 3) (Nat.le_of_ble_eq_true rfl)
  rw [lg_entry_eq]
  generalize (lg_sl ([.long a, .int (nI f)]) ++ List.replicate (3 - (lg_sl ([.long a, .int (nI f)])).length) Slot.unset).toArray = ls at hl ⊢
  have hl : lv_has ls 3 [(0, .long a), (2, .int (nI f))] := hl
  refine lv_lload_n hx hb d_Tw_isNone_0 rfl (lv_at hl 0 rfl) ?_
  refine lv_iload_n hx hb d_Tw_isNone_1 rfl (lv_at hl 1 rfl) ?_
  refine nb_callSl (As := [.long a, .int (nI f)]) (rest := []) hx hb hml hown hts (c_Tw_size l ad a f h_f) nb_t280 nb_t281 nb_t2 nb_t282 hd_Tw_size rfl ⟨Nat.le_of_ble_eq_true rfl, Nat.le_of_ble_eq_true rfl⟩ ⟨rfl, rfl⟩ hC hS hl.1 rfl (Nat.le_of_ble_eq_true rfl) ⟨Nat.le_of_ble_eq_true rfl, Nat.le_of_ble_eq_true rfl⟩ d_Tw_isNone_2 ?_
  refine lv_iload_n hx hb d_Tw_isNone_5 rfl (lv_at hl 1 rfl) ?_
  refine nb_callSl (As := [.int (nI f)]) (rest := [.long (mf_Tw_size a f)]) hx hb hml hown hts (c_Tw_infinite l ad f h_f) nb_t286 nb_t287 nb_t2 nb_t288 hd_Tw_infinite rfl ⟨Nat.le_of_ble_eq_true rfl, Nat.le_of_ble_eq_true rfl⟩ ⟨rfl, rfl⟩ hC hS hl.1 rfl (Nat.le_of_ble_eq_true rfl) ⟨Nat.le_of_ble_eq_true rfl, Nat.le_of_ble_eq_true rfl⟩ d_Tw_isNone_6 ?_
  refine nb_lc_le (tgt := 17) hx hb d_Tw_isNone_9 d_Tw_isNone_10 (by decide) (fun h1 => ?_) (fun h1 => ?_)
  · refine lv_iconst (v := 0) hx hb d_Tw_isNone_17 (by decide) ?_
    exact W.zret (ty := .boolean) hx hb hr (by decide) (fun t ht hW => ⟨_, rfl, (by rw [mf_Tw_isNone, if_pos h1]), ht⟩) t_nil d_Tw_isNone_18
  · refine lv_iconst (v := 1) hx hb d_Tw_isNone_13 (by decide) ?_
    refine lv_goto (tgt := 18) hx hb d_Tw_isNone_14 (by decide) ?_
    exact W.zret (ty := .boolean) hx hb hr (by decide) (fun t ht hW => ⟨_, rfl, (by rw [mf_Tw_isNone, if_neg h1]), ht⟩) t_nil d_Tw_isNone_18
def y_Tw_isInfinite : MethodName := ⟨"NumberBenchModel", "isInfinite", "(JI)Z"⟩
abbrev w_Tw_isInfinite : List Cond := Cond.code y_Tw_isInfinite prog_4_method_7_code 3 (Option.some FieldType.boolean) :: nb_tb
theorem hd_Tw_isInfinite : y_Tw_isInfinite.cls ≠ "java/lang/invoke/MethodHandle" ∧ y_Tw_isInfinite.cls ≠ "java/lang/invoke/VarHandle" ∧ (parseMethodDescriptor y_Tw_isInfinite.desc).map (fun d => d.parameters.length) = some 2 := by decide +kernel
theorem d_Tw_isInfinite_0 : decode prog_4_method_7_code 0 = .ok (.lload_n 0, 1) := by decide +kernel
theorem d_Tw_isInfinite_1 : decode prog_4_method_7_code 1 = .ok (.iload_n 2, 1) := by decide +kernel
theorem d_Tw_isInfinite_2 : decode prog_4_method_7_code 2 = .ok (.invokestatic 15, 3) := by decide +kernel
theorem d_Tw_isInfinite_5 : decode prog_4_method_7_code 5 = .ok (.iload_n 2, 1) := by decide +kernel
theorem d_Tw_isInfinite_6 : decode prog_4_method_7_code 6 = .ok (.invokestatic 19, 3) := by decide +kernel
theorem d_Tw_isInfinite_9 : decode prog_4_method_7_code 9 = .ok (.lcmp, 1) := by decide +kernel
theorem d_Tw_isInfinite_10 : decode prog_4_method_7_code 10 = .ok (.ifCond .ne 7, 3) := by decide +kernel
theorem d_Tw_isInfinite_13 : decode prog_4_method_7_code 13 = .ok (.iconst 1, 1) := by decide +kernel
theorem d_Tw_isInfinite_14 : decode prog_4_method_7_code 14 = .ok (.goto 4, 3) := by decide +kernel
theorem d_Tw_isInfinite_17 : decode prog_4_method_7_code 17 = .ok (.iconst 0, 1) := by decide +kernel
theorem d_Tw_isInfinite_18 : decode prog_4_method_7_code 18 = .ok (.ireturn, 1) := by decide +kernel
set_option maxHeartbeats 1200000 in
set_option maxRecDepth 100000 in
theorem c_Tw_isInfinite (l : Launch) (ad : Nat → Nat) (a : Int64) (f : Nat) (h_f : f < 2) : Met l y_Tw_isInfinite w_Tw_isInfinite ({ frames := 2, cells := 0, slots := 0, locals := 42 } : Room) (va_Pc [.long a, .int (nI f)] (nb_K ad)) (vp_Si (fun r => r = mf_Tw_isInfinite a f)) 0 0 (fun _ => False) := by
  refine Met.ofW (cc := prog_4_method_7_code) (maxL := 3) (ret := some .boolean) (by decide) rfl ?_
  intro p e s m args below meth c s₁ B hml hv
  obtain ⟨rfl, hC⟩ := hv
  have hx := B.exec
  have hb := B.bytes
  have hr := B.returns
  have hts := atoms_spec (ws := w_Tw_isInfinite) B.pre
  have hown : s.vm.findClass "NumberBenchModel" = some m.cls := findClass_of_methodNamed B.named
  have hlocks := B.notSynchronized
  have hC : nb_C ad (fun _ => False) s s.heap := hC
  have hS : va_S (fun _ => False) s.heap s.heap [] := va_S.rf
  have hl := lv_entry ([.long a, .int (nI f)]) (n := 3) (Nat.le_of_ble_eq_true rfl)
  rw [lg_entry_eq]
  generalize (lg_sl ([.long a, .int (nI f)]) ++ List.replicate (3 - (lg_sl ([.long a, .int (nI f)])).length) Slot.unset).toArray = ls at hl ⊢
  have hl : lv_has ls 3 [(0, .long a), (2, .int (nI f))] := hl
  refine lv_lload_n hx hb d_Tw_isInfinite_0 rfl (lv_at hl 0 rfl) ?_
  refine lv_iload_n hx hb d_Tw_isInfinite_1 rfl (lv_at hl 1 rfl) ?_
  refine nb_callSl (As := [.long a, .int (nI f)]) (rest := []) hx hb hml hown hts (c_Tw_size l ad a f h_f) nb_t280 nb_t281 nb_t2 nb_t282 hd_Tw_size rfl ⟨Nat.le_of_ble_eq_true rfl, Nat.le_of_ble_eq_true rfl⟩ ⟨rfl, rfl⟩ hC hS hl.1 rfl (Nat.le_of_ble_eq_true rfl) ⟨Nat.le_of_ble_eq_true rfl, Nat.le_of_ble_eq_true rfl⟩ d_Tw_isInfinite_2 ?_
  refine lv_iload_n hx hb d_Tw_isInfinite_5 rfl (lv_at hl 1 rfl) ?_
  refine nb_callSl (As := [.int (nI f)]) (rest := [.long (mf_Tw_size a f)]) hx hb hml hown hts (c_Tw_infinite l ad f h_f) nb_t286 nb_t287 nb_t2 nb_t288 hd_Tw_infinite rfl ⟨Nat.le_of_ble_eq_true rfl, Nat.le_of_ble_eq_true rfl⟩ ⟨rfl, rfl⟩ hC hS hl.1 rfl (Nat.le_of_ble_eq_true rfl) ⟨Nat.le_of_ble_eq_true rfl, Nat.le_of_ble_eq_true rfl⟩ d_Tw_isInfinite_6 ?_
  refine nb_lc_ne (tgt := 17) hx hb d_Tw_isInfinite_9 d_Tw_isInfinite_10 (by decide) (fun h1 => ?_) (fun h1 => ?_)
  · refine lv_iconst (v := 0) hx hb d_Tw_isInfinite_17 (by decide) ?_
    exact W.zret (ty := .boolean) hx hb hr (by decide) (fun t ht hW => ⟨_, rfl, (by rw [mf_Tw_isInfinite, if_neg h1]), ht⟩) t_nil d_Tw_isInfinite_18
  · refine lv_iconst (v := 1) hx hb d_Tw_isInfinite_13 (by decide) ?_
    refine lv_goto (tgt := 18) hx hb d_Tw_isInfinite_14 (by decide) ?_
    exact W.zret (ty := .boolean) hx hb hr (by decide) (fun t ht hW => ⟨_, rfl, (by rw [mf_Tw_isInfinite, if_pos h1]), ht⟩) t_nil d_Tw_isInfinite_18
def y_Tw_isZero : MethodName := ⟨"NumberBenchModel", "isZero", "(JI)Z"⟩
abbrev w_Tw_isZero : List Cond := Cond.code y_Tw_isZero prog_4_method_8_code 3 (Option.some FieldType.boolean) :: nb_tb
theorem hd_Tw_isZero : y_Tw_isZero.cls ≠ "java/lang/invoke/MethodHandle" ∧ y_Tw_isZero.cls ≠ "java/lang/invoke/VarHandle" ∧ (parseMethodDescriptor y_Tw_isZero.desc).map (fun d => d.parameters.length) = some 2 := by decide +kernel
theorem d_Tw_isZero_0 : decode prog_4_method_8_code 0 = .ok (.lload_n 0, 1) := by decide +kernel
theorem d_Tw_isZero_1 : decode prog_4_method_8_code 1 = .ok (.iload_n 2, 1) := by decide +kernel
theorem d_Tw_isZero_2 : decode prog_4_method_8_code 2 = .ok (.invokestatic 15, 3) := by decide +kernel
theorem d_Tw_isZero_5 : decode prog_4_method_8_code 5 = .ok (.lconst 0, 1) := by decide +kernel
theorem d_Tw_isZero_6 : decode prog_4_method_8_code 6 = .ok (.lcmp, 1) := by decide +kernel
theorem d_Tw_isZero_7 : decode prog_4_method_8_code 7 = .ok (.ifCond .ne 7, 3) := by decide +kernel
theorem d_Tw_isZero_10 : decode prog_4_method_8_code 10 = .ok (.iconst 1, 1) := by decide +kernel
theorem d_Tw_isZero_11 : decode prog_4_method_8_code 11 = .ok (.goto 4, 3) := by decide +kernel
theorem d_Tw_isZero_14 : decode prog_4_method_8_code 14 = .ok (.iconst 0, 1) := by decide +kernel
theorem d_Tw_isZero_15 : decode prog_4_method_8_code 15 = .ok (.ireturn, 1) := by decide +kernel
set_option maxHeartbeats 1200000 in
set_option maxRecDepth 100000 in
theorem c_Tw_isZero (l : Launch) (ad : Nat → Nat) (a : Int64) (f : Nat) (h_f : f < 2) : Met l y_Tw_isZero w_Tw_isZero ({ frames := 2, cells := 0, slots := 0, locals := 42 } : Room) (va_Pc [.long a, .int (nI f)] (nb_K ad)) (vp_Si (fun r => r = mf_Tw_isZero a f)) 0 0 (fun _ => False) := by
  refine Met.ofW (cc := prog_4_method_8_code) (maxL := 3) (ret := some .boolean) (by decide) rfl ?_
  intro p e s m args below meth c s₁ B hml hv
  obtain ⟨rfl, hC⟩ := hv
  have hx := B.exec
  have hb := B.bytes
  have hr := B.returns
  have hts := atoms_spec (ws := w_Tw_isZero) B.pre
  have hown : s.vm.findClass "NumberBenchModel" = some m.cls := findClass_of_methodNamed B.named
  have hlocks := B.notSynchronized
  have hC : nb_C ad (fun _ => False) s s.heap := hC
  have hS : va_S (fun _ => False) s.heap s.heap [] := va_S.rf
  have hl := lv_entry ([.long a, .int (nI f)]) (n := 3) (Nat.le_of_ble_eq_true rfl)
  rw [lg_entry_eq]
  generalize (lg_sl ([.long a, .int (nI f)]) ++ List.replicate (3 - (lg_sl ([.long a, .int (nI f)])).length) Slot.unset).toArray = ls at hl ⊢
  have hl : lv_has ls 3 [(0, .long a), (2, .int (nI f))] := hl
  refine lv_lload_n hx hb d_Tw_isZero_0 rfl (lv_at hl 0 rfl) ?_
  refine lv_iload_n hx hb d_Tw_isZero_1 rfl (lv_at hl 1 rfl) ?_
  refine nb_callSl (As := [.long a, .int (nI f)]) (rest := []) hx hb hml hown hts (c_Tw_size l ad a f h_f) nb_t280 nb_t281 nb_t2 nb_t282 hd_Tw_size rfl ⟨Nat.le_of_ble_eq_true rfl, Nat.le_of_ble_eq_true rfl⟩ ⟨rfl, rfl⟩ hC hS hl.1 rfl (Nat.le_of_ble_eq_true rfl) ⟨Nat.le_of_ble_eq_true rfl, Nat.le_of_ble_eq_true rfl⟩ d_Tw_isZero_2 ?_
  refine lv_lconst (v := 0) hx hb d_Tw_isZero_5 (by decide) ?_
  refine nb_lc_ne (tgt := 14) hx hb d_Tw_isZero_6 d_Tw_isZero_7 (by decide) (fun h1 => ?_) (fun h1 => ?_)
  · refine lv_iconst (v := 0) hx hb d_Tw_isZero_14 (by decide) ?_
    exact W.zret (ty := .boolean) hx hb hr (by decide) (fun t ht hW => ⟨_, rfl, (by rw [mf_Tw_isZero, if_neg h1]), ht⟩) t_nil d_Tw_isZero_15
  · refine lv_iconst (v := 1) hx hb d_Tw_isZero_10 (by decide) ?_
    refine lv_goto (tgt := 15) hx hb d_Tw_isZero_11 (by decide) ?_
    exact W.zret (ty := .boolean) hx hb hr (by decide) (fun t ht hW => ⟨_, rfl, (by rw [mf_Tw_isZero, if_pos h1]), ht⟩) t_nil d_Tw_isZero_15
def y_Tw_signed : MethodName := ⟨"NumberBenchModel", "signed", "(JZI)J"⟩
abbrev w_Tw_signed : List Cond := Cond.code y_Tw_signed prog_4_method_9_code 4 (Option.some FieldType.long) :: nb_tb
theorem hd_Tw_signed : y_Tw_signed.cls ≠ "java/lang/invoke/MethodHandle" ∧ y_Tw_signed.cls ≠ "java/lang/invoke/VarHandle" ∧ (parseMethodDescriptor y_Tw_signed.desc).map (fun d => d.parameters.length) = some 3 := by decide +kernel
theorem d_Tw_signed_0 : decode prog_4_method_9_code 0 = .ok (.iload_n 2, 1) := by decide +kernel
theorem d_Tw_signed_1 : decode prog_4_method_9_code 1 = .ok (.ifCond .eq 16, 3) := by decide +kernel
theorem d_Tw_signed_4 : decode prog_4_method_9_code 4 = .ok (.lload_n 0, 1) := by decide +kernel
theorem d_Tw_signed_5 : decode prog_4_method_9_code 5 = .ok (.lconst 1, 1) := by decide +kernel
theorem d_Tw_signed_6 : decode prog_4_method_9_code 6 = .ok (.iload_n 3, 1) := by decide +kernel
theorem d_Tw_signed_7 : decode prog_4_method_9_code 7 = .ok (.invokestatic 1, 3) := by decide +kernel
theorem d_Tw_signed_10 : decode prog_4_method_9_code 10 = .ok (.iconst 1, 1) := by decide +kernel
theorem d_Tw_signed_11 : decode prog_4_method_9_code 11 = .ok (.isub, 1) := by decide +kernel
theorem d_Tw_signed_12 : decode prog_4_method_9_code 12 = .ok (.lshl, 1) := by decide +kernel
theorem d_Tw_signed_13 : decode prog_4_method_9_code 13 = .ok (.lor, 1) := by decide +kernel
theorem d_Tw_signed_14 : decode prog_4_method_9_code 14 = .ok (.goto 4, 3) := by decide +kernel
theorem d_Tw_signed_17 : decode prog_4_method_9_code 17 = .ok (.lload_n 0, 1) := by decide +kernel
theorem d_Tw_signed_18 : decode prog_4_method_9_code 18 = .ok (.lreturn, 1) := by decide +kernel
set_option maxHeartbeats 1200000 in
set_option maxRecDepth 100000 in
theorem c_Tw_signed (l : Launch) (ad : Nat → Nat) (a : Int64) (g : Int32) (f : Nat) (h_f : f < 2) : Met l y_Tw_signed w_Tw_signed ({ frames := 1, cells := 0, slots := 0, locals := 20 } : Room) (va_Pc [.long a, .int g, .int (nI f)] (nb_K ad)) (vp_Sl (fun r => r = mf_Tw_signed a g f)) 0 0 (fun _ => False) := by
  refine Met.ofW (cc := prog_4_method_9_code) (maxL := 4) (ret := some .long) (by decide) rfl ?_
  intro p e s m args below meth c s₁ B hml hv
  obtain ⟨rfl, hC⟩ := hv
  have hx := B.exec
  have hb := B.bytes
  have hr := B.returns
  have hts := atoms_spec (ws := w_Tw_signed) B.pre
  have hown : s.vm.findClass "NumberBenchModel" = some m.cls := findClass_of_methodNamed B.named
  have hlocks := B.notSynchronized
  have hC : nb_C ad (fun _ => False) s s.heap := hC
  have hS : va_S (fun _ => False) s.heap s.heap [] := va_S.rf
  have hl := lv_entry ([.long a, .int g, .int (nI f)]) (n := 4) (Nat.le_of_ble_eq_true rfl)
  rw [lg_entry_eq]
  generalize (lg_sl ([.long a, .int g, .int (nI f)]) ++ List.replicate (4 - (lg_sl ([.long a, .int g, .int (nI f)])).length) Slot.unset).toArray = ls at hl ⊢
  have hl : lv_has ls 4 [(0, .long a), (2, .int g), (3, .int (nI f))] := hl
  refine lv_iload_n hx hb d_Tw_signed_0 rfl (lv_at hl 1 rfl) ?_
  refine lv_if_eq (tgt := 17) hx hb d_Tw_signed_1 (by decide) (fun h1 => ?_) (fun h1 => ?_)
  · refine lv_lload_n hx hb d_Tw_signed_17 rfl (lv_at hl 0 rfl) ?_
    exact W.lret hx hb hr (fun t ht hW => ⟨_, rfl, (by rw [mf_Tw_signed, if_pos h1]), ht⟩) t_nil d_Tw_signed_18
  · refine lv_lload_n hx hb d_Tw_signed_4 rfl (lv_at hl 0 rfl) ?_
    refine lv_lconst (v := 1) hx hb d_Tw_signed_5 (by decide) ?_
    refine lv_iload_n hx hb d_Tw_signed_6 rfl (lv_at hl 2 rfl) ?_
    refine nb_callSi (As := [.int (nI f)]) (rest := [.long (1 : Int64), .long a]) hx hb hml hown hts (c_Tw_wide l ad f h_f) nb_t283 nb_t284 nb_t2 nb_t285 hd_Tw_wide rfl ⟨Nat.le_of_ble_eq_true rfl, Nat.le_of_ble_eq_true rfl⟩ ⟨rfl, rfl⟩ hC hS hl.1 rfl (Nat.le_of_ble_eq_true rfl) ⟨Nat.le_of_ble_eq_true rfl, Nat.le_of_ble_eq_true rfl⟩ d_Tw_signed_7 ?_
    refine lv_iconst (v := 1) hx hb d_Tw_signed_10 (by decide) ?_
    refine lv_isub hx hb d_Tw_signed_11 ?_
    refine lv_lshl hx hb d_Tw_signed_12 rfl ?_
    refine lv_lor hx hb d_Tw_signed_13 ?_
    refine lv_goto (tgt := 18) hx hb d_Tw_signed_14 (by decide) ?_
    exact W.lret hx hb hr (fun t ht hW => ⟨_, rfl, (by rw [mf_Tw_signed, if_neg h1]), ht⟩) t_nil d_Tw_signed_18
def y_Tw_turned : MethodName := ⟨"NumberBenchModel", "turned", "(JI)J"⟩
abbrev w_Tw_turned : List Cond := Cond.code y_Tw_turned prog_4_method_10_code 3 (Option.some FieldType.long) :: nb_tb
theorem hd_Tw_turned : y_Tw_turned.cls ≠ "java/lang/invoke/MethodHandle" ∧ y_Tw_turned.cls ≠ "java/lang/invoke/VarHandle" ∧ (parseMethodDescriptor y_Tw_turned.desc).map (fun d => d.parameters.length) = some 2 := by decide +kernel
theorem d_Tw_turned_0 : decode prog_4_method_10_code 0 = .ok (.lload_n 0, 1) := by decide +kernel
theorem d_Tw_turned_1 : decode prog_4_method_10_code 1 = .ok (.lconst 1, 1) := by decide +kernel
theorem d_Tw_turned_2 : decode prog_4_method_10_code 2 = .ok (.iload_n 2, 1) := by decide +kernel
theorem d_Tw_turned_3 : decode prog_4_method_10_code 3 = .ok (.invokestatic 1, 3) := by decide +kernel
theorem d_Tw_turned_6 : decode prog_4_method_10_code 6 = .ok (.iconst 1, 1) := by decide +kernel
theorem d_Tw_turned_7 : decode prog_4_method_10_code 7 = .ok (.isub, 1) := by decide +kernel
theorem d_Tw_turned_8 : decode prog_4_method_10_code 8 = .ok (.lshl, 1) := by decide +kernel
theorem d_Tw_turned_9 : decode prog_4_method_10_code 9 = .ok (.lxor, 1) := by decide +kernel
theorem d_Tw_turned_10 : decode prog_4_method_10_code 10 = .ok (.lreturn, 1) := by decide +kernel
set_option maxHeartbeats 1200000 in
set_option maxRecDepth 100000 in
theorem c_Tw_turned (l : Launch) (ad : Nat → Nat) (a : Int64) (f : Nat) (h_f : f < 2) : Met l y_Tw_turned w_Tw_turned ({ frames := 1, cells := 0, slots := 0, locals := 20 } : Room) (va_Pc [.long a, .int (nI f)] (nb_K ad)) (vp_Sl (fun r => r = mf_Tw_turned a f)) 0 0 (fun _ => False) := by
  refine Met.ofW (cc := prog_4_method_10_code) (maxL := 3) (ret := some .long) (by decide) rfl ?_
  intro p e s m args below meth c s₁ B hml hv
  obtain ⟨rfl, hC⟩ := hv
  have hx := B.exec
  have hb := B.bytes
  have hr := B.returns
  have hts := atoms_spec (ws := w_Tw_turned) B.pre
  have hown : s.vm.findClass "NumberBenchModel" = some m.cls := findClass_of_methodNamed B.named
  have hlocks := B.notSynchronized
  have hC : nb_C ad (fun _ => False) s s.heap := hC
  have hS : va_S (fun _ => False) s.heap s.heap [] := va_S.rf
  have hl := lv_entry ([.long a, .int (nI f)]) (n := 3) (Nat.le_of_ble_eq_true rfl)
  rw [lg_entry_eq]
  generalize (lg_sl ([.long a, .int (nI f)]) ++ List.replicate (3 - (lg_sl ([.long a, .int (nI f)])).length) Slot.unset).toArray = ls at hl ⊢
  have hl : lv_has ls 3 [(0, .long a), (2, .int (nI f))] := hl
  refine lv_lload_n hx hb d_Tw_turned_0 rfl (lv_at hl 0 rfl) ?_
  refine lv_lconst (v := 1) hx hb d_Tw_turned_1 (by decide) ?_
  refine lv_iload_n hx hb d_Tw_turned_2 rfl (lv_at hl 1 rfl) ?_
  refine nb_callSi (As := [.int (nI f)]) (rest := [.long (1 : Int64), .long a]) hx hb hml hown hts (c_Tw_wide l ad f h_f) nb_t283 nb_t284 nb_t2 nb_t285 hd_Tw_wide rfl ⟨Nat.le_of_ble_eq_true rfl, Nat.le_of_ble_eq_true rfl⟩ ⟨rfl, rfl⟩ hC hS hl.1 rfl (Nat.le_of_ble_eq_true rfl) ⟨Nat.le_of_ble_eq_true rfl, Nat.le_of_ble_eq_true rfl⟩ d_Tw_turned_3 ?_
  refine lv_iconst (v := 1) hx hb d_Tw_turned_6 (by decide) ?_
  refine lv_isub hx hb d_Tw_turned_7 ?_
  refine lv_lshl hx hb d_Tw_turned_8 rfl ?_
  refine lv_lxor hx hb d_Tw_turned_9 ?_
  exact W.lret hx hb hr (fun t ht hW => ⟨_, rfl, (by rw [mf_Tw_turned]), ht⟩) t_nil d_Tw_turned_10
def y_Tw_whole : MethodName := ⟨"NumberBenchModel", "whole", "(JI)J"⟩
abbrev w_Tw_whole : List Cond := Cond.code y_Tw_whole prog_4_method_11_code 8 (Option.some FieldType.long) :: nb_tb
theorem hd_Tw_whole : y_Tw_whole.cls ≠ "java/lang/invoke/MethodHandle" ∧ y_Tw_whole.cls ≠ "java/lang/invoke/VarHandle" ∧ (parseMethodDescriptor y_Tw_whole.desc).map (fun d => d.parameters.length) = some 2 := by decide +kernel
theorem d_Tw_whole_0 : decode prog_4_method_11_code 0 = .ok (.getstatic 23, 3) := by decide +kernel
theorem d_Tw_whole_3 : decode prog_4_method_11_code 3 = .ok (.iload_n 2, 1) := by decide +kernel
theorem d_Tw_whole_4 : decode prog_4_method_11_code 4 = .ok (.iaload, 1) := by decide +kernel
theorem d_Tw_whole_5 : decode prog_4_method_11_code 5 = .ok (.iconst 1, 1) := by decide +kernel
theorem d_Tw_whole_6 : decode prog_4_method_11_code 6 = .ok (.isub, 1) := by decide +kernel
theorem d_Tw_whole_7 : decode prog_4_method_11_code 7 = .ok (.istore_n 3, 1) := by decide +kernel
theorem d_Tw_whole_8 : decode prog_4_method_11_code 8 = .ok (.lload_n 0, 1) := by decide +kernel
theorem d_Tw_whole_9 : decode prog_4_method_11_code 9 = .ok (.iload_n 2, 1) := by decide +kernel
theorem d_Tw_whole_10 : decode prog_4_method_11_code 10 = .ok (.invokestatic 15, 3) := by decide +kernel
theorem d_Tw_whole_13 : decode prog_4_method_11_code 13 = .ok (.lstore 4, 2) := by decide +kernel
theorem d_Tw_whole_15 : decode prog_4_method_11_code 15 = .ok (.lload 4, 2) := by decide +kernel
theorem d_Tw_whole_17 : decode prog_4_method_11_code 17 = .ok (.lconst 1, 1) := by decide +kernel
theorem d_Tw_whole_18 : decode prog_4_method_11_code 18 = .ok (.iload_n 3, 1) := by decide +kernel
theorem d_Tw_whole_19 : decode prog_4_method_11_code 19 = .ok (.lshl, 1) := by decide +kernel
theorem d_Tw_whole_20 : decode prog_4_method_11_code 20 = .ok (.lconst 1, 1) := by decide +kernel
theorem d_Tw_whole_21 : decode prog_4_method_11_code 21 = .ok (.lsub, 1) := by decide +kernel
theorem d_Tw_whole_22 : decode prog_4_method_11_code 22 = .ok (.land, 1) := by decide +kernel
theorem d_Tw_whole_23 : decode prog_4_method_11_code 23 = .ok (.lstore 6, 2) := by decide +kernel
theorem d_Tw_whole_25 : decode prog_4_method_11_code 25 = .ok (.lload 4, 2) := by decide +kernel
theorem d_Tw_whole_27 : decode prog_4_method_11_code 27 = .ok (.iload_n 3, 1) := by decide +kernel
theorem d_Tw_whole_28 : decode prog_4_method_11_code 28 = .ok (.lushr, 1) := by decide +kernel
theorem d_Tw_whole_29 : decode prog_4_method_11_code 29 = .ok (.lconst 0, 1) := by decide +kernel
theorem d_Tw_whole_30 : decode prog_4_method_11_code 30 = .ok (.lcmp, 1) := by decide +kernel
theorem d_Tw_whole_31 : decode prog_4_method_11_code 31 = .ok (.ifCond .ne 8, 3) := by decide +kernel
theorem d_Tw_whole_34 : decode prog_4_method_11_code 34 = .ok (.lload 6, 2) := by decide +kernel
theorem d_Tw_whole_36 : decode prog_4_method_11_code 36 = .ok (.goto 9, 3) := by decide +kernel
theorem d_Tw_whole_39 : decode prog_4_method_11_code 39 = .ok (.lload 6, 2) := by decide +kernel
theorem d_Tw_whole_41 : decode prog_4_method_11_code 41 = .ok (.lconst 1, 1) := by decide +kernel
theorem d_Tw_whole_42 : decode prog_4_method_11_code 42 = .ok (.iload_n 3, 1) := by decide +kernel
theorem d_Tw_whole_43 : decode prog_4_method_11_code 43 = .ok (.lshl, 1) := by decide +kernel
theorem d_Tw_whole_44 : decode prog_4_method_11_code 44 = .ok (.lor, 1) := by decide +kernel
theorem d_Tw_whole_45 : decode prog_4_method_11_code 45 = .ok (.lreturn, 1) := by decide +kernel
set_option maxHeartbeats 1200000 in
set_option maxRecDepth 100000 in
theorem c_Tw_whole (l : Launch) (ad : Nat → Nat) (a : Int64) (f : Nat) (h_f : f < 2) : Met l y_Tw_whole w_Tw_whole ({ frames := 2, cells := 0, slots := 0, locals := 42 } : Room) (va_Pc [.long a, .int (nI f)] (nb_K ad)) (vp_Sl (fun r => r = mf_Tw_whole a f)) 0 0 (fun _ => False) := by
  refine Met.ofW (cc := prog_4_method_11_code) (maxL := 8) (ret := some .long) (by decide) rfl ?_
  intro p e s m args below meth c s₁ B hml hv
  obtain ⟨rfl, hC⟩ := hv
  have hx := B.exec
  have hb := B.bytes
  have hr := B.returns
  have hts := atoms_spec (ws := w_Tw_whole) B.pre
  have hown : s.vm.findClass "NumberBenchModel" = some m.cls := findClass_of_methodNamed B.named
  have hlocks := B.notSynchronized
  have hC : nb_C ad (fun _ => False) s s.heap := hC
  have hS : va_S (fun _ => False) s.heap s.heap [] := va_S.rf
  have hl := lv_entry ([.long a, .int (nI f)]) (n := 8) (Nat.le_of_ble_eq_true rfl)
  rw [lg_entry_eq]
  generalize (lg_sl ([.long a, .int (nI f)]) ++ List.replicate (8 - (lg_sl ([.long a, .int (nI f)])).length) Slot.unset).toArray = ls at hl ⊢
  have hl : lv_has ls 8 [(0, .long a), (2, .int (nI f))] := hl
  refine va_gets (v := .ref (ad 2)) hx hb (nb_ZPl hC) hS hown (hts _ (nb_c nb_t308)) (fun _ h => h) d_Tw_whole_0 ?_
  refine lv_iload_n hx hb d_Tw_whole_3 rfl (lv_at hl 1 rfl) ?_
  refine va_ti (v := .int (tw_pl f)) hx hb (nb_TPl hC) hS (nb_in2 h_f) (nb_cl2 h_f) d_Tw_whole_4 ?_
  refine lv_iconst (v := 1) hx hb d_Tw_whole_5 (by decide) ?_
  refine lv_isub hx hb d_Tw_whole_6 ?_
  refine lv_istore_n hx hb d_Tw_whole_7 rfl hl (by decide) rfl (fun ls hl => ?_)
  have hl : lv_has ls 8 [(3, .int ((tw_pl f) - (1 : Int32))), (0, .long a), (2, .int (nI f))] := hl
  refine lv_lload_n hx hb d_Tw_whole_8 rfl (lv_at hl 1 rfl) ?_
  refine lv_iload_n hx hb d_Tw_whole_9 rfl (lv_at hl 2 rfl) ?_
  refine nb_callSl (As := [.long a, .int (nI f)]) (rest := []) hx hb hml hown hts (c_Tw_size l ad a f h_f) nb_t280 nb_t281 nb_t2 nb_t282 hd_Tw_size rfl ⟨Nat.le_of_ble_eq_true rfl, Nat.le_of_ble_eq_true rfl⟩ ⟨rfl, rfl⟩ hC hS hl.1 rfl (Nat.le_of_ble_eq_true rfl) ⟨Nat.le_of_ble_eq_true rfl, Nat.le_of_ble_eq_true rfl⟩ d_Tw_whole_10 ?_
  refine lv_lstore hx hb d_Tw_whole_13 hl (by decide) rfl (fun ls hl => ?_)
  have hl : lv_has ls 8 [(4, .long (mf_Tw_size a f)), (3, .int ((tw_pl f) - (1 : Int32))), (0, .long a), (2, .int (nI f))] := hl
  refine lv_lload hx hb d_Tw_whole_15 (lv_at hl 0 rfl) ?_
  refine lv_lconst (v := 1) hx hb d_Tw_whole_17 (by decide) ?_
  refine lv_iload_n hx hb d_Tw_whole_18 rfl (lv_at hl 1 rfl) ?_
  refine lv_lshl hx hb d_Tw_whole_19 rfl ?_
  refine lv_lconst (v := 1) hx hb d_Tw_whole_20 (by decide) ?_
  refine lv_lsub hx hb d_Tw_whole_21 ?_
  refine lv_land hx hb d_Tw_whole_22 ?_
  refine lv_topl (fun v1 ev1 => ?_)
  refine lv_lstore hx hb d_Tw_whole_23 hl (by decide) rfl (fun ls hl => ?_)
  have hl : lv_has ls 8 [(6, .long v1), (4, .long (mf_Tw_size a f)), (3, .int ((tw_pl f) - (1 : Int32))), (0, .long a), (2, .int (nI f))] := hl
  refine lv_lload hx hb d_Tw_whole_25 (lv_at hl 1 rfl) ?_
  refine lv_iload_n hx hb d_Tw_whole_27 rfl (lv_at hl 2 rfl) ?_
  refine lv_lushr hx hb d_Tw_whole_28 rfl ?_
  refine lv_lconst (v := 0) hx hb d_Tw_whole_29 (by decide) ?_
  refine nb_lc_ne (tgt := 39) hx hb d_Tw_whole_30 d_Tw_whole_31 (by decide) (fun h2 => ?_) (fun h2 => ?_)
  · refine lv_lload hx hb d_Tw_whole_39 (lv_at hl 0 rfl) ?_
    refine lv_lconst (v := 1) hx hb d_Tw_whole_41 (by decide) ?_
    refine lv_iload_n hx hb d_Tw_whole_42 rfl (lv_at hl 2 rfl) ?_
    refine lv_lshl hx hb d_Tw_whole_43 rfl ?_
    refine lv_lor hx hb d_Tw_whole_44 ?_
    exact W.lret hx hb hr (fun t ht hW => ⟨_, rfl, (by subst ev1; rw [mf_Tw_whole, if_neg h2]), ht⟩) t_nil d_Tw_whole_45
  · refine lv_lload hx hb d_Tw_whole_34 (lv_at hl 0 rfl) ?_
    refine lv_goto (tgt := 45) hx hb d_Tw_whole_36 (by decide) ?_
    exact W.lret hx hb hr (fun t ht hW => ⟨_, rfl, (by subst ev1; rw [mf_Tw_whole, if_pos h2]), ht⟩) t_nil d_Tw_whole_45
def y_Tw_power : MethodName := ⟨"NumberBenchModel", "power", "(JI)I"⟩
abbrev w_Tw_power : List Cond := Cond.code y_Tw_power prog_4_method_12_code 5 (Option.some FieldType.int) :: nb_tb
theorem hd_Tw_power : y_Tw_power.cls ≠ "java/lang/invoke/MethodHandle" ∧ y_Tw_power.cls ≠ "java/lang/invoke/VarHandle" ∧ (parseMethodDescriptor y_Tw_power.desc).map (fun d => d.parameters.length) = some 2 := by decide +kernel
theorem d_Tw_power_0 : decode prog_4_method_12_code 0 = .ok (.lload_n 0, 1) := by decide +kernel
theorem d_Tw_power_1 : decode prog_4_method_12_code 1 = .ok (.iload_n 2, 1) := by decide +kernel
theorem d_Tw_power_2 : decode prog_4_method_12_code 2 = .ok (.invokestatic 15, 3) := by decide +kernel
theorem d_Tw_power_5 : decode prog_4_method_12_code 5 = .ok (.getstatic 23, 3) := by decide +kernel
theorem d_Tw_power_8 : decode prog_4_method_12_code 8 = .ok (.iload_n 2, 1) := by decide +kernel
theorem d_Tw_power_9 : decode prog_4_method_12_code 9 = .ok (.iaload, 1) := by decide +kernel
theorem d_Tw_power_10 : decode prog_4_method_12_code 10 = .ok (.iconst 1, 1) := by decide +kernel
theorem d_Tw_power_11 : decode prog_4_method_12_code 11 = .ok (.isub, 1) := by decide +kernel
theorem d_Tw_power_12 : decode prog_4_method_12_code 12 = .ok (.lushr, 1) := by decide +kernel
theorem d_Tw_power_13 : decode prog_4_method_12_code 13 = .ok (.lstore_n 3, 1) := by decide +kernel
theorem d_Tw_power_14 : decode prog_4_method_12_code 14 = .ok (.getstatic 27, 3) := by decide +kernel
theorem d_Tw_power_17 : decode prog_4_method_12_code 17 = .ok (.iload_n 2, 1) := by decide +kernel
theorem d_Tw_power_18 : decode prog_4_method_12_code 18 = .ok (.iaload, 1) := by decide +kernel
theorem d_Tw_power_19 : decode prog_4_method_12_code 19 = .ok (.lload_n 3, 1) := by decide +kernel
theorem d_Tw_power_20 : decode prog_4_method_12_code 20 = .ok (.lconst 1, 1) := by decide +kernel
theorem d_Tw_power_21 : decode prog_4_method_12_code 21 = .ok (.invokestatic 30, 3) := by decide +kernel
theorem d_Tw_power_24 : decode prog_4_method_12_code 24 = .ok (.l2i, 1) := by decide +kernel
theorem d_Tw_power_25 : decode prog_4_method_12_code 25 = .ok (.iadd, 1) := by decide +kernel
theorem d_Tw_power_26 : decode prog_4_method_12_code 26 = .ok (.iconst 1, 1) := by decide +kernel
theorem d_Tw_power_27 : decode prog_4_method_12_code 27 = .ok (.isub, 1) := by decide +kernel
theorem d_Tw_power_28 : decode prog_4_method_12_code 28 = .ok (.ireturn, 1) := by decide +kernel
set_option maxHeartbeats 1200000 in
set_option maxRecDepth 100000 in
theorem c_Tw_power (l : Launch) (ad : Nat → Nat) (a : Int64) (f : Nat) (h_f : f < 2) : Met l y_Tw_power w_Tw_power ({ frames := 2, cells := 0, slots := 0, locals := 42 } : Room) (va_Pc [.long a, .int (nI f)] (nb_K ad)) (vp_Si (fun r => r = mf_Tw_power a f)) 0 0 (fun _ => False) := by
  refine Met.ofW (cc := prog_4_method_12_code) (maxL := 5) (ret := some .int) (by decide) rfl ?_
  intro p e s m args below meth c s₁ B hml hv
  obtain ⟨rfl, hC⟩ := hv
  have hx := B.exec
  have hb := B.bytes
  have hr := B.returns
  have hts := atoms_spec (ws := w_Tw_power) B.pre
  have hown : s.vm.findClass "NumberBenchModel" = some m.cls := findClass_of_methodNamed B.named
  have hlocks := B.notSynchronized
  have hC : nb_C ad (fun _ => False) s s.heap := hC
  have hS : va_S (fun _ => False) s.heap s.heap [] := va_S.rf
  have hl := lv_entry ([.long a, .int (nI f)]) (n := 5) (Nat.le_of_ble_eq_true rfl)
  rw [lg_entry_eq]
  generalize (lg_sl ([.long a, .int (nI f)]) ++ List.replicate (5 - (lg_sl ([.long a, .int (nI f)])).length) Slot.unset).toArray = ls at hl ⊢
  have hl : lv_has ls 5 [(0, .long a), (2, .int (nI f))] := hl
  refine lv_lload_n hx hb d_Tw_power_0 rfl (lv_at hl 0 rfl) ?_
  refine lv_iload_n hx hb d_Tw_power_1 rfl (lv_at hl 1 rfl) ?_
  refine nb_callSl (As := [.long a, .int (nI f)]) (rest := []) hx hb hml hown hts (c_Tw_size l ad a f h_f) nb_t280 nb_t281 nb_t2 nb_t282 hd_Tw_size rfl ⟨Nat.le_of_ble_eq_true rfl, Nat.le_of_ble_eq_true rfl⟩ ⟨rfl, rfl⟩ hC hS hl.1 rfl (Nat.le_of_ble_eq_true rfl) ⟨Nat.le_of_ble_eq_true rfl, Nat.le_of_ble_eq_true rfl⟩ d_Tw_power_2 ?_
  refine va_gets (v := .ref (ad 2)) hx hb (nb_ZPl hC) hS hown (hts _ (nb_c nb_t308)) (fun _ h => h) d_Tw_power_5 ?_
  refine lv_iload_n hx hb d_Tw_power_8 rfl (lv_at hl 1 rfl) ?_
  refine va_ti (v := .int (tw_pl f)) hx hb (nb_TPl hC) hS (nb_in2 h_f) (nb_cl2 h_f) d_Tw_power_9 ?_
  refine lv_iconst (v := 1) hx hb d_Tw_power_10 (by decide) ?_
  refine lv_isub hx hb d_Tw_power_11 ?_
  refine lv_lushr hx hb d_Tw_power_12 rfl ?_
  refine lv_topl (fun v1 ev1 => ?_)
  refine lv_lstore_n hx hb d_Tw_power_13 rfl hl (by decide) rfl (fun ls hl => ?_)
  have hl : lv_has ls 5 [(3, .long v1), (0, .long a), (2, .int (nI f))] := hl
  refine va_gets (v := .ref (ad 3)) hx hb (nb_ZLe hC) hS hown (hts _ (nb_c nb_t313)) (fun _ h => h) d_Tw_power_14 ?_
  refine lv_iload_n hx hb d_Tw_power_17 rfl (lv_at hl 2 rfl) ?_
  refine va_ti (v := .int (tw_le f)) hx hb (nb_TLe hC) hS (nb_in2 h_f) (nb_cl2 h_f) d_Tw_power_18 ?_
  refine lv_lload_n hx hb d_Tw_power_19 rfl (lv_at hl 0 rfl) ?_
  refine lv_lconst (v := 1) hx hb d_Tw_power_20 (by decide) ?_
  refine va_mmax_long hx hb (by rw [hml]; exact hl.1.symm) hown (hts _ (nb_c nb_t315)) (hts _ (nb_c nb_t208)) (hts _ (nb_c nb_t5)) (hts _ (nb_c nb_code_va_mmax_long)) (Nat.le_of_ble_eq_true rfl) (Nat.le_of_ble_eq_true rfl) (Nat.le_of_ble_eq_true rfl) (Nat.le_of_ble_eq_true rfl) d_Tw_power_21 ?_
  refine lv_l2i hx hb d_Tw_power_24 rfl ?_
  refine lv_iadd hx hb d_Tw_power_25 ?_
  refine lv_iconst (v := 1) hx hb d_Tw_power_26 (by decide) ?_
  refine lv_isub hx hb d_Tw_power_27 ?_
  exact W.iret hx hb hr (fun t ht hW => ⟨_, rfl, (by subst ev1; rw [mf_Tw_power]), ht⟩) t_nil d_Tw_power_28
