def y_Fo_magnitude : MethodName := ⟨"NumberBench$Form", "magnitude", "(J)J"⟩
abbrev w_Fo_magnitude : List Cond := Cond.code y_Fo_magnitude prog_2_method_16_code 3 (Option.some FieldType.long) :: nb_tb
theorem hd_Fo_magnitude : y_Fo_magnitude.cls ≠ "java/lang/invoke/MethodHandle" ∧ y_Fo_magnitude.cls ≠ "java/lang/invoke/VarHandle" ∧ (parseMethodDescriptor y_Fo_magnitude.desc).map (fun d => d.parameters.length) = some 1 := by decide +kernel
theorem d_Fo_magnitude_0 : decode prog_2_method_16_code 0 = .ok (.lload_n 1, 1) := by decide +kernel
theorem d_Fo_magnitude_1 : decode prog_2_method_16_code 1 = .ok (.aload_n 0, 1) := by decide +kernel
theorem d_Fo_magnitude_2 : decode prog_2_method_16_code 2 = .ok (.getfield 41, 3) := by decide +kernel
theorem d_Fo_magnitude_5 : decode prog_2_method_16_code 5 = .ok (.lconst 1, 1) := by decide +kernel
theorem d_Fo_magnitude_6 : decode prog_2_method_16_code 6 = .ok (.lsub, 1) := by decide +kernel
theorem d_Fo_magnitude_7 : decode prog_2_method_16_code 7 = .ok (.land, 1) := by decide +kernel
theorem d_Fo_magnitude_8 : decode prog_2_method_16_code 8 = .ok (.lreturn, 1) := by decide +kernel
set_option maxHeartbeats 1200000 in
set_option maxRecDepth 100000 in
theorem c_Fo_magnitude (l : Launch) (ad : Nat → Nat) (i : Nat) (a : Int64) (h_i : i < 2) : Met l y_Fo_magnitude w_Fo_magnitude ({ frames := 0, cells := 0, slots := 0, locals := 0 } : Room) (va_Pc [.ref (ad i), .long a] (nb_K ad)) (vp_Sl (fun r => r = mf_Fo_magnitude i a)) 0 0 (fun _ => False) := by
  refine Met.ofW (cc := prog_2_method_16_code) (maxL := 3) (ret := some .long) (by decide) rfl ?_
  intro p e s m args below meth c s₁ B hml hv
  obtain ⟨rfl, hC⟩ := hv
  have hx := B.exec
  have hb := B.bytes
  have hr := B.returns
  have hts := atoms_spec (ws := w_Fo_magnitude) B.pre
  have hown : s.vm.findClass "NumberBench$Form" = some m.cls := findClass_of_methodNamed B.named
  have hlocks := B.notSynchronized
  have hC : nb_C ad (fun _ => False) s s.heap := hC
  have hS : va_S (fun _ => False) s.heap s.heap [] := va_S.rf
  have hl := lv_entry ([.ref (ad i), .long a]) (n := 3) (Nat.le_of_ble_eq_true rfl)
  rw [lg_entry_eq]
  generalize (lg_sl ([.ref (ad i), .long a]) ++ List.replicate (3 - (lg_sl ([.ref (ad i), .long a])).length) Slot.unset).toArray = ls at hl ⊢
  have hl : lv_has ls 3 [(0, .ref (ad i)), (1, .long a)] := hl
  refine lv_lload_n hx hb d_Fo_magnitude_0 rfl (lv_at hl 1 rfl) ?_
  refine lv_aload_n hx hb d_Fo_magnitude_1 rfl (lv_at hl 0 rfl) ?_
  refine vk_getf (v := .long (fo_sign i)) hx hb (nb_f_sign hC h_i) hS hown (hts _ (nb_c nb_t426)) (fun _ h => h) d_Fo_magnitude_2 ?_
  refine lv_lconst (v := 1) hx hb d_Fo_magnitude_5 (by decide) ?_
  refine lv_lsub hx hb d_Fo_magnitude_6 ?_
  refine lv_land hx hb d_Fo_magnitude_7 ?_
  exact W.lret hx hb hr (fun t ht hW => ⟨_, rfl, (by rw [mf_Fo_magnitude]), ht⟩) t_nil d_Fo_magnitude_8
def y_Fo_isNoNumber : MethodName := ⟨"NumberBench$Form", "isNoNumber", "(J)Z"⟩
abbrev w_Fo_isNoNumber : List Cond := Cond.code y_Fo_isNoNumber prog_2_method_5_code 3 (Option.some FieldType.boolean) :: nb_tb
theorem hd_Fo_isNoNumber : y_Fo_isNoNumber.cls ≠ "java/lang/invoke/MethodHandle" ∧ y_Fo_isNoNumber.cls ≠ "java/lang/invoke/VarHandle" ∧ (parseMethodDescriptor y_Fo_isNoNumber.desc).map (fun d => d.parameters.length) = some 1 := by decide +kernel
theorem d_Fo_isNoNumber_0 : decode prog_2_method_5_code 0 = .ok (.aload_n 0, 1) := by decide +kernel
theorem d_Fo_isNoNumber_1 : decode prog_2_method_5_code 1 = .ok (.lload_n 1, 1) := by decide +kernel
theorem d_Fo_isNoNumber_2 : decode prog_2_method_5_code 2 = .ok (.invokevirtual 58, 3) := by decide +kernel
theorem d_Fo_isNoNumber_5 : decode prog_2_method_5_code 5 = .ok (.aload_n 0, 1) := by decide +kernel
theorem d_Fo_isNoNumber_6 : decode prog_2_method_5_code 6 = .ok (.getfield 48, 3) := by decide +kernel
theorem d_Fo_isNoNumber_9 : decode prog_2_method_5_code 9 = .ok (.lcmp, 1) := by decide +kernel
theorem d_Fo_isNoNumber_10 : decode prog_2_method_5_code 10 = .ok (.ifCond .le 7, 3) := by decide +kernel
theorem d_Fo_isNoNumber_13 : decode prog_2_method_5_code 13 = .ok (.iconst 1, 1) := by decide +kernel
theorem d_Fo_isNoNumber_14 : decode prog_2_method_5_code 14 = .ok (.goto 4, 3) := by decide +kernel
theorem d_Fo_isNoNumber_17 : decode prog_2_method_5_code 17 = .ok (.iconst 0, 1) := by decide +kernel
theorem d_Fo_isNoNumber_18 : decode prog_2_method_5_code 18 = .ok (.ireturn, 1) := by decide +kernel
set_option maxHeartbeats 1200000 in
set_option maxRecDepth 100000 in
theorem c_Fo_isNoNumber (l : Launch) (ad : Nat → Nat) (i : Nat) (a : Int64) (h_i : i < 2) : Met l y_Fo_isNoNumber w_Fo_isNoNumber ({ frames := 1, cells := 0, slots := 0, locals := 22 } : Room) (va_Pc [.ref (ad i), .long a] (nb_K ad)) (vp_Si (fun r => r = mf_Fo_isNoNumber i a)) 0 0 (fun _ => False) := by
  refine Met.ofW (cc := prog_2_method_5_code) (maxL := 3) (ret := some .boolean) (by decide) rfl ?_
  intro p e s m args below meth c s₁ B hml hv
  obtain ⟨rfl, hC⟩ := hv
  have hx := B.exec
  have hb := B.bytes
  have hr := B.returns
  have hts := atoms_spec (ws := w_Fo_isNoNumber) B.pre
  have hown : s.vm.findClass "NumberBench$Form" = some m.cls := findClass_of_methodNamed B.named
  have hlocks := B.notSynchronized
  have hC : nb_C ad (fun _ => False) s s.heap := hC
  have hS : va_S (fun _ => False) s.heap s.heap [] := va_S.rf
  have hl := lv_entry ([.ref (ad i), .long a]) (n := 3) (Nat.le_of_ble_eq_true rfl)
  rw [lg_entry_eq]
  generalize (lg_sl ([.ref (ad i), .long a]) ++ List.replicate (3 - (lg_sl ([.ref (ad i), .long a])).length) Slot.unset).toArray = ls at hl ⊢
  have hl : lv_has ls 3 [(0, .ref (ad i)), (1, .long a)] := hl
  refine lv_aload_n hx hb d_Fo_isNoNumber_0 rfl (lv_at hl 0 rfl) ?_
  refine lv_lload_n hx hb d_Fo_isNoNumber_1 rfl (lv_at hl 1 rfl) ?_
  refine nb_callVl (As := [.long a]) (rest := []) hx hb hml hown hts (c_Fo_magnitude l ad i a h_i) nb_t38 nb_t40 nb_s0 h_i nb_t4 nb_t42 hd_Fo_magnitude rfl ⟨Nat.le_of_ble_eq_true rfl, Nat.le_of_ble_eq_true rfl⟩ ⟨rfl, rfl⟩ hC hS hl.1 rfl (Nat.le_of_ble_eq_true rfl) ⟨Nat.le_of_ble_eq_true rfl, Nat.le_of_ble_eq_true rfl⟩ d_Fo_isNoNumber_2 ?_
  refine lv_aload_n hx hb d_Fo_isNoNumber_5 rfl (lv_at hl 0 rfl) ?_
  refine vk_getf (v := .long (fo_inf i)) hx hb (nb_f_inf hC h_i) hS hown (hts _ (nb_c nb_t427)) (fun _ h => h) d_Fo_isNoNumber_6 ?_
  refine nb_lc_le (tgt := 17) hx hb d_Fo_isNoNumber_9 d_Fo_isNoNumber_10 (by decide) (fun h1 => ?_) (fun h1 => ?_)
  · refine lv_iconst (v := 0) hx hb d_Fo_isNoNumber_17 (by decide) ?_
    exact W.zret (ty := .boolean) hx hb hr (by decide) (fun t ht hW => ⟨_, rfl, (by rw [mf_Fo_isNoNumber, if_pos h1]), ht⟩) t_nil d_Fo_isNoNumber_18
  · refine lv_iconst (v := 1) hx hb d_Fo_isNoNumber_13 (by decide) ?_
    refine lv_goto (tgt := 18) hx hb d_Fo_isNoNumber_14 (by decide) ?_
    exact W.zret (ty := .boolean) hx hb hr (by decide) (fun t ht hW => ⟨_, rfl, (by rw [mf_Fo_isNoNumber, if_neg h1]), ht⟩) t_nil d_Fo_isNoNumber_18
def y_Fo_isZero : MethodName := ⟨"NumberBench$Form", "isZero", "(J)Z"⟩
abbrev w_Fo_isZero : List Cond := Cond.code y_Fo_isZero prog_2_method_6_code 3 (Option.some FieldType.boolean) :: nb_tb
theorem hd_Fo_isZero : y_Fo_isZero.cls ≠ "java/lang/invoke/MethodHandle" ∧ y_Fo_isZero.cls ≠ "java/lang/invoke/VarHandle" ∧ (parseMethodDescriptor y_Fo_isZero.desc).map (fun d => d.parameters.length) = some 1 := by decide +kernel
theorem d_Fo_isZero_0 : decode prog_2_method_6_code 0 = .ok (.aload_n 0, 1) := by decide +kernel
theorem d_Fo_isZero_1 : decode prog_2_method_6_code 1 = .ok (.lload_n 1, 1) := by decide +kernel
theorem d_Fo_isZero_2 : decode prog_2_method_6_code 2 = .ok (.invokevirtual 58, 3) := by decide +kernel
theorem d_Fo_isZero_5 : decode prog_2_method_6_code 5 = .ok (.lconst 0, 1) := by decide +kernel
theorem d_Fo_isZero_6 : decode prog_2_method_6_code 6 = .ok (.lcmp, 1) := by decide +kernel
theorem d_Fo_isZero_7 : decode prog_2_method_6_code 7 = .ok (.ifCond .ne 7, 3) := by decide +kernel
theorem d_Fo_isZero_10 : decode prog_2_method_6_code 10 = .ok (.iconst 1, 1) := by decide +kernel
theorem d_Fo_isZero_11 : decode prog_2_method_6_code 11 = .ok (.goto 4, 3) := by decide +kernel
theorem d_Fo_isZero_14 : decode prog_2_method_6_code 14 = .ok (.iconst 0, 1) := by decide +kernel
theorem d_Fo_isZero_15 : decode prog_2_method_6_code 15 = .ok (.ireturn, 1) := by decide +kernel
set_option maxHeartbeats 1200000 in
set_option maxRecDepth 100000 in
theorem c_Fo_isZero (l : Launch) (ad : Nat → Nat) (i : Nat) (a : Int64) (h_i : i < 2) : Met l y_Fo_isZero w_Fo_isZero ({ frames := 1, cells := 0, slots := 0, locals := 22 } : Room) (va_Pc [.ref (ad i), .long a] (nb_K ad)) (vp_Si (fun r => r = mf_Fo_isZero i a)) 0 0 (fun _ => False) := by
  refine Met.ofW (cc := prog_2_method_6_code) (maxL := 3) (ret := some .boolean) (by decide) rfl ?_
  intro p e s m args below meth c s₁ B hml hv
  obtain ⟨rfl, hC⟩ := hv
  have hx := B.exec
  have hb := B.bytes
  have hr := B.returns
  have hts := atoms_spec (ws := w_Fo_isZero) B.pre
  have hown : s.vm.findClass "NumberBench$Form" = some m.cls := findClass_of_methodNamed B.named
  have hlocks := B.notSynchronized
  have hC : nb_C ad (fun _ => False) s s.heap := hC
  have hS : va_S (fun _ => False) s.heap s.heap [] := va_S.rf
  have hl := lv_entry ([.ref (ad i), .long a]) (n := 3) (Nat.le_of_ble_eq_true rfl)
  rw [lg_entry_eq]
  generalize (lg_sl ([.ref (ad i), .long a]) ++ List.replicate (3 - (lg_sl ([.ref (ad i), .long a])).length) Slot.unset).toArray = ls at hl ⊢
  have hl : lv_has ls 3 [(0, .ref (ad i)), (1, .long a)] := hl
  refine lv_aload_n hx hb d_Fo_isZero_0 rfl (lv_at hl 0 rfl) ?_
  refine lv_lload_n hx hb d_Fo_isZero_1 rfl (lv_at hl 1 rfl) ?_
  refine nb_callVl (As := [.long a]) (rest := []) hx hb hml hown hts (c_Fo_magnitude l ad i a h_i) nb_t38 nb_t40 nb_s0 h_i nb_t4 nb_t42 hd_Fo_magnitude rfl ⟨Nat.le_of_ble_eq_true rfl, Nat.le_of_ble_eq_true rfl⟩ ⟨rfl, rfl⟩ hC hS hl.1 rfl (Nat.le_of_ble_eq_true rfl) ⟨Nat.le_of_ble_eq_true rfl, Nat.le_of_ble_eq_true rfl⟩ d_Fo_isZero_2 ?_
  refine lv_lconst (v := 0) hx hb d_Fo_isZero_5 (by decide) ?_
  refine nb_lc_ne (tgt := 14) hx hb d_Fo_isZero_6 d_Fo_isZero_7 (by decide) (fun h1 => ?_) (fun h1 => ?_)
  · refine lv_iconst (v := 0) hx hb d_Fo_isZero_14 (by decide) ?_
    exact W.zret (ty := .boolean) hx hb hr (by decide) (fun t ht hW => ⟨_, rfl, (by rw [mf_Fo_isZero, if_neg h1]), ht⟩) t_nil d_Fo_isZero_15
  · refine lv_iconst (v := 1) hx hb d_Fo_isZero_10 (by decide) ?_
    refine lv_goto (tgt := 15) hx hb d_Fo_isZero_11 (by decide) ?_
    exact W.zret (ty := .boolean) hx hb hr (by decide) (fun t ht hW => ⟨_, rfl, (by rw [mf_Fo_isZero, if_pos h1]), ht⟩) t_nil d_Fo_isZero_15
def y_Fo_isNegative : MethodName := ⟨"NumberBench$Form", "isNegative", "(J)Z"⟩
abbrev w_Fo_isNegative : List Cond := Cond.code y_Fo_isNegative prog_2_method_17_code 3 (Option.some FieldType.boolean) :: nb_tb
theorem hd_Fo_isNegative : y_Fo_isNegative.cls ≠ "java/lang/invoke/MethodHandle" ∧ y_Fo_isNegative.cls ≠ "java/lang/invoke/VarHandle" ∧ (parseMethodDescriptor y_Fo_isNegative.desc).map (fun d => d.parameters.length) = some 1 := by decide +kernel
theorem d_Fo_isNegative_0 : decode prog_2_method_17_code 0 = .ok (.lload_n 1, 1) := by decide +kernel
theorem d_Fo_isNegative_1 : decode prog_2_method_17_code 1 = .ok (.aload_n 0, 1) := by decide +kernel
theorem d_Fo_isNegative_2 : decode prog_2_method_17_code 2 = .ok (.getfield 41, 3) := by decide +kernel
theorem d_Fo_isNegative_5 : decode prog_2_method_17_code 5 = .ok (.land, 1) := by decide +kernel
theorem d_Fo_isNegative_6 : decode prog_2_method_17_code 6 = .ok (.lconst 0, 1) := by decide +kernel
theorem d_Fo_isNegative_7 : decode prog_2_method_17_code 7 = .ok (.lcmp, 1) := by decide +kernel
theorem d_Fo_isNegative_8 : decode prog_2_method_17_code 8 = .ok (.ifCond .eq 7, 3) := by decide +kernel
theorem d_Fo_isNegative_11 : decode prog_2_method_17_code 11 = .ok (.iconst 1, 1) := by decide +kernel
theorem d_Fo_isNegative_12 : decode prog_2_method_17_code 12 = .ok (.goto 4, 3) := by decide +kernel
theorem d_Fo_isNegative_15 : decode prog_2_method_17_code 15 = .ok (.iconst 0, 1) := by decide +kernel
theorem d_Fo_isNegative_16 : decode prog_2_method_17_code 16 = .ok (.ireturn, 1) := by decide +kernel
set_option maxHeartbeats 1200000 in
set_option maxRecDepth 100000 in
theorem c_Fo_isNegative (l : Launch) (ad : Nat → Nat) (i : Nat) (a : Int64) (h_i : i < 2) : Met l y_Fo_isNegative w_Fo_isNegative ({ frames := 0, cells := 0, slots := 0, locals := 0 } : Room) (va_Pc [.ref (ad i), .long a] (nb_K ad)) (vp_Si (fun r => r = mf_Fo_isNegative i a)) 0 0 (fun _ => False) := by
  refine Met.ofW (cc := prog_2_method_17_code) (maxL := 3) (ret := some .boolean) (by decide) rfl ?_
  intro p e s m args below meth c s₁ B hml hv
  obtain ⟨rfl, hC⟩ := hv
  have hx := B.exec
  have hb := B.bytes
  have hr := B.returns
  have hts := atoms_spec (ws := w_Fo_isNegative) B.pre
  have hown : s.vm.findClass "NumberBench$Form" = some m.cls := findClass_of_methodNamed B.named
  have hlocks := B.notSynchronized
  have hC : nb_C ad (fun _ => False) s s.heap := hC
  have hS : va_S (fun _ => False) s.heap s.heap [] := va_S.rf
  have hl := lv_entry ([.ref (ad i), .long a]) (n := 3) (Nat.le_of_ble_eq_true rfl)
  rw [lg_entry_eq]
  generalize (lg_sl ([.ref (ad i), .long a]) ++ List.replicate (3 - (lg_sl ([.ref (ad i), .long a])).length) Slot.unset).toArray = ls at hl ⊢
  have hl : lv_has ls 3 [(0, .ref (ad i)), (1, .long a)] := hl
  refine lv_lload_n hx hb d_Fo_isNegative_0 rfl (lv_at hl 1 rfl) ?_
  refine lv_aload_n hx hb d_Fo_isNegative_1 rfl (lv_at hl 0 rfl) ?_
  refine vk_getf (v := .long (fo_sign i)) hx hb (nb_f_sign hC h_i) hS hown (hts _ (nb_c nb_t426)) (fun _ h => h) d_Fo_isNegative_2 ?_
  refine lv_land hx hb d_Fo_isNegative_5 ?_
  refine lv_lconst (v := 0) hx hb d_Fo_isNegative_6 (by decide) ?_
  refine nb_lc_eq (tgt := 15) hx hb d_Fo_isNegative_7 d_Fo_isNegative_8 (by decide) (fun h1 => ?_) (fun h1 => ?_)
  · refine lv_iconst (v := 0) hx hb d_Fo_isNegative_15 (by decide) ?_
    exact W.zret (ty := .boolean) hx hb hr (by decide) (fun t ht hW => ⟨_, rfl, (by rw [mf_Fo_isNegative, if_pos h1]), ht⟩) t_nil d_Fo_isNegative_16
  · refine lv_iconst (v := 1) hx hb d_Fo_isNegative_11 (by decide) ?_
    refine lv_goto (tgt := 16) hx hb d_Fo_isNegative_12 (by decide) ?_
    exact W.zret (ty := .boolean) hx hb hr (by decide) (fun t ht hW => ⟨_, rfl, (by rw [mf_Fo_isNegative, if_neg h1]), ht⟩) t_nil d_Fo_isNegative_16
def y_Fo_isInfinite : MethodName := ⟨"NumberBench$Form", "isInfinite", "(J)Z"⟩
abbrev w_Fo_isInfinite : List Cond := Cond.code y_Fo_isInfinite prog_2_method_18_code 3 (Option.some FieldType.boolean) :: nb_tb
theorem hd_Fo_isInfinite : y_Fo_isInfinite.cls ≠ "java/lang/invoke/MethodHandle" ∧ y_Fo_isInfinite.cls ≠ "java/lang/invoke/VarHandle" ∧ (parseMethodDescriptor y_Fo_isInfinite.desc).map (fun d => d.parameters.length) = some 1 := by decide +kernel
theorem d_Fo_isInfinite_0 : decode prog_2_method_18_code 0 = .ok (.aload_n 0, 1) := by decide +kernel
theorem d_Fo_isInfinite_1 : decode prog_2_method_18_code 1 = .ok (.lload_n 1, 1) := by decide +kernel
theorem d_Fo_isInfinite_2 : decode prog_2_method_18_code 2 = .ok (.invokevirtual 58, 3) := by decide +kernel
theorem d_Fo_isInfinite_5 : decode prog_2_method_18_code 5 = .ok (.aload_n 0, 1) := by decide +kernel
theorem d_Fo_isInfinite_6 : decode prog_2_method_18_code 6 = .ok (.getfield 48, 3) := by decide +kernel
theorem d_Fo_isInfinite_9 : decode prog_2_method_18_code 9 = .ok (.lcmp, 1) := by decide +kernel
theorem d_Fo_isInfinite_10 : decode prog_2_method_18_code 10 = .ok (.ifCond .ne 7, 3) := by decide +kernel
theorem d_Fo_isInfinite_13 : decode prog_2_method_18_code 13 = .ok (.iconst 1, 1) := by decide +kernel
theorem d_Fo_isInfinite_14 : decode prog_2_method_18_code 14 = .ok (.goto 4, 3) := by decide +kernel
theorem d_Fo_isInfinite_17 : decode prog_2_method_18_code 17 = .ok (.iconst 0, 1) := by decide +kernel
theorem d_Fo_isInfinite_18 : decode prog_2_method_18_code 18 = .ok (.ireturn, 1) := by decide +kernel
set_option maxHeartbeats 1200000 in
set_option maxRecDepth 100000 in
theorem c_Fo_isInfinite (l : Launch) (ad : Nat → Nat) (i : Nat) (a : Int64) (h_i : i < 2) : Met l y_Fo_isInfinite w_Fo_isInfinite ({ frames := 1, cells := 0, slots := 0, locals := 22 } : Room) (va_Pc [.ref (ad i), .long a] (nb_K ad)) (vp_Si (fun r => r = mf_Fo_isInfinite i a)) 0 0 (fun _ => False) := by
  refine Met.ofW (cc := prog_2_method_18_code) (maxL := 3) (ret := some .boolean) (by decide) rfl ?_
  intro p e s m args below meth c s₁ B hml hv
  obtain ⟨rfl, hC⟩ := hv
  have hx := B.exec
  have hb := B.bytes
  have hr := B.returns
  have hts := atoms_spec (ws := w_Fo_isInfinite) B.pre
  have hown : s.vm.findClass "NumberBench$Form" = some m.cls := findClass_of_methodNamed B.named
  have hlocks := B.notSynchronized
  have hC : nb_C ad (fun _ => False) s s.heap := hC
  have hS : va_S (fun _ => False) s.heap s.heap [] := va_S.rf
  have hl := lv_entry ([.ref (ad i), .long a]) (n := 3) (Nat.le_of_ble_eq_true rfl)
  rw [lg_entry_eq]
  generalize (lg_sl ([.ref (ad i), .long a]) ++ List.replicate (3 - (lg_sl ([.ref (ad i), .long a])).length) Slot.unset).toArray = ls at hl ⊢
  have hl : lv_has ls 3 [(0, .ref (ad i)), (1, .long a)] := hl
  refine lv_aload_n hx hb d_Fo_isInfinite_0 rfl (lv_at hl 0 rfl) ?_
  refine lv_lload_n hx hb d_Fo_isInfinite_1 rfl (lv_at hl 1 rfl) ?_
  refine nb_callVl (As := [.long a]) (rest := []) hx hb hml hown hts (c_Fo_magnitude l ad i a h_i) nb_t38 nb_t40 nb_s0 h_i nb_t4 nb_t42 hd_Fo_magnitude rfl ⟨Nat.le_of_ble_eq_true rfl, Nat.le_of_ble_eq_true rfl⟩ ⟨rfl, rfl⟩ hC hS hl.1 rfl (Nat.le_of_ble_eq_true rfl) ⟨Nat.le_of_ble_eq_true rfl, Nat.le_of_ble_eq_true rfl⟩ d_Fo_isInfinite_2 ?_
  refine lv_aload_n hx hb d_Fo_isInfinite_5 rfl (lv_at hl 0 rfl) ?_
  refine vk_getf (v := .long (fo_inf i)) hx hb (nb_f_inf hC h_i) hS hown (hts _ (nb_c nb_t427)) (fun _ h => h) d_Fo_isInfinite_6 ?_
  refine nb_lc_ne (tgt := 17) hx hb d_Fo_isInfinite_9 d_Fo_isInfinite_10 (by decide) (fun h1 => ?_) (fun h1 => ?_)
  · refine lv_iconst (v := 0) hx hb d_Fo_isInfinite_17 (by decide) ?_
    exact W.zret (ty := .boolean) hx hb hr (by decide) (fun t ht hW => ⟨_, rfl, (by rw [mf_Fo_isInfinite, if_neg h1]), ht⟩) t_nil d_Fo_isInfinite_18
  · refine lv_iconst (v := 1) hx hb d_Fo_isInfinite_13 (by decide) ?_
    refine lv_goto (tgt := 18) hx hb d_Fo_isInfinite_14 (by decide) ?_
    exact W.zret (ty := .boolean) hx hb hr (by decide) (fun t ht hW => ⟨_, rfl, (by rw [mf_Fo_isInfinite, if_pos h1]), ht⟩) t_nil d_Fo_isInfinite_18
def y_Fo_told : MethodName := ⟨"NumberBench$Form", "told", "(J)J"⟩
abbrev w_Fo_told : List Cond := Cond.code y_Fo_told prog_2_method_4_code 3 (Option.some FieldType.long) :: nb_tb
theorem hd_Fo_told : y_Fo_told.cls ≠ "java/lang/invoke/MethodHandle" ∧ y_Fo_told.cls ≠ "java/lang/invoke/VarHandle" ∧ (parseMethodDescriptor y_Fo_told.desc).map (fun d => d.parameters.length) = some 1 := by decide +kernel
theorem d_Fo_told_0 : decode prog_2_method_4_code 0 = .ok (.aload_n 0, 1) := by decide +kernel
theorem d_Fo_told_1 : decode prog_2_method_4_code 1 = .ok (.lload_n 1, 1) := by decide +kernel
theorem d_Fo_told_2 : decode prog_2_method_4_code 2 = .ok (.invokevirtual 54, 3) := by decide +kernel
theorem d_Fo_told_5 : decode prog_2_method_4_code 5 = .ok (.ifCond .eq 10, 3) := by decide +kernel
theorem d_Fo_told_8 : decode prog_2_method_4_code 8 = .ok (.aload_n 0, 1) := by decide +kernel
theorem d_Fo_told_9 : decode prog_2_method_4_code 9 = .ok (.getfield 51, 3) := by decide +kernel
theorem d_Fo_told_12 : decode prog_2_method_4_code 12 = .ok (.goto 4, 3) := by decide +kernel
theorem d_Fo_told_15 : decode prog_2_method_4_code 15 = .ok (.lload_n 1, 1) := by decide +kernel
theorem d_Fo_told_16 : decode prog_2_method_4_code 16 = .ok (.lreturn, 1) := by decide +kernel
set_option maxHeartbeats 1200000 in
set_option maxRecDepth 100000 in
theorem c_Fo_told (l : Launch) (ad : Nat → Nat) (i : Nat) (a : Int64) (h_i : i < 2) : Met l y_Fo_told w_Fo_told ({ frames := 2, cells := 0, slots := 0, locals := 44 } : Room) (va_Pc [.ref (ad i), .long a] (nb_K ad)) (vp_Sl (fun r => r = mf_Fo_told i a)) 0 0 (fun _ => False) := by
  refine Met.ofW (cc := prog_2_method_4_code) (maxL := 3) (ret := some .long) (by decide) rfl ?_
  intro p e s m args below meth c s₁ B hml hv
  obtain ⟨rfl, hC⟩ := hv
  have hx := B.exec
  have hb := B.bytes
  have hr := B.returns
  have hts := atoms_spec (ws := w_Fo_told) B.pre
  have hown : s.vm.findClass "NumberBench$Form" = some m.cls := findClass_of_methodNamed B.named
  have hlocks := B.notSynchronized
  have hC : nb_C ad (fun _ => False) s s.heap := hC
  have hS : va_S (fun _ => False) s.heap s.heap [] := va_S.rf
  have hl := lv_entry ([.ref (ad i), .long a]) (n := 3) (Nat.le_of_ble_eq_true rfl)
  rw [lg_entry_eq]
  generalize (lg_sl ([.ref (ad i), .long a]) ++ List.replicate (3 - (lg_sl ([.ref (ad i), .long a])).length) Slot.unset).toArray = ls at hl ⊢
  have hl : lv_has ls 3 [(0, .ref (ad i)), (1, .long a)] := hl
  refine lv_aload_n hx hb d_Fo_told_0 rfl (lv_at hl 0 rfl) ?_
  refine lv_lload_n hx hb d_Fo_told_1 rfl (lv_at hl 1 rfl) ?_
  refine nb_callVi (As := [.long a]) (rest := []) hx hb hml hown hts (c_Fo_isNoNumber l ad i a h_i) nb_t34 nb_t35 nb_t36 h_i nb_t4 nb_t37 hd_Fo_isNoNumber rfl ⟨Nat.le_of_ble_eq_true rfl, Nat.le_of_ble_eq_true rfl⟩ ⟨rfl, rfl⟩ hC hS hl.1 rfl (Nat.le_of_ble_eq_true rfl) ⟨Nat.le_of_ble_eq_true rfl, Nat.le_of_ble_eq_true rfl⟩ d_Fo_told_2 ?_
  refine lv_if_eq (tgt := 15) hx hb d_Fo_told_5 (by decide) (fun h1 => ?_) (fun h1 => ?_)
  · refine lv_lload_n hx hb d_Fo_told_15 rfl (lv_at hl 1 rfl) ?_
    exact W.lret hx hb hr (fun t ht hW => ⟨_, rfl, (by rw [mf_Fo_told, if_pos h1]), ht⟩) t_nil d_Fo_told_16
  · refine lv_aload_n hx hb d_Fo_told_8 rfl (lv_at hl 0 rfl) ?_
    refine vk_getf (v := .long (fo_nan i)) hx hb (nb_f_nan hC h_i) hS hown (hts _ (nb_c nb_t428)) (fun _ h => h) d_Fo_told_9 ?_
    refine lv_goto (tgt := 16) hx hb d_Fo_told_12 (by decide) ?_
    exact W.lret hx hb hr (fun t ht hW => ⟨_, rfl, (by rw [mf_Fo_told, if_neg h1]), ht⟩) t_nil d_Fo_told_16
def y_Fo_negated : MethodName := ⟨"NumberBench$Form", "negated", "(J)J"⟩
abbrev w_Fo_negated : List Cond := Cond.code y_Fo_negated prog_2_method_7_code 3 (Option.some FieldType.long) :: nb_tb
theorem hd_Fo_negated : y_Fo_negated.cls ≠ "java/lang/invoke/MethodHandle" ∧ y_Fo_negated.cls ≠ "java/lang/invoke/VarHandle" ∧ (parseMethodDescriptor y_Fo_negated.desc).map (fun d => d.parameters.length) = some 1 := by decide +kernel
theorem d_Fo_negated_0 : decode prog_2_method_7_code 0 = .ok (.aload_n 0, 1) := by decide +kernel
theorem d_Fo_negated_1 : decode prog_2_method_7_code 1 = .ok (.lload_n 1, 1) := by decide +kernel
theorem d_Fo_negated_2 : decode prog_2_method_7_code 2 = .ok (.aload_n 0, 1) := by decide +kernel
theorem d_Fo_negated_3 : decode prog_2_method_7_code 3 = .ok (.getfield 41, 3) := by decide +kernel
theorem d_Fo_negated_6 : decode prog_2_method_7_code 6 = .ok (.lxor, 1) := by decide +kernel
theorem d_Fo_negated_7 : decode prog_2_method_7_code 7 = .ok (.invokevirtual 62, 3) := by decide +kernel
theorem d_Fo_negated_10 : decode prog_2_method_7_code 10 = .ok (.lreturn, 1) := by decide +kernel
set_option maxHeartbeats 1200000 in
set_option maxRecDepth 100000 in
theorem c_Fo_negated (l : Launch) (ad : Nat → Nat) (i : Nat) (a : Int64) (h_i : i < 2) : Met l y_Fo_negated w_Fo_negated ({ frames := 3, cells := 0, slots := 0, locals := 66 } : Room) (va_Pc [.ref (ad i), .long a] (nb_K ad)) (vp_Sl (fun r => r = mf_Fo_negated i a)) 0 0 (fun _ => False) := by
  refine Met.ofW (cc := prog_2_method_7_code) (maxL := 3) (ret := some .long) (by decide) rfl ?_
  intro p e s m args below meth c s₁ B hml hv
  obtain ⟨rfl, hC⟩ := hv
  have hx := B.exec
  have hb := B.bytes
  have hr := B.returns
  have hts := atoms_spec (ws := w_Fo_negated) B.pre
  have hown : s.vm.findClass "NumberBench$Form" = some m.cls := findClass_of_methodNamed B.named
  have hlocks := B.notSynchronized
  have hC : nb_C ad (fun _ => False) s s.heap := hC
  have hS : va_S (fun _ => False) s.heap s.heap [] := va_S.rf
  have hl := lv_entry ([.ref (ad i), .long a]) (n := 3) (Nat.le_of_ble_eq_true rfl)
  rw [lg_entry_eq]
  generalize (lg_sl ([.ref (ad i), .long a]) ++ List.replicate (3 - (lg_sl ([.ref (ad i), .long a])).length) Slot.unset).toArray = ls at hl ⊢
  have hl : lv_has ls 3 [(0, .ref (ad i)), (1, .long a)] := hl
  refine lv_aload_n hx hb d_Fo_negated_0 rfl (lv_at hl 0 rfl) ?_
  refine lv_lload_n hx hb d_Fo_negated_1 rfl (lv_at hl 1 rfl) ?_
  refine lv_aload_n hx hb d_Fo_negated_2 rfl (lv_at hl 0 rfl) ?_
  refine vk_getf (v := .long (fo_sign i)) hx hb (nb_f_sign hC h_i) hS hown (hts _ (nb_c nb_t426)) (fun _ h => h) d_Fo_negated_3 ?_
  refine lv_lxor hx hb d_Fo_negated_6 ?_
  refine nb_callVl (As := [.long (a ^^^ (fo_sign i))]) (rest := []) hx hb hml hown hts (c_Fo_told l ad i (a ^^^ (fo_sign i)) h_i) nb_t109 nb_t31 nb_t32 h_i nb_t4 nb_t33 hd_Fo_told rfl ⟨Nat.le_of_ble_eq_true rfl, Nat.le_of_ble_eq_true rfl⟩ ⟨rfl, rfl⟩ hC hS hl.1 rfl (Nat.le_of_ble_eq_true rfl) ⟨Nat.le_of_ble_eq_true rfl, Nat.le_of_ble_eq_true rfl⟩ d_Fo_negated_7 ?_
  exact W.lret hx hb hr (fun t ht hW => ⟨_, rfl, (by rw [mf_Fo_negated]), ht⟩) t_nil d_Fo_negated_10
def y_Fo_signed : MethodName := ⟨"NumberBench$Form", "signed", "(ZJ)J"⟩
abbrev w_Fo_signed : List Cond := Cond.code y_Fo_signed prog_2_method_19_code 4 (Option.some FieldType.long) :: nb_tb
theorem hd_Fo_signed : y_Fo_signed.cls ≠ "java/lang/invoke/MethodHandle" ∧ y_Fo_signed.cls ≠ "java/lang/invoke/VarHandle" ∧ (parseMethodDescriptor y_Fo_signed.desc).map (fun d => d.parameters.length) = some 2 := by decide +kernel
theorem d_Fo_signed_0 : decode prog_2_method_19_code 0 = .ok (.iload_n 1, 1) := by decide +kernel
theorem d_Fo_signed_1 : decode prog_2_method_19_code 1 = .ok (.ifCond .eq 12, 3) := by decide +kernel
theorem d_Fo_signed_4 : decode prog_2_method_19_code 4 = .ok (.lload_n 2, 1) := by decide +kernel
theorem d_Fo_signed_5 : decode prog_2_method_19_code 5 = .ok (.aload_n 0, 1) := by decide +kernel
theorem d_Fo_signed_6 : decode prog_2_method_19_code 6 = .ok (.getfield 41, 3) := by decide +kernel
theorem d_Fo_signed_9 : decode prog_2_method_19_code 9 = .ok (.lor, 1) := by decide +kernel
theorem d_Fo_signed_10 : decode prog_2_method_19_code 10 = .ok (.goto 4, 3) := by decide +kernel
theorem d_Fo_signed_13 : decode prog_2_method_19_code 13 = .ok (.lload_n 2, 1) := by decide +kernel
theorem d_Fo_signed_14 : decode prog_2_method_19_code 14 = .ok (.lreturn, 1) := by decide +kernel
set_option maxHeartbeats 1200000 in
set_option maxRecDepth 100000 in
theorem c_Fo_signed (l : Launch) (ad : Nat → Nat) (i : Nat) (g : Int32) (a : Int64) (h_i : i < 2) : Met l y_Fo_signed w_Fo_signed ({ frames := 0, cells := 0, slots := 0, locals := 0 } : Room) (va_Pc [.ref (ad i), .int g, .long a] (nb_K ad)) (vp_Sl (fun r => r = mf_Fo_signed i g a)) 0 0 (fun _ => False) := by
  refine Met.ofW (cc := prog_2_method_19_code) (maxL := 4) (ret := some .long) (by decide) rfl ?_
  intro p e s m args below meth c s₁ B hml hv
  obtain ⟨rfl, hC⟩ := hv
  have hx := B.exec
  have hb := B.bytes
  have hr := B.returns
  have hts := atoms_spec (ws := w_Fo_signed) B.pre
  have hown : s.vm.findClass "NumberBench$Form" = some m.cls := findClass_of_methodNamed B.named
  have hlocks := B.notSynchronized
  have hC : nb_C ad (fun _ => False) s s.heap := hC
  have hS : va_S (fun _ => False) s.heap s.heap [] := va_S.rf
  have hl := lv_entry ([.ref (ad i), .int g, .long a]) (n := 4) (Nat.le_of_ble_eq_true rfl)
  rw [lg_entry_eq]
  generalize (lg_sl ([.ref (ad i), .int g, .long a]) ++ List.replicate (4 - (lg_sl ([.ref (ad i), .int g, .long a])).length) Slot.unset).toArray = ls at hl ⊢
  have hl : lv_has ls 4 [(0, .ref (ad i)), (1, .int g), (2, .long a)] := hl
  refine lv_iload_n hx hb d_Fo_signed_0 rfl (lv_at hl 1 rfl) ?_
  refine lv_if_eq (tgt := 13) hx hb d_Fo_signed_1 (by decide) (fun h1 => ?_) (fun h1 => ?_)
  · refine lv_lload_n hx hb d_Fo_signed_13 rfl (lv_at hl 2 rfl) ?_
    exact W.lret hx hb hr (fun t ht hW => ⟨_, rfl, (by rw [mf_Fo_signed, if_pos h1]), ht⟩) t_nil d_Fo_signed_14
  · refine lv_lload_n hx hb d_Fo_signed_4 rfl (lv_at hl 2 rfl) ?_
    refine lv_aload_n hx hb d_Fo_signed_5 rfl (lv_at hl 0 rfl) ?_
    refine vk_getf (v := .long (fo_sign i)) hx hb (nb_f_sign hC h_i) hS hown (hts _ (nb_c nb_t426)) (fun _ h => h) d_Fo_signed_6 ?_
    refine lv_lor hx hb d_Fo_signed_9 ?_
    refine lv_goto (tgt := 14) hx hb d_Fo_signed_10 (by decide) ?_
    exact W.lret hx hb hr (fun t ht hW => ⟨_, rfl, (by rw [mf_Fo_signed, if_neg h1]), ht⟩) t_nil d_Fo_signed_14
def y_Fo_significand : MethodName := ⟨"NumberBench$Form", "significand", "(J)J"⟩
abbrev w_Fo_significand : List Cond := Cond.code y_Fo_significand prog_2_method_20_code 5 (Option.some FieldType.long) :: nb_tb
theorem hd_Fo_significand : y_Fo_significand.cls ≠ "java/lang/invoke/MethodHandle" ∧ y_Fo_significand.cls ≠ "java/lang/invoke/VarHandle" ∧ (parseMethodDescriptor y_Fo_significand.desc).map (fun d => d.parameters.length) = some 1 := by decide +kernel
theorem d_Fo_significand_0 : decode prog_2_method_20_code 0 = .ok (.lload_n 1, 1) := by decide +kernel
theorem d_Fo_significand_1 : decode prog_2_method_20_code 1 = .ok (.aload_n 0, 1) := by decide +kernel
theorem d_Fo_significand_2 : decode prog_2_method_20_code 2 = .ok (.getfield 45, 3) := by decide +kernel
theorem d_Fo_significand_5 : decode prog_2_method_20_code 5 = .ok (.lconst 1, 1) := by decide +kernel
theorem d_Fo_significand_6 : decode prog_2_method_20_code 6 = .ok (.lsub, 1) := by decide +kernel
theorem d_Fo_significand_7 : decode prog_2_method_20_code 7 = .ok (.land, 1) := by decide +kernel
theorem d_Fo_significand_8 : decode prog_2_method_20_code 8 = .ok (.lstore_n 3, 1) := by decide +kernel
theorem d_Fo_significand_9 : decode prog_2_method_20_code 9 = .ok (.lload_n 1, 1) := by decide +kernel
theorem d_Fo_significand_10 : decode prog_2_method_20_code 10 = .ok (.aload_n 0, 1) := by decide +kernel
theorem d_Fo_significand_11 : decode prog_2_method_20_code 11 = .ok (.getfield 48, 3) := by decide +kernel
theorem d_Fo_significand_14 : decode prog_2_method_20_code 14 = .ok (.land, 1) := by decide +kernel
theorem d_Fo_significand_15 : decode prog_2_method_20_code 15 = .ok (.lconst 0, 1) := by decide +kernel
theorem d_Fo_significand_16 : decode prog_2_method_20_code 16 = .ok (.lcmp, 1) := by decide +kernel
theorem d_Fo_significand_17 : decode prog_2_method_20_code 17 = .ok (.ifCond .ne 7, 3) := by decide +kernel
theorem d_Fo_significand_20 : decode prog_2_method_20_code 20 = .ok (.lload_n 3, 1) := by decide +kernel
theorem d_Fo_significand_21 : decode prog_2_method_20_code 21 = .ok (.goto 9, 3) := by decide +kernel
theorem d_Fo_significand_24 : decode prog_2_method_20_code 24 = .ok (.lload_n 3, 1) := by decide +kernel
theorem d_Fo_significand_25 : decode prog_2_method_20_code 25 = .ok (.aload_n 0, 1) := by decide +kernel
theorem d_Fo_significand_26 : decode prog_2_method_20_code 26 = .ok (.getfield 45, 3) := by decide +kernel
theorem d_Fo_significand_29 : decode prog_2_method_20_code 29 = .ok (.lor, 1) := by decide +kernel
theorem d_Fo_significand_30 : decode prog_2_method_20_code 30 = .ok (.lreturn, 1) := by decide +kernel
set_option maxHeartbeats 1200000 in
set_option maxRecDepth 100000 in
theorem c_Fo_significand (l : Launch) (ad : Nat → Nat) (i : Nat) (a : Int64) (h_i : i < 2) : Met l y_Fo_significand w_Fo_significand ({ frames := 0, cells := 0, slots := 0, locals := 0 } : Room) (va_Pc [.ref (ad i), .long a] (nb_K ad)) (vp_Sl (fun r => r = mf_Fo_significand i a)) 0 0 (fun _ => False) := by
  refine Met.ofW (cc := prog_2_method_20_code) (maxL := 5) (ret := some .long) (by decide) rfl ?_
  intro p e s m args below meth c s₁ B hml hv
  obtain ⟨rfl, hC⟩ := hv
  have hx := B.exec
  have hb := B.bytes
  have hr := B.returns
  have hts := atoms_spec (ws := w_Fo_significand) B.pre
  have hown : s.vm.findClass "NumberBench$Form" = some m.cls := findClass_of_methodNamed B.named
  have hlocks := B.notSynchronized
  have hC : nb_C ad (fun _ => False) s s.heap := hC
  have hS : va_S (fun _ => False) s.heap s.heap [] := va_S.rf
  have hl := lv_entry ([.ref (ad i), .long a]) (n := 5) (Nat.le_of_ble_eq_true rfl)
  rw [lg_entry_eq]
  generalize (lg_sl ([.ref (ad i), .long a]) ++ List.replicate (5 - (lg_sl ([.ref (ad i), .long a])).length) Slot.unset).toArray = ls at hl ⊢
  have hl : lv_has ls 5 [(0, .ref (ad i)), (1, .long a)] := hl
  refine lv_lload_n hx hb d_Fo_significand_0 rfl (lv_at hl 1 rfl) ?_
  refine lv_aload_n hx hb d_Fo_significand_1 rfl (lv_at hl 0 rfl) ?_
  refine vk_getf (v := .long (fo_least i)) hx hb (nb_f_least hC h_i) hS hown (hts _ (nb_c nb_t431)) (fun _ h => h) d_Fo_significand_2 ?_
  refine lv_lconst (v := 1) hx hb d_Fo_significand_5 (by decide) ?_
  refine lv_lsub hx hb d_Fo_significand_6 ?_
  refine lv_land hx hb d_Fo_significand_7 ?_
  refine lv_lstore_n hx hb d_Fo_significand_8 rfl hl (by decide) rfl (fun ls hl => ?_)
  have hl : lv_has ls 5 [(3, .long (a &&& ((fo_least i) - (1 : Int64)))), (0, .ref (ad i)), (1, .long a)] := hl
  refine lv_lload_n hx hb d_Fo_significand_9 rfl (lv_at hl 2 rfl) ?_
  refine lv_aload_n hx hb d_Fo_significand_10 rfl (lv_at hl 1 rfl) ?_
  refine vk_getf (v := .long (fo_inf i)) hx hb (nb_f_inf hC h_i) hS hown (hts _ (nb_c nb_t427)) (fun _ h => h) d_Fo_significand_11 ?_
  refine lv_land hx hb d_Fo_significand_14 ?_
  refine lv_lconst (v := 0) hx hb d_Fo_significand_15 (by decide) ?_
  refine nb_lc_ne (tgt := 24) hx hb d_Fo_significand_16 d_Fo_significand_17 (by decide) (fun h1 => ?_) (fun h1 => ?_)
  · refine lv_lload_n hx hb d_Fo_significand_24 rfl (lv_at hl 0 rfl) ?_
    refine lv_aload_n hx hb d_Fo_significand_25 rfl (lv_at hl 1 rfl) ?_
    refine vk_getf (v := .long (fo_least i)) hx hb (nb_f_least hC h_i) hS hown (hts _ (nb_c nb_t431)) (fun _ h => h) d_Fo_significand_26 ?_
    refine lv_lor hx hb d_Fo_significand_29 ?_
    exact W.lret hx hb hr (fun t ht hW => ⟨_, rfl, (by rw [mf_Fo_significand, if_neg h1]), ht⟩) t_nil d_Fo_significand_30
  · refine lv_lload_n hx hb d_Fo_significand_20 rfl (lv_at hl 0 rfl) ?_
    refine lv_goto (tgt := 30) hx hb d_Fo_significand_21 (by decide) ?_
    exact W.lret hx hb hr (fun t ht hW => ⟨_, rfl, (by rw [mf_Fo_significand, if_pos h1]), ht⟩) t_nil d_Fo_significand_30
def y_Fo_scale : MethodName := ⟨"NumberBench$Form", "scale", "(J)I"⟩
abbrev w_Fo_scale : List Cond := Cond.code y_Fo_scale prog_2_method_21_code 4 (Option.some FieldType.int) :: nb_tb
theorem hd_Fo_scale : y_Fo_scale.cls ≠ "java/lang/invoke/MethodHandle" ∧ y_Fo_scale.cls ≠ "java/lang/invoke/VarHandle" ∧ (parseMethodDescriptor y_Fo_scale.desc).map (fun d => d.parameters.length) = some 1 := by decide +kernel
theorem d_Fo_scale_0 : decode prog_2_method_21_code 0 = .ok (.lload_n 1, 1) := by decide +kernel
theorem d_Fo_scale_1 : decode prog_2_method_21_code 1 = .ok (.aload_n 0, 1) := by decide +kernel
theorem d_Fo_scale_2 : decode prog_2_method_21_code 2 = .ok (.getfield 48, 3) := by decide +kernel
theorem d_Fo_scale_5 : decode prog_2_method_21_code 5 = .ok (.land, 1) := by decide +kernel
theorem d_Fo_scale_6 : decode prog_2_method_21_code 6 = .ok (.aload_n 0, 1) := by decide +kernel
theorem d_Fo_scale_7 : decode prog_2_method_21_code 7 = .ok (.getfield 31, 3) := by decide +kernel
theorem d_Fo_scale_10 : decode prog_2_method_21_code 10 = .ok (.lshr, 1) := by decide +kernel
theorem d_Fo_scale_11 : decode prog_2_method_21_code 11 = .ok (.l2i, 1) := by decide +kernel
theorem d_Fo_scale_12 : decode prog_2_method_21_code 12 = .ok (.istore_n 3, 1) := by decide +kernel
theorem d_Fo_scale_13 : decode prog_2_method_21_code 13 = .ok (.iload_n 3, 1) := by decide +kernel
theorem d_Fo_scale_14 : decode prog_2_method_21_code 14 = .ok (.iconst 1, 1) := by decide +kernel
theorem d_Fo_scale_15 : decode prog_2_method_21_code 15 = .ok (.invokestatic 118, 3) := by decide +kernel
theorem d_Fo_scale_18 : decode prog_2_method_21_code 18 = .ok (.aload_n 0, 1) := by decide +kernel
theorem d_Fo_scale_19 : decode prog_2_method_21_code 19 = .ok (.getfield 35, 3) := by decide +kernel
theorem d_Fo_scale_22 : decode prog_2_method_21_code 22 = .ok (.isub, 1) := by decide +kernel
theorem d_Fo_scale_23 : decode prog_2_method_21_code 23 = .ok (.aload_n 0, 1) := by decide +kernel
theorem d_Fo_scale_24 : decode prog_2_method_21_code 24 = .ok (.getfield 31, 3) := by decide +kernel
theorem d_Fo_scale_27 : decode prog_2_method_21_code 27 = .ok (.isub, 1) := by decide +kernel
theorem d_Fo_scale_28 : decode prog_2_method_21_code 28 = .ok (.ireturn, 1) := by decide +kernel
set_option maxHeartbeats 1200000 in
set_option maxRecDepth 100000 in
theorem c_Fo_scale (l : Launch) (ad : Nat → Nat) (i : Nat) (a : Int64) (h_i : i < 2) : Met l y_Fo_scale w_Fo_scale ({ frames := 1, cells := 0, slots := 0, locals := 21 } : Room) (va_Pc [.ref (ad i), .long a] (nb_K ad)) (vp_Si (fun r => r = mf_Fo_scale i a)) 0 0 (fun _ => False) := by
  refine Met.ofW (cc := prog_2_method_21_code) (maxL := 4) (ret := some .int) (by decide) rfl ?_
  intro p e s m args below meth c s₁ B hml hv
  obtain ⟨rfl, hC⟩ := hv
  have hx := B.exec
  have hb := B.bytes
  have hr := B.returns
  have hts := atoms_spec (ws := w_Fo_scale) B.pre
  have hown : s.vm.findClass "NumberBench$Form" = some m.cls := findClass_of_methodNamed B.named
  have hlocks := B.notSynchronized
  have hC : nb_C ad (fun _ => False) s s.heap := hC
  have hS : va_S (fun _ => False) s.heap s.heap [] := va_S.rf
  have hl := lv_entry ([.ref (ad i), .long a]) (n := 4) (Nat.le_of_ble_eq_true rfl)
  rw [lg_entry_eq]
  generalize (lg_sl ([.ref (ad i), .long a]) ++ List.replicate (4 - (lg_sl ([.ref (ad i), .long a])).length) Slot.unset).toArray = ls at hl ⊢
  have hl : lv_has ls 4 [(0, .ref (ad i)), (1, .long a)] := hl
  refine lv_lload_n hx hb d_Fo_scale_0 rfl (lv_at hl 1 rfl) ?_
  refine lv_aload_n hx hb d_Fo_scale_1 rfl (lv_at hl 0 rfl) ?_
  refine vk_getf (v := .long (fo_inf i)) hx hb (nb_f_inf hC h_i) hS hown (hts _ (nb_c nb_t427)) (fun _ h => h) d_Fo_scale_2 ?_
  refine lv_land hx hb d_Fo_scale_5 ?_
  refine lv_aload_n hx hb d_Fo_scale_6 rfl (lv_at hl 0 rfl) ?_
  refine vk_getf (v := .int (fo_fb i)) hx hb (nb_f_fb hC h_i) hS hown (hts _ (nb_c nb_t429)) (fun _ h => h) d_Fo_scale_7 ?_
  refine lv_lshr hx hb d_Fo_scale_10 rfl ?_
  refine lv_l2i hx hb d_Fo_scale_11 rfl ?_
  refine lv_topi (fun v1 ev1 => ?_)
  refine lv_istore_n hx hb d_Fo_scale_12 rfl hl (by decide) rfl (fun ls hl => ?_)
  have hl : lv_has ls 4 [(3, .int v1), (0, .ref (ad i)), (1, .long a)] := hl
  refine lv_iload_n hx hb d_Fo_scale_13 rfl (lv_at hl 0 rfl) ?_
  refine lv_iconst (v := 1) hx hb d_Fo_scale_14 (by decide) ?_
  refine va_mmax hx hb (by rw [hml]; exact hl.1.symm) hown (hts _ (nb_c nb_t69)) (hts _ (nb_c nb_t70)) (hts _ (nb_c nb_t5)) (hts _ (nb_c nb_code_va_mmax)) (Nat.le_of_ble_eq_true rfl) (Nat.le_of_ble_eq_true rfl) (Nat.le_of_ble_eq_true rfl) (Nat.le_of_ble_eq_true rfl) d_Fo_scale_15 ?_
  refine lv_aload_n hx hb d_Fo_scale_18 rfl (lv_at hl 1 rfl) ?_
  refine vk_getf (v := .int (fo_bias i)) hx hb (nb_f_bias hC h_i) hS hown (hts _ (nb_c nb_t430)) (fun _ h => h) d_Fo_scale_19 ?_
  refine lv_isub hx hb d_Fo_scale_22 ?_
  refine lv_aload_n hx hb d_Fo_scale_23 rfl (lv_at hl 1 rfl) ?_
  refine vk_getf (v := .int (fo_fb i)) hx hb (nb_f_fb hC h_i) hS hown (hts _ (nb_c nb_t429)) (fun _ h => h) d_Fo_scale_24 ?_
  refine lv_isub hx hb d_Fo_scale_27 ?_
  exact W.iret hx hb hr (fun t ht hW => ⟨_, rfl, (by subst ev1; rw [mf_Fo_scale]), ht⟩) t_nil d_Fo_scale_28
def y_Fo_withoutLowest : MethodName := ⟨"NumberBench$Form", "withoutLowest", "(JI)J"⟩
abbrev w_Fo_withoutLowest : List Cond := Cond.code y_Fo_withoutLowest prog_2_method_31_code 10 (Option.some FieldType.long) :: nb_tb
theorem hd_Fo_withoutLowest : y_Fo_withoutLowest.cls ≠ "java/lang/invoke/MethodHandle" ∧ y_Fo_withoutLowest.cls ≠ "java/lang/invoke/VarHandle" ∧ (parseMethodDescriptor y_Fo_withoutLowest.desc).map (fun d => d.parameters.length) = some 2 := by decide +kernel
theorem d_Fo_withoutLowest_0 : decode prog_2_method_31_code 0 = .ok (.lload_n 0, 1) := by decide +kernel
theorem d_Fo_withoutLowest_1 : decode prog_2_method_31_code 1 = .ok (.iload_n 2, 1) := by decide +kernel
theorem d_Fo_withoutLowest_2 : decode prog_2_method_31_code 2 = .ok (.lushr, 1) := by decide +kernel
theorem d_Fo_withoutLowest_3 : decode prog_2_method_31_code 3 = .ok (.lstore_n 3, 1) := by decide +kernel
theorem d_Fo_withoutLowest_4 : decode prog_2_method_31_code 4 = .ok (.lload_n 0, 1) := by decide +kernel
theorem d_Fo_withoutLowest_5 : decode prog_2_method_31_code 5 = .ok (.lconst 1, 1) := by decide +kernel
theorem d_Fo_withoutLowest_6 : decode prog_2_method_31_code 6 = .ok (.iload_n 2, 1) := by decide +kernel
theorem d_Fo_withoutLowest_7 : decode prog_2_method_31_code 7 = .ok (.lshl, 1) := by decide +kernel
theorem d_Fo_withoutLowest_8 : decode prog_2_method_31_code 8 = .ok (.lconst 1, 1) := by decide +kernel
theorem d_Fo_withoutLowest_9 : decode prog_2_method_31_code 9 = .ok (.lsub, 1) := by decide +kernel
theorem d_Fo_withoutLowest_10 : decode prog_2_method_31_code 10 = .ok (.land, 1) := by decide +kernel
theorem d_Fo_withoutLowest_11 : decode prog_2_method_31_code 11 = .ok (.lstore 5, 2) := by decide +kernel
theorem d_Fo_withoutLowest_13 : decode prog_2_method_31_code 13 = .ok (.lconst 1, 1) := by decide +kernel
theorem d_Fo_withoutLowest_14 : decode prog_2_method_31_code 14 = .ok (.iload_n 2, 1) := by decide +kernel
theorem d_Fo_withoutLowest_15 : decode prog_2_method_31_code 15 = .ok (.iconst 1, 1) := by decide +kernel
theorem d_Fo_withoutLowest_16 : decode prog_2_method_31_code 16 = .ok (.isub, 1) := by decide +kernel
theorem d_Fo_withoutLowest_17 : decode prog_2_method_31_code 17 = .ok (.lshl, 1) := by decide +kernel
theorem d_Fo_withoutLowest_18 : decode prog_2_method_31_code 18 = .ok (.lstore 7, 2) := by decide +kernel
theorem d_Fo_withoutLowest_20 : decode prog_2_method_31_code 20 = .ok (.lload 5, 2) := by decide +kernel
theorem d_Fo_withoutLowest_22 : decode prog_2_method_31_code 22 = .ok (.lload 7, 2) := by decide +kernel
theorem d_Fo_withoutLowest_24 : decode prog_2_method_31_code 24 = .ok (.lcmp, 1) := by decide +kernel
theorem d_Fo_withoutLowest_25 : decode prog_2_method_31_code 25 = .ok (.ifCond .gt 19, 3) := by decide +kernel
theorem d_Fo_withoutLowest_28 : decode prog_2_method_31_code 28 = .ok (.lload 5, 2) := by decide +kernel
theorem d_Fo_withoutLowest_30 : decode prog_2_method_31_code 30 = .ok (.lload 7, 2) := by decide +kernel
theorem d_Fo_withoutLowest_32 : decode prog_2_method_31_code 32 = .ok (.lcmp, 1) := by decide +kernel
theorem d_Fo_withoutLowest_33 : decode prog_2_method_31_code 33 = .ok (.ifCond .ne 15, 3) := by decide +kernel
theorem d_Fo_withoutLowest_36 : decode prog_2_method_31_code 36 = .ok (.lload_n 3, 1) := by decide +kernel
theorem d_Fo_withoutLowest_37 : decode prog_2_method_31_code 37 = .ok (.lconst 1, 1) := by decide +kernel
theorem d_Fo_withoutLowest_38 : decode prog_2_method_31_code 38 = .ok (.land, 1) := by decide +kernel
theorem d_Fo_withoutLowest_39 : decode prog_2_method_31_code 39 = .ok (.lconst 1, 1) := by decide +kernel
theorem d_Fo_withoutLowest_40 : decode prog_2_method_31_code 40 = .ok (.lcmp, 1) := by decide +kernel
theorem d_Fo_withoutLowest_41 : decode prog_2_method_31_code 41 = .ok (.ifCond .ne 7, 3) := by decide +kernel
theorem d_Fo_withoutLowest_44 : decode prog_2_method_31_code 44 = .ok (.iconst 1, 1) := by decide +kernel
theorem d_Fo_withoutLowest_45 : decode prog_2_method_31_code 45 = .ok (.goto 4, 3) := by decide +kernel
theorem d_Fo_withoutLowest_48 : decode prog_2_method_31_code 48 = .ok (.iconst 0, 1) := by decide +kernel
theorem d_Fo_withoutLowest_49 : decode prog_2_method_31_code 49 = .ok (.istore 9, 2) := by decide +kernel
theorem d_Fo_withoutLowest_51 : decode prog_2_method_31_code 51 = .ok (.iload 9, 2) := by decide +kernel
theorem d_Fo_withoutLowest_53 : decode prog_2_method_31_code 53 = .ok (.ifCond .eq 9, 3) := by decide +kernel
theorem d_Fo_withoutLowest_56 : decode prog_2_method_31_code 56 = .ok (.lload_n 3, 1) := by decide +kernel
theorem d_Fo_withoutLowest_57 : decode prog_2_method_31_code 57 = .ok (.lconst 1, 1) := by decide +kernel
theorem d_Fo_withoutLowest_58 : decode prog_2_method_31_code 58 = .ok (.ladd, 1) := by decide +kernel
theorem d_Fo_withoutLowest_59 : decode prog_2_method_31_code 59 = .ok (.goto 4, 3) := by decide +kernel
theorem d_Fo_withoutLowest_62 : decode prog_2_method_31_code 62 = .ok (.lload_n 3, 1) := by decide +kernel
theorem d_Fo_withoutLowest_63 : decode prog_2_method_31_code 63 = .ok (.lreturn, 1) := by decide +kernel
set_option maxHeartbeats 1200000 in
set_option maxRecDepth 100000 in
theorem c_Fo_withoutLowest (l : Launch) (ad : Nat → Nat) (a : Int64) (d : Int32)  : Met l y_Fo_withoutLowest w_Fo_withoutLowest ({ frames := 0, cells := 0, slots := 0, locals := 0 } : Room) (va_Pc [.long a, .int d] (nb_K ad)) (vp_Sl (fun r => r = mf_Fo_withoutLowest a d)) 0 0 (fun _ => False) := by
  refine Met.ofW (cc := prog_2_method_31_code) (maxL := 10) (ret := some .long) (by decide) rfl ?_
  intro p e s m args below meth c s₁ B hml hv
  obtain ⟨rfl, hC⟩ := hv
  have hx := B.exec
  have hb := B.bytes
  have hr := B.returns
  have hts := atoms_spec (ws := w_Fo_withoutLowest) B.pre
  have hown : s.vm.findClass "NumberBench$Form" = some m.cls := findClass_of_methodNamed B.named
  have hlocks := B.notSynchronized
  have hC : nb_C ad (fun _ => False) s s.heap := hC
  have hS : va_S (fun _ => False) s.heap s.heap [] := va_S.rf
  have hl := lv_entry ([.long a, .int d]) (n := 10) (Nat.le_of_ble_eq_true rfl)
  rw [lg_entry_eq]
  generalize (lg_sl ([.long a, .int d]) ++ List.replicate (10 - (lg_sl ([.long a, .int d])).length) Slot.unset).toArray = ls at hl ⊢
  have hl : lv_has ls 10 [(0, .long a), (2, .int d)] := hl
  refine lv_lload_n hx hb d_Fo_withoutLowest_0 rfl (lv_at hl 0 rfl) ?_
  refine lv_iload_n hx hb d_Fo_withoutLowest_1 rfl (lv_at hl 1 rfl) ?_
  refine lv_lushr hx hb d_Fo_withoutLowest_2 rfl ?_
  refine lv_topl (fun v1 ev1 => ?_)
  refine lv_lstore_n hx hb d_Fo_withoutLowest_3 rfl hl (by decide) rfl (fun ls hl => ?_)
  have hl : lv_has ls 10 [(3, .long v1), (0, .long a), (2, .int d)] := hl
  refine lv_lload_n hx hb d_Fo_withoutLowest_4 rfl (lv_at hl 1 rfl) ?_
  refine lv_lconst (v := 1) hx hb d_Fo_withoutLowest_5 (by decide) ?_
  refine lv_iload_n hx hb d_Fo_withoutLowest_6 rfl (lv_at hl 2 rfl) ?_
  refine lv_lshl hx hb d_Fo_withoutLowest_7 rfl ?_
  refine lv_lconst (v := 1) hx hb d_Fo_withoutLowest_8 (by decide) ?_
  refine lv_lsub hx hb d_Fo_withoutLowest_9 ?_
  refine lv_land hx hb d_Fo_withoutLowest_10 ?_
  refine lv_topl (fun v2 ev2 => ?_)
  refine lv_lstore hx hb d_Fo_withoutLowest_11 hl (by decide) rfl (fun ls hl => ?_)
  have hl : lv_has ls 10 [(5, .long v2), (3, .long v1), (0, .long a), (2, .int d)] := hl
  refine lv_lconst (v := 1) hx hb d_Fo_withoutLowest_13 (by decide) ?_
  refine lv_iload_n hx hb d_Fo_withoutLowest_14 rfl (lv_at hl 3 rfl) ?_
  refine lv_iconst (v := 1) hx hb d_Fo_withoutLowest_15 (by decide) ?_
  refine lv_isub hx hb d_Fo_withoutLowest_16 ?_
  refine lv_lshl hx hb d_Fo_withoutLowest_17 rfl ?_
  refine lv_lstore hx hb d_Fo_withoutLowest_18 hl (by decide) rfl (fun ls hl => ?_)
  have hl : lv_has ls 10 [(7, .long ((1 : Int64) <<< ((d - (1 : Int32)).toInt64 &&& 63))), (5, .long v2), (3, .long v1), (0, .long a), (2, .int d)] := hl
  refine lv_lload hx hb d_Fo_withoutLowest_20 (lv_at hl 1 rfl) ?_
  refine lv_lload hx hb d_Fo_withoutLowest_22 (lv_at hl 0 rfl) ?_
  refine nb_lc_gt (tgt := 44) hx hb d_Fo_withoutLowest_24 d_Fo_withoutLowest_25 (by decide) (fun h3 => ?_) (fun h3 => ?_)
  · refine lv_iconst (v := 1) hx hb d_Fo_withoutLowest_44 (by decide) ?_
    refine lv_goto (tgt := 49) hx hb d_Fo_withoutLowest_45 (by decide) ?_
    refine lv_istore hx hb d_Fo_withoutLowest_49 hl (by decide) rfl (fun ls hl => ?_)
    have hl : lv_has ls 10 [(9, .int (1 : Int32)), (7, .long ((1 : Int64) <<< ((d - (1 : Int32)).toInt64 &&& 63))), (5, .long v2), (3, .long v1), (0, .long a), (2, .int d)] := hl
    refine lv_iload hx hb d_Fo_withoutLowest_51 (lv_at hl 0 rfl) ?_
    refine lv_if_eq (tgt := 62) hx hb d_Fo_withoutLowest_53 (by decide) (fun h4 => absurd h4 (by decide)) (fun _ => ?_)
    refine lv_lload_n hx hb d_Fo_withoutLowest_56 rfl (lv_at hl 3 rfl) ?_
    refine lv_lconst (v := 1) hx hb d_Fo_withoutLowest_57 (by decide) ?_
    refine lv_ladd hx hb d_Fo_withoutLowest_58 ?_
    refine lv_goto (tgt := 63) hx hb d_Fo_withoutLowest_59 (by decide) ?_
    exact W.lret hx hb hr (fun t ht hW => ⟨_, rfl, (by subst ev2; subst ev1; rw [mf_Fo_withoutLowest, if_pos h3]), ht⟩) t_nil d_Fo_withoutLowest_63
  · refine lv_lload hx hb d_Fo_withoutLowest_28 (lv_at hl 1 rfl) ?_
    refine lv_lload hx hb d_Fo_withoutLowest_30 (lv_at hl 0 rfl) ?_
    refine nb_lc_ne (tgt := 48) hx hb d_Fo_withoutLowest_32 d_Fo_withoutLowest_33 (by decide) (fun h5 => ?_) (fun h5 => ?_)
    · refine lv_iconst (v := 0) hx hb d_Fo_withoutLowest_48 (by decide) ?_
      refine lv_istore hx hb d_Fo_withoutLowest_49 hl (by decide) rfl (fun ls hl => ?_)
      have hl : lv_has ls 10 [(9, .int (0 : Int32)), (7, .long ((1 : Int64) <<< ((d - (1 : Int32)).toInt64 &&& 63))), (5, .long v2), (3, .long v1), (0, .long a), (2, .int d)] := hl
      refine lv_iload hx hb d_Fo_withoutLowest_51 (lv_at hl 0 rfl) ?_
      refine lv_if_eq (tgt := 62) hx hb d_Fo_withoutLowest_53 (by decide) (fun _ => ?_) (fun h6 => absurd h6 (by decide))
      refine lv_lload_n hx hb d_Fo_withoutLowest_62 rfl (lv_at hl 3 rfl) ?_
      exact W.lret hx hb hr (fun t ht hW => ⟨_, rfl, (by subst ev2; subst ev1; rw [mf_Fo_withoutLowest, if_neg h3, if_neg h5]), ht⟩) t_nil d_Fo_withoutLowest_63
    · refine lv_lload_n hx hb d_Fo_withoutLowest_36 rfl (lv_at hl 2 rfl) ?_
      refine lv_lconst (v := 1) hx hb d_Fo_withoutLowest_37 (by decide) ?_
      refine lv_land hx hb d_Fo_withoutLowest_38 ?_
      refine lv_lconst (v := 1) hx hb d_Fo_withoutLowest_39 (by decide) ?_
      refine nb_lc_ne (tgt := 48) hx hb d_Fo_withoutLowest_40 d_Fo_withoutLowest_41 (by decide) (fun h7 => ?_) (fun h7 => ?_)
      · refine lv_iconst (v := 0) hx hb d_Fo_withoutLowest_48 (by decide) ?_
        refine lv_istore hx hb d_Fo_withoutLowest_49 hl (by decide) rfl (fun ls hl => ?_)
        have hl : lv_has ls 10 [(9, .int (0 : Int32)), (7, .long ((1 : Int64) <<< ((d - (1 : Int32)).toInt64 &&& 63))), (5, .long v2), (3, .long v1), (0, .long a), (2, .int d)] := hl
        refine lv_iload hx hb d_Fo_withoutLowest_51 (lv_at hl 0 rfl) ?_
        refine lv_if_eq (tgt := 62) hx hb d_Fo_withoutLowest_53 (by decide) (fun _ => ?_) (fun h8 => absurd h8 (by decide))
        refine lv_lload_n hx hb d_Fo_withoutLowest_62 rfl (lv_at hl 3 rfl) ?_
        exact W.lret hx hb hr (fun t ht hW => ⟨_, rfl, (by subst ev2; subst ev1; rw [mf_Fo_withoutLowest, if_neg h3, if_pos h5, if_neg h7]), ht⟩) t_nil d_Fo_withoutLowest_63
      · refine lv_iconst (v := 1) hx hb d_Fo_withoutLowest_44 (by decide) ?_
        refine lv_goto (tgt := 49) hx hb d_Fo_withoutLowest_45 (by decide) ?_
        refine lv_istore hx hb d_Fo_withoutLowest_49 hl (by decide) rfl (fun ls hl => ?_)
        have hl : lv_has ls 10 [(9, .int (1 : Int32)), (7, .long ((1 : Int64) <<< ((d - (1 : Int32)).toInt64 &&& 63))), (5, .long v2), (3, .long v1), (0, .long a), (2, .int d)] := hl
        refine lv_iload hx hb d_Fo_withoutLowest_51 (lv_at hl 0 rfl) ?_
        refine lv_if_eq (tgt := 62) hx hb d_Fo_withoutLowest_53 (by decide) (fun h9 => absurd h9 (by decide)) (fun _ => ?_)
        refine lv_lload_n hx hb d_Fo_withoutLowest_56 rfl (lv_at hl 3 rfl) ?_
        refine lv_lconst (v := 1) hx hb d_Fo_withoutLowest_57 (by decide) ?_
        refine lv_ladd hx hb d_Fo_withoutLowest_58 ?_
        refine lv_goto (tgt := 63) hx hb d_Fo_withoutLowest_59 (by decide) ?_
        exact W.lret hx hb hr (fun t ht hW => ⟨_, rfl, (by subst ev2; subst ev1; rw [mf_Fo_withoutLowest, if_neg h3, if_pos h5, if_pos h7]), ht⟩) t_nil d_Fo_withoutLowest_63
def y_Fo_shiftedOut : MethodName := ⟨"NumberBench$Form", "shiftedOut", "(JI)J"⟩
abbrev w_Fo_shiftedOut : List Cond := Cond.code y_Fo_shiftedOut prog_2_method_29_code 5 (Option.some FieldType.long) :: nb_tb
theorem hd_Fo_shiftedOut : y_Fo_shiftedOut.cls ≠ "java/lang/invoke/MethodHandle" ∧ y_Fo_shiftedOut.cls ≠ "java/lang/invoke/VarHandle" ∧ (parseMethodDescriptor y_Fo_shiftedOut.desc).map (fun d => d.parameters.length) = some 2 := by decide +kernel
theorem d_Fo_shiftedOut_0 : decode prog_2_method_29_code 0 = .ok (.iload_n 2, 1) := by decide +kernel
theorem d_Fo_shiftedOut_1 : decode prog_2_method_29_code 1 = .ok (.bipush 62, 2) := by decide +kernel
theorem d_Fo_shiftedOut_3 : decode prog_2_method_29_code 3 = .ok (.if_icmp .le 15, 3) := by decide +kernel
theorem d_Fo_shiftedOut_6 : decode prog_2_method_29_code 6 = .ok (.lload_n 0, 1) := by decide +kernel
theorem d_Fo_shiftedOut_7 : decode prog_2_method_29_code 7 = .ok (.lconst 0, 1) := by decide +kernel
theorem d_Fo_shiftedOut_8 : decode prog_2_method_29_code 8 = .ok (.lcmp, 1) := by decide +kernel
theorem d_Fo_shiftedOut_9 : decode prog_2_method_29_code 9 = .ok (.ifCond .ne 7, 3) := by decide +kernel
theorem d_Fo_shiftedOut_12 : decode prog_2_method_29_code 12 = .ok (.lconst 0, 1) := by decide +kernel
theorem d_Fo_shiftedOut_13 : decode prog_2_method_29_code 13 = .ok (.goto 4, 3) := by decide +kernel
theorem d_Fo_shiftedOut_16 : decode prog_2_method_29_code 16 = .ok (.lconst 1, 1) := by decide +kernel
theorem d_Fo_shiftedOut_17 : decode prog_2_method_29_code 17 = .ok (.lreturn, 1) := by decide +kernel
theorem d_Fo_shiftedOut_18 : decode prog_2_method_29_code 18 = .ok (.lload_n 0, 1) := by decide +kernel
theorem d_Fo_shiftedOut_19 : decode prog_2_method_29_code 19 = .ok (.iload_n 2, 1) := by decide +kernel
theorem d_Fo_shiftedOut_20 : decode prog_2_method_29_code 20 = .ok (.lshr, 1) := by decide +kernel
theorem d_Fo_shiftedOut_21 : decode prog_2_method_29_code 21 = .ok (.lstore_n 3, 1) := by decide +kernel
theorem d_Fo_shiftedOut_22 : decode prog_2_method_29_code 22 = .ok (.lload_n 3, 1) := by decide +kernel
theorem d_Fo_shiftedOut_23 : decode prog_2_method_29_code 23 = .ok (.iload_n 2, 1) := by decide +kernel
theorem d_Fo_shiftedOut_24 : decode prog_2_method_29_code 24 = .ok (.lshl, 1) := by decide +kernel
theorem d_Fo_shiftedOut_25 : decode prog_2_method_29_code 25 = .ok (.lload_n 0, 1) := by decide +kernel
theorem d_Fo_shiftedOut_26 : decode prog_2_method_29_code 26 = .ok (.lcmp, 1) := by decide +kernel
theorem d_Fo_shiftedOut_27 : decode prog_2_method_29_code 27 = .ok (.ifCond .ne 7, 3) := by decide +kernel
theorem d_Fo_shiftedOut_30 : decode prog_2_method_29_code 30 = .ok (.lload_n 3, 1) := by decide +kernel
theorem d_Fo_shiftedOut_31 : decode prog_2_method_29_code 31 = .ok (.goto 6, 3) := by decide +kernel
theorem d_Fo_shiftedOut_34 : decode prog_2_method_29_code 34 = .ok (.lload_n 3, 1) := by decide +kernel
theorem d_Fo_shiftedOut_35 : decode prog_2_method_29_code 35 = .ok (.lconst 1, 1) := by decide +kernel
theorem d_Fo_shiftedOut_36 : decode prog_2_method_29_code 36 = .ok (.lor, 1) := by decide +kernel
theorem d_Fo_shiftedOut_37 : decode prog_2_method_29_code 37 = .ok (.lreturn, 1) := by decide +kernel
set_option maxHeartbeats 1200000 in
set_option maxRecDepth 100000 in
theorem c_Fo_shiftedOut (l : Launch) (ad : Nat → Nat) (a : Int64) (d : Int32)  : Met l y_Fo_shiftedOut w_Fo_shiftedOut ({ frames := 0, cells := 0, slots := 0, locals := 0 } : Room) (va_Pc [.long a, .int d] (nb_K ad)) (vp_Sl (fun r => r = mf_Fo_shiftedOut a d)) 0 0 (fun _ => False) := by
  refine Met.ofW (cc := prog_2_method_29_code) (maxL := 5) (ret := some .long) (by decide) rfl ?_
  intro p e s m args below meth c s₁ B hml hv
  obtain ⟨rfl, hC⟩ := hv
  have hx := B.exec
  have hb := B.bytes
  have hr := B.returns
  have hts := atoms_spec (ws := w_Fo_shiftedOut) B.pre
  have hown : s.vm.findClass "NumberBench$Form" = some m.cls := findClass_of_methodNamed B.named
  have hlocks := B.notSynchronized
  have hC : nb_C ad (fun _ => False) s s.heap := hC
  have hS : va_S (fun _ => False) s.heap s.heap [] := va_S.rf
  have hl := lv_entry ([.long a, .int d]) (n := 5) (Nat.le_of_ble_eq_true rfl)
  rw [lg_entry_eq]
  generalize (lg_sl ([.long a, .int d]) ++ List.replicate (5 - (lg_sl ([.long a, .int d])).length) Slot.unset).toArray = ls at hl ⊢
  have hl : lv_has ls 5 [(0, .long a), (2, .int d)] := hl
  refine lv_iload_n hx hb d_Fo_shiftedOut_0 rfl (lv_at hl 1 rfl) ?_
  refine lv_bipush (v := 62) hx hb d_Fo_shiftedOut_1 (by decide) ?_
  refine lv_icmp_le (tgt := 18) hx hb d_Fo_shiftedOut_3 (by decide) (fun h1 => ?_) (fun h1 => ?_)
  · refine lv_lload_n hx hb d_Fo_shiftedOut_18 rfl (lv_at hl 0 rfl) ?_
    refine lv_iload_n hx hb d_Fo_shiftedOut_19 rfl (lv_at hl 1 rfl) ?_
    refine lv_lshr hx hb d_Fo_shiftedOut_20 rfl ?_
    refine lv_lstore_n hx hb d_Fo_shiftedOut_21 rfl hl (by decide) rfl (fun ls hl => ?_)
    have hl : lv_has ls 5 [(3, .long (a >>> (d.toInt64 &&& 63))), (0, .long a), (2, .int d)] := hl
    refine lv_lload_n hx hb d_Fo_shiftedOut_22 rfl (lv_at hl 0 rfl) ?_
    refine lv_iload_n hx hb d_Fo_shiftedOut_23 rfl (lv_at hl 2 rfl) ?_
    refine lv_lshl hx hb d_Fo_shiftedOut_24 rfl ?_
    refine lv_lload_n hx hb d_Fo_shiftedOut_25 rfl (lv_at hl 1 rfl) ?_
    refine nb_lc_ne (tgt := 34) hx hb d_Fo_shiftedOut_26 d_Fo_shiftedOut_27 (by decide) (fun h2 => ?_) (fun h2 => ?_)
    · refine lv_lload_n hx hb d_Fo_shiftedOut_34 rfl (lv_at hl 0 rfl) ?_
      refine lv_lconst (v := 1) hx hb d_Fo_shiftedOut_35 (by decide) ?_
      refine lv_lor hx hb d_Fo_shiftedOut_36 ?_
      exact W.lret hx hb hr (fun t ht hW => ⟨_, rfl, (by rw [mf_Fo_shiftedOut, if_pos h1, if_neg h2]), ht⟩) t_nil d_Fo_shiftedOut_37
    · refine lv_lload_n hx hb d_Fo_shiftedOut_30 rfl (lv_at hl 0 rfl) ?_
      refine lv_goto (tgt := 37) hx hb d_Fo_shiftedOut_31 (by decide) ?_
      exact W.lret hx hb hr (fun t ht hW => ⟨_, rfl, (by rw [mf_Fo_shiftedOut, if_pos h1, if_pos h2]), ht⟩) t_nil d_Fo_shiftedOut_37
  · refine lv_lload_n hx hb d_Fo_shiftedOut_6 rfl (lv_at hl 0 rfl) ?_
    refine lv_lconst (v := 0) hx hb d_Fo_shiftedOut_7 (by decide) ?_
    refine nb_lc_ne (tgt := 16) hx hb d_Fo_shiftedOut_8 d_Fo_shiftedOut_9 (by decide) (fun h3 => ?_) (fun h3 => ?_)
    · refine lv_lconst (v := 1) hx hb d_Fo_shiftedOut_16 (by decide) ?_
      exact W.lret hx hb hr (fun t ht hW => ⟨_, rfl, (by rw [mf_Fo_shiftedOut, if_neg h1, if_neg h3]), ht⟩) t_nil d_Fo_shiftedOut_17
    · refine lv_lconst (v := 0) hx hb d_Fo_shiftedOut_12 (by decide) ?_
      refine lv_goto (tgt := 17) hx hb d_Fo_shiftedOut_13 (by decide) ?_
      exact W.lret hx hb hr (fun t ht hW => ⟨_, rfl, (by rw [mf_Fo_shiftedOut, if_neg h1, if_pos h3]), ht⟩) t_nil d_Fo_shiftedOut_17
def y_Fo_shiftToLead : MethodName := ⟨"NumberBench$Form", "shiftToLead", "(J)I"⟩
abbrev w_Fo_shiftToLead : List Cond := Cond.code y_Fo_shiftToLead prog_2_method_26_code 2 (Option.some FieldType.int) :: nb_tb
theorem hd_Fo_shiftToLead : y_Fo_shiftToLead.cls ≠ "java/lang/invoke/MethodHandle" ∧ y_Fo_shiftToLead.cls ≠ "java/lang/invoke/VarHandle" ∧ (parseMethodDescriptor y_Fo_shiftToLead.desc).map (fun d => d.parameters.length) = some 1 := by decide +kernel
theorem d_Fo_shiftToLead_0 : decode prog_2_method_26_code 0 = .ok (.lload_n 0, 1) := by decide +kernel
theorem d_Fo_shiftToLead_1 : decode prog_2_method_26_code 1 = .ok (.invokestatic 138, 3) := by decide +kernel
theorem d_Fo_shiftToLead_4 : decode prog_2_method_26_code 4 = .ok (.bipush 11, 2) := by decide +kernel
theorem d_Fo_shiftToLead_6 : decode prog_2_method_26_code 6 = .ok (.isub, 1) := by decide +kernel
theorem d_Fo_shiftToLead_7 : decode prog_2_method_26_code 7 = .ok (.ireturn, 1) := by decide +kernel
set_option maxHeartbeats 1200000 in
set_option maxRecDepth 100000 in
theorem c_Fo_shiftToLead (l : Launch) (ad : Nat → Nat) (a : Int64)  : Met l y_Fo_shiftToLead w_Fo_shiftToLead ({ frames := 2, cells := 0, slots := 0, locals := 43 } : Room) (va_Pc [.long a] (nb_K ad)) (vp_Si (fun r => r = mf_Fo_shiftToLead a)) 0 0 (fun _ => False) := by
  refine Met.ofW (cc := prog_2_method_26_code) (maxL := 2) (ret := some .int) (by decide) rfl ?_
  intro p e s m args below meth c s₁ B hml hv
  obtain ⟨rfl, hC⟩ := hv
  have hx := B.exec
  have hb := B.bytes
  have hr := B.returns
  have hts := atoms_spec (ws := w_Fo_shiftToLead) B.pre
  have hown : s.vm.findClass "NumberBench$Form" = some m.cls := findClass_of_methodNamed B.named
  have hlocks := B.notSynchronized
  have hC : nb_C ad (fun _ => False) s s.heap := hC
  have hS : va_S (fun _ => False) s.heap s.heap [] := va_S.rf
  have hl := lv_entry ([.long a]) (n := 2) (Nat.le_of_ble_eq_true rfl)
  rw [lg_entry_eq]
  generalize (lg_sl ([.long a]) ++ List.replicate (2 - (lg_sl ([.long a])).length) Slot.unset).toArray = ls at hl ⊢
  have hl : lv_has ls 2 [(0, .long a)] := hl
  refine lv_lload_n hx hb d_Fo_shiftToLead_0 rfl (lv_at hl 0 rfl) ?_
  refine nb_callSi (As := [.long a]) (rest := []) hx hb hml hown hts (c_Jd_lnlz l ad a) nb_t91 nb_t92 nb_t6 nb_t93 hd_Jd_lnlz rfl ⟨Nat.le_of_ble_eq_true rfl, Nat.le_of_ble_eq_true rfl⟩ ⟨rfl, rfl⟩ hC hS hl.1 rfl (Nat.le_of_ble_eq_true rfl) ⟨Nat.le_of_ble_eq_true rfl, Nat.le_of_ble_eq_true rfl⟩ d_Fo_shiftToLead_1 ?_
  refine lv_bipush (v := 11) hx hb d_Fo_shiftToLead_4 (by decide) ?_
  refine lv_isub hx hb d_Fo_shiftToLead_6 ?_
  exact W.iret hx hb hr (fun t ht hW => ⟨_, rfl, (by rw [mf_Fo_shiftToLead]), ht⟩) t_nil d_Fo_shiftToLead_7
