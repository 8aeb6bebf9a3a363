def y_Tw_changed : MethodName := ⟨"NumberBenchModel", "changed", "(JII)J"⟩
abbrev w_Tw_changed : List Cond := Cond.code y_Tw_changed prog_4_method_21_code 4 (Option.some FieldType.long) :: nb_tb
theorem hd_Tw_changed : y_Tw_changed.cls ≠ "java/lang/invoke/MethodHandle" ∧ y_Tw_changed.cls ≠ "java/lang/invoke/VarHandle" ∧ (parseMethodDescriptor y_Tw_changed.desc).map (fun d => d.parameters.length) = some 3 := by decide +kernel
theorem d_Tw_changed_0 : decode prog_4_method_21_code 0 = .ok (.lload_n 0, 1) := by decide +kernel
theorem d_Tw_changed_1 : decode prog_4_method_21_code 1 = .ok (.iload_n 2, 1) := by decide +kernel
theorem d_Tw_changed_2 : decode prog_4_method_21_code 2 = .ok (.invokestatic 56, 3) := by decide +kernel
theorem d_Tw_changed_5 : decode prog_4_method_21_code 5 = .ok (.ifCond .eq 8, 3) := by decide +kernel
theorem d_Tw_changed_8 : decode prog_4_method_21_code 8 = .ok (.iload_n 3, 1) := by decide +kernel
theorem d_Tw_changed_9 : decode prog_4_method_21_code 9 = .ok (.invokestatic 60, 3) := by decide +kernel
theorem d_Tw_changed_12 : decode prog_4_method_21_code 12 = .ok (.lreturn, 1) := by decide +kernel
theorem d_Tw_changed_13 : decode prog_4_method_21_code 13 = .ok (.lload_n 0, 1) := by decide +kernel
theorem d_Tw_changed_14 : decode prog_4_method_21_code 14 = .ok (.iload_n 2, 1) := by decide +kernel
theorem d_Tw_changed_15 : decode prog_4_method_21_code 15 = .ok (.invokestatic 63, 3) := by decide +kernel
theorem d_Tw_changed_18 : decode prog_4_method_21_code 18 = .ok (.ifCond .eq 17, 3) := by decide +kernel
theorem d_Tw_changed_21 : decode prog_4_method_21_code 21 = .ok (.iload_n 3, 1) := by decide +kernel
theorem d_Tw_changed_22 : decode prog_4_method_21_code 22 = .ok (.invokestatic 19, 3) := by decide +kernel
theorem d_Tw_changed_25 : decode prog_4_method_21_code 25 = .ok (.lload_n 0, 1) := by decide +kernel
theorem d_Tw_changed_26 : decode prog_4_method_21_code 26 = .ok (.iload_n 2, 1) := by decide +kernel
theorem d_Tw_changed_27 : decode prog_4_method_21_code 27 = .ok (.invokestatic 76, 3) := by decide +kernel
theorem d_Tw_changed_30 : decode prog_4_method_21_code 30 = .ok (.iload_n 3, 1) := by decide +kernel
theorem d_Tw_changed_31 : decode prog_4_method_21_code 31 = .ok (.invokestatic 36, 3) := by decide +kernel
theorem d_Tw_changed_34 : decode prog_4_method_21_code 34 = .ok (.lreturn, 1) := by decide +kernel
theorem d_Tw_changed_35 : decode prog_4_method_21_code 35 = .ok (.lload_n 0, 1) := by decide +kernel
theorem d_Tw_changed_36 : decode prog_4_method_21_code 36 = .ok (.iload_n 2, 1) := by decide +kernel
theorem d_Tw_changed_37 : decode prog_4_method_21_code 37 = .ok (.invokestatic 76, 3) := by decide +kernel
theorem d_Tw_changed_40 : decode prog_4_method_21_code 40 = .ok (.lload_n 0, 1) := by decide +kernel
theorem d_Tw_changed_41 : decode prog_4_method_21_code 41 = .ok (.iload_n 2, 1) := by decide +kernel
theorem d_Tw_changed_42 : decode prog_4_method_21_code 42 = .ok (.invokestatic 73, 3) := by decide +kernel
theorem d_Tw_changed_45 : decode prog_4_method_21_code 45 = .ok (.lload_n 0, 1) := by decide +kernel
theorem d_Tw_changed_46 : decode prog_4_method_21_code 46 = .ok (.iload_n 2, 1) := by decide +kernel
theorem d_Tw_changed_47 : decode prog_4_method_21_code 47 = .ok (.invokestatic 69, 3) := by decide +kernel
theorem d_Tw_changed_50 : decode prog_4_method_21_code 50 = .ok (.iload_n 3, 1) := by decide +kernel
theorem d_Tw_changed_51 : decode prog_4_method_21_code 51 = .ok (.invokestatic 89, 3) := by decide +kernel
theorem d_Tw_changed_54 : decode prog_4_method_21_code 54 = .ok (.lreturn, 1) := by decide +kernel
set_option maxHeartbeats 1200000 in
set_option maxRecDepth 100000 in
theorem c_Tw_changed (l : Launch) (ad : Nat → Nat) (a : Int64) (f : Nat) (t : Nat) (h_f : f < 2) (h_t : t < 2) : Met l y_Tw_changed w_Tw_changed ({ frames := 4, cells := 0, slots := 0, locals := 101 } : Room) (va_Pc [.long a, .int (nI f), .int (nI t)] (nb_K ad)) (vp_Sl (fun r => r = mf_Tw_changed a f t)) 0 0 (fun _ => False) := by
  refine Met.ofW (cc := prog_4_method_21_code) (maxL := 4) (ret := some .long) (by decide) rfl ?_
  intro p e s m args below meth c s₁ B hml hv
  obtain ⟨rfl, hC⟩ := hv
  have hx := B.exec
  have hb := B.bytes
  have hr := B.returns
  have hts := atoms_spec (ws := w_Tw_changed) B.pre
  have hown : s.vm.findClass "NumberBenchModel" = some m.cls := findClass_of_methodNamed B.named
  have hlocks := B.notSynchronized
  have hC : nb_C ad (fun _ => False) s s.heap := hC
  have hS : va_S (fun _ => False) s.heap s.heap [] := va_S.rf
  have hl := lv_entry ([.long a, .int (nI f), .int (nI t)]) (n := 4) (Nat.le_of_ble_eq_true rfl)
  rw [lg_entry_eq]
  generalize (lg_sl ([.long a, .int (nI f), .int (nI t)]) ++ List.replicate (4 - (lg_sl ([.long a, .int (nI f), .int (nI t)])).length) Slot.unset).toArray = ls at hl ⊢
  have hl : lv_has ls 4 [(0, .long a), (2, .int (nI f)), (3, .int (nI t))] := hl
  refine lv_lload_n hx hb d_Tw_changed_0 rfl (lv_at hl 0 rfl) ?_
  refine lv_iload_n hx hb d_Tw_changed_1 rfl (lv_at hl 1 rfl) ?_
  refine nb_callSi (As := [.long a, .int (nI f)]) (rest := []) hx hb hml hown hts (c_Tw_isNone l ad a f h_f) nb_t277 nb_t278 nb_t2 nb_t279 hd_Tw_isNone rfl ⟨Nat.le_of_ble_eq_true rfl, Nat.le_of_ble_eq_true rfl⟩ ⟨rfl, rfl⟩ hC hS hl.1 rfl (Nat.le_of_ble_eq_true rfl) ⟨Nat.le_of_ble_eq_true rfl, Nat.le_of_ble_eq_true rfl⟩ d_Tw_changed_2 ?_
  refine lv_if_eq (tgt := 13) hx hb d_Tw_changed_5 (by decide) (fun h1 => ?_) (fun h1 => ?_)
  · refine lv_lload_n hx hb d_Tw_changed_13 rfl (lv_at hl 0 rfl) ?_
    refine lv_iload_n hx hb d_Tw_changed_14 rfl (lv_at hl 1 rfl) ?_
    refine nb_callSi (As := [.long a, .int (nI f)]) (rest := []) hx hb hml hown hts (c_Tw_isInfinite l ad a f h_f) nb_t296 nb_t297 nb_t2 nb_t298 hd_Tw_isInfinite rfl ⟨Nat.le_of_ble_eq_true rfl, Nat.le_of_ble_eq_true rfl⟩ ⟨rfl, rfl⟩ hC hS hl.1 rfl (Nat.le_of_ble_eq_true rfl) ⟨Nat.le_of_ble_eq_true rfl, Nat.le_of_ble_eq_true rfl⟩ d_Tw_changed_15 ?_
    refine lv_if_eq (tgt := 35) hx hb d_Tw_changed_18 (by decide) (fun h2 => ?_) (fun h2 => ?_)
    · refine lv_lload_n hx hb d_Tw_changed_35 rfl (lv_at hl 0 rfl) ?_
      refine lv_iload_n hx hb d_Tw_changed_36 rfl (lv_at hl 1 rfl) ?_
      refine nb_callSi (As := [.long a, .int (nI f)]) (rest := []) hx hb hml hown hts (c_Tw_minus l ad a f h_f) nb_t299 nb_t300 nb_t2 nb_t301 hd_Tw_minus rfl ⟨Nat.le_of_ble_eq_true rfl, Nat.le_of_ble_eq_true rfl⟩ ⟨rfl, rfl⟩ hC hS hl.1 rfl (Nat.le_of_ble_eq_true rfl) ⟨Nat.le_of_ble_eq_true rfl, Nat.le_of_ble_eq_true rfl⟩ d_Tw_changed_37 ?_
      refine lv_lload_n hx hb d_Tw_changed_40 rfl (lv_at hl 0 rfl) ?_
      refine lv_iload_n hx hb d_Tw_changed_41 rfl (lv_at hl 1 rfl) ?_
      refine nb_callSl (As := [.long a, .int (nI f)]) (rest := [.int (mf_Tw_minus a f)]) hx hb hml hown hts (c_Tw_whole l ad a f h_f) nb_t305 nb_t306 nb_t2 nb_t307 hd_Tw_whole rfl ⟨Nat.le_of_ble_eq_true rfl, Nat.le_of_ble_eq_true rfl⟩ ⟨rfl, rfl⟩ hC hS hl.1 rfl (Nat.le_of_ble_eq_true rfl) ⟨Nat.le_of_ble_eq_true rfl, Nat.le_of_ble_eq_true rfl⟩ d_Tw_changed_42 ?_
      refine lv_lload_n hx hb d_Tw_changed_45 rfl (lv_at hl 0 rfl) ?_
      refine lv_iload_n hx hb d_Tw_changed_46 rfl (lv_at hl 1 rfl) ?_
      refine nb_callSi (As := [.long a, .int (nI f)]) (rest := [.long (mf_Tw_whole a f), .int (mf_Tw_minus a f)]) hx hb hml hown hts (c_Tw_power l ad a f h_f) nb_t310 nb_t311 nb_t2 nb_t312 hd_Tw_power rfl ⟨Nat.le_of_ble_eq_true rfl, Nat.le_of_ble_eq_true rfl⟩ ⟨rfl, rfl⟩ hC hS hl.1 rfl (Nat.le_of_ble_eq_true rfl) ⟨Nat.le_of_ble_eq_true rfl, Nat.le_of_ble_eq_true rfl⟩ d_Tw_changed_47 ?_
      refine lv_iload_n hx hb d_Tw_changed_50 rfl (lv_at hl 2 rfl) ?_
      refine nb_callSl (As := [.int (mf_Tw_minus a f), .long (mf_Tw_whole a f), .int (mf_Tw_power a f), .int (nI t)]) (rest := []) hx hb hml hown hts (c_Tw_exact l ad (mf_Tw_minus a f) (mf_Tw_whole a f) (mf_Tw_power a f) t h_t) nb_t316 nb_t317 nb_t2 nb_t318 hd_Tw_exact rfl ⟨Nat.le_of_ble_eq_true rfl, Nat.le_of_ble_eq_true rfl⟩ ⟨rfl, rfl⟩ hC hS hl.1 rfl (Nat.le_of_ble_eq_true rfl) ⟨Nat.le_of_ble_eq_true rfl, Nat.le_of_ble_eq_true rfl⟩ d_Tw_changed_51 ?_
      exact W.lret hx hb hr (fun t ht hW => ⟨_, rfl, (by rw [mf_Tw_changed, if_pos h1, if_pos h2]), ht⟩) t_nil d_Tw_changed_54
    · refine lv_iload_n hx hb d_Tw_changed_21 rfl (lv_at hl 2 rfl) ?_
      refine nb_callSl (As := [.int (nI t)]) (rest := []) hx hb hml hown hts (c_Tw_infinite l ad t h_t) nb_t286 nb_t287 nb_t2 nb_t288 hd_Tw_infinite rfl ⟨Nat.le_of_ble_eq_true rfl, Nat.le_of_ble_eq_true rfl⟩ ⟨rfl, rfl⟩ hC hS hl.1 rfl (Nat.le_of_ble_eq_true rfl) ⟨Nat.le_of_ble_eq_true rfl, Nat.le_of_ble_eq_true rfl⟩ d_Tw_changed_22 ?_
      refine lv_lload_n hx hb d_Tw_changed_25 rfl (lv_at hl 0 rfl) ?_
      refine lv_iload_n hx hb d_Tw_changed_26 rfl (lv_at hl 1 rfl) ?_
      refine nb_callSi (As := [.long a, .int (nI f)]) (rest := [.long (mf_Tw_infinite t)]) hx hb hml hown hts (c_Tw_minus l ad a f h_f) nb_t299 nb_t300 nb_t2 nb_t301 hd_Tw_minus rfl ⟨Nat.le_of_ble_eq_true rfl, Nat.le_of_ble_eq_true rfl⟩ ⟨rfl, rfl⟩ hC hS hl.1 rfl (Nat.le_of_ble_eq_true rfl) ⟨Nat.le_of_ble_eq_true rfl, Nat.le_of_ble_eq_true rfl⟩ d_Tw_changed_27 ?_
      refine lv_iload_n hx hb d_Tw_changed_30 rfl (lv_at hl 2 rfl) ?_
      refine nb_callSl (As := [.long (mf_Tw_infinite t), .int (mf_Tw_minus a f), .int (nI t)]) (rest := []) hx hb hml hown hts (c_Tw_signed l ad (mf_Tw_infinite t) (mf_Tw_minus a f) t h_t) nb_t302 nb_t303 nb_t2 nb_t304 hd_Tw_signed rfl ⟨Nat.le_of_ble_eq_true rfl, Nat.le_of_ble_eq_true rfl⟩ ⟨rfl, rfl⟩ hC hS hl.1 rfl (Nat.le_of_ble_eq_true rfl) ⟨Nat.le_of_ble_eq_true rfl, Nat.le_of_ble_eq_true rfl⟩ d_Tw_changed_31 ?_
      exact W.lret hx hb hr (fun t ht hW => ⟨_, rfl, (by rw [mf_Tw_changed, if_pos h1, if_neg h2]), ht⟩) t_nil d_Tw_changed_34
  · refine lv_iload_n hx hb d_Tw_changed_8 rfl (lv_at hl 2 rfl) ?_
    refine nb_callSl (As := [.int (nI t)]) (rest := []) hx hb hml hown hts (c_Tw_none l ad t h_t) nb_t291 nb_t292 nb_t2 nb_t293 hd_Tw_none rfl ⟨Nat.le_of_ble_eq_true rfl, Nat.le_of_ble_eq_true rfl⟩ ⟨rfl, rfl⟩ hC hS hl.1 rfl (Nat.le_of_ble_eq_true rfl) ⟨Nat.le_of_ble_eq_true rfl, Nat.le_of_ble_eq_true rfl⟩ d_Tw_changed_9 ?_
    exact W.lret hx hb hr (fun t ht hW => ⟨_, rfl, (by rw [mf_Tw_changed, if_neg h1]), ht⟩) t_nil d_Tw_changed_12
def y_Tw_toFloat : MethodName := ⟨"NumberBenchModel", "toFloat", "(J)J"⟩
abbrev w_Tw_toFloat : List Cond := Cond.code y_Tw_toFloat prog_4_method_22_code 2 (Option.some FieldType.long) :: nb_tb
theorem hd_Tw_toFloat : y_Tw_toFloat.cls ≠ "java/lang/invoke/MethodHandle" ∧ y_Tw_toFloat.cls ≠ "java/lang/invoke/VarHandle" ∧ (parseMethodDescriptor y_Tw_toFloat.desc).map (fun d => d.parameters.length) = some 1 := by decide +kernel
theorem d_Tw_toFloat_0 : decode prog_4_method_22_code 0 = .ok (.lload_n 0, 1) := by decide +kernel
theorem d_Tw_toFloat_1 : decode prog_4_method_22_code 1 = .ok (.iconst 0, 1) := by decide +kernel
theorem d_Tw_toFloat_2 : decode prog_4_method_22_code 2 = .ok (.iconst 1, 1) := by decide +kernel
theorem d_Tw_toFloat_3 : decode prog_4_method_22_code 3 = .ok (.invokestatic 99, 3) := by decide +kernel
theorem d_Tw_toFloat_6 : decode prog_4_method_22_code 6 = .ok (.lreturn, 1) := by decide +kernel
set_option maxHeartbeats 1200000 in
set_option maxRecDepth 100000 in
theorem c_Tw_toFloat (l : Launch) (ad : Nat → Nat) (a : Int64)  : Met l y_Tw_toFloat w_Tw_toFloat ({ frames := 5, cells := 0, slots := 0, locals := 124 } : Room) (va_Pc [.long a] (nb_K ad)) (vp_Sl (fun r => r = mf_Tw_toFloat a)) 0 0 (fun _ => False) := by
  refine Met.ofW (cc := prog_4_method_22_code) (maxL := 2) (ret := some .long) (by decide) rfl ?_
  intro p e s m args below meth c s₁ B hml hv
  obtain ⟨rfl, hC⟩ := hv
  have hx := B.exec
  have hb := B.bytes
  have hr := B.returns
  have hts := atoms_spec (ws := w_Tw_toFloat) B.pre
  have hown : s.vm.findClass "NumberBenchModel" = some m.cls := findClass_of_methodNamed B.named
  have hlocks := B.notSynchronized
  have hC : nb_C ad (fun _ => False) s s.heap := hC
  have hS : va_S (fun _ => False) s.heap s.heap [] := va_S.rf
  have hl := lv_entry ([.long a]) (n := 2) (Nat.le_of_ble_eq_true rfl)
  rw [lg_entry_eq]
  generalize (lg_sl ([.long a]) ++ List.replicate (2 - (lg_sl ([.long a])).length) Slot.unset).toArray = ls at hl ⊢
  have hl : lv_has ls 2 [(0, .long a)] := hl
  refine lv_lload_n hx hb d_Tw_toFloat_0 rfl (lv_at hl 0 rfl) ?_
  refine lv_iconst (v := 0) hx hb d_Tw_toFloat_1 (by decide) ?_
  refine lv_iconst (v := 1) hx hb d_Tw_toFloat_2 (by decide) ?_
  refine nb_callSl (As := [.long a, .int (nI 0), .int (nI 1)]) (rest := []) hx hb hml hown hts (c_Tw_changed l ad a 0 1 (by decide) (by decide)) nb_t274 nb_t275 nb_t2 nb_t276 hd_Tw_changed rfl ⟨Nat.le_of_ble_eq_true rfl, Nat.le_of_ble_eq_true rfl⟩ ⟨rfl, rfl⟩ hC hS hl.1 rfl (Nat.le_of_ble_eq_true rfl) ⟨Nat.le_of_ble_eq_true rfl, Nat.le_of_ble_eq_true rfl⟩ d_Tw_toFloat_3 ?_
  exact W.lret hx hb hr (fun t ht hW => ⟨_, rfl, (by rw [mf_Tw_toFloat]), ht⟩) t_nil d_Tw_toFloat_6
def y_Tw_toDouble : MethodName := ⟨"NumberBenchModel", "toDouble", "(J)J"⟩
abbrev w_Tw_toDouble : List Cond := Cond.code y_Tw_toDouble prog_4_method_23_code 2 (Option.some FieldType.long) :: nb_tb
theorem hd_Tw_toDouble : y_Tw_toDouble.cls ≠ "java/lang/invoke/MethodHandle" ∧ y_Tw_toDouble.cls ≠ "java/lang/invoke/VarHandle" ∧ (parseMethodDescriptor y_Tw_toDouble.desc).map (fun d => d.parameters.length) = some 1 := by decide +kernel
theorem d_Tw_toDouble_0 : decode prog_4_method_23_code 0 = .ok (.lload_n 0, 1) := by decide +kernel
theorem d_Tw_toDouble_1 : decode prog_4_method_23_code 1 = .ok (.iconst 1, 1) := by decide +kernel
theorem d_Tw_toDouble_2 : decode prog_4_method_23_code 2 = .ok (.iconst 0, 1) := by decide +kernel
theorem d_Tw_toDouble_3 : decode prog_4_method_23_code 3 = .ok (.invokestatic 99, 3) := by decide +kernel
theorem d_Tw_toDouble_6 : decode prog_4_method_23_code 6 = .ok (.lreturn, 1) := by decide +kernel
set_option maxHeartbeats 1200000 in
set_option maxRecDepth 100000 in
theorem c_Tw_toDouble (l : Launch) (ad : Nat → Nat) (a : Int64)  : Met l y_Tw_toDouble w_Tw_toDouble ({ frames := 5, cells := 0, slots := 0, locals := 124 } : Room) (va_Pc [.long a] (nb_K ad)) (vp_Sl (fun r => r = mf_Tw_toDouble a)) 0 0 (fun _ => False) := by
  refine Met.ofW (cc := prog_4_method_23_code) (maxL := 2) (ret := some .long) (by decide) rfl ?_
  intro p e s m args below meth c s₁ B hml hv
  obtain ⟨rfl, hC⟩ := hv
  have hx := B.exec
  have hb := B.bytes
  have hr := B.returns
  have hts := atoms_spec (ws := w_Tw_toDouble) B.pre
  have hown : s.vm.findClass "NumberBenchModel" = some m.cls := findClass_of_methodNamed B.named
  have hlocks := B.notSynchronized
  have hC : nb_C ad (fun _ => False) s s.heap := hC
  have hS : va_S (fun _ => False) s.heap s.heap [] := va_S.rf
  have hl := lv_entry ([.long a]) (n := 2) (Nat.le_of_ble_eq_true rfl)
  rw [lg_entry_eq]
  generalize (lg_sl ([.long a]) ++ List.replicate (2 - (lg_sl ([.long a])).length) Slot.unset).toArray = ls at hl ⊢
  have hl : lv_has ls 2 [(0, .long a)] := hl
  refine lv_lload_n hx hb d_Tw_toDouble_0 rfl (lv_at hl 0 rfl) ?_
  refine lv_iconst (v := 1) hx hb d_Tw_toDouble_1 (by decide) ?_
  refine lv_iconst (v := 0) hx hb d_Tw_toDouble_2 (by decide) ?_
  refine nb_callSl (As := [.long a, .int (nI 1), .int (nI 0)]) (rest := []) hx hb hml hown hts (c_Tw_changed l ad a 1 0 (by decide) (by decide)) nb_t274 nb_t275 nb_t2 nb_t276 hd_Tw_changed rfl ⟨Nat.le_of_ble_eq_true rfl, Nat.le_of_ble_eq_true rfl⟩ ⟨rfl, rfl⟩ hC hS hl.1 rfl (Nat.le_of_ble_eq_true rfl) ⟨Nat.le_of_ble_eq_true rfl, Nat.le_of_ble_eq_true rfl⟩ d_Tw_toDouble_3 ?_
  exact W.lret hx hb hr (fun t ht hW => ⟨_, rfl, (by rw [mf_Tw_toDouble]), ht⟩) t_nil d_Tw_toDouble_6
def y_Tw_order : MethodName := ⟨"NumberBenchModel", "order", "(JJ)I"⟩
abbrev w_Tw_order : List Cond := Cond.code y_Tw_order prog_4_method_24_code 8 (Option.some FieldType.int) :: nb_tb
theorem hd_Tw_order : y_Tw_order.cls ≠ "java/lang/invoke/MethodHandle" ∧ y_Tw_order.cls ≠ "java/lang/invoke/VarHandle" ∧ (parseMethodDescriptor y_Tw_order.desc).map (fun d => d.parameters.length) = some 2 := by decide +kernel
theorem d_Tw_order_0 : decode prog_4_method_24_code 0 = .ok (.lload_n 0, 1) := by decide +kernel
theorem d_Tw_order_1 : decode prog_4_method_24_code 1 = .ok (.iconst 0, 1) := by decide +kernel
theorem d_Tw_order_2 : decode prog_4_method_24_code 2 = .ok (.invokestatic 56, 3) := by decide +kernel
theorem d_Tw_order_5 : decode prog_4_method_24_code 5 = .ok (.ifCond .ne 11, 3) := by decide +kernel
theorem d_Tw_order_8 : decode prog_4_method_24_code 8 = .ok (.lload_n 2, 1) := by decide +kernel
theorem d_Tw_order_9 : decode prog_4_method_24_code 9 = .ok (.iconst 0, 1) := by decide +kernel
theorem d_Tw_order_10 : decode prog_4_method_24_code 10 = .ok (.invokestatic 56, 3) := by decide +kernel
theorem d_Tw_order_13 : decode prog_4_method_24_code 13 = .ok (.ifCond .eq 5, 3) := by decide +kernel
theorem d_Tw_order_16 : decode prog_4_method_24_code 16 = .ok (.iconst 2, 1) := by decide +kernel
theorem d_Tw_order_17 : decode prog_4_method_24_code 17 = .ok (.ireturn, 1) := by decide +kernel
theorem d_Tw_order_18 : decode prog_4_method_24_code 18 = .ok (.lload_n 0, 1) := by decide +kernel
theorem d_Tw_order_19 : decode prog_4_method_24_code 19 = .ok (.iconst 0, 1) := by decide +kernel
theorem d_Tw_order_20 : decode prog_4_method_24_code 20 = .ok (.invokestatic 76, 3) := by decide +kernel
theorem d_Tw_order_23 : decode prog_4_method_24_code 23 = .ok (.ifCond .eq 12, 3) := by decide +kernel
theorem d_Tw_order_26 : decode prog_4_method_24_code 26 = .ok (.lload_n 0, 1) := by decide +kernel
theorem d_Tw_order_27 : decode prog_4_method_24_code 27 = .ok (.iconst 0, 1) := by decide +kernel
theorem d_Tw_order_28 : decode prog_4_method_24_code 28 = .ok (.invokestatic 15, 3) := by decide +kernel
theorem d_Tw_order_31 : decode prog_4_method_24_code 31 = .ok (.lneg, 1) := by decide +kernel
theorem d_Tw_order_32 : decode prog_4_method_24_code 32 = .ok (.goto 8, 3) := by decide +kernel
theorem d_Tw_order_35 : decode prog_4_method_24_code 35 = .ok (.lload_n 0, 1) := by decide +kernel
theorem d_Tw_order_36 : decode prog_4_method_24_code 36 = .ok (.iconst 0, 1) := by decide +kernel
theorem d_Tw_order_37 : decode prog_4_method_24_code 37 = .ok (.invokestatic 15, 3) := by decide +kernel
theorem d_Tw_order_40 : decode prog_4_method_24_code 40 = .ok (.lstore 4, 2) := by decide +kernel
theorem d_Tw_order_42 : decode prog_4_method_24_code 42 = .ok (.lload_n 2, 1) := by decide +kernel
theorem d_Tw_order_43 : decode prog_4_method_24_code 43 = .ok (.iconst 0, 1) := by decide +kernel
theorem d_Tw_order_44 : decode prog_4_method_24_code 44 = .ok (.invokestatic 76, 3) := by decide +kernel
theorem d_Tw_order_47 : decode prog_4_method_24_code 47 = .ok (.ifCond .eq 12, 3) := by decide +kernel
theorem d_Tw_order_50 : decode prog_4_method_24_code 50 = .ok (.lload_n 2, 1) := by decide +kernel
theorem d_Tw_order_51 : decode prog_4_method_24_code 51 = .ok (.iconst 0, 1) := by decide +kernel
theorem d_Tw_order_52 : decode prog_4_method_24_code 52 = .ok (.invokestatic 15, 3) := by decide +kernel
theorem d_Tw_order_55 : decode prog_4_method_24_code 55 = .ok (.lneg, 1) := by decide +kernel
theorem d_Tw_order_56 : decode prog_4_method_24_code 56 = .ok (.goto 8, 3) := by decide +kernel
theorem d_Tw_order_59 : decode prog_4_method_24_code 59 = .ok (.lload_n 2, 1) := by decide +kernel
theorem d_Tw_order_60 : decode prog_4_method_24_code 60 = .ok (.iconst 0, 1) := by decide +kernel
theorem d_Tw_order_61 : decode prog_4_method_24_code 61 = .ok (.invokestatic 15, 3) := by decide +kernel
theorem d_Tw_order_64 : decode prog_4_method_24_code 64 = .ok (.lstore 6, 2) := by decide +kernel
theorem d_Tw_order_66 : decode prog_4_method_24_code 66 = .ok (.lload 4, 2) := by decide +kernel
theorem d_Tw_order_68 : decode prog_4_method_24_code 68 = .ok (.lload 6, 2) := by decide +kernel
theorem d_Tw_order_70 : decode prog_4_method_24_code 70 = .ok (.invokestatic 103, 3) := by decide +kernel
theorem d_Tw_order_73 : decode prog_4_method_24_code 73 = .ok (.ireturn, 1) := by decide +kernel
set_option maxHeartbeats 1200000 in
set_option maxRecDepth 100000 in
theorem c_Tw_order (l : Launch) (ad : Nat → Nat) (a : Int64) (b : Int64)  : Met l y_Tw_order w_Tw_order ({ frames := 3, cells := 0, slots := 0, locals := 64 } : Room) (va_Pc [.long a, .long b] (nb_K ad)) (vp_Si (fun r => r = mf_Tw_order a b)) 0 0 (fun _ => False) := by
  refine Met.ofW (cc := prog_4_method_24_code) (maxL := 8) (ret := some .int) (by decide) rfl ?_
  intro p e s m args below meth c s₁ B hml hv
  obtain ⟨rfl, hC⟩ := hv
  have hx := B.exec
  have hb := B.bytes
  have hr := B.returns
  have hts := atoms_spec (ws := w_Tw_order) B.pre
  have hown : s.vm.findClass "NumberBenchModel" = some m.cls := findClass_of_methodNamed B.named
  have hlocks := B.notSynchronized
  have hC : nb_C ad (fun _ => False) s s.heap := hC
  have hS : va_S (fun _ => False) s.heap s.heap [] := va_S.rf
  have hl := lv_entry ([.long a, .long b]) (n := 8) (Nat.le_of_ble_eq_true rfl)
  rw [lg_entry_eq]
  generalize (lg_sl ([.long a, .long b]) ++ List.replicate (8 - (lg_sl ([.long a, .long b])).length) Slot.unset).toArray = ls at hl ⊢
  have hl : lv_has ls 8 [(0, .long a), (2, .long b)] := hl
  have b40 : ∀ (k0 : Int64) (ls : Array Slot), lv_has ls 8 [(2, .long b)] → mf_Tw_order a b = mf_Tw_order_b40 a b k0 → W p l e (headSpec w_Tw_order ({ frames := 3, cells := 0, slots := 0, locals := 64 } : Room)).room s m ([.long a, .long b] : List Value).toArray below meth c s.heap [] 0 0 (MQ below (vp_Si (fun r => r = mf_Tw_order a b)) ([.long a, .long b] : List Value).toArray s 0 0 (fun _ => False)) (F0 m 40 ls [.long k0]) := by
    intro k0 ls hl  hE
    refine lv_lstore hx hb d_Tw_order_40 hl (by decide) rfl (fun ls hl => ?_)
    have hl : lv_has ls 8 [(4, .long k0), (2, .long b)] := hl
    refine lv_lload_n hx hb d_Tw_order_42 rfl (lv_at hl 1 rfl) ?_
    refine lv_iconst (v := 0) hx hb d_Tw_order_43 (by decide) ?_
    refine nb_callSi (As := [.long b, .int (nI 0)]) (rest := []) hx hb hml hown hts (c_Tw_minus l ad b 0 (by decide)) nb_t299 nb_t300 nb_t2 nb_t301 hd_Tw_minus rfl ⟨Nat.le_of_ble_eq_true rfl, Nat.le_of_ble_eq_true rfl⟩ ⟨rfl, rfl⟩ hC hS hl.1 rfl (Nat.le_of_ble_eq_true rfl) ⟨Nat.le_of_ble_eq_true rfl, Nat.le_of_ble_eq_true rfl⟩ d_Tw_order_44 ?_
    refine lv_if_eq (tgt := 59) hx hb d_Tw_order_47 (by decide) (fun h4 => ?_) (fun h4 => ?_)
    · refine lv_lload_n hx hb d_Tw_order_59 rfl (lv_at hl 1 rfl) ?_
      refine lv_iconst (v := 0) hx hb d_Tw_order_60 (by decide) ?_
      refine nb_callSl (As := [.long b, .int (nI 0)]) (rest := []) hx hb hml hown hts (c_Tw_size l ad b 0 (by decide)) nb_t280 nb_t281 nb_t2 nb_t282 hd_Tw_size rfl ⟨Nat.le_of_ble_eq_true rfl, Nat.le_of_ble_eq_true rfl⟩ ⟨rfl, rfl⟩ hC hS hl.1 rfl (Nat.le_of_ble_eq_true rfl) ⟨Nat.le_of_ble_eq_true rfl, Nat.le_of_ble_eq_true rfl⟩ d_Tw_order_61 ?_
      refine lv_lstore hx hb d_Tw_order_64 hl (by decide) rfl (fun ls hl => ?_)
      have hl : lv_has ls 8 [(6, .long (mf_Tw_size b 0)), (4, .long k0), (2, .long b)] := hl
      refine lv_lload hx hb d_Tw_order_66 (lv_at hl 1 rfl) ?_
      refine lv_lload hx hb d_Tw_order_68 (lv_at hl 0 rfl) ?_
      refine nb_callSi (As := [.long k0, .long (mf_Tw_size b 0)]) (rest := []) hx hb hml hown hts (c_Jd_lcmp l ad k0 (mf_Tw_size b 0)) nb_t359 nb_t360 nb_t6 nb_t361 hd_Jd_lcmp rfl ⟨Nat.le_of_ble_eq_true rfl, Nat.le_of_ble_eq_true rfl⟩ ⟨rfl, rfl⟩ hC hS hl.1 rfl (Nat.le_of_ble_eq_true rfl) ⟨Nat.le_of_ble_eq_true rfl, Nat.le_of_ble_eq_true rfl⟩ d_Tw_order_70 ?_
      exact W.iret hx hb hr (fun t ht hW => ⟨_, rfl, (by rw [hE, mf_Tw_order_b40, if_pos h4]), ht⟩) t_nil d_Tw_order_73
    · refine lv_lload_n hx hb d_Tw_order_50 rfl (lv_at hl 1 rfl) ?_
      refine lv_iconst (v := 0) hx hb d_Tw_order_51 (by decide) ?_
      refine nb_callSl (As := [.long b, .int (nI 0)]) (rest := []) hx hb hml hown hts (c_Tw_size l ad b 0 (by decide)) nb_t280 nb_t281 nb_t2 nb_t282 hd_Tw_size rfl ⟨Nat.le_of_ble_eq_true rfl, Nat.le_of_ble_eq_true rfl⟩ ⟨rfl, rfl⟩ hC hS hl.1 rfl (Nat.le_of_ble_eq_true rfl) ⟨Nat.le_of_ble_eq_true rfl, Nat.le_of_ble_eq_true rfl⟩ d_Tw_order_52 ?_
      refine lv_lneg hx hb d_Tw_order_55 ?_
      refine lv_goto (tgt := 64) hx hb d_Tw_order_56 (by decide) ?_
      refine lv_lstore hx hb d_Tw_order_64 hl (by decide) rfl (fun ls hl => ?_)
      have hl : lv_has ls 8 [(6, .long (-(mf_Tw_size b 0))), (4, .long k0), (2, .long b)] := hl
      refine lv_lload hx hb d_Tw_order_66 (lv_at hl 1 rfl) ?_
      refine lv_lload hx hb d_Tw_order_68 (lv_at hl 0 rfl) ?_
      refine nb_callSi (As := [.long k0, .long (-(mf_Tw_size b 0))]) (rest := []) hx hb hml hown hts (c_Jd_lcmp l ad k0 (-(mf_Tw_size b 0))) nb_t359 nb_t360 nb_t6 nb_t361 hd_Jd_lcmp rfl ⟨Nat.le_of_ble_eq_true rfl, Nat.le_of_ble_eq_true rfl⟩ ⟨rfl, rfl⟩ hC hS hl.1 rfl (Nat.le_of_ble_eq_true rfl) ⟨Nat.le_of_ble_eq_true rfl, Nat.le_of_ble_eq_true rfl⟩ d_Tw_order_70 ?_
      exact W.iret hx hb hr (fun t ht hW => ⟨_, rfl, (by rw [hE, mf_Tw_order_b40, if_neg h4]), ht⟩) t_nil d_Tw_order_73
  refine lv_lload_n hx hb d_Tw_order_0 rfl (lv_at hl 0 rfl) ?_
  refine lv_iconst (v := 0) hx hb d_Tw_order_1 (by decide) ?_
  refine nb_callSi (As := [.long a, .int (nI 0)]) (rest := []) hx hb hml hown hts (c_Tw_isNone l ad a 0 (by decide)) nb_t277 nb_t278 nb_t2 nb_t279 hd_Tw_isNone rfl ⟨Nat.le_of_ble_eq_true rfl, Nat.le_of_ble_eq_true rfl⟩ ⟨rfl, rfl⟩ hC hS hl.1 rfl (Nat.le_of_ble_eq_true rfl) ⟨Nat.le_of_ble_eq_true rfl, Nat.le_of_ble_eq_true rfl⟩ d_Tw_order_2 ?_
  refine lv_if_ne (tgt := 16) hx hb d_Tw_order_5 (by decide) (fun h1 => ?_) (fun h1 => ?_)
  · refine lv_iconst (v := 2) hx hb d_Tw_order_16 (by decide) ?_
    exact W.iret hx hb hr (fun t ht hW => ⟨_, rfl, (by rw [mf_Tw_order, if_neg h1]), ht⟩) t_nil d_Tw_order_17
  · refine lv_lload_n hx hb d_Tw_order_8 rfl (lv_at hl 1 rfl) ?_
    refine lv_iconst (v := 0) hx hb d_Tw_order_9 (by decide) ?_
    refine nb_callSi (As := [.long b, .int (nI 0)]) (rest := []) hx hb hml hown hts (c_Tw_isNone l ad b 0 (by decide)) nb_t277 nb_t278 nb_t2 nb_t279 hd_Tw_isNone rfl ⟨Nat.le_of_ble_eq_true rfl, Nat.le_of_ble_eq_true rfl⟩ ⟨rfl, rfl⟩ hC hS hl.1 rfl (Nat.le_of_ble_eq_true rfl) ⟨Nat.le_of_ble_eq_true rfl, Nat.le_of_ble_eq_true rfl⟩ d_Tw_order_10 ?_
    refine lv_if_eq (tgt := 18) hx hb d_Tw_order_13 (by decide) (fun h2 => ?_) (fun h2 => ?_)
    · refine lv_lload_n hx hb d_Tw_order_18 rfl (lv_at hl 0 rfl) ?_
      refine lv_iconst (v := 0) hx hb d_Tw_order_19 (by decide) ?_
      refine nb_callSi (As := [.long a, .int (nI 0)]) (rest := []) hx hb hml hown hts (c_Tw_minus l ad a 0 (by decide)) nb_t299 nb_t300 nb_t2 nb_t301 hd_Tw_minus rfl ⟨Nat.le_of_ble_eq_true rfl, Nat.le_of_ble_eq_true rfl⟩ ⟨rfl, rfl⟩ hC hS hl.1 rfl (Nat.le_of_ble_eq_true rfl) ⟨Nat.le_of_ble_eq_true rfl, Nat.le_of_ble_eq_true rfl⟩ d_Tw_order_20 ?_
      refine lv_if_eq (tgt := 35) hx hb d_Tw_order_23 (by decide) (fun h3 => ?_) (fun h3 => ?_)
      · refine lv_lload_n hx hb d_Tw_order_35 rfl (lv_at hl 0 rfl) ?_
        refine lv_iconst (v := 0) hx hb d_Tw_order_36 (by decide) ?_
        refine nb_callSl (As := [.long a, .int (nI 0)]) (rest := []) hx hb hml hown hts (c_Tw_size l ad a 0 (by decide)) nb_t280 nb_t281 nb_t2 nb_t282 hd_Tw_size rfl ⟨Nat.le_of_ble_eq_true rfl, Nat.le_of_ble_eq_true rfl⟩ ⟨rfl, rfl⟩ hC hS hl.1 rfl (Nat.le_of_ble_eq_true rfl) ⟨Nat.le_of_ble_eq_true rfl, Nat.le_of_ble_eq_true rfl⟩ d_Tw_order_37 ?_
        exact b40 (mf_Tw_size a 0) ls (lv_sub hl [1] rfl)  (by rw [mf_Tw_order, if_pos h1, if_pos h2, if_pos h3])
      · refine lv_lload_n hx hb d_Tw_order_26 rfl (lv_at hl 0 rfl) ?_
        refine lv_iconst (v := 0) hx hb d_Tw_order_27 (by decide) ?_
        refine nb_callSl (As := [.long a, .int (nI 0)]) (rest := []) hx hb hml hown hts (c_Tw_size l ad a 0 (by decide)) nb_t280 nb_t281 nb_t2 nb_t282 hd_Tw_size rfl ⟨Nat.le_of_ble_eq_true rfl, Nat.le_of_ble_eq_true rfl⟩ ⟨rfl, rfl⟩ hC hS hl.1 rfl (Nat.le_of_ble_eq_true rfl) ⟨Nat.le_of_ble_eq_true rfl, Nat.le_of_ble_eq_true rfl⟩ d_Tw_order_28 ?_
        refine lv_lneg hx hb d_Tw_order_31 ?_
        refine lv_goto (tgt := 40) hx hb d_Tw_order_32 (by decide) ?_
        exact b40 (-(mf_Tw_size a 0)) ls (lv_sub hl [1] rfl)  (by rw [mf_Tw_order, if_pos h1, if_pos h2, if_neg h3])
    · refine lv_iconst (v := 2) hx hb d_Tw_order_16 (by decide) ?_
      exact W.iret hx hb hr (fun t ht hW => ⟨_, rfl, (by rw [mf_Tw_order, if_pos h1, if_neg h2]), ht⟩) t_nil d_Tw_order_17
def y_Tw_told : MethodName := ⟨"NumberBenchModel", "told", "(J)J"⟩
abbrev w_Tw_told : List Cond := Cond.code y_Tw_told prog_4_method_25_code 2 (Option.some FieldType.long) :: nb_tb
theorem hd_Tw_told : y_Tw_told.cls ≠ "java/lang/invoke/MethodHandle" ∧ y_Tw_told.cls ≠ "java/lang/invoke/VarHandle" ∧ (parseMethodDescriptor y_Tw_told.desc).map (fun d => d.parameters.length) = some 1 := by decide +kernel
theorem d_Tw_told_0 : decode prog_4_method_25_code 0 = .ok (.lload_n 0, 1) := by decide +kernel
theorem d_Tw_told_1 : decode prog_4_method_25_code 1 = .ok (.iconst 0, 1) := by decide +kernel
theorem d_Tw_told_2 : decode prog_4_method_25_code 2 = .ok (.invokestatic 56, 3) := by decide +kernel
theorem d_Tw_told_5 : decode prog_4_method_25_code 5 = .ok (.ifCond .eq 9, 3) := by decide +kernel
theorem d_Tw_told_8 : decode prog_4_method_25_code 8 = .ok (.ldc2_w 11, 3) := by decide +kernel
theorem d_Tw_told_11 : decode prog_4_method_25_code 11 = .ok (.goto 4, 3) := by decide +kernel
theorem d_Tw_told_14 : decode prog_4_method_25_code 14 = .ok (.lload_n 0, 1) := by decide +kernel
theorem d_Tw_told_15 : decode prog_4_method_25_code 15 = .ok (.lreturn, 1) := by decide +kernel
set_option maxHeartbeats 1200000 in
set_option maxRecDepth 100000 in
theorem c_Tw_told (l : Launch) (ad : Nat → Nat) (a : Int64)  : Met l y_Tw_told w_Tw_told ({ frames := 3, cells := 0, slots := 0, locals := 64 } : Room) (va_Pc [.long a] (nb_K ad)) (vp_Sl (fun r => r = mf_Tw_told a)) 0 0 (fun _ => False) := by
  refine Met.ofW (cc := prog_4_method_25_code) (maxL := 2) (ret := some .long) (by decide) rfl ?_
  intro p e s m args below meth c s₁ B hml hv
  obtain ⟨rfl, hC⟩ := hv
  have hx := B.exec
  have hb := B.bytes
  have hr := B.returns
  have hts := atoms_spec (ws := w_Tw_told) B.pre
  have hown : s.vm.findClass "NumberBenchModel" = some m.cls := findClass_of_methodNamed B.named
  have hlocks := B.notSynchronized
  have hC : nb_C ad (fun _ => False) s s.heap := hC
  have hS : va_S (fun _ => False) s.heap s.heap [] := va_S.rf
  have hl := lv_entry ([.long a]) (n := 2) (Nat.le_of_ble_eq_true rfl)
  rw [lg_entry_eq]
  generalize (lg_sl ([.long a]) ++ List.replicate (2 - (lg_sl ([.long a])).length) Slot.unset).toArray = ls at hl ⊢
  have hl : lv_has ls 2 [(0, .long a)] := hl
  refine lv_lload_n hx hb d_Tw_told_0 rfl (lv_at hl 0 rfl) ?_
  refine lv_iconst (v := 0) hx hb d_Tw_told_1 (by decide) ?_
  refine nb_callSi (As := [.long a, .int (nI 0)]) (rest := []) hx hb hml hown hts (c_Tw_isNone l ad a 0 (by decide)) nb_t277 nb_t278 nb_t2 nb_t279 hd_Tw_isNone rfl ⟨Nat.le_of_ble_eq_true rfl, Nat.le_of_ble_eq_true rfl⟩ ⟨rfl, rfl⟩ hC hS hl.1 rfl (Nat.le_of_ble_eq_true rfl) ⟨Nat.le_of_ble_eq_true rfl, Nat.le_of_ble_eq_true rfl⟩ d_Tw_told_2 ?_
  refine lv_if_eq (tgt := 14) hx hb d_Tw_told_5 (by decide) (fun h1 => ?_) (fun h1 => ?_)
  · refine lv_lload_n hx hb d_Tw_told_14 rfl (lv_at hl 0 rfl) ?_
    exact W.lret hx hb hr (fun t ht hW => ⟨_, rfl, (by rw [mf_Tw_told, if_pos h1]), ht⟩) t_nil d_Tw_told_15
  · refine lv_ldc2 (v := (9221120237041090560 : Int64)) hx hb hown (hts (.constantLong "NumberBenchModel" 11 (9221120237041090560 : Int64)) (nb_c nb_t294)) d_Tw_told_8 ?_
    refine lv_goto (tgt := 15) hx hb d_Tw_told_11 (by decide) ?_
    exact W.lret hx hb hr (fun t ht hW => ⟨_, rfl, (by rw [mf_Tw_told, if_neg h1]), ht⟩) t_nil d_Tw_told_15
def y_Tw_add2 : MethodName := ⟨"NumberBenchModel", "add", "(JJ)J"⟩
abbrev w_Tw_add2 : List Cond := Cond.code y_Tw_add2 prog_4_method_26_code 4 (Option.some FieldType.long) :: nb_tb
theorem hd_Tw_add2 : y_Tw_add2.cls ≠ "java/lang/invoke/MethodHandle" ∧ y_Tw_add2.cls ≠ "java/lang/invoke/VarHandle" ∧ (parseMethodDescriptor y_Tw_add2.desc).map (fun d => d.parameters.length) = some 2 := by decide +kernel
theorem d_Tw_add2_0 : decode prog_4_method_26_code 0 = .ok (.lload_n 0, 1) := by decide +kernel
theorem d_Tw_add2_1 : decode prog_4_method_26_code 1 = .ok (.lload_n 2, 1) := by decide +kernel
theorem d_Tw_add2_2 : decode prog_4_method_26_code 2 = .ok (.iconst 0, 1) := by decide +kernel
theorem d_Tw_add2_3 : decode prog_4_method_26_code 3 = .ok (.invokestatic 82, 3) := by decide +kernel
theorem d_Tw_add2_6 : decode prog_4_method_26_code 6 = .ok (.lreturn, 1) := by decide +kernel
set_option maxHeartbeats 1200000 in
set_option maxRecDepth 100000 in
theorem c_Tw_add2 (l : Launch) (ad : Nat → Nat) (a : Int64) (b : Int64)  : Met l y_Tw_add2 w_Tw_add2 ({ frames := 4, cells := 0, slots := 0, locals := 115 } : Room) (va_Pc [.long a, .long b] (nb_K ad)) (vp_Sl (fun r => r = mf_Tw_add2 a b)) 0 0 (fun _ => False) := by
  refine Met.ofW (cc := prog_4_method_26_code) (maxL := 4) (ret := some .long) (by decide) rfl ?_
  intro p e s m args below meth c s₁ B hml hv
  obtain ⟨rfl, hC⟩ := hv
  have hx := B.exec
  have hb := B.bytes
  have hr := B.returns
  have hts := atoms_spec (ws := w_Tw_add2) B.pre
  have hown : s.vm.findClass "NumberBenchModel" = some m.cls := findClass_of_methodNamed B.named
  have hlocks := B.notSynchronized
  have hC : nb_C ad (fun _ => False) s s.heap := hC
  have hS : va_S (fun _ => False) s.heap s.heap [] := va_S.rf
  have hl := lv_entry ([.long a, .long b]) (n := 4) (Nat.le_of_ble_eq_true rfl)
  rw [lg_entry_eq]
  generalize (lg_sl ([.long a, .long b]) ++ List.replicate (4 - (lg_sl ([.long a, .long b])).length) Slot.unset).toArray = ls at hl ⊢
  have hl : lv_has ls 4 [(0, .long a), (2, .long b)] := hl
  refine lv_lload_n hx hb d_Tw_add2_0 rfl (lv_at hl 0 rfl) ?_
  refine lv_lload_n hx hb d_Tw_add2_1 rfl (lv_at hl 1 rfl) ?_
  refine lv_iconst (v := 0) hx hb d_Tw_add2_2 (by decide) ?_
  refine nb_callSl (As := [.long a, .long b, .int (nI 0)]) (rest := []) hx hb hml hown hts (c_Tw_add l ad a b 0 (by decide)) nb_t326 nb_t327 nb_t2 nb_t328 hd_Tw_add rfl ⟨Nat.le_of_ble_eq_true rfl, Nat.le_of_ble_eq_true rfl⟩ ⟨rfl, rfl⟩ hC hS hl.1 rfl (Nat.le_of_ble_eq_true rfl) ⟨Nat.le_of_ble_eq_true rfl, Nat.le_of_ble_eq_true rfl⟩ d_Tw_add2_3 ?_
  exact W.lret hx hb hr (fun t ht hW => ⟨_, rfl, (by rw [mf_Tw_add2]), ht⟩) t_nil d_Tw_add2_6
def y_Tw_subtract2 : MethodName := ⟨"NumberBenchModel", "subtract", "(JJ)J"⟩
abbrev w_Tw_subtract2 : List Cond := Cond.code y_Tw_subtract2 prog_4_method_27_code 4 (Option.some FieldType.long) :: nb_tb
theorem hd_Tw_subtract2 : y_Tw_subtract2.cls ≠ "java/lang/invoke/MethodHandle" ∧ y_Tw_subtract2.cls ≠ "java/lang/invoke/VarHandle" ∧ (parseMethodDescriptor y_Tw_subtract2.desc).map (fun d => d.parameters.length) = some 2 := by decide +kernel
theorem d_Tw_subtract2_0 : decode prog_4_method_27_code 0 = .ok (.lload_n 0, 1) := by decide +kernel
theorem d_Tw_subtract2_1 : decode prog_4_method_27_code 1 = .ok (.lload_n 2, 1) := by decide +kernel
theorem d_Tw_subtract2_2 : decode prog_4_method_27_code 2 = .ok (.iconst 0, 1) := by decide +kernel
theorem d_Tw_subtract2_3 : decode prog_4_method_27_code 3 = .ok (.invokestatic 107, 3) := by decide +kernel
theorem d_Tw_subtract2_6 : decode prog_4_method_27_code 6 = .ok (.lreturn, 1) := by decide +kernel
set_option maxHeartbeats 1200000 in
set_option maxRecDepth 100000 in
theorem c_Tw_subtract2 (l : Launch) (ad : Nat → Nat) (a : Int64) (b : Int64)  : Met l y_Tw_subtract2 w_Tw_subtract2 ({ frames := 5, cells := 0, slots := 0, locals := 139 } : Room) (va_Pc [.long a, .long b] (nb_K ad)) (vp_Sl (fun r => r = mf_Tw_subtract2 a b)) 0 0 (fun _ => False) := by
  refine Met.ofW (cc := prog_4_method_27_code) (maxL := 4) (ret := some .long) (by decide) rfl ?_
  intro p e s m args below meth c s₁ B hml hv
  obtain ⟨rfl, hC⟩ := hv
  have hx := B.exec
  have hb := B.bytes
  have hr := B.returns
  have hts := atoms_spec (ws := w_Tw_subtract2) B.pre
  have hown : s.vm.findClass "NumberBenchModel" = some m.cls := findClass_of_methodNamed B.named
  have hlocks := B.notSynchronized
  have hC : nb_C ad (fun _ => False) s s.heap := hC
  have hS : va_S (fun _ => False) s.heap s.heap [] := va_S.rf
  have hl := lv_entry ([.long a, .long b]) (n := 4) (Nat.le_of_ble_eq_true rfl)
  rw [lg_entry_eq]
  generalize (lg_sl ([.long a, .long b]) ++ List.replicate (4 - (lg_sl ([.long a, .long b])).length) Slot.unset).toArray = ls at hl ⊢
  have hl : lv_has ls 4 [(0, .long a), (2, .long b)] := hl
  refine lv_lload_n hx hb d_Tw_subtract2_0 rfl (lv_at hl 0 rfl) ?_
  refine lv_lload_n hx hb d_Tw_subtract2_1 rfl (lv_at hl 1 rfl) ?_
  refine lv_iconst (v := 0) hx hb d_Tw_subtract2_2 (by decide) ?_
  refine nb_callSl (As := [.long a, .long b, .int (nI 0)]) (rest := []) hx hb hml hown hts (c_Tw_subtract l ad a b 0 (by decide)) nb_t332 nb_t333 nb_t2 nb_t334 hd_Tw_subtract rfl ⟨Nat.le_of_ble_eq_true rfl, Nat.le_of_ble_eq_true rfl⟩ ⟨rfl, rfl⟩ hC hS hl.1 rfl (Nat.le_of_ble_eq_true rfl) ⟨Nat.le_of_ble_eq_true rfl, Nat.le_of_ble_eq_true rfl⟩ d_Tw_subtract2_3 ?_
  exact W.lret hx hb hr (fun t ht hW => ⟨_, rfl, (by rw [mf_Tw_subtract2]), ht⟩) t_nil d_Tw_subtract2_6
def y_Tw_multiply2 : MethodName := ⟨"NumberBenchModel", "multiply", "(JJ)J"⟩
abbrev w_Tw_multiply2 : List Cond := Cond.code y_Tw_multiply2 prog_4_method_28_code 4 (Option.some FieldType.long) :: nb_tb
theorem hd_Tw_multiply2 : y_Tw_multiply2.cls ≠ "java/lang/invoke/MethodHandle" ∧ y_Tw_multiply2.cls ≠ "java/lang/invoke/VarHandle" ∧ (parseMethodDescriptor y_Tw_multiply2.desc).map (fun d => d.parameters.length) = some 2 := by decide +kernel
theorem d_Tw_multiply2_0 : decode prog_4_method_28_code 0 = .ok (.lload_n 0, 1) := by decide +kernel
theorem d_Tw_multiply2_1 : decode prog_4_method_28_code 1 = .ok (.lload_n 2, 1) := by decide +kernel
theorem d_Tw_multiply2_2 : decode prog_4_method_28_code 2 = .ok (.iconst 0, 1) := by decide +kernel
theorem d_Tw_multiply2_3 : decode prog_4_method_28_code 3 = .ok (.invokestatic 110, 3) := by decide +kernel
theorem d_Tw_multiply2_6 : decode prog_4_method_28_code 6 = .ok (.lreturn, 1) := by decide +kernel
set_option maxHeartbeats 1200000 in
set_option maxRecDepth 100000 in
theorem c_Tw_multiply2 (l : Launch) (ad : Nat → Nat) (a : Int64) (b : Int64)  : Met l y_Tw_multiply2 w_Tw_multiply2 ({ frames := 5, cells := 0, slots := 0, locals := 145 } : Room) (va_Pc [.long a, .long b] (nb_K ad)) (vp_Sl (fun r => r = mf_Tw_multiply2 a b)) 0 0 (fun _ => False) := by
  refine Met.ofW (cc := prog_4_method_28_code) (maxL := 4) (ret := some .long) (by decide) rfl ?_
  intro p e s m args below meth c s₁ B hml hv
  obtain ⟨rfl, hC⟩ := hv
  have hx := B.exec
  have hb := B.bytes
  have hr := B.returns
  have hts := atoms_spec (ws := w_Tw_multiply2) B.pre
  have hown : s.vm.findClass "NumberBenchModel" = some m.cls := findClass_of_methodNamed B.named
  have hlocks := B.notSynchronized
  have hC : nb_C ad (fun _ => False) s s.heap := hC
  have hS : va_S (fun _ => False) s.heap s.heap [] := va_S.rf
  have hl := lv_entry ([.long a, .long b]) (n := 4) (Nat.le_of_ble_eq_true rfl)
  rw [lg_entry_eq]
  generalize (lg_sl ([.long a, .long b]) ++ List.replicate (4 - (lg_sl ([.long a, .long b])).length) Slot.unset).toArray = ls at hl ⊢
  have hl : lv_has ls 4 [(0, .long a), (2, .long b)] := hl
  refine lv_lload_n hx hb d_Tw_multiply2_0 rfl (lv_at hl 0 rfl) ?_
  refine lv_lload_n hx hb d_Tw_multiply2_1 rfl (lv_at hl 1 rfl) ?_
  refine lv_iconst (v := 0) hx hb d_Tw_multiply2_2 (by decide) ?_
  refine nb_callSl (As := [.long a, .long b, .int (nI 0)]) (rest := []) hx hb hml hown hts (c_Tw_multiply l ad a b 0 (by decide)) nb_t338 nb_t339 nb_t2 nb_t340 hd_Tw_multiply rfl ⟨Nat.le_of_ble_eq_true rfl, Nat.le_of_ble_eq_true rfl⟩ ⟨rfl, rfl⟩ hC hS hl.1 rfl (Nat.le_of_ble_eq_true rfl) ⟨Nat.le_of_ble_eq_true rfl, Nat.le_of_ble_eq_true rfl⟩ d_Tw_multiply2_3 ?_
  exact W.lret hx hb hr (fun t ht hW => ⟨_, rfl, (by rw [mf_Tw_multiply2]), ht⟩) t_nil d_Tw_multiply2_6
def y_Tw_divide2 : MethodName := ⟨"NumberBenchModel", "divide", "(JJ)J"⟩
abbrev w_Tw_divide2 : List Cond := Cond.code y_Tw_divide2 prog_4_method_29_code 4 (Option.some FieldType.long) :: nb_tb
theorem hd_Tw_divide2 : y_Tw_divide2.cls ≠ "java/lang/invoke/MethodHandle" ∧ y_Tw_divide2.cls ≠ "java/lang/invoke/VarHandle" ∧ (parseMethodDescriptor y_Tw_divide2.desc).map (fun d => d.parameters.length) = some 2 := by decide +kernel
theorem d_Tw_divide2_0 : decode prog_4_method_29_code 0 = .ok (.lload_n 0, 1) := by decide +kernel
theorem d_Tw_divide2_1 : decode prog_4_method_29_code 1 = .ok (.lload_n 2, 1) := by decide +kernel
theorem d_Tw_divide2_2 : decode prog_4_method_29_code 2 = .ok (.iconst 0, 1) := by decide +kernel
theorem d_Tw_divide2_3 : decode prog_4_method_29_code 3 = .ok (.invokestatic 113, 3) := by decide +kernel
theorem d_Tw_divide2_6 : decode prog_4_method_29_code 6 = .ok (.lreturn, 1) := by decide +kernel
set_option maxHeartbeats 1200000 in
set_option maxRecDepth 100000 in
theorem c_Tw_divide2 (l : Launch) (ad : Nat → Nat) (a : Int64) (b : Int64)  : Met l y_Tw_divide2 w_Tw_divide2 ({ frames := 4, cells := 0, slots := 0, locals := 112 } : Room) (va_Pc [.long a, .long b] (nb_K ad)) (vp_Sl (fun r => r = mf_Tw_divide2 a b)) 0 0 (fun _ => False) := by
  refine Met.ofW (cc := prog_4_method_29_code) (maxL := 4) (ret := some .long) (by decide) rfl ?_
  intro p e s m args below meth c s₁ B hml hv
  obtain ⟨rfl, hC⟩ := hv
  have hx := B.exec
  have hb := B.bytes
  have hr := B.returns
  have hts := atoms_spec (ws := w_Tw_divide2) B.pre
  have hown : s.vm.findClass "NumberBenchModel" = some m.cls := findClass_of_methodNamed B.named
  have hlocks := B.notSynchronized
  have hC : nb_C ad (fun _ => False) s s.heap := hC
  have hS : va_S (fun _ => False) s.heap s.heap [] := va_S.rf
  have hl := lv_entry ([.long a, .long b]) (n := 4) (Nat.le_of_ble_eq_true rfl)
  rw [lg_entry_eq]
  generalize (lg_sl ([.long a, .long b]) ++ List.replicate (4 - (lg_sl ([.long a, .long b])).length) Slot.unset).toArray = ls at hl ⊢
  have hl : lv_has ls 4 [(0, .long a), (2, .long b)] := hl
  refine lv_lload_n hx hb d_Tw_divide2_0 rfl (lv_at hl 0 rfl) ?_
  refine lv_lload_n hx hb d_Tw_divide2_1 rfl (lv_at hl 1 rfl) ?_
  refine lv_iconst (v := 0) hx hb d_Tw_divide2_2 (by decide) ?_
  refine nb_callSl (As := [.long a, .long b, .int (nI 0)]) (rest := []) hx hb hml hown hts (c_Tw_divide l ad a b 0 (by decide)) nb_t347 nb_t348 nb_t2 nb_t349 hd_Tw_divide rfl ⟨Nat.le_of_ble_eq_true rfl, Nat.le_of_ble_eq_true rfl⟩ ⟨rfl, rfl⟩ hC hS hl.1 rfl (Nat.le_of_ble_eq_true rfl) ⟨Nat.le_of_ble_eq_true rfl, Nat.le_of_ble_eq_true rfl⟩ d_Tw_divide2_3 ?_
  exact W.lret hx hb hr (fun t ht hW => ⟨_, rfl, (by rw [mf_Tw_divide2]), ht⟩) t_nil d_Tw_divide2_6
def y_Tw_root : MethodName := ⟨"NumberBenchModel", "root", "(J)J"⟩
abbrev w_Tw_root : List Cond := Cond.code y_Tw_root prog_4_method_30_code 5 (Option.some FieldType.long) :: nb_tb
theorem hd_Tw_root : y_Tw_root.cls ≠ "java/lang/invoke/MethodHandle" ∧ y_Tw_root.cls ≠ "java/lang/invoke/VarHandle" ∧ (parseMethodDescriptor y_Tw_root.desc).map (fun d => d.parameters.length) = some 1 := by decide +kernel
theorem d_Tw_root_0 : decode prog_4_method_30_code 0 = .ok (.lload_n 0, 1) := by decide +kernel
theorem d_Tw_root_1 : decode prog_4_method_30_code 1 = .ok (.lconst 0, 1) := by decide +kernel
theorem d_Tw_root_2 : decode prog_4_method_30_code 2 = .ok (.invokestatic 116, 3) := by decide +kernel
theorem d_Tw_root_5 : decode prog_4_method_30_code 5 = .ok (.iconst 1, 1) := by decide +kernel
theorem d_Tw_root_6 : decode prog_4_method_30_code 6 = .ok (.if_icmp .ne 11, 3) := by decide +kernel
theorem d_Tw_root_9 : decode prog_4_method_30_code 9 = .ok (.lload_n 0, 1) := by decide +kernel
theorem d_Tw_root_10 : decode prog_4_method_30_code 10 = .ok (.iconst 0, 1) := by decide +kernel
theorem d_Tw_root_11 : decode prog_4_method_30_code 11 = .ok (.invokestatic 63, 3) := by decide +kernel
theorem d_Tw_root_14 : decode prog_4_method_30_code 14 = .ok (.ifCond .eq 5, 3) := by decide +kernel
theorem d_Tw_root_17 : decode prog_4_method_30_code 17 = .ok (.lload_n 0, 1) := by decide +kernel
theorem d_Tw_root_18 : decode prog_4_method_30_code 18 = .ok (.lreturn, 1) := by decide +kernel
theorem d_Tw_root_19 : decode prog_4_method_30_code 19 = .ok (.lload_n 0, 1) := by decide +kernel
theorem d_Tw_root_20 : decode prog_4_method_30_code 20 = .ok (.iconst 1, 1) := by decide +kernel
theorem d_Tw_root_21 : decode prog_4_method_30_code 21 = .ok (.lshr, 1) := by decide +kernel
theorem d_Tw_root_22 : decode prog_4_method_30_code 22 = .ok (.ldc2_w 119, 3) := by decide +kernel
theorem d_Tw_root_25 : decode prog_4_method_30_code 25 = .ok (.ladd, 1) := by decide +kernel
theorem d_Tw_root_26 : decode prog_4_method_30_code 26 = .ok (.lstore_n 2, 1) := by decide +kernel
theorem d_Tw_root_27 : decode prog_4_method_30_code 27 = .ok (.iconst 0, 1) := by decide +kernel
theorem d_Tw_root_28 : decode prog_4_method_30_code 28 = .ok (.istore 4, 2) := by decide +kernel
theorem d_Tw_root_30 : decode prog_4_method_30_code 30 = .ok (.iload 4, 2) := by decide +kernel
theorem d_Tw_root_32 : decode prog_4_method_30_code 32 = .ok (.iconst 5, 1) := by decide +kernel
theorem d_Tw_root_33 : decode prog_4_method_30_code 33 = .ok (.if_icmp .ge 25, 3) := by decide +kernel
theorem d_Tw_root_36 : decode prog_4_method_30_code 36 = .ok (.lload_n 2, 1) := by decide +kernel
theorem d_Tw_root_37 : decode prog_4_method_30_code 37 = .ok (.lload_n 0, 1) := by decide +kernel
theorem d_Tw_root_38 : decode prog_4_method_30_code 38 = .ok (.lload_n 2, 1) := by decide +kernel
theorem d_Tw_root_39 : decode prog_4_method_30_code 39 = .ok (.invokestatic 121, 3) := by decide +kernel
theorem d_Tw_root_42 : decode prog_4_method_30_code 42 = .ok (.invokestatic 123, 3) := by decide +kernel
theorem d_Tw_root_45 : decode prog_4_method_30_code 45 = .ok (.ldc2_w 125, 3) := by decide +kernel
theorem d_Tw_root_48 : decode prog_4_method_30_code 48 = .ok (.invokestatic 121, 3) := by decide +kernel
theorem d_Tw_root_51 : decode prog_4_method_30_code 51 = .ok (.lstore_n 2, 1) := by decide +kernel
theorem d_Tw_root_52 : decode prog_4_method_30_code 52 = .ok (.iinc 4 1, 3) := by decide +kernel
theorem d_Tw_root_55 : decode prog_4_method_30_code 55 = .ok (.goto (-25), 3) := by decide +kernel
theorem d_Tw_root_58 : decode prog_4_method_30_code 58 = .ok (.lload_n 2, 1) := by decide +kernel
theorem d_Tw_root_59 : decode prog_4_method_30_code 59 = .ok (.lreturn, 1) := by decide +kernel
set_option maxHeartbeats 1200000 in
set_option maxRecDepth 100000 in
theorem c_Tw_root (l : Launch) (ad : Nat → Nat) (a : Int64)  : Met l y_Tw_root w_Tw_root ({ frames := 5, cells := 0, slots := 0, locals := 138 } : Room) (va_Pc [.long a] (nb_K ad)) (vp_Sl (fun r => r = mf_Tw_root a)) 0 0 (fun _ => False) := by
  refine Met.ofW (cc := prog_4_method_30_code) (maxL := 5) (ret := some .long) (by decide) rfl ?_
  intro p e s m args below meth c s₁ B hml hv
  obtain ⟨rfl, hC⟩ := hv
  have hx := B.exec
  have hb := B.bytes
  have hr := B.returns
  have hts := atoms_spec (ws := w_Tw_root) B.pre
  have hown : s.vm.findClass "NumberBenchModel" = some m.cls := findClass_of_methodNamed B.named
  have hlocks := B.notSynchronized
  have hC : nb_C ad (fun _ => False) s s.heap := hC
  have hS : va_S (fun _ => False) s.heap s.heap [] := va_S.rf
  have hl := lv_entry ([.long a]) (n := 5) (Nat.le_of_ble_eq_true rfl)
  rw [lg_entry_eq]
  generalize (lg_sl ([.long a]) ++ List.replicate (5 - (lg_sl ([.long a])).length) Slot.unset).toArray = ls at hl ⊢
  have hl : lv_has ls 5 [(0, .long a)] := hl
  have b30 : ∀ (fuel : Nat) (x2 : Int64) (x4 : Int32) (ls : Array Slot), (((5 : Int32).toInt - x4.toInt).toNat) < fuel → lv_has ls 5 [(0, .long a), (2, .long x2), (4, .int x4)] → mf_Tw_root a = mf_Tw_root_b30 a fuel x2 x4 → W p l e (headSpec w_Tw_root ({ frames := 5, cells := 0, slots := 0, locals := 138 } : Room)).room s m ([.long a] : List Value).toArray below meth c s.heap [] 0 0 (MQ below (vp_Sl (fun r => r = mf_Tw_root a)) ([.long a] : List Value).toArray s 0 0 (fun _ => False)) (F0 m 30 ls []) := by
    intro fuel
    induction fuel with
    | zero => intro x2 x4 ls hf; exact absurd hf (Nat.not_lt_zero _)
    | succ fuel ih =>
      intro x2 x4 ls hf hl  hE
      refine lv_iload hx hb d_Tw_root_30 (lv_at hl 2 rfl) ?_
      refine lv_iconst (v := 5) hx hb d_Tw_root_32 (by decide) ?_
      refine lv_icmp_ge (tgt := 58) hx hb d_Tw_root_33 (by decide) (fun h4 => ?_) (fun h4 => ?_)
      · refine lv_lload_n hx hb d_Tw_root_58 rfl (lv_at hl 1 rfl) ?_
        exact W.lret hx hb hr (fun t ht hW => ⟨_, rfl, (by rw [hE, mf_Tw_root_b30, if_pos h4]), ht⟩) t_nil d_Tw_root_59
      · refine lv_lload_n hx hb d_Tw_root_36 rfl (lv_at hl 1 rfl) ?_
        refine lv_lload_n hx hb d_Tw_root_37 rfl (lv_at hl 0 rfl) ?_
        refine lv_lload_n hx hb d_Tw_root_38 rfl (lv_at hl 1 rfl) ?_
        refine nb_callSl (As := [.long a, .long x2]) (rest := [.long x2]) hx hb hml hown hts (c_Tw_divide2 l ad a x2) nb_t363 nb_t364 nb_t2 nb_t365 hd_Tw_divide2 rfl ⟨Nat.le_of_ble_eq_true rfl, Nat.le_of_ble_eq_true rfl⟩ ⟨rfl, rfl⟩ hC hS hl.1 rfl (Nat.le_of_ble_eq_true rfl) ⟨Nat.le_of_ble_eq_true rfl, Nat.le_of_ble_eq_true rfl⟩ d_Tw_root_39 ?_
        refine nb_callSl (As := [.long x2, .long (mf_Tw_divide2 a x2)]) (rest := []) hx hb hml hown hts (c_Tw_add2 l ad x2 (mf_Tw_divide2 a x2)) nb_t366 nb_t367 nb_t2 nb_t368 hd_Tw_add2 rfl ⟨Nat.le_of_ble_eq_true rfl, Nat.le_of_ble_eq_true rfl⟩ ⟨rfl, rfl⟩ hC hS hl.1 rfl (Nat.le_of_ble_eq_true rfl) ⟨Nat.le_of_ble_eq_true rfl, Nat.le_of_ble_eq_true rfl⟩ d_Tw_root_42 ?_
        refine lv_ldc2 (v := (4611686018427387904 : Int64)) hx hb hown (hts (.constantLong "NumberBenchModel" 125 (4611686018427387904 : Int64)) (nb_c nb_t369)) d_Tw_root_45 ?_
        refine nb_callSl (As := [.long (mf_Tw_add2 x2 (mf_Tw_divide2 a x2)), .long (4611686018427387904 : Int64)]) (rest := []) hx hb hml hown hts (c_Tw_divide2 l ad (mf_Tw_add2 x2 (mf_Tw_divide2 a x2)) (4611686018427387904 : Int64)) nb_t363 nb_t364 nb_t2 nb_t365 hd_Tw_divide2 rfl ⟨Nat.le_of_ble_eq_true rfl, Nat.le_of_ble_eq_true rfl⟩ ⟨rfl, rfl⟩ hC hS hl.1 rfl (Nat.le_of_ble_eq_true rfl) ⟨Nat.le_of_ble_eq_true rfl, Nat.le_of_ble_eq_true rfl⟩ d_Tw_root_48 ?_
        refine lv_topl (fun v5 ev5 => ?_)
        refine lv_lstore_n hx hb d_Tw_root_51 rfl hl (by decide) rfl (fun ls hl => ?_)
        have hl : lv_has ls 5 [(2, .long v5), (0, .long a), (4, .int x4)] := hl
        refine lv_iinc (k := 2) (v := x4 + (1 : Int32)) hx hb d_Tw_root_52 hl rfl rfl (by decide) rfl (fun ls hl => ?_)
        have hl : lv_has ls 5 [(4, .int (x4 + (1 : Int32))), (2, .long v5), (0, .long a)] := hl
        refine lv_goto (tgt := 30) hx hb d_Tw_root_55 (by decide) ?_
        exact ih v5 (x4 + (1 : Int32)) ls (Nat.lt_of_lt_of_le (lp_up h4) (Nat.le_of_lt_succ hf)) (lv_sub hl [2, 1, 0] rfl)  (by subst ev5; rw [hE, mf_Tw_root_b30, if_neg h4])
  refine lv_lload_n hx hb d_Tw_root_0 rfl (lv_at hl 0 rfl) ?_
  refine lv_lconst (v := 0) hx hb d_Tw_root_1 (by decide) ?_
  refine nb_callSi (As := [.long a, .long (0 : Int64)]) (rest := []) hx hb hml hown hts (c_Tw_order l ad a (0 : Int64)) nb_t356 nb_t357 nb_t2 nb_t358 hd_Tw_order rfl ⟨Nat.le_of_ble_eq_true rfl, Nat.le_of_ble_eq_true rfl⟩ ⟨rfl, rfl⟩ hC hS hl.1 rfl (Nat.le_of_ble_eq_true rfl) ⟨Nat.le_of_ble_eq_true rfl, Nat.le_of_ble_eq_true rfl⟩ d_Tw_root_2 ?_
  refine lv_iconst (v := 1) hx hb d_Tw_root_5 (by decide) ?_
  refine lv_icmp_ne (tgt := 17) hx hb d_Tw_root_6 (by decide) (fun h1 => ?_) (fun h1 => ?_)
  · refine lv_lload_n hx hb d_Tw_root_17 rfl (lv_at hl 0 rfl) ?_
    exact W.lret hx hb hr (fun t ht hW => ⟨_, rfl, (by rw [mf_Tw_root, if_neg h1]), ht⟩) t_nil d_Tw_root_18
  · refine lv_lload_n hx hb d_Tw_root_9 rfl (lv_at hl 0 rfl) ?_
    refine lv_iconst (v := 0) hx hb d_Tw_root_10 (by decide) ?_
    refine nb_callSi (As := [.long a, .int (nI 0)]) (rest := []) hx hb hml hown hts (c_Tw_isInfinite l ad a 0 (by decide)) nb_t296 nb_t297 nb_t2 nb_t298 hd_Tw_isInfinite rfl ⟨Nat.le_of_ble_eq_true rfl, Nat.le_of_ble_eq_true rfl⟩ ⟨rfl, rfl⟩ hC hS hl.1 rfl (Nat.le_of_ble_eq_true rfl) ⟨Nat.le_of_ble_eq_true rfl, Nat.le_of_ble_eq_true rfl⟩ d_Tw_root_11 ?_
    refine lv_if_eq (tgt := 19) hx hb d_Tw_root_14 (by decide) (fun h2 => ?_) (fun h2 => ?_)
    · refine lv_lload_n hx hb d_Tw_root_19 rfl (lv_at hl 0 rfl) ?_
      refine lv_iconst (v := 1) hx hb d_Tw_root_20 (by decide) ?_
      refine lv_lshr hx hb d_Tw_root_21 rfl ?_
      refine lv_ldc2 (v := (2303591209400008704 : Int64)) hx hb hown (hts (.constantLong "NumberBenchModel" 119 (2303591209400008704 : Int64)) (nb_c nb_t362)) d_Tw_root_22 ?_
      refine lv_ladd hx hb d_Tw_root_25 ?_
      refine lv_topl (fun v3 ev3 => ?_)
      refine lv_lstore_n hx hb d_Tw_root_26 rfl hl (by decide) rfl (fun ls hl => ?_)
      have hl : lv_has ls 5 [(2, .long v3), (0, .long a)] := hl
      refine lv_iconst (v := 0) hx hb d_Tw_root_27 (by decide) ?_
      refine lv_istore hx hb d_Tw_root_28 hl (by decide) rfl (fun ls hl => ?_)
      have hl : lv_has ls 5 [(4, .int (0 : Int32)), (2, .long v3), (0, .long a)] := hl
      exact b30 ((((5 : Int32).toInt - (0 : Int32).toInt).toNat) + 1) v3 (0 : Int32) ls (Nat.lt_succ_self _) (lv_sub hl [2, 1, 0] rfl)  (by subst ev3; rw [mf_Tw_root, if_pos h1, if_pos h2])
    · refine lv_lload_n hx hb d_Tw_root_17 rfl (lv_at hl 0 rfl) ?_
      exact W.lret hx hb hr (fun t ht hW => ⟨_, rfl, (by rw [mf_Tw_root, if_pos h1, if_neg h2]), ht⟩) t_nil d_Tw_root_18
def y_Tw_in : MethodName := ⟨"NumberBenchModel", "in", "(II)Z"⟩
abbrev w_Tw_in : List Cond := Cond.code y_Tw_in prog_4_method_31_code 2 (Option.some FieldType.boolean) :: nb_tb
theorem hd_Tw_in : y_Tw_in.cls ≠ "java/lang/invoke/MethodHandle" ∧ y_Tw_in.cls ≠ "java/lang/invoke/VarHandle" ∧ (parseMethodDescriptor y_Tw_in.desc).map (fun d => d.parameters.length) = some 2 := by decide +kernel
theorem d_Tw_in_0 : decode prog_4_method_31_code 0 = .ok (.iload_n 0, 1) := by decide +kernel
theorem d_Tw_in_1 : decode prog_4_method_31_code 1 = .ok (.ifCond .lt 12, 3) := by decide +kernel
theorem d_Tw_in_4 : decode prog_4_method_31_code 4 = .ok (.iload_n 0, 1) := by decide +kernel
theorem d_Tw_in_5 : decode prog_4_method_31_code 5 = .ok (.iload_n 1, 1) := by decide +kernel
theorem d_Tw_in_6 : decode prog_4_method_31_code 6 = .ok (.if_icmp .ge 7, 3) := by decide +kernel
theorem d_Tw_in_9 : decode prog_4_method_31_code 9 = .ok (.iconst 1, 1) := by decide +kernel
theorem d_Tw_in_10 : decode prog_4_method_31_code 10 = .ok (.goto 4, 3) := by decide +kernel
theorem d_Tw_in_13 : decode prog_4_method_31_code 13 = .ok (.iconst 0, 1) := by decide +kernel
theorem d_Tw_in_14 : decode prog_4_method_31_code 14 = .ok (.ireturn, 1) := by decide +kernel
set_option maxHeartbeats 1200000 in
set_option maxRecDepth 100000 in
theorem c_Tw_in (l : Launch) (ad : Nat → Nat) (k : Int32) (n : Int32)  : Met l y_Tw_in w_Tw_in ({ frames := 0, cells := 0, slots := 0, locals := 0 } : Room) (va_Pc [.int k, .int n] (nb_K ad)) (vp_Si (fun r => r = mf_Tw_in k n)) 0 0 (fun _ => False) := by
  refine Met.ofW (cc := prog_4_method_31_code) (maxL := 2) (ret := some .boolean) (by decide) rfl ?_
  intro p e s m args below meth c s₁ B hml hv
  obtain ⟨rfl, hC⟩ := hv
  have hx := B.exec
  have hb := B.bytes
  have hr := B.returns
  have hts := atoms_spec (ws := w_Tw_in) B.pre
  have hown : s.vm.findClass "NumberBenchModel" = some m.cls := findClass_of_methodNamed B.named
  have hlocks := B.notSynchronized
  have hC : nb_C ad (fun _ => False) s s.heap := hC
  have hS : va_S (fun _ => False) s.heap s.heap [] := va_S.rf
  have hl := lv_entry ([.int k, .int n]) (n := 2) (Nat.le_of_ble_eq_true rfl)
  rw [lg_entry_eq]
  generalize (lg_sl ([.int k, .int n]) ++ List.replicate (2 - (lg_sl ([.int k, .int n])).length) Slot.unset).toArray = ls at hl ⊢
  have hl : lv_has ls 2 [(0, .int k), (1, .int n)] := hl
  refine lv_iload_n hx hb d_Tw_in_0 rfl (lv_at hl 0 rfl) ?_
  refine lv_if_lt (tgt := 13) hx hb d_Tw_in_1 (by decide) (fun h1 => ?_) (fun h1 => ?_)
  · refine lv_iconst (v := 0) hx hb d_Tw_in_13 (by decide) ?_
    exact W.zret (ty := .boolean) hx hb hr (by decide) (fun t ht hW => ⟨_, rfl, (by rw [mf_Tw_in, if_pos h1]), ht⟩) t_nil d_Tw_in_14
  · refine lv_iload_n hx hb d_Tw_in_4 rfl (lv_at hl 0 rfl) ?_
    refine lv_iload_n hx hb d_Tw_in_5 rfl (lv_at hl 1 rfl) ?_
    refine lv_icmp_ge (tgt := 13) hx hb d_Tw_in_6 (by decide) (fun h2 => ?_) (fun h2 => ?_)
    · refine lv_iconst (v := 0) hx hb d_Tw_in_13 (by decide) ?_
      exact W.zret (ty := .boolean) hx hb hr (by decide) (fun t ht hW => ⟨_, rfl, (by rw [mf_Tw_in, if_neg h1, if_pos h2]), ht⟩) t_nil d_Tw_in_14
    · refine lv_iconst (v := 1) hx hb d_Tw_in_9 (by decide) ?_
      refine lv_goto (tgt := 14) hx hb d_Tw_in_10 (by decide) ?_
      exact W.zret (ty := .boolean) hx hb hr (by decide) (fun t ht hW => ⟨_, rfl, (by rw [mf_Tw_in, if_neg h1, if_neg h2]), ht⟩) t_nil d_Tw_in_14
def y_Tw_floatOf : MethodName := ⟨"NumberBenchModel", "floatOf", "(I)J"⟩
abbrev w_Tw_floatOf : List Cond := Cond.code y_Tw_floatOf prog_4_method_32_code 1 (Option.some FieldType.long) :: nb_tb
theorem hd_Tw_floatOf : y_Tw_floatOf.cls ≠ "java/lang/invoke/MethodHandle" ∧ y_Tw_floatOf.cls ≠ "java/lang/invoke/VarHandle" ∧ (parseMethodDescriptor y_Tw_floatOf.desc).map (fun d => d.parameters.length) = some 1 := by decide +kernel
theorem d_Tw_floatOf_0 : decode prog_4_method_32_code 0 = .ok (.iload_n 0, 1) := by decide +kernel
theorem d_Tw_floatOf_1 : decode prog_4_method_32_code 1 = .ok (.i2l, 1) := by decide +kernel
theorem d_Tw_floatOf_2 : decode prog_4_method_32_code 2 = .ok (.ldc2_w 127, 3) := by decide +kernel
theorem d_Tw_floatOf_5 : decode prog_4_method_32_code 5 = .ok (.land, 1) := by decide +kernel
theorem d_Tw_floatOf_6 : decode prog_4_method_32_code 6 = .ok (.lreturn, 1) := by decide +kernel
set_option maxHeartbeats 1200000 in
set_option maxRecDepth 100000 in
theorem c_Tw_floatOf (l : Launch) (ad : Nat → Nat) (k : Int32)  : Met l y_Tw_floatOf w_Tw_floatOf ({ frames := 0, cells := 0, slots := 0, locals := 0 } : Room) (va_Pc [.int k] (nb_K ad)) (vp_Sl (fun r => r = mf_Tw_floatOf k)) 0 0 (fun _ => False) := by
  refine Met.ofW (cc := prog_4_method_32_code) (maxL := 1) (ret := some .long) (by decide) rfl ?_
  intro p e s m args below meth c s₁ B hml hv
  obtain ⟨rfl, hC⟩ := hv
  have hx := B.exec
  have hb := B.bytes
  have hr := B.returns
  have hts := atoms_spec (ws := w_Tw_floatOf) B.pre
  have hown : s.vm.findClass "NumberBenchModel" = some m.cls := findClass_of_methodNamed B.named
  have hlocks := B.notSynchronized
  have hC : nb_C ad (fun _ => False) s s.heap := hC
  have hS : va_S (fun _ => False) s.heap s.heap [] := va_S.rf
  have hl := lv_entry ([.int k]) (n := 1) (Nat.le_of_ble_eq_true rfl)
  rw [lg_entry_eq]
  generalize (lg_sl ([.int k]) ++ List.replicate (1 - (lg_sl ([.int k])).length) Slot.unset).toArray = ls at hl ⊢
  have hl : lv_has ls 1 [(0, .int k)] := hl
  refine lv_iload_n hx hb d_Tw_floatOf_0 rfl (lv_at hl 0 rfl) ?_
  refine lv_i2l hx hb d_Tw_floatOf_1 rfl ?_
  refine lv_ldc2 (v := (4294967295 : Int64)) hx hb hown (hts (.constantLong "NumberBenchModel" 127 (4294967295 : Int64)) (nb_c nb_t417)) d_Tw_floatOf_2 ?_
  refine lv_land hx hb d_Tw_floatOf_5 ?_
  exact W.lret hx hb hr (fun t ht hW => ⟨_, rfl, (by rw [mf_Tw_floatOf]), ht⟩) t_nil d_Tw_floatOf_6
def y_Tw_end : MethodName := ⟨"NumberBenchModel", "end", "(JJZ)J"⟩
abbrev w_Tw_end : List Cond := Cond.code y_Tw_end prog_4_method_35_code 6 (Option.some FieldType.long) :: nb_tb
theorem hd_Tw_end : y_Tw_end.cls ≠ "java/lang/invoke/MethodHandle" ∧ y_Tw_end.cls ≠ "java/lang/invoke/VarHandle" ∧ (parseMethodDescriptor y_Tw_end.desc).map (fun d => d.parameters.length) = some 3 := by decide +kernel
theorem d_Tw_end_0 : decode prog_4_method_35_code 0 = .ok (.lload_n 0, 1) := by decide +kernel
theorem d_Tw_end_1 : decode prog_4_method_35_code 1 = .ok (.lload_n 2, 1) := by decide +kernel
theorem d_Tw_end_2 : decode prog_4_method_35_code 2 = .ok (.invokestatic 116, 3) := by decide +kernel
theorem d_Tw_end_5 : decode prog_4_method_35_code 5 = .ok (.istore 5, 2) := by decide +kernel
theorem d_Tw_end_7 : decode prog_4_method_35_code 7 = .ok (.iload 5, 2) := by decide +kernel
theorem d_Tw_end_9 : decode prog_4_method_35_code 9 = .ok (.iconst 2, 1) := by decide +kernel
theorem d_Tw_end_10 : decode prog_4_method_35_code 10 = .ok (.if_icmp .ne 7, 3) := by decide +kernel
theorem d_Tw_end_13 : decode prog_4_method_35_code 13 = .ok (.ldc2_w 11, 3) := by decide +kernel
theorem d_Tw_end_16 : decode prog_4_method_35_code 16 = .ok (.lreturn, 1) := by decide +kernel
theorem d_Tw_end_17 : decode prog_4_method_35_code 17 = .ok (.iload 5, 2) := by decide +kernel
theorem d_Tw_end_19 : decode prog_4_method_35_code 19 = .ok (.ifCond .ne 19, 3) := by decide +kernel
theorem d_Tw_end_22 : decode prog_4_method_35_code 22 = .ok (.lload_n 0, 1) := by decide +kernel
theorem d_Tw_end_23 : decode prog_4_method_35_code 23 = .ok (.iconst 0, 1) := by decide +kernel
theorem d_Tw_end_24 : decode prog_4_method_35_code 24 = .ok (.invokestatic 76, 3) := by decide +kernel
theorem d_Tw_end_27 : decode prog_4_method_35_code 27 = .ok (.iload 4, 2) := by decide +kernel
theorem d_Tw_end_29 : decode prog_4_method_35_code 29 = .ok (.if_icmp .eq 7, 3) := by decide +kernel
theorem d_Tw_end_32 : decode prog_4_method_35_code 32 = .ok (.lload_n 0, 1) := by decide +kernel
theorem d_Tw_end_33 : decode prog_4_method_35_code 33 = .ok (.goto 4, 3) := by decide +kernel
theorem d_Tw_end_36 : decode prog_4_method_35_code 36 = .ok (.lload_n 2, 1) := by decide +kernel
theorem d_Tw_end_37 : decode prog_4_method_35_code 37 = .ok (.lreturn, 1) := by decide +kernel
theorem d_Tw_end_38 : decode prog_4_method_35_code 38 = .ok (.iload 5, 2) := by decide +kernel
theorem d_Tw_end_40 : decode prog_4_method_35_code 40 = .ok (.ifCond .ge 7, 3) := by decide +kernel
theorem d_Tw_end_43 : decode prog_4_method_35_code 43 = .ok (.iconst 1, 1) := by decide +kernel
theorem d_Tw_end_44 : decode prog_4_method_35_code 44 = .ok (.goto 4, 3) := by decide +kernel
theorem d_Tw_end_47 : decode prog_4_method_35_code 47 = .ok (.iconst 0, 1) := by decide +kernel
theorem d_Tw_end_48 : decode prog_4_method_35_code 48 = .ok (.iload 4, 2) := by decide +kernel
theorem d_Tw_end_50 : decode prog_4_method_35_code 50 = .ok (.if_icmp .eq 7, 3) := by decide +kernel
theorem d_Tw_end_53 : decode prog_4_method_35_code 53 = .ok (.lload_n 0, 1) := by decide +kernel
theorem d_Tw_end_54 : decode prog_4_method_35_code 54 = .ok (.goto 4, 3) := by decide +kernel
theorem d_Tw_end_57 : decode prog_4_method_35_code 57 = .ok (.lload_n 2, 1) := by decide +kernel
theorem d_Tw_end_58 : decode prog_4_method_35_code 58 = .ok (.lreturn, 1) := by decide +kernel
set_option maxHeartbeats 1200000 in
set_option maxRecDepth 100000 in
theorem c_Tw_end (l : Launch) (ad : Nat → Nat) (a : Int64) (b : Int64) (g : Int32)  : Met l y_Tw_end w_Tw_end ({ frames := 4, cells := 0, slots := 0, locals := 91 } : Room) (va_Pc [.long a, .long b, .int g] (nb_K ad)) (vp_Sl (fun r => r = mf_Tw_end a b g)) 0 0 (fun _ => False) := by
  refine Met.ofW (cc := prog_4_method_35_code) (maxL := 6) (ret := some .long) (by decide) rfl ?_
  intro p e s m args below meth c s₁ B hml hv
  obtain ⟨rfl, hC⟩ := hv
  have hx := B.exec
  have hb := B.bytes
  have hr := B.returns
  have hts := atoms_spec (ws := w_Tw_end) B.pre
  have hown : s.vm.findClass "NumberBenchModel" = some m.cls := findClass_of_methodNamed B.named
  have hlocks := B.notSynchronized
  have hC : nb_C ad (fun _ => False) s s.heap := hC
  have hS : va_S (fun _ => False) s.heap s.heap [] := va_S.rf
  have hl := lv_entry ([.long a, .long b, .int g]) (n := 6) (Nat.le_of_ble_eq_true rfl)
  rw [lg_entry_eq]
  generalize (lg_sl ([.long a, .long b, .int g]) ++ List.replicate (6 - (lg_sl ([.long a, .long b, .int g])).length) Slot.unset).toArray = ls at hl ⊢
  have hl : lv_has ls 6 [(0, .long a), (2, .long b), (4, .int g)] := hl
  refine lv_lload_n hx hb d_Tw_end_0 rfl (lv_at hl 0 rfl) ?_
  refine lv_lload_n hx hb d_Tw_end_1 rfl (lv_at hl 1 rfl) ?_
  refine nb_callSi (As := [.long a, .long b]) (rest := []) hx hb hml hown hts (c_Tw_order l ad a b) nb_t356 nb_t357 nb_t2 nb_t358 hd_Tw_order rfl ⟨Nat.le_of_ble_eq_true rfl, Nat.le_of_ble_eq_true rfl⟩ ⟨rfl, rfl⟩ hC hS hl.1 rfl (Nat.le_of_ble_eq_true rfl) ⟨Nat.le_of_ble_eq_true rfl, Nat.le_of_ble_eq_true rfl⟩ d_Tw_end_2 ?_
  refine lv_istore hx hb d_Tw_end_5 hl (by decide) rfl (fun ls hl => ?_)
  have hl : lv_has ls 6 [(5, .int (mf_Tw_order a b)), (0, .long a), (2, .long b), (4, .int g)] := hl
  refine lv_iload hx hb d_Tw_end_7 (lv_at hl 0 rfl) ?_
  refine lv_iconst (v := 2) hx hb d_Tw_end_9 (by decide) ?_
  refine lv_icmp_ne (tgt := 17) hx hb d_Tw_end_10 (by decide) (fun h1 => ?_) (fun h1 => ?_)
  · refine lv_iload hx hb d_Tw_end_17 (lv_at hl 0 rfl) ?_
    refine lv_if_ne (tgt := 38) hx hb d_Tw_end_19 (by decide) (fun h2 => ?_) (fun h2 => ?_)
    · refine lv_iload hx hb d_Tw_end_38 (lv_at hl 0 rfl) ?_
      refine lv_if_ge (tgt := 47) hx hb d_Tw_end_40 (by decide) (fun h3 => ?_) (fun h3 => ?_)
      · refine lv_iconst (v := 0) hx hb d_Tw_end_47 (by decide) ?_
        refine lv_iload hx hb d_Tw_end_48 (lv_at hl 3 rfl) ?_
        refine lv_icmp_eq (tgt := 57) hx hb d_Tw_end_50 (by decide) (fun h4 => ?_) (fun h4 => ?_)
        · refine lv_lload_n hx hb d_Tw_end_57 rfl (lv_at hl 2 rfl) ?_
          exact W.lret hx hb hr (fun t ht hW => ⟨_, rfl, (by rw [mf_Tw_end, if_neg h1, if_neg h2, if_pos h3, if_pos h4]), ht⟩) t_nil d_Tw_end_58
        · refine lv_lload_n hx hb d_Tw_end_53 rfl (lv_at hl 1 rfl) ?_
          refine lv_goto (tgt := 58) hx hb d_Tw_end_54 (by decide) ?_
          exact W.lret hx hb hr (fun t ht hW => ⟨_, rfl, (by rw [mf_Tw_end, if_neg h1, if_neg h2, if_pos h3, if_neg h4]), ht⟩) t_nil d_Tw_end_58
      · refine lv_iconst (v := 1) hx hb d_Tw_end_43 (by decide) ?_
        refine lv_goto (tgt := 48) hx hb d_Tw_end_44 (by decide) ?_
        refine lv_iload hx hb d_Tw_end_48 (lv_at hl 3 rfl) ?_
        refine lv_icmp_eq (tgt := 57) hx hb d_Tw_end_50 (by decide) (fun h5 => ?_) (fun h5 => ?_)
        · refine lv_lload_n hx hb d_Tw_end_57 rfl (lv_at hl 2 rfl) ?_
          exact W.lret hx hb hr (fun t ht hW => ⟨_, rfl, (by rw [mf_Tw_end, if_neg h1, if_neg h2, if_neg h3, if_pos h5]), ht⟩) t_nil d_Tw_end_58
        · refine lv_lload_n hx hb d_Tw_end_53 rfl (lv_at hl 1 rfl) ?_
          refine lv_goto (tgt := 58) hx hb d_Tw_end_54 (by decide) ?_
          exact W.lret hx hb hr (fun t ht hW => ⟨_, rfl, (by rw [mf_Tw_end, if_neg h1, if_neg h2, if_neg h3, if_neg h5]), ht⟩) t_nil d_Tw_end_58
    · refine lv_lload_n hx hb d_Tw_end_22 rfl (lv_at hl 1 rfl) ?_
      refine lv_iconst (v := 0) hx hb d_Tw_end_23 (by decide) ?_
      refine nb_callSi (As := [.long a, .int (nI 0)]) (rest := []) hx hb hml hown hts (c_Tw_minus l ad a 0 (by decide)) nb_t299 nb_t300 nb_t2 nb_t301 hd_Tw_minus rfl ⟨Nat.le_of_ble_eq_true rfl, Nat.le_of_ble_eq_true rfl⟩ ⟨rfl, rfl⟩ hC hS hl.1 rfl (Nat.le_of_ble_eq_true rfl) ⟨Nat.le_of_ble_eq_true rfl, Nat.le_of_ble_eq_true rfl⟩ d_Tw_end_24 ?_
      refine lv_iload hx hb d_Tw_end_27 (lv_at hl 3 rfl) ?_
      refine lv_icmp_eq (tgt := 36) hx hb d_Tw_end_29 (by decide) (fun h6 => ?_) (fun h6 => ?_)
      · refine lv_lload_n hx hb d_Tw_end_36 rfl (lv_at hl 2 rfl) ?_
        exact W.lret hx hb hr (fun t ht hW => ⟨_, rfl, (by rw [mf_Tw_end, if_neg h1, if_pos h2, if_pos h6]), ht⟩) t_nil d_Tw_end_37
      · refine lv_lload_n hx hb d_Tw_end_32 rfl (lv_at hl 1 rfl) ?_
        refine lv_goto (tgt := 37) hx hb d_Tw_end_33 (by decide) ?_
        exact W.lret hx hb hr (fun t ht hW => ⟨_, rfl, (by rw [mf_Tw_end, if_neg h1, if_pos h2, if_neg h6]), ht⟩) t_nil d_Tw_end_37
  · refine lv_ldc2 (v := (9221120237041090560 : Int64)) hx hb hown (hts (.constantLong "NumberBenchModel" 11 (9221120237041090560 : Int64)) (nb_c nb_t294)) d_Tw_end_13 ?_
    exact W.lret hx hb hr (fun t ht hW => ⟨_, rfl, (by rw [mf_Tw_end, if_pos h1]), ht⟩) t_nil d_Tw_end_16
def y_Tw_reckoned : MethodName := ⟨"NumberBenchModel", "reckoned", "(IJJ)J"⟩
abbrev w_Tw_reckoned : List Cond := Cond.code y_Tw_reckoned prog_4_method_36_code 12 (Option.some FieldType.long) :: nb_tb
theorem hd_Tw_reckoned : y_Tw_reckoned.cls ≠ "java/lang/invoke/MethodHandle" ∧ y_Tw_reckoned.cls ≠ "java/lang/invoke/VarHandle" ∧ (parseMethodDescriptor y_Tw_reckoned.desc).map (fun d => d.parameters.length) = some 3 := by decide +kernel
theorem d_Tw_reckoned_0 : decode prog_4_method_36_code 0 = .ok (.iload_n 0, 1) := by decide +kernel
theorem d_Tw_reckoned_1 : decode prog_4_method_36_code 1 = .ok (.bipush 8, 2) := by decide +kernel
theorem d_Tw_reckoned_3 : decode prog_4_method_36_code 3 = .ok (.if_icmp .lt 13, 3) := by decide +kernel
theorem d_Tw_reckoned_6 : decode prog_4_method_36_code 6 = .ok (.iload_n 0, 1) := by decide +kernel
theorem d_Tw_reckoned_7 : decode prog_4_method_36_code 7 = .ok (.bipush 12, 2) := by decide +kernel
theorem d_Tw_reckoned_9 : decode prog_4_method_36_code 9 = .ok (.if_icmp .gt 7, 3) := by decide +kernel
theorem d_Tw_reckoned_12 : decode prog_4_method_36_code 12 = .ok (.iconst 1, 1) := by decide +kernel
theorem d_Tw_reckoned_13 : decode prog_4_method_36_code 13 = .ok (.goto 4, 3) := by decide +kernel
theorem d_Tw_reckoned_16 : decode prog_4_method_36_code 16 = .ok (.iconst 0, 1) := by decide +kernel
theorem d_Tw_reckoned_17 : decode prog_4_method_36_code 17 = .ok (.istore 5, 2) := by decide +kernel
theorem d_Tw_reckoned_19 : decode prog_4_method_36_code 19 = .ok (.iload 5, 2) := by decide +kernel
theorem d_Tw_reckoned_21 : decode prog_4_method_36_code 21 = .ok (.iconst 1, 1) := by decide +kernel
theorem d_Tw_reckoned_22 : decode prog_4_method_36_code 22 = .ok (.if_icmp .ne 10, 3) := by decide +kernel
theorem d_Tw_reckoned_25 : decode prog_4_method_36_code 25 = .ok (.lload_n 1, 1) := by decide +kernel
theorem d_Tw_reckoned_26 : decode prog_4_method_36_code 26 = .ok (.invokestatic 143, 3) := by decide +kernel
theorem d_Tw_reckoned_29 : decode prog_4_method_36_code 29 = .ok (.goto 4, 3) := by decide +kernel
theorem d_Tw_reckoned_32 : decode prog_4_method_36_code 32 = .ok (.lload_n 1, 1) := by decide +kernel
theorem d_Tw_reckoned_33 : decode prog_4_method_36_code 33 = .ok (.lstore 6, 2) := by decide +kernel
theorem d_Tw_reckoned_35 : decode prog_4_method_36_code 35 = .ok (.iload 5, 2) := by decide +kernel
theorem d_Tw_reckoned_37 : decode prog_4_method_36_code 37 = .ok (.iconst 1, 1) := by decide +kernel
theorem d_Tw_reckoned_38 : decode prog_4_method_36_code 38 = .ok (.if_icmp .ne 10, 3) := by decide +kernel
theorem d_Tw_reckoned_41 : decode prog_4_method_36_code 41 = .ok (.lload_n 3, 1) := by decide +kernel
theorem d_Tw_reckoned_42 : decode prog_4_method_36_code 42 = .ok (.invokestatic 143, 3) := by decide +kernel
theorem d_Tw_reckoned_45 : decode prog_4_method_36_code 45 = .ok (.goto 4, 3) := by decide +kernel
theorem d_Tw_reckoned_48 : decode prog_4_method_36_code 48 = .ok (.lload_n 3, 1) := by decide +kernel
theorem d_Tw_reckoned_49 : decode prog_4_method_36_code 49 = .ok (.lstore 8, 2) := by decide +kernel
theorem d_Tw_reckoned_51 : decode prog_4_method_36_code 51 = .ok (.iload_n 0, 1) := by decide +kernel
theorem d_Tw_reckoned_52 : decode prog_4_method_36_code 52 = .ok (.tableswitch 169 0 12 #[68, 82, 96, 110, 124, 138, 147, 157, 68, 82, 96, 110, 124], 68) := by decide +kernel
theorem d_Tw_reckoned_120 : decode prog_4_method_36_code 120 = .ok (.lload 6, 2) := by decide +kernel
theorem d_Tw_reckoned_122 : decode prog_4_method_36_code 122 = .ok (.lload 8, 2) := by decide +kernel
theorem d_Tw_reckoned_124 : decode prog_4_method_36_code 124 = .ok (.iload 5, 2) := by decide +kernel
theorem d_Tw_reckoned_126 : decode prog_4_method_36_code 126 = .ok (.invokestatic 82, 3) := by decide +kernel
theorem d_Tw_reckoned_129 : decode prog_4_method_36_code 129 = .ok (.lstore 10, 2) := by decide +kernel
theorem d_Tw_reckoned_131 : decode prog_4_method_36_code 131 = .ok (.goto 108, 3) := by decide +kernel
theorem d_Tw_reckoned_134 : decode prog_4_method_36_code 134 = .ok (.lload 6, 2) := by decide +kernel
theorem d_Tw_reckoned_136 : decode prog_4_method_36_code 136 = .ok (.lload 8, 2) := by decide +kernel
theorem d_Tw_reckoned_138 : decode prog_4_method_36_code 138 = .ok (.iload 5, 2) := by decide +kernel
theorem d_Tw_reckoned_140 : decode prog_4_method_36_code 140 = .ok (.invokestatic 107, 3) := by decide +kernel
theorem d_Tw_reckoned_143 : decode prog_4_method_36_code 143 = .ok (.lstore 10, 2) := by decide +kernel
theorem d_Tw_reckoned_145 : decode prog_4_method_36_code 145 = .ok (.goto 94, 3) := by decide +kernel
theorem d_Tw_reckoned_148 : decode prog_4_method_36_code 148 = .ok (.lload 6, 2) := by decide +kernel
theorem d_Tw_reckoned_150 : decode prog_4_method_36_code 150 = .ok (.lload 8, 2) := by decide +kernel
theorem d_Tw_reckoned_152 : decode prog_4_method_36_code 152 = .ok (.iload 5, 2) := by decide +kernel
theorem d_Tw_reckoned_154 : decode prog_4_method_36_code 154 = .ok (.invokestatic 110, 3) := by decide +kernel
theorem d_Tw_reckoned_157 : decode prog_4_method_36_code 157 = .ok (.lstore 10, 2) := by decide +kernel
theorem d_Tw_reckoned_159 : decode prog_4_method_36_code 159 = .ok (.goto 80, 3) := by decide +kernel
theorem d_Tw_reckoned_162 : decode prog_4_method_36_code 162 = .ok (.lload 6, 2) := by decide +kernel
theorem d_Tw_reckoned_164 : decode prog_4_method_36_code 164 = .ok (.lload 8, 2) := by decide +kernel
theorem d_Tw_reckoned_166 : decode prog_4_method_36_code 166 = .ok (.iload 5, 2) := by decide +kernel
theorem d_Tw_reckoned_168 : decode prog_4_method_36_code 168 = .ok (.invokestatic 113, 3) := by decide +kernel
theorem d_Tw_reckoned_171 : decode prog_4_method_36_code 171 = .ok (.lstore 10, 2) := by decide +kernel
theorem d_Tw_reckoned_173 : decode prog_4_method_36_code 173 = .ok (.goto 66, 3) := by decide +kernel
theorem d_Tw_reckoned_176 : decode prog_4_method_36_code 176 = .ok (.lload 6, 2) := by decide +kernel
theorem d_Tw_reckoned_178 : decode prog_4_method_36_code 178 = .ok (.lload 8, 2) := by decide +kernel
theorem d_Tw_reckoned_180 : decode prog_4_method_36_code 180 = .ok (.iload 5, 2) := by decide +kernel
theorem d_Tw_reckoned_182 : decode prog_4_method_36_code 182 = .ok (.invokestatic 147, 3) := by decide +kernel
theorem d_Tw_reckoned_185 : decode prog_4_method_36_code 185 = .ok (.lstore 10, 2) := by decide +kernel
theorem d_Tw_reckoned_187 : decode prog_4_method_36_code 187 = .ok (.goto 52, 3) := by decide +kernel
theorem d_Tw_reckoned_190 : decode prog_4_method_36_code 190 = .ok (.lload_n 1, 1) := by decide +kernel
theorem d_Tw_reckoned_191 : decode prog_4_method_36_code 191 = .ok (.invokestatic 150, 3) := by decide +kernel
theorem d_Tw_reckoned_194 : decode prog_4_method_36_code 194 = .ok (.lstore 10, 2) := by decide +kernel
theorem d_Tw_reckoned_196 : decode prog_4_method_36_code 196 = .ok (.goto 43, 3) := by decide +kernel
theorem d_Tw_reckoned_199 : decode prog_4_method_36_code 199 = .ok (.lload_n 1, 1) := by decide +kernel
theorem d_Tw_reckoned_200 : decode prog_4_method_36_code 200 = .ok (.iconst 0, 1) := by decide +kernel
theorem d_Tw_reckoned_201 : decode prog_4_method_36_code 201 = .ok (.invokestatic 79, 3) := by decide +kernel
theorem d_Tw_reckoned_204 : decode prog_4_method_36_code 204 = .ok (.lstore 10, 2) := by decide +kernel
theorem d_Tw_reckoned_206 : decode prog_4_method_36_code 206 = .ok (.goto 33, 3) := by decide +kernel
theorem d_Tw_reckoned_209 : decode prog_4_method_36_code 209 = .ok (.lload_n 1, 1) := by decide +kernel
theorem d_Tw_reckoned_210 : decode prog_4_method_36_code 210 = .ok (.invokestatic 143, 3) := by decide +kernel
theorem d_Tw_reckoned_213 : decode prog_4_method_36_code 213 = .ok (.invokestatic 153, 3) := by decide +kernel
theorem d_Tw_reckoned_216 : decode prog_4_method_36_code 216 = .ok (.lstore 10, 2) := by decide +kernel
theorem d_Tw_reckoned_218 : decode prog_4_method_36_code 218 = .ok (.goto 21, 3) := by decide +kernel
theorem d_Tw_reckoned_221 : decode prog_4_method_36_code 221 = .ok (.lload_n 1, 1) := by decide +kernel
theorem d_Tw_reckoned_222 : decode prog_4_method_36_code 222 = .ok (.lload_n 3, 1) := by decide +kernel
theorem d_Tw_reckoned_223 : decode prog_4_method_36_code 223 = .ok (.iload_n 0, 1) := by decide +kernel
theorem d_Tw_reckoned_224 : decode prog_4_method_36_code 224 = .ok (.bipush 14, 2) := by decide +kernel
theorem d_Tw_reckoned_226 : decode prog_4_method_36_code 226 = .ok (.if_icmp .ne 7, 3) := by decide +kernel
theorem d_Tw_reckoned_229 : decode prog_4_method_36_code 229 = .ok (.iconst 1, 1) := by decide +kernel
theorem d_Tw_reckoned_230 : decode prog_4_method_36_code 230 = .ok (.goto 4, 3) := by decide +kernel
theorem d_Tw_reckoned_233 : decode prog_4_method_36_code 233 = .ok (.iconst 0, 1) := by decide +kernel
theorem d_Tw_reckoned_234 : decode prog_4_method_36_code 234 = .ok (.invokestatic 156, 3) := by decide +kernel
theorem d_Tw_reckoned_237 : decode prog_4_method_36_code 237 = .ok (.lstore 10, 2) := by decide +kernel
theorem d_Tw_reckoned_239 : decode prog_4_method_36_code 239 = .ok (.iload 5, 2) := by decide +kernel
theorem d_Tw_reckoned_241 : decode prog_4_method_36_code 241 = .ok (.iconst 1, 1) := by decide +kernel
theorem d_Tw_reckoned_242 : decode prog_4_method_36_code 242 = .ok (.if_icmp .ne 11, 3) := by decide +kernel
theorem d_Tw_reckoned_245 : decode prog_4_method_36_code 245 = .ok (.lload 10, 2) := by decide +kernel
theorem d_Tw_reckoned_247 : decode prog_4_method_36_code 247 = .ok (.invokestatic 153, 3) := by decide +kernel
theorem d_Tw_reckoned_250 : decode prog_4_method_36_code 250 = .ok (.goto 5, 3) := by decide +kernel
theorem d_Tw_reckoned_253 : decode prog_4_method_36_code 253 = .ok (.lload 10, 2) := by decide +kernel
theorem d_Tw_reckoned_255 : decode prog_4_method_36_code 255 = .ok (.lreturn, 1) := by decide +kernel
set_option maxHeartbeats 1200000 in
set_option maxRecDepth 100000 in
theorem c_Tw_reckoned (l : Launch) (ad : Nat → Nat) (o : Int32) (a : Int64) (b : Int64)  : Met l y_Tw_reckoned w_Tw_reckoned ({ frames := 6, cells := 0, slots := 0, locals := 162 } : Room) (va_Pc [.int o, .long a, .long b] (nb_K ad)) (vp_Sl (fun r => r = mf_Tw_reckoned o a b)) 0 0 (fun _ => False) := by
  refine Met.ofW (cc := prog_4_method_36_code) (maxL := 12) (ret := some .long) (by decide) rfl ?_
  intro p e s m args below meth c s₁ B hml hv
  obtain ⟨rfl, hC⟩ := hv
  have hx := B.exec
  have hb := B.bytes
  have hr := B.returns
  have hts := atoms_spec (ws := w_Tw_reckoned) B.pre
  have hown : s.vm.findClass "NumberBenchModel" = some m.cls := findClass_of_methodNamed B.named
  have hlocks := B.notSynchronized
  have hC : nb_C ad (fun _ => False) s s.heap := hC
  have hS : va_S (fun _ => False) s.heap s.heap [] := va_S.rf
  have hl := lv_entry ([.int o, .long a, .long b]) (n := 12) (Nat.le_of_ble_eq_true rfl)
  rw [lg_entry_eq]
  generalize (lg_sl ([.int o, .long a, .long b]) ++ List.replicate (12 - (lg_sl ([.int o, .long a, .long b])).length) Slot.unset).toArray = ls at hl ⊢
  have hl : lv_has ls 12 [(0, .int o), (1, .long a), (3, .long b)] := hl
  have b16 : ∀  (ls : Array Slot), lv_has ls 12 [(0, .int o), (1, .long a), (3, .long b)] → mf_Tw_reckoned o a b = mf_Tw_reckoned_b16 o a b  → W p l e (headSpec w_Tw_reckoned ({ frames := 6, cells := 0, slots := 0, locals := 162 } : Room)).room s m ([.int o, .long a, .long b] : List Value).toArray below meth c s.heap [] 0 0 (MQ below (vp_Sl (fun r => r = mf_Tw_reckoned o a b)) ([.int o, .long a, .long b] : List Value).toArray s 0 0 (fun _ => False)) (F0 m 16 ls []) := by
    intro  ls hl  hE
    refine lv_iconst (v := 0) hx hb d_Tw_reckoned_16 (by decide) ?_
    refine lv_istore hx hb d_Tw_reckoned_17 hl (by decide) rfl (fun ls hl => ?_)
    have hl : lv_has ls 12 [(5, .int (0 : Int32)), (0, .int o), (1, .long a), (3, .long b)] := hl
    refine lv_iload hx hb d_Tw_reckoned_19 (lv_at hl 0 rfl) ?_
    refine lv_iconst (v := 1) hx hb d_Tw_reckoned_21 (by decide) ?_
    refine lv_icmp_ne (tgt := 32) hx hb d_Tw_reckoned_22 (by decide) (fun _ => ?_) (fun h38 => absurd h38 (by decide))
    refine lv_lload_n hx hb d_Tw_reckoned_32 rfl (lv_at hl 2 rfl) ?_
    refine lv_lstore hx hb d_Tw_reckoned_33 hl (by decide) rfl (fun ls hl => ?_)
    have hl : lv_has ls 12 [(6, .long a), (5, .int (0 : Int32)), (0, .int o), (1, .long a), (3, .long b)] := hl
    refine lv_iload hx hb d_Tw_reckoned_35 (lv_at hl 1 rfl) ?_
    refine lv_iconst (v := 1) hx hb d_Tw_reckoned_37 (by decide) ?_
    refine lv_icmp_ne (tgt := 48) hx hb d_Tw_reckoned_38 (by decide) (fun _ => ?_) (fun h39 => absurd h39 (by decide))
    refine lv_lload_n hx hb d_Tw_reckoned_48 rfl (lv_at hl 4 rfl) ?_
    refine lv_lstore hx hb d_Tw_reckoned_49 hl (by decide) rfl (fun ls hl => ?_)
    have hl : lv_has ls 12 [(8, .long b), (6, .long a), (5, .int (0 : Int32)), (0, .int o), (1, .long a), (3, .long b)] := hl
    refine lv_iload_n hx hb d_Tw_reckoned_51 rfl (lv_at hl 3 rfl) ?_
    by_cases h40 : o = (0 : Int32)
    · refine lv_tableIn (off := 68) (tgt := 120) hx hb d_Tw_reckoned_52 (by rw [h40]; decide) (by rw [h40]; decide) (by rw [h40]; decide) (by decide) ?_
      refine lv_lload hx hb d_Tw_reckoned_120 (lv_at hl 1 rfl) ?_
      refine lv_lload hx hb d_Tw_reckoned_122 (lv_at hl 0 rfl) ?_
      refine lv_iload hx hb d_Tw_reckoned_124 (lv_at hl 2 rfl) ?_
      refine nb_callSl (As := [.long a, .long b, .int (nI 0)]) (rest := []) hx hb hml hown hts (c_Tw_add l ad a b 0 (by decide)) nb_t326 nb_t327 nb_t2 nb_t328 hd_Tw_add rfl ⟨Nat.le_of_ble_eq_true rfl, Nat.le_of_ble_eq_true rfl⟩ ⟨rfl, rfl⟩ hC hS hl.1 rfl (Nat.le_of_ble_eq_true rfl) ⟨Nat.le_of_ble_eq_true rfl, Nat.le_of_ble_eq_true rfl⟩ d_Tw_reckoned_126 ?_
      refine lv_lstore hx hb d_Tw_reckoned_129 hl (by decide) rfl (fun ls hl => ?_)
      have hl : lv_has ls 12 [(10, .long (mf_Tw_add a b 0)), (8, .long b), (6, .long a), (5, .int (0 : Int32)), (0, .int o), (1, .long a), (3, .long b)] := hl
      refine lv_goto (tgt := 239) hx hb d_Tw_reckoned_131 (by decide) ?_
      refine lv_iload hx hb d_Tw_reckoned_239 (lv_at hl 3 rfl) ?_
      refine lv_iconst (v := 1) hx hb d_Tw_reckoned_241 (by decide) ?_
      refine lv_icmp_ne (tgt := 253) hx hb d_Tw_reckoned_242 (by decide) (fun _ => ?_) (fun h41 => absurd h41 (by decide))
      refine lv_lload hx hb d_Tw_reckoned_253 (lv_at hl 0 rfl) ?_
      exact W.lret hx hb hr (fun t ht hW => ⟨_, rfl, (by rw [hE, mf_Tw_reckoned_b16, if_pos h40]), ht⟩) t_nil d_Tw_reckoned_255
    by_cases h42 : o = (1 : Int32)
    · refine lv_tableIn (off := 82) (tgt := 134) hx hb d_Tw_reckoned_52 (by rw [h42]; decide) (by rw [h42]; decide) (by rw [h42]; decide) (by decide) ?_
      refine lv_lload hx hb d_Tw_reckoned_134 (lv_at hl 1 rfl) ?_
      refine lv_lload hx hb d_Tw_reckoned_136 (lv_at hl 0 rfl) ?_
      refine lv_iload hx hb d_Tw_reckoned_138 (lv_at hl 2 rfl) ?_
      refine nb_callSl (As := [.long a, .long b, .int (nI 0)]) (rest := []) hx hb hml hown hts (c_Tw_subtract l ad a b 0 (by decide)) nb_t332 nb_t333 nb_t2 nb_t334 hd_Tw_subtract rfl ⟨Nat.le_of_ble_eq_true rfl, Nat.le_of_ble_eq_true rfl⟩ ⟨rfl, rfl⟩ hC hS hl.1 rfl (Nat.le_of_ble_eq_true rfl) ⟨Nat.le_of_ble_eq_true rfl, Nat.le_of_ble_eq_true rfl⟩ d_Tw_reckoned_140 ?_
      refine lv_lstore hx hb d_Tw_reckoned_143 hl (by decide) rfl (fun ls hl => ?_)
      have hl : lv_has ls 12 [(10, .long (mf_Tw_subtract a b 0)), (8, .long b), (6, .long a), (5, .int (0 : Int32)), (0, .int o), (1, .long a), (3, .long b)] := hl
      refine lv_goto (tgt := 239) hx hb d_Tw_reckoned_145 (by decide) ?_
      refine lv_iload hx hb d_Tw_reckoned_239 (lv_at hl 3 rfl) ?_
      refine lv_iconst (v := 1) hx hb d_Tw_reckoned_241 (by decide) ?_
      refine lv_icmp_ne (tgt := 253) hx hb d_Tw_reckoned_242 (by decide) (fun _ => ?_) (fun h43 => absurd h43 (by decide))
      refine lv_lload hx hb d_Tw_reckoned_253 (lv_at hl 0 rfl) ?_
      exact W.lret hx hb hr (fun t ht hW => ⟨_, rfl, (by rw [hE, mf_Tw_reckoned_b16, if_neg h40, if_pos h42]), ht⟩) t_nil d_Tw_reckoned_255
    by_cases h44 : o = (2 : Int32)
    · refine lv_tableIn (off := 96) (tgt := 148) hx hb d_Tw_reckoned_52 (by rw [h44]; decide) (by rw [h44]; decide) (by rw [h44]; decide) (by decide) ?_
      refine lv_lload hx hb d_Tw_reckoned_148 (lv_at hl 1 rfl) ?_
      refine lv_lload hx hb d_Tw_reckoned_150 (lv_at hl 0 rfl) ?_
      refine lv_iload hx hb d_Tw_reckoned_152 (lv_at hl 2 rfl) ?_
      refine nb_callSl (As := [.long a, .long b, .int (nI 0)]) (rest := []) hx hb hml hown hts (c_Tw_multiply l ad a b 0 (by decide)) nb_t338 nb_t339 nb_t2 nb_t340 hd_Tw_multiply rfl ⟨Nat.le_of_ble_eq_true rfl, Nat.le_of_ble_eq_true rfl⟩ ⟨rfl, rfl⟩ hC hS hl.1 rfl (Nat.le_of_ble_eq_true rfl) ⟨Nat.le_of_ble_eq_true rfl, Nat.le_of_ble_eq_true rfl⟩ d_Tw_reckoned_154 ?_
      refine lv_lstore hx hb d_Tw_reckoned_157 hl (by decide) rfl (fun ls hl => ?_)
      have hl : lv_has ls 12 [(10, .long (mf_Tw_multiply a b 0)), (8, .long b), (6, .long a), (5, .int (0 : Int32)), (0, .int o), (1, .long a), (3, .long b)] := hl
      refine lv_goto (tgt := 239) hx hb d_Tw_reckoned_159 (by decide) ?_
      refine lv_iload hx hb d_Tw_reckoned_239 (lv_at hl 3 rfl) ?_
      refine lv_iconst (v := 1) hx hb d_Tw_reckoned_241 (by decide) ?_
      refine lv_icmp_ne (tgt := 253) hx hb d_Tw_reckoned_242 (by decide) (fun _ => ?_) (fun h45 => absurd h45 (by decide))
      refine lv_lload hx hb d_Tw_reckoned_253 (lv_at hl 0 rfl) ?_
      exact W.lret hx hb hr (fun t ht hW => ⟨_, rfl, (by rw [hE, mf_Tw_reckoned_b16, if_neg h40, if_neg h42, if_pos h44]), ht⟩) t_nil d_Tw_reckoned_255
    by_cases h46 : o = (3 : Int32)
    · refine lv_tableIn (off := 110) (tgt := 162) hx hb d_Tw_reckoned_52 (by rw [h46]; decide) (by rw [h46]; decide) (by rw [h46]; decide) (by decide) ?_
      refine lv_lload hx hb d_Tw_reckoned_162 (lv_at hl 1 rfl) ?_
      refine lv_lload hx hb d_Tw_reckoned_164 (lv_at hl 0 rfl) ?_
      refine lv_iload hx hb d_Tw_reckoned_166 (lv_at hl 2 rfl) ?_
      refine nb_callSl (As := [.long a, .long b, .int (nI 0)]) (rest := []) hx hb hml hown hts (c_Tw_divide l ad a b 0 (by decide)) nb_t347 nb_t348 nb_t2 nb_t349 hd_Tw_divide rfl ⟨Nat.le_of_ble_eq_true rfl, Nat.le_of_ble_eq_true rfl⟩ ⟨rfl, rfl⟩ hC hS hl.1 rfl (Nat.le_of_ble_eq_true rfl) ⟨Nat.le_of_ble_eq_true rfl, Nat.le_of_ble_eq_true rfl⟩ d_Tw_reckoned_168 ?_
      refine lv_lstore hx hb d_Tw_reckoned_171 hl (by decide) rfl (fun ls hl => ?_)
      have hl : lv_has ls 12 [(10, .long (mf_Tw_divide a b 0)), (8, .long b), (6, .long a), (5, .int (0 : Int32)), (0, .int o), (1, .long a), (3, .long b)] := hl
      refine lv_goto (tgt := 239) hx hb d_Tw_reckoned_173 (by decide) ?_
      refine lv_iload hx hb d_Tw_reckoned_239 (lv_at hl 3 rfl) ?_
      refine lv_iconst (v := 1) hx hb d_Tw_reckoned_241 (by decide) ?_
      refine lv_icmp_ne (tgt := 253) hx hb d_Tw_reckoned_242 (by decide) (fun _ => ?_) (fun h47 => absurd h47 (by decide))
      refine lv_lload hx hb d_Tw_reckoned_253 (lv_at hl 0 rfl) ?_
      exact W.lret hx hb hr (fun t ht hW => ⟨_, rfl, (by rw [hE, mf_Tw_reckoned_b16, if_neg h40, if_neg h42, if_neg h44, if_pos h46]), ht⟩) t_nil d_Tw_reckoned_255
    by_cases h48 : o = (4 : Int32)
    · refine lv_tableIn (off := 124) (tgt := 176) hx hb d_Tw_reckoned_52 (by rw [h48]; decide) (by rw [h48]; decide) (by rw [h48]; decide) (by decide) ?_
      refine lv_lload hx hb d_Tw_reckoned_176 (lv_at hl 1 rfl) ?_
      refine lv_lload hx hb d_Tw_reckoned_178 (lv_at hl 0 rfl) ?_
      refine lv_iload hx hb d_Tw_reckoned_180 (lv_at hl 2 rfl) ?_
      refine nb_callSl (As := [.long a, .long b, .int (nI 0)]) (rest := []) hx hb hml hown hts (c_Tw_rest l ad a b 0 (by decide)) nb_t350 nb_t351 nb_t2 nb_t352 hd_Tw_rest rfl ⟨Nat.le_of_ble_eq_true rfl, Nat.le_of_ble_eq_true rfl⟩ ⟨rfl, rfl⟩ hC hS hl.1 rfl (Nat.le_of_ble_eq_true rfl) ⟨Nat.le_of_ble_eq_true rfl, Nat.le_of_ble_eq_true rfl⟩ d_Tw_reckoned_182 ?_
      refine lv_lstore hx hb d_Tw_reckoned_185 hl (by decide) rfl (fun ls hl => ?_)
      have hl : lv_has ls 12 [(10, .long (mf_Tw_rest a b 0)), (8, .long b), (6, .long a), (5, .int (0 : Int32)), (0, .int o), (1, .long a), (3, .long b)] := hl
      refine lv_goto (tgt := 239) hx hb d_Tw_reckoned_187 (by decide) ?_
      refine lv_iload hx hb d_Tw_reckoned_239 (lv_at hl 3 rfl) ?_
      refine lv_iconst (v := 1) hx hb d_Tw_reckoned_241 (by decide) ?_
      refine lv_icmp_ne (tgt := 253) hx hb d_Tw_reckoned_242 (by decide) (fun _ => ?_) (fun h49 => absurd h49 (by decide))
      refine lv_lload hx hb d_Tw_reckoned_253 (lv_at hl 0 rfl) ?_
      exact W.lret hx hb hr (fun t ht hW => ⟨_, rfl, (by rw [hE, mf_Tw_reckoned_b16, if_neg h40, if_neg h42, if_neg h44, if_neg h46, if_pos h48]), ht⟩) t_nil d_Tw_reckoned_255
    by_cases h50 : o = (5 : Int32)
    · refine lv_tableIn (off := 138) (tgt := 190) hx hb d_Tw_reckoned_52 (by rw [h50]; decide) (by rw [h50]; decide) (by rw [h50]; decide) (by decide) ?_
      refine lv_lload_n hx hb d_Tw_reckoned_190 rfl (lv_at hl 4 rfl) ?_
      refine nb_callSl (As := [.long a]) (rest := []) hx hb hml hown hts (c_Tw_root l ad a) nb_t353 nb_t354 nb_t2 nb_t355 hd_Tw_root rfl ⟨Nat.le_of_ble_eq_true rfl, Nat.le_of_ble_eq_true rfl⟩ ⟨rfl, rfl⟩ hC hS hl.1 rfl (Nat.le_of_ble_eq_true rfl) ⟨Nat.le_of_ble_eq_true rfl, Nat.le_of_ble_eq_true rfl⟩ d_Tw_reckoned_191 ?_
      refine lv_lstore hx hb d_Tw_reckoned_194 hl (by decide) rfl (fun ls hl => ?_)
      have hl : lv_has ls 12 [(10, .long (mf_Tw_root a)), (8, .long b), (6, .long a), (5, .int (0 : Int32)), (0, .int o), (1, .long a), (3, .long b)] := hl
      refine lv_goto (tgt := 239) hx hb d_Tw_reckoned_196 (by decide) ?_
      refine lv_iload hx hb d_Tw_reckoned_239 (lv_at hl 3 rfl) ?_
      refine lv_iconst (v := 1) hx hb d_Tw_reckoned_241 (by decide) ?_
      refine lv_icmp_ne (tgt := 253) hx hb d_Tw_reckoned_242 (by decide) (fun _ => ?_) (fun h51 => absurd h51 (by decide))
      refine lv_lload hx hb d_Tw_reckoned_253 (lv_at hl 0 rfl) ?_
      exact W.lret hx hb hr (fun t ht hW => ⟨_, rfl, (by rw [hE, mf_Tw_reckoned_b16, if_neg h40, if_neg h42, if_neg h44, if_neg h46, if_neg h48, if_pos h50]), ht⟩) t_nil d_Tw_reckoned_255
    by_cases h52 : o = (6 : Int32)
    · refine lv_tableIn (off := 147) (tgt := 199) hx hb d_Tw_reckoned_52 (by rw [h52]; decide) (by rw [h52]; decide) (by rw [h52]; decide) (by decide) ?_
      refine lv_lload_n hx hb d_Tw_reckoned_199 rfl (lv_at hl 4 rfl) ?_
      refine lv_iconst (v := 0) hx hb d_Tw_reckoned_200 (by decide) ?_
      refine nb_callSl (As := [.long a, .int (nI 0)]) (rest := []) hx hb hml hown hts (c_Tw_turned l ad a 0 (by decide)) nb_t335 nb_t336 nb_t2 nb_t337 hd_Tw_turned rfl ⟨Nat.le_of_ble_eq_true rfl, Nat.le_of_ble_eq_true rfl⟩ ⟨rfl, rfl⟩ hC hS hl.1 rfl (Nat.le_of_ble_eq_true rfl) ⟨Nat.le_of_ble_eq_true rfl, Nat.le_of_ble_eq_true rfl⟩ d_Tw_reckoned_201 ?_
      refine lv_lstore hx hb d_Tw_reckoned_204 hl (by decide) rfl (fun ls hl => ?_)
      have hl : lv_has ls 12 [(10, .long (mf_Tw_turned a 0)), (8, .long b), (6, .long a), (5, .int (0 : Int32)), (0, .int o), (1, .long a), (3, .long b)] := hl
      refine lv_goto (tgt := 239) hx hb d_Tw_reckoned_206 (by decide) ?_
      refine lv_iload hx hb d_Tw_reckoned_239 (lv_at hl 3 rfl) ?_
      refine lv_iconst (v := 1) hx hb d_Tw_reckoned_241 (by decide) ?_
      refine lv_icmp_ne (tgt := 253) hx hb d_Tw_reckoned_242 (by decide) (fun _ => ?_) (fun h53 => absurd h53 (by decide))
      refine lv_lload hx hb d_Tw_reckoned_253 (lv_at hl 0 rfl) ?_
      exact W.lret hx hb hr (fun t ht hW => ⟨_, rfl, (by rw [hE, mf_Tw_reckoned_b16, if_neg h40, if_neg h42, if_neg h44, if_neg h46, if_neg h48, if_neg h50, if_pos h52]), ht⟩) t_nil d_Tw_reckoned_255
    by_cases h54 : o = (7 : Int32)
    · refine lv_tableIn (off := 157) (tgt := 209) hx hb d_Tw_reckoned_52 (by rw [h54]; decide) (by rw [h54]; decide) (by rw [h54]; decide) (by decide) ?_
      refine lv_lload_n hx hb d_Tw_reckoned_209 rfl (lv_at hl 4 rfl) ?_
      refine nb_callSl (As := [.long a]) (rest := []) hx hb hml hown hts (c_Tw_toFloat l ad a) nb_t271 nb_t272 nb_t2 nb_t273 hd_Tw_toFloat rfl ⟨Nat.le_of_ble_eq_true rfl, Nat.le_of_ble_eq_true rfl⟩ ⟨rfl, rfl⟩ hC hS hl.1 rfl (Nat.le_of_ble_eq_true rfl) ⟨Nat.le_of_ble_eq_true rfl, Nat.le_of_ble_eq_true rfl⟩ d_Tw_reckoned_210 ?_
      refine nb_callSl (As := [.long (mf_Tw_toFloat a)]) (rest := []) hx hb hml hown hts (c_Tw_toDouble l ad (mf_Tw_toFloat a)) nb_t370 nb_t371 nb_t2 nb_t372 hd_Tw_toDouble rfl ⟨Nat.le_of_ble_eq_true rfl, Nat.le_of_ble_eq_true rfl⟩ ⟨rfl, rfl⟩ hC hS hl.1 rfl (Nat.le_of_ble_eq_true rfl) ⟨Nat.le_of_ble_eq_true rfl, Nat.le_of_ble_eq_true rfl⟩ d_Tw_reckoned_213 ?_
      refine lv_lstore hx hb d_Tw_reckoned_216 hl (by decide) rfl (fun ls hl => ?_)
      have hl : lv_has ls 12 [(10, .long (mf_Tw_toDouble (mf_Tw_toFloat a))), (8, .long b), (6, .long a), (5, .int (0 : Int32)), (0, .int o), (1, .long a), (3, .long b)] := hl
      refine lv_goto (tgt := 239) hx hb d_Tw_reckoned_218 (by decide) ?_
      refine lv_iload hx hb d_Tw_reckoned_239 (lv_at hl 3 rfl) ?_
      refine lv_iconst (v := 1) hx hb d_Tw_reckoned_241 (by decide) ?_
      refine lv_icmp_ne (tgt := 253) hx hb d_Tw_reckoned_242 (by decide) (fun _ => ?_) (fun h55 => absurd h55 (by decide))
      refine lv_lload hx hb d_Tw_reckoned_253 (lv_at hl 0 rfl) ?_
      exact W.lret hx hb hr (fun t ht hW => ⟨_, rfl, (by rw [hE, mf_Tw_reckoned_b16, if_neg h40, if_neg h42, if_neg h44, if_neg h46, if_neg h48, if_neg h50, if_neg h52, if_pos h54]), ht⟩) t_nil d_Tw_reckoned_255
    by_cases h56 : o = (8 : Int32)
    · refine lv_tableIn (off := 68) (tgt := 120) hx hb d_Tw_reckoned_52 (by rw [h56]; decide) (by rw [h56]; decide) (by rw [h56]; decide) (by decide) ?_
      refine lv_lload hx hb d_Tw_reckoned_120 (lv_at hl 1 rfl) ?_
      refine lv_lload hx hb d_Tw_reckoned_122 (lv_at hl 0 rfl) ?_
      refine lv_iload hx hb d_Tw_reckoned_124 (lv_at hl 2 rfl) ?_
      refine nb_callSl (As := [.long a, .long b, .int (nI 0)]) (rest := []) hx hb hml hown hts (c_Tw_add l ad a b 0 (by decide)) nb_t326 nb_t327 nb_t2 nb_t328 hd_Tw_add rfl ⟨Nat.le_of_ble_eq_true rfl, Nat.le_of_ble_eq_true rfl⟩ ⟨rfl, rfl⟩ hC hS hl.1 rfl (Nat.le_of_ble_eq_true rfl) ⟨Nat.le_of_ble_eq_true rfl, Nat.le_of_ble_eq_true rfl⟩ d_Tw_reckoned_126 ?_
      refine lv_lstore hx hb d_Tw_reckoned_129 hl (by decide) rfl (fun ls hl => ?_)
      have hl : lv_has ls 12 [(10, .long (mf_Tw_add a b 0)), (8, .long b), (6, .long a), (5, .int (0 : Int32)), (0, .int o), (1, .long a), (3, .long b)] := hl
      refine lv_goto (tgt := 239) hx hb d_Tw_reckoned_131 (by decide) ?_
      refine lv_iload hx hb d_Tw_reckoned_239 (lv_at hl 3 rfl) ?_
      refine lv_iconst (v := 1) hx hb d_Tw_reckoned_241 (by decide) ?_
      refine lv_icmp_ne (tgt := 253) hx hb d_Tw_reckoned_242 (by decide) (fun _ => ?_) (fun h57 => absurd h57 (by decide))
      refine lv_lload hx hb d_Tw_reckoned_253 (lv_at hl 0 rfl) ?_
      exact W.lret hx hb hr (fun t ht hW => ⟨_, rfl, (by rw [hE, mf_Tw_reckoned_b16, if_neg h40, if_neg h42, if_neg h44, if_neg h46, if_neg h48, if_neg h50, if_neg h52, if_neg h54, if_pos h56]), ht⟩) t_nil d_Tw_reckoned_255
    by_cases h58 : o = (9 : Int32)
    · refine lv_tableIn (off := 82) (tgt := 134) hx hb d_Tw_reckoned_52 (by rw [h58]; decide) (by rw [h58]; decide) (by rw [h58]; decide) (by decide) ?_
      refine lv_lload hx hb d_Tw_reckoned_134 (lv_at hl 1 rfl) ?_
      refine lv_lload hx hb d_Tw_reckoned_136 (lv_at hl 0 rfl) ?_
      refine lv_iload hx hb d_Tw_reckoned_138 (lv_at hl 2 rfl) ?_
      refine nb_callSl (As := [.long a, .long b, .int (nI 0)]) (rest := []) hx hb hml hown hts (c_Tw_subtract l ad a b 0 (by decide)) nb_t332 nb_t333 nb_t2 nb_t334 hd_Tw_subtract rfl ⟨Nat.le_of_ble_eq_true rfl, Nat.le_of_ble_eq_true rfl⟩ ⟨rfl, rfl⟩ hC hS hl.1 rfl (Nat.le_of_ble_eq_true rfl) ⟨Nat.le_of_ble_eq_true rfl, Nat.le_of_ble_eq_true rfl⟩ d_Tw_reckoned_140 ?_
      refine lv_lstore hx hb d_Tw_reckoned_143 hl (by decide) rfl (fun ls hl => ?_)
      have hl : lv_has ls 12 [(10, .long (mf_Tw_subtract a b 0)), (8, .long b), (6, .long a), (5, .int (0 : Int32)), (0, .int o), (1, .long a), (3, .long b)] := hl
      refine lv_goto (tgt := 239) hx hb d_Tw_reckoned_145 (by decide) ?_
      refine lv_iload hx hb d_Tw_reckoned_239 (lv_at hl 3 rfl) ?_
      refine lv_iconst (v := 1) hx hb d_Tw_reckoned_241 (by decide) ?_
      refine lv_icmp_ne (tgt := 253) hx hb d_Tw_reckoned_242 (by decide) (fun _ => ?_) (fun h59 => absurd h59 (by decide))
      refine lv_lload hx hb d_Tw_reckoned_253 (lv_at hl 0 rfl) ?_
      exact W.lret hx hb hr (fun t ht hW => ⟨_, rfl, (by rw [hE, mf_Tw_reckoned_b16, if_neg h40, if_neg h42, if_neg h44, if_neg h46, if_neg h48, if_neg h50, if_neg h52, if_neg h54, if_neg h56, if_pos h58]), ht⟩) t_nil d_Tw_reckoned_255
    by_cases h60 : o = (10 : Int32)
    · refine lv_tableIn (off := 96) (tgt := 148) hx hb d_Tw_reckoned_52 (by rw [h60]; decide) (by rw [h60]; decide) (by rw [h60]; decide) (by decide) ?_
      refine lv_lload hx hb d_Tw_reckoned_148 (lv_at hl 1 rfl) ?_
      refine lv_lload hx hb d_Tw_reckoned_150 (lv_at hl 0 rfl) ?_
      refine lv_iload hx hb d_Tw_reckoned_152 (lv_at hl 2 rfl) ?_
      refine nb_callSl (As := [.long a, .long b, .int (nI 0)]) (rest := []) hx hb hml hown hts (c_Tw_multiply l ad a b 0 (by decide)) nb_t338 nb_t339 nb_t2 nb_t340 hd_Tw_multiply rfl ⟨Nat.le_of_ble_eq_true rfl, Nat.le_of_ble_eq_true rfl⟩ ⟨rfl, rfl⟩ hC hS hl.1 rfl (Nat.le_of_ble_eq_true rfl) ⟨Nat.le_of_ble_eq_true rfl, Nat.le_of_ble_eq_true rfl⟩ d_Tw_reckoned_154 ?_
      refine lv_lstore hx hb d_Tw_reckoned_157 hl (by decide) rfl (fun ls hl => ?_)
      have hl : lv_has ls 12 [(10, .long (mf_Tw_multiply a b 0)), (8, .long b), (6, .long a), (5, .int (0 : Int32)), (0, .int o), (1, .long a), (3, .long b)] := hl
      refine lv_goto (tgt := 239) hx hb d_Tw_reckoned_159 (by decide) ?_
      refine lv_iload hx hb d_Tw_reckoned_239 (lv_at hl 3 rfl) ?_
      refine lv_iconst (v := 1) hx hb d_Tw_reckoned_241 (by decide) ?_
      refine lv_icmp_ne (tgt := 253) hx hb d_Tw_reckoned_242 (by decide) (fun _ => ?_) (fun h61 => absurd h61 (by decide))
      refine lv_lload hx hb d_Tw_reckoned_253 (lv_at hl 0 rfl) ?_
      exact W.lret hx hb hr (fun t ht hW => ⟨_, rfl, (by rw [hE, mf_Tw_reckoned_b16, if_neg h40, if_neg h42, if_neg h44, if_neg h46, if_neg h48, if_neg h50, if_neg h52, if_neg h54, if_neg h56, if_neg h58, if_pos h60]), ht⟩) t_nil d_Tw_reckoned_255
    by_cases h62 : o = (11 : Int32)
    · refine lv_tableIn (off := 110) (tgt := 162) hx hb d_Tw_reckoned_52 (by rw [h62]; decide) (by rw [h62]; decide) (by rw [h62]; decide) (by decide) ?_
      refine lv_lload hx hb d_Tw_reckoned_162 (lv_at hl 1 rfl) ?_
      refine lv_lload hx hb d_Tw_reckoned_164 (lv_at hl 0 rfl) ?_
      refine lv_iload hx hb d_Tw_reckoned_166 (lv_at hl 2 rfl) ?_
      refine nb_callSl (As := [.long a, .long b, .int (nI 0)]) (rest := []) hx hb hml hown hts (c_Tw_divide l ad a b 0 (by decide)) nb_t347 nb_t348 nb_t2 nb_t349 hd_Tw_divide rfl ⟨Nat.le_of_ble_eq_true rfl, Nat.le_of_ble_eq_true rfl⟩ ⟨rfl, rfl⟩ hC hS hl.1 rfl (Nat.le_of_ble_eq_true rfl) ⟨Nat.le_of_ble_eq_true rfl, Nat.le_of_ble_eq_true rfl⟩ d_Tw_reckoned_168 ?_
      refine lv_lstore hx hb d_Tw_reckoned_171 hl (by decide) rfl (fun ls hl => ?_)
      have hl : lv_has ls 12 [(10, .long (mf_Tw_divide a b 0)), (8, .long b), (6, .long a), (5, .int (0 : Int32)), (0, .int o), (1, .long a), (3, .long b)] := hl
      refine lv_goto (tgt := 239) hx hb d_Tw_reckoned_173 (by decide) ?_
      refine lv_iload hx hb d_Tw_reckoned_239 (lv_at hl 3 rfl) ?_
      refine lv_iconst (v := 1) hx hb d_Tw_reckoned_241 (by decide) ?_
      refine lv_icmp_ne (tgt := 253) hx hb d_Tw_reckoned_242 (by decide) (fun _ => ?_) (fun h63 => absurd h63 (by decide))
      refine lv_lload hx hb d_Tw_reckoned_253 (lv_at hl 0 rfl) ?_
      exact W.lret hx hb hr (fun t ht hW => ⟨_, rfl, (by rw [hE, mf_Tw_reckoned_b16, if_neg h40, if_neg h42, if_neg h44, if_neg h46, if_neg h48, if_neg h50, if_neg h52, if_neg h54, if_neg h56, if_neg h58, if_neg h60, if_pos h62]), ht⟩) t_nil d_Tw_reckoned_255
    by_cases h64 : o = (12 : Int32)
    · refine lv_tableIn (off := 124) (tgt := 176) hx hb d_Tw_reckoned_52 (by rw [h64]; decide) (by rw [h64]; decide) (by rw [h64]; decide) (by decide) ?_
      refine lv_lload hx hb d_Tw_reckoned_176 (lv_at hl 1 rfl) ?_
      refine lv_lload hx hb d_Tw_reckoned_178 (lv_at hl 0 rfl) ?_
      refine lv_iload hx hb d_Tw_reckoned_180 (lv_at hl 2 rfl) ?_
      refine nb_callSl (As := [.long a, .long b, .int (nI 0)]) (rest := []) hx hb hml hown hts (c_Tw_rest l ad a b 0 (by decide)) nb_t350 nb_t351 nb_t2 nb_t352 hd_Tw_rest rfl ⟨Nat.le_of_ble_eq_true rfl, Nat.le_of_ble_eq_true rfl⟩ ⟨rfl, rfl⟩ hC hS hl.1 rfl (Nat.le_of_ble_eq_true rfl) ⟨Nat.le_of_ble_eq_true rfl, Nat.le_of_ble_eq_true rfl⟩ d_Tw_reckoned_182 ?_
      refine lv_lstore hx hb d_Tw_reckoned_185 hl (by decide) rfl (fun ls hl => ?_)
      have hl : lv_has ls 12 [(10, .long (mf_Tw_rest a b 0)), (8, .long b), (6, .long a), (5, .int (0 : Int32)), (0, .int o), (1, .long a), (3, .long b)] := hl
      refine lv_goto (tgt := 239) hx hb d_Tw_reckoned_187 (by decide) ?_
      refine lv_iload hx hb d_Tw_reckoned_239 (lv_at hl 3 rfl) ?_
      refine lv_iconst (v := 1) hx hb d_Tw_reckoned_241 (by decide) ?_
      refine lv_icmp_ne (tgt := 253) hx hb d_Tw_reckoned_242 (by decide) (fun _ => ?_) (fun h65 => absurd h65 (by decide))
      refine lv_lload hx hb d_Tw_reckoned_253 (lv_at hl 0 rfl) ?_
      exact W.lret hx hb hr (fun t ht hW => ⟨_, rfl, (by rw [hE, mf_Tw_reckoned_b16, if_neg h40, if_neg h42, if_neg h44, if_neg h46, if_neg h48, if_neg h50, if_neg h52, if_neg h54, if_neg h56, if_neg h58, if_neg h60, if_neg h62, if_pos h64]), ht⟩) t_nil d_Tw_reckoned_255
    refine lv_tableOut (tgt := 221) hx hb d_Tw_reckoned_52 (by have q0 := lv_neT (a := 0) h40 (by decide); have q1 := lv_neT (a := 1) h42 (by decide); have q2 := lv_neT (a := 2) h44 (by decide); have q3 := lv_neT (a := 3) h46 (by decide); have q4 := lv_neT (a := 4) h48 (by decide); have q5 := lv_neT (a := 5) h50 (by decide); have q6 := lv_neT (a := 6) h52 (by decide); have q7 := lv_neT (a := 7) h54 (by decide); have q8 := lv_neT (a := 8) h56 (by decide); have q9 := lv_neT (a := 9) h58 (by decide); have q10 := lv_neT (a := 10) h60 (by decide); have q11 := lv_neT (a := 11) h62 (by decide); have q12 := lv_neT (a := 12) h64 (by decide); omega) (by decide) ?_
    refine lv_lload_n hx hb d_Tw_reckoned_221 rfl (lv_at hl 4 rfl) ?_
    refine lv_lload_n hx hb d_Tw_reckoned_222 rfl (lv_at hl 5 rfl) ?_
    refine lv_iload_n hx hb d_Tw_reckoned_223 rfl (lv_at hl 3 rfl) ?_
    refine lv_bipush (v := 14) hx hb d_Tw_reckoned_224 (by decide) ?_
    refine lv_icmp_ne (tgt := 233) hx hb d_Tw_reckoned_226 (by decide) (fun h66 => ?_) (fun h66 => ?_)
    · refine lv_iconst (v := 0) hx hb d_Tw_reckoned_233 (by decide) ?_
      refine nb_callSl (As := [.long a, .long b, .int (0 : Int32)]) (rest := []) hx hb hml hown hts (c_Tw_end l ad a b (0 : Int32)) nb_t373 nb_t374 nb_t2 nb_t375 hd_Tw_end rfl ⟨Nat.le_of_ble_eq_true rfl, Nat.le_of_ble_eq_true rfl⟩ ⟨rfl, rfl⟩ hC hS hl.1 rfl (Nat.le_of_ble_eq_true rfl) ⟨Nat.le_of_ble_eq_true rfl, Nat.le_of_ble_eq_true rfl⟩ d_Tw_reckoned_234 ?_
      refine lv_lstore hx hb d_Tw_reckoned_237 hl (by decide) rfl (fun ls hl => ?_)
      have hl : lv_has ls 12 [(10, .long (mf_Tw_end a b (0 : Int32))), (8, .long b), (6, .long a), (5, .int (0 : Int32)), (0, .int o), (1, .long a), (3, .long b)] := hl
      refine lv_iload hx hb d_Tw_reckoned_239 (lv_at hl 3 rfl) ?_
      refine lv_iconst (v := 1) hx hb d_Tw_reckoned_241 (by decide) ?_
      refine lv_icmp_ne (tgt := 253) hx hb d_Tw_reckoned_242 (by decide) (fun _ => ?_) (fun h67 => absurd h67 (by decide))
      refine lv_lload hx hb d_Tw_reckoned_253 (lv_at hl 0 rfl) ?_
      exact W.lret hx hb hr (fun t ht hW => ⟨_, rfl, (by rw [hE, mf_Tw_reckoned_b16, if_neg h40, if_neg h42, if_neg h44, if_neg h46, if_neg h48, if_neg h50, if_neg h52, if_neg h54, if_neg h56, if_neg h58, if_neg h60, if_neg h62, if_neg h64, if_neg h66]), ht⟩) t_nil d_Tw_reckoned_255
    · refine lv_iconst (v := 1) hx hb d_Tw_reckoned_229 (by decide) ?_
      refine lv_goto (tgt := 234) hx hb d_Tw_reckoned_230 (by decide) ?_
      refine nb_callSl (As := [.long a, .long b, .int (1 : Int32)]) (rest := []) hx hb hml hown hts (c_Tw_end l ad a b (1 : Int32)) nb_t373 nb_t374 nb_t2 nb_t375 hd_Tw_end rfl ⟨Nat.le_of_ble_eq_true rfl, Nat.le_of_ble_eq_true rfl⟩ ⟨rfl, rfl⟩ hC hS hl.1 rfl (Nat.le_of_ble_eq_true rfl) ⟨Nat.le_of_ble_eq_true rfl, Nat.le_of_ble_eq_true rfl⟩ d_Tw_reckoned_234 ?_
      refine lv_lstore hx hb d_Tw_reckoned_237 hl (by decide) rfl (fun ls hl => ?_)
      have hl : lv_has ls 12 [(10, .long (mf_Tw_end a b (1 : Int32))), (8, .long b), (6, .long a), (5, .int (0 : Int32)), (0, .int o), (1, .long a), (3, .long b)] := hl
      refine lv_iload hx hb d_Tw_reckoned_239 (lv_at hl 3 rfl) ?_
      refine lv_iconst (v := 1) hx hb d_Tw_reckoned_241 (by decide) ?_
      refine lv_icmp_ne (tgt := 253) hx hb d_Tw_reckoned_242 (by decide) (fun _ => ?_) (fun h68 => absurd h68 (by decide))
      refine lv_lload hx hb d_Tw_reckoned_253 (lv_at hl 0 rfl) ?_
      exact W.lret hx hb hr (fun t ht hW => ⟨_, rfl, (by rw [hE, mf_Tw_reckoned_b16, if_neg h40, if_neg h42, if_neg h44, if_neg h46, if_neg h48, if_neg h50, if_neg h52, if_neg h54, if_neg h56, if_neg h58, if_neg h60, if_neg h62, if_neg h64, if_pos h66]), ht⟩) t_nil d_Tw_reckoned_255
  refine lv_iload_n hx hb d_Tw_reckoned_0 rfl (lv_at hl 0 rfl) ?_
  refine lv_bipush (v := 8) hx hb d_Tw_reckoned_1 (by decide) ?_
  refine lv_icmp_lt (tgt := 16) hx hb d_Tw_reckoned_3 (by decide) (fun h1 => ?_) (fun h1 => ?_)
  · exact b16  ls (lv_sub hl [0, 1, 2] rfl)  (by rw [mf_Tw_reckoned, if_pos h1])
  · refine lv_iload_n hx hb d_Tw_reckoned_6 rfl (lv_at hl 0 rfl) ?_
    refine lv_bipush (v := 12) hx hb d_Tw_reckoned_7 (by decide) ?_
    refine lv_icmp_gt (tgt := 16) hx hb d_Tw_reckoned_9 (by decide) (fun h2 => ?_) (fun h2 => ?_)
    · exact b16  ls (lv_sub hl [0, 1, 2] rfl)  (by rw [mf_Tw_reckoned, if_neg h1, if_pos h2])
    · refine lv_iconst (v := 1) hx hb d_Tw_reckoned_12 (by decide) ?_
      refine lv_goto (tgt := 17) hx hb d_Tw_reckoned_13 (by decide) ?_
      refine lv_istore hx hb d_Tw_reckoned_17 hl (by decide) rfl (fun ls hl => ?_)
      have hl : lv_has ls 12 [(5, .int (1 : Int32)), (0, .int o), (1, .long a), (3, .long b)] := hl
      refine lv_iload hx hb d_Tw_reckoned_19 (lv_at hl 0 rfl) ?_
      refine lv_iconst (v := 1) hx hb d_Tw_reckoned_21 (by decide) ?_
      refine lv_icmp_ne (tgt := 32) hx hb d_Tw_reckoned_22 (by decide) (fun h3 => absurd h3 (by decide)) (fun _ => ?_)
      refine lv_lload_n hx hb d_Tw_reckoned_25 rfl (lv_at hl 2 rfl) ?_
      refine nb_callSl (As := [.long a]) (rest := []) hx hb hml hown hts (c_Tw_toFloat l ad a) nb_t271 nb_t272 nb_t2 nb_t273 hd_Tw_toFloat rfl ⟨Nat.le_of_ble_eq_true rfl, Nat.le_of_ble_eq_true rfl⟩ ⟨rfl, rfl⟩ hC hS hl.1 rfl (Nat.le_of_ble_eq_true rfl) ⟨Nat.le_of_ble_eq_true rfl, Nat.le_of_ble_eq_true rfl⟩ d_Tw_reckoned_26 ?_
      refine lv_goto (tgt := 33) hx hb d_Tw_reckoned_29 (by decide) ?_
      refine lv_lstore hx hb d_Tw_reckoned_33 hl (by decide) rfl (fun ls hl => ?_)
      have hl : lv_has ls 12 [(6, .long (mf_Tw_toFloat a)), (5, .int (1 : Int32)), (0, .int o), (1, .long a), (3, .long b)] := hl
      refine lv_iload hx hb d_Tw_reckoned_35 (lv_at hl 1 rfl) ?_
      refine lv_iconst (v := 1) hx hb d_Tw_reckoned_37 (by decide) ?_
      refine lv_icmp_ne (tgt := 48) hx hb d_Tw_reckoned_38 (by decide) (fun h4 => absurd h4 (by decide)) (fun _ => ?_)
      refine lv_lload_n hx hb d_Tw_reckoned_41 rfl (lv_at hl 4 rfl) ?_
      refine nb_callSl (As := [.long b]) (rest := []) hx hb hml hown hts (c_Tw_toFloat l ad b) nb_t271 nb_t272 nb_t2 nb_t273 hd_Tw_toFloat rfl ⟨Nat.le_of_ble_eq_true rfl, Nat.le_of_ble_eq_true rfl⟩ ⟨rfl, rfl⟩ hC hS hl.1 rfl (Nat.le_of_ble_eq_true rfl) ⟨Nat.le_of_ble_eq_true rfl, Nat.le_of_ble_eq_true rfl⟩ d_Tw_reckoned_42 ?_
      refine lv_goto (tgt := 49) hx hb d_Tw_reckoned_45 (by decide) ?_
      refine lv_lstore hx hb d_Tw_reckoned_49 hl (by decide) rfl (fun ls hl => ?_)
      have hl : lv_has ls 12 [(8, .long (mf_Tw_toFloat b)), (6, .long (mf_Tw_toFloat a)), (5, .int (1 : Int32)), (0, .int o), (1, .long a), (3, .long b)] := hl
      refine lv_iload_n hx hb d_Tw_reckoned_51 rfl (lv_at hl 3 rfl) ?_
      by_cases h5 : o = (0 : Int32)
      · refine lv_tableIn (off := 68) (tgt := 120) hx hb d_Tw_reckoned_52 (by rw [h5]; decide) (by rw [h5]; decide) (by rw [h5]; decide) (by decide) ?_
        refine lv_lload hx hb d_Tw_reckoned_120 (lv_at hl 1 rfl) ?_
        refine lv_lload hx hb d_Tw_reckoned_122 (lv_at hl 0 rfl) ?_
        refine lv_iload hx hb d_Tw_reckoned_124 (lv_at hl 2 rfl) ?_
        refine nb_callSl (As := [.long (mf_Tw_toFloat a), .long (mf_Tw_toFloat b), .int (nI 1)]) (rest := []) hx hb hml hown hts (c_Tw_add l ad (mf_Tw_toFloat a) (mf_Tw_toFloat b) 1 (by decide)) nb_t326 nb_t327 nb_t2 nb_t328 hd_Tw_add rfl ⟨Nat.le_of_ble_eq_true rfl, Nat.le_of_ble_eq_true rfl⟩ ⟨rfl, rfl⟩ hC hS hl.1 rfl (Nat.le_of_ble_eq_true rfl) ⟨Nat.le_of_ble_eq_true rfl, Nat.le_of_ble_eq_true rfl⟩ d_Tw_reckoned_126 ?_
        refine lv_lstore hx hb d_Tw_reckoned_129 hl (by decide) rfl (fun ls hl => ?_)
        have hl : lv_has ls 12 [(10, .long (mf_Tw_add (mf_Tw_toFloat a) (mf_Tw_toFloat b) 1)), (8, .long (mf_Tw_toFloat b)), (6, .long (mf_Tw_toFloat a)), (5, .int (1 : Int32)), (0, .int o), (1, .long a), (3, .long b)] := hl
        refine lv_goto (tgt := 239) hx hb d_Tw_reckoned_131 (by decide) ?_
        refine lv_iload hx hb d_Tw_reckoned_239 (lv_at hl 3 rfl) ?_
        refine lv_iconst (v := 1) hx hb d_Tw_reckoned_241 (by decide) ?_
        refine lv_icmp_ne (tgt := 253) hx hb d_Tw_reckoned_242 (by decide) (fun h6 => absurd h6 (by decide)) (fun _ => ?_)
        refine lv_lload hx hb d_Tw_reckoned_245 (lv_at hl 0 rfl) ?_
        refine nb_callSl (As := [.long (mf_Tw_add (mf_Tw_toFloat a) (mf_Tw_toFloat b) 1)]) (rest := []) hx hb hml hown hts (c_Tw_toDouble l ad (mf_Tw_add (mf_Tw_toFloat a) (mf_Tw_toFloat b) 1)) nb_t370 nb_t371 nb_t2 nb_t372 hd_Tw_toDouble rfl ⟨Nat.le_of_ble_eq_true rfl, Nat.le_of_ble_eq_true rfl⟩ ⟨rfl, rfl⟩ hC hS hl.1 rfl (Nat.le_of_ble_eq_true rfl) ⟨Nat.le_of_ble_eq_true rfl, Nat.le_of_ble_eq_true rfl⟩ d_Tw_reckoned_247 ?_
        refine lv_goto (tgt := 255) hx hb d_Tw_reckoned_250 (by decide) ?_
        exact W.lret hx hb hr (fun t ht hW => ⟨_, rfl, (by rw [mf_Tw_reckoned, if_neg h1, if_neg h2, if_pos h5]), ht⟩) t_nil d_Tw_reckoned_255
      by_cases h7 : o = (1 : Int32)
      · refine lv_tableIn (off := 82) (tgt := 134) hx hb d_Tw_reckoned_52 (by rw [h7]; decide) (by rw [h7]; decide) (by rw [h7]; decide) (by decide) ?_
        refine lv_lload hx hb d_Tw_reckoned_134 (lv_at hl 1 rfl) ?_
        refine lv_lload hx hb d_Tw_reckoned_136 (lv_at hl 0 rfl) ?_
        refine lv_iload hx hb d_Tw_reckoned_138 (lv_at hl 2 rfl) ?_
        refine nb_callSl (As := [.long (mf_Tw_toFloat a), .long (mf_Tw_toFloat b), .int (nI 1)]) (rest := []) hx hb hml hown hts (c_Tw_subtract l ad (mf_Tw_toFloat a) (mf_Tw_toFloat b) 1 (by decide)) nb_t332 nb_t333 nb_t2 nb_t334 hd_Tw_subtract rfl ⟨Nat.le_of_ble_eq_true rfl, Nat.le_of_ble_eq_true rfl⟩ ⟨rfl, rfl⟩ hC hS hl.1 rfl (Nat.le_of_ble_eq_true rfl) ⟨Nat.le_of_ble_eq_true rfl, Nat.le_of_ble_eq_true rfl⟩ d_Tw_reckoned_140 ?_
        refine lv_topl (fun v8 ev8 => ?_)
        refine lv_lstore hx hb d_Tw_reckoned_143 hl (by decide) rfl (fun ls hl => ?_)
        have hl : lv_has ls 12 [(10, .long v8), (8, .long (mf_Tw_toFloat b)), (6, .long (mf_Tw_toFloat a)), (5, .int (1 : Int32)), (0, .int o), (1, .long a), (3, .long b)] := hl
        refine lv_goto (tgt := 239) hx hb d_Tw_reckoned_145 (by decide) ?_
        refine lv_iload hx hb d_Tw_reckoned_239 (lv_at hl 3 rfl) ?_
        refine lv_iconst (v := 1) hx hb d_Tw_reckoned_241 (by decide) ?_
        refine lv_icmp_ne (tgt := 253) hx hb d_Tw_reckoned_242 (by decide) (fun h9 => absurd h9 (by decide)) (fun _ => ?_)
        refine lv_lload hx hb d_Tw_reckoned_245 (lv_at hl 0 rfl) ?_
        refine nb_callSl (As := [.long v8]) (rest := []) hx hb hml hown hts (c_Tw_toDouble l ad v8) nb_t370 nb_t371 nb_t2 nb_t372 hd_Tw_toDouble rfl ⟨Nat.le_of_ble_eq_true rfl, Nat.le_of_ble_eq_true rfl⟩ ⟨rfl, rfl⟩ hC hS hl.1 rfl (Nat.le_of_ble_eq_true rfl) ⟨Nat.le_of_ble_eq_true rfl, Nat.le_of_ble_eq_true rfl⟩ d_Tw_reckoned_247 ?_
        refine lv_goto (tgt := 255) hx hb d_Tw_reckoned_250 (by decide) ?_
        exact W.lret hx hb hr (fun t ht hW => ⟨_, rfl, (by subst ev8; rw [mf_Tw_reckoned, if_neg h1, if_neg h2, if_neg h5, if_pos h7]), ht⟩) t_nil d_Tw_reckoned_255
      by_cases h10 : o = (2 : Int32)
      · refine lv_tableIn (off := 96) (tgt := 148) hx hb d_Tw_reckoned_52 (by rw [h10]; decide) (by rw [h10]; decide) (by rw [h10]; decide) (by decide) ?_
        refine lv_lload hx hb d_Tw_reckoned_148 (lv_at hl 1 rfl) ?_
        refine lv_lload hx hb d_Tw_reckoned_150 (lv_at hl 0 rfl) ?_
        refine lv_iload hx hb d_Tw_reckoned_152 (lv_at hl 2 rfl) ?_
        refine nb_callSl (As := [.long (mf_Tw_toFloat a), .long (mf_Tw_toFloat b), .int (nI 1)]) (rest := []) hx hb hml hown hts (c_Tw_multiply l ad (mf_Tw_toFloat a) (mf_Tw_toFloat b) 1 (by decide)) nb_t338 nb_t339 nb_t2 nb_t340 hd_Tw_multiply rfl ⟨Nat.le_of_ble_eq_true rfl, Nat.le_of_ble_eq_true rfl⟩ ⟨rfl, rfl⟩ hC hS hl.1 rfl (Nat.le_of_ble_eq_true rfl) ⟨Nat.le_of_ble_eq_true rfl, Nat.le_of_ble_eq_true rfl⟩ d_Tw_reckoned_154 ?_
        refine lv_topl (fun v11 ev11 => ?_)
        refine lv_lstore hx hb d_Tw_reckoned_157 hl (by decide) rfl (fun ls hl => ?_)
        have hl : lv_has ls 12 [(10, .long v11), (8, .long (mf_Tw_toFloat b)), (6, .long (mf_Tw_toFloat a)), (5, .int (1 : Int32)), (0, .int o), (1, .long a), (3, .long b)] := hl
        refine lv_goto (tgt := 239) hx hb d_Tw_reckoned_159 (by decide) ?_
        refine lv_iload hx hb d_Tw_reckoned_239 (lv_at hl 3 rfl) ?_
        refine lv_iconst (v := 1) hx hb d_Tw_reckoned_241 (by decide) ?_
        refine lv_icmp_ne (tgt := 253) hx hb d_Tw_reckoned_242 (by decide) (fun h12 => absurd h12 (by decide)) (fun _ => ?_)
        refine lv_lload hx hb d_Tw_reckoned_245 (lv_at hl 0 rfl) ?_
        refine nb_callSl (As := [.long v11]) (rest := []) hx hb hml hown hts (c_Tw_toDouble l ad v11) nb_t370 nb_t371 nb_t2 nb_t372 hd_Tw_toDouble rfl ⟨Nat.le_of_ble_eq_true rfl, Nat.le_of_ble_eq_true rfl⟩ ⟨rfl, rfl⟩ hC hS hl.1 rfl (Nat.le_of_ble_eq_true rfl) ⟨Nat.le_of_ble_eq_true rfl, Nat.le_of_ble_eq_true rfl⟩ d_Tw_reckoned_247 ?_
        refine lv_goto (tgt := 255) hx hb d_Tw_reckoned_250 (by decide) ?_
        exact W.lret hx hb hr (fun t ht hW => ⟨_, rfl, (by subst ev11; rw [mf_Tw_reckoned, if_neg h1, if_neg h2, if_neg h5, if_neg h7, if_pos h10]), ht⟩) t_nil d_Tw_reckoned_255
      by_cases h13 : o = (3 : Int32)
      · refine lv_tableIn (off := 110) (tgt := 162) hx hb d_Tw_reckoned_52 (by rw [h13]; decide) (by rw [h13]; decide) (by rw [h13]; decide) (by decide) ?_
        refine lv_lload hx hb d_Tw_reckoned_162 (lv_at hl 1 rfl) ?_
        refine lv_lload hx hb d_Tw_reckoned_164 (lv_at hl 0 rfl) ?_
        refine lv_iload hx hb d_Tw_reckoned_166 (lv_at hl 2 rfl) ?_
        refine nb_callSl (As := [.long (mf_Tw_toFloat a), .long (mf_Tw_toFloat b), .int (nI 1)]) (rest := []) hx hb hml hown hts (c_Tw_divide l ad (mf_Tw_toFloat a) (mf_Tw_toFloat b) 1 (by decide)) nb_t347 nb_t348 nb_t2 nb_t349 hd_Tw_divide rfl ⟨Nat.le_of_ble_eq_true rfl, Nat.le_of_ble_eq_true rfl⟩ ⟨rfl, rfl⟩ hC hS hl.1 rfl (Nat.le_of_ble_eq_true rfl) ⟨Nat.le_of_ble_eq_true rfl, Nat.le_of_ble_eq_true rfl⟩ d_Tw_reckoned_168 ?_
        refine lv_lstore hx hb d_Tw_reckoned_171 hl (by decide) rfl (fun ls hl => ?_)
        have hl : lv_has ls 12 [(10, .long (mf_Tw_divide (mf_Tw_toFloat a) (mf_Tw_toFloat b) 1)), (8, .long (mf_Tw_toFloat b)), (6, .long (mf_Tw_toFloat a)), (5, .int (1 : Int32)), (0, .int o), (1, .long a), (3, .long b)] := hl
        refine lv_goto (tgt := 239) hx hb d_Tw_reckoned_173 (by decide) ?_
        refine lv_iload hx hb d_Tw_reckoned_239 (lv_at hl 3 rfl) ?_
        refine lv_iconst (v := 1) hx hb d_Tw_reckoned_241 (by decide) ?_
        refine lv_icmp_ne (tgt := 253) hx hb d_Tw_reckoned_242 (by decide) (fun h14 => absurd h14 (by decide)) (fun _ => ?_)
        refine lv_lload hx hb d_Tw_reckoned_245 (lv_at hl 0 rfl) ?_
        refine nb_callSl (As := [.long (mf_Tw_divide (mf_Tw_toFloat a) (mf_Tw_toFloat b) 1)]) (rest := []) hx hb hml hown hts (c_Tw_toDouble l ad (mf_Tw_divide (mf_Tw_toFloat a) (mf_Tw_toFloat b) 1)) nb_t370 nb_t371 nb_t2 nb_t372 hd_Tw_toDouble rfl ⟨Nat.le_of_ble_eq_true rfl, Nat.le_of_ble_eq_true rfl⟩ ⟨rfl, rfl⟩ hC hS hl.1 rfl (Nat.le_of_ble_eq_true rfl) ⟨Nat.le_of_ble_eq_true rfl, Nat.le_of_ble_eq_true rfl⟩ d_Tw_reckoned_247 ?_
        refine lv_goto (tgt := 255) hx hb d_Tw_reckoned_250 (by decide) ?_
        exact W.lret hx hb hr (fun t ht hW => ⟨_, rfl, (by rw [mf_Tw_reckoned, if_neg h1, if_neg h2, if_neg h5, if_neg h7, if_neg h10, if_pos h13]), ht⟩) t_nil d_Tw_reckoned_255
      by_cases h15 : o = (4 : Int32)
      · refine lv_tableIn (off := 124) (tgt := 176) hx hb d_Tw_reckoned_52 (by rw [h15]; decide) (by rw [h15]; decide) (by rw [h15]; decide) (by decide) ?_
        refine lv_lload hx hb d_Tw_reckoned_176 (lv_at hl 1 rfl) ?_
        refine lv_lload hx hb d_Tw_reckoned_178 (lv_at hl 0 rfl) ?_
        refine lv_iload hx hb d_Tw_reckoned_180 (lv_at hl 2 rfl) ?_
        refine nb_callSl (As := [.long (mf_Tw_toFloat a), .long (mf_Tw_toFloat b), .int (nI 1)]) (rest := []) hx hb hml hown hts (c_Tw_rest l ad (mf_Tw_toFloat a) (mf_Tw_toFloat b) 1 (by decide)) nb_t350 nb_t351 nb_t2 nb_t352 hd_Tw_rest rfl ⟨Nat.le_of_ble_eq_true rfl, Nat.le_of_ble_eq_true rfl⟩ ⟨rfl, rfl⟩ hC hS hl.1 rfl (Nat.le_of_ble_eq_true rfl) ⟨Nat.le_of_ble_eq_true rfl, Nat.le_of_ble_eq_true rfl⟩ d_Tw_reckoned_182 ?_
        refine lv_lstore hx hb d_Tw_reckoned_185 hl (by decide) rfl (fun ls hl => ?_)
        have hl : lv_has ls 12 [(10, .long (mf_Tw_rest (mf_Tw_toFloat a) (mf_Tw_toFloat b) 1)), (8, .long (mf_Tw_toFloat b)), (6, .long (mf_Tw_toFloat a)), (5, .int (1 : Int32)), (0, .int o), (1, .long a), (3, .long b)] := hl
        refine lv_goto (tgt := 239) hx hb d_Tw_reckoned_187 (by decide) ?_
        refine lv_iload hx hb d_Tw_reckoned_239 (lv_at hl 3 rfl) ?_
        refine lv_iconst (v := 1) hx hb d_Tw_reckoned_241 (by decide) ?_
        refine lv_icmp_ne (tgt := 253) hx hb d_Tw_reckoned_242 (by decide) (fun h16 => absurd h16 (by decide)) (fun _ => ?_)
        refine lv_lload hx hb d_Tw_reckoned_245 (lv_at hl 0 rfl) ?_
        refine nb_callSl (As := [.long (mf_Tw_rest (mf_Tw_toFloat a) (mf_Tw_toFloat b) 1)]) (rest := []) hx hb hml hown hts (c_Tw_toDouble l ad (mf_Tw_rest (mf_Tw_toFloat a) (mf_Tw_toFloat b) 1)) nb_t370 nb_t371 nb_t2 nb_t372 hd_Tw_toDouble rfl ⟨Nat.le_of_ble_eq_true rfl, Nat.le_of_ble_eq_true rfl⟩ ⟨rfl, rfl⟩ hC hS hl.1 rfl (Nat.le_of_ble_eq_true rfl) ⟨Nat.le_of_ble_eq_true rfl, Nat.le_of_ble_eq_true rfl⟩ d_Tw_reckoned_247 ?_
        refine lv_goto (tgt := 255) hx hb d_Tw_reckoned_250 (by decide) ?_
        exact W.lret hx hb hr (fun t ht hW => ⟨_, rfl, (by rw [mf_Tw_reckoned, if_neg h1, if_neg h2, if_neg h5, if_neg h7, if_neg h10, if_neg h13, if_pos h15]), ht⟩) t_nil d_Tw_reckoned_255
      by_cases h17 : o = (5 : Int32)
      · refine lv_tableIn (off := 138) (tgt := 190) hx hb d_Tw_reckoned_52 (by rw [h17]; decide) (by rw [h17]; decide) (by rw [h17]; decide) (by decide) ?_
        refine lv_lload_n hx hb d_Tw_reckoned_190 rfl (lv_at hl 4 rfl) ?_
        refine nb_callSl (As := [.long a]) (rest := []) hx hb hml hown hts (c_Tw_root l ad a) nb_t353 nb_t354 nb_t2 nb_t355 hd_Tw_root rfl ⟨Nat.le_of_ble_eq_true rfl, Nat.le_of_ble_eq_true rfl⟩ ⟨rfl, rfl⟩ hC hS hl.1 rfl (Nat.le_of_ble_eq_true rfl) ⟨Nat.le_of_ble_eq_true rfl, Nat.le_of_ble_eq_true rfl⟩ d_Tw_reckoned_191 ?_
        refine lv_lstore hx hb d_Tw_reckoned_194 hl (by decide) rfl (fun ls hl => ?_)
        have hl : lv_has ls 12 [(10, .long (mf_Tw_root a)), (8, .long (mf_Tw_toFloat b)), (6, .long (mf_Tw_toFloat a)), (5, .int (1 : Int32)), (0, .int o), (1, .long a), (3, .long b)] := hl
        refine lv_goto (tgt := 239) hx hb d_Tw_reckoned_196 (by decide) ?_
        refine lv_iload hx hb d_Tw_reckoned_239 (lv_at hl 3 rfl) ?_
        refine lv_iconst (v := 1) hx hb d_Tw_reckoned_241 (by decide) ?_
        refine lv_icmp_ne (tgt := 253) hx hb d_Tw_reckoned_242 (by decide) (fun h18 => absurd h18 (by decide)) (fun _ => ?_)
        refine lv_lload hx hb d_Tw_reckoned_245 (lv_at hl 0 rfl) ?_
        refine nb_callSl (As := [.long (mf_Tw_root a)]) (rest := []) hx hb hml hown hts (c_Tw_toDouble l ad (mf_Tw_root a)) nb_t370 nb_t371 nb_t2 nb_t372 hd_Tw_toDouble rfl ⟨Nat.le_of_ble_eq_true rfl, Nat.le_of_ble_eq_true rfl⟩ ⟨rfl, rfl⟩ hC hS hl.1 rfl (Nat.le_of_ble_eq_true rfl) ⟨Nat.le_of_ble_eq_true rfl, Nat.le_of_ble_eq_true rfl⟩ d_Tw_reckoned_247 ?_
        refine lv_goto (tgt := 255) hx hb d_Tw_reckoned_250 (by decide) ?_
        exact W.lret hx hb hr (fun t ht hW => ⟨_, rfl, (by rw [mf_Tw_reckoned, if_neg h1, if_neg h2, if_neg h5, if_neg h7, if_neg h10, if_neg h13, if_neg h15, if_pos h17]), ht⟩) t_nil d_Tw_reckoned_255
      by_cases h19 : o = (6 : Int32)
      · refine lv_tableIn (off := 147) (tgt := 199) hx hb d_Tw_reckoned_52 (by rw [h19]; decide) (by rw [h19]; decide) (by rw [h19]; decide) (by decide) ?_
        refine lv_lload_n hx hb d_Tw_reckoned_199 rfl (lv_at hl 4 rfl) ?_
        refine lv_iconst (v := 0) hx hb d_Tw_reckoned_200 (by decide) ?_
        refine nb_callSl (As := [.long a, .int (nI 0)]) (rest := []) hx hb hml hown hts (c_Tw_turned l ad a 0 (by decide)) nb_t335 nb_t336 nb_t2 nb_t337 hd_Tw_turned rfl ⟨Nat.le_of_ble_eq_true rfl, Nat.le_of_ble_eq_true rfl⟩ ⟨rfl, rfl⟩ hC hS hl.1 rfl (Nat.le_of_ble_eq_true rfl) ⟨Nat.le_of_ble_eq_true rfl, Nat.le_of_ble_eq_true rfl⟩ d_Tw_reckoned_201 ?_
        refine lv_lstore hx hb d_Tw_reckoned_204 hl (by decide) rfl (fun ls hl => ?_)
        have hl : lv_has ls 12 [(10, .long (mf_Tw_turned a 0)), (8, .long (mf_Tw_toFloat b)), (6, .long (mf_Tw_toFloat a)), (5, .int (1 : Int32)), (0, .int o), (1, .long a), (3, .long b)] := hl
        refine lv_goto (tgt := 239) hx hb d_Tw_reckoned_206 (by decide) ?_
        refine lv_iload hx hb d_Tw_reckoned_239 (lv_at hl 3 rfl) ?_
        refine lv_iconst (v := 1) hx hb d_Tw_reckoned_241 (by decide) ?_
        refine lv_icmp_ne (tgt := 253) hx hb d_Tw_reckoned_242 (by decide) (fun h20 => absurd h20 (by decide)) (fun _ => ?_)
        refine lv_lload hx hb d_Tw_reckoned_245 (lv_at hl 0 rfl) ?_
        refine nb_callSl (As := [.long (mf_Tw_turned a 0)]) (rest := []) hx hb hml hown hts (c_Tw_toDouble l ad (mf_Tw_turned a 0)) nb_t370 nb_t371 nb_t2 nb_t372 hd_Tw_toDouble rfl ⟨Nat.le_of_ble_eq_true rfl, Nat.le_of_ble_eq_true rfl⟩ ⟨rfl, rfl⟩ hC hS hl.1 rfl (Nat.le_of_ble_eq_true rfl) ⟨Nat.le_of_ble_eq_true rfl, Nat.le_of_ble_eq_true rfl⟩ d_Tw_reckoned_247 ?_
        refine lv_goto (tgt := 255) hx hb d_Tw_reckoned_250 (by decide) ?_
        exact W.lret hx hb hr (fun t ht hW => ⟨_, rfl, (by rw [mf_Tw_reckoned, if_neg h1, if_neg h2, if_neg h5, if_neg h7, if_neg h10, if_neg h13, if_neg h15, if_neg h17, if_pos h19]), ht⟩) t_nil d_Tw_reckoned_255
      by_cases h21 : o = (7 : Int32)
      · refine lv_tableIn (off := 157) (tgt := 209) hx hb d_Tw_reckoned_52 (by rw [h21]; decide) (by rw [h21]; decide) (by rw [h21]; decide) (by decide) ?_
        refine lv_lload_n hx hb d_Tw_reckoned_209 rfl (lv_at hl 4 rfl) ?_
        refine nb_callSl (As := [.long a]) (rest := []) hx hb hml hown hts (c_Tw_toFloat l ad a) nb_t271 nb_t272 nb_t2 nb_t273 hd_Tw_toFloat rfl ⟨Nat.le_of_ble_eq_true rfl, Nat.le_of_ble_eq_true rfl⟩ ⟨rfl, rfl⟩ hC hS hl.1 rfl (Nat.le_of_ble_eq_true rfl) ⟨Nat.le_of_ble_eq_true rfl, Nat.le_of_ble_eq_true rfl⟩ d_Tw_reckoned_210 ?_
        refine nb_callSl (As := [.long (mf_Tw_toFloat a)]) (rest := []) hx hb hml hown hts (c_Tw_toDouble l ad (mf_Tw_toFloat a)) nb_t370 nb_t371 nb_t2 nb_t372 hd_Tw_toDouble rfl ⟨Nat.le_of_ble_eq_true rfl, Nat.le_of_ble_eq_true rfl⟩ ⟨rfl, rfl⟩ hC hS hl.1 rfl (Nat.le_of_ble_eq_true rfl) ⟨Nat.le_of_ble_eq_true rfl, Nat.le_of_ble_eq_true rfl⟩ d_Tw_reckoned_213 ?_
        refine lv_lstore hx hb d_Tw_reckoned_216 hl (by decide) rfl (fun ls hl => ?_)
        have hl : lv_has ls 12 [(10, .long (mf_Tw_toDouble (mf_Tw_toFloat a))), (8, .long (mf_Tw_toFloat b)), (6, .long (mf_Tw_toFloat a)), (5, .int (1 : Int32)), (0, .int o), (1, .long a), (3, .long b)] := hl
        refine lv_goto (tgt := 239) hx hb d_Tw_reckoned_218 (by decide) ?_
        refine lv_iload hx hb d_Tw_reckoned_239 (lv_at hl 3 rfl) ?_
        refine lv_iconst (v := 1) hx hb d_Tw_reckoned_241 (by decide) ?_
        refine lv_icmp_ne (tgt := 253) hx hb d_Tw_reckoned_242 (by decide) (fun h22 => absurd h22 (by decide)) (fun _ => ?_)
        refine lv_lload hx hb d_Tw_reckoned_245 (lv_at hl 0 rfl) ?_
        refine nb_callSl (As := [.long (mf_Tw_toDouble (mf_Tw_toFloat a))]) (rest := []) hx hb hml hown hts (c_Tw_toDouble l ad (mf_Tw_toDouble (mf_Tw_toFloat a))) nb_t370 nb_t371 nb_t2 nb_t372 hd_Tw_toDouble rfl ⟨Nat.le_of_ble_eq_true rfl, Nat.le_of_ble_eq_true rfl⟩ ⟨rfl, rfl⟩ hC hS hl.1 rfl (Nat.le_of_ble_eq_true rfl) ⟨Nat.le_of_ble_eq_true rfl, Nat.le_of_ble_eq_true rfl⟩ d_Tw_reckoned_247 ?_
        refine lv_goto (tgt := 255) hx hb d_Tw_reckoned_250 (by decide) ?_
        exact W.lret hx hb hr (fun t ht hW => ⟨_, rfl, (by rw [mf_Tw_reckoned, if_neg h1, if_neg h2, if_neg h5, if_neg h7, if_neg h10, if_neg h13, if_neg h15, if_neg h17, if_neg h19, if_pos h21]), ht⟩) t_nil d_Tw_reckoned_255
      by_cases h23 : o = (8 : Int32)
      · refine lv_tableIn (off := 68) (tgt := 120) hx hb d_Tw_reckoned_52 (by rw [h23]; decide) (by rw [h23]; decide) (by rw [h23]; decide) (by decide) ?_
        refine lv_lload hx hb d_Tw_reckoned_120 (lv_at hl 1 rfl) ?_
        refine lv_lload hx hb d_Tw_reckoned_122 (lv_at hl 0 rfl) ?_
        refine lv_iload hx hb d_Tw_reckoned_124 (lv_at hl 2 rfl) ?_
        refine nb_callSl (As := [.long (mf_Tw_toFloat a), .long (mf_Tw_toFloat b), .int (nI 1)]) (rest := []) hx hb hml hown hts (c_Tw_add l ad (mf_Tw_toFloat a) (mf_Tw_toFloat b) 1 (by decide)) nb_t326 nb_t327 nb_t2 nb_t328 hd_Tw_add rfl ⟨Nat.le_of_ble_eq_true rfl, Nat.le_of_ble_eq_true rfl⟩ ⟨rfl, rfl⟩ hC hS hl.1 rfl (Nat.le_of_ble_eq_true rfl) ⟨Nat.le_of_ble_eq_true rfl, Nat.le_of_ble_eq_true rfl⟩ d_Tw_reckoned_126 ?_
        refine lv_lstore hx hb d_Tw_reckoned_129 hl (by decide) rfl (fun ls hl => ?_)
        have hl : lv_has ls 12 [(10, .long (mf_Tw_add (mf_Tw_toFloat a) (mf_Tw_toFloat b) 1)), (8, .long (mf_Tw_toFloat b)), (6, .long (mf_Tw_toFloat a)), (5, .int (1 : Int32)), (0, .int o), (1, .long a), (3, .long b)] := hl
        refine lv_goto (tgt := 239) hx hb d_Tw_reckoned_131 (by decide) ?_
        refine lv_iload hx hb d_Tw_reckoned_239 (lv_at hl 3 rfl) ?_
        refine lv_iconst (v := 1) hx hb d_Tw_reckoned_241 (by decide) ?_
        refine lv_icmp_ne (tgt := 253) hx hb d_Tw_reckoned_242 (by decide) (fun h24 => absurd h24 (by decide)) (fun _ => ?_)
        refine lv_lload hx hb d_Tw_reckoned_245 (lv_at hl 0 rfl) ?_
        refine nb_callSl (As := [.long (mf_Tw_add (mf_Tw_toFloat a) (mf_Tw_toFloat b) 1)]) (rest := []) hx hb hml hown hts (c_Tw_toDouble l ad (mf_Tw_add (mf_Tw_toFloat a) (mf_Tw_toFloat b) 1)) nb_t370 nb_t371 nb_t2 nb_t372 hd_Tw_toDouble rfl ⟨Nat.le_of_ble_eq_true rfl, Nat.le_of_ble_eq_true rfl⟩ ⟨rfl, rfl⟩ hC hS hl.1 rfl (Nat.le_of_ble_eq_true rfl) ⟨Nat.le_of_ble_eq_true rfl, Nat.le_of_ble_eq_true rfl⟩ d_Tw_reckoned_247 ?_
        refine lv_goto (tgt := 255) hx hb d_Tw_reckoned_250 (by decide) ?_
        exact W.lret hx hb hr (fun t ht hW => ⟨_, rfl, (by rw [mf_Tw_reckoned, if_neg h1, if_neg h2, if_neg h5, if_neg h7, if_neg h10, if_neg h13, if_neg h15, if_neg h17, if_neg h19, if_neg h21, if_pos h23]), ht⟩) t_nil d_Tw_reckoned_255
      by_cases h25 : o = (9 : Int32)
      · refine lv_tableIn (off := 82) (tgt := 134) hx hb d_Tw_reckoned_52 (by rw [h25]; decide) (by rw [h25]; decide) (by rw [h25]; decide) (by decide) ?_
        refine lv_lload hx hb d_Tw_reckoned_134 (lv_at hl 1 rfl) ?_
        refine lv_lload hx hb d_Tw_reckoned_136 (lv_at hl 0 rfl) ?_
        refine lv_iload hx hb d_Tw_reckoned_138 (lv_at hl 2 rfl) ?_
        refine nb_callSl (As := [.long (mf_Tw_toFloat a), .long (mf_Tw_toFloat b), .int (nI 1)]) (rest := []) hx hb hml hown hts (c_Tw_subtract l ad (mf_Tw_toFloat a) (mf_Tw_toFloat b) 1 (by decide)) nb_t332 nb_t333 nb_t2 nb_t334 hd_Tw_subtract rfl ⟨Nat.le_of_ble_eq_true rfl, Nat.le_of_ble_eq_true rfl⟩ ⟨rfl, rfl⟩ hC hS hl.1 rfl (Nat.le_of_ble_eq_true rfl) ⟨Nat.le_of_ble_eq_true rfl, Nat.le_of_ble_eq_true rfl⟩ d_Tw_reckoned_140 ?_
        refine lv_topl (fun v26 ev26 => ?_)
        refine lv_lstore hx hb d_Tw_reckoned_143 hl (by decide) rfl (fun ls hl => ?_)
        have hl : lv_has ls 12 [(10, .long v26), (8, .long (mf_Tw_toFloat b)), (6, .long (mf_Tw_toFloat a)), (5, .int (1 : Int32)), (0, .int o), (1, .long a), (3, .long b)] := hl
        refine lv_goto (tgt := 239) hx hb d_Tw_reckoned_145 (by decide) ?_
        refine lv_iload hx hb d_Tw_reckoned_239 (lv_at hl 3 rfl) ?_
        refine lv_iconst (v := 1) hx hb d_Tw_reckoned_241 (by decide) ?_
        refine lv_icmp_ne (tgt := 253) hx hb d_Tw_reckoned_242 (by decide) (fun h27 => absurd h27 (by decide)) (fun _ => ?_)
        refine lv_lload hx hb d_Tw_reckoned_245 (lv_at hl 0 rfl) ?_
        refine nb_callSl (As := [.long v26]) (rest := []) hx hb hml hown hts (c_Tw_toDouble l ad v26) nb_t370 nb_t371 nb_t2 nb_t372 hd_Tw_toDouble rfl ⟨Nat.le_of_ble_eq_true rfl, Nat.le_of_ble_eq_true rfl⟩ ⟨rfl, rfl⟩ hC hS hl.1 rfl (Nat.le_of_ble_eq_true rfl) ⟨Nat.le_of_ble_eq_true rfl, Nat.le_of_ble_eq_true rfl⟩ d_Tw_reckoned_247 ?_
        refine lv_goto (tgt := 255) hx hb d_Tw_reckoned_250 (by decide) ?_
        exact W.lret hx hb hr (fun t ht hW => ⟨_, rfl, (by subst ev26; rw [mf_Tw_reckoned, if_neg h1, if_neg h2, if_neg h5, if_neg h7, if_neg h10, if_neg h13, if_neg h15, if_neg h17, if_neg h19, if_neg h21, if_neg h23, if_pos h25]), ht⟩) t_nil d_Tw_reckoned_255
      by_cases h28 : o = (10 : Int32)
      · refine lv_tableIn (off := 96) (tgt := 148) hx hb d_Tw_reckoned_52 (by rw [h28]; decide) (by rw [h28]; decide) (by rw [h28]; decide) (by decide) ?_
        refine lv_lload hx hb d_Tw_reckoned_148 (lv_at hl 1 rfl) ?_
        refine lv_lload hx hb d_Tw_reckoned_150 (lv_at hl 0 rfl) ?_
        refine lv_iload hx hb d_Tw_reckoned_152 (lv_at hl 2 rfl) ?_
        refine nb_callSl (As := [.long (mf_Tw_toFloat a), .long (mf_Tw_toFloat b), .int (nI 1)]) (rest := []) hx hb hml hown hts (c_Tw_multiply l ad (mf_Tw_toFloat a) (mf_Tw_toFloat b) 1 (by decide)) nb_t338 nb_t339 nb_t2 nb_t340 hd_Tw_multiply rfl ⟨Nat.le_of_ble_eq_true rfl, Nat.le_of_ble_eq_true rfl⟩ ⟨rfl, rfl⟩ hC hS hl.1 rfl (Nat.le_of_ble_eq_true rfl) ⟨Nat.le_of_ble_eq_true rfl, Nat.le_of_ble_eq_true rfl⟩ d_Tw_reckoned_154 ?_
        refine lv_topl (fun v29 ev29 => ?_)
        refine lv_lstore hx hb d_Tw_reckoned_157 hl (by decide) rfl (fun ls hl => ?_)
        have hl : lv_has ls 12 [(10, .long v29), (8, .long (mf_Tw_toFloat b)), (6, .long (mf_Tw_toFloat a)), (5, .int (1 : Int32)), (0, .int o), (1, .long a), (3, .long b)] := hl
        refine lv_goto (tgt := 239) hx hb d_Tw_reckoned_159 (by decide) ?_
        refine lv_iload hx hb d_Tw_reckoned_239 (lv_at hl 3 rfl) ?_
        refine lv_iconst (v := 1) hx hb d_Tw_reckoned_241 (by decide) ?_
        refine lv_icmp_ne (tgt := 253) hx hb d_Tw_reckoned_242 (by decide) (fun h30 => absurd h30 (by decide)) (fun _ => ?_)
        refine lv_lload hx hb d_Tw_reckoned_245 (lv_at hl 0 rfl) ?_
        refine nb_callSl (As := [.long v29]) (rest := []) hx hb hml hown hts (c_Tw_toDouble l ad v29) nb_t370 nb_t371 nb_t2 nb_t372 hd_Tw_toDouble rfl ⟨Nat.le_of_ble_eq_true rfl, Nat.le_of_ble_eq_true rfl⟩ ⟨rfl, rfl⟩ hC hS hl.1 rfl (Nat.le_of_ble_eq_true rfl) ⟨Nat.le_of_ble_eq_true rfl, Nat.le_of_ble_eq_true rfl⟩ d_Tw_reckoned_247 ?_
        refine lv_goto (tgt := 255) hx hb d_Tw_reckoned_250 (by decide) ?_
        exact W.lret hx hb hr (fun t ht hW => ⟨_, rfl, (by subst ev29; rw [mf_Tw_reckoned, if_neg h1, if_neg h2, if_neg h5, if_neg h7, if_neg h10, if_neg h13, if_neg h15, if_neg h17, if_neg h19, if_neg h21, if_neg h23, if_neg h25, if_pos h28]), ht⟩) t_nil d_Tw_reckoned_255
      by_cases h31 : o = (11 : Int32)
      · refine lv_tableIn (off := 110) (tgt := 162) hx hb d_Tw_reckoned_52 (by rw [h31]; decide) (by rw [h31]; decide) (by rw [h31]; decide) (by decide) ?_
        refine lv_lload hx hb d_Tw_reckoned_162 (lv_at hl 1 rfl) ?_
        refine lv_lload hx hb d_Tw_reckoned_164 (lv_at hl 0 rfl) ?_
        refine lv_iload hx hb d_Tw_reckoned_166 (lv_at hl 2 rfl) ?_
        refine nb_callSl (As := [.long (mf_Tw_toFloat a), .long (mf_Tw_toFloat b), .int (nI 1)]) (rest := []) hx hb hml hown hts (c_Tw_divide l ad (mf_Tw_toFloat a) (mf_Tw_toFloat b) 1 (by decide)) nb_t347 nb_t348 nb_t2 nb_t349 hd_Tw_divide rfl ⟨Nat.le_of_ble_eq_true rfl, Nat.le_of_ble_eq_true rfl⟩ ⟨rfl, rfl⟩ hC hS hl.1 rfl (Nat.le_of_ble_eq_true rfl) ⟨Nat.le_of_ble_eq_true rfl, Nat.le_of_ble_eq_true rfl⟩ d_Tw_reckoned_168 ?_
        refine lv_lstore hx hb d_Tw_reckoned_171 hl (by decide) rfl (fun ls hl => ?_)
        have hl : lv_has ls 12 [(10, .long (mf_Tw_divide (mf_Tw_toFloat a) (mf_Tw_toFloat b) 1)), (8, .long (mf_Tw_toFloat b)), (6, .long (mf_Tw_toFloat a)), (5, .int (1 : Int32)), (0, .int o), (1, .long a), (3, .long b)] := hl
        refine lv_goto (tgt := 239) hx hb d_Tw_reckoned_173 (by decide) ?_
        refine lv_iload hx hb d_Tw_reckoned_239 (lv_at hl 3 rfl) ?_
        refine lv_iconst (v := 1) hx hb d_Tw_reckoned_241 (by decide) ?_
        refine lv_icmp_ne (tgt := 253) hx hb d_Tw_reckoned_242 (by decide) (fun h32 => absurd h32 (by decide)) (fun _ => ?_)
        refine lv_lload hx hb d_Tw_reckoned_245 (lv_at hl 0 rfl) ?_
        refine nb_callSl (As := [.long (mf_Tw_divide (mf_Tw_toFloat a) (mf_Tw_toFloat b) 1)]) (rest := []) hx hb hml hown hts (c_Tw_toDouble l ad (mf_Tw_divide (mf_Tw_toFloat a) (mf_Tw_toFloat b) 1)) nb_t370 nb_t371 nb_t2 nb_t372 hd_Tw_toDouble rfl ⟨Nat.le_of_ble_eq_true rfl, Nat.le_of_ble_eq_true rfl⟩ ⟨rfl, rfl⟩ hC hS hl.1 rfl (Nat.le_of_ble_eq_true rfl) ⟨Nat.le_of_ble_eq_true rfl, Nat.le_of_ble_eq_true rfl⟩ d_Tw_reckoned_247 ?_
        refine lv_goto (tgt := 255) hx hb d_Tw_reckoned_250 (by decide) ?_
        exact W.lret hx hb hr (fun t ht hW => ⟨_, rfl, (by rw [mf_Tw_reckoned, if_neg h1, if_neg h2, if_neg h5, if_neg h7, if_neg h10, if_neg h13, if_neg h15, if_neg h17, if_neg h19, if_neg h21, if_neg h23, if_neg h25, if_neg h28, if_pos h31]), ht⟩) t_nil d_Tw_reckoned_255
      by_cases h33 : o = (12 : Int32)
      · refine lv_tableIn (off := 124) (tgt := 176) hx hb d_Tw_reckoned_52 (by rw [h33]; decide) (by rw [h33]; decide) (by rw [h33]; decide) (by decide) ?_
        refine lv_lload hx hb d_Tw_reckoned_176 (lv_at hl 1 rfl) ?_
        refine lv_lload hx hb d_Tw_reckoned_178 (lv_at hl 0 rfl) ?_
        refine lv_iload hx hb d_Tw_reckoned_180 (lv_at hl 2 rfl) ?_
        refine nb_callSl (As := [.long (mf_Tw_toFloat a), .long (mf_Tw_toFloat b), .int (nI 1)]) (rest := []) hx hb hml hown hts (c_Tw_rest l ad (mf_Tw_toFloat a) (mf_Tw_toFloat b) 1 (by decide)) nb_t350 nb_t351 nb_t2 nb_t352 hd_Tw_rest rfl ⟨Nat.le_of_ble_eq_true rfl, Nat.le_of_ble_eq_true rfl⟩ ⟨rfl, rfl⟩ hC hS hl.1 rfl (Nat.le_of_ble_eq_true rfl) ⟨Nat.le_of_ble_eq_true rfl, Nat.le_of_ble_eq_true rfl⟩ d_Tw_reckoned_182 ?_
        refine lv_lstore hx hb d_Tw_reckoned_185 hl (by decide) rfl (fun ls hl => ?_)
        have hl : lv_has ls 12 [(10, .long (mf_Tw_rest (mf_Tw_toFloat a) (mf_Tw_toFloat b) 1)), (8, .long (mf_Tw_toFloat b)), (6, .long (mf_Tw_toFloat a)), (5, .int (1 : Int32)), (0, .int o), (1, .long a), (3, .long b)] := hl
        refine lv_goto (tgt := 239) hx hb d_Tw_reckoned_187 (by decide) ?_
        refine lv_iload hx hb d_Tw_reckoned_239 (lv_at hl 3 rfl) ?_
        refine lv_iconst (v := 1) hx hb d_Tw_reckoned_241 (by decide) ?_
        refine lv_icmp_ne (tgt := 253) hx hb d_Tw_reckoned_242 (by decide) (fun h34 => absurd h34 (by decide)) (fun _ => ?_)
        refine lv_lload hx hb d_Tw_reckoned_245 (lv_at hl 0 rfl) ?_
        refine nb_callSl (As := [.long (mf_Tw_rest (mf_Tw_toFloat a) (mf_Tw_toFloat b) 1)]) (rest := []) hx hb hml hown hts (c_Tw_toDouble l ad (mf_Tw_rest (mf_Tw_toFloat a) (mf_Tw_toFloat b) 1)) nb_t370 nb_t371 nb_t2 nb_t372 hd_Tw_toDouble rfl ⟨Nat.le_of_ble_eq_true rfl, Nat.le_of_ble_eq_true rfl⟩ ⟨rfl, rfl⟩ hC hS hl.1 rfl (Nat.le_of_ble_eq_true rfl) ⟨Nat.le_of_ble_eq_true rfl, Nat.le_of_ble_eq_true rfl⟩ d_Tw_reckoned_247 ?_
        refine lv_goto (tgt := 255) hx hb d_Tw_reckoned_250 (by decide) ?_
        exact W.lret hx hb hr (fun t ht hW => ⟨_, rfl, (by rw [mf_Tw_reckoned, if_neg h1, if_neg h2, if_neg h5, if_neg h7, if_neg h10, if_neg h13, if_neg h15, if_neg h17, if_neg h19, if_neg h21, if_neg h23, if_neg h25, if_neg h28, if_neg h31, if_pos h33]), ht⟩) t_nil d_Tw_reckoned_255
      refine lv_tableOut (tgt := 221) hx hb d_Tw_reckoned_52 (by have q0 := lv_neT (a := 0) h5 (by decide); have q1 := lv_neT (a := 1) h7 (by decide); have q2 := lv_neT (a := 2) h10 (by decide); have q3 := lv_neT (a := 3) h13 (by decide); have q4 := lv_neT (a := 4) h15 (by decide); have q5 := lv_neT (a := 5) h17 (by decide); have q6 := lv_neT (a := 6) h19 (by decide); have q7 := lv_neT (a := 7) h21 (by decide); have q8 := lv_neT (a := 8) h23 (by decide); have q9 := lv_neT (a := 9) h25 (by decide); have q10 := lv_neT (a := 10) h28 (by decide); have q11 := lv_neT (a := 11) h31 (by decide); have q12 := lv_neT (a := 12) h33 (by decide); omega) (by decide) ?_
      refine lv_lload_n hx hb d_Tw_reckoned_221 rfl (lv_at hl 4 rfl) ?_
      refine lv_lload_n hx hb d_Tw_reckoned_222 rfl (lv_at hl 5 rfl) ?_
      refine lv_iload_n hx hb d_Tw_reckoned_223 rfl (lv_at hl 3 rfl) ?_
      refine lv_bipush (v := 14) hx hb d_Tw_reckoned_224 (by decide) ?_
      refine lv_icmp_ne (tgt := 233) hx hb d_Tw_reckoned_226 (by decide) (fun h35 => ?_) (fun h35 => ?_)
      · refine lv_iconst (v := 0) hx hb d_Tw_reckoned_233 (by decide) ?_
        refine nb_callSl (As := [.long a, .long b, .int (0 : Int32)]) (rest := []) hx hb hml hown hts (c_Tw_end l ad a b (0 : Int32)) nb_t373 nb_t374 nb_t2 nb_t375 hd_Tw_end rfl ⟨Nat.le_of_ble_eq_true rfl, Nat.le_of_ble_eq_true rfl⟩ ⟨rfl, rfl⟩ hC hS hl.1 rfl (Nat.le_of_ble_eq_true rfl) ⟨Nat.le_of_ble_eq_true rfl, Nat.le_of_ble_eq_true rfl⟩ d_Tw_reckoned_234 ?_
        refine lv_lstore hx hb d_Tw_reckoned_237 hl (by decide) rfl (fun ls hl => ?_)
        have hl : lv_has ls 12 [(10, .long (mf_Tw_end a b (0 : Int32))), (8, .long (mf_Tw_toFloat b)), (6, .long (mf_Tw_toFloat a)), (5, .int (1 : Int32)), (0, .int o), (1, .long a), (3, .long b)] := hl
        refine lv_iload hx hb d_Tw_reckoned_239 (lv_at hl 3 rfl) ?_
        refine lv_iconst (v := 1) hx hb d_Tw_reckoned_241 (by decide) ?_
        refine lv_icmp_ne (tgt := 253) hx hb d_Tw_reckoned_242 (by decide) (fun h36 => absurd h36 (by decide)) (fun _ => ?_)
        refine lv_lload hx hb d_Tw_reckoned_245 (lv_at hl 0 rfl) ?_
        refine nb_callSl (As := [.long (mf_Tw_end a b (0 : Int32))]) (rest := []) hx hb hml hown hts (c_Tw_toDouble l ad (mf_Tw_end a b (0 : Int32))) nb_t370 nb_t371 nb_t2 nb_t372 hd_Tw_toDouble rfl ⟨Nat.le_of_ble_eq_true rfl, Nat.le_of_ble_eq_true rfl⟩ ⟨rfl, rfl⟩ hC hS hl.1 rfl (Nat.le_of_ble_eq_true rfl) ⟨Nat.le_of_ble_eq_true rfl, Nat.le_of_ble_eq_true rfl⟩ d_Tw_reckoned_247 ?_
        refine lv_goto (tgt := 255) hx hb d_Tw_reckoned_250 (by decide) ?_
        exact W.lret hx hb hr (fun t ht hW => ⟨_, rfl, (by rw [mf_Tw_reckoned, if_neg h1, if_neg h2, if_neg h5, if_neg h7, if_neg h10, if_neg h13, if_neg h15, if_neg h17, if_neg h19, if_neg h21, if_neg h23, if_neg h25, if_neg h28, if_neg h31, if_neg h33, if_neg h35]), ht⟩) t_nil d_Tw_reckoned_255
      · refine lv_iconst (v := 1) hx hb d_Tw_reckoned_229 (by decide) ?_
        refine lv_goto (tgt := 234) hx hb d_Tw_reckoned_230 (by decide) ?_
        refine nb_callSl (As := [.long a, .long b, .int (1 : Int32)]) (rest := []) hx hb hml hown hts (c_Tw_end l ad a b (1 : Int32)) nb_t373 nb_t374 nb_t2 nb_t375 hd_Tw_end rfl ⟨Nat.le_of_ble_eq_true rfl, Nat.le_of_ble_eq_true rfl⟩ ⟨rfl, rfl⟩ hC hS hl.1 rfl (Nat.le_of_ble_eq_true rfl) ⟨Nat.le_of_ble_eq_true rfl, Nat.le_of_ble_eq_true rfl⟩ d_Tw_reckoned_234 ?_
        refine lv_lstore hx hb d_Tw_reckoned_237 hl (by decide) rfl (fun ls hl => ?_)
        have hl : lv_has ls 12 [(10, .long (mf_Tw_end a b (1 : Int32))), (8, .long (mf_Tw_toFloat b)), (6, .long (mf_Tw_toFloat a)), (5, .int (1 : Int32)), (0, .int o), (1, .long a), (3, .long b)] := hl
        refine lv_iload hx hb d_Tw_reckoned_239 (lv_at hl 3 rfl) ?_
        refine lv_iconst (v := 1) hx hb d_Tw_reckoned_241 (by decide) ?_
        refine lv_icmp_ne (tgt := 253) hx hb d_Tw_reckoned_242 (by decide) (fun h37 => absurd h37 (by decide)) (fun _ => ?_)
        refine lv_lload hx hb d_Tw_reckoned_245 (lv_at hl 0 rfl) ?_
        refine nb_callSl (As := [.long (mf_Tw_end a b (1 : Int32))]) (rest := []) hx hb hml hown hts (c_Tw_toDouble l ad (mf_Tw_end a b (1 : Int32))) nb_t370 nb_t371 nb_t2 nb_t372 hd_Tw_toDouble rfl ⟨Nat.le_of_ble_eq_true rfl, Nat.le_of_ble_eq_true rfl⟩ ⟨rfl, rfl⟩ hC hS hl.1 rfl (Nat.le_of_ble_eq_true rfl) ⟨Nat.le_of_ble_eq_true rfl, Nat.le_of_ble_eq_true rfl⟩ d_Tw_reckoned_247 ?_
        refine lv_goto (tgt := 255) hx hb d_Tw_reckoned_250 (by decide) ?_
        exact W.lret hx hb hr (fun t ht hW => ⟨_, rfl, (by rw [mf_Tw_reckoned, if_neg h1, if_neg h2, if_neg h5, if_neg h7, if_neg h10, if_neg h13, if_neg h15, if_neg h17, if_neg h19, if_neg h21, if_neg h23, if_neg h25, if_neg h28, if_neg h31, if_neg h33, if_pos h35]), ht⟩) t_nil d_Tw_reckoned_255
def y_Tw_cutTo : MethodName := ⟨"NumberBenchModel", "cutTo", "(JJJ)J"⟩
abbrev w_Tw_cutTo : List Cond := Cond.code y_Tw_cutTo prog_4_method_39_code 14 (Option.some FieldType.long) :: nb_tb
theorem hd_Tw_cutTo : y_Tw_cutTo.cls ≠ "java/lang/invoke/MethodHandle" ∧ y_Tw_cutTo.cls ≠ "java/lang/invoke/VarHandle" ∧ (parseMethodDescriptor y_Tw_cutTo.desc).map (fun d => d.parameters.length) = some 3 := by decide +kernel
theorem d_Tw_cutTo_0 : decode prog_4_method_39_code 0 = .ok (.lload_n 0, 1) := by decide +kernel
theorem d_Tw_cutTo_1 : decode prog_4_method_39_code 1 = .ok (.iconst 0, 1) := by decide +kernel
theorem d_Tw_cutTo_2 : decode prog_4_method_39_code 2 = .ok (.invokestatic 56, 3) := by decide +kernel
theorem d_Tw_cutTo_5 : decode prog_4_method_39_code 5 = .ok (.ifCond .eq 5, 3) := by decide +kernel
theorem d_Tw_cutTo_8 : decode prog_4_method_39_code 8 = .ok (.lconst 0, 1) := by decide +kernel
theorem d_Tw_cutTo_9 : decode prog_4_method_39_code 9 = .ok (.lreturn, 1) := by decide +kernel
theorem d_Tw_cutTo_10 : decode prog_4_method_39_code 10 = .ok (.lload_n 0, 1) := by decide +kernel
theorem d_Tw_cutTo_11 : decode prog_4_method_39_code 11 = .ok (.iconst 0, 1) := by decide +kernel
theorem d_Tw_cutTo_12 : decode prog_4_method_39_code 12 = .ok (.invokestatic 76, 3) := by decide +kernel
theorem d_Tw_cutTo_15 : decode prog_4_method_39_code 15 = .ok (.istore 6, 2) := by decide +kernel
theorem d_Tw_cutTo_17 : decode prog_4_method_39_code 17 = .ok (.iload 6, 2) := by decide +kernel
theorem d_Tw_cutTo_19 : decode prog_4_method_39_code 19 = .ok (.ifCond .eq 7, 3) := by decide +kernel
theorem d_Tw_cutTo_22 : decode prog_4_method_39_code 22 = .ok (.lload_n 2, 1) := by decide +kernel
theorem d_Tw_cutTo_23 : decode prog_4_method_39_code 23 = .ok (.goto 5, 3) := by decide +kernel
theorem d_Tw_cutTo_26 : decode prog_4_method_39_code 26 = .ok (.lload 4, 2) := by decide +kernel
theorem d_Tw_cutTo_28 : decode prog_4_method_39_code 28 = .ok (.lstore 7, 2) := by decide +kernel
theorem d_Tw_cutTo_30 : decode prog_4_method_39_code 30 = .ok (.lload_n 0, 1) := by decide +kernel
theorem d_Tw_cutTo_31 : decode prog_4_method_39_code 31 = .ok (.iconst 0, 1) := by decide +kernel
theorem d_Tw_cutTo_32 : decode prog_4_method_39_code 32 = .ok (.invokestatic 63, 3) := by decide +kernel
theorem d_Tw_cutTo_35 : decode prog_4_method_39_code 35 = .ok (.ifCond .eq 6, 3) := by decide +kernel
theorem d_Tw_cutTo_38 : decode prog_4_method_39_code 38 = .ok (.lload 7, 2) := by decide +kernel
theorem d_Tw_cutTo_40 : decode prog_4_method_39_code 40 = .ok (.lreturn, 1) := by decide +kernel
theorem d_Tw_cutTo_41 : decode prog_4_method_39_code 41 = .ok (.lload_n 0, 1) := by decide +kernel
theorem d_Tw_cutTo_42 : decode prog_4_method_39_code 42 = .ok (.iconst 0, 1) := by decide +kernel
theorem d_Tw_cutTo_43 : decode prog_4_method_39_code 43 = .ok (.invokestatic 73, 3) := by decide +kernel
theorem d_Tw_cutTo_46 : decode prog_4_method_39_code 46 = .ok (.lstore 9, 2) := by decide +kernel
theorem d_Tw_cutTo_48 : decode prog_4_method_39_code 48 = .ok (.lload_n 0, 1) := by decide +kernel
theorem d_Tw_cutTo_49 : decode prog_4_method_39_code 49 = .ok (.iconst 0, 1) := by decide +kernel
theorem d_Tw_cutTo_50 : decode prog_4_method_39_code 50 = .ok (.invokestatic 69, 3) := by decide +kernel
theorem d_Tw_cutTo_53 : decode prog_4_method_39_code 53 = .ok (.istore 11, 2) := by decide +kernel
theorem d_Tw_cutTo_55 : decode prog_4_method_39_code 55 = .ok (.iload 11, 2) := by decide +kernel
theorem d_Tw_cutTo_57 : decode prog_4_method_39_code 57 = .ok (.bipush 10, 2) := by decide +kernel
theorem d_Tw_cutTo_59 : decode prog_4_method_39_code 59 = .ok (.if_icmp .le 13, 3) := by decide +kernel
theorem d_Tw_cutTo_62 : decode prog_4_method_39_code 62 = .ok (.lload 9, 2) := by decide +kernel
theorem d_Tw_cutTo_64 : decode prog_4_method_39_code 64 = .ok (.lconst 0, 1) := by decide +kernel
theorem d_Tw_cutTo_65 : decode prog_4_method_39_code 65 = .ok (.lcmp, 1) := by decide +kernel
theorem d_Tw_cutTo_66 : decode prog_4_method_39_code 66 = .ok (.ifCond .eq 6, 3) := by decide +kernel
theorem d_Tw_cutTo_69 : decode prog_4_method_39_code 69 = .ok (.lload 7, 2) := by decide +kernel
theorem d_Tw_cutTo_71 : decode prog_4_method_39_code 71 = .ok (.lreturn, 1) := by decide +kernel
theorem d_Tw_cutTo_72 : decode prog_4_method_39_code 72 = .ok (.iload 11, 2) := by decide +kernel
theorem d_Tw_cutTo_74 : decode prog_4_method_39_code 74 = .ok (.ifCond .lt 11, 3) := by decide +kernel
theorem d_Tw_cutTo_77 : decode prog_4_method_39_code 77 = .ok (.lload 9, 2) := by decide +kernel
theorem d_Tw_cutTo_79 : decode prog_4_method_39_code 79 = .ok (.iload 11, 2) := by decide +kernel
theorem d_Tw_cutTo_81 : decode prog_4_method_39_code 81 = .ok (.lshl, 1) := by decide +kernel
theorem d_Tw_cutTo_82 : decode prog_4_method_39_code 82 = .ok (.goto 20, 3) := by decide +kernel
theorem d_Tw_cutTo_85 : decode prog_4_method_39_code 85 = .ok (.iload 11, 2) := by decide +kernel
theorem d_Tw_cutTo_87 : decode prog_4_method_39_code 87 = .ok (.bipush (-62), 2) := by decide +kernel
theorem d_Tw_cutTo_89 : decode prog_4_method_39_code 89 = .ok (.if_icmp .ge 7, 3) := by decide +kernel
theorem d_Tw_cutTo_92 : decode prog_4_method_39_code 92 = .ok (.lconst 0, 1) := by decide +kernel
theorem d_Tw_cutTo_93 : decode prog_4_method_39_code 93 = .ok (.goto 9, 3) := by decide +kernel
theorem d_Tw_cutTo_96 : decode prog_4_method_39_code 96 = .ok (.lload 9, 2) := by decide +kernel
theorem d_Tw_cutTo_98 : decode prog_4_method_39_code 98 = .ok (.iload 11, 2) := by decide +kernel
theorem d_Tw_cutTo_100 : decode prog_4_method_39_code 100 = .ok (.ineg, 1) := by decide +kernel
theorem d_Tw_cutTo_101 : decode prog_4_method_39_code 101 = .ok (.lshr, 1) := by decide +kernel
theorem d_Tw_cutTo_102 : decode prog_4_method_39_code 102 = .ok (.lstore 12, 2) := by decide +kernel
theorem d_Tw_cutTo_104 : decode prog_4_method_39_code 104 = .ok (.iload 6, 2) := by decide +kernel
theorem d_Tw_cutTo_106 : decode prog_4_method_39_code 106 = .ok (.ifCond .eq 19, 3) := by decide +kernel
theorem d_Tw_cutTo_109 : decode prog_4_method_39_code 109 = .ok (.lload 12, 2) := by decide +kernel
theorem d_Tw_cutTo_111 : decode prog_4_method_39_code 111 = .ok (.lneg, 1) := by decide +kernel
theorem d_Tw_cutTo_112 : decode prog_4_method_39_code 112 = .ok (.lload_n 2, 1) := by decide +kernel
theorem d_Tw_cutTo_113 : decode prog_4_method_39_code 113 = .ok (.lcmp, 1) := by decide +kernel
theorem d_Tw_cutTo_114 : decode prog_4_method_39_code 114 = .ok (.ifCond .ge 7, 3) := by decide +kernel
theorem d_Tw_cutTo_117 : decode prog_4_method_39_code 117 = .ok (.lload_n 2, 1) := by decide +kernel
theorem d_Tw_cutTo_118 : decode prog_4_method_39_code 118 = .ok (.goto 6, 3) := by decide +kernel
theorem d_Tw_cutTo_121 : decode prog_4_method_39_code 121 = .ok (.lload 12, 2) := by decide +kernel
theorem d_Tw_cutTo_123 : decode prog_4_method_39_code 123 = .ok (.lneg, 1) := by decide +kernel
theorem d_Tw_cutTo_124 : decode prog_4_method_39_code 124 = .ok (.lreturn, 1) := by decide +kernel
theorem d_Tw_cutTo_125 : decode prog_4_method_39_code 125 = .ok (.lload 12, 2) := by decide +kernel
theorem d_Tw_cutTo_127 : decode prog_4_method_39_code 127 = .ok (.lload 4, 2) := by decide +kernel
theorem d_Tw_cutTo_129 : decode prog_4_method_39_code 129 = .ok (.lcmp, 1) := by decide +kernel
theorem d_Tw_cutTo_130 : decode prog_4_method_39_code 130 = .ok (.ifCond .le 8, 3) := by decide +kernel
theorem d_Tw_cutTo_133 : decode prog_4_method_39_code 133 = .ok (.lload 4, 2) := by decide +kernel
theorem d_Tw_cutTo_135 : decode prog_4_method_39_code 135 = .ok (.goto 5, 3) := by decide +kernel
theorem d_Tw_cutTo_138 : decode prog_4_method_39_code 138 = .ok (.lload 12, 2) := by decide +kernel
theorem d_Tw_cutTo_140 : decode prog_4_method_39_code 140 = .ok (.lreturn, 1) := by decide +kernel
set_option maxHeartbeats 1200000 in
set_option maxRecDepth 100000 in
theorem c_Tw_cutTo (l : Launch) (ad : Nat → Nat) (a : Int64) (lo : Int64) (hi : Int64)  : Met l y_Tw_cutTo w_Tw_cutTo ({ frames := 3, cells := 0, slots := 0, locals := 69 } : Room) (va_Pc [.long a, .long lo, .long hi] (nb_K ad)) (vp_Sl (fun r => r = mf_Tw_cutTo a lo hi)) 0 0 (fun _ => False) := by
  refine Met.ofW (cc := prog_4_method_39_code) (maxL := 14) (ret := some .long) (by decide) rfl ?_
  intro p e s m args below meth c s₁ B hml hv
  obtain ⟨rfl, hC⟩ := hv
  have hx := B.exec
  have hb := B.bytes
  have hr := B.returns
  have hts := atoms_spec (ws := w_Tw_cutTo) B.pre
  have hown : s.vm.findClass "NumberBenchModel" = some m.cls := findClass_of_methodNamed B.named
  have hlocks := B.notSynchronized
  have hC : nb_C ad (fun _ => False) s s.heap := hC
  have hS : va_S (fun _ => False) s.heap s.heap [] := va_S.rf
  have hl := lv_entry ([.long a, .long lo, .long hi]) (n := 14) (Nat.le_of_ble_eq_true rfl)
  rw [lg_entry_eq]
  generalize (lg_sl ([.long a, .long lo, .long hi]) ++ List.replicate (14 - (lg_sl ([.long a, .long lo, .long hi])).length) Slot.unset).toArray = ls at hl ⊢
  have hl : lv_has ls 14 [(0, .long a), (2, .long lo), (4, .long hi)] := hl
  have b102 : ∀ (x6 : Int32) (k0 : Int64) (ls : Array Slot), lv_has ls 14 [(2, .long lo), (4, .long hi), (6, .int x6)] → mf_Tw_cutTo a lo hi = mf_Tw_cutTo_b102 a lo hi x6 k0 → W p l e (headSpec w_Tw_cutTo ({ frames := 3, cells := 0, slots := 0, locals := 69 } : Room)).room s m ([.long a, .long lo, .long hi] : List Value).toArray below meth c s.heap [] 0 0 (MQ below (vp_Sl (fun r => r = mf_Tw_cutTo a lo hi)) ([.long a, .long lo, .long hi] : List Value).toArray s 0 0 (fun _ => False)) (F0 m 102 ls [.long k0]) := by
    intro x6 k0 ls hl  hE
    refine lv_lstore hx hb d_Tw_cutTo_102 hl (by decide) rfl (fun ls hl => ?_)
    have hl : lv_has ls 14 [(12, .long k0), (2, .long lo), (4, .long hi), (6, .int x6)] := hl
    refine lv_iload hx hb d_Tw_cutTo_104 (lv_at hl 3 rfl) ?_
    refine lv_if_eq (tgt := 125) hx hb d_Tw_cutTo_106 (by decide) (fun h8 => ?_) (fun h8 => ?_)
    · refine lv_lload hx hb d_Tw_cutTo_125 (lv_at hl 0 rfl) ?_
      refine lv_lload hx hb d_Tw_cutTo_127 (lv_at hl 2 rfl) ?_
      refine nb_lc_le (tgt := 138) hx hb d_Tw_cutTo_129 d_Tw_cutTo_130 (by decide) (fun h9 => ?_) (fun h9 => ?_)
      · refine lv_lload hx hb d_Tw_cutTo_138 (lv_at hl 0 rfl) ?_
        exact W.lret hx hb hr (fun t ht hW => ⟨_, rfl, (by rw [hE, mf_Tw_cutTo_b102, if_pos h8, if_pos h9]), ht⟩) t_nil d_Tw_cutTo_140
      · refine lv_lload hx hb d_Tw_cutTo_133 (lv_at hl 2 rfl) ?_
        refine lv_goto (tgt := 140) hx hb d_Tw_cutTo_135 (by decide) ?_
        exact W.lret hx hb hr (fun t ht hW => ⟨_, rfl, (by rw [hE, mf_Tw_cutTo_b102, if_pos h8, if_neg h9]), ht⟩) t_nil d_Tw_cutTo_140
    · refine lv_lload hx hb d_Tw_cutTo_109 (lv_at hl 0 rfl) ?_
      refine lv_lneg hx hb d_Tw_cutTo_111 ?_
      refine lv_lload_n hx hb d_Tw_cutTo_112 rfl (lv_at hl 1 rfl) ?_
      refine nb_lc_ge (tgt := 121) hx hb d_Tw_cutTo_113 d_Tw_cutTo_114 (by decide) (fun h10 => ?_) (fun h10 => ?_)
      · refine lv_lload hx hb d_Tw_cutTo_121 (lv_at hl 0 rfl) ?_
        refine lv_lneg hx hb d_Tw_cutTo_123 ?_
        exact W.lret hx hb hr (fun t ht hW => ⟨_, rfl, (by rw [hE, mf_Tw_cutTo_b102, if_neg h8, if_pos h10]), ht⟩) t_nil d_Tw_cutTo_124
      · refine lv_lload_n hx hb d_Tw_cutTo_117 rfl (lv_at hl 1 rfl) ?_
        refine lv_goto (tgt := 124) hx hb d_Tw_cutTo_118 (by decide) ?_
        exact W.lret hx hb hr (fun t ht hW => ⟨_, rfl, (by rw [hE, mf_Tw_cutTo_b102, if_neg h8, if_neg h10]), ht⟩) t_nil d_Tw_cutTo_124
  have b72 : ∀ (x6 : Int32) (x9 : Int64) (x11 : Int32) (ls : Array Slot), lv_has ls 14 [(2, .long lo), (4, .long hi), (6, .int x6), (9, .long x9), (11, .int x11)] → mf_Tw_cutTo a lo hi = mf_Tw_cutTo_b72 a lo hi x6 x9 x11 → W p l e (headSpec w_Tw_cutTo ({ frames := 3, cells := 0, slots := 0, locals := 69 } : Room)).room s m ([.long a, .long lo, .long hi] : List Value).toArray below meth c s.heap [] 0 0 (MQ below (vp_Sl (fun r => r = mf_Tw_cutTo a lo hi)) ([.long a, .long lo, .long hi] : List Value).toArray s 0 0 (fun _ => False)) (F0 m 72 ls []) := by
    intro x6 x9 x11 ls hl  hE
    refine lv_iload hx hb d_Tw_cutTo_72 (lv_at hl 4 rfl) ?_
    refine lv_if_lt (tgt := 85) hx hb d_Tw_cutTo_74 (by decide) (fun h6 => ?_) (fun h6 => ?_)
    · refine lv_iload hx hb d_Tw_cutTo_85 (lv_at hl 4 rfl) ?_
      refine lv_bipush (v := (-62)) hx hb d_Tw_cutTo_87 (by decide) ?_
      refine lv_icmp_ge (tgt := 96) hx hb d_Tw_cutTo_89 (by decide) (fun h7 => ?_) (fun h7 => ?_)
      · refine lv_lload hx hb d_Tw_cutTo_96 (lv_at hl 3 rfl) ?_
        refine lv_iload hx hb d_Tw_cutTo_98 (lv_at hl 4 rfl) ?_
        refine lv_ineg hx hb d_Tw_cutTo_100 ?_
        refine lv_lshr hx hb d_Tw_cutTo_101 rfl ?_
        exact b102 x6 (x9 >>> ((-x11).toInt64 &&& 63)) ls (lv_sub hl [0, 1, 2] rfl)  (by rw [hE, mf_Tw_cutTo_b72, if_pos h6, if_pos h7])
      · refine lv_lconst (v := 0) hx hb d_Tw_cutTo_92 (by decide) ?_
        refine lv_goto (tgt := 102) hx hb d_Tw_cutTo_93 (by decide) ?_
        exact b102 x6 (0 : Int64) ls (lv_sub hl [0, 1, 2] rfl)  (by rw [hE, mf_Tw_cutTo_b72, if_pos h6, if_neg h7])
    · refine lv_lload hx hb d_Tw_cutTo_77 (lv_at hl 3 rfl) ?_
      refine lv_iload hx hb d_Tw_cutTo_79 (lv_at hl 4 rfl) ?_
      refine lv_lshl hx hb d_Tw_cutTo_81 rfl ?_
      refine lv_goto (tgt := 102) hx hb d_Tw_cutTo_82 (by decide) ?_
      exact b102 x6 (x9 <<< (x11.toInt64 &&& 63)) ls (lv_sub hl [0, 1, 2] rfl)  (by rw [hE, mf_Tw_cutTo_b72, if_neg h6])
  have b28 : ∀ (x6 : Int32) (k0 : Int64) (ls : Array Slot), lv_has ls 14 [(0, .long a), (2, .long lo), (4, .long hi), (6, .int x6)] → mf_Tw_cutTo a lo hi = mf_Tw_cutTo_b28 a lo hi x6 k0 → W p l e (headSpec w_Tw_cutTo ({ frames := 3, cells := 0, slots := 0, locals := 69 } : Room)).room s m ([.long a, .long lo, .long hi] : List Value).toArray below meth c s.heap [] 0 0 (MQ below (vp_Sl (fun r => r = mf_Tw_cutTo a lo hi)) ([.long a, .long lo, .long hi] : List Value).toArray s 0 0 (fun _ => False)) (F0 m 28 ls [.long k0]) := by
    intro x6 k0 ls hl  hE
    refine lv_lstore hx hb d_Tw_cutTo_28 hl (by decide) rfl (fun ls hl => ?_)
    have hl : lv_has ls 14 [(7, .long k0), (0, .long a), (2, .long lo), (4, .long hi), (6, .int x6)] := hl
    refine lv_lload_n hx hb d_Tw_cutTo_30 rfl (lv_at hl 1 rfl) ?_
    refine lv_iconst (v := 0) hx hb d_Tw_cutTo_31 (by decide) ?_
    refine nb_callSi (As := [.long a, .int (nI 0)]) (rest := []) hx hb hml hown hts (c_Tw_isInfinite l ad a 0 (by decide)) nb_t296 nb_t297 nb_t2 nb_t298 hd_Tw_isInfinite rfl ⟨Nat.le_of_ble_eq_true rfl, Nat.le_of_ble_eq_true rfl⟩ ⟨rfl, rfl⟩ hC hS hl.1 rfl (Nat.le_of_ble_eq_true rfl) ⟨Nat.le_of_ble_eq_true rfl, Nat.le_of_ble_eq_true rfl⟩ d_Tw_cutTo_32 ?_
    refine lv_if_eq (tgt := 41) hx hb d_Tw_cutTo_35 (by decide) (fun h3 => ?_) (fun h3 => ?_)
    · refine lv_lload_n hx hb d_Tw_cutTo_41 rfl (lv_at hl 1 rfl) ?_
      refine lv_iconst (v := 0) hx hb d_Tw_cutTo_42 (by decide) ?_
      refine nb_callSl (As := [.long a, .int (nI 0)]) (rest := []) hx hb hml hown hts (c_Tw_whole l ad a 0 (by decide)) nb_t305 nb_t306 nb_t2 nb_t307 hd_Tw_whole rfl ⟨Nat.le_of_ble_eq_true rfl, Nat.le_of_ble_eq_true rfl⟩ ⟨rfl, rfl⟩ hC hS hl.1 rfl (Nat.le_of_ble_eq_true rfl) ⟨Nat.le_of_ble_eq_true rfl, Nat.le_of_ble_eq_true rfl⟩ d_Tw_cutTo_43 ?_
      refine lv_lstore hx hb d_Tw_cutTo_46 hl (by decide) rfl (fun ls hl => ?_)
      have hl : lv_has ls 14 [(9, .long (mf_Tw_whole a 0)), (7, .long k0), (0, .long a), (2, .long lo), (4, .long hi), (6, .int x6)] := hl
      refine lv_lload_n hx hb d_Tw_cutTo_48 rfl (lv_at hl 2 rfl) ?_
      refine lv_iconst (v := 0) hx hb d_Tw_cutTo_49 (by decide) ?_
      refine nb_callSi (As := [.long a, .int (nI 0)]) (rest := []) hx hb hml hown hts (c_Tw_power l ad a 0 (by decide)) nb_t310 nb_t311 nb_t2 nb_t312 hd_Tw_power rfl ⟨Nat.le_of_ble_eq_true rfl, Nat.le_of_ble_eq_true rfl⟩ ⟨rfl, rfl⟩ hC hS hl.1 rfl (Nat.le_of_ble_eq_true rfl) ⟨Nat.le_of_ble_eq_true rfl, Nat.le_of_ble_eq_true rfl⟩ d_Tw_cutTo_50 ?_
      refine lv_istore hx hb d_Tw_cutTo_53 hl (by decide) rfl (fun ls hl => ?_)
      have hl : lv_has ls 14 [(11, .int (mf_Tw_power a 0)), (9, .long (mf_Tw_whole a 0)), (7, .long k0), (0, .long a), (2, .long lo), (4, .long hi), (6, .int x6)] := hl
      refine lv_iload hx hb d_Tw_cutTo_55 (lv_at hl 0 rfl) ?_
      refine lv_bipush (v := 10) hx hb d_Tw_cutTo_57 (by decide) ?_
      refine lv_icmp_le (tgt := 72) hx hb d_Tw_cutTo_59 (by decide) (fun h4 => ?_) (fun h4 => ?_)
      · exact b72 x6 (mf_Tw_whole a 0) (mf_Tw_power a 0) ls (lv_sub hl [4, 5, 6, 1, 0] rfl)  (by rw [hE, mf_Tw_cutTo_b28, if_pos h3, if_pos h4])
      · refine lv_lload hx hb d_Tw_cutTo_62 (lv_at hl 1 rfl) ?_
        refine lv_lconst (v := 0) hx hb d_Tw_cutTo_64 (by decide) ?_
        refine nb_lc_eq (tgt := 72) hx hb d_Tw_cutTo_65 d_Tw_cutTo_66 (by decide) (fun h5 => ?_) (fun h5 => ?_)
        · exact b72 x6 (mf_Tw_whole a 0) (mf_Tw_power a 0) ls (lv_sub hl [4, 5, 6, 1, 0] rfl)  (by rw [hE, mf_Tw_cutTo_b28, if_pos h3, if_neg h4, if_pos h5])
        · refine lv_lload hx hb d_Tw_cutTo_69 (lv_at hl 2 rfl) ?_
          exact W.lret hx hb hr (fun t ht hW => ⟨_, rfl, (by rw [hE, mf_Tw_cutTo_b28, if_pos h3, if_neg h4, if_neg h5]), ht⟩) t_nil d_Tw_cutTo_71
    · refine lv_lload hx hb d_Tw_cutTo_38 (lv_at hl 0 rfl) ?_
      exact W.lret hx hb hr (fun t ht hW => ⟨_, rfl, (by rw [hE, mf_Tw_cutTo_b28, if_neg h3]), ht⟩) t_nil d_Tw_cutTo_40
  refine lv_lload_n hx hb d_Tw_cutTo_0 rfl (lv_at hl 0 rfl) ?_
  refine lv_iconst (v := 0) hx hb d_Tw_cutTo_1 (by decide) ?_
  refine nb_callSi (As := [.long a, .int (nI 0)]) (rest := []) hx hb hml hown hts (c_Tw_isNone l ad a 0 (by decide)) nb_t277 nb_t278 nb_t2 nb_t279 hd_Tw_isNone rfl ⟨Nat.le_of_ble_eq_true rfl, Nat.le_of_ble_eq_true rfl⟩ ⟨rfl, rfl⟩ hC hS hl.1 rfl (Nat.le_of_ble_eq_true rfl) ⟨Nat.le_of_ble_eq_true rfl, Nat.le_of_ble_eq_true rfl⟩ d_Tw_cutTo_2 ?_
  refine lv_if_eq (tgt := 10) hx hb d_Tw_cutTo_5 (by decide) (fun h1 => ?_) (fun h1 => ?_)
  · refine lv_lload_n hx hb d_Tw_cutTo_10 rfl (lv_at hl 0 rfl) ?_
    refine lv_iconst (v := 0) hx hb d_Tw_cutTo_11 (by decide) ?_
    refine nb_callSi (As := [.long a, .int (nI 0)]) (rest := []) hx hb hml hown hts (c_Tw_minus l ad a 0 (by decide)) nb_t299 nb_t300 nb_t2 nb_t301 hd_Tw_minus rfl ⟨Nat.le_of_ble_eq_true rfl, Nat.le_of_ble_eq_true rfl⟩ ⟨rfl, rfl⟩ hC hS hl.1 rfl (Nat.le_of_ble_eq_true rfl) ⟨Nat.le_of_ble_eq_true rfl, Nat.le_of_ble_eq_true rfl⟩ d_Tw_cutTo_12 ?_
    refine lv_istore hx hb d_Tw_cutTo_15 hl (by decide) rfl (fun ls hl => ?_)
    have hl : lv_has ls 14 [(6, .int (mf_Tw_minus a 0)), (0, .long a), (2, .long lo), (4, .long hi)] := hl
    refine lv_iload hx hb d_Tw_cutTo_17 (lv_at hl 0 rfl) ?_
    refine lv_if_eq (tgt := 26) hx hb d_Tw_cutTo_19 (by decide) (fun h2 => ?_) (fun h2 => ?_)
    · refine lv_lload hx hb d_Tw_cutTo_26 (lv_at hl 3 rfl) ?_
      exact b28 (mf_Tw_minus a 0) hi ls (lv_sub hl [1, 2, 3, 0] rfl)  (by rw [mf_Tw_cutTo, if_pos h1, if_pos h2])
    · refine lv_lload_n hx hb d_Tw_cutTo_22 rfl (lv_at hl 2 rfl) ?_
      refine lv_goto (tgt := 28) hx hb d_Tw_cutTo_23 (by decide) ?_
      exact b28 (mf_Tw_minus a 0) lo ls (lv_sub hl [1, 2, 3, 0] rfl)  (by rw [mf_Tw_cutTo, if_pos h1, if_neg h2])
  · refine lv_lconst (v := 0) hx hb d_Tw_cutTo_8 (by decide) ?_
    exact W.lret hx hb hr (fun t ht hW => ⟨_, rfl, (by rw [mf_Tw_cutTo, if_neg h1]), ht⟩) t_nil d_Tw_cutTo_9
