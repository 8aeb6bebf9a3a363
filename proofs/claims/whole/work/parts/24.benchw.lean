def y_Nb_isStore : MethodName := ⟨"NumberBench", "isStore", "(I)Z"⟩
abbrev w_Nb_isStore : List Cond := Cond.code y_Nb_isStore prog_1_method_11_code 1 (Option.some FieldType.boolean) :: nb_tb
theorem hd_Nb_isStore : y_Nb_isStore.cls ≠ "java/lang/invoke/MethodHandle" ∧ y_Nb_isStore.cls ≠ "java/lang/invoke/VarHandle" ∧ (parseMethodDescriptor y_Nb_isStore.desc).map (fun d => d.parameters.length) = some 1 := by decide +kernel
theorem d_Nb_isStore_0 : decode prog_1_method_11_code 0 = .ok (.iload_n 0, 1) := by decide +kernel
theorem d_Nb_isStore_1 : decode prog_1_method_11_code 1 = .ok (.ifCond .lt 13, 3) := by decide +kernel
theorem d_Nb_isStore_4 : decode prog_1_method_11_code 4 = .ok (.iload_n 0, 1) := by decide +kernel
theorem d_Nb_isStore_5 : decode prog_1_method_11_code 5 = .ok (.bipush 8, 2) := by decide +kernel
theorem d_Nb_isStore_7 : decode prog_1_method_11_code 7 = .ok (.if_icmp .ge 7, 3) := by decide +kernel
theorem d_Nb_isStore_10 : decode prog_1_method_11_code 10 = .ok (.iconst 1, 1) := by decide +kernel
theorem d_Nb_isStore_11 : decode prog_1_method_11_code 11 = .ok (.goto 4, 3) := by decide +kernel
theorem d_Nb_isStore_14 : decode prog_1_method_11_code 14 = .ok (.iconst 0, 1) := by decide +kernel
theorem d_Nb_isStore_15 : decode prog_1_method_11_code 15 = .ok (.ireturn, 1) := by decide +kernel
set_option maxHeartbeats 1200000 in
set_option maxRecDepth 100000 in
theorem c_Nb_isStore (l : Launch) (ad : Nat → Nat) (k : Int32)  : Met l y_Nb_isStore w_Nb_isStore ({ frames := 0, cells := 0, slots := 0, locals := 0 } : Room) (va_Pc [.int k] (nb_K ad)) (vp_Si (fun r => r = mf_Nb_isStore k)) 0 0 (fun _ => False) := by
  refine Met.ofW (cc := prog_1_method_11_code) (maxL := 1) (ret := some .boolean) (by decide) rfl ?_
  intro p e s m args below meth c s₁ B hml hv
  obtain ⟨rfl, hC⟩ := hv
  have hx := B.exec
  have hb := B.bytes
  have hr := B.returns
  have hts := atoms_spec (ws := w_Nb_isStore) B.pre
  have hown : s.vm.findClass "NumberBench" = some m.cls := findClass_of_methodNamed B.named
  have hlocks := B.notSynchronized
  have hC : nb_C ad (fun _ => False) s s.heap := hC
  have hS : va_S (fun _ => False) s.heap s.heap [] := va_S.rf
  have hl := lv_entry ([.int k]) (n := 1) (Nat.le_of_ble_eq_true rfl)
  rw [lg_entry_eq]
  generalize (lg_sl ([.int k]) ++ List.replicate (1 - (lg_sl ([.int k])).length) Slot.unset).toArray = ls at hl ⊢
  have hl : lv_has ls 1 [(0, .int k)] := hl
  refine lv_iload_n hx hb d_Nb_isStore_0 rfl (lv_at hl 0 rfl) ?_
  refine lv_if_lt (tgt := 14) hx hb d_Nb_isStore_1 (by decide) (fun h1 => ?_) (fun h1 => ?_)
  · refine lv_iconst (v := 0) hx hb d_Nb_isStore_14 (by decide) ?_
    exact W.zret (ty := .boolean) hx hb hr (by decide) (fun t ht hW => ⟨_, rfl, (by rw [mf_Nb_isStore, if_pos h1]), ht⟩) t_nil d_Nb_isStore_15
  · refine lv_iload_n hx hb d_Nb_isStore_4 rfl (lv_at hl 0 rfl) ?_
    refine lv_bipush (v := 8) hx hb d_Nb_isStore_5 (by decide) ?_
    refine lv_icmp_ge (tgt := 14) hx hb d_Nb_isStore_7 (by decide) (fun h2 => ?_) (fun h2 => ?_)
    · refine lv_iconst (v := 0) hx hb d_Nb_isStore_14 (by decide) ?_
      exact W.zret (ty := .boolean) hx hb hr (by decide) (fun t ht hW => ⟨_, rfl, (by rw [mf_Nb_isStore, if_neg h1, if_pos h2]), ht⟩) t_nil d_Nb_isStore_15
    · refine lv_iconst (v := 1) hx hb d_Nb_isStore_10 (by decide) ?_
      refine lv_goto (tgt := 15) hx hb d_Nb_isStore_11 (by decide) ?_
      exact W.zret (ty := .boolean) hx hb hr (by decide) (fun t ht hW => ⟨_, rfl, (by rw [mf_Nb_isStore, if_neg h1, if_neg h2]), ht⟩) t_nil d_Nb_isStore_15
def y_Nb_combined : MethodName := ⟨"NumberBench", "combined", "(LNumberBench$Form;IJJ)J"⟩
abbrev w_Nb_combined : List Cond := Cond.code y_Nb_combined prog_1_method_13_code 6 (Option.some FieldType.long) :: nb_tb
theorem hd_Nb_combined : y_Nb_combined.cls ≠ "java/lang/invoke/MethodHandle" ∧ y_Nb_combined.cls ≠ "java/lang/invoke/VarHandle" ∧ (parseMethodDescriptor y_Nb_combined.desc).map (fun d => d.parameters.length) = some 4 := by decide +kernel
theorem d_Nb_combined_0 : decode prog_1_method_13_code 0 = .ok (.iload_n 1, 1) := by decide +kernel
theorem d_Nb_combined_1 : decode prog_1_method_13_code 1 = .ok (.tableswitch 63 0 3 #[31, 39, 47, 55], 31) := by decide +kernel
theorem d_Nb_combined_32 : decode prog_1_method_13_code 32 = .ok (.aload_n 0, 1) := by decide +kernel
theorem d_Nb_combined_33 : decode prog_1_method_13_code 33 = .ok (.lload_n 2, 1) := by decide +kernel
theorem d_Nb_combined_34 : decode prog_1_method_13_code 34 = .ok (.lload 4, 2) := by decide +kernel
theorem d_Nb_combined_36 : decode prog_1_method_13_code 36 = .ok (.invokevirtual 65, 3) := by decide +kernel
theorem d_Nb_combined_39 : decode prog_1_method_13_code 39 = .ok (.lreturn, 1) := by decide +kernel
theorem d_Nb_combined_40 : decode prog_1_method_13_code 40 = .ok (.aload_n 0, 1) := by decide +kernel
theorem d_Nb_combined_41 : decode prog_1_method_13_code 41 = .ok (.lload_n 2, 1) := by decide +kernel
theorem d_Nb_combined_42 : decode prog_1_method_13_code 42 = .ok (.lload 4, 2) := by decide +kernel
theorem d_Nb_combined_44 : decode prog_1_method_13_code 44 = .ok (.invokevirtual 99, 3) := by decide +kernel
theorem d_Nb_combined_47 : decode prog_1_method_13_code 47 = .ok (.lreturn, 1) := by decide +kernel
theorem d_Nb_combined_48 : decode prog_1_method_13_code 48 = .ok (.aload_n 0, 1) := by decide +kernel
theorem d_Nb_combined_49 : decode prog_1_method_13_code 49 = .ok (.lload_n 2, 1) := by decide +kernel
theorem d_Nb_combined_50 : decode prog_1_method_13_code 50 = .ok (.lload 4, 2) := by decide +kernel
theorem d_Nb_combined_52 : decode prog_1_method_13_code 52 = .ok (.invokevirtual 62, 3) := by decide +kernel
theorem d_Nb_combined_55 : decode prog_1_method_13_code 55 = .ok (.lreturn, 1) := by decide +kernel
theorem d_Nb_combined_56 : decode prog_1_method_13_code 56 = .ok (.aload_n 0, 1) := by decide +kernel
theorem d_Nb_combined_57 : decode prog_1_method_13_code 57 = .ok (.lload_n 2, 1) := by decide +kernel
theorem d_Nb_combined_58 : decode prog_1_method_13_code 58 = .ok (.lload 4, 2) := by decide +kernel
theorem d_Nb_combined_60 : decode prog_1_method_13_code 60 = .ok (.invokevirtual 102, 3) := by decide +kernel
theorem d_Nb_combined_63 : decode prog_1_method_13_code 63 = .ok (.lreturn, 1) := by decide +kernel
theorem d_Nb_combined_64 : decode prog_1_method_13_code 64 = .ok (.aload_n 0, 1) := by decide +kernel
theorem d_Nb_combined_65 : decode prog_1_method_13_code 65 = .ok (.lload_n 2, 1) := by decide +kernel
theorem d_Nb_combined_66 : decode prog_1_method_13_code 66 = .ok (.lload 4, 2) := by decide +kernel
theorem d_Nb_combined_68 : decode prog_1_method_13_code 68 = .ok (.invokevirtual 105, 3) := by decide +kernel
theorem d_Nb_combined_71 : decode prog_1_method_13_code 71 = .ok (.lreturn, 1) := by decide +kernel
set_option maxHeartbeats 1200000 in
set_option maxRecDepth 100000 in
theorem c_Nb_combined (l : Launch) (ad : Nat → Nat) (i : Nat) (o : Int32) (a : Int64) (b : Int64) (h_i : i < 2) : Met l y_Nb_combined w_Nb_combined ({ frames := 6, cells := 0, slots := 0, locals := 150 } : Room) (va_Pc [.ref (ad i), .int o, .long a, .long b] (nb_K ad)) (vp_Sl (fun r => r = mf_Nb_combined i o a b)) 0 0 (fun _ => False) := by
  refine Met.ofW (cc := prog_1_method_13_code) (maxL := 6) (ret := some .long) (by decide) rfl ?_
  intro p e s m args below meth c s₁ B hml hv
  obtain ⟨rfl, hC⟩ := hv
  have hx := B.exec
  have hb := B.bytes
  have hr := B.returns
  have hts := atoms_spec (ws := w_Nb_combined) B.pre
  have hown : s.vm.findClass "NumberBench" = some m.cls := findClass_of_methodNamed B.named
  have hlocks := B.notSynchronized
  have hC : nb_C ad (fun _ => False) s s.heap := hC
  have hS : va_S (fun _ => False) s.heap s.heap [] := va_S.rf
  have hl := lv_entry ([.ref (ad i), .int o, .long a, .long b]) (n := 6) (Nat.le_of_ble_eq_true rfl)
  rw [lg_entry_eq]
  generalize (lg_sl ([.ref (ad i), .int o, .long a, .long b]) ++ List.replicate (6 - (lg_sl ([.ref (ad i), .int o, .long a, .long b])).length) Slot.unset).toArray = ls at hl ⊢
  have hl : lv_has ls 6 [(0, .ref (ad i)), (1, .int o), (2, .long a), (4, .long b)] := hl
  refine lv_iload_n hx hb d_Nb_combined_0 rfl (lv_at hl 1 rfl) ?_
  by_cases h1 : o = (0 : Int32)
  · refine lv_tableIn (off := 31) (tgt := 32) hx hb d_Nb_combined_1 (by rw [h1]; decide) (by rw [h1]; decide) (by rw [h1]; decide) (by decide) ?_
    refine lv_aload_n hx hb d_Nb_combined_32 rfl (lv_at hl 0 rfl) ?_
    refine lv_lload_n hx hb d_Nb_combined_33 rfl (lv_at hl 2 rfl) ?_
    refine lv_lload hx hb d_Nb_combined_34 (lv_at hl 3 rfl) ?_
    refine nb_callVl (As := [.long a, .long b]) (rest := []) hx hb hml hown hts (c_Fo_plus l ad i a b h_i) nb_t53 nb_t54 nb_t55 h_i nb_t4 nb_t56 hd_Fo_plus rfl ⟨Nat.le_of_ble_eq_true rfl, Nat.le_of_ble_eq_true rfl⟩ ⟨rfl, rfl⟩ hC hS hl.1 rfl (Nat.le_of_ble_eq_true rfl) ⟨Nat.le_of_ble_eq_true rfl, Nat.le_of_ble_eq_true rfl⟩ d_Nb_combined_36 ?_
    exact W.lret hx hb hr (fun t ht hW => ⟨_, rfl, (by rw [mf_Nb_combined, if_pos h1]), ht⟩) t_nil d_Nb_combined_39
  by_cases h2 : o = (1 : Int32)
  · refine lv_tableIn (off := 39) (tgt := 40) hx hb d_Nb_combined_1 (by rw [h2]; decide) (by rw [h2]; decide) (by rw [h2]; decide) (by decide) ?_
    refine lv_aload_n hx hb d_Nb_combined_40 rfl (lv_at hl 0 rfl) ?_
    refine lv_lload_n hx hb d_Nb_combined_41 rfl (lv_at hl 2 rfl) ?_
    refine lv_lload hx hb d_Nb_combined_42 (lv_at hl 3 rfl) ?_
    refine nb_callVl (As := [.long a, .long b]) (rest := []) hx hb hml hown hts (c_Fo_minus l ad i a b h_i) nb_t101 nb_t102 nb_t103 h_i nb_t4 nb_t104 hd_Fo_minus rfl ⟨Nat.le_of_ble_eq_true rfl, Nat.le_of_ble_eq_true rfl⟩ ⟨rfl, rfl⟩ hC hS hl.1 rfl (Nat.le_of_ble_eq_true rfl) ⟨Nat.le_of_ble_eq_true rfl, Nat.le_of_ble_eq_true rfl⟩ d_Nb_combined_44 ?_
    exact W.lret hx hb hr (fun t ht hW => ⟨_, rfl, (by rw [mf_Nb_combined, if_neg h1, if_pos h2]), ht⟩) t_nil d_Nb_combined_47
  by_cases h3 : o = (2 : Int32)
  · refine lv_tableIn (off := 47) (tgt := 48) hx hb d_Nb_combined_1 (by rw [h3]; decide) (by rw [h3]; decide) (by rw [h3]; decide) (by decide) ?_
    refine lv_aload_n hx hb d_Nb_combined_48 rfl (lv_at hl 0 rfl) ?_
    refine lv_lload_n hx hb d_Nb_combined_49 rfl (lv_at hl 2 rfl) ?_
    refine lv_lload hx hb d_Nb_combined_50 (lv_at hl 3 rfl) ?_
    refine nb_callVl (As := [.long a, .long b]) (rest := []) hx hb hml hown hts (c_Fo_times l ad i a b h_i) nb_t111 nb_t112 nb_t113 h_i nb_t4 nb_t114 hd_Fo_times rfl ⟨Nat.le_of_ble_eq_true rfl, Nat.le_of_ble_eq_true rfl⟩ ⟨rfl, rfl⟩ hC hS hl.1 rfl (Nat.le_of_ble_eq_true rfl) ⟨Nat.le_of_ble_eq_true rfl, Nat.le_of_ble_eq_true rfl⟩ d_Nb_combined_52 ?_
    exact W.lret hx hb hr (fun t ht hW => ⟨_, rfl, (by rw [mf_Nb_combined, if_neg h1, if_neg h2, if_pos h3]), ht⟩) t_nil d_Nb_combined_55
  by_cases h4 : o = (3 : Int32)
  · refine lv_tableIn (off := 55) (tgt := 56) hx hb d_Nb_combined_1 (by rw [h4]; decide) (by rw [h4]; decide) (by rw [h4]; decide) (by decide) ?_
    refine lv_aload_n hx hb d_Nb_combined_56 rfl (lv_at hl 0 rfl) ?_
    refine lv_lload_n hx hb d_Nb_combined_57 rfl (lv_at hl 2 rfl) ?_
    refine lv_lload hx hb d_Nb_combined_58 (lv_at hl 3 rfl) ?_
    refine nb_callVl (As := [.long a, .long b]) (rest := []) hx hb hml hown hts (c_Fo_over l ad i a b h_i) nb_t130 nb_t131 nb_t132 h_i nb_t4 nb_t133 hd_Fo_over rfl ⟨Nat.le_of_ble_eq_true rfl, Nat.le_of_ble_eq_true rfl⟩ ⟨rfl, rfl⟩ hC hS hl.1 rfl (Nat.le_of_ble_eq_true rfl) ⟨Nat.le_of_ble_eq_true rfl, Nat.le_of_ble_eq_true rfl⟩ d_Nb_combined_60 ?_
    exact W.lret hx hb hr (fun t ht hW => ⟨_, rfl, (by rw [mf_Nb_combined, if_neg h1, if_neg h2, if_neg h3, if_pos h4]), ht⟩) t_nil d_Nb_combined_63
  refine lv_tableOut (tgt := 64) hx hb d_Nb_combined_1 (by have q0 := lv_neT (a := 0) h1 (by decide); have q1 := lv_neT (a := 1) h2 (by decide); have q2 := lv_neT (a := 2) h3 (by decide); have q3 := lv_neT (a := 3) h4 (by decide); omega) (by decide) ?_
  refine lv_aload_n hx hb d_Nb_combined_64 rfl (lv_at hl 0 rfl) ?_
  refine lv_lload_n hx hb d_Nb_combined_65 rfl (lv_at hl 2 rfl) ?_
  refine lv_lload hx hb d_Nb_combined_66 (lv_at hl 3 rfl) ?_
  refine nb_callVl (As := [.long a, .long b]) (rest := []) hx hb hml hown hts (c_Fo_remainder l ad i a b h_i) nb_t141 nb_t142 nb_t143 h_i nb_t4 nb_t144 hd_Fo_remainder rfl ⟨Nat.le_of_ble_eq_true rfl, Nat.le_of_ble_eq_true rfl⟩ ⟨rfl, rfl⟩ hC hS hl.1 rfl (Nat.le_of_ble_eq_true rfl) ⟨Nat.le_of_ble_eq_true rfl, Nat.le_of_ble_eq_true rfl⟩ d_Nb_combined_68 ?_
  exact W.lret hx hb hr (fun t ht hW => ⟨_, rfl, (by rw [mf_Nb_combined, if_neg h1, if_neg h2, if_neg h3, if_neg h4]), ht⟩) t_nil d_Nb_combined_71
def y_Nb_narrowed : MethodName := ⟨"NumberBench", "narrowed", "(J)J"⟩
abbrev w_Nb_narrowed : List Cond := Cond.code y_Nb_narrowed prog_1_method_14_code 2 (Option.some FieldType.long) :: nb_tb
theorem hd_Nb_narrowed : y_Nb_narrowed.cls ≠ "java/lang/invoke/MethodHandle" ∧ y_Nb_narrowed.cls ≠ "java/lang/invoke/VarHandle" ∧ (parseMethodDescriptor y_Nb_narrowed.desc).map (fun d => d.parameters.length) = some 1 := by decide +kernel
theorem d_Nb_narrowed_0 : decode prog_1_method_14_code 0 = .ok (.getstatic 34, 3) := by decide +kernel
theorem d_Nb_narrowed_3 : decode prog_1_method_14_code 3 = .ok (.getstatic 17, 3) := by decide +kernel
theorem d_Nb_narrowed_6 : decode prog_1_method_14_code 6 = .ok (.lload_n 0, 1) := by decide +kernel
theorem d_Nb_narrowed_7 : decode prog_1_method_14_code 7 = .ok (.invokevirtual 108, 3) := by decide +kernel
theorem d_Nb_narrowed_10 : decode prog_1_method_14_code 10 = .ok (.lreturn, 1) := by decide +kernel
set_option maxHeartbeats 1200000 in
set_option maxRecDepth 100000 in
theorem c_Nb_narrowed (l : Launch) (ad : Nat → Nat) (a : Int64)  : Met l y_Nb_narrowed w_Nb_narrowed ({ frames := 4, cells := 0, slots := 0, locals := 96 } : Room) (va_Pc [.long a] (nb_K ad)) (vp_Sl (fun r => r = mf_Nb_narrowed a)) 0 0 (fun _ => False) := by
  refine Met.ofW (cc := prog_1_method_14_code) (maxL := 2) (ret := some .long) (by decide) rfl ?_
  intro p e s m args below meth c s₁ B hml hv
  obtain ⟨rfl, hC⟩ := hv
  have hx := B.exec
  have hb := B.bytes
  have hr := B.returns
  have hts := atoms_spec (ws := w_Nb_narrowed) B.pre
  have hown : s.vm.findClass "NumberBench" = some m.cls := findClass_of_methodNamed B.named
  have hlocks := B.notSynchronized
  have hC : nb_C ad (fun _ => False) s s.heap := hC
  have hS : va_S (fun _ => False) s.heap s.heap [] := va_S.rf
  have hl := lv_entry ([.long a]) (n := 2) (Nat.le_of_ble_eq_true rfl)
  rw [lg_entry_eq]
  generalize (lg_sl ([.long a]) ++ List.replicate (2 - (lg_sl ([.long a])).length) Slot.unset).toArray = ls at hl ⊢
  have hl : lv_has ls 2 [(0, .long a)] := hl
  refine va_gets (v := .ref (ad 0)) hx hb (nb_Z0 hC) hS hown (hts _ (nb_c nb_t152)) (fun _ h => h) d_Nb_narrowed_0 ?_
  refine va_gets (v := .ref (ad 1)) hx hb (nb_Z1 hC) hS hown (hts _ (nb_c nb_t28)) (fun _ h => h) d_Nb_narrowed_3 ?_
  refine lv_lload_n hx hb d_Nb_narrowed_6 rfl (lv_at hl 0 rfl) ?_
  refine nb_callVl (As := [.ref (ad 1), .long a]) (rest := []) hx hb hml hown hts (c_Fo_nearestTo l ad 0 1 a (by decide) (by decide)) nb_t157 nb_t158 nb_t159 (by decide) nb_t4 nb_t160 hd_Fo_nearestTo rfl ⟨Nat.le_of_ble_eq_true rfl, Nat.le_of_ble_eq_true rfl⟩ ⟨rfl, rfl⟩ hC hS hl.1 rfl (Nat.le_of_ble_eq_true rfl) ⟨Nat.le_of_ble_eq_true rfl, Nat.le_of_ble_eq_true rfl⟩ d_Nb_narrowed_7 ?_
  exact W.lret hx hb hr (fun t ht hW => ⟨_, rfl, (by rw [mf_Nb_narrowed]), ht⟩) t_nil d_Nb_narrowed_10
def y_Nb_widened : MethodName := ⟨"NumberBench", "widened", "(J)J"⟩
abbrev w_Nb_widened : List Cond := Cond.code y_Nb_widened prog_1_method_15_code 2 (Option.some FieldType.long) :: nb_tb
theorem hd_Nb_widened : y_Nb_widened.cls ≠ "java/lang/invoke/MethodHandle" ∧ y_Nb_widened.cls ≠ "java/lang/invoke/VarHandle" ∧ (parseMethodDescriptor y_Nb_widened.desc).map (fun d => d.parameters.length) = some 1 := by decide +kernel
theorem d_Nb_widened_0 : decode prog_1_method_15_code 0 = .ok (.getstatic 17, 3) := by decide +kernel
theorem d_Nb_widened_3 : decode prog_1_method_15_code 3 = .ok (.getstatic 34, 3) := by decide +kernel
theorem d_Nb_widened_6 : decode prog_1_method_15_code 6 = .ok (.lload_n 0, 1) := by decide +kernel
theorem d_Nb_widened_7 : decode prog_1_method_15_code 7 = .ok (.invokevirtual 108, 3) := by decide +kernel
theorem d_Nb_widened_10 : decode prog_1_method_15_code 10 = .ok (.lreturn, 1) := by decide +kernel
set_option maxHeartbeats 1200000 in
set_option maxRecDepth 100000 in
theorem c_Nb_widened (l : Launch) (ad : Nat → Nat) (a : Int64)  : Met l y_Nb_widened w_Nb_widened ({ frames := 4, cells := 0, slots := 0, locals := 96 } : Room) (va_Pc [.long a] (nb_K ad)) (vp_Sl (fun r => r = mf_Nb_widened a)) 0 0 (fun _ => False) := by
  refine Met.ofW (cc := prog_1_method_15_code) (maxL := 2) (ret := some .long) (by decide) rfl ?_
  intro p e s m args below meth c s₁ B hml hv
  obtain ⟨rfl, hC⟩ := hv
  have hx := B.exec
  have hb := B.bytes
  have hr := B.returns
  have hts := atoms_spec (ws := w_Nb_widened) B.pre
  have hown : s.vm.findClass "NumberBench" = some m.cls := findClass_of_methodNamed B.named
  have hlocks := B.notSynchronized
  have hC : nb_C ad (fun _ => False) s s.heap := hC
  have hS : va_S (fun _ => False) s.heap s.heap [] := va_S.rf
  have hl := lv_entry ([.long a]) (n := 2) (Nat.le_of_ble_eq_true rfl)
  rw [lg_entry_eq]
  generalize (lg_sl ([.long a]) ++ List.replicate (2 - (lg_sl ([.long a])).length) Slot.unset).toArray = ls at hl ⊢
  have hl : lv_has ls 2 [(0, .long a)] := hl
  refine va_gets (v := .ref (ad 1)) hx hb (nb_Z1 hC) hS hown (hts _ (nb_c nb_t28)) (fun _ h => h) d_Nb_widened_0 ?_
  refine va_gets (v := .ref (ad 0)) hx hb (nb_Z0 hC) hS hown (hts _ (nb_c nb_t152)) (fun _ h => h) d_Nb_widened_3 ?_
  refine lv_lload_n hx hb d_Nb_widened_6 rfl (lv_at hl 0 rfl) ?_
  refine nb_callVl (As := [.ref (ad 0), .long a]) (rest := []) hx hb hml hown hts (c_Fo_nearestTo l ad 1 0 a (by decide) (by decide)) nb_t157 nb_t158 nb_t159 (by decide) nb_t4 nb_t160 hd_Fo_nearestTo rfl ⟨Nat.le_of_ble_eq_true rfl, Nat.le_of_ble_eq_true rfl⟩ ⟨rfl, rfl⟩ hC hS hl.1 rfl (Nat.le_of_ble_eq_true rfl) ⟨Nat.le_of_ble_eq_true rfl, Nat.le_of_ble_eq_true rfl⟩ d_Nb_widened_7 ?_
  exact W.lret hx hb hr (fun t ht hW => ⟨_, rfl, (by rw [mf_Nb_widened]), ht⟩) t_nil d_Nb_widened_10
def y_Nb_root : MethodName := ⟨"NumberBench", "root", "(J)J"⟩
abbrev w_Nb_root : List Cond := Cond.code y_Nb_root prog_1_method_16_code 5 (Option.some FieldType.long) :: nb_tb
theorem hd_Nb_root : y_Nb_root.cls ≠ "java/lang/invoke/MethodHandle" ∧ y_Nb_root.cls ≠ "java/lang/invoke/VarHandle" ∧ (parseMethodDescriptor y_Nb_root.desc).map (fun d => d.parameters.length) = some 1 := by decide +kernel
theorem d_Nb_root_0 : decode prog_1_method_16_code 0 = .ok (.lload_n 0, 1) := by decide +kernel
theorem d_Nb_root_1 : decode prog_1_method_16_code 1 = .ok (.lconst 0, 1) := by decide +kernel
theorem d_Nb_root_2 : decode prog_1_method_16_code 2 = .ok (.lcmp, 1) := by decide +kernel
theorem d_Nb_root_3 : decode prog_1_method_16_code 3 = .ok (.ifCond .le 14, 3) := by decide +kernel
theorem d_Nb_root_6 : decode prog_1_method_16_code 6 = .ok (.lload_n 0, 1) := by decide +kernel
theorem d_Nb_root_7 : decode prog_1_method_16_code 7 = .ok (.getstatic 17, 3) := by decide +kernel
theorem d_Nb_root_10 : decode prog_1_method_16_code 10 = .ok (.getfield 112, 3) := by decide +kernel
theorem d_Nb_root_13 : decode prog_1_method_16_code 13 = .ok (.lcmp, 1) := by decide +kernel
theorem d_Nb_root_14 : decode prog_1_method_16_code 14 = .ok (.ifCond .lt 5, 3) := by decide +kernel
theorem d_Nb_root_17 : decode prog_1_method_16_code 17 = .ok (.lload_n 0, 1) := by decide +kernel
theorem d_Nb_root_18 : decode prog_1_method_16_code 18 = .ok (.lreturn, 1) := by decide +kernel
theorem d_Nb_root_19 : decode prog_1_method_16_code 19 = .ok (.lload_n 0, 1) := by decide +kernel
theorem d_Nb_root_20 : decode prog_1_method_16_code 20 = .ok (.iconst 1, 1) := by decide +kernel
theorem d_Nb_root_21 : decode prog_1_method_16_code 21 = .ok (.lshr, 1) := by decide +kernel
theorem d_Nb_root_22 : decode prog_1_method_16_code 22 = .ok (.ldc2_w 116, 3) := by decide +kernel
theorem d_Nb_root_25 : decode prog_1_method_16_code 25 = .ok (.ladd, 1) := by decide +kernel
theorem d_Nb_root_26 : decode prog_1_method_16_code 26 = .ok (.lstore_n 2, 1) := by decide +kernel
theorem d_Nb_root_27 : decode prog_1_method_16_code 27 = .ok (.iconst 0, 1) := by decide +kernel
theorem d_Nb_root_28 : decode prog_1_method_16_code 28 = .ok (.istore 4, 2) := by decide +kernel
theorem d_Nb_root_30 : decode prog_1_method_16_code 30 = .ok (.iload 4, 2) := by decide +kernel
theorem d_Nb_root_32 : decode prog_1_method_16_code 32 = .ok (.iconst 5, 1) := by decide +kernel
theorem d_Nb_root_33 : decode prog_1_method_16_code 33 = .ok (.if_icmp .ge 34, 3) := by decide +kernel
theorem d_Nb_root_36 : decode prog_1_method_16_code 36 = .ok (.getstatic 17, 3) := by decide +kernel
theorem d_Nb_root_39 : decode prog_1_method_16_code 39 = .ok (.getstatic 17, 3) := by decide +kernel
theorem d_Nb_root_42 : decode prog_1_method_16_code 42 = .ok (.lload_n 2, 1) := by decide +kernel
theorem d_Nb_root_43 : decode prog_1_method_16_code 43 = .ok (.getstatic 17, 3) := by decide +kernel
theorem d_Nb_root_46 : decode prog_1_method_16_code 46 = .ok (.lload_n 0, 1) := by decide +kernel
theorem d_Nb_root_47 : decode prog_1_method_16_code 47 = .ok (.lload_n 2, 1) := by decide +kernel
theorem d_Nb_root_48 : decode prog_1_method_16_code 48 = .ok (.invokevirtual 102, 3) := by decide +kernel
theorem d_Nb_root_51 : decode prog_1_method_16_code 51 = .ok (.invokevirtual 65, 3) := by decide +kernel
theorem d_Nb_root_54 : decode prog_1_method_16_code 54 = .ok (.ldc2_w 40, 3) := by decide +kernel
theorem d_Nb_root_57 : decode prog_1_method_16_code 57 = .ok (.invokevirtual 102, 3) := by decide +kernel
theorem d_Nb_root_60 : decode prog_1_method_16_code 60 = .ok (.lstore_n 2, 1) := by decide +kernel
theorem d_Nb_root_61 : decode prog_1_method_16_code 61 = .ok (.iinc 4 1, 3) := by decide +kernel
theorem d_Nb_root_64 : decode prog_1_method_16_code 64 = .ok (.goto (-34), 3) := by decide +kernel
theorem d_Nb_root_67 : decode prog_1_method_16_code 67 = .ok (.lload_n 2, 1) := by decide +kernel
theorem d_Nb_root_68 : decode prog_1_method_16_code 68 = .ok (.lreturn, 1) := by decide +kernel
set_option maxHeartbeats 1200000 in
set_option maxRecDepth 100000 in
theorem c_Nb_root (l : Launch) (ad : Nat → Nat) (a : Int64)  : Met l y_Nb_root w_Nb_root ({ frames := 5, cells := 0, slots := 0, locals := 131 } : Room) (va_Pc [.long a] (nb_K ad)) (vp_Sl (fun r => r = mf_Nb_root a)) 0 0 (fun _ => False) := by
  refine Met.ofW (cc := prog_1_method_16_code) (maxL := 5) (ret := some .long) (by decide) rfl ?_
  intro p e s m args below meth c s₁ B hml hv
  obtain ⟨rfl, hC⟩ := hv
  have hx := B.exec
  have hb := B.bytes
  have hr := B.returns
  have hts := atoms_spec (ws := w_Nb_root) B.pre
  have hown : s.vm.findClass "NumberBench" = some m.cls := findClass_of_methodNamed B.named
  have hlocks := B.notSynchronized
  have hC : nb_C ad (fun _ => False) s s.heap := hC
  have hS : va_S (fun _ => False) s.heap s.heap [] := va_S.rf
  have hl := lv_entry ([.long a]) (n := 5) (Nat.le_of_ble_eq_true rfl)
  rw [lg_entry_eq]
  generalize (lg_sl ([.long a]) ++ List.replicate (5 - (lg_sl ([.long a])).length) Slot.unset).toArray = ls at hl ⊢
  have hl : lv_has ls 5 [(0, .long a)] := hl
  have b30 : ∀ (fuel : Nat) (x2 : Int64) (x4 : Int32) (ls : Array Slot), (((5 : Int32).toInt - x4.toInt).toNat) < fuel → lv_has ls 5 [(0, .long a), (2, .long x2), (4, .int x4)] → mf_Nb_root a = mf_Nb_root_b30 a fuel x2 x4 → W p l e (headSpec w_Nb_root ({ frames := 5, cells := 0, slots := 0, locals := 131 } : Room)).room s m ([.long a] : List Value).toArray below meth c s.heap [] 0 0 (MQ below (vp_Sl (fun r => r = mf_Nb_root a)) ([.long a] : List Value).toArray s 0 0 (fun _ => False)) (F0 m 30 ls []) := by
    intro fuel
    induction fuel with
    | zero => intro x2 x4 ls hf; exact absurd hf (Nat.not_lt_zero _)
    | succ fuel ih =>
      intro x2 x4 ls hf hl  hE
      refine lv_iload hx hb d_Nb_root_30 (lv_at hl 2 rfl) ?_
      refine lv_iconst (v := 5) hx hb d_Nb_root_32 (by decide) ?_
      refine lv_icmp_ge (tgt := 67) hx hb d_Nb_root_33 (by decide) (fun h4 => ?_) (fun h4 => ?_)
      · refine lv_lload_n hx hb d_Nb_root_67 rfl (lv_at hl 1 rfl) ?_
        exact W.lret hx hb hr (fun t ht hW => ⟨_, rfl, (by rw [hE, mf_Nb_root_b30, if_pos h4]), ht⟩) t_nil d_Nb_root_68
      · refine va_gets (v := .ref (ad 1)) hx hb (nb_Z1 hC) hS hown (hts _ (nb_c nb_t28)) (fun _ h => h) d_Nb_root_36 ?_
        refine va_gets (v := .ref (ad 1)) hx hb (nb_Z1 hC) hS hown (hts _ (nb_c nb_t28)) (fun _ h => h) d_Nb_root_39 ?_
        refine lv_lload_n hx hb d_Nb_root_42 rfl (lv_at hl 1 rfl) ?_
        refine va_gets (v := .ref (ad 1)) hx hb (nb_Z1 hC) hS hown (hts _ (nb_c nb_t28)) (fun _ h => h) d_Nb_root_43 ?_
        refine lv_lload_n hx hb d_Nb_root_46 rfl (lv_at hl 0 rfl) ?_
        refine lv_lload_n hx hb d_Nb_root_47 rfl (lv_at hl 1 rfl) ?_
        refine nb_callVl (As := [.long a, .long x2]) (rest := [.long x2, .ref (ad 1), .ref (ad 1)]) hx hb hml hown hts (c_Fo_over l ad 1 a x2 (by decide)) nb_t130 nb_t131 nb_t132 (by decide) nb_t4 nb_t133 hd_Fo_over rfl ⟨Nat.le_of_ble_eq_true rfl, Nat.le_of_ble_eq_true rfl⟩ ⟨rfl, rfl⟩ hC hS hl.1 rfl (Nat.le_of_ble_eq_true rfl) ⟨Nat.le_of_ble_eq_true rfl, Nat.le_of_ble_eq_true rfl⟩ d_Nb_root_48 ?_
        refine nb_callVl (As := [.long x2, .long (mf_Fo_over 1 a x2)]) (rest := [.ref (ad 1)]) hx hb hml hown hts (c_Fo_plus l ad 1 x2 (mf_Fo_over 1 a x2) (by decide)) nb_t53 nb_t54 nb_t55 (by decide) nb_t4 nb_t56 hd_Fo_plus rfl ⟨Nat.le_of_ble_eq_true rfl, Nat.le_of_ble_eq_true rfl⟩ ⟨rfl, rfl⟩ hC hS hl.1 rfl (Nat.le_of_ble_eq_true rfl) ⟨Nat.le_of_ble_eq_true rfl, Nat.le_of_ble_eq_true rfl⟩ d_Nb_root_51 ?_
        refine lv_ldc2 (v := (4611686018427387904 : Int64)) hx hb hown (hts (.constantLong "NumberBench" 40 (4611686018427387904 : Int64)) (nb_c nb_t168)) d_Nb_root_54 ?_
        refine nb_callVl (As := [.long (mf_Fo_plus 1 x2 (mf_Fo_over 1 a x2)), .long (4611686018427387904 : Int64)]) (rest := []) hx hb hml hown hts (c_Fo_over l ad 1 (mf_Fo_plus 1 x2 (mf_Fo_over 1 a x2)) (4611686018427387904 : Int64) (by decide)) nb_t130 nb_t131 nb_t132 (by decide) nb_t4 nb_t133 hd_Fo_over rfl ⟨Nat.le_of_ble_eq_true rfl, Nat.le_of_ble_eq_true rfl⟩ ⟨rfl, rfl⟩ hC hS hl.1 rfl (Nat.le_of_ble_eq_true rfl) ⟨Nat.le_of_ble_eq_true rfl, Nat.le_of_ble_eq_true rfl⟩ d_Nb_root_57 ?_
        refine lv_topl (fun v5 ev5 => ?_)
        refine lv_lstore_n hx hb d_Nb_root_60 rfl hl (by decide) rfl (fun ls hl => ?_)
        have hl : lv_has ls 5 [(2, .long v5), (0, .long a), (4, .int x4)] := hl
        refine lv_iinc (k := 2) (v := x4 + (1 : Int32)) hx hb d_Nb_root_61 hl rfl rfl (by decide) rfl (fun ls hl => ?_)
        have hl : lv_has ls 5 [(4, .int (x4 + (1 : Int32))), (2, .long v5), (0, .long a)] := hl
        refine lv_goto (tgt := 30) hx hb d_Nb_root_64 (by decide) ?_
        exact ih v5 (x4 + (1 : Int32)) ls (Nat.lt_of_lt_of_le (lp_up h4) (Nat.le_of_lt_succ hf)) (lv_sub hl [2, 1, 0] rfl)  (by subst ev5; rw [hE, mf_Nb_root_b30, if_neg h4])
  refine lv_lload_n hx hb d_Nb_root_0 rfl (lv_at hl 0 rfl) ?_
  refine lv_lconst (v := 0) hx hb d_Nb_root_1 (by decide) ?_
  refine nb_lc_le (tgt := 17) hx hb d_Nb_root_2 d_Nb_root_3 (by decide) (fun h1 => ?_) (fun h1 => ?_)
  · refine lv_lload_n hx hb d_Nb_root_17 rfl (lv_at hl 0 rfl) ?_
    exact W.lret hx hb hr (fun t ht hW => ⟨_, rfl, (by rw [mf_Nb_root, if_pos h1]), ht⟩) t_nil d_Nb_root_18
  · refine lv_lload_n hx hb d_Nb_root_6 rfl (lv_at hl 0 rfl) ?_
    refine va_gets (v := .ref (ad 1)) hx hb (nb_Z1 hC) hS hown (hts _ (nb_c nb_t28)) (fun _ h => h) d_Nb_root_7 ?_
    refine nb_getfN (v := .long (fo_inf 1)) hx hb (nb_f_inf hC (by decide)) hS hown (nb_N_inf hC) (fun _ h => h) d_Nb_root_10 ?_
    refine nb_lc_lt (tgt := 19) hx hb d_Nb_root_13 d_Nb_root_14 (by decide) (fun h2 => ?_) (fun h2 => ?_)
    · refine lv_lload_n hx hb d_Nb_root_19 rfl (lv_at hl 0 rfl) ?_
      refine lv_iconst (v := 1) hx hb d_Nb_root_20 (by decide) ?_
      refine lv_lshr hx hb d_Nb_root_21 rfl ?_
      refine lv_ldc2 (v := (2303591209400008704 : Int64)) hx hb hown (hts (.constantLong "NumberBench" 116 (2303591209400008704 : Int64)) (nb_c nb_t167)) d_Nb_root_22 ?_
      refine lv_ladd hx hb d_Nb_root_25 ?_
      refine lv_topl (fun v3 ev3 => ?_)
      refine lv_lstore_n hx hb d_Nb_root_26 rfl hl (by decide) rfl (fun ls hl => ?_)
      have hl : lv_has ls 5 [(2, .long v3), (0, .long a)] := hl
      refine lv_iconst (v := 0) hx hb d_Nb_root_27 (by decide) ?_
      refine lv_istore hx hb d_Nb_root_28 hl (by decide) rfl (fun ls hl => ?_)
      have hl : lv_has ls 5 [(4, .int (0 : Int32)), (2, .long v3), (0, .long a)] := hl
      exact b30 ((((5 : Int32).toInt - (0 : Int32).toInt).toNat) + 1) v3 (0 : Int32) ls (Nat.lt_succ_self _) (lv_sub hl [2, 1, 0] rfl)  (by subst ev3; rw [mf_Nb_root, if_neg h1, if_pos h2])
    · refine lv_lload_n hx hb d_Nb_root_17 rfl (lv_at hl 0 rfl) ?_
      exact W.lret hx hb hr (fun t ht hW => ⟨_, rfl, (by rw [mf_Nb_root, if_neg h1, if_neg h2]), ht⟩) t_nil d_Nb_root_18
def y_Nb_rank : MethodName := ⟨"NumberBench", "rank", "(J)J"⟩
abbrev w_Nb_rank : List Cond := Cond.code y_Nb_rank prog_1_method_19_code 2 (Option.some FieldType.long) :: nb_tb
theorem hd_Nb_rank : y_Nb_rank.cls ≠ "java/lang/invoke/MethodHandle" ∧ y_Nb_rank.cls ≠ "java/lang/invoke/VarHandle" ∧ (parseMethodDescriptor y_Nb_rank.desc).map (fun d => d.parameters.length) = some 1 := by decide +kernel
theorem d_Nb_rank_0 : decode prog_1_method_19_code 0 = .ok (.lload_n 0, 1) := by decide +kernel
theorem d_Nb_rank_1 : decode prog_1_method_19_code 1 = .ok (.lconst 0, 1) := by decide +kernel
theorem d_Nb_rank_2 : decode prog_1_method_19_code 2 = .ok (.lcmp, 1) := by decide +kernel
theorem d_Nb_rank_3 : decode prog_1_method_19_code 3 = .ok (.ifCond .ge 11, 3) := by decide +kernel
theorem d_Nb_rank_6 : decode prog_1_method_19_code 6 = .ok (.lload_n 0, 1) := by decide +kernel
theorem d_Nb_rank_7 : decode prog_1_method_19_code 7 = .ok (.ldc2_w 128, 3) := by decide +kernel
theorem d_Nb_rank_10 : decode prog_1_method_19_code 10 = .ok (.lxor, 1) := by decide +kernel
theorem d_Nb_rank_11 : decode prog_1_method_19_code 11 = .ok (.goto 4, 3) := by decide +kernel
theorem d_Nb_rank_14 : decode prog_1_method_19_code 14 = .ok (.lload_n 0, 1) := by decide +kernel
theorem d_Nb_rank_15 : decode prog_1_method_19_code 15 = .ok (.lreturn, 1) := by decide +kernel
set_option maxHeartbeats 1200000 in
set_option maxRecDepth 100000 in
theorem c_Nb_rank (l : Launch) (ad : Nat → Nat) (a : Int64)  : Met l y_Nb_rank w_Nb_rank ({ frames := 0, cells := 0, slots := 0, locals := 0 } : Room) (va_Pc [.long a] (nb_K ad)) (vp_Sl (fun r => r = mf_Nb_rank a)) 0 0 (fun _ => False) := by
  refine Met.ofW (cc := prog_1_method_19_code) (maxL := 2) (ret := some .long) (by decide) rfl ?_
  intro p e s m args below meth c s₁ B hml hv
  obtain ⟨rfl, hC⟩ := hv
  have hx := B.exec
  have hb := B.bytes
  have hr := B.returns
  have hts := atoms_spec (ws := w_Nb_rank) B.pre
  have hown : s.vm.findClass "NumberBench" = some m.cls := findClass_of_methodNamed B.named
  have hlocks := B.notSynchronized
  have hC : nb_C ad (fun _ => False) s s.heap := hC
  have hS : va_S (fun _ => False) s.heap s.heap [] := va_S.rf
  have hl := lv_entry ([.long a]) (n := 2) (Nat.le_of_ble_eq_true rfl)
  rw [lg_entry_eq]
  generalize (lg_sl ([.long a]) ++ List.replicate (2 - (lg_sl ([.long a])).length) Slot.unset).toArray = ls at hl ⊢
  have hl : lv_has ls 2 [(0, .long a)] := hl
  refine lv_lload_n hx hb d_Nb_rank_0 rfl (lv_at hl 0 rfl) ?_
  refine lv_lconst (v := 0) hx hb d_Nb_rank_1 (by decide) ?_
  refine nb_lc_ge (tgt := 14) hx hb d_Nb_rank_2 d_Nb_rank_3 (by decide) (fun h1 => ?_) (fun h1 => ?_)
  · refine lv_lload_n hx hb d_Nb_rank_14 rfl (lv_at hl 0 rfl) ?_
    exact W.lret hx hb hr (fun t ht hW => ⟨_, rfl, (by rw [mf_Nb_rank, if_pos h1]), ht⟩) t_nil d_Nb_rank_15
  · refine lv_lload_n hx hb d_Nb_rank_6 rfl (lv_at hl 0 rfl) ?_
    refine lv_ldc2 (v := (9223372036854775807 : Int64)) hx hb hown (hts (.constantLong "NumberBench" 128 (9223372036854775807 : Int64)) (nb_c nb_t177)) d_Nb_rank_7 ?_
    refine lv_lxor hx hb d_Nb_rank_10 ?_
    refine lv_goto (tgt := 15) hx hb d_Nb_rank_11 (by decide) ?_
    exact W.lret hx hb hr (fun t ht hW => ⟨_, rfl, (by rw [mf_Nb_rank, if_neg h1]), ht⟩) t_nil d_Nb_rank_15
def y_Nb_less : MethodName := ⟨"NumberBench", "less", "(JJ)J"⟩
abbrev w_Nb_less : List Cond := Cond.code y_Nb_less prog_1_method_17_code 4 (Option.some FieldType.long) :: nb_tb
theorem hd_Nb_less : y_Nb_less.cls ≠ "java/lang/invoke/MethodHandle" ∧ y_Nb_less.cls ≠ "java/lang/invoke/VarHandle" ∧ (parseMethodDescriptor y_Nb_less.desc).map (fun d => d.parameters.length) = some 2 := by decide +kernel
theorem d_Nb_less_0 : decode prog_1_method_17_code 0 = .ok (.getstatic 17, 3) := by decide +kernel
theorem d_Nb_less_3 : decode prog_1_method_17_code 3 = .ok (.lload_n 0, 1) := by decide +kernel
theorem d_Nb_less_4 : decode prog_1_method_17_code 4 = .ok (.invokevirtual 118, 3) := by decide +kernel
theorem d_Nb_less_7 : decode prog_1_method_17_code 7 = .ok (.ifCond .ne 13, 3) := by decide +kernel
theorem d_Nb_less_10 : decode prog_1_method_17_code 10 = .ok (.getstatic 17, 3) := by decide +kernel
theorem d_Nb_less_13 : decode prog_1_method_17_code 13 = .ok (.lload_n 2, 1) := by decide +kernel
theorem d_Nb_less_14 : decode prog_1_method_17_code 14 = .ok (.invokevirtual 118, 3) := by decide +kernel
theorem d_Nb_less_17 : decode prog_1_method_17_code 17 = .ok (.ifCond .eq 10, 3) := by decide +kernel
theorem d_Nb_less_20 : decode prog_1_method_17_code 20 = .ok (.getstatic 17, 3) := by decide +kernel
theorem d_Nb_less_23 : decode prog_1_method_17_code 23 = .ok (.getfield 122, 3) := by decide +kernel
theorem d_Nb_less_26 : decode prog_1_method_17_code 26 = .ok (.lreturn, 1) := by decide +kernel
theorem d_Nb_less_27 : decode prog_1_method_17_code 27 = .ok (.lload_n 0, 1) := by decide +kernel
theorem d_Nb_less_28 : decode prog_1_method_17_code 28 = .ok (.invokestatic 125, 3) := by decide +kernel
theorem d_Nb_less_31 : decode prog_1_method_17_code 31 = .ok (.lload_n 2, 1) := by decide +kernel
theorem d_Nb_less_32 : decode prog_1_method_17_code 32 = .ok (.invokestatic 125, 3) := by decide +kernel
theorem d_Nb_less_35 : decode prog_1_method_17_code 35 = .ok (.lcmp, 1) := by decide +kernel
theorem d_Nb_less_36 : decode prog_1_method_17_code 36 = .ok (.ifCond .ge 7, 3) := by decide +kernel
theorem d_Nb_less_39 : decode prog_1_method_17_code 39 = .ok (.lload_n 0, 1) := by decide +kernel
theorem d_Nb_less_40 : decode prog_1_method_17_code 40 = .ok (.goto 4, 3) := by decide +kernel
theorem d_Nb_less_43 : decode prog_1_method_17_code 43 = .ok (.lload_n 2, 1) := by decide +kernel
theorem d_Nb_less_44 : decode prog_1_method_17_code 44 = .ok (.lreturn, 1) := by decide +kernel
set_option maxHeartbeats 1200000 in
set_option maxRecDepth 100000 in
theorem c_Nb_less (l : Launch) (ad : Nat → Nat) (a : Int64) (b : Int64)  : Met l y_Nb_less w_Nb_less ({ frames := 2, cells := 0, slots := 0, locals := 44 } : Room) (va_Pc [.long a, .long b] (nb_K ad)) (vp_Sl (fun r => r = mf_Nb_less a b)) 0 0 (fun _ => False) := by
  refine Met.ofW (cc := prog_1_method_17_code) (maxL := 4) (ret := some .long) (by decide) rfl ?_
  intro p e s m args below meth c s₁ B hml hv
  obtain ⟨rfl, hC⟩ := hv
  have hx := B.exec
  have hb := B.bytes
  have hr := B.returns
  have hts := atoms_spec (ws := w_Nb_less) B.pre
  have hown : s.vm.findClass "NumberBench" = some m.cls := findClass_of_methodNamed B.named
  have hlocks := B.notSynchronized
  have hC : nb_C ad (fun _ => False) s s.heap := hC
  have hS : va_S (fun _ => False) s.heap s.heap [] := va_S.rf
  have hl := lv_entry ([.long a, .long b]) (n := 4) (Nat.le_of_ble_eq_true rfl)
  rw [lg_entry_eq]
  generalize (lg_sl ([.long a, .long b]) ++ List.replicate (4 - (lg_sl ([.long a, .long b])).length) Slot.unset).toArray = ls at hl ⊢
  have hl : lv_has ls 4 [(0, .long a), (2, .long b)] := hl
  refine va_gets (v := .ref (ad 1)) hx hb (nb_Z1 hC) hS hown (hts _ (nb_c nb_t28)) (fun _ h => h) d_Nb_less_0 ?_
  refine lv_lload_n hx hb d_Nb_less_3 rfl (lv_at hl 0 rfl) ?_
  refine nb_callVi (As := [.long a]) (rest := []) hx hb hml hown hts (c_Fo_isNoNumber l ad 1 a (by decide)) nb_t173 nb_t35 nb_t36 (by decide) nb_t4 nb_t37 hd_Fo_isNoNumber rfl ⟨Nat.le_of_ble_eq_true rfl, Nat.le_of_ble_eq_true rfl⟩ ⟨rfl, rfl⟩ hC hS hl.1 rfl (Nat.le_of_ble_eq_true rfl) ⟨Nat.le_of_ble_eq_true rfl, Nat.le_of_ble_eq_true rfl⟩ d_Nb_less_4 ?_
  refine lv_if_ne (tgt := 20) hx hb d_Nb_less_7 (by decide) (fun h1 => ?_) (fun h1 => ?_)
  · refine va_gets (v := .ref (ad 1)) hx hb (nb_Z1 hC) hS hown (hts _ (nb_c nb_t28)) (fun _ h => h) d_Nb_less_20 ?_
    refine nb_getfN (v := .long (fo_nan 1)) hx hb (nb_f_nan hC (by decide)) hS hown (nb_N_nan hC) (fun _ h => h) d_Nb_less_23 ?_
    exact W.lret hx hb hr (fun t ht hW => ⟨_, rfl, (by rw [mf_Nb_less, if_neg h1]), ht⟩) t_nil d_Nb_less_26
  · refine va_gets (v := .ref (ad 1)) hx hb (nb_Z1 hC) hS hown (hts _ (nb_c nb_t28)) (fun _ h => h) d_Nb_less_10 ?_
    refine lv_lload_n hx hb d_Nb_less_13 rfl (lv_at hl 1 rfl) ?_
    refine nb_callVi (As := [.long b]) (rest := []) hx hb hml hown hts (c_Fo_isNoNumber l ad 1 b (by decide)) nb_t173 nb_t35 nb_t36 (by decide) nb_t4 nb_t37 hd_Fo_isNoNumber rfl ⟨Nat.le_of_ble_eq_true rfl, Nat.le_of_ble_eq_true rfl⟩ ⟨rfl, rfl⟩ hC hS hl.1 rfl (Nat.le_of_ble_eq_true rfl) ⟨Nat.le_of_ble_eq_true rfl, Nat.le_of_ble_eq_true rfl⟩ d_Nb_less_14 ?_
    refine lv_if_eq (tgt := 27) hx hb d_Nb_less_17 (by decide) (fun h2 => ?_) (fun h2 => ?_)
    · refine lv_lload_n hx hb d_Nb_less_27 rfl (lv_at hl 0 rfl) ?_
      refine nb_callSl (As := [.long a]) (rest := []) hx hb hml hown hts (c_Nb_rank l ad a) nb_t174 nb_t175 nb_t1 nb_t176 hd_Nb_rank rfl ⟨Nat.le_of_ble_eq_true rfl, Nat.le_of_ble_eq_true rfl⟩ ⟨rfl, rfl⟩ hC hS hl.1 rfl (Nat.le_of_ble_eq_true rfl) ⟨Nat.le_of_ble_eq_true rfl, Nat.le_of_ble_eq_true rfl⟩ d_Nb_less_28 ?_
      refine lv_lload_n hx hb d_Nb_less_31 rfl (lv_at hl 1 rfl) ?_
      refine nb_callSl (As := [.long b]) (rest := [.long (mf_Nb_rank a)]) hx hb hml hown hts (c_Nb_rank l ad b) nb_t174 nb_t175 nb_t1 nb_t176 hd_Nb_rank rfl ⟨Nat.le_of_ble_eq_true rfl, Nat.le_of_ble_eq_true rfl⟩ ⟨rfl, rfl⟩ hC hS hl.1 rfl (Nat.le_of_ble_eq_true rfl) ⟨Nat.le_of_ble_eq_true rfl, Nat.le_of_ble_eq_true rfl⟩ d_Nb_less_32 ?_
      refine nb_lc_ge (tgt := 43) hx hb d_Nb_less_35 d_Nb_less_36 (by decide) (fun h3 => ?_) (fun h3 => ?_)
      · refine lv_lload_n hx hb d_Nb_less_43 rfl (lv_at hl 1 rfl) ?_
        exact W.lret hx hb hr (fun t ht hW => ⟨_, rfl, (by rw [mf_Nb_less, if_pos h1, if_pos h2, if_pos h3]), ht⟩) t_nil d_Nb_less_44
      · refine lv_lload_n hx hb d_Nb_less_39 rfl (lv_at hl 0 rfl) ?_
        refine lv_goto (tgt := 44) hx hb d_Nb_less_40 (by decide) ?_
        exact W.lret hx hb hr (fun t ht hW => ⟨_, rfl, (by rw [mf_Nb_less, if_pos h1, if_pos h2, if_neg h3]), ht⟩) t_nil d_Nb_less_44
    · refine va_gets (v := .ref (ad 1)) hx hb (nb_Z1 hC) hS hown (hts _ (nb_c nb_t28)) (fun _ h => h) d_Nb_less_20 ?_
      refine nb_getfN (v := .long (fo_nan 1)) hx hb (nb_f_nan hC (by decide)) hS hown (nb_N_nan hC) (fun _ h => h) d_Nb_less_23 ?_
      exact W.lret hx hb hr (fun t ht hW => ⟨_, rfl, (by rw [mf_Nb_less, if_pos h1, if_neg h2]), ht⟩) t_nil d_Nb_less_26
def y_Nb_greater : MethodName := ⟨"NumberBench", "greater", "(JJ)J"⟩
abbrev w_Nb_greater : List Cond := Cond.code y_Nb_greater prog_1_method_18_code 4 (Option.some FieldType.long) :: nb_tb
theorem hd_Nb_greater : y_Nb_greater.cls ≠ "java/lang/invoke/MethodHandle" ∧ y_Nb_greater.cls ≠ "java/lang/invoke/VarHandle" ∧ (parseMethodDescriptor y_Nb_greater.desc).map (fun d => d.parameters.length) = some 2 := by decide +kernel
theorem d_Nb_greater_0 : decode prog_1_method_18_code 0 = .ok (.getstatic 17, 3) := by decide +kernel
theorem d_Nb_greater_3 : decode prog_1_method_18_code 3 = .ok (.lload_n 0, 1) := by decide +kernel
theorem d_Nb_greater_4 : decode prog_1_method_18_code 4 = .ok (.invokevirtual 118, 3) := by decide +kernel
theorem d_Nb_greater_7 : decode prog_1_method_18_code 7 = .ok (.ifCond .ne 13, 3) := by decide +kernel
theorem d_Nb_greater_10 : decode prog_1_method_18_code 10 = .ok (.getstatic 17, 3) := by decide +kernel
theorem d_Nb_greater_13 : decode prog_1_method_18_code 13 = .ok (.lload_n 2, 1) := by decide +kernel
theorem d_Nb_greater_14 : decode prog_1_method_18_code 14 = .ok (.invokevirtual 118, 3) := by decide +kernel
theorem d_Nb_greater_17 : decode prog_1_method_18_code 17 = .ok (.ifCond .eq 10, 3) := by decide +kernel
theorem d_Nb_greater_20 : decode prog_1_method_18_code 20 = .ok (.getstatic 17, 3) := by decide +kernel
theorem d_Nb_greater_23 : decode prog_1_method_18_code 23 = .ok (.getfield 122, 3) := by decide +kernel
theorem d_Nb_greater_26 : decode prog_1_method_18_code 26 = .ok (.lreturn, 1) := by decide +kernel
theorem d_Nb_greater_27 : decode prog_1_method_18_code 27 = .ok (.lload_n 0, 1) := by decide +kernel
theorem d_Nb_greater_28 : decode prog_1_method_18_code 28 = .ok (.invokestatic 125, 3) := by decide +kernel
theorem d_Nb_greater_31 : decode prog_1_method_18_code 31 = .ok (.lload_n 2, 1) := by decide +kernel
theorem d_Nb_greater_32 : decode prog_1_method_18_code 32 = .ok (.invokestatic 125, 3) := by decide +kernel
theorem d_Nb_greater_35 : decode prog_1_method_18_code 35 = .ok (.lcmp, 1) := by decide +kernel
theorem d_Nb_greater_36 : decode prog_1_method_18_code 36 = .ok (.ifCond .le 7, 3) := by decide +kernel
theorem d_Nb_greater_39 : decode prog_1_method_18_code 39 = .ok (.lload_n 0, 1) := by decide +kernel
theorem d_Nb_greater_40 : decode prog_1_method_18_code 40 = .ok (.goto 4, 3) := by decide +kernel
theorem d_Nb_greater_43 : decode prog_1_method_18_code 43 = .ok (.lload_n 2, 1) := by decide +kernel
theorem d_Nb_greater_44 : decode prog_1_method_18_code 44 = .ok (.lreturn, 1) := by decide +kernel
set_option maxHeartbeats 1200000 in
set_option maxRecDepth 100000 in
theorem c_Nb_greater (l : Launch) (ad : Nat → Nat) (a : Int64) (b : Int64)  : Met l y_Nb_greater w_Nb_greater ({ frames := 2, cells := 0, slots := 0, locals := 44 } : Room) (va_Pc [.long a, .long b] (nb_K ad)) (vp_Sl (fun r => r = mf_Nb_greater a b)) 0 0 (fun _ => False) := by
  refine Met.ofW (cc := prog_1_method_18_code) (maxL := 4) (ret := some .long) (by decide) rfl ?_
  intro p e s m args below meth c s₁ B hml hv
  obtain ⟨rfl, hC⟩ := hv
  have hx := B.exec
  have hb := B.bytes
  have hr := B.returns
  have hts := atoms_spec (ws := w_Nb_greater) B.pre
  have hown : s.vm.findClass "NumberBench" = some m.cls := findClass_of_methodNamed B.named
  have hlocks := B.notSynchronized
  have hC : nb_C ad (fun _ => False) s s.heap := hC
  have hS : va_S (fun _ => False) s.heap s.heap [] := va_S.rf
  have hl := lv_entry ([.long a, .long b]) (n := 4) (Nat.le_of_ble_eq_true rfl)
  rw [lg_entry_eq]
  generalize (lg_sl ([.long a, .long b]) ++ List.replicate (4 - (lg_sl ([.long a, .long b])).length) Slot.unset).toArray = ls at hl ⊢
  have hl : lv_has ls 4 [(0, .long a), (2, .long b)] := hl
  refine va_gets (v := .ref (ad 1)) hx hb (nb_Z1 hC) hS hown (hts _ (nb_c nb_t28)) (fun _ h => h) d_Nb_greater_0 ?_
  refine lv_lload_n hx hb d_Nb_greater_3 rfl (lv_at hl 0 rfl) ?_
  refine nb_callVi (As := [.long a]) (rest := []) hx hb hml hown hts (c_Fo_isNoNumber l ad 1 a (by decide)) nb_t173 nb_t35 nb_t36 (by decide) nb_t4 nb_t37 hd_Fo_isNoNumber rfl ⟨Nat.le_of_ble_eq_true rfl, Nat.le_of_ble_eq_true rfl⟩ ⟨rfl, rfl⟩ hC hS hl.1 rfl (Nat.le_of_ble_eq_true rfl) ⟨Nat.le_of_ble_eq_true rfl, Nat.le_of_ble_eq_true rfl⟩ d_Nb_greater_4 ?_
  refine lv_if_ne (tgt := 20) hx hb d_Nb_greater_7 (by decide) (fun h1 => ?_) (fun h1 => ?_)
  · refine va_gets (v := .ref (ad 1)) hx hb (nb_Z1 hC) hS hown (hts _ (nb_c nb_t28)) (fun _ h => h) d_Nb_greater_20 ?_
    refine nb_getfN (v := .long (fo_nan 1)) hx hb (nb_f_nan hC (by decide)) hS hown (nb_N_nan hC) (fun _ h => h) d_Nb_greater_23 ?_
    exact W.lret hx hb hr (fun t ht hW => ⟨_, rfl, (by rw [mf_Nb_greater, if_neg h1]), ht⟩) t_nil d_Nb_greater_26
  · refine va_gets (v := .ref (ad 1)) hx hb (nb_Z1 hC) hS hown (hts _ (nb_c nb_t28)) (fun _ h => h) d_Nb_greater_10 ?_
    refine lv_lload_n hx hb d_Nb_greater_13 rfl (lv_at hl 1 rfl) ?_
    refine nb_callVi (As := [.long b]) (rest := []) hx hb hml hown hts (c_Fo_isNoNumber l ad 1 b (by decide)) nb_t173 nb_t35 nb_t36 (by decide) nb_t4 nb_t37 hd_Fo_isNoNumber rfl ⟨Nat.le_of_ble_eq_true rfl, Nat.le_of_ble_eq_true rfl⟩ ⟨rfl, rfl⟩ hC hS hl.1 rfl (Nat.le_of_ble_eq_true rfl) ⟨Nat.le_of_ble_eq_true rfl, Nat.le_of_ble_eq_true rfl⟩ d_Nb_greater_14 ?_
    refine lv_if_eq (tgt := 27) hx hb d_Nb_greater_17 (by decide) (fun h2 => ?_) (fun h2 => ?_)
    · refine lv_lload_n hx hb d_Nb_greater_27 rfl (lv_at hl 0 rfl) ?_
      refine nb_callSl (As := [.long a]) (rest := []) hx hb hml hown hts (c_Nb_rank l ad a) nb_t174 nb_t175 nb_t1 nb_t176 hd_Nb_rank rfl ⟨Nat.le_of_ble_eq_true rfl, Nat.le_of_ble_eq_true rfl⟩ ⟨rfl, rfl⟩ hC hS hl.1 rfl (Nat.le_of_ble_eq_true rfl) ⟨Nat.le_of_ble_eq_true rfl, Nat.le_of_ble_eq_true rfl⟩ d_Nb_greater_28 ?_
      refine lv_lload_n hx hb d_Nb_greater_31 rfl (lv_at hl 1 rfl) ?_
      refine nb_callSl (As := [.long b]) (rest := [.long (mf_Nb_rank a)]) hx hb hml hown hts (c_Nb_rank l ad b) nb_t174 nb_t175 nb_t1 nb_t176 hd_Nb_rank rfl ⟨Nat.le_of_ble_eq_true rfl, Nat.le_of_ble_eq_true rfl⟩ ⟨rfl, rfl⟩ hC hS hl.1 rfl (Nat.le_of_ble_eq_true rfl) ⟨Nat.le_of_ble_eq_true rfl, Nat.le_of_ble_eq_true rfl⟩ d_Nb_greater_32 ?_
      refine nb_lc_le (tgt := 43) hx hb d_Nb_greater_35 d_Nb_greater_36 (by decide) (fun h3 => ?_) (fun h3 => ?_)
      · refine lv_lload_n hx hb d_Nb_greater_43 rfl (lv_at hl 1 rfl) ?_
        exact W.lret hx hb hr (fun t ht hW => ⟨_, rfl, (by rw [mf_Nb_greater, if_pos h1, if_pos h2, if_pos h3]), ht⟩) t_nil d_Nb_greater_44
      · refine lv_lload_n hx hb d_Nb_greater_39 rfl (lv_at hl 0 rfl) ?_
        refine lv_goto (tgt := 44) hx hb d_Nb_greater_40 (by decide) ?_
        exact W.lret hx hb hr (fun t ht hW => ⟨_, rfl, (by rw [mf_Nb_greater, if_pos h1, if_pos h2, if_neg h3]), ht⟩) t_nil d_Nb_greater_44
    · refine va_gets (v := .ref (ad 1)) hx hb (nb_Z1 hC) hS hown (hts _ (nb_c nb_t28)) (fun _ h => h) d_Nb_greater_20 ?_
      refine nb_getfN (v := .long (fo_nan 1)) hx hb (nb_f_nan hC (by decide)) hS hown (nb_N_nan hC) (fun _ h => h) d_Nb_greater_23 ?_
      exact W.lret hx hb hr (fun t ht hW => ⟨_, rfl, (by rw [mf_Nb_greater, if_pos h1, if_neg h2]), ht⟩) t_nil d_Nb_greater_26
def y_Nb_relations : MethodName := ⟨"NumberBench", "relations", "(JJ)I"⟩
abbrev w_Nb_relations : List Cond := Cond.code y_Nb_relations prog_1_method_20_code 5 (Option.some FieldType.int) :: nb_tb
theorem hd_Nb_relations : y_Nb_relations.cls ≠ "java/lang/invoke/MethodHandle" ∧ y_Nb_relations.cls ≠ "java/lang/invoke/VarHandle" ∧ (parseMethodDescriptor y_Nb_relations.desc).map (fun d => d.parameters.length) = some 2 := by decide +kernel
theorem d_Nb_relations_0 : decode prog_1_method_20_code 0 = .ok (.getstatic 17, 3) := by decide +kernel
theorem d_Nb_relations_3 : decode prog_1_method_20_code 3 = .ok (.lload_n 0, 1) := by decide +kernel
theorem d_Nb_relations_4 : decode prog_1_method_20_code 4 = .ok (.invokevirtual 118, 3) := by decide +kernel
theorem d_Nb_relations_7 : decode prog_1_method_20_code 7 = .ok (.ifCond .ne 13, 3) := by decide +kernel
theorem d_Nb_relations_10 : decode prog_1_method_20_code 10 = .ok (.getstatic 17, 3) := by decide +kernel
theorem d_Nb_relations_13 : decode prog_1_method_20_code 13 = .ok (.lload_n 2, 1) := by decide +kernel
theorem d_Nb_relations_14 : decode prog_1_method_20_code 14 = .ok (.invokevirtual 118, 3) := by decide +kernel
theorem d_Nb_relations_17 : decode prog_1_method_20_code 17 = .ok (.ifCond .eq 6, 3) := by decide +kernel
theorem d_Nb_relations_20 : decode prog_1_method_20_code 20 = .ok (.bipush 8, 2) := by decide +kernel
theorem d_Nb_relations_22 : decode prog_1_method_20_code 22 = .ok (.ireturn, 1) := by decide +kernel
theorem d_Nb_relations_23 : decode prog_1_method_20_code 23 = .ok (.getstatic 17, 3) := by decide +kernel
theorem d_Nb_relations_26 : decode prog_1_method_20_code 26 = .ok (.lload_n 0, 1) := by decide +kernel
theorem d_Nb_relations_27 : decode prog_1_method_20_code 27 = .ok (.invokevirtual 130, 3) := by decide +kernel
theorem d_Nb_relations_30 : decode prog_1_method_20_code 30 = .ok (.ifCond .eq 17, 3) := by decide +kernel
theorem d_Nb_relations_33 : decode prog_1_method_20_code 33 = .ok (.getstatic 17, 3) := by decide +kernel
theorem d_Nb_relations_36 : decode prog_1_method_20_code 36 = .ok (.lload_n 2, 1) := by decide +kernel
theorem d_Nb_relations_37 : decode prog_1_method_20_code 37 = .ok (.invokevirtual 130, 3) := by decide +kernel
theorem d_Nb_relations_40 : decode prog_1_method_20_code 40 = .ok (.ifCond .eq 7, 3) := by decide +kernel
theorem d_Nb_relations_43 : decode prog_1_method_20_code 43 = .ok (.iconst 1, 1) := by decide +kernel
theorem d_Nb_relations_44 : decode prog_1_method_20_code 44 = .ok (.goto 4, 3) := by decide +kernel
theorem d_Nb_relations_47 : decode prog_1_method_20_code 47 = .ok (.iconst 0, 1) := by decide +kernel
theorem d_Nb_relations_48 : decode prog_1_method_20_code 48 = .ok (.istore 4, 2) := by decide +kernel
theorem d_Nb_relations_50 : decode prog_1_method_20_code 50 = .ok (.lload_n 0, 1) := by decide +kernel
theorem d_Nb_relations_51 : decode prog_1_method_20_code 51 = .ok (.lload_n 2, 1) := by decide +kernel
theorem d_Nb_relations_52 : decode prog_1_method_20_code 52 = .ok (.lcmp, 1) := by decide +kernel
theorem d_Nb_relations_53 : decode prog_1_method_20_code 53 = .ok (.ifCond .eq 8, 3) := by decide +kernel
theorem d_Nb_relations_56 : decode prog_1_method_20_code 56 = .ok (.iload 4, 2) := by decide +kernel
theorem d_Nb_relations_58 : decode prog_1_method_20_code 58 = .ok (.ifCond .eq 6, 3) := by decide +kernel
theorem d_Nb_relations_61 : decode prog_1_method_20_code 61 = .ok (.bipush 22, 2) := by decide +kernel
theorem d_Nb_relations_63 : decode prog_1_method_20_code 63 = .ok (.ireturn, 1) := by decide +kernel
theorem d_Nb_relations_64 : decode prog_1_method_20_code 64 = .ok (.lload_n 0, 1) := by decide +kernel
theorem d_Nb_relations_65 : decode prog_1_method_20_code 65 = .ok (.invokestatic 125, 3) := by decide +kernel
theorem d_Nb_relations_68 : decode prog_1_method_20_code 68 = .ok (.lload_n 2, 1) := by decide +kernel
theorem d_Nb_relations_69 : decode prog_1_method_20_code 69 = .ok (.invokestatic 125, 3) := by decide +kernel
theorem d_Nb_relations_72 : decode prog_1_method_20_code 72 = .ok (.lcmp, 1) := by decide +kernel
theorem d_Nb_relations_73 : decode prog_1_method_20_code 73 = .ok (.ifCond .ge 8, 3) := by decide +kernel
theorem d_Nb_relations_76 : decode prog_1_method_20_code 76 = .ok (.bipush 11, 2) := by decide +kernel
theorem d_Nb_relations_78 : decode prog_1_method_20_code 78 = .ok (.goto 5, 3) := by decide +kernel
theorem d_Nb_relations_81 : decode prog_1_method_20_code 81 = .ok (.bipush 56, 2) := by decide +kernel
theorem d_Nb_relations_83 : decode prog_1_method_20_code 83 = .ok (.ireturn, 1) := by decide +kernel
set_option maxHeartbeats 1200000 in
set_option maxRecDepth 100000 in
theorem c_Nb_relations (l : Launch) (ad : Nat → Nat) (a : Int64) (b : Int64)  : Met l y_Nb_relations w_Nb_relations ({ frames := 2, cells := 0, slots := 0, locals := 44 } : Room) (va_Pc [.long a, .long b] (nb_K ad)) (vp_Si (fun r => r = mf_Nb_relations a b)) 0 0 (fun _ => False) := by
  refine Met.ofW (cc := prog_1_method_20_code) (maxL := 5) (ret := some .int) (by decide) rfl ?_
  intro p e s m args below meth c s₁ B hml hv
  obtain ⟨rfl, hC⟩ := hv
  have hx := B.exec
  have hb := B.bytes
  have hr := B.returns
  have hts := atoms_spec (ws := w_Nb_relations) B.pre
  have hown : s.vm.findClass "NumberBench" = some m.cls := findClass_of_methodNamed B.named
  have hlocks := B.notSynchronized
  have hC : nb_C ad (fun _ => False) s s.heap := hC
  have hS : va_S (fun _ => False) s.heap s.heap [] := va_S.rf
  have hl := lv_entry ([.long a, .long b]) (n := 5) (Nat.le_of_ble_eq_true rfl)
  rw [lg_entry_eq]
  generalize (lg_sl ([.long a, .long b]) ++ List.replicate (5 - (lg_sl ([.long a, .long b])).length) Slot.unset).toArray = ls at hl ⊢
  have hl : lv_has ls 5 [(0, .long a), (2, .long b)] := hl
  have b48 : ∀ (k0 : Int32) (ls : Array Slot), lv_has ls 5 [(0, .long a), (2, .long b)] → mf_Nb_relations a b = mf_Nb_relations_b48 a b k0 → W p l e (headSpec w_Nb_relations ({ frames := 2, cells := 0, slots := 0, locals := 44 } : Room)).room s m ([.long a, .long b] : List Value).toArray below meth c s.heap [] 0 0 (MQ below (vp_Si (fun r => r = mf_Nb_relations a b)) ([.long a, .long b] : List Value).toArray s 0 0 (fun _ => False)) (F0 m 48 ls [.int k0]) := by
    intro k0 ls hl  hE
    refine lv_istore hx hb d_Nb_relations_48 hl (by decide) rfl (fun ls hl => ?_)
    have hl : lv_has ls 5 [(4, .int k0), (0, .long a), (2, .long b)] := hl
    refine lv_lload_n hx hb d_Nb_relations_50 rfl (lv_at hl 1 rfl) ?_
    refine lv_lload_n hx hb d_Nb_relations_51 rfl (lv_at hl 2 rfl) ?_
    refine nb_lc_eq (tgt := 61) hx hb d_Nb_relations_52 d_Nb_relations_53 (by decide) (fun h5 => ?_) (fun h5 => ?_)
    · refine lv_bipush (v := 22) hx hb d_Nb_relations_61 (by decide) ?_
      exact W.iret hx hb hr (fun t ht hW => ⟨_, rfl, (by rw [hE, mf_Nb_relations_b48, if_pos h5]), ht⟩) t_nil d_Nb_relations_63
    · refine lv_iload hx hb d_Nb_relations_56 (lv_at hl 0 rfl) ?_
      refine lv_if_eq (tgt := 64) hx hb d_Nb_relations_58 (by decide) (fun h6 => ?_) (fun h6 => ?_)
      · refine lv_lload_n hx hb d_Nb_relations_64 rfl (lv_at hl 1 rfl) ?_
        refine nb_callSl (As := [.long a]) (rest := []) hx hb hml hown hts (c_Nb_rank l ad a) nb_t174 nb_t175 nb_t1 nb_t176 hd_Nb_rank rfl ⟨Nat.le_of_ble_eq_true rfl, Nat.le_of_ble_eq_true rfl⟩ ⟨rfl, rfl⟩ hC hS hl.1 rfl (Nat.le_of_ble_eq_true rfl) ⟨Nat.le_of_ble_eq_true rfl, Nat.le_of_ble_eq_true rfl⟩ d_Nb_relations_65 ?_
        refine lv_lload_n hx hb d_Nb_relations_68 rfl (lv_at hl 2 rfl) ?_
        refine nb_callSl (As := [.long b]) (rest := [.long (mf_Nb_rank a)]) hx hb hml hown hts (c_Nb_rank l ad b) nb_t174 nb_t175 nb_t1 nb_t176 hd_Nb_rank rfl ⟨Nat.le_of_ble_eq_true rfl, Nat.le_of_ble_eq_true rfl⟩ ⟨rfl, rfl⟩ hC hS hl.1 rfl (Nat.le_of_ble_eq_true rfl) ⟨Nat.le_of_ble_eq_true rfl, Nat.le_of_ble_eq_true rfl⟩ d_Nb_relations_69 ?_
        refine nb_lc_ge (tgt := 81) hx hb d_Nb_relations_72 d_Nb_relations_73 (by decide) (fun h7 => ?_) (fun h7 => ?_)
        · refine lv_bipush (v := 56) hx hb d_Nb_relations_81 (by decide) ?_
          exact W.iret hx hb hr (fun t ht hW => ⟨_, rfl, (by rw [hE, mf_Nb_relations_b48, if_neg h5, if_pos h6, if_pos h7]), ht⟩) t_nil d_Nb_relations_83
        · refine lv_bipush (v := 11) hx hb d_Nb_relations_76 (by decide) ?_
          refine lv_goto (tgt := 83) hx hb d_Nb_relations_78 (by decide) ?_
          exact W.iret hx hb hr (fun t ht hW => ⟨_, rfl, (by rw [hE, mf_Nb_relations_b48, if_neg h5, if_pos h6, if_neg h7]), ht⟩) t_nil d_Nb_relations_83
      · refine lv_bipush (v := 22) hx hb d_Nb_relations_61 (by decide) ?_
        exact W.iret hx hb hr (fun t ht hW => ⟨_, rfl, (by rw [hE, mf_Nb_relations_b48, if_neg h5, if_neg h6]), ht⟩) t_nil d_Nb_relations_63
  have b47 : ∀  (ls : Array Slot), lv_has ls 5 [(0, .long a), (2, .long b)] → mf_Nb_relations a b = mf_Nb_relations_b47 a b  → W p l e (headSpec w_Nb_relations ({ frames := 2, cells := 0, slots := 0, locals := 44 } : Room)).room s m ([.long a, .long b] : List Value).toArray below meth c s.heap [] 0 0 (MQ below (vp_Si (fun r => r = mf_Nb_relations a b)) ([.long a, .long b] : List Value).toArray s 0 0 (fun _ => False)) (F0 m 47 ls []) := by
    intro  ls hl  hE
    refine lv_iconst (v := 0) hx hb d_Nb_relations_47 (by decide) ?_
    exact b48 (0 : Int32) ls (lv_sub hl [0, 1] rfl)  (by rw [hE, mf_Nb_relations_b47])
  refine va_gets (v := .ref (ad 1)) hx hb (nb_Z1 hC) hS hown (hts _ (nb_c nb_t28)) (fun _ h => h) d_Nb_relations_0 ?_
  refine lv_lload_n hx hb d_Nb_relations_3 rfl (lv_at hl 0 rfl) ?_
  refine nb_callVi (As := [.long a]) (rest := []) hx hb hml hown hts (c_Fo_isNoNumber l ad 1 a (by decide)) nb_t173 nb_t35 nb_t36 (by decide) nb_t4 nb_t37 hd_Fo_isNoNumber rfl ⟨Nat.le_of_ble_eq_true rfl, Nat.le_of_ble_eq_true rfl⟩ ⟨rfl, rfl⟩ hC hS hl.1 rfl (Nat.le_of_ble_eq_true rfl) ⟨Nat.le_of_ble_eq_true rfl, Nat.le_of_ble_eq_true rfl⟩ d_Nb_relations_4 ?_
  refine lv_if_ne (tgt := 20) hx hb d_Nb_relations_7 (by decide) (fun h1 => ?_) (fun h1 => ?_)
  · refine lv_bipush (v := 8) hx hb d_Nb_relations_20 (by decide) ?_
    exact W.iret hx hb hr (fun t ht hW => ⟨_, rfl, (by rw [mf_Nb_relations, if_neg h1]), ht⟩) t_nil d_Nb_relations_22
  · refine va_gets (v := .ref (ad 1)) hx hb (nb_Z1 hC) hS hown (hts _ (nb_c nb_t28)) (fun _ h => h) d_Nb_relations_10 ?_
    refine lv_lload_n hx hb d_Nb_relations_13 rfl (lv_at hl 1 rfl) ?_
    refine nb_callVi (As := [.long b]) (rest := []) hx hb hml hown hts (c_Fo_isNoNumber l ad 1 b (by decide)) nb_t173 nb_t35 nb_t36 (by decide) nb_t4 nb_t37 hd_Fo_isNoNumber rfl ⟨Nat.le_of_ble_eq_true rfl, Nat.le_of_ble_eq_true rfl⟩ ⟨rfl, rfl⟩ hC hS hl.1 rfl (Nat.le_of_ble_eq_true rfl) ⟨Nat.le_of_ble_eq_true rfl, Nat.le_of_ble_eq_true rfl⟩ d_Nb_relations_14 ?_
    refine lv_if_eq (tgt := 23) hx hb d_Nb_relations_17 (by decide) (fun h2 => ?_) (fun h2 => ?_)
    · refine va_gets (v := .ref (ad 1)) hx hb (nb_Z1 hC) hS hown (hts _ (nb_c nb_t28)) (fun _ h => h) d_Nb_relations_23 ?_
      refine lv_lload_n hx hb d_Nb_relations_26 rfl (lv_at hl 0 rfl) ?_
      refine nb_callVi (As := [.long a]) (rest := []) hx hb hml hown hts (c_Fo_isZero l ad 1 a (by decide)) nb_t217 nb_t116 nb_t117 (by decide) nb_t4 nb_t118 hd_Fo_isZero rfl ⟨Nat.le_of_ble_eq_true rfl, Nat.le_of_ble_eq_true rfl⟩ ⟨rfl, rfl⟩ hC hS hl.1 rfl (Nat.le_of_ble_eq_true rfl) ⟨Nat.le_of_ble_eq_true rfl, Nat.le_of_ble_eq_true rfl⟩ d_Nb_relations_27 ?_
      refine lv_if_eq (tgt := 47) hx hb d_Nb_relations_30 (by decide) (fun h3 => ?_) (fun h3 => ?_)
      · exact b47  ls (lv_sub hl [0, 1] rfl)  (by rw [mf_Nb_relations, if_pos h1, if_pos h2, if_pos h3])
      · refine va_gets (v := .ref (ad 1)) hx hb (nb_Z1 hC) hS hown (hts _ (nb_c nb_t28)) (fun _ h => h) d_Nb_relations_33 ?_
        refine lv_lload_n hx hb d_Nb_relations_36 rfl (lv_at hl 1 rfl) ?_
        refine nb_callVi (As := [.long b]) (rest := []) hx hb hml hown hts (c_Fo_isZero l ad 1 b (by decide)) nb_t217 nb_t116 nb_t117 (by decide) nb_t4 nb_t118 hd_Fo_isZero rfl ⟨Nat.le_of_ble_eq_true rfl, Nat.le_of_ble_eq_true rfl⟩ ⟨rfl, rfl⟩ hC hS hl.1 rfl (Nat.le_of_ble_eq_true rfl) ⟨Nat.le_of_ble_eq_true rfl, Nat.le_of_ble_eq_true rfl⟩ d_Nb_relations_37 ?_
        refine lv_if_eq (tgt := 47) hx hb d_Nb_relations_40 (by decide) (fun h4 => ?_) (fun h4 => ?_)
        · exact b47  ls (lv_sub hl [0, 1] rfl)  (by rw [mf_Nb_relations, if_pos h1, if_pos h2, if_neg h3, if_pos h4])
        · refine lv_iconst (v := 1) hx hb d_Nb_relations_43 (by decide) ?_
          refine lv_goto (tgt := 48) hx hb d_Nb_relations_44 (by decide) ?_
          exact b48 (1 : Int32) ls (lv_sub hl [0, 1] rfl)  (by rw [mf_Nb_relations, if_pos h1, if_pos h2, if_neg h3, if_neg h4])
    · refine lv_bipush (v := 8) hx hb d_Nb_relations_20 (by decide) ?_
      exact W.iret hx hb hr (fun t ht hW => ⟨_, rfl, (by rw [mf_Nb_relations, if_pos h1, if_neg h2]), ht⟩) t_nil d_Nb_relations_22
def y_Nb_reckoned : MethodName := ⟨"NumberBench", "reckoned", "(IJJ)J"⟩
abbrev w_Nb_reckoned : List Cond := Cond.code y_Nb_reckoned prog_1_method_12_code 5 (Option.some FieldType.long) :: nb_tb
theorem hd_Nb_reckoned : y_Nb_reckoned.cls ≠ "java/lang/invoke/MethodHandle" ∧ y_Nb_reckoned.cls ≠ "java/lang/invoke/VarHandle" ∧ (parseMethodDescriptor y_Nb_reckoned.desc).map (fun d => d.parameters.length) = some 3 := by decide +kernel
theorem d_Nb_reckoned_0 : decode prog_1_method_12_code 0 = .ok (.iload_n 0, 1) := by decide +kernel
theorem d_Nb_reckoned_1 : decode prog_1_method_12_code 1 = .ok (.iconst 4, 1) := by decide +kernel
theorem d_Nb_reckoned_2 : decode prog_1_method_12_code 2 = .ok (.if_icmp .gt 13, 3) := by decide +kernel
theorem d_Nb_reckoned_5 : decode prog_1_method_12_code 5 = .ok (.getstatic 17, 3) := by decide +kernel
theorem d_Nb_reckoned_8 : decode prog_1_method_12_code 8 = .ok (.iload_n 0, 1) := by decide +kernel
theorem d_Nb_reckoned_9 : decode prog_1_method_12_code 9 = .ok (.lload_n 1, 1) := by decide +kernel
theorem d_Nb_reckoned_10 : decode prog_1_method_12_code 10 = .ok (.lload_n 3, 1) := by decide +kernel
theorem d_Nb_reckoned_11 : decode prog_1_method_12_code 11 = .ok (.invokestatic 83, 3) := by decide +kernel
theorem d_Nb_reckoned_14 : decode prog_1_method_12_code 14 = .ok (.lreturn, 1) := by decide +kernel
theorem d_Nb_reckoned_15 : decode prog_1_method_12_code 15 = .ok (.iload_n 0, 1) := by decide +kernel
theorem d_Nb_reckoned_16 : decode prog_1_method_12_code 16 = .ok (.bipush 8, 2) := by decide +kernel
theorem d_Nb_reckoned_18 : decode prog_1_method_12_code 18 = .ok (.if_icmp .lt 31, 3) := by decide +kernel
theorem d_Nb_reckoned_21 : decode prog_1_method_12_code 21 = .ok (.iload_n 0, 1) := by decide +kernel
theorem d_Nb_reckoned_22 : decode prog_1_method_12_code 22 = .ok (.bipush 12, 2) := by decide +kernel
theorem d_Nb_reckoned_24 : decode prog_1_method_12_code 24 = .ok (.if_icmp .gt 25, 3) := by decide +kernel
theorem d_Nb_reckoned_27 : decode prog_1_method_12_code 27 = .ok (.getstatic 34, 3) := by decide +kernel
theorem d_Nb_reckoned_30 : decode prog_1_method_12_code 30 = .ok (.iload_n 0, 1) := by decide +kernel
theorem d_Nb_reckoned_31 : decode prog_1_method_12_code 31 = .ok (.bipush 8, 2) := by decide +kernel
theorem d_Nb_reckoned_33 : decode prog_1_method_12_code 33 = .ok (.isub, 1) := by decide +kernel
theorem d_Nb_reckoned_34 : decode prog_1_method_12_code 34 = .ok (.lload_n 1, 1) := by decide +kernel
theorem d_Nb_reckoned_35 : decode prog_1_method_12_code 35 = .ok (.invokestatic 68, 3) := by decide +kernel
theorem d_Nb_reckoned_38 : decode prog_1_method_12_code 38 = .ok (.lload_n 3, 1) := by decide +kernel
theorem d_Nb_reckoned_39 : decode prog_1_method_12_code 39 = .ok (.invokestatic 68, 3) := by decide +kernel
theorem d_Nb_reckoned_42 : decode prog_1_method_12_code 42 = .ok (.invokestatic 83, 3) := by decide +kernel
theorem d_Nb_reckoned_45 : decode prog_1_method_12_code 45 = .ok (.invokestatic 37, 3) := by decide +kernel
theorem d_Nb_reckoned_48 : decode prog_1_method_12_code 48 = .ok (.lreturn, 1) := by decide +kernel
theorem d_Nb_reckoned_49 : decode prog_1_method_12_code 49 = .ok (.iload_n 0, 1) := by decide +kernel
theorem d_Nb_reckoned_50 : decode prog_1_method_12_code 50 = .ok (.tableswitch 77 5 13 #[50, 55, 63, 77, 77, 77, 77, 77, 71], 50) := by decide +kernel
theorem d_Nb_reckoned_100 : decode prog_1_method_12_code 100 = .ok (.lload_n 1, 1) := by decide +kernel
theorem d_Nb_reckoned_101 : decode prog_1_method_12_code 101 = .ok (.invokestatic 87, 3) := by decide +kernel
theorem d_Nb_reckoned_104 : decode prog_1_method_12_code 104 = .ok (.lreturn, 1) := by decide +kernel
theorem d_Nb_reckoned_105 : decode prog_1_method_12_code 105 = .ok (.getstatic 17, 3) := by decide +kernel
theorem d_Nb_reckoned_108 : decode prog_1_method_12_code 108 = .ok (.lload_n 1, 1) := by decide +kernel
theorem d_Nb_reckoned_109 : decode prog_1_method_12_code 109 = .ok (.invokevirtual 90, 3) := by decide +kernel
theorem d_Nb_reckoned_112 : decode prog_1_method_12_code 112 = .ok (.lreturn, 1) := by decide +kernel
theorem d_Nb_reckoned_113 : decode prog_1_method_12_code 113 = .ok (.lload_n 1, 1) := by decide +kernel
theorem d_Nb_reckoned_114 : decode prog_1_method_12_code 114 = .ok (.invokestatic 68, 3) := by decide +kernel
theorem d_Nb_reckoned_117 : decode prog_1_method_12_code 117 = .ok (.invokestatic 37, 3) := by decide +kernel
theorem d_Nb_reckoned_120 : decode prog_1_method_12_code 120 = .ok (.lreturn, 1) := by decide +kernel
theorem d_Nb_reckoned_121 : decode prog_1_method_12_code 121 = .ok (.lload_n 1, 1) := by decide +kernel
theorem d_Nb_reckoned_122 : decode prog_1_method_12_code 122 = .ok (.lload_n 3, 1) := by decide +kernel
theorem d_Nb_reckoned_123 : decode prog_1_method_12_code 123 = .ok (.invokestatic 93, 3) := by decide +kernel
theorem d_Nb_reckoned_126 : decode prog_1_method_12_code 126 = .ok (.lreturn, 1) := by decide +kernel
theorem d_Nb_reckoned_127 : decode prog_1_method_12_code 127 = .ok (.lload_n 1, 1) := by decide +kernel
theorem d_Nb_reckoned_128 : decode prog_1_method_12_code 128 = .ok (.lload_n 3, 1) := by decide +kernel
theorem d_Nb_reckoned_129 : decode prog_1_method_12_code 129 = .ok (.invokestatic 96, 3) := by decide +kernel
theorem d_Nb_reckoned_132 : decode prog_1_method_12_code 132 = .ok (.lreturn, 1) := by decide +kernel
set_option maxHeartbeats 1200000 in
set_option maxRecDepth 100000 in
theorem c_Nb_reckoned (l : Launch) (ad : Nat → Nat) (o : Int32) (a : Int64) (b : Int64)  : Met l y_Nb_reckoned w_Nb_reckoned ({ frames := 7, cells := 0, slots := 0, locals := 175 } : Room) (va_Pc [.int o, .long a, .long b] (nb_K ad)) (vp_Sl (fun r => r = mf_Nb_reckoned o a b)) 0 0 (fun _ => False) := by
  refine Met.ofW (cc := prog_1_method_12_code) (maxL := 5) (ret := some .long) (by decide) rfl ?_
  intro p e s m args below meth c s₁ B hml hv
  obtain ⟨rfl, hC⟩ := hv
  have hx := B.exec
  have hb := B.bytes
  have hr := B.returns
  have hts := atoms_spec (ws := w_Nb_reckoned) B.pre
  have hown : s.vm.findClass "NumberBench" = some m.cls := findClass_of_methodNamed B.named
  have hlocks := B.notSynchronized
  have hC : nb_C ad (fun _ => False) s s.heap := hC
  have hS : va_S (fun _ => False) s.heap s.heap [] := va_S.rf
  have hl := lv_entry ([.int o, .long a, .long b]) (n := 5) (Nat.le_of_ble_eq_true rfl)
  rw [lg_entry_eq]
  generalize (lg_sl ([.int o, .long a, .long b]) ++ List.replicate (5 - (lg_sl ([.int o, .long a, .long b])).length) Slot.unset).toArray = ls at hl ⊢
  have hl : lv_has ls 5 [(0, .int o), (1, .long a), (3, .long b)] := hl
  have b49 : ∀  (ls : Array Slot), lv_has ls 5 [(0, .int o), (1, .long a), (3, .long b)] → mf_Nb_reckoned o a b = mf_Nb_reckoned_b49 o a b  → W p l e (headSpec w_Nb_reckoned ({ frames := 7, cells := 0, slots := 0, locals := 175 } : Room)).room s m ([.int o, .long a, .long b] : List Value).toArray below meth c s.heap [] 0 0 (MQ below (vp_Sl (fun r => r = mf_Nb_reckoned o a b)) ([.int o, .long a, .long b] : List Value).toArray s 0 0 (fun _ => False)) (F0 m 49 ls []) := by
    intro  ls hl  hE
    refine lv_iload_n hx hb d_Nb_reckoned_49 rfl (lv_at hl 0 rfl) ?_
    by_cases h4 : o = (5 : Int32)
    · refine lv_tableIn (off := 50) (tgt := 100) hx hb d_Nb_reckoned_50 (by rw [h4]; decide) (by rw [h4]; decide) (by rw [h4]; decide) (by decide) ?_
      refine lv_lload_n hx hb d_Nb_reckoned_100 rfl (lv_at hl 1 rfl) ?_
      refine nb_callSl (As := [.long a]) (rest := []) hx hb hml hown hts (c_Nb_root l ad a) nb_t164 nb_t165 nb_t1 nb_t166 hd_Nb_root rfl ⟨Nat.le_of_ble_eq_true rfl, Nat.le_of_ble_eq_true rfl⟩ ⟨rfl, rfl⟩ hC hS hl.1 rfl (Nat.le_of_ble_eq_true rfl) ⟨Nat.le_of_ble_eq_true rfl, Nat.le_of_ble_eq_true rfl⟩ d_Nb_reckoned_101 ?_
      exact W.lret hx hb hr (fun t ht hW => ⟨_, rfl, (by rw [hE, mf_Nb_reckoned_b49, if_pos h4]), ht⟩) t_nil d_Nb_reckoned_104
    by_cases h5 : o = (6 : Int32)
    · refine lv_tableIn (off := 55) (tgt := 105) hx hb d_Nb_reckoned_50 (by rw [h5]; decide) (by rw [h5]; decide) (by rw [h5]; decide) (by decide) ?_
      refine va_gets (v := .ref (ad 1)) hx hb (nb_Z1 hC) hS hown (hts _ (nb_c nb_t28)) (fun _ h => h) d_Nb_reckoned_105 ?_
      refine lv_lload_n hx hb d_Nb_reckoned_108 rfl (lv_at hl 1 rfl) ?_
      refine nb_callVl (As := [.long a]) (rest := []) hx hb hml hown hts (c_Fo_negated l ad 1 a (by decide)) nb_t169 nb_t106 nb_t107 (by decide) nb_t4 nb_t108 hd_Fo_negated rfl ⟨Nat.le_of_ble_eq_true rfl, Nat.le_of_ble_eq_true rfl⟩ ⟨rfl, rfl⟩ hC hS hl.1 rfl (Nat.le_of_ble_eq_true rfl) ⟨Nat.le_of_ble_eq_true rfl, Nat.le_of_ble_eq_true rfl⟩ d_Nb_reckoned_109 ?_
      exact W.lret hx hb hr (fun t ht hW => ⟨_, rfl, (by rw [hE, mf_Nb_reckoned_b49, if_neg h4, if_pos h5]), ht⟩) t_nil d_Nb_reckoned_112
    by_cases h6 : o = (7 : Int32)
    · refine lv_tableIn (off := 63) (tgt := 113) hx hb d_Nb_reckoned_50 (by rw [h6]; decide) (by rw [h6]; decide) (by rw [h6]; decide) (by decide) ?_
      refine lv_lload_n hx hb d_Nb_reckoned_113 rfl (lv_at hl 1 rfl) ?_
      refine nb_callSl (As := [.long a]) (rest := []) hx hb hml hown hts (c_Nb_narrowed l ad a) nb_t154 nb_t155 nb_t1 nb_t156 hd_Nb_narrowed rfl ⟨Nat.le_of_ble_eq_true rfl, Nat.le_of_ble_eq_true rfl⟩ ⟨rfl, rfl⟩ hC hS hl.1 rfl (Nat.le_of_ble_eq_true rfl) ⟨Nat.le_of_ble_eq_true rfl, Nat.le_of_ble_eq_true rfl⟩ d_Nb_reckoned_114 ?_
      refine nb_callSl (As := [.long (mf_Nb_narrowed a)]) (rest := []) hx hb hml hown hts (c_Nb_widened l ad (mf_Nb_narrowed a)) nb_t161 nb_t162 nb_t1 nb_t163 hd_Nb_widened rfl ⟨Nat.le_of_ble_eq_true rfl, Nat.le_of_ble_eq_true rfl⟩ ⟨rfl, rfl⟩ hC hS hl.1 rfl (Nat.le_of_ble_eq_true rfl) ⟨Nat.le_of_ble_eq_true rfl, Nat.le_of_ble_eq_true rfl⟩ d_Nb_reckoned_117 ?_
      exact W.lret hx hb hr (fun t ht hW => ⟨_, rfl, (by rw [hE, mf_Nb_reckoned_b49, if_neg h4, if_neg h5, if_pos h6]), ht⟩) t_nil d_Nb_reckoned_120
    by_cases h7 : o = (8 : Int32)
    · refine lv_tableIn (off := 77) (tgt := 127) hx hb d_Nb_reckoned_50 (by rw [h7]; decide) (by rw [h7]; decide) (by rw [h7]; decide) (by decide) ?_
      refine lv_lload_n hx hb d_Nb_reckoned_127 rfl (lv_at hl 1 rfl) ?_
      refine lv_lload_n hx hb d_Nb_reckoned_128 rfl (lv_at hl 2 rfl) ?_
      refine nb_callSl (As := [.long a, .long b]) (rest := []) hx hb hml hown hts (c_Nb_greater l ad a b) nb_t178 nb_t179 nb_t1 nb_t180 hd_Nb_greater rfl ⟨Nat.le_of_ble_eq_true rfl, Nat.le_of_ble_eq_true rfl⟩ ⟨rfl, rfl⟩ hC hS hl.1 rfl (Nat.le_of_ble_eq_true rfl) ⟨Nat.le_of_ble_eq_true rfl, Nat.le_of_ble_eq_true rfl⟩ d_Nb_reckoned_129 ?_
      exact W.lret hx hb hr (fun t ht hW => ⟨_, rfl, (by rw [hE, mf_Nb_reckoned_b49, if_neg h4, if_neg h5, if_neg h6, if_pos h7]), ht⟩) t_nil d_Nb_reckoned_132
    by_cases h8 : o = (9 : Int32)
    · refine lv_tableIn (off := 77) (tgt := 127) hx hb d_Nb_reckoned_50 (by rw [h8]; decide) (by rw [h8]; decide) (by rw [h8]; decide) (by decide) ?_
      refine lv_lload_n hx hb d_Nb_reckoned_127 rfl (lv_at hl 1 rfl) ?_
      refine lv_lload_n hx hb d_Nb_reckoned_128 rfl (lv_at hl 2 rfl) ?_
      refine nb_callSl (As := [.long a, .long b]) (rest := []) hx hb hml hown hts (c_Nb_greater l ad a b) nb_t178 nb_t179 nb_t1 nb_t180 hd_Nb_greater rfl ⟨Nat.le_of_ble_eq_true rfl, Nat.le_of_ble_eq_true rfl⟩ ⟨rfl, rfl⟩ hC hS hl.1 rfl (Nat.le_of_ble_eq_true rfl) ⟨Nat.le_of_ble_eq_true rfl, Nat.le_of_ble_eq_true rfl⟩ d_Nb_reckoned_129 ?_
      exact W.lret hx hb hr (fun t ht hW => ⟨_, rfl, (by rw [hE, mf_Nb_reckoned_b49, if_neg h4, if_neg h5, if_neg h6, if_neg h7, if_pos h8]), ht⟩) t_nil d_Nb_reckoned_132
    by_cases h9 : o = (10 : Int32)
    · refine lv_tableIn (off := 77) (tgt := 127) hx hb d_Nb_reckoned_50 (by rw [h9]; decide) (by rw [h9]; decide) (by rw [h9]; decide) (by decide) ?_
      refine lv_lload_n hx hb d_Nb_reckoned_127 rfl (lv_at hl 1 rfl) ?_
      refine lv_lload_n hx hb d_Nb_reckoned_128 rfl (lv_at hl 2 rfl) ?_
      refine nb_callSl (As := [.long a, .long b]) (rest := []) hx hb hml hown hts (c_Nb_greater l ad a b) nb_t178 nb_t179 nb_t1 nb_t180 hd_Nb_greater rfl ⟨Nat.le_of_ble_eq_true rfl, Nat.le_of_ble_eq_true rfl⟩ ⟨rfl, rfl⟩ hC hS hl.1 rfl (Nat.le_of_ble_eq_true rfl) ⟨Nat.le_of_ble_eq_true rfl, Nat.le_of_ble_eq_true rfl⟩ d_Nb_reckoned_129 ?_
      exact W.lret hx hb hr (fun t ht hW => ⟨_, rfl, (by rw [hE, mf_Nb_reckoned_b49, if_neg h4, if_neg h5, if_neg h6, if_neg h7, if_neg h8, if_pos h9]), ht⟩) t_nil d_Nb_reckoned_132
    by_cases h10 : o = (11 : Int32)
    · refine lv_tableIn (off := 77) (tgt := 127) hx hb d_Nb_reckoned_50 (by rw [h10]; decide) (by rw [h10]; decide) (by rw [h10]; decide) (by decide) ?_
      refine lv_lload_n hx hb d_Nb_reckoned_127 rfl (lv_at hl 1 rfl) ?_
      refine lv_lload_n hx hb d_Nb_reckoned_128 rfl (lv_at hl 2 rfl) ?_
      refine nb_callSl (As := [.long a, .long b]) (rest := []) hx hb hml hown hts (c_Nb_greater l ad a b) nb_t178 nb_t179 nb_t1 nb_t180 hd_Nb_greater rfl ⟨Nat.le_of_ble_eq_true rfl, Nat.le_of_ble_eq_true rfl⟩ ⟨rfl, rfl⟩ hC hS hl.1 rfl (Nat.le_of_ble_eq_true rfl) ⟨Nat.le_of_ble_eq_true rfl, Nat.le_of_ble_eq_true rfl⟩ d_Nb_reckoned_129 ?_
      exact W.lret hx hb hr (fun t ht hW => ⟨_, rfl, (by rw [hE, mf_Nb_reckoned_b49, if_neg h4, if_neg h5, if_neg h6, if_neg h7, if_neg h8, if_neg h9, if_pos h10]), ht⟩) t_nil d_Nb_reckoned_132
    by_cases h11 : o = (12 : Int32)
    · refine lv_tableIn (off := 77) (tgt := 127) hx hb d_Nb_reckoned_50 (by rw [h11]; decide) (by rw [h11]; decide) (by rw [h11]; decide) (by decide) ?_
      refine lv_lload_n hx hb d_Nb_reckoned_127 rfl (lv_at hl 1 rfl) ?_
      refine lv_lload_n hx hb d_Nb_reckoned_128 rfl (lv_at hl 2 rfl) ?_
      refine nb_callSl (As := [.long a, .long b]) (rest := []) hx hb hml hown hts (c_Nb_greater l ad a b) nb_t178 nb_t179 nb_t1 nb_t180 hd_Nb_greater rfl ⟨Nat.le_of_ble_eq_true rfl, Nat.le_of_ble_eq_true rfl⟩ ⟨rfl, rfl⟩ hC hS hl.1 rfl (Nat.le_of_ble_eq_true rfl) ⟨Nat.le_of_ble_eq_true rfl, Nat.le_of_ble_eq_true rfl⟩ d_Nb_reckoned_129 ?_
      exact W.lret hx hb hr (fun t ht hW => ⟨_, rfl, (by rw [hE, mf_Nb_reckoned_b49, if_neg h4, if_neg h5, if_neg h6, if_neg h7, if_neg h8, if_neg h9, if_neg h10, if_pos h11]), ht⟩) t_nil d_Nb_reckoned_132
    by_cases h12 : o = (13 : Int32)
    · refine lv_tableIn (off := 71) (tgt := 121) hx hb d_Nb_reckoned_50 (by rw [h12]; decide) (by rw [h12]; decide) (by rw [h12]; decide) (by decide) ?_
      refine lv_lload_n hx hb d_Nb_reckoned_121 rfl (lv_at hl 1 rfl) ?_
      refine lv_lload_n hx hb d_Nb_reckoned_122 rfl (lv_at hl 2 rfl) ?_
      refine nb_callSl (As := [.long a, .long b]) (rest := []) hx hb hml hown hts (c_Nb_less l ad a b) nb_t170 nb_t171 nb_t1 nb_t172 hd_Nb_less rfl ⟨Nat.le_of_ble_eq_true rfl, Nat.le_of_ble_eq_true rfl⟩ ⟨rfl, rfl⟩ hC hS hl.1 rfl (Nat.le_of_ble_eq_true rfl) ⟨Nat.le_of_ble_eq_true rfl, Nat.le_of_ble_eq_true rfl⟩ d_Nb_reckoned_123 ?_
      exact W.lret hx hb hr (fun t ht hW => ⟨_, rfl, (by rw [hE, mf_Nb_reckoned_b49, if_neg h4, if_neg h5, if_neg h6, if_neg h7, if_neg h8, if_neg h9, if_neg h10, if_neg h11, if_pos h12]), ht⟩) t_nil d_Nb_reckoned_126
    refine lv_tableOut (tgt := 127) hx hb d_Nb_reckoned_50 (by have q0 := lv_neT (a := 5) h4 (by decide); have q1 := lv_neT (a := 6) h5 (by decide); have q2 := lv_neT (a := 7) h6 (by decide); have q3 := lv_neT (a := 8) h7 (by decide); have q4 := lv_neT (a := 9) h8 (by decide); have q5 := lv_neT (a := 10) h9 (by decide); have q6 := lv_neT (a := 11) h10 (by decide); have q7 := lv_neT (a := 12) h11 (by decide); have q8 := lv_neT (a := 13) h12 (by decide); omega) (by decide) ?_
    refine lv_lload_n hx hb d_Nb_reckoned_127 rfl (lv_at hl 1 rfl) ?_
    refine lv_lload_n hx hb d_Nb_reckoned_128 rfl (lv_at hl 2 rfl) ?_
    refine nb_callSl (As := [.long a, .long b]) (rest := []) hx hb hml hown hts (c_Nb_greater l ad a b) nb_t178 nb_t179 nb_t1 nb_t180 hd_Nb_greater rfl ⟨Nat.le_of_ble_eq_true rfl, Nat.le_of_ble_eq_true rfl⟩ ⟨rfl, rfl⟩ hC hS hl.1 rfl (Nat.le_of_ble_eq_true rfl) ⟨Nat.le_of_ble_eq_true rfl, Nat.le_of_ble_eq_true rfl⟩ d_Nb_reckoned_129 ?_
    exact W.lret hx hb hr (fun t ht hW => ⟨_, rfl, (by rw [hE, mf_Nb_reckoned_b49, if_neg h4, if_neg h5, if_neg h6, if_neg h7, if_neg h8, if_neg h9, if_neg h10, if_neg h11, if_neg h12]), ht⟩) t_nil d_Nb_reckoned_132
  refine lv_iload_n hx hb d_Nb_reckoned_0 rfl (lv_at hl 0 rfl) ?_
  refine lv_iconst (v := 4) hx hb d_Nb_reckoned_1 (by decide) ?_
  refine lv_icmp_gt (tgt := 15) hx hb d_Nb_reckoned_2 (by decide) (fun h1 => ?_) (fun h1 => ?_)
  · refine lv_iload_n hx hb d_Nb_reckoned_15 rfl (lv_at hl 0 rfl) ?_
    refine lv_bipush (v := 8) hx hb d_Nb_reckoned_16 (by decide) ?_
    refine lv_icmp_lt (tgt := 49) hx hb d_Nb_reckoned_18 (by decide) (fun h2 => ?_) (fun h2 => ?_)
    · exact b49  ls (lv_sub hl [0, 1, 2] rfl)  (by rw [mf_Nb_reckoned, if_pos h1, if_pos h2])
    · refine lv_iload_n hx hb d_Nb_reckoned_21 rfl (lv_at hl 0 rfl) ?_
      refine lv_bipush (v := 12) hx hb d_Nb_reckoned_22 (by decide) ?_
      refine lv_icmp_gt (tgt := 49) hx hb d_Nb_reckoned_24 (by decide) (fun h3 => ?_) (fun h3 => ?_)
      · exact b49  ls (lv_sub hl [0, 1, 2] rfl)  (by rw [mf_Nb_reckoned, if_pos h1, if_neg h2, if_pos h3])
      · refine va_gets (v := .ref (ad 0)) hx hb (nb_Z0 hC) hS hown (hts _ (nb_c nb_t152)) (fun _ h => h) d_Nb_reckoned_27 ?_
        refine lv_iload_n hx hb d_Nb_reckoned_30 rfl (lv_at hl 0 rfl) ?_
        refine lv_bipush (v := 8) hx hb d_Nb_reckoned_31 (by decide) ?_
        refine lv_isub hx hb d_Nb_reckoned_33 ?_
        refine lv_lload_n hx hb d_Nb_reckoned_34 rfl (lv_at hl 1 rfl) ?_
        refine nb_callSl (As := [.long a]) (rest := [.int (o - (8 : Int32)), .ref (ad 0)]) hx hb hml hown hts (c_Nb_narrowed l ad a) nb_t154 nb_t155 nb_t1 nb_t156 hd_Nb_narrowed rfl ⟨Nat.le_of_ble_eq_true rfl, Nat.le_of_ble_eq_true rfl⟩ ⟨rfl, rfl⟩ hC hS hl.1 rfl (Nat.le_of_ble_eq_true rfl) ⟨Nat.le_of_ble_eq_true rfl, Nat.le_of_ble_eq_true rfl⟩ d_Nb_reckoned_35 ?_
        refine lv_lload_n hx hb d_Nb_reckoned_38 rfl (lv_at hl 2 rfl) ?_
        refine nb_callSl (As := [.long b]) (rest := [.long (mf_Nb_narrowed a), .int (o - (8 : Int32)), .ref (ad 0)]) hx hb hml hown hts (c_Nb_narrowed l ad b) nb_t154 nb_t155 nb_t1 nb_t156 hd_Nb_narrowed rfl ⟨Nat.le_of_ble_eq_true rfl, Nat.le_of_ble_eq_true rfl⟩ ⟨rfl, rfl⟩ hC hS hl.1 rfl (Nat.le_of_ble_eq_true rfl) ⟨Nat.le_of_ble_eq_true rfl, Nat.le_of_ble_eq_true rfl⟩ d_Nb_reckoned_39 ?_
        refine nb_callSl (As := [.ref (ad 0), .int (o - (8 : Int32)), .long (mf_Nb_narrowed a), .long (mf_Nb_narrowed b)]) (rest := []) hx hb hml hown hts (c_Nb_combined l ad 0 (o - (8 : Int32)) (mf_Nb_narrowed a) (mf_Nb_narrowed b) (by decide)) nb_t50 nb_t51 nb_t1 nb_t52 hd_Nb_combined rfl ⟨Nat.le_of_ble_eq_true rfl, Nat.le_of_ble_eq_true rfl⟩ ⟨rfl, rfl⟩ hC hS hl.1 rfl (Nat.le_of_ble_eq_true rfl) ⟨Nat.le_of_ble_eq_true rfl, Nat.le_of_ble_eq_true rfl⟩ d_Nb_reckoned_42 ?_
        refine nb_callSl (As := [.long (mf_Nb_combined 0 (o - (8 : Int32)) (mf_Nb_narrowed a) (mf_Nb_narrowed b))]) (rest := []) hx hb hml hown hts (c_Nb_widened l ad (mf_Nb_combined 0 (o - (8 : Int32)) (mf_Nb_narrowed a) (mf_Nb_narrowed b))) nb_t161 nb_t162 nb_t1 nb_t163 hd_Nb_widened rfl ⟨Nat.le_of_ble_eq_true rfl, Nat.le_of_ble_eq_true rfl⟩ ⟨rfl, rfl⟩ hC hS hl.1 rfl (Nat.le_of_ble_eq_true rfl) ⟨Nat.le_of_ble_eq_true rfl, Nat.le_of_ble_eq_true rfl⟩ d_Nb_reckoned_45 ?_
        exact W.lret hx hb hr (fun t ht hW => ⟨_, rfl, (by rw [mf_Nb_reckoned, if_pos h1, if_neg h2, if_neg h3]), ht⟩) t_nil d_Nb_reckoned_48
  · refine va_gets (v := .ref (ad 1)) hx hb (nb_Z1 hC) hS hown (hts _ (nb_c nb_t28)) (fun _ h => h) d_Nb_reckoned_5 ?_
    refine lv_iload_n hx hb d_Nb_reckoned_8 rfl (lv_at hl 0 rfl) ?_
    refine lv_lload_n hx hb d_Nb_reckoned_9 rfl (lv_at hl 1 rfl) ?_
    refine lv_lload_n hx hb d_Nb_reckoned_10 rfl (lv_at hl 2 rfl) ?_
    refine nb_callSl (As := [.ref (ad 1), .int o, .long a, .long b]) (rest := []) hx hb hml hown hts (c_Nb_combined l ad 1 o a b (by decide)) nb_t50 nb_t51 nb_t1 nb_t52 hd_Nb_combined rfl ⟨Nat.le_of_ble_eq_true rfl, Nat.le_of_ble_eq_true rfl⟩ ⟨rfl, rfl⟩ hC hS hl.1 rfl (Nat.le_of_ble_eq_true rfl) ⟨Nat.le_of_ble_eq_true rfl, Nat.le_of_ble_eq_true rfl⟩ d_Nb_reckoned_11 ?_
    exact W.lret hx hb hr (fun t ht hW => ⟨_, rfl, (by rw [mf_Nb_reckoned, if_neg h1]), ht⟩) t_nil d_Nb_reckoned_14
