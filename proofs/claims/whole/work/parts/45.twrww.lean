def y_Tw_keep : MethodName := ⟨"NumberBenchModel", "keep", "(IJ)I"⟩
abbrev w_Tw_keep : List Cond := Cond.code y_Tw_keep prog_4_method_34_code 4 (Option.some FieldType.int) :: nb_tb
theorem hd_Tw_keep : y_Tw_keep.cls ≠ "java/lang/invoke/MethodHandle" ∧ y_Tw_keep.cls ≠ "java/lang/invoke/VarHandle" ∧ (parseMethodDescriptor y_Tw_keep.desc).map (fun d => d.parameters.length) = some 2 := by decide +kernel
theorem d_Tw_keep_0 : decode prog_4_method_34_code 0 = .ok (.iload_n 1, 1) := by decide +kernel
theorem d_Tw_keep_1 : decode prog_4_method_34_code 1 = .ok (.bipush 8, 2) := by decide +kernel
theorem d_Tw_keep_3 : decode prog_4_method_34_code 3 = .ok (.invokestatic 139, 3) := by decide +kernel
theorem d_Tw_keep_6 : decode prog_4_method_34_code 6 = .ok (.ifCond .ne 5, 3) := by decide +kernel
theorem d_Tw_keep_9 : decode prog_4_method_34_code 9 = .ok (.iconst (-1), 1) := by decide +kernel
theorem d_Tw_keep_10 : decode prog_4_method_34_code 10 = .ok (.ireturn, 1) := by decide +kernel
theorem d_Tw_keep_11 : decode prog_4_method_34_code 11 = .ok (.aload_n 0, 1) := by decide +kernel
theorem d_Tw_keep_12 : decode prog_4_method_34_code 12 = .ok (.getfield 135, 3) := by decide +kernel
theorem d_Tw_keep_15 : decode prog_4_method_34_code 15 = .ok (.iload_n 1, 1) := by decide +kernel
theorem d_Tw_keep_16 : decode prog_4_method_34_code 16 = .ok (.lload_n 2, 1) := by decide +kernel
theorem d_Tw_keep_17 : decode prog_4_method_34_code 17 = .ok (.lastore, 1) := by decide +kernel
theorem d_Tw_keep_18 : decode prog_4_method_34_code 18 = .ok (.iconst 0, 1) := by decide +kernel
theorem d_Tw_keep_19 : decode prog_4_method_34_code 19 = .ok (.ireturn, 1) := by decide +kernel
set_option maxHeartbeats 1200000 in
set_option maxRecDepth 100000 in
theorem c_Tw_keep (l : Launch) (ad : Nat → Nat) (dC : Nat → ClassId) (dI : Nat → Nat → Nat) (h0 q0 : Nat) (cA : ClassId) (sz : Nat) (f : Nat → Int64) (k : Int32) (a : Int64)  : Met l y_Tw_keep w_Tw_keep ({ frames := 1, cells := 0, slots := 0, locals := 21 } : Room) (va_Pc [.ref h0, .int k, .long a] (nb_V (dC, dI) 1 h0 q0 cA f ad sz)) (va_Qi (fun r f2 => (r, f2) = mf_Tw_keep f k a) (nb_At (dC, dI) 1 (va_A (nb_w 1 h0 q0 cA f) sz) h0 q0 cA) (va_A (nb_w 1 h0 q0 cA f) sz)) 0 0 (va_A (nb_w 1 h0 q0 cA f) sz) := by
  refine Met.ofW (cc := prog_4_method_34_code) (maxL := 4) (ret := some .int) (by decide) rfl ?_
  intro p e s m args below meth c s₁ B hml hv
  obtain ⟨rfl, hsz, hP, hK, hD0, hC⟩ := hv
  have hx := B.exec
  have hb := B.bytes
  have hr := B.returns
  have hts := atoms_spec (ws := w_Tw_keep) B.pre
  have hown : s.vm.findClass "NumberBenchModel" = some m.cls := findClass_of_methodNamed B.named
  have hlocks := B.notSynchronized
  subst hsz
  have hD := hD0.self (sz := s.heap.size)
  generalize va_A (nb_w 1 h0 q0 cA f) s.heap.size = A at hD hC ⊢
  have hS : va_S A s.heap s.heap [] := va_S.rf
  have hP : va_P (dC, dI) nb_cl (nb_w 1 h0 q0 cA f) s.heap := hP
  have hD : va_D A (nb_w 1 h0 q0 cA f) := hD
  have hl := lv_entry ([.ref h0, .int k, .long a]) (n := 4) (Nat.le_of_ble_eq_true rfl)
  rw [lg_entry_eq]
  generalize (lg_sl ([.ref h0, .int k, .long a]) ++ List.replicate (4 - (lg_sl ([.ref h0, .int k, .long a])).length) Slot.unset).toArray = ls at hl ⊢
  have hl : lv_has ls 4 [(0, .ref h0), (1, .int k), (2, .long a)] := hl
  refine lv_iload_n hx hb d_Tw_keep_0 rfl (lv_at hl 1 rfl) ?_
  refine lv_bipush (v := 8) hx hb d_Tw_keep_1 (by decide) ?_
  refine nb_callSi (As := [.int k, .int (8 : Int32)]) (rest := []) hx hb hml hown hts (c_Tw_in l ad k (8 : Int32)) nb_t261 nb_t262 nb_t2 nb_t263 hd_Tw_in rfl ⟨Nat.le_of_ble_eq_true rfl, Nat.le_of_ble_eq_true rfl⟩ ⟨rfl, rfl⟩ hC hS hl.1 rfl (Nat.le_of_ble_eq_true rfl) ⟨Nat.le_of_ble_eq_true rfl, Nat.le_of_ble_eq_true rfl⟩ d_Tw_keep_3 ?_
  refine lv_if_ne (tgt := 11) hx hb d_Tw_keep_6 (by decide) (fun h1 => ?_) (fun h1 => ?_)
  · refine lv_aload_n hx hb d_Tw_keep_11 rfl (lv_at hl 0 rfl) ?_
    refine va_get (D := (dC, dI)) (ci := 1) (v := .ref q0) (C := "NumberBenchModel") (T := F_TW) (N := 1) hx hb hts nb_uT hown hK hP 0 rfl rfl 0 (by decide) (hts _ (nb_c nb_t253)) (fun _ h => h) rfl d_Tw_keep_12 ?_
    refine lv_iload_n hx hb d_Tw_keep_15 rfl (lv_at hl 1 rfl) ?_
    refine lv_lload_n hx hb d_Tw_keep_16 rfl (lv_at hl 2 rfl) ?_
    refine va_last hx hb hK hP hD hS 1 0 rfl rfl (tw_inS h1) d_Tw_keep_17 (fun H locs hP hD hS => ?_)
    have hP : va_P (dC, dI) nb_cl (nb_w 1 h0 q0 cA (vp_updL f k.toNatClampNeg a)) H := hP
    have hD : va_D A (nb_w 1 h0 q0 cA (vp_updL f k.toNatClampNeg a)) := hD
    refine lv_iconst (v := 0) hx hb d_Tw_keep_18 (by decide) ?_
    exact W.iret hx hb hr (fun t ht hW => ⟨⟨_, _, rfl, (by rw [mf_Tw_keep, if_neg h1]), by rw [ht]; exact hP, va_K.moved hW.alike hK, hD⟩, hS.F ht⟩) hS.2.2 d_Tw_keep_19
  · refine lv_iconst (v := (-1)) hx hb d_Tw_keep_9 (by decide) ?_
    exact W.iret hx hb hr (fun t ht hW => ⟨⟨_, _, rfl, (by rw [mf_Tw_keep, if_pos h1]), by rw [ht]; exact hP, va_K.moved hW.alike hK, hD⟩, hS.F ht⟩) hS.2.2 d_Tw_keep_10
def y_Tw_reckon : MethodName := ⟨"NumberBenchModel", "reckon", "(IIII)J"⟩
abbrev w_Tw_reckon : List Cond := Cond.code y_Tw_reckon prog_4_method_37_code 5 (Option.some FieldType.long) :: nb_tb
theorem hd_Tw_reckon : y_Tw_reckon.cls ≠ "java/lang/invoke/MethodHandle" ∧ y_Tw_reckon.cls ≠ "java/lang/invoke/VarHandle" ∧ (parseMethodDescriptor y_Tw_reckon.desc).map (fun d => d.parameters.length) = some 4 := by decide +kernel
theorem d_Tw_reckon_0 : decode prog_4_method_37_code 0 = .ok (.iload_n 1, 1) := by decide +kernel
theorem d_Tw_reckon_1 : decode prog_4_method_37_code 1 = .ok (.bipush 15, 2) := by decide +kernel
theorem d_Tw_reckon_3 : decode prog_4_method_37_code 3 = .ok (.invokestatic 139, 3) := by decide +kernel
theorem d_Tw_reckon_6 : decode prog_4_method_37_code 6 = .ok (.ifCond .eq 31, 3) := by decide +kernel
theorem d_Tw_reckon_9 : decode prog_4_method_37_code 9 = .ok (.iload_n 2, 1) := by decide +kernel
theorem d_Tw_reckon_10 : decode prog_4_method_37_code 10 = .ok (.bipush 8, 2) := by decide +kernel
theorem d_Tw_reckon_12 : decode prog_4_method_37_code 12 = .ok (.invokestatic 139, 3) := by decide +kernel
theorem d_Tw_reckon_15 : decode prog_4_method_37_code 15 = .ok (.ifCond .eq 22, 3) := by decide +kernel
theorem d_Tw_reckon_18 : decode prog_4_method_37_code 18 = .ok (.iload_n 3, 1) := by decide +kernel
theorem d_Tw_reckon_19 : decode prog_4_method_37_code 19 = .ok (.bipush 8, 2) := by decide +kernel
theorem d_Tw_reckon_21 : decode prog_4_method_37_code 21 = .ok (.invokestatic 139, 3) := by decide +kernel
theorem d_Tw_reckon_24 : decode prog_4_method_37_code 24 = .ok (.ifCond .eq 13, 3) := by decide +kernel
theorem d_Tw_reckon_27 : decode prog_4_method_37_code 27 = .ok (.iload 4, 2) := by decide +kernel
theorem d_Tw_reckon_29 : decode prog_4_method_37_code 29 = .ok (.bipush 8, 2) := by decide +kernel
theorem d_Tw_reckon_31 : decode prog_4_method_37_code 31 = .ok (.invokestatic 139, 3) := by decide +kernel
theorem d_Tw_reckon_34 : decode prog_4_method_37_code 34 = .ok (.ifCond .ne 5, 3) := by decide +kernel
theorem d_Tw_reckon_37 : decode prog_4_method_37_code 37 = .ok (.lconst 1, 1) := by decide +kernel
theorem d_Tw_reckon_38 : decode prog_4_method_37_code 38 = .ok (.lreturn, 1) := by decide +kernel
theorem d_Tw_reckon_39 : decode prog_4_method_37_code 39 = .ok (.aload_n 0, 1) := by decide +kernel
theorem d_Tw_reckon_40 : decode prog_4_method_37_code 40 = .ok (.getfield 135, 3) := by decide +kernel
theorem d_Tw_reckon_43 : decode prog_4_method_37_code 43 = .ok (.iload_n 2, 1) := by decide +kernel
theorem d_Tw_reckon_44 : decode prog_4_method_37_code 44 = .ok (.iload_n 1, 1) := by decide +kernel
theorem d_Tw_reckon_45 : decode prog_4_method_37_code 45 = .ok (.aload_n 0, 1) := by decide +kernel
theorem d_Tw_reckon_46 : decode prog_4_method_37_code 46 = .ok (.getfield 135, 3) := by decide +kernel
theorem d_Tw_reckon_49 : decode prog_4_method_37_code 49 = .ok (.iload_n 3, 1) := by decide +kernel
theorem d_Tw_reckon_50 : decode prog_4_method_37_code 50 = .ok (.laload, 1) := by decide +kernel
theorem d_Tw_reckon_51 : decode prog_4_method_37_code 51 = .ok (.aload_n 0, 1) := by decide +kernel
theorem d_Tw_reckon_52 : decode prog_4_method_37_code 52 = .ok (.getfield 135, 3) := by decide +kernel
theorem d_Tw_reckon_55 : decode prog_4_method_37_code 55 = .ok (.iload 4, 2) := by decide +kernel
theorem d_Tw_reckon_57 : decode prog_4_method_37_code 57 = .ok (.laload, 1) := by decide +kernel
theorem d_Tw_reckon_58 : decode prog_4_method_37_code 58 = .ok (.invokestatic 160, 3) := by decide +kernel
theorem d_Tw_reckon_61 : decode prog_4_method_37_code 61 = .ok (.lastore, 1) := by decide +kernel
theorem d_Tw_reckon_62 : decode prog_4_method_37_code 62 = .ok (.aload_n 0, 1) := by decide +kernel
theorem d_Tw_reckon_63 : decode prog_4_method_37_code 63 = .ok (.getfield 135, 3) := by decide +kernel
theorem d_Tw_reckon_66 : decode prog_4_method_37_code 66 = .ok (.iload_n 2, 1) := by decide +kernel
theorem d_Tw_reckon_67 : decode prog_4_method_37_code 67 = .ok (.laload, 1) := by decide +kernel
theorem d_Tw_reckon_68 : decode prog_4_method_37_code 68 = .ok (.invokestatic 164, 3) := by decide +kernel
theorem d_Tw_reckon_71 : decode prog_4_method_37_code 71 = .ok (.lreturn, 1) := by decide +kernel
set_option maxHeartbeats 1200000 in
set_option maxRecDepth 100000 in
theorem c_Tw_reckon (l : Launch) (ad : Nat → Nat) (dC : Nat → ClassId) (dI : Nat → Nat → Nat) (h0 q0 : Nat) (cA : ClassId) (sz : Nat) (f : Nat → Int64) (o : Int32) (k : Int32) (x : Int32) (y : Int32)  : Met l y_Tw_reckon w_Tw_reckon ({ frames := 7, cells := 0, slots := 0, locals := 193 } : Room) (va_Pc [.ref h0, .int o, .int k, .int x, .int y] (nb_V (dC, dI) 1 h0 q0 cA f ad sz)) (va_Ql (fun r f2 => (r, f2) = mf_Tw_reckon f o k x y) (nb_At (dC, dI) 1 (va_A (nb_w 1 h0 q0 cA f) sz) h0 q0 cA) (va_A (nb_w 1 h0 q0 cA f) sz)) 0 0 (va_A (nb_w 1 h0 q0 cA f) sz) := by
  refine Met.ofW (cc := prog_4_method_37_code) (maxL := 5) (ret := some .long) (by decide) rfl ?_
  intro p e s m args below meth c s₁ B hml hv
  obtain ⟨rfl, hsz, hP, hK, hD0, hC⟩ := hv
  have hx := B.exec
  have hb := B.bytes
  have hr := B.returns
  have hts := atoms_spec (ws := w_Tw_reckon) B.pre
  have hown : s.vm.findClass "NumberBenchModel" = some m.cls := findClass_of_methodNamed B.named
  have hlocks := B.notSynchronized
  subst hsz
  have hD := hD0.self (sz := s.heap.size)
  generalize va_A (nb_w 1 h0 q0 cA f) s.heap.size = A at hD hC ⊢
  have hS : va_S A s.heap s.heap [] := va_S.rf
  have hP : va_P (dC, dI) nb_cl (nb_w 1 h0 q0 cA f) s.heap := hP
  have hD : va_D A (nb_w 1 h0 q0 cA f) := hD
  have hl := lv_entry ([.ref h0, .int o, .int k, .int x, .int y]) (n := 5) (Nat.le_of_ble_eq_true rfl)
  rw [lg_entry_eq]
  generalize (lg_sl ([.ref h0, .int o, .int k, .int x, .int y]) ++ List.replicate (5 - (lg_sl ([.ref h0, .int o, .int k, .int x, .int y])).length) Slot.unset).toArray = ls at hl ⊢
  have hl : lv_has ls 5 [(0, .ref h0), (1, .int o), (2, .int k), (3, .int x), (4, .int y)] := hl
  refine lv_iload_n hx hb d_Tw_reckon_0 rfl (lv_at hl 1 rfl) ?_
  refine lv_bipush (v := 15) hx hb d_Tw_reckon_1 (by decide) ?_
  refine nb_callSi (As := [.int o, .int (15 : Int32)]) (rest := []) hx hb hml hown hts (c_Tw_in l ad o (15 : Int32)) nb_t261 nb_t262 nb_t2 nb_t263 hd_Tw_in rfl ⟨Nat.le_of_ble_eq_true rfl, Nat.le_of_ble_eq_true rfl⟩ ⟨rfl, rfl⟩ hC hS hl.1 rfl (Nat.le_of_ble_eq_true rfl) ⟨Nat.le_of_ble_eq_true rfl, Nat.le_of_ble_eq_true rfl⟩ d_Tw_reckon_3 ?_
  refine lv_if_eq (tgt := 37) hx hb d_Tw_reckon_6 (by decide) (fun h1 => ?_) (fun h1 => ?_)
  · refine lv_lconst (v := 1) hx hb d_Tw_reckon_37 (by decide) ?_
    exact W.lret hx hb hr (fun t ht hW => ⟨⟨_, _, rfl, (by rw [mf_Tw_reckon, if_pos h1]), by rw [ht]; exact hP, va_K.moved hW.alike hK, hD⟩, hS.F ht⟩) hS.2.2 d_Tw_reckon_38
  · refine lv_iload_n hx hb d_Tw_reckon_9 rfl (lv_at hl 2 rfl) ?_
    refine lv_bipush (v := 8) hx hb d_Tw_reckon_10 (by decide) ?_
    refine nb_callSi (As := [.int k, .int (8 : Int32)]) (rest := []) hx hb hml hown hts (c_Tw_in l ad k (8 : Int32)) nb_t261 nb_t262 nb_t2 nb_t263 hd_Tw_in rfl ⟨Nat.le_of_ble_eq_true rfl, Nat.le_of_ble_eq_true rfl⟩ ⟨rfl, rfl⟩ hC hS hl.1 rfl (Nat.le_of_ble_eq_true rfl) ⟨Nat.le_of_ble_eq_true rfl, Nat.le_of_ble_eq_true rfl⟩ d_Tw_reckon_12 ?_
    refine lv_if_eq (tgt := 37) hx hb d_Tw_reckon_15 (by decide) (fun h2 => ?_) (fun h2 => ?_)
    · refine lv_lconst (v := 1) hx hb d_Tw_reckon_37 (by decide) ?_
      exact W.lret hx hb hr (fun t ht hW => ⟨⟨_, _, rfl, (by rw [mf_Tw_reckon, if_neg h1, if_pos h2]), by rw [ht]; exact hP, va_K.moved hW.alike hK, hD⟩, hS.F ht⟩) hS.2.2 d_Tw_reckon_38
    · refine lv_iload_n hx hb d_Tw_reckon_18 rfl (lv_at hl 3 rfl) ?_
      refine lv_bipush (v := 8) hx hb d_Tw_reckon_19 (by decide) ?_
      refine nb_callSi (As := [.int x, .int (8 : Int32)]) (rest := []) hx hb hml hown hts (c_Tw_in l ad x (8 : Int32)) nb_t261 nb_t262 nb_t2 nb_t263 hd_Tw_in rfl ⟨Nat.le_of_ble_eq_true rfl, Nat.le_of_ble_eq_true rfl⟩ ⟨rfl, rfl⟩ hC hS hl.1 rfl (Nat.le_of_ble_eq_true rfl) ⟨Nat.le_of_ble_eq_true rfl, Nat.le_of_ble_eq_true rfl⟩ d_Tw_reckon_21 ?_
      refine lv_if_eq (tgt := 37) hx hb d_Tw_reckon_24 (by decide) (fun h3 => ?_) (fun h3 => ?_)
      · refine lv_lconst (v := 1) hx hb d_Tw_reckon_37 (by decide) ?_
        exact W.lret hx hb hr (fun t ht hW => ⟨⟨_, _, rfl, (by rw [mf_Tw_reckon, if_neg h1, if_neg h2, if_pos h3]), by rw [ht]; exact hP, va_K.moved hW.alike hK, hD⟩, hS.F ht⟩) hS.2.2 d_Tw_reckon_38
      · refine lv_iload hx hb d_Tw_reckon_27 (lv_at hl 4 rfl) ?_
        refine lv_bipush (v := 8) hx hb d_Tw_reckon_29 (by decide) ?_
        refine nb_callSi (As := [.int y, .int (8 : Int32)]) (rest := []) hx hb hml hown hts (c_Tw_in l ad y (8 : Int32)) nb_t261 nb_t262 nb_t2 nb_t263 hd_Tw_in rfl ⟨Nat.le_of_ble_eq_true rfl, Nat.le_of_ble_eq_true rfl⟩ ⟨rfl, rfl⟩ hC hS hl.1 rfl (Nat.le_of_ble_eq_true rfl) ⟨Nat.le_of_ble_eq_true rfl, Nat.le_of_ble_eq_true rfl⟩ d_Tw_reckon_31 ?_
        refine lv_if_ne (tgt := 39) hx hb d_Tw_reckon_34 (by decide) (fun h4 => ?_) (fun h4 => ?_)
        · refine lv_aload_n hx hb d_Tw_reckon_39 rfl (lv_at hl 0 rfl) ?_
          refine va_get (D := (dC, dI)) (ci := 1) (v := .ref q0) (C := "NumberBenchModel") (T := F_TW) (N := 1) hx hb hts nb_uT hown hK hP 0 rfl rfl 0 (by decide) (hts _ (nb_c nb_t253)) (fun _ h => h) rfl d_Tw_reckon_40 ?_
          refine lv_iload_n hx hb d_Tw_reckon_43 rfl (lv_at hl 2 rfl) ?_
          refine lv_iload_n hx hb d_Tw_reckon_44 rfl (lv_at hl 1 rfl) ?_
          refine lv_aload_n hx hb d_Tw_reckon_45 rfl (lv_at hl 0 rfl) ?_
          refine va_get (D := (dC, dI)) (ci := 1) (v := .ref q0) (C := "NumberBenchModel") (T := F_TW) (N := 1) hx hb hts nb_uT hown hK hP 0 rfl rfl 0 (by decide) (hts _ (nb_c nb_t253)) (fun _ h => h) rfl d_Tw_reckon_46 ?_
          refine lv_iload_n hx hb d_Tw_reckon_49 rfl (lv_at hl 3 rfl) ?_
          refine va_lald hx hb hK hP 1 0 rfl rfl (tw_inS h3) d_Tw_reckon_50 ?_
          refine lv_aload_n hx hb d_Tw_reckon_51 rfl (lv_at hl 0 rfl) ?_
          refine va_get (D := (dC, dI)) (ci := 1) (v := .ref q0) (C := "NumberBenchModel") (T := F_TW) (N := 1) hx hb hts nb_uT hown hK hP 0 rfl rfl 0 (by decide) (hts _ (nb_c nb_t253)) (fun _ h => h) rfl d_Tw_reckon_52 ?_
          refine lv_iload hx hb d_Tw_reckon_55 (lv_at hl 4 rfl) ?_
          refine va_lald hx hb hK hP 1 0 rfl rfl (tw_inS h4) d_Tw_reckon_57 ?_
          refine nb_callSl (As := [.int o, .long (f x.toNatClampNeg), .long (f y.toNatClampNeg)]) (rest := [.int k, .ref q0]) hx hb hml hown hts (c_Tw_reckoned l ad o (f x.toNatClampNeg) (f y.toNatClampNeg)) nb_t268 nb_t269 nb_t2 nb_t270 hd_Tw_reckoned rfl ⟨Nat.le_of_ble_eq_true rfl, Nat.le_of_ble_eq_true rfl⟩ ⟨rfl, rfl⟩ hC hS hl.1 rfl (Nat.le_of_ble_eq_true rfl) ⟨Nat.le_of_ble_eq_true rfl, Nat.le_of_ble_eq_true rfl⟩ d_Tw_reckon_58 ?_
          refine va_last hx hb hK hP hD hS 1 0 rfl rfl (tw_inS h2) d_Tw_reckon_61 (fun H locs hP hD hS => ?_)
          have hP : va_P (dC, dI) nb_cl (nb_w 1 h0 q0 cA (vp_updL f k.toNatClampNeg (mf_Tw_reckoned o (f x.toNatClampNeg) (f y.toNatClampNeg)))) H := hP
          have hD : va_D A (nb_w 1 h0 q0 cA (vp_updL f k.toNatClampNeg (mf_Tw_reckoned o (f x.toNatClampNeg) (f y.toNatClampNeg)))) := hD
          refine lv_aload_n hx hb d_Tw_reckon_62 rfl (lv_at hl 0 rfl) ?_
          refine va_get (D := (dC, dI)) (ci := 1) (v := .ref q0) (C := "NumberBenchModel") (T := F_TW) (N := 1) hx hb hts nb_uT hown hK hP 0 rfl rfl 0 (by decide) (hts _ (nb_c nb_t253)) (fun _ h => h) rfl d_Tw_reckon_63 ?_
          refine lv_iload_n hx hb d_Tw_reckon_66 rfl (lv_at hl 2 rfl) ?_
          refine va_lald hx hb hK hP 1 0 rfl rfl (tw_inS h2) d_Tw_reckon_67 ?_
          refine nb_callSl (As := [.long ((vp_updL f k.toNatClampNeg (mf_Tw_reckoned o (f x.toNatClampNeg) (f y.toNatClampNeg))) k.toNatClampNeg)]) (rest := []) hx hb hml hown hts (c_Tw_told l ad ((vp_updL f k.toNatClampNeg (mf_Tw_reckoned o (f x.toNatClampNeg) (f y.toNatClampNeg))) k.toNatClampNeg)) nb_t376 nb_t377 nb_t2 nb_t378 hd_Tw_told rfl ⟨Nat.le_of_ble_eq_true rfl, Nat.le_of_ble_eq_true rfl⟩ ⟨rfl, rfl⟩ hC hS hl.1 rfl (Nat.le_of_ble_eq_true rfl) ⟨Nat.le_of_ble_eq_true rfl, Nat.le_of_ble_eq_true rfl⟩ d_Tw_reckon_68 ?_
          exact W.lret hx hb hr (fun t ht hW => ⟨⟨_, _, rfl, (by rw [mf_Tw_reckon, if_neg h1, if_neg h2, if_neg h3, if_neg h4]), by rw [ht]; exact hP, va_K.moved hW.alike hK, hD⟩, hS.F ht⟩) hS.2.2 d_Tw_reckon_71
        · refine lv_lconst (v := 1) hx hb d_Tw_reckon_37 (by decide) ?_
          exact W.lret hx hb hr (fun t ht hW => ⟨⟨_, _, rfl, (by rw [mf_Tw_reckon, if_neg h1, if_neg h2, if_neg h3, if_pos h4]), by rw [ht]; exact hP, va_K.moved hW.alike hK, hD⟩, hS.F ht⟩) hS.2.2 d_Tw_reckon_38
def y_Tw_wholeM : MethodName := ⟨"NumberBenchModel", "whole", "(IIJ)J"⟩
abbrev w_Tw_wholeM : List Cond := Cond.code y_Tw_wholeM prog_4_method_38_code 8 (Option.some FieldType.long) :: nb_tb
theorem hd_Tw_wholeM : y_Tw_wholeM.cls ≠ "java/lang/invoke/MethodHandle" ∧ y_Tw_wholeM.cls ≠ "java/lang/invoke/VarHandle" ∧ (parseMethodDescriptor y_Tw_wholeM.desc).map (fun d => d.parameters.length) = some 3 := by decide +kernel
theorem d_Tw_wholeM_0 : decode prog_4_method_38_code 0 = .ok (.iload_n 1, 1) := by decide +kernel
theorem d_Tw_wholeM_1 : decode prog_4_method_38_code 1 = .ok (.bipush 8, 2) := by decide +kernel
theorem d_Tw_wholeM_3 : decode prog_4_method_38_code 3 = .ok (.invokestatic 139, 3) := by decide +kernel
theorem d_Tw_wholeM_6 : decode prog_4_method_38_code 6 = .ok (.ifCond .eq 11, 3) := by decide +kernel
theorem d_Tw_wholeM_9 : decode prog_4_method_38_code 9 = .ok (.iload_n 2, 1) := by decide +kernel
theorem d_Tw_wholeM_10 : decode prog_4_method_38_code 10 = .ok (.iconst 2, 1) := by decide +kernel
theorem d_Tw_wholeM_11 : decode prog_4_method_38_code 11 = .ok (.invokestatic 139, 3) := by decide +kernel
theorem d_Tw_wholeM_14 : decode prog_4_method_38_code 14 = .ok (.ifCond .ne 5, 3) := by decide +kernel
theorem d_Tw_wholeM_17 : decode prog_4_method_38_code 17 = .ok (.lconst 1, 1) := by decide +kernel
theorem d_Tw_wholeM_18 : decode prog_4_method_38_code 18 = .ok (.lreturn, 1) := by decide +kernel
theorem d_Tw_wholeM_19 : decode prog_4_method_38_code 19 = .ok (.lload_n 3, 1) := by decide +kernel
theorem d_Tw_wholeM_20 : decode prog_4_method_38_code 20 = .ok (.ldc2_w 167, 3) := by decide +kernel
theorem d_Tw_wholeM_23 : decode prog_4_method_38_code 23 = .ok (.lcmp, 1) := by decide +kernel
theorem d_Tw_wholeM_24 : decode prog_4_method_38_code 24 = .ok (.ifCond .ne 7, 3) := by decide +kernel
theorem d_Tw_wholeM_27 : decode prog_4_method_38_code 27 = .ok (.iconst 1, 1) := by decide +kernel
theorem d_Tw_wholeM_28 : decode prog_4_method_38_code 28 = .ok (.goto 4, 3) := by decide +kernel
theorem d_Tw_wholeM_31 : decode prog_4_method_38_code 31 = .ok (.iconst 0, 1) := by decide +kernel
theorem d_Tw_wholeM_32 : decode prog_4_method_38_code 32 = .ok (.istore 5, 2) := by decide +kernel
theorem d_Tw_wholeM_34 : decode prog_4_method_38_code 34 = .ok (.iload 5, 2) := by decide +kernel
theorem d_Tw_wholeM_36 : decode prog_4_method_38_code 36 = .ok (.ifCond .eq 15, 3) := by decide +kernel
theorem d_Tw_wholeM_39 : decode prog_4_method_38_code 39 = .ok (.iconst 1, 1) := by decide +kernel
theorem d_Tw_wholeM_40 : decode prog_4_method_38_code 40 = .ok (.ldc2_w 125, 3) := by decide +kernel
theorem d_Tw_wholeM_43 : decode prog_4_method_38_code 43 = .ok (.iconst 1, 1) := by decide +kernel
theorem d_Tw_wholeM_44 : decode prog_4_method_38_code 44 = .ok (.iload_n 2, 1) := by decide +kernel
theorem d_Tw_wholeM_45 : decode prog_4_method_38_code 45 = .ok (.invokestatic 89, 3) := by decide +kernel
theorem d_Tw_wholeM_48 : decode prog_4_method_38_code 48 = .ok (.goto 23, 3) := by decide +kernel
theorem d_Tw_wholeM_51 : decode prog_4_method_38_code 51 = .ok (.lload_n 3, 1) := by decide +kernel
theorem d_Tw_wholeM_52 : decode prog_4_method_38_code 52 = .ok (.lconst 0, 1) := by decide +kernel
theorem d_Tw_wholeM_53 : decode prog_4_method_38_code 53 = .ok (.lcmp, 1) := by decide +kernel
theorem d_Tw_wholeM_54 : decode prog_4_method_38_code 54 = .ok (.ifCond .ge 7, 3) := by decide +kernel
theorem d_Tw_wholeM_57 : decode prog_4_method_38_code 57 = .ok (.iconst 1, 1) := by decide +kernel
theorem d_Tw_wholeM_58 : decode prog_4_method_38_code 58 = .ok (.goto 4, 3) := by decide +kernel
theorem d_Tw_wholeM_61 : decode prog_4_method_38_code 61 = .ok (.iconst 0, 1) := by decide +kernel
theorem d_Tw_wholeM_62 : decode prog_4_method_38_code 62 = .ok (.lload_n 3, 1) := by decide +kernel
theorem d_Tw_wholeM_63 : decode prog_4_method_38_code 63 = .ok (.invokestatic 169, 3) := by decide +kernel
theorem d_Tw_wholeM_66 : decode prog_4_method_38_code 66 = .ok (.iconst 0, 1) := by decide +kernel
theorem d_Tw_wholeM_67 : decode prog_4_method_38_code 67 = .ok (.iload_n 2, 1) := by decide +kernel
theorem d_Tw_wholeM_68 : decode prog_4_method_38_code 68 = .ok (.invokestatic 89, 3) := by decide +kernel
theorem d_Tw_wholeM_71 : decode prog_4_method_38_code 71 = .ok (.lstore 6, 2) := by decide +kernel
theorem d_Tw_wholeM_73 : decode prog_4_method_38_code 73 = .ok (.aload_n 0, 1) := by decide +kernel
theorem d_Tw_wholeM_74 : decode prog_4_method_38_code 74 = .ok (.getfield 135, 3) := by decide +kernel
theorem d_Tw_wholeM_77 : decode prog_4_method_38_code 77 = .ok (.iload_n 1, 1) := by decide +kernel
theorem d_Tw_wholeM_78 : decode prog_4_method_38_code 78 = .ok (.iload_n 2, 1) := by decide +kernel
theorem d_Tw_wholeM_79 : decode prog_4_method_38_code 79 = .ok (.ifCond .ne 8, 3) := by decide +kernel
theorem d_Tw_wholeM_82 : decode prog_4_method_38_code 82 = .ok (.lload 6, 2) := by decide +kernel
theorem d_Tw_wholeM_84 : decode prog_4_method_38_code 84 = .ok (.goto 8, 3) := by decide +kernel
theorem d_Tw_wholeM_87 : decode prog_4_method_38_code 87 = .ok (.lload 6, 2) := by decide +kernel
theorem d_Tw_wholeM_89 : decode prog_4_method_38_code 89 = .ok (.invokestatic 153, 3) := by decide +kernel
theorem d_Tw_wholeM_92 : decode prog_4_method_38_code 92 = .ok (.lastore, 1) := by decide +kernel
theorem d_Tw_wholeM_93 : decode prog_4_method_38_code 93 = .ok (.aload_n 0, 1) := by decide +kernel
theorem d_Tw_wholeM_94 : decode prog_4_method_38_code 94 = .ok (.getfield 135, 3) := by decide +kernel
theorem d_Tw_wholeM_97 : decode prog_4_method_38_code 97 = .ok (.iload_n 1, 1) := by decide +kernel
theorem d_Tw_wholeM_98 : decode prog_4_method_38_code 98 = .ok (.laload, 1) := by decide +kernel
theorem d_Tw_wholeM_99 : decode prog_4_method_38_code 99 = .ok (.invokestatic 164, 3) := by decide +kernel
theorem d_Tw_wholeM_102 : decode prog_4_method_38_code 102 = .ok (.lreturn, 1) := by decide +kernel
set_option maxHeartbeats 1200000 in
set_option maxRecDepth 100000 in
theorem c_Tw_wholeM (l : Launch) (ad : Nat → Nat) (dC : Nat → ClassId) (dI : Nat → Nat → Nat) (h0 q0 : Nat) (cA : ClassId) (sz : Nat) (f : Nat → Int64) (k : Int32) (n : Int32) (a : Int64)  : Met l y_Tw_wholeM w_Tw_wholeM ({ frames := 6, cells := 0, slots := 0, locals := 145 } : Room) (va_Pc [.ref h0, .int k, .int n, .long a] (nb_V (dC, dI) 1 h0 q0 cA f ad sz)) (va_Ql (fun r f2 => (r, f2) = mf_Tw_wholeM f k n a) (nb_At (dC, dI) 1 (va_A (nb_w 1 h0 q0 cA f) sz) h0 q0 cA) (va_A (nb_w 1 h0 q0 cA f) sz)) 0 0 (va_A (nb_w 1 h0 q0 cA f) sz) := by
  refine Met.ofW (cc := prog_4_method_38_code) (maxL := 8) (ret := some .long) (by decide) rfl ?_
  intro p e s m args below meth c s₁ B hml hv
  obtain ⟨rfl, hsz, hP, hK, hD0, hC⟩ := hv
  have hx := B.exec
  have hb := B.bytes
  have hr := B.returns
  have hts := atoms_spec (ws := w_Tw_wholeM) B.pre
  have hown : s.vm.findClass "NumberBenchModel" = some m.cls := findClass_of_methodNamed B.named
  have hlocks := B.notSynchronized
  subst hsz
  have hD := hD0.self (sz := s.heap.size)
  generalize va_A (nb_w 1 h0 q0 cA f) s.heap.size = A at hD hC ⊢
  have hS : va_S A s.heap s.heap [] := va_S.rf
  have hP : va_P (dC, dI) nb_cl (nb_w 1 h0 q0 cA f) s.heap := hP
  have hD : va_D A (nb_w 1 h0 q0 cA f) := hD
  have hl := lv_entry ([.ref h0, .int k, .int n, .long a]) (n := 8) (Nat.le_of_ble_eq_true rfl)
  rw [lg_entry_eq]
  generalize (lg_sl ([.ref h0, .int k, .int n, .long a]) ++ List.replicate (8 - (lg_sl ([.ref h0, .int k, .int n, .long a])).length) Slot.unset).toArray = ls at hl ⊢
  have hl : lv_has ls 8 [(0, .ref h0), (1, .int k), (2, .int n), (3, .long a)] := hl
  refine lv_iload_n hx hb d_Tw_wholeM_0 rfl (lv_at hl 1 rfl) ?_
  refine lv_bipush (v := 8) hx hb d_Tw_wholeM_1 (by decide) ?_
  refine nb_callSi (As := [.int k, .int (8 : Int32)]) (rest := []) hx hb hml hown hts (c_Tw_in l ad k (8 : Int32)) nb_t261 nb_t262 nb_t2 nb_t263 hd_Tw_in rfl ⟨Nat.le_of_ble_eq_true rfl, Nat.le_of_ble_eq_true rfl⟩ ⟨rfl, rfl⟩ hC hS hl.1 rfl (Nat.le_of_ble_eq_true rfl) ⟨Nat.le_of_ble_eq_true rfl, Nat.le_of_ble_eq_true rfl⟩ d_Tw_wholeM_3 ?_
  refine lv_if_eq (tgt := 17) hx hb d_Tw_wholeM_6 (by decide) (fun h1 => ?_) (fun h1 => ?_)
  · refine lv_lconst (v := 1) hx hb d_Tw_wholeM_17 (by decide) ?_
    exact W.lret hx hb hr (fun t ht hW => ⟨⟨_, _, rfl, (by rw [mf_Tw_wholeM, if_pos h1]), by rw [ht]; exact hP, va_K.moved hW.alike hK, hD⟩, hS.F ht⟩) hS.2.2 d_Tw_wholeM_18
  · refine lv_iload_n hx hb d_Tw_wholeM_9 rfl (lv_at hl 2 rfl) ?_
    refine lv_iconst (v := 2) hx hb d_Tw_wholeM_10 (by decide) ?_
    refine nb_callSi (As := [.int n, .int (2 : Int32)]) (rest := []) hx hb hml hown hts (c_Tw_in l ad n (2 : Int32)) nb_t261 nb_t262 nb_t2 nb_t263 hd_Tw_in rfl ⟨Nat.le_of_ble_eq_true rfl, Nat.le_of_ble_eq_true rfl⟩ ⟨rfl, rfl⟩ hC hS hl.1 rfl (Nat.le_of_ble_eq_true rfl) ⟨Nat.le_of_ble_eq_true rfl, Nat.le_of_ble_eq_true rfl⟩ d_Tw_wholeM_11 ?_
    refine lv_if_ne (tgt := 19) hx hb d_Tw_wholeM_14 (by decide) (fun h2 => ?_) (fun h2 => ?_)
    · refine lv_lload_n hx hb d_Tw_wholeM_19 rfl (lv_at hl 3 rfl) ?_
      refine lv_ldc2 (v := (-9223372036854775808 : Int64)) hx hb hown (hts (.constantLong "NumberBenchModel" 167 (-9223372036854775808 : Int64)) (nb_c nb_t383)) d_Tw_wholeM_20 ?_
      refine nb_lc_ne (tgt := 31) hx hb d_Tw_wholeM_23 d_Tw_wholeM_24 (by decide) (fun h3 => ?_) (fun h3 => ?_)
      · refine lv_iconst (v := 0) hx hb d_Tw_wholeM_31 (by decide) ?_
        refine lv_istore hx hb d_Tw_wholeM_32 hl (by decide) rfl (fun ls hl => ?_)
        have hl : lv_has ls 8 [(5, .int (0 : Int32)), (0, .ref h0), (1, .int k), (2, .int n), (3, .long a)] := hl
        refine lv_iload hx hb d_Tw_wholeM_34 (lv_at hl 0 rfl) ?_
        refine lv_if_eq (tgt := 51) hx hb d_Tw_wholeM_36 (by decide) (fun _ => ?_) (fun h4 => absurd h4 (by decide))
        refine lv_lload_n hx hb d_Tw_wholeM_51 rfl (lv_at hl 4 rfl) ?_
        refine lv_lconst (v := 0) hx hb d_Tw_wholeM_52 (by decide) ?_
        refine nb_lc_ge (tgt := 61) hx hb d_Tw_wholeM_53 d_Tw_wholeM_54 (by decide) (fun h5 => ?_) (fun h5 => ?_)
        · refine lv_iconst (v := 0) hx hb d_Tw_wholeM_61 (by decide) ?_
          refine lv_lload_n hx hb d_Tw_wholeM_62 rfl (lv_at hl 4 rfl) ?_
          refine va_mabs_long hx hb (by rw [hml]; exact hl.1.symm) hown (hts _ (nb_c nb_t384)) (hts _ (nb_c nb_t191)) (hts _ (nb_c nb_t5)) (hts _ (nb_c nb_code_va_mabs_long)) (Nat.le_of_ble_eq_true rfl) (Nat.le_of_ble_eq_true rfl) (Nat.le_of_ble_eq_true rfl) (Nat.le_of_ble_eq_true rfl) d_Tw_wholeM_63 ?_
          refine lv_iconst (v := 0) hx hb d_Tw_wholeM_66 (by decide) ?_
          refine lv_iload_n hx hb d_Tw_wholeM_67 rfl (lv_at hl 3 rfl) ?_
          refine nb_callSl (As := [.int (0 : Int32), .long (if 0 < a then a else -a), .int (0 : Int32), .int (nI n.toNatClampNeg)]) (rest := []) hx hb hml hown hts (c_Tw_exact l ad (0 : Int32) (if 0 < a then a else -a) (0 : Int32) (n.toNatClampNeg) (tw_lt h2)) nb_t316 nb_t317 nb_t2 nb_t318 hd_Tw_exact rfl ⟨Nat.le_of_ble_eq_true rfl, Nat.le_of_ble_eq_true rfl⟩ ⟨rfl, rfl⟩ hC hS hl.1 (by rw [tw_nI h2]; try rfl) (Nat.le_of_ble_eq_true rfl) ⟨Nat.le_of_ble_eq_true rfl, Nat.le_of_ble_eq_true rfl⟩ d_Tw_wholeM_68 ?_
          refine lv_topl (fun v6 ev6 => ?_)
          refine lv_lstore hx hb d_Tw_wholeM_71 hl (by decide) rfl (fun ls hl => ?_)
          have hl : lv_has ls 8 [(6, .long v6), (5, .int (0 : Int32)), (0, .ref h0), (1, .int k), (2, .int n), (3, .long a)] := hl
          refine lv_aload_n hx hb d_Tw_wholeM_73 rfl (lv_at hl 2 rfl) ?_
          refine va_get (D := (dC, dI)) (ci := 1) (v := .ref q0) (C := "NumberBenchModel") (T := F_TW) (N := 1) hx hb hts nb_uT hown hK hP 0 rfl rfl 0 (by decide) (hts _ (nb_c nb_t253)) (fun _ h => h) rfl d_Tw_wholeM_74 ?_
          refine lv_iload_n hx hb d_Tw_wholeM_77 rfl (lv_at hl 3 rfl) ?_
          refine lv_iload_n hx hb d_Tw_wholeM_78 rfl (lv_at hl 4 rfl) ?_
          refine lv_if_ne (tgt := 87) hx hb d_Tw_wholeM_79 (by decide) (fun h7 => ?_) (fun h7 => ?_)
          · refine lv_lload hx hb d_Tw_wholeM_87 (lv_at hl 0 rfl) ?_
            refine nb_callSl (As := [.long v6]) (rest := [.int k, .ref q0]) hx hb hml hown hts (c_Tw_toDouble l ad v6) nb_t370 nb_t371 nb_t2 nb_t372 hd_Tw_toDouble rfl ⟨Nat.le_of_ble_eq_true rfl, Nat.le_of_ble_eq_true rfl⟩ ⟨rfl, rfl⟩ hC hS hl.1 rfl (Nat.le_of_ble_eq_true rfl) ⟨Nat.le_of_ble_eq_true rfl, Nat.le_of_ble_eq_true rfl⟩ d_Tw_wholeM_89 ?_
            refine va_last hx hb hK hP hD hS 1 0 rfl rfl (tw_inS h1) d_Tw_wholeM_92 (fun H locs hP hD hS => ?_)
            have hP : va_P (dC, dI) nb_cl (nb_w 1 h0 q0 cA (vp_updL f k.toNatClampNeg (mf_Tw_toDouble v6))) H := hP
            have hD : va_D A (nb_w 1 h0 q0 cA (vp_updL f k.toNatClampNeg (mf_Tw_toDouble v6))) := hD
            refine lv_aload_n hx hb d_Tw_wholeM_93 rfl (lv_at hl 2 rfl) ?_
            refine va_get (D := (dC, dI)) (ci := 1) (v := .ref q0) (C := "NumberBenchModel") (T := F_TW) (N := 1) hx hb hts nb_uT hown hK hP 0 rfl rfl 0 (by decide) (hts _ (nb_c nb_t253)) (fun _ h => h) rfl d_Tw_wholeM_94 ?_
            refine lv_iload_n hx hb d_Tw_wholeM_97 rfl (lv_at hl 3 rfl) ?_
            refine va_lald hx hb hK hP 1 0 rfl rfl (tw_inS h1) d_Tw_wholeM_98 ?_
            refine nb_callSl (As := [.long ((vp_updL f k.toNatClampNeg (mf_Tw_toDouble v6)) k.toNatClampNeg)]) (rest := []) hx hb hml hown hts (c_Tw_told l ad ((vp_updL f k.toNatClampNeg (mf_Tw_toDouble v6)) k.toNatClampNeg)) nb_t376 nb_t377 nb_t2 nb_t378 hd_Tw_told rfl ⟨Nat.le_of_ble_eq_true rfl, Nat.le_of_ble_eq_true rfl⟩ ⟨rfl, rfl⟩ hC hS hl.1 rfl (Nat.le_of_ble_eq_true rfl) ⟨Nat.le_of_ble_eq_true rfl, Nat.le_of_ble_eq_true rfl⟩ d_Tw_wholeM_99 ?_
            exact W.lret hx hb hr (fun t ht hW => ⟨⟨_, _, rfl, (by subst ev6; rw [mf_Tw_wholeM, if_neg h1, if_neg h2, if_neg h3, if_pos h5, if_neg h7]), by rw [ht]; exact hP, va_K.moved hW.alike hK, hD⟩, hS.F ht⟩) hS.2.2 d_Tw_wholeM_102
          · refine lv_lload hx hb d_Tw_wholeM_82 (lv_at hl 0 rfl) ?_
            refine lv_goto (tgt := 92) hx hb d_Tw_wholeM_84 (by decide) ?_
            refine va_last hx hb hK hP hD hS 1 0 rfl rfl (tw_inS h1) d_Tw_wholeM_92 (fun H locs hP hD hS => ?_)
            have hP : va_P (dC, dI) nb_cl (nb_w 1 h0 q0 cA (vp_updL f k.toNatClampNeg v6)) H := hP
            have hD : va_D A (nb_w 1 h0 q0 cA (vp_updL f k.toNatClampNeg v6)) := hD
            refine lv_aload_n hx hb d_Tw_wholeM_93 rfl (lv_at hl 2 rfl) ?_
            refine va_get (D := (dC, dI)) (ci := 1) (v := .ref q0) (C := "NumberBenchModel") (T := F_TW) (N := 1) hx hb hts nb_uT hown hK hP 0 rfl rfl 0 (by decide) (hts _ (nb_c nb_t253)) (fun _ h => h) rfl d_Tw_wholeM_94 ?_
            refine lv_iload_n hx hb d_Tw_wholeM_97 rfl (lv_at hl 3 rfl) ?_
            refine va_lald hx hb hK hP 1 0 rfl rfl (tw_inS h1) d_Tw_wholeM_98 ?_
            refine nb_callSl (As := [.long ((vp_updL f k.toNatClampNeg v6) k.toNatClampNeg)]) (rest := []) hx hb hml hown hts (c_Tw_told l ad ((vp_updL f k.toNatClampNeg v6) k.toNatClampNeg)) nb_t376 nb_t377 nb_t2 nb_t378 hd_Tw_told rfl ⟨Nat.le_of_ble_eq_true rfl, Nat.le_of_ble_eq_true rfl⟩ ⟨rfl, rfl⟩ hC hS hl.1 rfl (Nat.le_of_ble_eq_true rfl) ⟨Nat.le_of_ble_eq_true rfl, Nat.le_of_ble_eq_true rfl⟩ d_Tw_wholeM_99 ?_
            exact W.lret hx hb hr (fun t ht hW => ⟨⟨_, _, rfl, (by subst ev6; rw [mf_Tw_wholeM, if_neg h1, if_neg h2, if_neg h3, if_pos h5, if_pos h7]), by rw [ht]; exact hP, va_K.moved hW.alike hK, hD⟩, hS.F ht⟩) hS.2.2 d_Tw_wholeM_102
        · refine lv_iconst (v := 1) hx hb d_Tw_wholeM_57 (by decide) ?_
          refine lv_goto (tgt := 62) hx hb d_Tw_wholeM_58 (by decide) ?_
          refine lv_lload_n hx hb d_Tw_wholeM_62 rfl (lv_at hl 4 rfl) ?_
          refine va_mabs_long hx hb (by rw [hml]; exact hl.1.symm) hown (hts _ (nb_c nb_t384)) (hts _ (nb_c nb_t191)) (hts _ (nb_c nb_t5)) (hts _ (nb_c nb_code_va_mabs_long)) (Nat.le_of_ble_eq_true rfl) (Nat.le_of_ble_eq_true rfl) (Nat.le_of_ble_eq_true rfl) (Nat.le_of_ble_eq_true rfl) d_Tw_wholeM_63 ?_
          refine lv_iconst (v := 0) hx hb d_Tw_wholeM_66 (by decide) ?_
          refine lv_iload_n hx hb d_Tw_wholeM_67 rfl (lv_at hl 3 rfl) ?_
          refine nb_callSl (As := [.int (1 : Int32), .long (if 0 < a then a else -a), .int (0 : Int32), .int (nI n.toNatClampNeg)]) (rest := []) hx hb hml hown hts (c_Tw_exact l ad (1 : Int32) (if 0 < a then a else -a) (0 : Int32) (n.toNatClampNeg) (tw_lt h2)) nb_t316 nb_t317 nb_t2 nb_t318 hd_Tw_exact rfl ⟨Nat.le_of_ble_eq_true rfl, Nat.le_of_ble_eq_true rfl⟩ ⟨rfl, rfl⟩ hC hS hl.1 (by rw [tw_nI h2]; try rfl) (Nat.le_of_ble_eq_true rfl) ⟨Nat.le_of_ble_eq_true rfl, Nat.le_of_ble_eq_true rfl⟩ d_Tw_wholeM_68 ?_
          refine lv_topl (fun v8 ev8 => ?_)
          refine lv_lstore hx hb d_Tw_wholeM_71 hl (by decide) rfl (fun ls hl => ?_)
          have hl : lv_has ls 8 [(6, .long v8), (5, .int (0 : Int32)), (0, .ref h0), (1, .int k), (2, .int n), (3, .long a)] := hl
          refine lv_aload_n hx hb d_Tw_wholeM_73 rfl (lv_at hl 2 rfl) ?_
          refine va_get (D := (dC, dI)) (ci := 1) (v := .ref q0) (C := "NumberBenchModel") (T := F_TW) (N := 1) hx hb hts nb_uT hown hK hP 0 rfl rfl 0 (by decide) (hts _ (nb_c nb_t253)) (fun _ h => h) rfl d_Tw_wholeM_74 ?_
          refine lv_iload_n hx hb d_Tw_wholeM_77 rfl (lv_at hl 3 rfl) ?_
          refine lv_iload_n hx hb d_Tw_wholeM_78 rfl (lv_at hl 4 rfl) ?_
          refine lv_if_ne (tgt := 87) hx hb d_Tw_wholeM_79 (by decide) (fun h9 => ?_) (fun h9 => ?_)
          · refine lv_lload hx hb d_Tw_wholeM_87 (lv_at hl 0 rfl) ?_
            refine nb_callSl (As := [.long v8]) (rest := [.int k, .ref q0]) hx hb hml hown hts (c_Tw_toDouble l ad v8) nb_t370 nb_t371 nb_t2 nb_t372 hd_Tw_toDouble rfl ⟨Nat.le_of_ble_eq_true rfl, Nat.le_of_ble_eq_true rfl⟩ ⟨rfl, rfl⟩ hC hS hl.1 rfl (Nat.le_of_ble_eq_true rfl) ⟨Nat.le_of_ble_eq_true rfl, Nat.le_of_ble_eq_true rfl⟩ d_Tw_wholeM_89 ?_
            refine va_last hx hb hK hP hD hS 1 0 rfl rfl (tw_inS h1) d_Tw_wholeM_92 (fun H locs hP hD hS => ?_)
            have hP : va_P (dC, dI) nb_cl (nb_w 1 h0 q0 cA (vp_updL f k.toNatClampNeg (mf_Tw_toDouble v8))) H := hP
            have hD : va_D A (nb_w 1 h0 q0 cA (vp_updL f k.toNatClampNeg (mf_Tw_toDouble v8))) := hD
            refine lv_aload_n hx hb d_Tw_wholeM_93 rfl (lv_at hl 2 rfl) ?_
            refine va_get (D := (dC, dI)) (ci := 1) (v := .ref q0) (C := "NumberBenchModel") (T := F_TW) (N := 1) hx hb hts nb_uT hown hK hP 0 rfl rfl 0 (by decide) (hts _ (nb_c nb_t253)) (fun _ h => h) rfl d_Tw_wholeM_94 ?_
            refine lv_iload_n hx hb d_Tw_wholeM_97 rfl (lv_at hl 3 rfl) ?_
            refine va_lald hx hb hK hP 1 0 rfl rfl (tw_inS h1) d_Tw_wholeM_98 ?_
            refine nb_callSl (As := [.long ((vp_updL f k.toNatClampNeg (mf_Tw_toDouble v8)) k.toNatClampNeg)]) (rest := []) hx hb hml hown hts (c_Tw_told l ad ((vp_updL f k.toNatClampNeg (mf_Tw_toDouble v8)) k.toNatClampNeg)) nb_t376 nb_t377 nb_t2 nb_t378 hd_Tw_told rfl ⟨Nat.le_of_ble_eq_true rfl, Nat.le_of_ble_eq_true rfl⟩ ⟨rfl, rfl⟩ hC hS hl.1 rfl (Nat.le_of_ble_eq_true rfl) ⟨Nat.le_of_ble_eq_true rfl, Nat.le_of_ble_eq_true rfl⟩ d_Tw_wholeM_99 ?_
            exact W.lret hx hb hr (fun t ht hW => ⟨⟨_, _, rfl, (by subst ev8; rw [mf_Tw_wholeM, if_neg h1, if_neg h2, if_neg h3, if_neg h5, if_neg h9]), by rw [ht]; exact hP, va_K.moved hW.alike hK, hD⟩, hS.F ht⟩) hS.2.2 d_Tw_wholeM_102
          · refine lv_lload hx hb d_Tw_wholeM_82 (lv_at hl 0 rfl) ?_
            refine lv_goto (tgt := 92) hx hb d_Tw_wholeM_84 (by decide) ?_
            refine va_last hx hb hK hP hD hS 1 0 rfl rfl (tw_inS h1) d_Tw_wholeM_92 (fun H locs hP hD hS => ?_)
            have hP : va_P (dC, dI) nb_cl (nb_w 1 h0 q0 cA (vp_updL f k.toNatClampNeg v8)) H := hP
            have hD : va_D A (nb_w 1 h0 q0 cA (vp_updL f k.toNatClampNeg v8)) := hD
            refine lv_aload_n hx hb d_Tw_wholeM_93 rfl (lv_at hl 2 rfl) ?_
            refine va_get (D := (dC, dI)) (ci := 1) (v := .ref q0) (C := "NumberBenchModel") (T := F_TW) (N := 1) hx hb hts nb_uT hown hK hP 0 rfl rfl 0 (by decide) (hts _ (nb_c nb_t253)) (fun _ h => h) rfl d_Tw_wholeM_94 ?_
            refine lv_iload_n hx hb d_Tw_wholeM_97 rfl (lv_at hl 3 rfl) ?_
            refine va_lald hx hb hK hP 1 0 rfl rfl (tw_inS h1) d_Tw_wholeM_98 ?_
            refine nb_callSl (As := [.long ((vp_updL f k.toNatClampNeg v8) k.toNatClampNeg)]) (rest := []) hx hb hml hown hts (c_Tw_told l ad ((vp_updL f k.toNatClampNeg v8) k.toNatClampNeg)) nb_t376 nb_t377 nb_t2 nb_t378 hd_Tw_told rfl ⟨Nat.le_of_ble_eq_true rfl, Nat.le_of_ble_eq_true rfl⟩ ⟨rfl, rfl⟩ hC hS hl.1 rfl (Nat.le_of_ble_eq_true rfl) ⟨Nat.le_of_ble_eq_true rfl, Nat.le_of_ble_eq_true rfl⟩ d_Tw_wholeM_99 ?_
            exact W.lret hx hb hr (fun t ht hW => ⟨⟨_, _, rfl, (by subst ev8; rw [mf_Tw_wholeM, if_neg h1, if_neg h2, if_neg h3, if_neg h5, if_pos h9]), by rw [ht]; exact hP, va_K.moved hW.alike hK, hD⟩, hS.F ht⟩) hS.2.2 d_Tw_wholeM_102
      · refine lv_iconst (v := 1) hx hb d_Tw_wholeM_27 (by decide) ?_
        refine lv_goto (tgt := 32) hx hb d_Tw_wholeM_28 (by decide) ?_
        refine lv_istore hx hb d_Tw_wholeM_32 hl (by decide) rfl (fun ls hl => ?_)
        have hl : lv_has ls 8 [(5, .int (1 : Int32)), (0, .ref h0), (1, .int k), (2, .int n), (3, .long a)] := hl
        refine lv_iload hx hb d_Tw_wholeM_34 (lv_at hl 0 rfl) ?_
        refine lv_if_eq (tgt := 51) hx hb d_Tw_wholeM_36 (by decide) (fun h10 => absurd h10 (by decide)) (fun _ => ?_)
        refine lv_iconst (v := 1) hx hb d_Tw_wholeM_39 (by decide) ?_
        refine lv_ldc2 (v := (4611686018427387904 : Int64)) hx hb hown (hts (.constantLong "NumberBenchModel" 125 (4611686018427387904 : Int64)) (nb_c nb_t369)) d_Tw_wholeM_40 ?_
        refine lv_iconst (v := 1) hx hb d_Tw_wholeM_43 (by decide) ?_
        refine lv_iload_n hx hb d_Tw_wholeM_44 rfl (lv_at hl 3 rfl) ?_
        refine nb_callSl (As := [.int (1 : Int32), .long (4611686018427387904 : Int64), .int (1 : Int32), .int (nI n.toNatClampNeg)]) (rest := []) hx hb hml hown hts (c_Tw_exact l ad (1 : Int32) (4611686018427387904 : Int64) (1 : Int32) (n.toNatClampNeg) (tw_lt h2)) nb_t316 nb_t317 nb_t2 nb_t318 hd_Tw_exact rfl ⟨Nat.le_of_ble_eq_true rfl, Nat.le_of_ble_eq_true rfl⟩ ⟨rfl, rfl⟩ hC hS hl.1 (by rw [tw_nI h2]; try rfl) (Nat.le_of_ble_eq_true rfl) ⟨Nat.le_of_ble_eq_true rfl, Nat.le_of_ble_eq_true rfl⟩ d_Tw_wholeM_45 ?_
        refine lv_goto (tgt := 71) hx hb d_Tw_wholeM_48 (by decide) ?_
        refine lv_topl (fun v11 ev11 => ?_)
        refine lv_lstore hx hb d_Tw_wholeM_71 hl (by decide) rfl (fun ls hl => ?_)
        have hl : lv_has ls 8 [(6, .long v11), (5, .int (1 : Int32)), (0, .ref h0), (1, .int k), (2, .int n), (3, .long a)] := hl
        refine lv_aload_n hx hb d_Tw_wholeM_73 rfl (lv_at hl 2 rfl) ?_
        refine va_get (D := (dC, dI)) (ci := 1) (v := .ref q0) (C := "NumberBenchModel") (T := F_TW) (N := 1) hx hb hts nb_uT hown hK hP 0 rfl rfl 0 (by decide) (hts _ (nb_c nb_t253)) (fun _ h => h) rfl d_Tw_wholeM_74 ?_
        refine lv_iload_n hx hb d_Tw_wholeM_77 rfl (lv_at hl 3 rfl) ?_
        refine lv_iload_n hx hb d_Tw_wholeM_78 rfl (lv_at hl 4 rfl) ?_
        refine lv_if_ne (tgt := 87) hx hb d_Tw_wholeM_79 (by decide) (fun h12 => ?_) (fun h12 => ?_)
        · refine lv_lload hx hb d_Tw_wholeM_87 (lv_at hl 0 rfl) ?_
          refine nb_callSl (As := [.long v11]) (rest := [.int k, .ref q0]) hx hb hml hown hts (c_Tw_toDouble l ad v11) nb_t370 nb_t371 nb_t2 nb_t372 hd_Tw_toDouble rfl ⟨Nat.le_of_ble_eq_true rfl, Nat.le_of_ble_eq_true rfl⟩ ⟨rfl, rfl⟩ hC hS hl.1 rfl (Nat.le_of_ble_eq_true rfl) ⟨Nat.le_of_ble_eq_true rfl, Nat.le_of_ble_eq_true rfl⟩ d_Tw_wholeM_89 ?_
          refine va_last hx hb hK hP hD hS 1 0 rfl rfl (tw_inS h1) d_Tw_wholeM_92 (fun H locs hP hD hS => ?_)
          have hP : va_P (dC, dI) nb_cl (nb_w 1 h0 q0 cA (vp_updL f k.toNatClampNeg (mf_Tw_toDouble v11))) H := hP
          have hD : va_D A (nb_w 1 h0 q0 cA (vp_updL f k.toNatClampNeg (mf_Tw_toDouble v11))) := hD
          refine lv_aload_n hx hb d_Tw_wholeM_93 rfl (lv_at hl 2 rfl) ?_
          refine va_get (D := (dC, dI)) (ci := 1) (v := .ref q0) (C := "NumberBenchModel") (T := F_TW) (N := 1) hx hb hts nb_uT hown hK hP 0 rfl rfl 0 (by decide) (hts _ (nb_c nb_t253)) (fun _ h => h) rfl d_Tw_wholeM_94 ?_
          refine lv_iload_n hx hb d_Tw_wholeM_97 rfl (lv_at hl 3 rfl) ?_
          refine va_lald hx hb hK hP 1 0 rfl rfl (tw_inS h1) d_Tw_wholeM_98 ?_
          refine nb_callSl (As := [.long ((vp_updL f k.toNatClampNeg (mf_Tw_toDouble v11)) k.toNatClampNeg)]) (rest := []) hx hb hml hown hts (c_Tw_told l ad ((vp_updL f k.toNatClampNeg (mf_Tw_toDouble v11)) k.toNatClampNeg)) nb_t376 nb_t377 nb_t2 nb_t378 hd_Tw_told rfl ⟨Nat.le_of_ble_eq_true rfl, Nat.le_of_ble_eq_true rfl⟩ ⟨rfl, rfl⟩ hC hS hl.1 rfl (Nat.le_of_ble_eq_true rfl) ⟨Nat.le_of_ble_eq_true rfl, Nat.le_of_ble_eq_true rfl⟩ d_Tw_wholeM_99 ?_
          exact W.lret hx hb hr (fun t ht hW => ⟨⟨_, _, rfl, (by subst ev11; rw [mf_Tw_wholeM, if_neg h1, if_neg h2, if_pos h3, if_neg h12]), by rw [ht]; exact hP, va_K.moved hW.alike hK, hD⟩, hS.F ht⟩) hS.2.2 d_Tw_wholeM_102
        · refine lv_lload hx hb d_Tw_wholeM_82 (lv_at hl 0 rfl) ?_
          refine lv_goto (tgt := 92) hx hb d_Tw_wholeM_84 (by decide) ?_
          refine va_last hx hb hK hP hD hS 1 0 rfl rfl (tw_inS h1) d_Tw_wholeM_92 (fun H locs hP hD hS => ?_)
          have hP : va_P (dC, dI) nb_cl (nb_w 1 h0 q0 cA (vp_updL f k.toNatClampNeg v11)) H := hP
          have hD : va_D A (nb_w 1 h0 q0 cA (vp_updL f k.toNatClampNeg v11)) := hD
          refine lv_aload_n hx hb d_Tw_wholeM_93 rfl (lv_at hl 2 rfl) ?_
          refine va_get (D := (dC, dI)) (ci := 1) (v := .ref q0) (C := "NumberBenchModel") (T := F_TW) (N := 1) hx hb hts nb_uT hown hK hP 0 rfl rfl 0 (by decide) (hts _ (nb_c nb_t253)) (fun _ h => h) rfl d_Tw_wholeM_94 ?_
          refine lv_iload_n hx hb d_Tw_wholeM_97 rfl (lv_at hl 3 rfl) ?_
          refine va_lald hx hb hK hP 1 0 rfl rfl (tw_inS h1) d_Tw_wholeM_98 ?_
          refine nb_callSl (As := [.long ((vp_updL f k.toNatClampNeg v11) k.toNatClampNeg)]) (rest := []) hx hb hml hown hts (c_Tw_told l ad ((vp_updL f k.toNatClampNeg v11) k.toNatClampNeg)) nb_t376 nb_t377 nb_t2 nb_t378 hd_Tw_told rfl ⟨Nat.le_of_ble_eq_true rfl, Nat.le_of_ble_eq_true rfl⟩ ⟨rfl, rfl⟩ hC hS hl.1 rfl (Nat.le_of_ble_eq_true rfl) ⟨Nat.le_of_ble_eq_true rfl, Nat.le_of_ble_eq_true rfl⟩ d_Tw_wholeM_99 ?_
          exact W.lret hx hb hr (fun t ht hW => ⟨⟨_, _, rfl, (by subst ev11; rw [mf_Tw_wholeM, if_neg h1, if_neg h2, if_pos h3, if_pos h12]), by rw [ht]; exact hP, va_K.moved hW.alike hK, hD⟩, hS.F ht⟩) hS.2.2 d_Tw_wholeM_102
    · refine lv_lconst (v := 1) hx hb d_Tw_wholeM_17 (by decide) ?_
      exact W.lret hx hb hr (fun t ht hW => ⟨⟨_, _, rfl, (by rw [mf_Tw_wholeM, if_neg h1, if_pos h2]), by rw [ht]; exact hP, va_K.moved hW.alike hK, hD⟩, hS.F ht⟩) hS.2.2 d_Tw_wholeM_18
def y_Tw_fromSingle : MethodName := ⟨"NumberBenchModel", "fromSingle", "(II)J"⟩
abbrev w_Tw_fromSingle : List Cond := Cond.code y_Tw_fromSingle prog_4_method_44_code 3 (Option.some FieldType.long) :: nb_tb
theorem hd_Tw_fromSingle : y_Tw_fromSingle.cls ≠ "java/lang/invoke/MethodHandle" ∧ y_Tw_fromSingle.cls ≠ "java/lang/invoke/VarHandle" ∧ (parseMethodDescriptor y_Tw_fromSingle.desc).map (fun d => d.parameters.length) = some 2 := by decide +kernel
theorem d_Tw_fromSingle_0 : decode prog_4_method_44_code 0 = .ok (.iload_n 1, 1) := by decide +kernel
theorem d_Tw_fromSingle_1 : decode prog_4_method_44_code 1 = .ok (.bipush 8, 2) := by decide +kernel
theorem d_Tw_fromSingle_3 : decode prog_4_method_44_code 3 = .ok (.invokestatic 139, 3) := by decide +kernel
theorem d_Tw_fromSingle_6 : decode prog_4_method_44_code 6 = .ok (.ifCond .ne 5, 3) := by decide +kernel
theorem d_Tw_fromSingle_9 : decode prog_4_method_44_code 9 = .ok (.lconst 1, 1) := by decide +kernel
theorem d_Tw_fromSingle_10 : decode prog_4_method_44_code 10 = .ok (.lreturn, 1) := by decide +kernel
theorem d_Tw_fromSingle_11 : decode prog_4_method_44_code 11 = .ok (.aload_n 0, 1) := by decide +kernel
theorem d_Tw_fromSingle_12 : decode prog_4_method_44_code 12 = .ok (.getfield 135, 3) := by decide +kernel
theorem d_Tw_fromSingle_15 : decode prog_4_method_44_code 15 = .ok (.iload_n 1, 1) := by decide +kernel
theorem d_Tw_fromSingle_16 : decode prog_4_method_44_code 16 = .ok (.iload_n 2, 1) := by decide +kernel
theorem d_Tw_fromSingle_17 : decode prog_4_method_44_code 17 = .ok (.invokestatic 186, 3) := by decide +kernel
theorem d_Tw_fromSingle_20 : decode prog_4_method_44_code 20 = .ok (.invokestatic 153, 3) := by decide +kernel
theorem d_Tw_fromSingle_23 : decode prog_4_method_44_code 23 = .ok (.lastore, 1) := by decide +kernel
theorem d_Tw_fromSingle_24 : decode prog_4_method_44_code 24 = .ok (.aload_n 0, 1) := by decide +kernel
theorem d_Tw_fromSingle_25 : decode prog_4_method_44_code 25 = .ok (.getfield 135, 3) := by decide +kernel
theorem d_Tw_fromSingle_28 : decode prog_4_method_44_code 28 = .ok (.iload_n 1, 1) := by decide +kernel
theorem d_Tw_fromSingle_29 : decode prog_4_method_44_code 29 = .ok (.laload, 1) := by decide +kernel
theorem d_Tw_fromSingle_30 : decode prog_4_method_44_code 30 = .ok (.invokestatic 164, 3) := by decide +kernel
theorem d_Tw_fromSingle_33 : decode prog_4_method_44_code 33 = .ok (.lreturn, 1) := by decide +kernel
set_option maxHeartbeats 1200000 in
set_option maxRecDepth 100000 in
theorem c_Tw_fromSingle (l : Launch) (ad : Nat → Nat) (dC : Nat → ClassId) (dI : Nat → Nat → Nat) (h0 q0 : Nat) (cA : ClassId) (sz : Nat) (f : Nat → Int64) (k : Int32) (n : Int32)  : Met l y_Tw_fromSingle w_Tw_fromSingle ({ frames := 6, cells := 0, slots := 0, locals := 145 } : Room) (va_Pc [.ref h0, .int k, .int n] (nb_V (dC, dI) 1 h0 q0 cA f ad sz)) (va_Ql (fun r f2 => (r, f2) = mf_Tw_fromSingle f k n) (nb_At (dC, dI) 1 (va_A (nb_w 1 h0 q0 cA f) sz) h0 q0 cA) (va_A (nb_w 1 h0 q0 cA f) sz)) 0 0 (va_A (nb_w 1 h0 q0 cA f) sz) := by
  refine Met.ofW (cc := prog_4_method_44_code) (maxL := 3) (ret := some .long) (by decide) rfl ?_
  intro p e s m args below meth c s₁ B hml hv
  obtain ⟨rfl, hsz, hP, hK, hD0, hC⟩ := hv
  have hx := B.exec
  have hb := B.bytes
  have hr := B.returns
  have hts := atoms_spec (ws := w_Tw_fromSingle) B.pre
  have hown : s.vm.findClass "NumberBenchModel" = some m.cls := findClass_of_methodNamed B.named
  have hlocks := B.notSynchronized
  subst hsz
  have hD := hD0.self (sz := s.heap.size)
  generalize va_A (nb_w 1 h0 q0 cA f) s.heap.size = A at hD hC ⊢
  have hS : va_S A s.heap s.heap [] := va_S.rf
  have hP : va_P (dC, dI) nb_cl (nb_w 1 h0 q0 cA f) s.heap := hP
  have hD : va_D A (nb_w 1 h0 q0 cA f) := hD
  have hl := lv_entry ([.ref h0, .int k, .int n]) (n := 3) (Nat.le_of_ble_eq_true rfl)
  rw [lg_entry_eq]
  generalize (lg_sl ([.ref h0, .int k, .int n]) ++ List.replicate (3 - (lg_sl ([.ref h0, .int k, .int n])).length) Slot.unset).toArray = ls at hl ⊢
  have hl : lv_has ls 3 [(0, .ref h0), (1, .int k), (2, .int n)] := hl
  refine lv_iload_n hx hb d_Tw_fromSingle_0 rfl (lv_at hl 1 rfl) ?_
  refine lv_bipush (v := 8) hx hb d_Tw_fromSingle_1 (by decide) ?_
  refine nb_callSi (As := [.int k, .int (8 : Int32)]) (rest := []) hx hb hml hown hts (c_Tw_in l ad k (8 : Int32)) nb_t261 nb_t262 nb_t2 nb_t263 hd_Tw_in rfl ⟨Nat.le_of_ble_eq_true rfl, Nat.le_of_ble_eq_true rfl⟩ ⟨rfl, rfl⟩ hC hS hl.1 rfl (Nat.le_of_ble_eq_true rfl) ⟨Nat.le_of_ble_eq_true rfl, Nat.le_of_ble_eq_true rfl⟩ d_Tw_fromSingle_3 ?_
  refine lv_if_ne (tgt := 11) hx hb d_Tw_fromSingle_6 (by decide) (fun h1 => ?_) (fun h1 => ?_)
  · refine lv_aload_n hx hb d_Tw_fromSingle_11 rfl (lv_at hl 0 rfl) ?_
    refine va_get (D := (dC, dI)) (ci := 1) (v := .ref q0) (C := "NumberBenchModel") (T := F_TW) (N := 1) hx hb hts nb_uT hown hK hP 0 rfl rfl 0 (by decide) (hts _ (nb_c nb_t253)) (fun _ h => h) rfl d_Tw_fromSingle_12 ?_
    refine lv_iload_n hx hb d_Tw_fromSingle_15 rfl (lv_at hl 1 rfl) ?_
    refine lv_iload_n hx hb d_Tw_fromSingle_16 rfl (lv_at hl 2 rfl) ?_
    refine nb_callSl (As := [.int n]) (rest := [.int k, .ref q0]) hx hb hml hown hts (c_Tw_floatOf l ad n) nb_t414 nb_t415 nb_t2 nb_t416 hd_Tw_floatOf rfl ⟨Nat.le_of_ble_eq_true rfl, Nat.le_of_ble_eq_true rfl⟩ ⟨rfl, rfl⟩ hC hS hl.1 rfl (Nat.le_of_ble_eq_true rfl) ⟨Nat.le_of_ble_eq_true rfl, Nat.le_of_ble_eq_true rfl⟩ d_Tw_fromSingle_17 ?_
    refine nb_callSl (As := [.long (mf_Tw_floatOf n)]) (rest := [.int k, .ref q0]) hx hb hml hown hts (c_Tw_toDouble l ad (mf_Tw_floatOf n)) nb_t370 nb_t371 nb_t2 nb_t372 hd_Tw_toDouble rfl ⟨Nat.le_of_ble_eq_true rfl, Nat.le_of_ble_eq_true rfl⟩ ⟨rfl, rfl⟩ hC hS hl.1 rfl (Nat.le_of_ble_eq_true rfl) ⟨Nat.le_of_ble_eq_true rfl, Nat.le_of_ble_eq_true rfl⟩ d_Tw_fromSingle_20 ?_
    refine va_last hx hb hK hP hD hS 1 0 rfl rfl (tw_inS h1) d_Tw_fromSingle_23 (fun H locs hP hD hS => ?_)
    have hP : va_P (dC, dI) nb_cl (nb_w 1 h0 q0 cA (vp_updL f k.toNatClampNeg (mf_Tw_toDouble (mf_Tw_floatOf n)))) H := hP
    have hD : va_D A (nb_w 1 h0 q0 cA (vp_updL f k.toNatClampNeg (mf_Tw_toDouble (mf_Tw_floatOf n)))) := hD
    refine lv_aload_n hx hb d_Tw_fromSingle_24 rfl (lv_at hl 0 rfl) ?_
    refine va_get (D := (dC, dI)) (ci := 1) (v := .ref q0) (C := "NumberBenchModel") (T := F_TW) (N := 1) hx hb hts nb_uT hown hK hP 0 rfl rfl 0 (by decide) (hts _ (nb_c nb_t253)) (fun _ h => h) rfl d_Tw_fromSingle_25 ?_
    refine lv_iload_n hx hb d_Tw_fromSingle_28 rfl (lv_at hl 1 rfl) ?_
    refine va_lald hx hb hK hP 1 0 rfl rfl (tw_inS h1) d_Tw_fromSingle_29 ?_
    refine nb_callSl (As := [.long ((vp_updL f k.toNatClampNeg (mf_Tw_toDouble (mf_Tw_floatOf n))) k.toNatClampNeg)]) (rest := []) hx hb hml hown hts (c_Tw_told l ad ((vp_updL f k.toNatClampNeg (mf_Tw_toDouble (mf_Tw_floatOf n))) k.toNatClampNeg)) nb_t376 nb_t377 nb_t2 nb_t378 hd_Tw_told rfl ⟨Nat.le_of_ble_eq_true rfl, Nat.le_of_ble_eq_true rfl⟩ ⟨rfl, rfl⟩ hC hS hl.1 rfl (Nat.le_of_ble_eq_true rfl) ⟨Nat.le_of_ble_eq_true rfl, Nat.le_of_ble_eq_true rfl⟩ d_Tw_fromSingle_30 ?_
    exact W.lret hx hb hr (fun t ht hW => ⟨⟨_, _, rfl, (by rw [mf_Tw_fromSingle, if_neg h1]), by rw [ht]; exact hP, va_K.moved hW.alike hK, hD⟩, hS.F ht⟩) hS.2.2 d_Tw_fromSingle_33
  · refine lv_lconst (v := 1) hx hb d_Tw_fromSingle_9 (by decide) ?_
    exact W.lret hx hb hr (fun t ht hW => ⟨⟨_, _, rfl, (by rw [mf_Tw_fromSingle, if_pos h1]), by rw [ht]; exact hP, va_K.moved hW.alike hK, hD⟩, hS.F ht⟩) hS.2.2 d_Tw_fromSingle_10
