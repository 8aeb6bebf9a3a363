def y_Nb_keep : MethodName := ⟨"NumberBench", "keep", "(IJ)I"⟩
abbrev w_Nb_keep : List Cond := Cond.code y_Nb_keep prog_1_method_2_code 4 (Option.some FieldType.int) :: nb_tb
theorem hd_Nb_keep : y_Nb_keep.cls ≠ "java/lang/invoke/MethodHandle" ∧ y_Nb_keep.cls ≠ "java/lang/invoke/VarHandle" ∧ (parseMethodDescriptor y_Nb_keep.desc).map (fun d => d.parameters.length) = some 2 := by decide +kernel
theorem d_Nb_keep_0 : decode prog_1_method_2_code 0 = .ok (.iload_n 1, 1) := by decide +kernel
theorem d_Nb_keep_1 : decode prog_1_method_2_code 1 = .ok (.invokestatic 13, 3) := by decide +kernel
theorem d_Nb_keep_4 : decode prog_1_method_2_code 4 = .ok (.ifCond .ne 5, 3) := by decide +kernel
theorem d_Nb_keep_7 : decode prog_1_method_2_code 7 = .ok (.iconst (-1), 1) := by decide +kernel
theorem d_Nb_keep_8 : decode prog_1_method_2_code 8 = .ok (.ireturn, 1) := by decide +kernel
theorem d_Nb_keep_9 : decode prog_1_method_2_code 9 = .ok (.aload_n 0, 1) := by decide +kernel
theorem d_Nb_keep_10 : decode prog_1_method_2_code 10 = .ok (.getfield 9, 3) := by decide +kernel
theorem d_Nb_keep_13 : decode prog_1_method_2_code 13 = .ok (.iload_n 1, 1) := by decide +kernel
theorem d_Nb_keep_14 : decode prog_1_method_2_code 14 = .ok (.getstatic 17, 3) := by decide +kernel
theorem d_Nb_keep_17 : decode prog_1_method_2_code 17 = .ok (.lload_n 2, 1) := by decide +kernel
theorem d_Nb_keep_18 : decode prog_1_method_2_code 18 = .ok (.invokevirtual 23, 3) := by decide +kernel
theorem d_Nb_keep_21 : decode prog_1_method_2_code 21 = .ok (.lastore, 1) := by decide +kernel
theorem d_Nb_keep_22 : decode prog_1_method_2_code 22 = .ok (.iconst 0, 1) := by decide +kernel
theorem d_Nb_keep_23 : decode prog_1_method_2_code 23 = .ok (.ireturn, 1) := by decide +kernel
set_option maxHeartbeats 1200000 in
set_option maxRecDepth 100000 in
theorem c_Nb_keep (l : Launch) (ad : Nat → Nat) (dC : Nat → ClassId) (dI : Nat → Nat → Nat) (h0 q0 : Nat) (cA : ClassId) (sz : Nat) (f : Nat → Int64) (k : Int32) (a : Int64)  : Met l y_Nb_keep w_Nb_keep ({ frames := 3, cells := 0, slots := 0, locals := 66 } : Room) (va_Pc [.ref h0, .int k, .long a] (nb_V (dC, dI) 0 h0 q0 cA f ad sz)) (va_Qi (fun r f2 => (r, f2) = mf_Nb_keep f k a) (nb_At (dC, dI) 0 (va_A (nb_w 0 h0 q0 cA f) sz) h0 q0 cA) (va_A (nb_w 0 h0 q0 cA f) sz)) 0 0 (va_A (nb_w 0 h0 q0 cA f) sz) := by
  refine Met.ofW (cc := prog_1_method_2_code) (maxL := 4) (ret := some .int) (by decide) rfl ?_
  intro p e s m args below meth c s₁ B hml hv
  obtain ⟨rfl, hsz, hP, hK, hD0, hC⟩ := hv
  have hx := B.exec
  have hb := B.bytes
  have hr := B.returns
  have hts := atoms_spec (ws := w_Nb_keep) B.pre
  have hown : s.vm.findClass "NumberBench" = some m.cls := findClass_of_methodNamed B.named
  have hlocks := B.notSynchronized
  subst hsz
  have hD := hD0.self (sz := s.heap.size)
  generalize va_A (nb_w 0 h0 q0 cA f) s.heap.size = A at hD hC ⊢
  have hS : va_S A s.heap s.heap [] := va_S.rf
  have hP : va_P (dC, dI) nb_cl (nb_w 0 h0 q0 cA f) s.heap := hP
  have hD : va_D A (nb_w 0 h0 q0 cA f) := hD
  have hl := lv_entry ([.ref h0, .int k, .long a]) (n := 4) (Nat.le_of_ble_eq_true rfl)
  rw [lg_entry_eq]
  generalize (lg_sl ([.ref h0, .int k, .long a]) ++ List.replicate (4 - (lg_sl ([.ref h0, .int k, .long a])).length) Slot.unset).toArray = ls at hl ⊢
  have hl : lv_has ls 4 [(0, .ref h0), (1, .int k), (2, .long a)] := hl
  refine lv_iload_n hx hb d_Nb_keep_0 rfl (lv_at hl 1 rfl) ?_
  refine nb_callSi (As := [.int k]) (rest := []) hx hb hml hown hts (c_Nb_isStore l ad k) nb_t25 nb_t26 nb_t1 nb_t27 hd_Nb_isStore rfl ⟨Nat.le_of_ble_eq_true rfl, Nat.le_of_ble_eq_true rfl⟩ ⟨rfl, rfl⟩ hC hS hl.1 rfl (Nat.le_of_ble_eq_true rfl) ⟨Nat.le_of_ble_eq_true rfl, Nat.le_of_ble_eq_true rfl⟩ d_Nb_keep_1 ?_
  refine lv_if_ne (tgt := 9) hx hb d_Nb_keep_4 (by decide) (fun h1 => ?_) (fun h1 => ?_)
  · refine lv_aload_n hx hb d_Nb_keep_9 rfl (lv_at hl 0 rfl) ?_
    refine va_get (D := (dC, dI)) (ci := 0) (v := .ref q0) (C := "NumberBench") (T := F_NB) (N := 1) hx hb hts nb_uN hown hK hP 0 rfl rfl 0 (by decide) (hts _ (nb_c nb_t16)) (fun _ h => h) rfl d_Nb_keep_10 ?_
    refine lv_iload_n hx hb d_Nb_keep_13 rfl (lv_at hl 1 rfl) ?_
    refine va_gets (v := .ref (ad 1)) hx hb (nb_Z1 hC) hS hown (hts _ (nb_c nb_t28)) (fun _ h => h) d_Nb_keep_14 ?_
    refine lv_lload_n hx hb d_Nb_keep_17 rfl (lv_at hl 2 rfl) ?_
    refine nb_callVl (As := [.long a]) (rest := [.int k, .ref q0]) hx hb hml hown hts (c_Fo_told l ad 1 a (by decide)) nb_t30 nb_t31 nb_t32 (by decide) nb_t4 nb_t33 hd_Fo_told rfl ⟨Nat.le_of_ble_eq_true rfl, Nat.le_of_ble_eq_true rfl⟩ ⟨rfl, rfl⟩ hC hS hl.1 rfl (Nat.le_of_ble_eq_true rfl) ⟨Nat.le_of_ble_eq_true rfl, Nat.le_of_ble_eq_true rfl⟩ d_Nb_keep_18 ?_
    refine va_last hx hb hK hP hD hS 1 0 rfl rfl (nb_inS h1) d_Nb_keep_21 (fun H locs hP hD hS => ?_)
    have hP : va_P (dC, dI) nb_cl (nb_w 0 h0 q0 cA (vp_updL f k.toNatClampNeg (mf_Fo_told 1 a))) H := hP
    have hD : va_D A (nb_w 0 h0 q0 cA (vp_updL f k.toNatClampNeg (mf_Fo_told 1 a))) := hD
    refine lv_iconst (v := 0) hx hb d_Nb_keep_22 (by decide) ?_
    exact W.iret hx hb hr (fun t ht hW => ⟨⟨_, _, rfl, (by rw [mf_Nb_keep, if_neg h1]), by rw [ht]; exact hP, va_K.moved hW.alike hK, hD⟩, hS.F ht⟩) hS.2.2 d_Nb_keep_23
  · refine lv_iconst (v := (-1)) hx hb d_Nb_keep_7 (by decide) ?_
    exact W.iret hx hb hr (fun t ht hW => ⟨⟨_, _, rfl, (by rw [mf_Nb_keep, if_pos h1]), by rw [ht]; exact hP, va_K.moved hW.alike hK, hD⟩, hS.F ht⟩) hS.2.2 d_Nb_keep_8
def y_Nb_reckon : MethodName := ⟨"NumberBench", "reckon", "(IIII)J"⟩
abbrev w_Nb_reckon : List Cond := Cond.code y_Nb_reckon prog_1_method_3_code 5 (Option.some FieldType.long) :: nb_tb
theorem hd_Nb_reckon : y_Nb_reckon.cls ≠ "java/lang/invoke/MethodHandle" ∧ y_Nb_reckon.cls ≠ "java/lang/invoke/VarHandle" ∧ (parseMethodDescriptor y_Nb_reckon.desc).map (fun d => d.parameters.length) = some 4 := by decide +kernel
theorem d_Nb_reckon_0 : decode prog_1_method_3_code 0 = .ok (.iload_n 1, 1) := by decide +kernel
theorem d_Nb_reckon_1 : decode prog_1_method_3_code 1 = .ok (.ifCond .lt 31, 3) := by decide +kernel
theorem d_Nb_reckon_4 : decode prog_1_method_3_code 4 = .ok (.iload_n 1, 1) := by decide +kernel
theorem d_Nb_reckon_5 : decode prog_1_method_3_code 5 = .ok (.bipush 14, 2) := by decide +kernel
theorem d_Nb_reckon_7 : decode prog_1_method_3_code 7 = .ok (.if_icmp .gt 25, 3) := by decide +kernel
theorem d_Nb_reckon_10 : decode prog_1_method_3_code 10 = .ok (.iload_n 2, 1) := by decide +kernel
theorem d_Nb_reckon_11 : decode prog_1_method_3_code 11 = .ok (.invokestatic 13, 3) := by decide +kernel
theorem d_Nb_reckon_14 : decode prog_1_method_3_code 14 = .ok (.ifCond .eq 18, 3) := by decide +kernel
theorem d_Nb_reckon_17 : decode prog_1_method_3_code 17 = .ok (.iload_n 3, 1) := by decide +kernel
theorem d_Nb_reckon_18 : decode prog_1_method_3_code 18 = .ok (.invokestatic 13, 3) := by decide +kernel
theorem d_Nb_reckon_21 : decode prog_1_method_3_code 21 = .ok (.ifCond .eq 11, 3) := by decide +kernel
theorem d_Nb_reckon_24 : decode prog_1_method_3_code 24 = .ok (.iload 4, 2) := by decide +kernel
theorem d_Nb_reckon_26 : decode prog_1_method_3_code 26 = .ok (.invokestatic 13, 3) := by decide +kernel
theorem d_Nb_reckon_29 : decode prog_1_method_3_code 29 = .ok (.ifCond .ne 5, 3) := by decide +kernel
theorem d_Nb_reckon_32 : decode prog_1_method_3_code 32 = .ok (.lconst 1, 1) := by decide +kernel
theorem d_Nb_reckon_33 : decode prog_1_method_3_code 33 = .ok (.lreturn, 1) := by decide +kernel
theorem d_Nb_reckon_34 : decode prog_1_method_3_code 34 = .ok (.aload_n 0, 1) := by decide +kernel
theorem d_Nb_reckon_35 : decode prog_1_method_3_code 35 = .ok (.getfield 9, 3) := by decide +kernel
theorem d_Nb_reckon_38 : decode prog_1_method_3_code 38 = .ok (.iload_n 2, 1) := by decide +kernel
theorem d_Nb_reckon_39 : decode prog_1_method_3_code 39 = .ok (.iload_n 1, 1) := by decide +kernel
theorem d_Nb_reckon_40 : decode prog_1_method_3_code 40 = .ok (.aload_n 0, 1) := by decide +kernel
theorem d_Nb_reckon_41 : decode prog_1_method_3_code 41 = .ok (.getfield 9, 3) := by decide +kernel
theorem d_Nb_reckon_44 : decode prog_1_method_3_code 44 = .ok (.iload_n 3, 1) := by decide +kernel
theorem d_Nb_reckon_45 : decode prog_1_method_3_code 45 = .ok (.laload, 1) := by decide +kernel
theorem d_Nb_reckon_46 : decode prog_1_method_3_code 46 = .ok (.aload_n 0, 1) := by decide +kernel
theorem d_Nb_reckon_47 : decode prog_1_method_3_code 47 = .ok (.getfield 9, 3) := by decide +kernel
theorem d_Nb_reckon_50 : decode prog_1_method_3_code 50 = .ok (.iload 4, 2) := by decide +kernel
theorem d_Nb_reckon_52 : decode prog_1_method_3_code 52 = .ok (.laload, 1) := by decide +kernel
theorem d_Nb_reckon_53 : decode prog_1_method_3_code 53 = .ok (.invokestatic 27, 3) := by decide +kernel
theorem d_Nb_reckon_56 : decode prog_1_method_3_code 56 = .ok (.lastore, 1) := by decide +kernel
theorem d_Nb_reckon_57 : decode prog_1_method_3_code 57 = .ok (.aload_n 0, 1) := by decide +kernel
theorem d_Nb_reckon_58 : decode prog_1_method_3_code 58 = .ok (.getfield 9, 3) := by decide +kernel
theorem d_Nb_reckon_61 : decode prog_1_method_3_code 61 = .ok (.iload_n 2, 1) := by decide +kernel
theorem d_Nb_reckon_62 : decode prog_1_method_3_code 62 = .ok (.laload, 1) := by decide +kernel
theorem d_Nb_reckon_63 : decode prog_1_method_3_code 63 = .ok (.lreturn, 1) := by decide +kernel
set_option maxHeartbeats 1200000 in
set_option maxRecDepth 100000 in
theorem c_Nb_reckon (l : Launch) (ad : Nat → Nat) (dC : Nat → ClassId) (dI : Nat → Nat → Nat) (h0 q0 : Nat) (cA : ClassId) (sz : Nat) (f : Nat → Int64) (o : Int32) (k : Int32) (x : Int32) (y : Int32)  : Met l y_Nb_reckon w_Nb_reckon ({ frames := 8, cells := 0, slots := 0, locals := 199 } : Room) (va_Pc [.ref h0, .int o, .int k, .int x, .int y] (nb_V (dC, dI) 0 h0 q0 cA f ad sz)) (va_Ql (fun r f2 => (r, f2) = mf_Nb_reckon f o k x y) (nb_At (dC, dI) 0 (va_A (nb_w 0 h0 q0 cA f) sz) h0 q0 cA) (va_A (nb_w 0 h0 q0 cA f) sz)) 0 0 (va_A (nb_w 0 h0 q0 cA f) sz) := by
  refine Met.ofW (cc := prog_1_method_3_code) (maxL := 5) (ret := some .long) (by decide) rfl ?_
  intro p e s m args below meth c s₁ B hml hv
  obtain ⟨rfl, hsz, hP, hK, hD0, hC⟩ := hv
  have hx := B.exec
  have hb := B.bytes
  have hr := B.returns
  have hts := atoms_spec (ws := w_Nb_reckon) B.pre
  have hown : s.vm.findClass "NumberBench" = some m.cls := findClass_of_methodNamed B.named
  have hlocks := B.notSynchronized
  subst hsz
  have hD := hD0.self (sz := s.heap.size)
  generalize va_A (nb_w 0 h0 q0 cA f) s.heap.size = A at hD hC ⊢
  have hS : va_S A s.heap s.heap [] := va_S.rf
  have hP : va_P (dC, dI) nb_cl (nb_w 0 h0 q0 cA f) s.heap := hP
  have hD : va_D A (nb_w 0 h0 q0 cA f) := hD
  have hl := lv_entry ([.ref h0, .int o, .int k, .int x, .int y]) (n := 5) (Nat.le_of_ble_eq_true rfl)
  rw [lg_entry_eq]
  generalize (lg_sl ([.ref h0, .int o, .int k, .int x, .int y]) ++ List.replicate (5 - (lg_sl ([.ref h0, .int o, .int k, .int x, .int y])).length) Slot.unset).toArray = ls at hl ⊢
  have hl : lv_has ls 5 [(0, .ref h0), (1, .int o), (2, .int k), (3, .int x), (4, .int y)] := hl
  refine lv_iload_n hx hb d_Nb_reckon_0 rfl (lv_at hl 1 rfl) ?_
  refine lv_if_lt (tgt := 32) hx hb d_Nb_reckon_1 (by decide) (fun h1 => ?_) (fun h1 => ?_)
  · refine lv_lconst (v := 1) hx hb d_Nb_reckon_32 (by decide) ?_
    exact W.lret hx hb hr (fun t ht hW => ⟨⟨_, _, rfl, (by rw [mf_Nb_reckon, if_pos h1]), by rw [ht]; exact hP, va_K.moved hW.alike hK, hD⟩, hS.F ht⟩) hS.2.2 d_Nb_reckon_33
  · refine lv_iload_n hx hb d_Nb_reckon_4 rfl (lv_at hl 1 rfl) ?_
    refine lv_bipush (v := 14) hx hb d_Nb_reckon_5 (by decide) ?_
    refine lv_icmp_gt (tgt := 32) hx hb d_Nb_reckon_7 (by decide) (fun h2 => ?_) (fun h2 => ?_)
    · refine lv_lconst (v := 1) hx hb d_Nb_reckon_32 (by decide) ?_
      exact W.lret hx hb hr (fun t ht hW => ⟨⟨_, _, rfl, (by rw [mf_Nb_reckon, if_neg h1, if_pos h2]), by rw [ht]; exact hP, va_K.moved hW.alike hK, hD⟩, hS.F ht⟩) hS.2.2 d_Nb_reckon_33
    · refine lv_iload_n hx hb d_Nb_reckon_10 rfl (lv_at hl 2 rfl) ?_
      refine nb_callSi (As := [.int k]) (rest := []) hx hb hml hown hts (c_Nb_isStore l ad k) nb_t25 nb_t26 nb_t1 nb_t27 hd_Nb_isStore rfl ⟨Nat.le_of_ble_eq_true rfl, Nat.le_of_ble_eq_true rfl⟩ ⟨rfl, rfl⟩ hC hS hl.1 rfl (Nat.le_of_ble_eq_true rfl) ⟨Nat.le_of_ble_eq_true rfl, Nat.le_of_ble_eq_true rfl⟩ d_Nb_reckon_11 ?_
      refine lv_if_eq (tgt := 32) hx hb d_Nb_reckon_14 (by decide) (fun h3 => ?_) (fun h3 => ?_)
      · refine lv_lconst (v := 1) hx hb d_Nb_reckon_32 (by decide) ?_
        exact W.lret hx hb hr (fun t ht hW => ⟨⟨_, _, rfl, (by rw [mf_Nb_reckon, if_neg h1, if_neg h2, if_pos h3]), by rw [ht]; exact hP, va_K.moved hW.alike hK, hD⟩, hS.F ht⟩) hS.2.2 d_Nb_reckon_33
      · refine lv_iload_n hx hb d_Nb_reckon_17 rfl (lv_at hl 3 rfl) ?_
        refine nb_callSi (As := [.int x]) (rest := []) hx hb hml hown hts (c_Nb_isStore l ad x) nb_t25 nb_t26 nb_t1 nb_t27 hd_Nb_isStore rfl ⟨Nat.le_of_ble_eq_true rfl, Nat.le_of_ble_eq_true rfl⟩ ⟨rfl, rfl⟩ hC hS hl.1 rfl (Nat.le_of_ble_eq_true rfl) ⟨Nat.le_of_ble_eq_true rfl, Nat.le_of_ble_eq_true rfl⟩ d_Nb_reckon_18 ?_
        refine lv_if_eq (tgt := 32) hx hb d_Nb_reckon_21 (by decide) (fun h4 => ?_) (fun h4 => ?_)
        · refine lv_lconst (v := 1) hx hb d_Nb_reckon_32 (by decide) ?_
          exact W.lret hx hb hr (fun t ht hW => ⟨⟨_, _, rfl, (by rw [mf_Nb_reckon, if_neg h1, if_neg h2, if_neg h3, if_pos h4]), by rw [ht]; exact hP, va_K.moved hW.alike hK, hD⟩, hS.F ht⟩) hS.2.2 d_Nb_reckon_33
        · refine lv_iload hx hb d_Nb_reckon_24 (lv_at hl 4 rfl) ?_
          refine nb_callSi (As := [.int y]) (rest := []) hx hb hml hown hts (c_Nb_isStore l ad y) nb_t25 nb_t26 nb_t1 nb_t27 hd_Nb_isStore rfl ⟨Nat.le_of_ble_eq_true rfl, Nat.le_of_ble_eq_true rfl⟩ ⟨rfl, rfl⟩ hC hS hl.1 rfl (Nat.le_of_ble_eq_true rfl) ⟨Nat.le_of_ble_eq_true rfl, Nat.le_of_ble_eq_true rfl⟩ d_Nb_reckon_26 ?_
          refine lv_if_ne (tgt := 34) hx hb d_Nb_reckon_29 (by decide) (fun h5 => ?_) (fun h5 => ?_)
          · refine lv_aload_n hx hb d_Nb_reckon_34 rfl (lv_at hl 0 rfl) ?_
            refine va_get (D := (dC, dI)) (ci := 0) (v := .ref q0) (C := "NumberBench") (T := F_NB) (N := 1) hx hb hts nb_uN hown hK hP 0 rfl rfl 0 (by decide) (hts _ (nb_c nb_t16)) (fun _ h => h) rfl d_Nb_reckon_35 ?_
            refine lv_iload_n hx hb d_Nb_reckon_38 rfl (lv_at hl 2 rfl) ?_
            refine lv_iload_n hx hb d_Nb_reckon_39 rfl (lv_at hl 1 rfl) ?_
            refine lv_aload_n hx hb d_Nb_reckon_40 rfl (lv_at hl 0 rfl) ?_
            refine va_get (D := (dC, dI)) (ci := 0) (v := .ref q0) (C := "NumberBench") (T := F_NB) (N := 1) hx hb hts nb_uN hown hK hP 0 rfl rfl 0 (by decide) (hts _ (nb_c nb_t16)) (fun _ h => h) rfl d_Nb_reckon_41 ?_
            refine lv_iload_n hx hb d_Nb_reckon_44 rfl (lv_at hl 3 rfl) ?_
            refine va_lald hx hb hK hP 1 0 rfl rfl (nb_inS h4) d_Nb_reckon_45 ?_
            refine lv_aload_n hx hb d_Nb_reckon_46 rfl (lv_at hl 0 rfl) ?_
            refine va_get (D := (dC, dI)) (ci := 0) (v := .ref q0) (C := "NumberBench") (T := F_NB) (N := 1) hx hb hts nb_uN hown hK hP 0 rfl rfl 0 (by decide) (hts _ (nb_c nb_t16)) (fun _ h => h) rfl d_Nb_reckon_47 ?_
            refine lv_iload hx hb d_Nb_reckon_50 (lv_at hl 4 rfl) ?_
            refine va_lald hx hb hK hP 1 0 rfl rfl (nb_inS h5) d_Nb_reckon_52 ?_
            refine nb_callSl (As := [.int o, .long (f x.toNatClampNeg), .long (f y.toNatClampNeg)]) (rest := [.int k, .ref q0]) hx hb hml hown hts (c_Nb_reckoned l ad o (f x.toNatClampNeg) (f y.toNatClampNeg)) nb_t47 nb_t48 nb_t1 nb_t49 hd_Nb_reckoned rfl ⟨Nat.le_of_ble_eq_true rfl, Nat.le_of_ble_eq_true rfl⟩ ⟨rfl, rfl⟩ hC hS hl.1 rfl (Nat.le_of_ble_eq_true rfl) ⟨Nat.le_of_ble_eq_true rfl, Nat.le_of_ble_eq_true rfl⟩ d_Nb_reckon_53 ?_
            refine va_last hx hb hK hP hD hS 1 0 rfl rfl (nb_inS h3) d_Nb_reckon_56 (fun H locs hP hD hS => ?_)
            have hP : va_P (dC, dI) nb_cl (nb_w 0 h0 q0 cA (vp_updL f k.toNatClampNeg (mf_Nb_reckoned o (f x.toNatClampNeg) (f y.toNatClampNeg)))) H := hP
            have hD : va_D A (nb_w 0 h0 q0 cA (vp_updL f k.toNatClampNeg (mf_Nb_reckoned o (f x.toNatClampNeg) (f y.toNatClampNeg)))) := hD
            refine lv_aload_n hx hb d_Nb_reckon_57 rfl (lv_at hl 0 rfl) ?_
            refine va_get (D := (dC, dI)) (ci := 0) (v := .ref q0) (C := "NumberBench") (T := F_NB) (N := 1) hx hb hts nb_uN hown hK hP 0 rfl rfl 0 (by decide) (hts _ (nb_c nb_t16)) (fun _ h => h) rfl d_Nb_reckon_58 ?_
            refine lv_iload_n hx hb d_Nb_reckon_61 rfl (lv_at hl 2 rfl) ?_
            refine va_lald hx hb hK hP 1 0 rfl rfl (nb_inS h3) d_Nb_reckon_62 ?_
            exact W.lret hx hb hr (fun t ht hW => ⟨⟨_, _, rfl, (by rw [mf_Nb_reckon, if_neg h1, if_neg h2, if_neg h3, if_neg h4, if_neg h5]), by rw [ht]; exact hP, va_K.moved hW.alike hK, hD⟩, hS.F ht⟩) hS.2.2 d_Nb_reckon_63
          · refine lv_lconst (v := 1) hx hb d_Nb_reckon_32 (by decide) ?_
            exact W.lret hx hb hr (fun t ht hW => ⟨⟨_, _, rfl, (by rw [mf_Nb_reckon, if_neg h1, if_neg h2, if_neg h3, if_neg h4, if_pos h5]), by rw [ht]; exact hP, va_K.moved hW.alike hK, hD⟩, hS.F ht⟩) hS.2.2 d_Nb_reckon_33
def y_Nb_whole : MethodName := ⟨"NumberBench", "whole", "(IIJ)J"⟩
abbrev w_Nb_whole : List Cond := Cond.code y_Nb_whole prog_1_method_4_code 5 (Option.some FieldType.long) :: nb_tb
theorem hd_Nb_whole : y_Nb_whole.cls ≠ "java/lang/invoke/MethodHandle" ∧ y_Nb_whole.cls ≠ "java/lang/invoke/VarHandle" ∧ (parseMethodDescriptor y_Nb_whole.desc).map (fun d => d.parameters.length) = some 3 := by decide +kernel
theorem d_Nb_whole_0 : decode prog_1_method_4_code 0 = .ok (.iload_n 1, 1) := by decide +kernel
theorem d_Nb_whole_1 : decode prog_1_method_4_code 1 = .ok (.invokestatic 13, 3) := by decide +kernel
theorem d_Nb_whole_4 : decode prog_1_method_4_code 4 = .ok (.ifCond .eq 12, 3) := by decide +kernel
theorem d_Nb_whole_7 : decode prog_1_method_4_code 7 = .ok (.iload_n 2, 1) := by decide +kernel
theorem d_Nb_whole_8 : decode prog_1_method_4_code 8 = .ok (.ifCond .lt 8, 3) := by decide +kernel
theorem d_Nb_whole_11 : decode prog_1_method_4_code 11 = .ok (.iload_n 2, 1) := by decide +kernel
theorem d_Nb_whole_12 : decode prog_1_method_4_code 12 = .ok (.iconst 1, 1) := by decide +kernel
theorem d_Nb_whole_13 : decode prog_1_method_4_code 13 = .ok (.if_icmp .le 5, 3) := by decide +kernel
theorem d_Nb_whole_16 : decode prog_1_method_4_code 16 = .ok (.lconst 1, 1) := by decide +kernel
theorem d_Nb_whole_17 : decode prog_1_method_4_code 17 = .ok (.lreturn, 1) := by decide +kernel
theorem d_Nb_whole_18 : decode prog_1_method_4_code 18 = .ok (.aload_n 0, 1) := by decide +kernel
theorem d_Nb_whole_19 : decode prog_1_method_4_code 19 = .ok (.getfield 9, 3) := by decide +kernel
theorem d_Nb_whole_22 : decode prog_1_method_4_code 22 = .ok (.iload_n 1, 1) := by decide +kernel
theorem d_Nb_whole_23 : decode prog_1_method_4_code 23 = .ok (.iload_n 2, 1) := by decide +kernel
theorem d_Nb_whole_24 : decode prog_1_method_4_code 24 = .ok (.ifCond .ne 13, 3) := by decide +kernel
theorem d_Nb_whole_27 : decode prog_1_method_4_code 27 = .ok (.getstatic 17, 3) := by decide +kernel
theorem d_Nb_whole_30 : decode prog_1_method_4_code 30 = .ok (.lload_n 3, 1) := by decide +kernel
theorem d_Nb_whole_31 : decode prog_1_method_4_code 31 = .ok (.invokevirtual 31, 3) := by decide +kernel
theorem d_Nb_whole_34 : decode prog_1_method_4_code 34 = .ok (.goto 13, 3) := by decide +kernel
theorem d_Nb_whole_37 : decode prog_1_method_4_code 37 = .ok (.getstatic 34, 3) := by decide +kernel
theorem d_Nb_whole_40 : decode prog_1_method_4_code 40 = .ok (.lload_n 3, 1) := by decide +kernel
theorem d_Nb_whole_41 : decode prog_1_method_4_code 41 = .ok (.invokevirtual 31, 3) := by decide +kernel
theorem d_Nb_whole_44 : decode prog_1_method_4_code 44 = .ok (.invokestatic 37, 3) := by decide +kernel
theorem d_Nb_whole_47 : decode prog_1_method_4_code 47 = .ok (.lastore, 1) := by decide +kernel
theorem d_Nb_whole_48 : decode prog_1_method_4_code 48 = .ok (.aload_n 0, 1) := by decide +kernel
theorem d_Nb_whole_49 : decode prog_1_method_4_code 49 = .ok (.getfield 9, 3) := by decide +kernel
theorem d_Nb_whole_52 : decode prog_1_method_4_code 52 = .ok (.iload_n 1, 1) := by decide +kernel
theorem d_Nb_whole_53 : decode prog_1_method_4_code 53 = .ok (.laload, 1) := by decide +kernel
theorem d_Nb_whole_54 : decode prog_1_method_4_code 54 = .ok (.lreturn, 1) := by decide +kernel
set_option maxHeartbeats 1200000 in
set_option maxRecDepth 100000 in
theorem c_Nb_whole (l : Launch) (ad : Nat → Nat) (dC : Nat → ClassId) (dI : Nat → Nat → Nat) (h0 q0 : Nat) (cA : ClassId) (sz : Nat) (f : Nat → Int64) (k : Int32) (n : Int32) (a : Int64)  : Met l y_Nb_whole w_Nb_whole ({ frames := 5, cells := 0, slots := 0, locals := 117 } : Room) (va_Pc [.ref h0, .int k, .int n, .long a] (nb_V (dC, dI) 0 h0 q0 cA f ad sz)) (va_Ql (fun r f2 => (r, f2) = mf_Nb_whole f k n a) (nb_At (dC, dI) 0 (va_A (nb_w 0 h0 q0 cA f) sz) h0 q0 cA) (va_A (nb_w 0 h0 q0 cA f) sz)) 0 0 (va_A (nb_w 0 h0 q0 cA f) sz) := by
  refine Met.ofW (cc := prog_1_method_4_code) (maxL := 5) (ret := some .long) (by decide) rfl ?_
  intro p e s m args below meth c s₁ B hml hv
  obtain ⟨rfl, hsz, hP, hK, hD0, hC⟩ := hv
  have hx := B.exec
  have hb := B.bytes
  have hr := B.returns
  have hts := atoms_spec (ws := w_Nb_whole) B.pre
  have hown : s.vm.findClass "NumberBench" = some m.cls := findClass_of_methodNamed B.named
  have hlocks := B.notSynchronized
  subst hsz
  have hD := hD0.self (sz := s.heap.size)
  generalize va_A (nb_w 0 h0 q0 cA f) s.heap.size = A at hD hC ⊢
  have hS : va_S A s.heap s.heap [] := va_S.rf
  have hP : va_P (dC, dI) nb_cl (nb_w 0 h0 q0 cA f) s.heap := hP
  have hD : va_D A (nb_w 0 h0 q0 cA f) := hD
  have hl := lv_entry ([.ref h0, .int k, .int n, .long a]) (n := 5) (Nat.le_of_ble_eq_true rfl)
  rw [lg_entry_eq]
  generalize (lg_sl ([.ref h0, .int k, .int n, .long a]) ++ List.replicate (5 - (lg_sl ([.ref h0, .int k, .int n, .long a])).length) Slot.unset).toArray = ls at hl ⊢
  have hl : lv_has ls 5 [(0, .ref h0), (1, .int k), (2, .int n), (3, .long a)] := hl
  refine lv_iload_n hx hb d_Nb_whole_0 rfl (lv_at hl 1 rfl) ?_
  refine nb_callSi (As := [.int k]) (rest := []) hx hb hml hown hts (c_Nb_isStore l ad k) nb_t25 nb_t26 nb_t1 nb_t27 hd_Nb_isStore rfl ⟨Nat.le_of_ble_eq_true rfl, Nat.le_of_ble_eq_true rfl⟩ ⟨rfl, rfl⟩ hC hS hl.1 rfl (Nat.le_of_ble_eq_true rfl) ⟨Nat.le_of_ble_eq_true rfl, Nat.le_of_ble_eq_true rfl⟩ d_Nb_whole_1 ?_
  refine lv_if_eq (tgt := 16) hx hb d_Nb_whole_4 (by decide) (fun h1 => ?_) (fun h1 => ?_)
  · refine lv_lconst (v := 1) hx hb d_Nb_whole_16 (by decide) ?_
    exact W.lret hx hb hr (fun t ht hW => ⟨⟨_, _, rfl, (by rw [mf_Nb_whole, if_pos h1]), by rw [ht]; exact hP, va_K.moved hW.alike hK, hD⟩, hS.F ht⟩) hS.2.2 d_Nb_whole_17
  · refine lv_iload_n hx hb d_Nb_whole_7 rfl (lv_at hl 2 rfl) ?_
    refine lv_if_lt (tgt := 16) hx hb d_Nb_whole_8 (by decide) (fun h2 => ?_) (fun h2 => ?_)
    · refine lv_lconst (v := 1) hx hb d_Nb_whole_16 (by decide) ?_
      exact W.lret hx hb hr (fun t ht hW => ⟨⟨_, _, rfl, (by rw [mf_Nb_whole, if_neg h1, if_pos h2]), by rw [ht]; exact hP, va_K.moved hW.alike hK, hD⟩, hS.F ht⟩) hS.2.2 d_Nb_whole_17
    · refine lv_iload_n hx hb d_Nb_whole_11 rfl (lv_at hl 2 rfl) ?_
      refine lv_iconst (v := 1) hx hb d_Nb_whole_12 (by decide) ?_
      refine lv_icmp_le (tgt := 18) hx hb d_Nb_whole_13 (by decide) (fun h3 => ?_) (fun h3 => ?_)
      · refine lv_aload_n hx hb d_Nb_whole_18 rfl (lv_at hl 0 rfl) ?_
        refine va_get (D := (dC, dI)) (ci := 0) (v := .ref q0) (C := "NumberBench") (T := F_NB) (N := 1) hx hb hts nb_uN hown hK hP 0 rfl rfl 0 (by decide) (hts _ (nb_c nb_t16)) (fun _ h => h) rfl d_Nb_whole_19 ?_
        refine lv_iload_n hx hb d_Nb_whole_22 rfl (lv_at hl 1 rfl) ?_
        refine lv_iload_n hx hb d_Nb_whole_23 rfl (lv_at hl 2 rfl) ?_
        refine lv_if_ne (tgt := 37) hx hb d_Nb_whole_24 (by decide) (fun h4 => ?_) (fun h4 => ?_)
        · refine va_gets (v := .ref (ad 0)) hx hb (nb_Z0 hC) hS hown (hts _ (nb_c nb_t152)) (fun _ h => h) d_Nb_whole_37 ?_
          refine lv_lload_n hx hb d_Nb_whole_40 rfl (lv_at hl 3 rfl) ?_
          refine nb_callVl (As := [.long a]) (rest := [.int k, .ref q0]) hx hb hml hown hts (c_Fo_ofWhole l ad 0 a (by decide)) nb_t185 nb_t186 nb_t187 (by decide) nb_t4 nb_t188 hd_Fo_ofWhole rfl ⟨Nat.le_of_ble_eq_true rfl, Nat.le_of_ble_eq_true rfl⟩ ⟨rfl, rfl⟩ hC hS hl.1 rfl (Nat.le_of_ble_eq_true rfl) ⟨Nat.le_of_ble_eq_true rfl, Nat.le_of_ble_eq_true rfl⟩ d_Nb_whole_41 ?_
          refine nb_callSl (As := [.long (mf_Fo_ofWhole 0 a)]) (rest := [.int k, .ref q0]) hx hb hml hown hts (c_Nb_widened l ad (mf_Fo_ofWhole 0 a)) nb_t161 nb_t162 nb_t1 nb_t163 hd_Nb_widened rfl ⟨Nat.le_of_ble_eq_true rfl, Nat.le_of_ble_eq_true rfl⟩ ⟨rfl, rfl⟩ hC hS hl.1 rfl (Nat.le_of_ble_eq_true rfl) ⟨Nat.le_of_ble_eq_true rfl, Nat.le_of_ble_eq_true rfl⟩ d_Nb_whole_44 ?_
          refine va_last hx hb hK hP hD hS 1 0 rfl rfl (nb_inS h1) d_Nb_whole_47 (fun H locs hP hD hS => ?_)
          have hP : va_P (dC, dI) nb_cl (nb_w 0 h0 q0 cA (vp_updL f k.toNatClampNeg (mf_Nb_widened (mf_Fo_ofWhole 0 a)))) H := hP
          have hD : va_D A (nb_w 0 h0 q0 cA (vp_updL f k.toNatClampNeg (mf_Nb_widened (mf_Fo_ofWhole 0 a)))) := hD
          refine lv_aload_n hx hb d_Nb_whole_48 rfl (lv_at hl 0 rfl) ?_
          refine va_get (D := (dC, dI)) (ci := 0) (v := .ref q0) (C := "NumberBench") (T := F_NB) (N := 1) hx hb hts nb_uN hown hK hP 0 rfl rfl 0 (by decide) (hts _ (nb_c nb_t16)) (fun _ h => h) rfl d_Nb_whole_49 ?_
          refine lv_iload_n hx hb d_Nb_whole_52 rfl (lv_at hl 1 rfl) ?_
          refine va_lald hx hb hK hP 1 0 rfl rfl (nb_inS h1) d_Nb_whole_53 ?_
          exact W.lret hx hb hr (fun t ht hW => ⟨⟨_, _, rfl, (by rw [mf_Nb_whole, if_neg h1, if_neg h2, if_pos h3, if_neg h4]), by rw [ht]; exact hP, va_K.moved hW.alike hK, hD⟩, hS.F ht⟩) hS.2.2 d_Nb_whole_54
        · refine va_gets (v := .ref (ad 1)) hx hb (nb_Z1 hC) hS hown (hts _ (nb_c nb_t28)) (fun _ h => h) d_Nb_whole_27 ?_
          refine lv_lload_n hx hb d_Nb_whole_30 rfl (lv_at hl 3 rfl) ?_
          refine nb_callVl (As := [.long a]) (rest := [.int k, .ref q0]) hx hb hml hown hts (c_Fo_ofWhole l ad 1 a (by decide)) nb_t185 nb_t186 nb_t187 (by decide) nb_t4 nb_t188 hd_Fo_ofWhole rfl ⟨Nat.le_of_ble_eq_true rfl, Nat.le_of_ble_eq_true rfl⟩ ⟨rfl, rfl⟩ hC hS hl.1 rfl (Nat.le_of_ble_eq_true rfl) ⟨Nat.le_of_ble_eq_true rfl, Nat.le_of_ble_eq_true rfl⟩ d_Nb_whole_31 ?_
          refine lv_goto (tgt := 47) hx hb d_Nb_whole_34 (by decide) ?_
          refine va_last hx hb hK hP hD hS 1 0 rfl rfl (nb_inS h1) d_Nb_whole_47 (fun H locs hP hD hS => ?_)
          have hP : va_P (dC, dI) nb_cl (nb_w 0 h0 q0 cA (vp_updL f k.toNatClampNeg (mf_Fo_ofWhole 1 a))) H := hP
          have hD : va_D A (nb_w 0 h0 q0 cA (vp_updL f k.toNatClampNeg (mf_Fo_ofWhole 1 a))) := hD
          refine lv_aload_n hx hb d_Nb_whole_48 rfl (lv_at hl 0 rfl) ?_
          refine va_get (D := (dC, dI)) (ci := 0) (v := .ref q0) (C := "NumberBench") (T := F_NB) (N := 1) hx hb hts nb_uN hown hK hP 0 rfl rfl 0 (by decide) (hts _ (nb_c nb_t16)) (fun _ h => h) rfl d_Nb_whole_49 ?_
          refine lv_iload_n hx hb d_Nb_whole_52 rfl (lv_at hl 1 rfl) ?_
          refine va_lald hx hb hK hP 1 0 rfl rfl (nb_inS h1) d_Nb_whole_53 ?_
          exact W.lret hx hb hr (fun t ht hW => ⟨⟨_, _, rfl, (by rw [mf_Nb_whole, if_neg h1, if_neg h2, if_pos h3, if_pos h4]), by rw [ht]; exact hP, va_K.moved hW.alike hK, hD⟩, hS.F ht⟩) hS.2.2 d_Nb_whole_54
      · refine lv_lconst (v := 1) hx hb d_Nb_whole_16 (by decide) ?_
        exact W.lret hx hb hr (fun t ht hW => ⟨⟨_, _, rfl, (by rw [mf_Nb_whole, if_neg h1, if_neg h2, if_neg h3]), by rw [ht]; exact hP, va_K.moved hW.alike hK, hD⟩, hS.F ht⟩) hS.2.2 d_Nb_whole_17
def y_Nb_fromSingle : MethodName := ⟨"NumberBench", "fromSingle", "(II)J"⟩
abbrev w_Nb_fromSingle : List Cond := Cond.code y_Nb_fromSingle prog_1_method_9_code 3 (Option.some FieldType.long) :: nb_tb
theorem hd_Nb_fromSingle : y_Nb_fromSingle.cls ≠ "java/lang/invoke/MethodHandle" ∧ y_Nb_fromSingle.cls ≠ "java/lang/invoke/VarHandle" ∧ (parseMethodDescriptor y_Nb_fromSingle.desc).map (fun d => d.parameters.length) = some 2 := by decide +kernel
theorem d_Nb_fromSingle_0 : decode prog_1_method_9_code 0 = .ok (.iload_n 1, 1) := by decide +kernel
theorem d_Nb_fromSingle_1 : decode prog_1_method_9_code 1 = .ok (.invokestatic 13, 3) := by decide +kernel
theorem d_Nb_fromSingle_4 : decode prog_1_method_9_code 4 = .ok (.ifCond .ne 5, 3) := by decide +kernel
theorem d_Nb_fromSingle_7 : decode prog_1_method_9_code 7 = .ok (.lconst 1, 1) := by decide +kernel
theorem d_Nb_fromSingle_8 : decode prog_1_method_9_code 8 = .ok (.lreturn, 1) := by decide +kernel
theorem d_Nb_fromSingle_9 : decode prog_1_method_9_code 9 = .ok (.aload_n 0, 1) := by decide +kernel
theorem d_Nb_fromSingle_10 : decode prog_1_method_9_code 10 = .ok (.getfield 9, 3) := by decide +kernel
theorem d_Nb_fromSingle_13 : decode prog_1_method_9_code 13 = .ok (.iload_n 1, 1) := by decide +kernel
theorem d_Nb_fromSingle_14 : decode prog_1_method_9_code 14 = .ok (.iload_n 2, 1) := by decide +kernel
theorem d_Nb_fromSingle_15 : decode prog_1_method_9_code 15 = .ok (.i2l, 1) := by decide +kernel
theorem d_Nb_fromSingle_16 : decode prog_1_method_9_code 16 = .ok (.ldc2_w 71, 3) := by decide +kernel
theorem d_Nb_fromSingle_19 : decode prog_1_method_9_code 19 = .ok (.land, 1) := by decide +kernel
theorem d_Nb_fromSingle_20 : decode prog_1_method_9_code 20 = .ok (.invokestatic 37, 3) := by decide +kernel
theorem d_Nb_fromSingle_23 : decode prog_1_method_9_code 23 = .ok (.lastore, 1) := by decide +kernel
theorem d_Nb_fromSingle_24 : decode prog_1_method_9_code 24 = .ok (.aload_n 0, 1) := by decide +kernel
theorem d_Nb_fromSingle_25 : decode prog_1_method_9_code 25 = .ok (.getfield 9, 3) := by decide +kernel
theorem d_Nb_fromSingle_28 : decode prog_1_method_9_code 28 = .ok (.iload_n 1, 1) := by decide +kernel
theorem d_Nb_fromSingle_29 : decode prog_1_method_9_code 29 = .ok (.laload, 1) := by decide +kernel
theorem d_Nb_fromSingle_30 : decode prog_1_method_9_code 30 = .ok (.lreturn, 1) := by decide +kernel
set_option maxHeartbeats 1200000 in
set_option maxRecDepth 100000 in
theorem c_Nb_fromSingle (l : Launch) (ad : Nat → Nat) (dC : Nat → ClassId) (dI : Nat → Nat → Nat) (h0 q0 : Nat) (cA : ClassId) (sz : Nat) (f : Nat → Int64) (k : Int32) (n : Int32)  : Met l y_Nb_fromSingle w_Nb_fromSingle ({ frames := 5, cells := 0, slots := 0, locals := 117 } : Room) (va_Pc [.ref h0, .int k, .int n] (nb_V (dC, dI) 0 h0 q0 cA f ad sz)) (va_Ql (fun r f2 => (r, f2) = mf_Nb_fromSingle f k n) (nb_At (dC, dI) 0 (va_A (nb_w 0 h0 q0 cA f) sz) h0 q0 cA) (va_A (nb_w 0 h0 q0 cA f) sz)) 0 0 (va_A (nb_w 0 h0 q0 cA f) sz) := by
  refine Met.ofW (cc := prog_1_method_9_code) (maxL := 3) (ret := some .long) (by decide) rfl ?_
  intro p e s m args below meth c s₁ B hml hv
  obtain ⟨rfl, hsz, hP, hK, hD0, hC⟩ := hv
  have hx := B.exec
  have hb := B.bytes
  have hr := B.returns
  have hts := atoms_spec (ws := w_Nb_fromSingle) B.pre
  have hown : s.vm.findClass "NumberBench" = some m.cls := findClass_of_methodNamed B.named
  have hlocks := B.notSynchronized
  subst hsz
  have hD := hD0.self (sz := s.heap.size)
  generalize va_A (nb_w 0 h0 q0 cA f) s.heap.size = A at hD hC ⊢
  have hS : va_S A s.heap s.heap [] := va_S.rf
  have hP : va_P (dC, dI) nb_cl (nb_w 0 h0 q0 cA f) s.heap := hP
  have hD : va_D A (nb_w 0 h0 q0 cA f) := hD
  have hl := lv_entry ([.ref h0, .int k, .int n]) (n := 3) (Nat.le_of_ble_eq_true rfl)
  rw [lg_entry_eq]
  generalize (lg_sl ([.ref h0, .int k, .int n]) ++ List.replicate (3 - (lg_sl ([.ref h0, .int k, .int n])).length) Slot.unset).toArray = ls at hl ⊢
  have hl : lv_has ls 3 [(0, .ref h0), (1, .int k), (2, .int n)] := hl
  refine lv_iload_n hx hb d_Nb_fromSingle_0 rfl (lv_at hl 1 rfl) ?_
  refine nb_callSi (As := [.int k]) (rest := []) hx hb hml hown hts (c_Nb_isStore l ad k) nb_t25 nb_t26 nb_t1 nb_t27 hd_Nb_isStore rfl ⟨Nat.le_of_ble_eq_true rfl, Nat.le_of_ble_eq_true rfl⟩ ⟨rfl, rfl⟩ hC hS hl.1 rfl (Nat.le_of_ble_eq_true rfl) ⟨Nat.le_of_ble_eq_true rfl, Nat.le_of_ble_eq_true rfl⟩ d_Nb_fromSingle_1 ?_
  refine lv_if_ne (tgt := 9) hx hb d_Nb_fromSingle_4 (by decide) (fun h1 => ?_) (fun h1 => ?_)
  · refine lv_aload_n hx hb d_Nb_fromSingle_9 rfl (lv_at hl 0 rfl) ?_
    refine va_get (D := (dC, dI)) (ci := 0) (v := .ref q0) (C := "NumberBench") (T := F_NB) (N := 1) hx hb hts nb_uN hown hK hP 0 rfl rfl 0 (by decide) (hts _ (nb_c nb_t16)) (fun _ h => h) rfl d_Nb_fromSingle_10 ?_
    refine lv_iload_n hx hb d_Nb_fromSingle_13 rfl (lv_at hl 1 rfl) ?_
    refine lv_iload_n hx hb d_Nb_fromSingle_14 rfl (lv_at hl 2 rfl) ?_
    refine lv_i2l hx hb d_Nb_fromSingle_15 rfl ?_
    refine lv_ldc2 (v := (4294967295 : Int64)) hx hb hown (hts (.constantLong "NumberBench" 71 (4294967295 : Int64)) (nb_c nb_t230)) d_Nb_fromSingle_16 ?_
    refine lv_land hx hb d_Nb_fromSingle_19 ?_
    refine nb_callSl (As := [.long (n.toInt64 &&& (4294967295 : Int64))]) (rest := [.int k, .ref q0]) hx hb hml hown hts (c_Nb_widened l ad (n.toInt64 &&& (4294967295 : Int64))) nb_t161 nb_t162 nb_t1 nb_t163 hd_Nb_widened rfl ⟨Nat.le_of_ble_eq_true rfl, Nat.le_of_ble_eq_true rfl⟩ ⟨rfl, rfl⟩ hC hS hl.1 rfl (Nat.le_of_ble_eq_true rfl) ⟨Nat.le_of_ble_eq_true rfl, Nat.le_of_ble_eq_true rfl⟩ d_Nb_fromSingle_20 ?_
    refine va_last hx hb hK hP hD hS 1 0 rfl rfl (nb_inS h1) d_Nb_fromSingle_23 (fun H locs hP hD hS => ?_)
    have hP : va_P (dC, dI) nb_cl (nb_w 0 h0 q0 cA (vp_updL f k.toNatClampNeg (mf_Nb_widened (n.toInt64 &&& (4294967295 : Int64))))) H := hP
    have hD : va_D A (nb_w 0 h0 q0 cA (vp_updL f k.toNatClampNeg (mf_Nb_widened (n.toInt64 &&& (4294967295 : Int64))))) := hD
    refine lv_aload_n hx hb d_Nb_fromSingle_24 rfl (lv_at hl 0 rfl) ?_
    refine va_get (D := (dC, dI)) (ci := 0) (v := .ref q0) (C := "NumberBench") (T := F_NB) (N := 1) hx hb hts nb_uN hown hK hP 0 rfl rfl 0 (by decide) (hts _ (nb_c nb_t16)) (fun _ h => h) rfl d_Nb_fromSingle_25 ?_
    refine lv_iload_n hx hb d_Nb_fromSingle_28 rfl (lv_at hl 1 rfl) ?_
    refine va_lald hx hb hK hP 1 0 rfl rfl (nb_inS h1) d_Nb_fromSingle_29 ?_
    exact W.lret hx hb hr (fun t ht hW => ⟨⟨_, _, rfl, (by rw [mf_Nb_fromSingle, if_neg h1]), by rw [ht]; exact hP, va_K.moved hW.alike hK, hD⟩, hS.F ht⟩) hS.2.2 d_Nb_fromSingle_30
  · refine lv_lconst (v := 1) hx hb d_Nb_fromSingle_7 (by decide) ?_
    exact W.lret hx hb hr (fun t ht hW => ⟨⟨_, _, rfl, (by rw [mf_Nb_fromSingle, if_pos h1]), by rw [ht]; exact hP, va_K.moved hW.alike hK, hD⟩, hS.F ht⟩) hS.2.2 d_Nb_fromSingle_8
