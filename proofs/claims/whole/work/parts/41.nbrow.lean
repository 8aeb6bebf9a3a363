def y_Nb_plainSum : MethodName := ⟨"NumberBench", "plainSum", "()J"⟩
abbrev w_Nb_plainSum : List Cond := Cond.code y_Nb_plainSum prog_1_method_21_code 4 (Option.some FieldType.long) :: nb_tb
theorem hd_Nb_plainSum : y_Nb_plainSum.cls ≠ "java/lang/invoke/MethodHandle" ∧ y_Nb_plainSum.cls ≠ "java/lang/invoke/VarHandle" ∧ (parseMethodDescriptor y_Nb_plainSum.desc).map (fun d => d.parameters.length) = some 0 := by decide +kernel
theorem d_Nb_plainSum_0 : decode prog_1_method_21_code 0 = .ok (.lconst 0, 1) := by decide +kernel
theorem d_Nb_plainSum_1 : decode prog_1_method_21_code 1 = .ok (.lstore_n 1, 1) := by decide +kernel
theorem d_Nb_plainSum_2 : decode prog_1_method_21_code 2 = .ok (.iconst 0, 1) := by decide +kernel
theorem d_Nb_plainSum_3 : decode prog_1_method_21_code 3 = .ok (.istore_n 3, 1) := by decide +kernel
theorem d_Nb_plainSum_4 : decode prog_1_method_21_code 4 = .ok (.iload_n 3, 1) := by decide +kernel
theorem d_Nb_plainSum_5 : decode prog_1_method_21_code 5 = .ok (.bipush 8, 2) := by decide +kernel
theorem d_Nb_plainSum_7 : decode prog_1_method_21_code 7 = .ok (.if_icmp .ge 23, 3) := by decide +kernel
theorem d_Nb_plainSum_10 : decode prog_1_method_21_code 10 = .ok (.getstatic 17, 3) := by decide +kernel
theorem d_Nb_plainSum_13 : decode prog_1_method_21_code 13 = .ok (.lload_n 1, 1) := by decide +kernel
theorem d_Nb_plainSum_14 : decode prog_1_method_21_code 14 = .ok (.aload_n 0, 1) := by decide +kernel
theorem d_Nb_plainSum_15 : decode prog_1_method_21_code 15 = .ok (.getfield 9, 3) := by decide +kernel
theorem d_Nb_plainSum_18 : decode prog_1_method_21_code 18 = .ok (.iload_n 3, 1) := by decide +kernel
theorem d_Nb_plainSum_19 : decode prog_1_method_21_code 19 = .ok (.laload, 1) := by decide +kernel
theorem d_Nb_plainSum_20 : decode prog_1_method_21_code 20 = .ok (.invokevirtual 65, 3) := by decide +kernel
theorem d_Nb_plainSum_23 : decode prog_1_method_21_code 23 = .ok (.lstore_n 1, 1) := by decide +kernel
theorem d_Nb_plainSum_24 : decode prog_1_method_21_code 24 = .ok (.iinc 3 1, 3) := by decide +kernel
theorem d_Nb_plainSum_27 : decode prog_1_method_21_code 27 = .ok (.goto (-23), 3) := by decide +kernel
theorem d_Nb_plainSum_30 : decode prog_1_method_21_code 30 = .ok (.lload_n 1, 1) := by decide +kernel
theorem d_Nb_plainSum_31 : decode prog_1_method_21_code 31 = .ok (.lreturn, 1) := by decide +kernel
set_option maxHeartbeats 1200000 in
set_option maxRecDepth 100000 in
theorem c_Nb_plainSum (l : Launch) (ad : Nat → Nat) (dC : Nat → ClassId) (dI : Nat → Nat → Nat) (h0 q0 : Nat) (cA : ClassId) (f : Nat → Int64)  : Met l y_Nb_plainSum w_Nb_plainSum ({ frames := 5, cells := 0, slots := 0, locals := 126 } : Room) (va_Pc [.ref h0] (nb_W (dC, dI) 0 h0 q0 cA f ad)) (vp_Sl (fun r => r = mf_Nb_plainSum f)) 0 0 (fun _ => False) := by
  refine Met.ofW (cc := prog_1_method_21_code) (maxL := 4) (ret := some .long) (by decide) rfl ?_
  intro p e s m args below meth c s₁ B hml hv
  obtain ⟨rfl, hP, hK, hC⟩ := hv
  have hx := B.exec
  have hb := B.bytes
  have hr := B.returns
  have hts := atoms_spec (ws := w_Nb_plainSum) B.pre
  have hown : s.vm.findClass "NumberBench" = some m.cls := findClass_of_methodNamed B.named
  have hlocks := B.notSynchronized
  have hC : nb_C ad (fun _ => False) s s.heap := hC
  have hS : va_S (fun _ => False) s.heap s.heap [] := va_S.rf
  have hl := lv_entry ([.ref h0]) (n := 4) (Nat.le_of_ble_eq_true rfl)
  rw [lg_entry_eq]
  generalize (lg_sl ([.ref h0]) ++ List.replicate (4 - (lg_sl ([.ref h0])).length) Slot.unset).toArray = ls at hl ⊢
  have hl : lv_has ls 4 [(0, .ref h0)] := hl
  have b4 : ∀ (fuel : Nat) (x1 : Int64) (x3 : Int32) (ls : Array Slot), (((8 : Int32).toInt - x3.toInt).toNat) < fuel → lv_has ls 4 [(0, .ref h0), (1, .long x1), (3, .int x3)] → (0 ≤ x3) → mf_Nb_plainSum f = mf_Nb_plainSum_b4 f fuel x1 x3 → W p l e (headSpec w_Nb_plainSum ({ frames := 5, cells := 0, slots := 0, locals := 126 } : Room)).room s m ([.ref h0] : List Value).toArray below meth c s.heap [] 0 0 (MQ below (vp_Sl (fun r => r = mf_Nb_plainSum f)) ([.ref h0] : List Value).toArray s 0 0 (fun _ => False)) (F0 m 4 ls []) := by
    intro fuel
    induction fuel with
    | zero => intro x1 x3 ls hf; exact absurd hf (Nat.not_lt_zero _)
    | succ fuel ih =>
      intro x1 x3 ls hf hl hz hE
      refine lv_iload_n hx hb d_Nb_plainSum_4 rfl (lv_at hl 2 rfl) ?_
      refine lv_bipush (v := 8) hx hb d_Nb_plainSum_5 (by decide) ?_
      refine lv_icmp_ge (tgt := 30) hx hb d_Nb_plainSum_7 (by decide) (fun h1 => ?_) (fun h1 => ?_)
      · refine lv_lload_n hx hb d_Nb_plainSum_30 rfl (lv_at hl 1 rfl) ?_
        exact W.lret hx hb hr (fun t ht hW => ⟨_, rfl, (by rw [hE, mf_Nb_plainSum_b4, if_pos h1]), ht⟩) t_nil d_Nb_plainSum_31
      · refine va_gets (v := .ref (ad 1)) hx hb (nb_Z1 hC) hS hown (hts _ (nb_c nb_t28)) (fun _ h => h) d_Nb_plainSum_10 ?_
        refine lv_lload_n hx hb d_Nb_plainSum_13 rfl (lv_at hl 1 rfl) ?_
        refine lv_aload_n hx hb d_Nb_plainSum_14 rfl (lv_at hl 0 rfl) ?_
        refine va_get (D := (dC, dI)) (ci := 0) (v := .ref q0) (C := "NumberBench") (T := F_NB) (N := 1) hx hb hts nb_uN hown hK hP 0 rfl rfl 0 (by decide) (hts _ (nb_c nb_t16)) (fun _ h => h) rfl d_Nb_plainSum_15 ?_
        refine lv_iload_n hx hb d_Nb_plainSum_18 rfl (lv_at hl 2 rfl) ?_
        refine va_lald hx hb hK hP 1 0 rfl rfl (nb_in0 hz h1) d_Nb_plainSum_19 ?_
        refine nb_callVl (As := [.long x1, .long (f x3.toNatClampNeg)]) (rest := []) hx hb hml hown hts (c_Fo_plus l ad 1 x1 (f x3.toNatClampNeg) (by decide)) nb_t53 nb_t54 nb_t55 (by decide) nb_t4 nb_t56 hd_Fo_plus rfl ⟨Nat.le_of_ble_eq_true rfl, Nat.le_of_ble_eq_true rfl⟩ ⟨rfl, rfl⟩ hC hS hl.1 rfl (Nat.le_of_ble_eq_true rfl) ⟨Nat.le_of_ble_eq_true rfl, Nat.le_of_ble_eq_true rfl⟩ d_Nb_plainSum_20 ?_
        refine lv_lstore_n hx hb d_Nb_plainSum_23 rfl hl (by decide) rfl (fun ls hl => ?_)
        have hl : lv_has ls 4 [(1, .long (mf_Fo_plus 1 x1 (f x3.toNatClampNeg))), (0, .ref h0), (3, .int x3)] := hl
        refine lv_iinc (k := 2) (v := x3 + (1 : Int32)) hx hb d_Nb_plainSum_24 hl rfl rfl (by decide) rfl (fun ls hl => ?_)
        have hl : lv_has ls 4 [(3, .int (x3 + (1 : Int32))), (1, .long (mf_Fo_plus 1 x1 (f x3.toNatClampNeg))), (0, .ref h0)] := hl
        refine lv_goto (tgt := 4) hx hb d_Nb_plainSum_27 (by decide) ?_
        exact ih (mf_Fo_plus 1 x1 (f x3.toNatClampNeg)) (x3 + (1 : Int32)) ls (Nat.lt_of_lt_of_le (lp_up h1) (Nat.le_of_lt_succ hf)) (lv_sub hl [2, 1, 0] rfl) (lp_upge hz h1) (by rw [hE, mf_Nb_plainSum_b4, if_neg h1])
  refine lv_lconst (v := 0) hx hb d_Nb_plainSum_0 (by decide) ?_
  refine lv_lstore_n hx hb d_Nb_plainSum_1 rfl hl (by decide) rfl (fun ls hl => ?_)
  have hl : lv_has ls 4 [(1, .long (0 : Int64)), (0, .ref h0)] := hl
  refine lv_iconst (v := 0) hx hb d_Nb_plainSum_2 (by decide) ?_
  refine lv_istore_n hx hb d_Nb_plainSum_3 rfl hl (by decide) rfl (fun ls hl => ?_)
  have hl : lv_has ls 4 [(3, .int (0 : Int32)), (1, .long (0 : Int64)), (0, .ref h0)] := hl
  exact b4 ((((8 : Int32).toInt - (0 : Int32).toInt).toNat) + 1) (0 : Int64) (0 : Int32) ls (Nat.lt_succ_self _) (lv_sub hl [2, 1, 0] rfl) (by decide) (by rw [mf_Nb_plainSum])
def y_Nb_floatSum : MethodName := ⟨"NumberBench", "floatSum", "()J"⟩
abbrev w_Nb_floatSum : List Cond := Cond.code y_Nb_floatSum prog_1_method_22_code 4 (Option.some FieldType.long) :: nb_tb
theorem hd_Nb_floatSum : y_Nb_floatSum.cls ≠ "java/lang/invoke/MethodHandle" ∧ y_Nb_floatSum.cls ≠ "java/lang/invoke/VarHandle" ∧ (parseMethodDescriptor y_Nb_floatSum.desc).map (fun d => d.parameters.length) = some 0 := by decide +kernel
theorem d_Nb_floatSum_0 : decode prog_1_method_22_code 0 = .ok (.lconst 0, 1) := by decide +kernel
theorem d_Nb_floatSum_1 : decode prog_1_method_22_code 1 = .ok (.lstore_n 1, 1) := by decide +kernel
theorem d_Nb_floatSum_2 : decode prog_1_method_22_code 2 = .ok (.iconst 0, 1) := by decide +kernel
theorem d_Nb_floatSum_3 : decode prog_1_method_22_code 3 = .ok (.istore_n 3, 1) := by decide +kernel
theorem d_Nb_floatSum_4 : decode prog_1_method_22_code 4 = .ok (.iload_n 3, 1) := by decide +kernel
theorem d_Nb_floatSum_5 : decode prog_1_method_22_code 5 = .ok (.bipush 8, 2) := by decide +kernel
theorem d_Nb_floatSum_7 : decode prog_1_method_22_code 7 = .ok (.if_icmp .ge 26, 3) := by decide +kernel
theorem d_Nb_floatSum_10 : decode prog_1_method_22_code 10 = .ok (.getstatic 34, 3) := by decide +kernel
theorem d_Nb_floatSum_13 : decode prog_1_method_22_code 13 = .ok (.lload_n 1, 1) := by decide +kernel
theorem d_Nb_floatSum_14 : decode prog_1_method_22_code 14 = .ok (.aload_n 0, 1) := by decide +kernel
theorem d_Nb_floatSum_15 : decode prog_1_method_22_code 15 = .ok (.getfield 9, 3) := by decide +kernel
theorem d_Nb_floatSum_18 : decode prog_1_method_22_code 18 = .ok (.iload_n 3, 1) := by decide +kernel
theorem d_Nb_floatSum_19 : decode prog_1_method_22_code 19 = .ok (.laload, 1) := by decide +kernel
theorem d_Nb_floatSum_20 : decode prog_1_method_22_code 20 = .ok (.invokestatic 68, 3) := by decide +kernel
theorem d_Nb_floatSum_23 : decode prog_1_method_22_code 23 = .ok (.invokevirtual 65, 3) := by decide +kernel
theorem d_Nb_floatSum_26 : decode prog_1_method_22_code 26 = .ok (.lstore_n 1, 1) := by decide +kernel
theorem d_Nb_floatSum_27 : decode prog_1_method_22_code 27 = .ok (.iinc 3 1, 3) := by decide +kernel
theorem d_Nb_floatSum_30 : decode prog_1_method_22_code 30 = .ok (.goto (-26), 3) := by decide +kernel
theorem d_Nb_floatSum_33 : decode prog_1_method_22_code 33 = .ok (.lload_n 1, 1) := by decide +kernel
theorem d_Nb_floatSum_34 : decode prog_1_method_22_code 34 = .ok (.invokestatic 37, 3) := by decide +kernel
theorem d_Nb_floatSum_37 : decode prog_1_method_22_code 37 = .ok (.lreturn, 1) := by decide +kernel
set_option maxHeartbeats 1200000 in
set_option maxRecDepth 100000 in
theorem c_Nb_floatSum (l : Launch) (ad : Nat → Nat) (dC : Nat → ClassId) (dI : Nat → Nat → Nat) (h0 q0 : Nat) (cA : ClassId) (f : Nat → Int64)  : Met l y_Nb_floatSum w_Nb_floatSum ({ frames := 5, cells := 0, slots := 0, locals := 126 } : Room) (va_Pc [.ref h0] (nb_W (dC, dI) 0 h0 q0 cA f ad)) (vp_Sl (fun r => r = mf_Nb_floatSum f)) 0 0 (fun _ => False) := by
  refine Met.ofW (cc := prog_1_method_22_code) (maxL := 4) (ret := some .long) (by decide) rfl ?_
  intro p e s m args below meth c s₁ B hml hv
  obtain ⟨rfl, hP, hK, hC⟩ := hv
  have hx := B.exec
  have hb := B.bytes
  have hr := B.returns
  have hts := atoms_spec (ws := w_Nb_floatSum) B.pre
  have hown : s.vm.findClass "NumberBench" = some m.cls := findClass_of_methodNamed B.named
  have hlocks := B.notSynchronized
  have hC : nb_C ad (fun _ => False) s s.heap := hC
  have hS : va_S (fun _ => False) s.heap s.heap [] := va_S.rf
  have hl := lv_entry ([.ref h0]) (n := 4) (Nat.le_of_ble_eq_true rfl)
  rw [lg_entry_eq]
  generalize (lg_sl ([.ref h0]) ++ List.replicate (4 - (lg_sl ([.ref h0])).length) Slot.unset).toArray = ls at hl ⊢
  have hl : lv_has ls 4 [(0, .ref h0)] := hl
  have b4 : ∀ (fuel : Nat) (x1 : Int64) (x3 : Int32) (ls : Array Slot), (((8 : Int32).toInt - x3.toInt).toNat) < fuel → lv_has ls 4 [(0, .ref h0), (1, .long x1), (3, .int x3)] → (0 ≤ x3) → mf_Nb_floatSum f = mf_Nb_floatSum_b4 f fuel x1 x3 → W p l e (headSpec w_Nb_floatSum ({ frames := 5, cells := 0, slots := 0, locals := 126 } : Room)).room s m ([.ref h0] : List Value).toArray below meth c s.heap [] 0 0 (MQ below (vp_Sl (fun r => r = mf_Nb_floatSum f)) ([.ref h0] : List Value).toArray s 0 0 (fun _ => False)) (F0 m 4 ls []) := by
    intro fuel
    induction fuel with
    | zero => intro x1 x3 ls hf; exact absurd hf (Nat.not_lt_zero _)
    | succ fuel ih =>
      intro x1 x3 ls hf hl hz hE
      refine lv_iload_n hx hb d_Nb_floatSum_4 rfl (lv_at hl 2 rfl) ?_
      refine lv_bipush (v := 8) hx hb d_Nb_floatSum_5 (by decide) ?_
      refine lv_icmp_ge (tgt := 33) hx hb d_Nb_floatSum_7 (by decide) (fun h1 => ?_) (fun h1 => ?_)
      · refine lv_lload_n hx hb d_Nb_floatSum_33 rfl (lv_at hl 1 rfl) ?_
        refine nb_callSl (As := [.long x1]) (rest := []) hx hb hml hown hts (c_Nb_widened l ad x1) nb_t161 nb_t162 nb_t1 nb_t163 hd_Nb_widened rfl ⟨Nat.le_of_ble_eq_true rfl, Nat.le_of_ble_eq_true rfl⟩ ⟨rfl, rfl⟩ hC hS hl.1 rfl (Nat.le_of_ble_eq_true rfl) ⟨Nat.le_of_ble_eq_true rfl, Nat.le_of_ble_eq_true rfl⟩ d_Nb_floatSum_34 ?_
        exact W.lret hx hb hr (fun t ht hW => ⟨_, rfl, (by rw [hE, mf_Nb_floatSum_b4, if_pos h1]), ht⟩) t_nil d_Nb_floatSum_37
      · refine va_gets (v := .ref (ad 0)) hx hb (nb_Z0 hC) hS hown (hts _ (nb_c nb_t152)) (fun _ h => h) d_Nb_floatSum_10 ?_
        refine lv_lload_n hx hb d_Nb_floatSum_13 rfl (lv_at hl 1 rfl) ?_
        refine lv_aload_n hx hb d_Nb_floatSum_14 rfl (lv_at hl 0 rfl) ?_
        refine va_get (D := (dC, dI)) (ci := 0) (v := .ref q0) (C := "NumberBench") (T := F_NB) (N := 1) hx hb hts nb_uN hown hK hP 0 rfl rfl 0 (by decide) (hts _ (nb_c nb_t16)) (fun _ h => h) rfl d_Nb_floatSum_15 ?_
        refine lv_iload_n hx hb d_Nb_floatSum_18 rfl (lv_at hl 2 rfl) ?_
        refine va_lald hx hb hK hP 1 0 rfl rfl (nb_in0 hz h1) d_Nb_floatSum_19 ?_
        refine nb_callSl (As := [.long (f x3.toNatClampNeg)]) (rest := [.long x1, .ref (ad 0)]) hx hb hml hown hts (c_Nb_narrowed l ad (f x3.toNatClampNeg)) nb_t154 nb_t155 nb_t1 nb_t156 hd_Nb_narrowed rfl ⟨Nat.le_of_ble_eq_true rfl, Nat.le_of_ble_eq_true rfl⟩ ⟨rfl, rfl⟩ hC hS hl.1 rfl (Nat.le_of_ble_eq_true rfl) ⟨Nat.le_of_ble_eq_true rfl, Nat.le_of_ble_eq_true rfl⟩ d_Nb_floatSum_20 ?_
        refine nb_callVl (As := [.long x1, .long (mf_Nb_narrowed (f x3.toNatClampNeg))]) (rest := []) hx hb hml hown hts (c_Fo_plus l ad 0 x1 (mf_Nb_narrowed (f x3.toNatClampNeg)) (by decide)) nb_t53 nb_t54 nb_t55 (by decide) nb_t4 nb_t56 hd_Fo_plus rfl ⟨Nat.le_of_ble_eq_true rfl, Nat.le_of_ble_eq_true rfl⟩ ⟨rfl, rfl⟩ hC hS hl.1 rfl (Nat.le_of_ble_eq_true rfl) ⟨Nat.le_of_ble_eq_true rfl, Nat.le_of_ble_eq_true rfl⟩ d_Nb_floatSum_23 ?_
        refine lv_topl (fun v2 ev2 => ?_)
        refine lv_lstore_n hx hb d_Nb_floatSum_26 rfl hl (by decide) rfl (fun ls hl => ?_)
        have hl : lv_has ls 4 [(1, .long v2), (0, .ref h0), (3, .int x3)] := hl
        refine lv_iinc (k := 2) (v := x3 + (1 : Int32)) hx hb d_Nb_floatSum_27 hl rfl rfl (by decide) rfl (fun ls hl => ?_)
        have hl : lv_has ls 4 [(3, .int (x3 + (1 : Int32))), (1, .long v2), (0, .ref h0)] := hl
        refine lv_goto (tgt := 4) hx hb d_Nb_floatSum_30 (by decide) ?_
        exact ih v2 (x3 + (1 : Int32)) ls (Nat.lt_of_lt_of_le (lp_up h1) (Nat.le_of_lt_succ hf)) (lv_sub hl [2, 1, 0] rfl) (lp_upge hz h1) (by subst ev2; rw [hE, mf_Nb_floatSum_b4, if_neg h1])
  refine lv_lconst (v := 0) hx hb d_Nb_floatSum_0 (by decide) ?_
  refine lv_lstore_n hx hb d_Nb_floatSum_1 rfl hl (by decide) rfl (fun ls hl => ?_)
  have hl : lv_has ls 4 [(1, .long (0 : Int64)), (0, .ref h0)] := hl
  refine lv_iconst (v := 0) hx hb d_Nb_floatSum_2 (by decide) ?_
  refine lv_istore_n hx hb d_Nb_floatSum_3 rfl hl (by decide) rfl (fun ls hl => ?_)
  have hl : lv_has ls 4 [(3, .int (0 : Int32)), (1, .long (0 : Int64)), (0, .ref h0)] := hl
  exact b4 ((((8 : Int32).toInt - (0 : Int32).toInt).toNat) + 1) (0 : Int64) (0 : Int32) ls (Nat.lt_succ_self _) (lv_sub hl [2, 1, 0] rfl) (by decide) (by rw [mf_Nb_floatSum])
def y_Nb_sumKeeping : MethodName := ⟨"NumberBench", "sumKeepingLosses", "()J"⟩
abbrev w_Nb_sumKeeping : List Cond := Cond.code y_Nb_sumKeeping prog_1_method_23_code 10 (Option.some FieldType.long) :: nb_tb
theorem hd_Nb_sumKeeping : y_Nb_sumKeeping.cls ≠ "java/lang/invoke/MethodHandle" ∧ y_Nb_sumKeeping.cls ≠ "java/lang/invoke/VarHandle" ∧ (parseMethodDescriptor y_Nb_sumKeeping.desc).map (fun d => d.parameters.length) = some 0 := by decide +kernel
theorem d_Nb_sumKeeping_0 : decode prog_1_method_23_code 0 = .ok (.lconst 0, 1) := by decide +kernel
theorem d_Nb_sumKeeping_1 : decode prog_1_method_23_code 1 = .ok (.lstore_n 1, 1) := by decide +kernel
theorem d_Nb_sumKeeping_2 : decode prog_1_method_23_code 2 = .ok (.lconst 0, 1) := by decide +kernel
theorem d_Nb_sumKeeping_3 : decode prog_1_method_23_code 3 = .ok (.lstore_n 3, 1) := by decide +kernel
theorem d_Nb_sumKeeping_4 : decode prog_1_method_23_code 4 = .ok (.iconst 0, 1) := by decide +kernel
theorem d_Nb_sumKeeping_5 : decode prog_1_method_23_code 5 = .ok (.istore 5, 2) := by decide +kernel
theorem d_Nb_sumKeeping_7 : decode prog_1_method_23_code 7 = .ok (.iload 5, 2) := by decide +kernel
theorem d_Nb_sumKeeping_9 : decode prog_1_method_23_code 9 = .ok (.bipush 8, 2) := by decide +kernel
theorem d_Nb_sumKeeping_11 : decode prog_1_method_23_code 11 = .ok (.if_icmp .ge 57, 3) := by decide +kernel
theorem d_Nb_sumKeeping_14 : decode prog_1_method_23_code 14 = .ok (.getstatic 17, 3) := by decide +kernel
theorem d_Nb_sumKeeping_17 : decode prog_1_method_23_code 17 = .ok (.aload_n 0, 1) := by decide +kernel
theorem d_Nb_sumKeeping_18 : decode prog_1_method_23_code 18 = .ok (.getfield 9, 3) := by decide +kernel
theorem d_Nb_sumKeeping_21 : decode prog_1_method_23_code 21 = .ok (.iload 5, 2) := by decide +kernel
theorem d_Nb_sumKeeping_23 : decode prog_1_method_23_code 23 = .ok (.laload, 1) := by decide +kernel
theorem d_Nb_sumKeeping_24 : decode prog_1_method_23_code 24 = .ok (.lload_n 3, 1) := by decide +kernel
theorem d_Nb_sumKeeping_25 : decode prog_1_method_23_code 25 = .ok (.invokevirtual 99, 3) := by decide +kernel
theorem d_Nb_sumKeeping_28 : decode prog_1_method_23_code 28 = .ok (.lstore 6, 2) := by decide +kernel
theorem d_Nb_sumKeeping_30 : decode prog_1_method_23_code 30 = .ok (.getstatic 17, 3) := by decide +kernel
theorem d_Nb_sumKeeping_33 : decode prog_1_method_23_code 33 = .ok (.lload_n 1, 1) := by decide +kernel
theorem d_Nb_sumKeeping_34 : decode prog_1_method_23_code 34 = .ok (.lload 6, 2) := by decide +kernel
theorem d_Nb_sumKeeping_36 : decode prog_1_method_23_code 36 = .ok (.invokevirtual 65, 3) := by decide +kernel
theorem d_Nb_sumKeeping_39 : decode prog_1_method_23_code 39 = .ok (.lstore 8, 2) := by decide +kernel
theorem d_Nb_sumKeeping_41 : decode prog_1_method_23_code 41 = .ok (.getstatic 17, 3) := by decide +kernel
theorem d_Nb_sumKeeping_44 : decode prog_1_method_23_code 44 = .ok (.getstatic 17, 3) := by decide +kernel
theorem d_Nb_sumKeeping_47 : decode prog_1_method_23_code 47 = .ok (.lload 8, 2) := by decide +kernel
theorem d_Nb_sumKeeping_49 : decode prog_1_method_23_code 49 = .ok (.lload_n 1, 1) := by decide +kernel
theorem d_Nb_sumKeeping_50 : decode prog_1_method_23_code 50 = .ok (.invokevirtual 99, 3) := by decide +kernel
theorem d_Nb_sumKeeping_53 : decode prog_1_method_23_code 53 = .ok (.lload 6, 2) := by decide +kernel
theorem d_Nb_sumKeeping_55 : decode prog_1_method_23_code 55 = .ok (.invokevirtual 99, 3) := by decide +kernel
theorem d_Nb_sumKeeping_58 : decode prog_1_method_23_code 58 = .ok (.lstore_n 3, 1) := by decide +kernel
theorem d_Nb_sumKeeping_59 : decode prog_1_method_23_code 59 = .ok (.lload 8, 2) := by decide +kernel
theorem d_Nb_sumKeeping_61 : decode prog_1_method_23_code 61 = .ok (.lstore_n 1, 1) := by decide +kernel
theorem d_Nb_sumKeeping_62 : decode prog_1_method_23_code 62 = .ok (.iinc 5 1, 3) := by decide +kernel
theorem d_Nb_sumKeeping_65 : decode prog_1_method_23_code 65 = .ok (.goto (-58), 3) := by decide +kernel
theorem d_Nb_sumKeeping_68 : decode prog_1_method_23_code 68 = .ok (.lload_n 1, 1) := by decide +kernel
theorem d_Nb_sumKeeping_69 : decode prog_1_method_23_code 69 = .ok (.lreturn, 1) := by decide +kernel
set_option maxHeartbeats 1200000 in
set_option maxRecDepth 100000 in
theorem c_Nb_sumKeeping (l : Launch) (ad : Nat → Nat) (dC : Nat → ClassId) (dI : Nat → Nat → Nat) (h0 q0 : Nat) (cA : ClassId) (f : Nat → Int64)  : Met l y_Nb_sumKeeping w_Nb_sumKeeping ({ frames := 6, cells := 0, slots := 0, locals := 150 } : Room) (va_Pc [.ref h0] (nb_W (dC, dI) 0 h0 q0 cA f ad)) (vp_Sl (fun r => r = mf_Nb_sumKeeping f)) 0 0 (fun _ => False) := by
  refine Met.ofW (cc := prog_1_method_23_code) (maxL := 10) (ret := some .long) (by decide) rfl ?_
  intro p e s m args below meth c s₁ B hml hv
  obtain ⟨rfl, hP, hK, hC⟩ := hv
  have hx := B.exec
  have hb := B.bytes
  have hr := B.returns
  have hts := atoms_spec (ws := w_Nb_sumKeeping) B.pre
  have hown : s.vm.findClass "NumberBench" = some m.cls := findClass_of_methodNamed B.named
  have hlocks := B.notSynchronized
  have hC : nb_C ad (fun _ => False) s s.heap := hC
  have hS : va_S (fun _ => False) s.heap s.heap [] := va_S.rf
  have hl := lv_entry ([.ref h0]) (n := 10) (Nat.le_of_ble_eq_true rfl)
  rw [lg_entry_eq]
  generalize (lg_sl ([.ref h0]) ++ List.replicate (10 - (lg_sl ([.ref h0])).length) Slot.unset).toArray = ls at hl ⊢
  have hl : lv_has ls 10 [(0, .ref h0)] := hl
  have b7 : ∀ (fuel : Nat) (x1 : Int64) (x3 : Int64) (x5 : Int32) (ls : Array Slot), (((8 : Int32).toInt - x5.toInt).toNat) < fuel → lv_has ls 10 [(0, .ref h0), (1, .long x1), (3, .long x3), (5, .int x5)] → (0 ≤ x5) → mf_Nb_sumKeeping f = mf_Nb_sumKeeping_b7 f fuel x1 x3 x5 → W p l e (headSpec w_Nb_sumKeeping ({ frames := 6, cells := 0, slots := 0, locals := 150 } : Room)).room s m ([.ref h0] : List Value).toArray below meth c s.heap [] 0 0 (MQ below (vp_Sl (fun r => r = mf_Nb_sumKeeping f)) ([.ref h0] : List Value).toArray s 0 0 (fun _ => False)) (F0 m 7 ls []) := by
    intro fuel
    induction fuel with
    | zero => intro x1 x3 x5 ls hf; exact absurd hf (Nat.not_lt_zero _)
    | succ fuel ih =>
      intro x1 x3 x5 ls hf hl hz hE
      refine lv_iload hx hb d_Nb_sumKeeping_7 (lv_at hl 3 rfl) ?_
      refine lv_bipush (v := 8) hx hb d_Nb_sumKeeping_9 (by decide) ?_
      refine lv_icmp_ge (tgt := 68) hx hb d_Nb_sumKeeping_11 (by decide) (fun h1 => ?_) (fun h1 => ?_)
      · refine lv_lload_n hx hb d_Nb_sumKeeping_68 rfl (lv_at hl 1 rfl) ?_
        exact W.lret hx hb hr (fun t ht hW => ⟨_, rfl, (by rw [hE, mf_Nb_sumKeeping_b7, if_pos h1]), ht⟩) t_nil d_Nb_sumKeeping_69
      · refine va_gets (v := .ref (ad 1)) hx hb (nb_Z1 hC) hS hown (hts _ (nb_c nb_t28)) (fun _ h => h) d_Nb_sumKeeping_14 ?_
        refine lv_aload_n hx hb d_Nb_sumKeeping_17 rfl (lv_at hl 0 rfl) ?_
        refine va_get (D := (dC, dI)) (ci := 0) (v := .ref q0) (C := "NumberBench") (T := F_NB) (N := 1) hx hb hts nb_uN hown hK hP 0 rfl rfl 0 (by decide) (hts _ (nb_c nb_t16)) (fun _ h => h) rfl d_Nb_sumKeeping_18 ?_
        refine lv_iload hx hb d_Nb_sumKeeping_21 (lv_at hl 3 rfl) ?_
        refine va_lald hx hb hK hP 1 0 rfl rfl (nb_in0 hz h1) d_Nb_sumKeeping_23 ?_
        refine lv_lload_n hx hb d_Nb_sumKeeping_24 rfl (lv_at hl 2 rfl) ?_
        refine nb_callVl (As := [.long (f x5.toNatClampNeg), .long x3]) (rest := []) hx hb hml hown hts (c_Fo_minus l ad 1 (f x5.toNatClampNeg) x3 (by decide)) nb_t101 nb_t102 nb_t103 (by decide) nb_t4 nb_t104 hd_Fo_minus rfl ⟨Nat.le_of_ble_eq_true rfl, Nat.le_of_ble_eq_true rfl⟩ ⟨rfl, rfl⟩ hC hS hl.1 rfl (Nat.le_of_ble_eq_true rfl) ⟨Nat.le_of_ble_eq_true rfl, Nat.le_of_ble_eq_true rfl⟩ d_Nb_sumKeeping_25 ?_
        refine lv_lstore hx hb d_Nb_sumKeeping_28 hl (by decide) rfl (fun ls hl => ?_)
        have hl : lv_has ls 10 [(6, .long (mf_Fo_minus 1 (f x5.toNatClampNeg) x3)), (0, .ref h0), (1, .long x1), (3, .long x3), (5, .int x5)] := hl
        refine va_gets (v := .ref (ad 1)) hx hb (nb_Z1 hC) hS hown (hts _ (nb_c nb_t28)) (fun _ h => h) d_Nb_sumKeeping_30 ?_
        refine lv_lload_n hx hb d_Nb_sumKeeping_33 rfl (lv_at hl 2 rfl) ?_
        refine lv_lload hx hb d_Nb_sumKeeping_34 (lv_at hl 0 rfl) ?_
        refine nb_callVl (As := [.long x1, .long (mf_Fo_minus 1 (f x5.toNatClampNeg) x3)]) (rest := []) hx hb hml hown hts (c_Fo_plus l ad 1 x1 (mf_Fo_minus 1 (f x5.toNatClampNeg) x3) (by decide)) nb_t53 nb_t54 nb_t55 (by decide) nb_t4 nb_t56 hd_Fo_plus rfl ⟨Nat.le_of_ble_eq_true rfl, Nat.le_of_ble_eq_true rfl⟩ ⟨rfl, rfl⟩ hC hS hl.1 rfl (Nat.le_of_ble_eq_true rfl) ⟨Nat.le_of_ble_eq_true rfl, Nat.le_of_ble_eq_true rfl⟩ d_Nb_sumKeeping_36 ?_
        refine lv_topl (fun v2 ev2 => ?_)
        refine lv_lstore hx hb d_Nb_sumKeeping_39 hl (by decide) rfl (fun ls hl => ?_)
        have hl : lv_has ls 10 [(8, .long v2), (6, .long (mf_Fo_minus 1 (f x5.toNatClampNeg) x3)), (0, .ref h0), (1, .long x1), (3, .long x3), (5, .int x5)] := hl
        refine va_gets (v := .ref (ad 1)) hx hb (nb_Z1 hC) hS hown (hts _ (nb_c nb_t28)) (fun _ h => h) d_Nb_sumKeeping_41 ?_
        refine va_gets (v := .ref (ad 1)) hx hb (nb_Z1 hC) hS hown (hts _ (nb_c nb_t28)) (fun _ h => h) d_Nb_sumKeeping_44 ?_
        refine lv_lload hx hb d_Nb_sumKeeping_47 (lv_at hl 0 rfl) ?_
        refine lv_lload_n hx hb d_Nb_sumKeeping_49 rfl (lv_at hl 3 rfl) ?_
        refine nb_callVl (As := [.long v2, .long x1]) (rest := [.ref (ad 1)]) hx hb hml hown hts (c_Fo_minus l ad 1 v2 x1 (by decide)) nb_t101 nb_t102 nb_t103 (by decide) nb_t4 nb_t104 hd_Fo_minus rfl ⟨Nat.le_of_ble_eq_true rfl, Nat.le_of_ble_eq_true rfl⟩ ⟨rfl, rfl⟩ hC hS hl.1 rfl (Nat.le_of_ble_eq_true rfl) ⟨Nat.le_of_ble_eq_true rfl, Nat.le_of_ble_eq_true rfl⟩ d_Nb_sumKeeping_50 ?_
        refine lv_lload hx hb d_Nb_sumKeeping_53 (lv_at hl 1 rfl) ?_
        refine nb_callVl (As := [.long (mf_Fo_minus 1 v2 x1), .long (mf_Fo_minus 1 (f x5.toNatClampNeg) x3)]) (rest := []) hx hb hml hown hts (c_Fo_minus l ad 1 (mf_Fo_minus 1 v2 x1) (mf_Fo_minus 1 (f x5.toNatClampNeg) x3) (by decide)) nb_t101 nb_t102 nb_t103 (by decide) nb_t4 nb_t104 hd_Fo_minus rfl ⟨Nat.le_of_ble_eq_true rfl, Nat.le_of_ble_eq_true rfl⟩ ⟨rfl, rfl⟩ hC hS hl.1 rfl (Nat.le_of_ble_eq_true rfl) ⟨Nat.le_of_ble_eq_true rfl, Nat.le_of_ble_eq_true rfl⟩ d_Nb_sumKeeping_55 ?_
        refine lv_topl (fun v3 ev3 => ?_)
        refine lv_lstore_n hx hb d_Nb_sumKeeping_58 rfl hl (by decide) rfl (fun ls hl => ?_)
        have hl : lv_has ls 10 [(3, .long v3), (8, .long v2), (6, .long (mf_Fo_minus 1 (f x5.toNatClampNeg) x3)), (0, .ref h0), (1, .long x1), (5, .int x5)] := hl
        refine lv_lload hx hb d_Nb_sumKeeping_59 (lv_at hl 1 rfl) ?_
        refine lv_lstore_n hx hb d_Nb_sumKeeping_61 rfl hl (by decide) rfl (fun ls hl => ?_)
        have hl : lv_has ls 10 [(1, .long v2), (3, .long v3), (8, .long v2), (6, .long (mf_Fo_minus 1 (f x5.toNatClampNeg) x3)), (0, .ref h0), (5, .int x5)] := hl
        refine lv_iinc (k := 5) (v := x5 + (1 : Int32)) hx hb d_Nb_sumKeeping_62 hl rfl rfl (by decide) rfl (fun ls hl => ?_)
        have hl : lv_has ls 10 [(5, .int (x5 + (1 : Int32))), (1, .long v2), (3, .long v3), (8, .long v2), (6, .long (mf_Fo_minus 1 (f x5.toNatClampNeg) x3)), (0, .ref h0)] := hl
        refine lv_goto (tgt := 7) hx hb d_Nb_sumKeeping_65 (by decide) ?_
        exact ih v2 v3 (x5 + (1 : Int32)) ls (Nat.lt_of_lt_of_le (lp_up h1) (Nat.le_of_lt_succ hf)) (lv_sub hl [5, 1, 2, 0] rfl) (lp_upge hz h1) (by subst ev3; subst ev2; rw [hE, mf_Nb_sumKeeping_b7, if_neg h1])
  refine lv_lconst (v := 0) hx hb d_Nb_sumKeeping_0 (by decide) ?_
  refine lv_lstore_n hx hb d_Nb_sumKeeping_1 rfl hl (by decide) rfl (fun ls hl => ?_)
  have hl : lv_has ls 10 [(1, .long (0 : Int64)), (0, .ref h0)] := hl
  refine lv_lconst (v := 0) hx hb d_Nb_sumKeeping_2 (by decide) ?_
  refine lv_lstore_n hx hb d_Nb_sumKeeping_3 rfl hl (by decide) rfl (fun ls hl => ?_)
  have hl : lv_has ls 10 [(3, .long (0 : Int64)), (1, .long (0 : Int64)), (0, .ref h0)] := hl
  refine lv_iconst (v := 0) hx hb d_Nb_sumKeeping_4 (by decide) ?_
  refine lv_istore hx hb d_Nb_sumKeeping_5 hl (by decide) rfl (fun ls hl => ?_)
  have hl : lv_has ls 10 [(5, .int (0 : Int32)), (3, .long (0 : Int64)), (1, .long (0 : Int64)), (0, .ref h0)] := hl
  exact b7 ((((8 : Int32).toInt - (0 : Int32).toInt).toNat) + 1) (0 : Int64) (0 : Int64) (0 : Int32) ls (Nat.lt_succ_self _) (lv_sub hl [3, 2, 1, 0] rfl) (by decide) (by rw [mf_Nb_sumKeeping])
def y_Nb_sum : MethodName := ⟨"NumberBench", "sum", "(I)J"⟩
abbrev w_Nb_sum : List Cond := Cond.code y_Nb_sum prog_1_method_10_code 2 (Option.some FieldType.long) :: nb_tb
theorem hd_Nb_sum : y_Nb_sum.cls ≠ "java/lang/invoke/MethodHandle" ∧ y_Nb_sum.cls ≠ "java/lang/invoke/VarHandle" ∧ (parseMethodDescriptor y_Nb_sum.desc).map (fun d => d.parameters.length) = some 1 := by decide +kernel
theorem d_Nb_sum_0 : decode prog_1_method_10_code 0 = .ok (.iload_n 1, 1) := by decide +kernel
theorem d_Nb_sum_1 : decode prog_1_method_10_code 1 = .ok (.tableswitch 42 0 2 #[27, 32, 37], 27) := by decide +kernel
theorem d_Nb_sum_28 : decode prog_1_method_10_code 28 = .ok (.aload_n 0, 1) := by decide +kernel
theorem d_Nb_sum_29 : decode prog_1_method_10_code 29 = .ok (.invokevirtual 73, 3) := by decide +kernel
theorem d_Nb_sum_32 : decode prog_1_method_10_code 32 = .ok (.lreturn, 1) := by decide +kernel
theorem d_Nb_sum_33 : decode prog_1_method_10_code 33 = .ok (.aload_n 0, 1) := by decide +kernel
theorem d_Nb_sum_34 : decode prog_1_method_10_code 34 = .ok (.invokevirtual 77, 3) := by decide +kernel
theorem d_Nb_sum_37 : decode prog_1_method_10_code 37 = .ok (.lreturn, 1) := by decide +kernel
theorem d_Nb_sum_38 : decode prog_1_method_10_code 38 = .ok (.aload_n 0, 1) := by decide +kernel
theorem d_Nb_sum_39 : decode prog_1_method_10_code 39 = .ok (.invokevirtual 80, 3) := by decide +kernel
theorem d_Nb_sum_42 : decode prog_1_method_10_code 42 = .ok (.lreturn, 1) := by decide +kernel
theorem d_Nb_sum_43 : decode prog_1_method_10_code 43 = .ok (.lconst 1, 1) := by decide +kernel
theorem d_Nb_sum_44 : decode prog_1_method_10_code 44 = .ok (.lreturn, 1) := by decide +kernel
set_option maxHeartbeats 1200000 in
set_option maxRecDepth 100000 in
theorem c_Nb_sum (l : Launch) (ad : Nat → Nat) (dC : Nat → ClassId) (dI : Nat → Nat → Nat) (h0 q0 : Nat) (cA : ClassId) (f : Nat → Int64) (w : Int32)  : Met l y_Nb_sum w_Nb_sum ({ frames := 7, cells := 0, slots := 0, locals := 179 } : Room) (va_Pc [.ref h0, .int w] (nb_W (dC, dI) 0 h0 q0 cA f ad)) (vp_Sl (fun r => r = mf_Nb_sum f w)) 0 0 (fun _ => False) := by
  refine Met.ofW (cc := prog_1_method_10_code) (maxL := 2) (ret := some .long) (by decide) rfl ?_
  intro p e s m args below meth c s₁ B hml hv
  obtain ⟨rfl, hP, hK, hC⟩ := hv
  have hx := B.exec
  have hb := B.bytes
  have hr := B.returns
  have hts := atoms_spec (ws := w_Nb_sum) B.pre
  have hown : s.vm.findClass "NumberBench" = some m.cls := findClass_of_methodNamed B.named
  have hlocks := B.notSynchronized
  have hC : nb_C ad (fun _ => False) s s.heap := hC
  have hS : va_S (fun _ => False) s.heap s.heap [] := va_S.rf
  have hl := lv_entry ([.ref h0, .int w]) (n := 2) (Nat.le_of_ble_eq_true rfl)
  rw [lg_entry_eq]
  generalize (lg_sl ([.ref h0, .int w]) ++ List.replicate (2 - (lg_sl ([.ref h0, .int w])).length) Slot.unset).toArray = ls at hl ⊢
  have hl : lv_has ls 2 [(0, .ref h0), (1, .int w)] := hl
  refine lv_iload_n hx hb d_Nb_sum_0 rfl (lv_at hl 1 rfl) ?_
  by_cases h1 : w = (0 : Int32)
  · refine lv_tableIn (off := 27) (tgt := 28) hx hb d_Nb_sum_1 (by rw [h1]; decide) (by rw [h1]; decide) (by rw [h1]; decide) (by decide) ?_
    refine lv_aload_n hx hb d_Nb_sum_28 rfl (lv_at hl 0 rfl) ?_
    refine nb_callTl (As := []) (rest := []) hx hb hml hown hts (c_Nb_plainSum l ad dC dI h0 q0 cA f) nb_t235 nb_t237 nb_s11 nb_t1 nb_t238 hd_Nb_plainSum rfl ⟨Nat.le_of_ble_eq_true rfl, Nat.le_of_ble_eq_true rfl⟩ ⟨rfl, rfl⟩ hP hK hC hl.1 rfl (Nat.le_of_ble_eq_true rfl) ⟨Nat.le_of_ble_eq_true rfl, Nat.le_of_ble_eq_true rfl⟩ d_Nb_sum_29 ?_
    exact W.lret hx hb hr (fun t ht hW => ⟨_, rfl, (by rw [mf_Nb_sum, if_pos h1]), ht⟩) t_nil d_Nb_sum_32
  by_cases h2 : w = (1 : Int32)
  · refine lv_tableIn (off := 32) (tgt := 33) hx hb d_Nb_sum_1 (by rw [h2]; decide) (by rw [h2]; decide) (by rw [h2]; decide) (by decide) ?_
    refine lv_aload_n hx hb d_Nb_sum_33 rfl (lv_at hl 0 rfl) ?_
    refine nb_callTl (As := []) (rest := []) hx hb hml hown hts (c_Nb_floatSum l ad dC dI h0 q0 cA f) nb_t239 nb_t241 nb_s12 nb_t1 nb_t242 hd_Nb_floatSum rfl ⟨Nat.le_of_ble_eq_true rfl, Nat.le_of_ble_eq_true rfl⟩ ⟨rfl, rfl⟩ hP hK hC hl.1 rfl (Nat.le_of_ble_eq_true rfl) ⟨Nat.le_of_ble_eq_true rfl, Nat.le_of_ble_eq_true rfl⟩ d_Nb_sum_34 ?_
    exact W.lret hx hb hr (fun t ht hW => ⟨_, rfl, (by rw [mf_Nb_sum, if_neg h1, if_pos h2]), ht⟩) t_nil d_Nb_sum_37
  by_cases h3 : w = (2 : Int32)
  · refine lv_tableIn (off := 37) (tgt := 38) hx hb d_Nb_sum_1 (by rw [h3]; decide) (by rw [h3]; decide) (by rw [h3]; decide) (by decide) ?_
    refine lv_aload_n hx hb d_Nb_sum_38 rfl (lv_at hl 0 rfl) ?_
    refine nb_callTl (As := []) (rest := []) hx hb hml hown hts (c_Nb_sumKeeping l ad dC dI h0 q0 cA f) nb_t243 nb_t245 nb_s13 nb_t1 nb_t246 hd_Nb_sumKeeping rfl ⟨Nat.le_of_ble_eq_true rfl, Nat.le_of_ble_eq_true rfl⟩ ⟨rfl, rfl⟩ hP hK hC hl.1 rfl (Nat.le_of_ble_eq_true rfl) ⟨Nat.le_of_ble_eq_true rfl, Nat.le_of_ble_eq_true rfl⟩ d_Nb_sum_39 ?_
    exact W.lret hx hb hr (fun t ht hW => ⟨_, rfl, (by rw [mf_Nb_sum, if_neg h1, if_neg h2, if_pos h3]), ht⟩) t_nil d_Nb_sum_42
  refine lv_tableOut (tgt := 43) hx hb d_Nb_sum_1 (by have q0 := lv_neT (a := 0) h1 (by decide); have q1 := lv_neT (a := 1) h2 (by decide); have q2 := lv_neT (a := 2) h3 (by decide); omega) (by decide) ?_
  refine lv_lconst (v := 1) hx hb d_Nb_sum_43 (by decide) ?_
  exact W.lret hx hb hr (fun t ht hW => ⟨_, rfl, (by rw [mf_Nb_sum, if_neg h1, if_neg h2, if_neg h3]), ht⟩) t_nil d_Nb_sum_44
def y_Nb_cast : MethodName := ⟨"NumberBench", "cast", "(II)J"⟩
abbrev w_Nb_cast : List Cond := Cond.code y_Nb_cast prog_1_method_5_code 6 (Option.some FieldType.long) :: nb_tb
theorem hd_Nb_cast : y_Nb_cast.cls ≠ "java/lang/invoke/MethodHandle" ∧ y_Nb_cast.cls ≠ "java/lang/invoke/VarHandle" ∧ (parseMethodDescriptor y_Nb_cast.desc).map (fun d => d.parameters.length) = some 2 := by decide +kernel
theorem d_Nb_cast_0 : decode prog_1_method_5_code 0 = .ok (.iload_n 1, 1) := by decide +kernel
theorem d_Nb_cast_1 : decode prog_1_method_5_code 1 = .ok (.invokestatic 13, 3) := by decide +kernel
theorem d_Nb_cast_4 : decode prog_1_method_5_code 4 = .ok (.ifCond .ne 7, 3) := by decide +kernel
theorem d_Nb_cast_7 : decode prog_1_method_5_code 7 = .ok (.ldc2_w 40, 3) := by decide +kernel
theorem d_Nb_cast_10 : decode prog_1_method_5_code 10 = .ok (.lreturn, 1) := by decide +kernel
theorem d_Nb_cast_11 : decode prog_1_method_5_code 11 = .ok (.getstatic 17, 3) := by decide +kernel
theorem d_Nb_cast_14 : decode prog_1_method_5_code 14 = .ok (.aload_n 0, 1) := by decide +kernel
theorem d_Nb_cast_15 : decode prog_1_method_5_code 15 = .ok (.getfield 9, 3) := by decide +kernel
theorem d_Nb_cast_18 : decode prog_1_method_5_code 18 = .ok (.iload_n 1, 1) := by decide +kernel
theorem d_Nb_cast_19 : decode prog_1_method_5_code 19 = .ok (.laload, 1) := by decide +kernel
theorem d_Nb_cast_20 : decode prog_1_method_5_code 20 = .ok (.invokevirtual 42, 3) := by decide +kernel
theorem d_Nb_cast_23 : decode prog_1_method_5_code 23 = .ok (.lstore_n 3, 1) := by decide +kernel
theorem d_Nb_cast_24 : decode prog_1_method_5_code 24 = .ok (.ldc2_w 45, 3) := by decide +kernel
theorem d_Nb_cast_27 : decode prog_1_method_5_code 27 = .ok (.ldc2_w 47, 3) := by decide +kernel
theorem d_Nb_cast_30 : decode prog_1_method_5_code 30 = .ok (.lload_n 3, 1) := by decide +kernel
theorem d_Nb_cast_31 : decode prog_1_method_5_code 31 = .ok (.invokestatic 49, 3) := by decide +kernel
theorem d_Nb_cast_34 : decode prog_1_method_5_code 34 = .ok (.invokestatic 55, 3) := by decide +kernel
theorem d_Nb_cast_37 : decode prog_1_method_5_code 37 = .ok (.l2i, 1) := by decide +kernel
theorem d_Nb_cast_38 : decode prog_1_method_5_code 38 = .ok (.istore 5, 2) := by decide +kernel
theorem d_Nb_cast_40 : decode prog_1_method_5_code 40 = .ok (.iload_n 2, 1) := by decide +kernel
theorem d_Nb_cast_41 : decode prog_1_method_5_code 41 = .ok (.tableswitch 56 0 4 #[35, 39, 41, 46, 51], 35) := by decide +kernel
theorem d_Nb_cast_76 : decode prog_1_method_5_code 76 = .ok (.iload 5, 2) := by decide +kernel
theorem d_Nb_cast_78 : decode prog_1_method_5_code 78 = .ok (.i2l, 1) := by decide +kernel
theorem d_Nb_cast_79 : decode prog_1_method_5_code 79 = .ok (.lreturn, 1) := by decide +kernel
theorem d_Nb_cast_80 : decode prog_1_method_5_code 80 = .ok (.lload_n 3, 1) := by decide +kernel
theorem d_Nb_cast_81 : decode prog_1_method_5_code 81 = .ok (.lreturn, 1) := by decide +kernel
theorem d_Nb_cast_82 : decode prog_1_method_5_code 82 = .ok (.iload 5, 2) := by decide +kernel
theorem d_Nb_cast_84 : decode prog_1_method_5_code 84 = .ok (.i2s, 1) := by decide +kernel
theorem d_Nb_cast_85 : decode prog_1_method_5_code 85 = .ok (.i2l, 1) := by decide +kernel
theorem d_Nb_cast_86 : decode prog_1_method_5_code 86 = .ok (.lreturn, 1) := by decide +kernel
theorem d_Nb_cast_87 : decode prog_1_method_5_code 87 = .ok (.iload 5, 2) := by decide +kernel
theorem d_Nb_cast_89 : decode prog_1_method_5_code 89 = .ok (.i2c, 1) := by decide +kernel
theorem d_Nb_cast_90 : decode prog_1_method_5_code 90 = .ok (.i2l, 1) := by decide +kernel
theorem d_Nb_cast_91 : decode prog_1_method_5_code 91 = .ok (.lreturn, 1) := by decide +kernel
theorem d_Nb_cast_92 : decode prog_1_method_5_code 92 = .ok (.iload 5, 2) := by decide +kernel
theorem d_Nb_cast_94 : decode prog_1_method_5_code 94 = .ok (.i2b, 1) := by decide +kernel
theorem d_Nb_cast_95 : decode prog_1_method_5_code 95 = .ok (.i2l, 1) := by decide +kernel
theorem d_Nb_cast_96 : decode prog_1_method_5_code 96 = .ok (.lreturn, 1) := by decide +kernel
theorem d_Nb_cast_97 : decode prog_1_method_5_code 97 = .ok (.ldc2_w 40, 3) := by decide +kernel
theorem d_Nb_cast_100 : decode prog_1_method_5_code 100 = .ok (.lreturn, 1) := by decide +kernel
set_option maxHeartbeats 1200000 in
set_option maxRecDepth 100000 in
theorem c_Nb_cast (l : Launch) (ad : Nat → Nat) (dC : Nat → ClassId) (dI : Nat → Nat → Nat) (h0 q0 : Nat) (cA : ClassId) (f : Nat → Int64) (k : Int32) (n : Int32)  : Met l y_Nb_cast w_Nb_cast ({ frames := 3, cells := 0, slots := 0, locals := 71 } : Room) (va_Pc [.ref h0, .int k, .int n] (nb_W (dC, dI) 0 h0 q0 cA f ad)) (vp_Sl (fun r => r = mf_Nb_cast f k n)) 0 0 (fun _ => False) := by
  refine Met.ofW (cc := prog_1_method_5_code) (maxL := 6) (ret := some .long) (by decide) rfl ?_
  intro p e s m args below meth c s₁ B hml hv
  obtain ⟨rfl, hP, hK, hC⟩ := hv
  have hx := B.exec
  have hb := B.bytes
  have hr := B.returns
  have hts := atoms_spec (ws := w_Nb_cast) B.pre
  have hown : s.vm.findClass "NumberBench" = some m.cls := findClass_of_methodNamed B.named
  have hlocks := B.notSynchronized
  have hC : nb_C ad (fun _ => False) s s.heap := hC
  have hS : va_S (fun _ => False) s.heap s.heap [] := va_S.rf
  have hl := lv_entry ([.ref h0, .int k, .int n]) (n := 6) (Nat.le_of_ble_eq_true rfl)
  rw [lg_entry_eq]
  generalize (lg_sl ([.ref h0, .int k, .int n]) ++ List.replicate (6 - (lg_sl ([.ref h0, .int k, .int n])).length) Slot.unset).toArray = ls at hl ⊢
  have hl : lv_has ls 6 [(0, .ref h0), (1, .int k), (2, .int n)] := hl
  refine lv_iload_n hx hb d_Nb_cast_0 rfl (lv_at hl 1 rfl) ?_
  refine nb_callSi (As := [.int k]) (rest := []) hx hb hml hown hts (c_Nb_isStore l ad k) nb_t25 nb_t26 nb_t1 nb_t27 hd_Nb_isStore rfl ⟨Nat.le_of_ble_eq_true rfl, Nat.le_of_ble_eq_true rfl⟩ ⟨rfl, rfl⟩ hC hS hl.1 rfl (Nat.le_of_ble_eq_true rfl) ⟨Nat.le_of_ble_eq_true rfl, Nat.le_of_ble_eq_true rfl⟩ d_Nb_cast_1 ?_
  refine lv_if_ne (tgt := 11) hx hb d_Nb_cast_4 (by decide) (fun h1 => ?_) (fun h1 => ?_)
  · refine va_gets (v := .ref (ad 1)) hx hb (nb_Z1 hC) hS hown (hts _ (nb_c nb_t28)) (fun _ h => h) d_Nb_cast_11 ?_
    refine lv_aload_n hx hb d_Nb_cast_14 rfl (lv_at hl 0 rfl) ?_
    refine va_get (D := (dC, dI)) (ci := 0) (v := .ref q0) (C := "NumberBench") (T := F_NB) (N := 1) hx hb hts nb_uN hown hK hP 0 rfl rfl 0 (by decide) (hts _ (nb_c nb_t16)) (fun _ h => h) rfl d_Nb_cast_15 ?_
    refine lv_iload_n hx hb d_Nb_cast_18 rfl (lv_at hl 1 rfl) ?_
    refine va_lald hx hb hK hP 1 0 rfl rfl (nb_inS h1) d_Nb_cast_19 ?_
    refine nb_callVl (As := [.long (f k.toNatClampNeg)]) (rest := []) hx hb hml hown hts (c_Fo_cut l ad 1 (f k.toNatClampNeg) (by decide)) nb_t197 nb_t198 nb_t199 (by decide) nb_t4 nb_t200 hd_Fo_cut rfl ⟨Nat.le_of_ble_eq_true rfl, Nat.le_of_ble_eq_true rfl⟩ ⟨rfl, rfl⟩ hC hS hl.1 rfl (Nat.le_of_ble_eq_true rfl) ⟨Nat.le_of_ble_eq_true rfl, Nat.le_of_ble_eq_true rfl⟩ d_Nb_cast_20 ?_
    refine lv_lstore_n hx hb d_Nb_cast_23 rfl hl (by decide) rfl (fun ls hl => ?_)
    have hl : lv_has ls 6 [(3, .long (mf_Fo_cut 1 (f k.toNatClampNeg))), (0, .ref h0), (1, .int k), (2, .int n)] := hl
    refine lv_ldc2 (v := (-2147483648 : Int64)) hx hb hown (hts (.constantLong "NumberBench" 45 (-2147483648 : Int64)) (nb_c nb_t202)) d_Nb_cast_24 ?_
    refine lv_ldc2 (v := (2147483647 : Int64)) hx hb hown (hts (.constantLong "NumberBench" 47 (2147483647 : Int64)) (nb_c nb_t203)) d_Nb_cast_27 ?_
    refine lv_lload_n hx hb d_Nb_cast_30 rfl (lv_at hl 0 rfl) ?_
    refine va_mmin_long hx hb (by rw [hml]; exact hl.1.symm) hown (hts _ (nb_c nb_t204)) (hts _ (nb_c nb_t205)) (hts _ (nb_c nb_t5)) (hts _ (nb_c nb_code_va_mmin_long)) (Nat.le_of_ble_eq_true rfl) (Nat.le_of_ble_eq_true rfl) (Nat.le_of_ble_eq_true rfl) (Nat.le_of_ble_eq_true rfl) d_Nb_cast_31 ?_
    refine va_mmax_long hx hb (by rw [hml]; exact hl.1.symm) hown (hts _ (nb_c nb_t207)) (hts _ (nb_c nb_t208)) (hts _ (nb_c nb_t5)) (hts _ (nb_c nb_code_va_mmax_long)) (Nat.le_of_ble_eq_true rfl) (Nat.le_of_ble_eq_true rfl) (Nat.le_of_ble_eq_true rfl) (Nat.le_of_ble_eq_true rfl) d_Nb_cast_34 ?_
    refine lv_l2i hx hb d_Nb_cast_37 rfl ?_
    refine lv_topi (fun v2 ev2 => ?_)
    refine lv_istore hx hb d_Nb_cast_38 hl (by decide) rfl (fun ls hl => ?_)
    have hl : lv_has ls 6 [(5, .int v2), (3, .long (mf_Fo_cut 1 (f k.toNatClampNeg))), (0, .ref h0), (1, .int k), (2, .int n)] := hl
    refine lv_iload_n hx hb d_Nb_cast_40 rfl (lv_at hl 4 rfl) ?_
    by_cases h3 : n = (0 : Int32)
    · refine lv_tableIn (off := 35) (tgt := 76) hx hb d_Nb_cast_41 (by rw [h3]; decide) (by rw [h3]; decide) (by rw [h3]; decide) (by decide) ?_
      refine lv_iload hx hb d_Nb_cast_76 (lv_at hl 0 rfl) ?_
      refine lv_i2l hx hb d_Nb_cast_78 rfl ?_
      exact W.lret hx hb hr (fun t ht hW => ⟨_, rfl, (by subst ev2; rw [mf_Nb_cast, if_neg h1, if_pos h3]), ht⟩) t_nil d_Nb_cast_79
    by_cases h4 : n = (1 : Int32)
    · refine lv_tableIn (off := 39) (tgt := 80) hx hb d_Nb_cast_41 (by rw [h4]; decide) (by rw [h4]; decide) (by rw [h4]; decide) (by decide) ?_
      refine lv_lload_n hx hb d_Nb_cast_80 rfl (lv_at hl 1 rfl) ?_
      exact W.lret hx hb hr (fun t ht hW => ⟨_, rfl, (by subst ev2; rw [mf_Nb_cast, if_neg h1, if_neg h3, if_pos h4]), ht⟩) t_nil d_Nb_cast_81
    by_cases h5 : n = (2 : Int32)
    · refine lv_tableIn (off := 41) (tgt := 82) hx hb d_Nb_cast_41 (by rw [h5]; decide) (by rw [h5]; decide) (by rw [h5]; decide) (by decide) ?_
      refine lv_iload hx hb d_Nb_cast_82 (lv_at hl 0 rfl) ?_
      refine lv_i2s hx hb d_Nb_cast_84 rfl ?_
      refine lv_i2l hx hb d_Nb_cast_85 rfl ?_
      exact W.lret hx hb hr (fun t ht hW => ⟨_, rfl, (by subst ev2; rw [mf_Nb_cast, if_neg h1, if_neg h3, if_neg h4, if_pos h5]), ht⟩) t_nil d_Nb_cast_86
    by_cases h6 : n = (3 : Int32)
    · refine lv_tableIn (off := 46) (tgt := 87) hx hb d_Nb_cast_41 (by rw [h6]; decide) (by rw [h6]; decide) (by rw [h6]; decide) (by decide) ?_
      refine lv_iload hx hb d_Nb_cast_87 (lv_at hl 0 rfl) ?_
      refine lv_i2c hx hb d_Nb_cast_89 rfl ?_
      refine lv_i2l hx hb d_Nb_cast_90 rfl ?_
      exact W.lret hx hb hr (fun t ht hW => ⟨_, rfl, (by subst ev2; rw [mf_Nb_cast, if_neg h1, if_neg h3, if_neg h4, if_neg h5, if_pos h6]), ht⟩) t_nil d_Nb_cast_91
    by_cases h7 : n = (4 : Int32)
    · refine lv_tableIn (off := 51) (tgt := 92) hx hb d_Nb_cast_41 (by rw [h7]; decide) (by rw [h7]; decide) (by rw [h7]; decide) (by decide) ?_
      refine lv_iload hx hb d_Nb_cast_92 (lv_at hl 0 rfl) ?_
      refine lv_i2b hx hb d_Nb_cast_94 rfl ?_
      refine lv_i2l hx hb d_Nb_cast_95 rfl ?_
      exact W.lret hx hb hr (fun t ht hW => ⟨_, rfl, (by subst ev2; rw [mf_Nb_cast, if_neg h1, if_neg h3, if_neg h4, if_neg h5, if_neg h6, if_pos h7]), ht⟩) t_nil d_Nb_cast_96
    refine lv_tableOut (tgt := 97) hx hb d_Nb_cast_41 (by have q0 := lv_neT (a := 0) h3 (by decide); have q1 := lv_neT (a := 1) h4 (by decide); have q2 := lv_neT (a := 2) h5 (by decide); have q3 := lv_neT (a := 3) h6 (by decide); have q4 := lv_neT (a := 4) h7 (by decide); omega) (by decide) ?_
    refine lv_ldc2 (v := (4611686018427387904 : Int64)) hx hb hown (hts (.constantLong "NumberBench" 40 (4611686018427387904 : Int64)) (nb_c nb_t168)) d_Nb_cast_97 ?_
    exact W.lret hx hb hr (fun t ht hW => ⟨_, rfl, (by subst ev2; rw [mf_Nb_cast, if_neg h1, if_neg h3, if_neg h4, if_neg h5, if_neg h6, if_neg h7]), ht⟩) t_nil d_Nb_cast_100
  · refine lv_ldc2 (v := (4611686018427387904 : Int64)) hx hb hown (hts (.constantLong "NumberBench" 40 (4611686018427387904 : Int64)) (nb_c nb_t168)) d_Nb_cast_7 ?_
    exact W.lret hx hb hr (fun t ht hW => ⟨_, rfl, (by rw [mf_Nb_cast, if_pos h1]), ht⟩) t_nil d_Nb_cast_10
def y_Nb_compare : MethodName := ⟨"NumberBench", "compare", "(II)I"⟩
abbrev w_Nb_compare : List Cond := Cond.code y_Nb_compare prog_1_method_6_code 3 (Option.some FieldType.int) :: nb_tb
theorem hd_Nb_compare : y_Nb_compare.cls ≠ "java/lang/invoke/MethodHandle" ∧ y_Nb_compare.cls ≠ "java/lang/invoke/VarHandle" ∧ (parseMethodDescriptor y_Nb_compare.desc).map (fun d => d.parameters.length) = some 2 := by decide +kernel
theorem d_Nb_compare_0 : decode prog_1_method_6_code 0 = .ok (.iload_n 1, 1) := by decide +kernel
theorem d_Nb_compare_1 : decode prog_1_method_6_code 1 = .ok (.invokestatic 13, 3) := by decide +kernel
theorem d_Nb_compare_4 : decode prog_1_method_6_code 4 = .ok (.ifCond .eq 10, 3) := by decide +kernel
theorem d_Nb_compare_7 : decode prog_1_method_6_code 7 = .ok (.iload_n 2, 1) := by decide +kernel
theorem d_Nb_compare_8 : decode prog_1_method_6_code 8 = .ok (.invokestatic 13, 3) := by decide +kernel
theorem d_Nb_compare_11 : decode prog_1_method_6_code 11 = .ok (.ifCond .ne 5, 3) := by decide +kernel
theorem d_Nb_compare_14 : decode prog_1_method_6_code 14 = .ok (.iconst (-1), 1) := by decide +kernel
theorem d_Nb_compare_15 : decode prog_1_method_6_code 15 = .ok (.ireturn, 1) := by decide +kernel
theorem d_Nb_compare_16 : decode prog_1_method_6_code 16 = .ok (.aload_n 0, 1) := by decide +kernel
theorem d_Nb_compare_17 : decode prog_1_method_6_code 17 = .ok (.getfield 9, 3) := by decide +kernel
theorem d_Nb_compare_20 : decode prog_1_method_6_code 20 = .ok (.iload_n 1, 1) := by decide +kernel
theorem d_Nb_compare_21 : decode prog_1_method_6_code 21 = .ok (.laload, 1) := by decide +kernel
theorem d_Nb_compare_22 : decode prog_1_method_6_code 22 = .ok (.aload_n 0, 1) := by decide +kernel
theorem d_Nb_compare_23 : decode prog_1_method_6_code 23 = .ok (.getfield 9, 3) := by decide +kernel
theorem d_Nb_compare_26 : decode prog_1_method_6_code 26 = .ok (.iload_n 2, 1) := by decide +kernel
theorem d_Nb_compare_27 : decode prog_1_method_6_code 27 = .ok (.laload, 1) := by decide +kernel
theorem d_Nb_compare_28 : decode prog_1_method_6_code 28 = .ok (.invokestatic 58, 3) := by decide +kernel
theorem d_Nb_compare_31 : decode prog_1_method_6_code 31 = .ok (.ireturn, 1) := by decide +kernel
set_option maxHeartbeats 1200000 in
set_option maxRecDepth 100000 in
theorem c_Nb_compare (l : Launch) (ad : Nat → Nat) (dC : Nat → ClassId) (dI : Nat → Nat → Nat) (h0 q0 : Nat) (cA : ClassId) (f : Nat → Int64) (k : Int32) (n : Int32)  : Met l y_Nb_compare w_Nb_compare ({ frames := 3, cells := 0, slots := 0, locals := 68 } : Room) (va_Pc [.ref h0, .int k, .int n] (nb_W (dC, dI) 0 h0 q0 cA f ad)) (vp_Si (fun r => r = mf_Nb_compare f k n)) 0 0 (fun _ => False) := by
  refine Met.ofW (cc := prog_1_method_6_code) (maxL := 3) (ret := some .int) (by decide) rfl ?_
  intro p e s m args below meth c s₁ B hml hv
  obtain ⟨rfl, hP, hK, hC⟩ := hv
  have hx := B.exec
  have hb := B.bytes
  have hr := B.returns
  have hts := atoms_spec (ws := w_Nb_compare) B.pre
  have hown : s.vm.findClass "NumberBench" = some m.cls := findClass_of_methodNamed B.named
  have hlocks := B.notSynchronized
  have hC : nb_C ad (fun _ => False) s s.heap := hC
  have hS : va_S (fun _ => False) s.heap s.heap [] := va_S.rf
  have hl := lv_entry ([.ref h0, .int k, .int n]) (n := 3) (Nat.le_of_ble_eq_true rfl)
  rw [lg_entry_eq]
  generalize (lg_sl ([.ref h0, .int k, .int n]) ++ List.replicate (3 - (lg_sl ([.ref h0, .int k, .int n])).length) Slot.unset).toArray = ls at hl ⊢
  have hl : lv_has ls 3 [(0, .ref h0), (1, .int k), (2, .int n)] := hl
  refine lv_iload_n hx hb d_Nb_compare_0 rfl (lv_at hl 1 rfl) ?_
  refine nb_callSi (As := [.int k]) (rest := []) hx hb hml hown hts (c_Nb_isStore l ad k) nb_t25 nb_t26 nb_t1 nb_t27 hd_Nb_isStore rfl ⟨Nat.le_of_ble_eq_true rfl, Nat.le_of_ble_eq_true rfl⟩ ⟨rfl, rfl⟩ hC hS hl.1 rfl (Nat.le_of_ble_eq_true rfl) ⟨Nat.le_of_ble_eq_true rfl, Nat.le_of_ble_eq_true rfl⟩ d_Nb_compare_1 ?_
  refine lv_if_eq (tgt := 14) hx hb d_Nb_compare_4 (by decide) (fun h1 => ?_) (fun h1 => ?_)
  · refine lv_iconst (v := (-1)) hx hb d_Nb_compare_14 (by decide) ?_
    exact W.iret hx hb hr (fun t ht hW => ⟨_, rfl, (by rw [mf_Nb_compare, if_pos h1]), ht⟩) t_nil d_Nb_compare_15
  · refine lv_iload_n hx hb d_Nb_compare_7 rfl (lv_at hl 2 rfl) ?_
    refine nb_callSi (As := [.int n]) (rest := []) hx hb hml hown hts (c_Nb_isStore l ad n) nb_t25 nb_t26 nb_t1 nb_t27 hd_Nb_isStore rfl ⟨Nat.le_of_ble_eq_true rfl, Nat.le_of_ble_eq_true rfl⟩ ⟨rfl, rfl⟩ hC hS hl.1 rfl (Nat.le_of_ble_eq_true rfl) ⟨Nat.le_of_ble_eq_true rfl, Nat.le_of_ble_eq_true rfl⟩ d_Nb_compare_8 ?_
    refine lv_if_ne (tgt := 16) hx hb d_Nb_compare_11 (by decide) (fun h2 => ?_) (fun h2 => ?_)
    · refine lv_aload_n hx hb d_Nb_compare_16 rfl (lv_at hl 0 rfl) ?_
      refine va_get (D := (dC, dI)) (ci := 0) (v := .ref q0) (C := "NumberBench") (T := F_NB) (N := 1) hx hb hts nb_uN hown hK hP 0 rfl rfl 0 (by decide) (hts _ (nb_c nb_t16)) (fun _ h => h) rfl d_Nb_compare_17 ?_
      refine lv_iload_n hx hb d_Nb_compare_20 rfl (lv_at hl 1 rfl) ?_
      refine va_lald hx hb hK hP 1 0 rfl rfl (nb_inS h1) d_Nb_compare_21 ?_
      refine lv_aload_n hx hb d_Nb_compare_22 rfl (lv_at hl 0 rfl) ?_
      refine va_get (D := (dC, dI)) (ci := 0) (v := .ref q0) (C := "NumberBench") (T := F_NB) (N := 1) hx hb hts nb_uN hown hK hP 0 rfl rfl 0 (by decide) (hts _ (nb_c nb_t16)) (fun _ h => h) rfl d_Nb_compare_23 ?_
      refine lv_iload_n hx hb d_Nb_compare_26 rfl (lv_at hl 2 rfl) ?_
      refine va_lald hx hb hK hP 1 0 rfl rfl (nb_inS h2) d_Nb_compare_27 ?_
      refine nb_callSi (As := [.long (f k.toNatClampNeg), .long (f n.toNatClampNeg)]) (rest := []) hx hb hml hown hts (c_Nb_relations l ad (f k.toNatClampNeg) (f n.toNatClampNeg)) nb_t214 nb_t215 nb_t1 nb_t216 hd_Nb_relations rfl ⟨Nat.le_of_ble_eq_true rfl, Nat.le_of_ble_eq_true rfl⟩ ⟨rfl, rfl⟩ hC hS hl.1 rfl (Nat.le_of_ble_eq_true rfl) ⟨Nat.le_of_ble_eq_true rfl, Nat.le_of_ble_eq_true rfl⟩ d_Nb_compare_28 ?_
      exact W.iret hx hb hr (fun t ht hW => ⟨_, rfl, (by rw [mf_Nb_compare, if_neg h1, if_neg h2]), ht⟩) t_nil d_Nb_compare_31
    · refine lv_iconst (v := (-1)) hx hb d_Nb_compare_14 (by decide) ?_
      exact W.iret hx hb hr (fun t ht hW => ⟨_, rfl, (by rw [mf_Nb_compare, if_neg h1, if_pos h2]), ht⟩) t_nil d_Nb_compare_15
def y_Nb_horner : MethodName := ⟨"NumberBench", "horner", "(I)J"⟩
abbrev w_Nb_horner : List Cond := Cond.code y_Nb_horner prog_1_method_7_code 5 (Option.some FieldType.long) :: nb_tb
theorem hd_Nb_horner : y_Nb_horner.cls ≠ "java/lang/invoke/MethodHandle" ∧ y_Nb_horner.cls ≠ "java/lang/invoke/VarHandle" ∧ (parseMethodDescriptor y_Nb_horner.desc).map (fun d => d.parameters.length) = some 1 := by decide +kernel
theorem d_Nb_horner_0 : decode prog_1_method_7_code 0 = .ok (.iload_n 1, 1) := by decide +kernel
theorem d_Nb_horner_1 : decode prog_1_method_7_code 1 = .ok (.invokestatic 13, 3) := by decide +kernel
theorem d_Nb_horner_4 : decode prog_1_method_7_code 4 = .ok (.ifCond .ne 5, 3) := by decide +kernel
theorem d_Nb_horner_7 : decode prog_1_method_7_code 7 = .ok (.lconst 1, 1) := by decide +kernel
theorem d_Nb_horner_8 : decode prog_1_method_7_code 8 = .ok (.lreturn, 1) := by decide +kernel
theorem d_Nb_horner_9 : decode prog_1_method_7_code 9 = .ok (.aload_n 0, 1) := by decide +kernel
theorem d_Nb_horner_10 : decode prog_1_method_7_code 10 = .ok (.getfield 9, 3) := by decide +kernel
theorem d_Nb_horner_13 : decode prog_1_method_7_code 13 = .ok (.bipush 7, 2) := by decide +kernel
theorem d_Nb_horner_15 : decode prog_1_method_7_code 15 = .ok (.laload, 1) := by decide +kernel
theorem d_Nb_horner_16 : decode prog_1_method_7_code 16 = .ok (.lstore_n 2, 1) := by decide +kernel
theorem d_Nb_horner_17 : decode prog_1_method_7_code 17 = .ok (.bipush 6, 2) := by decide +kernel
theorem d_Nb_horner_19 : decode prog_1_method_7_code 19 = .ok (.istore 4, 2) := by decide +kernel
theorem d_Nb_horner_21 : decode prog_1_method_7_code 21 = .ok (.iload 4, 2) := by decide +kernel
theorem d_Nb_horner_23 : decode prog_1_method_7_code 23 = .ok (.ifCond .lt 36, 3) := by decide +kernel
theorem d_Nb_horner_26 : decode prog_1_method_7_code 26 = .ok (.getstatic 17, 3) := by decide +kernel
theorem d_Nb_horner_29 : decode prog_1_method_7_code 29 = .ok (.getstatic 17, 3) := by decide +kernel
theorem d_Nb_horner_32 : decode prog_1_method_7_code 32 = .ok (.lload_n 2, 1) := by decide +kernel
theorem d_Nb_horner_33 : decode prog_1_method_7_code 33 = .ok (.aload_n 0, 1) := by decide +kernel
theorem d_Nb_horner_34 : decode prog_1_method_7_code 34 = .ok (.getfield 9, 3) := by decide +kernel
theorem d_Nb_horner_37 : decode prog_1_method_7_code 37 = .ok (.iload_n 1, 1) := by decide +kernel
theorem d_Nb_horner_38 : decode prog_1_method_7_code 38 = .ok (.laload, 1) := by decide +kernel
theorem d_Nb_horner_39 : decode prog_1_method_7_code 39 = .ok (.invokevirtual 62, 3) := by decide +kernel
theorem d_Nb_horner_42 : decode prog_1_method_7_code 42 = .ok (.aload_n 0, 1) := by decide +kernel
theorem d_Nb_horner_43 : decode prog_1_method_7_code 43 = .ok (.getfield 9, 3) := by decide +kernel
theorem d_Nb_horner_46 : decode prog_1_method_7_code 46 = .ok (.iload 4, 2) := by decide +kernel
theorem d_Nb_horner_48 : decode prog_1_method_7_code 48 = .ok (.laload, 1) := by decide +kernel
theorem d_Nb_horner_49 : decode prog_1_method_7_code 49 = .ok (.invokevirtual 65, 3) := by decide +kernel
theorem d_Nb_horner_52 : decode prog_1_method_7_code 52 = .ok (.lstore_n 2, 1) := by decide +kernel
theorem d_Nb_horner_53 : decode prog_1_method_7_code 53 = .ok (.iinc 4 (-1), 3) := by decide +kernel
theorem d_Nb_horner_56 : decode prog_1_method_7_code 56 = .ok (.goto (-35), 3) := by decide +kernel
theorem d_Nb_horner_59 : decode prog_1_method_7_code 59 = .ok (.lload_n 2, 1) := by decide +kernel
theorem d_Nb_horner_60 : decode prog_1_method_7_code 60 = .ok (.lreturn, 1) := by decide +kernel
set_option maxHeartbeats 1200000 in
set_option maxRecDepth 100000 in
theorem c_Nb_horner (l : Launch) (ad : Nat → Nat) (dC : Nat → ClassId) (dI : Nat → Nat → Nat) (h0 q0 : Nat) (cA : ClassId) (f : Nat → Int64) (k : Int32)  : Met l y_Nb_horner w_Nb_horner ({ frames := 5, cells := 0, slots := 0, locals := 131 } : Room) (va_Pc [.ref h0, .int k] (nb_W (dC, dI) 0 h0 q0 cA f ad)) (vp_Sl (fun r => r = mf_Nb_horner f k)) 0 0 (fun _ => False) := by
  refine Met.ofW (cc := prog_1_method_7_code) (maxL := 5) (ret := some .long) (by decide) rfl ?_
  intro p e s m args below meth c s₁ B hml hv
  obtain ⟨rfl, hP, hK, hC⟩ := hv
  have hx := B.exec
  have hb := B.bytes
  have hr := B.returns
  have hts := atoms_spec (ws := w_Nb_horner) B.pre
  have hown : s.vm.findClass "NumberBench" = some m.cls := findClass_of_methodNamed B.named
  have hlocks := B.notSynchronized
  have hC : nb_C ad (fun _ => False) s s.heap := hC
  have hS : va_S (fun _ => False) s.heap s.heap [] := va_S.rf
  have hl := lv_entry ([.ref h0, .int k]) (n := 5) (Nat.le_of_ble_eq_true rfl)
  rw [lg_entry_eq]
  generalize (lg_sl ([.ref h0, .int k]) ++ List.replicate (5 - (lg_sl ([.ref h0, .int k])).length) Slot.unset).toArray = ls at hl ⊢
  have hl : lv_has ls 5 [(0, .ref h0), (1, .int k)] := hl
  have b21 : ∀ (fuel : Nat) (x2 : Int64) (x4 : Int32) (ls : Array Slot), ((x4.toInt + 1).toNat) < fuel → lv_has ls 5 [(0, .ref h0), (1, .int k), (2, .long x2), (4, .int x4)] → (¬ (mf_Nb_isStore k) = 0) → (x4 ≤ 6) → mf_Nb_horner f k = mf_Nb_horner_b21 f k fuel x2 x4 → W p l e (headSpec w_Nb_horner ({ frames := 5, cells := 0, slots := 0, locals := 131 } : Room)).room s m ([.ref h0, .int k] : List Value).toArray below meth c s.heap [] 0 0 (MQ below (vp_Sl (fun r => r = mf_Nb_horner f k)) ([.ref h0, .int k] : List Value).toArray s 0 0 (fun _ => False)) (F0 m 21 ls []) := by
    intro fuel
    induction fuel with
    | zero => intro x2 x4 ls hf; exact absurd hf (Nat.not_lt_zero _)
    | succ fuel ih =>
      intro x2 x4 ls hf hl hs h6 hE
      refine lv_iload hx hb d_Nb_horner_21 (lv_at hl 3 rfl) ?_
      refine lv_if_lt (tgt := 59) hx hb d_Nb_horner_23 (by decide) (fun h2 => ?_) (fun h2 => ?_)
      · refine lv_lload_n hx hb d_Nb_horner_59 rfl (lv_at hl 2 rfl) ?_
        exact W.lret hx hb hr (fun t ht hW => ⟨_, rfl, (by rw [hE, mf_Nb_horner_b21, if_pos h2]), ht⟩) t_nil d_Nb_horner_60
      · refine va_gets (v := .ref (ad 1)) hx hb (nb_Z1 hC) hS hown (hts _ (nb_c nb_t28)) (fun _ h => h) d_Nb_horner_26 ?_
        refine va_gets (v := .ref (ad 1)) hx hb (nb_Z1 hC) hS hown (hts _ (nb_c nb_t28)) (fun _ h => h) d_Nb_horner_29 ?_
        refine lv_lload_n hx hb d_Nb_horner_32 rfl (lv_at hl 2 rfl) ?_
        refine lv_aload_n hx hb d_Nb_horner_33 rfl (lv_at hl 0 rfl) ?_
        refine va_get (D := (dC, dI)) (ci := 0) (v := .ref q0) (C := "NumberBench") (T := F_NB) (N := 1) hx hb hts nb_uN hown hK hP 0 rfl rfl 0 (by decide) (hts _ (nb_c nb_t16)) (fun _ h => h) rfl d_Nb_horner_34 ?_
        refine lv_iload_n hx hb d_Nb_horner_37 rfl (lv_at hl 1 rfl) ?_
        refine va_lald hx hb hK hP 1 0 rfl rfl (nb_inS hs) d_Nb_horner_38 ?_
        refine nb_callVl (As := [.long x2, .long (f k.toNatClampNeg)]) (rest := [.ref (ad 1)]) hx hb hml hown hts (c_Fo_times l ad 1 x2 (f k.toNatClampNeg) (by decide)) nb_t111 nb_t112 nb_t113 (by decide) nb_t4 nb_t114 hd_Fo_times rfl ⟨Nat.le_of_ble_eq_true rfl, Nat.le_of_ble_eq_true rfl⟩ ⟨rfl, rfl⟩ hC hS hl.1 rfl (Nat.le_of_ble_eq_true rfl) ⟨Nat.le_of_ble_eq_true rfl, Nat.le_of_ble_eq_true rfl⟩ d_Nb_horner_39 ?_
        refine lv_aload_n hx hb d_Nb_horner_42 rfl (lv_at hl 0 rfl) ?_
        refine va_get (D := (dC, dI)) (ci := 0) (v := .ref q0) (C := "NumberBench") (T := F_NB) (N := 1) hx hb hts nb_uN hown hK hP 0 rfl rfl 0 (by decide) (hts _ (nb_c nb_t16)) (fun _ h => h) rfl d_Nb_horner_43 ?_
        refine lv_iload hx hb d_Nb_horner_46 (lv_at hl 3 rfl) ?_
        refine va_lald hx hb hK hP 1 0 rfl rfl (nb_in6 h6 h2) d_Nb_horner_48 ?_
        refine nb_callVl (As := [.long (mf_Fo_times 1 x2 (f k.toNatClampNeg)), .long (f x4.toNatClampNeg)]) (rest := []) hx hb hml hown hts (c_Fo_plus l ad 1 (mf_Fo_times 1 x2 (f k.toNatClampNeg)) (f x4.toNatClampNeg) (by decide)) nb_t53 nb_t54 nb_t55 (by decide) nb_t4 nb_t56 hd_Fo_plus rfl ⟨Nat.le_of_ble_eq_true rfl, Nat.le_of_ble_eq_true rfl⟩ ⟨rfl, rfl⟩ hC hS hl.1 rfl (Nat.le_of_ble_eq_true rfl) ⟨Nat.le_of_ble_eq_true rfl, Nat.le_of_ble_eq_true rfl⟩ d_Nb_horner_49 ?_
        refine lv_topl (fun v3 ev3 => ?_)
        refine lv_lstore_n hx hb d_Nb_horner_52 rfl hl (by decide) rfl (fun ls hl => ?_)
        have hl : lv_has ls 5 [(2, .long v3), (0, .ref h0), (1, .int k), (4, .int x4)] := hl
        refine lv_iinc (k := 3) (v := x4 + (-1 : Int32)) hx hb d_Nb_horner_53 hl rfl rfl (by decide) rfl (fun ls hl => ?_)
        have hl : lv_has ls 5 [(4, .int (x4 + (-1 : Int32))), (2, .long v3), (0, .ref h0), (1, .int k)] := hl
        refine lv_goto (tgt := 21) hx hb d_Nb_horner_56 (by decide) ?_
        exact ih v3 (x4 + (-1 : Int32)) ls (Nat.lt_of_lt_of_le (lp_dn h2) (Nat.le_of_lt_succ hf)) (lv_sub hl [2, 3, 1, 0] rfl) hs (lp_dnle h6 h2) (by subst ev3; rw [hE, mf_Nb_horner_b21, if_neg h2])
  refine lv_iload_n hx hb d_Nb_horner_0 rfl (lv_at hl 1 rfl) ?_
  refine nb_callSi (As := [.int k]) (rest := []) hx hb hml hown hts (c_Nb_isStore l ad k) nb_t25 nb_t26 nb_t1 nb_t27 hd_Nb_isStore rfl ⟨Nat.le_of_ble_eq_true rfl, Nat.le_of_ble_eq_true rfl⟩ ⟨rfl, rfl⟩ hC hS hl.1 rfl (Nat.le_of_ble_eq_true rfl) ⟨Nat.le_of_ble_eq_true rfl, Nat.le_of_ble_eq_true rfl⟩ d_Nb_horner_1 ?_
  refine lv_if_ne (tgt := 9) hx hb d_Nb_horner_4 (by decide) (fun h1 => ?_) (fun h1 => ?_)
  · refine lv_aload_n hx hb d_Nb_horner_9 rfl (lv_at hl 0 rfl) ?_
    refine va_get (D := (dC, dI)) (ci := 0) (v := .ref q0) (C := "NumberBench") (T := F_NB) (N := 1) hx hb hts nb_uN hown hK hP 0 rfl rfl 0 (by decide) (hts _ (nb_c nb_t16)) (fun _ h => h) rfl d_Nb_horner_10 ?_
    refine lv_bipush (v := 7) hx hb d_Nb_horner_13 (by decide) ?_
    refine va_lald hx hb hK hP 1 0 rfl rfl (nb_inL (by decide)) d_Nb_horner_15 ?_
    refine lv_lstore_n hx hb d_Nb_horner_16 rfl hl (by decide) rfl (fun ls hl => ?_)
    have hl : lv_has ls 5 [(2, .long (f (7 : Int32).toNatClampNeg)), (0, .ref h0), (1, .int k)] := hl
    refine lv_bipush (v := 6) hx hb d_Nb_horner_17 (by decide) ?_
    refine lv_istore hx hb d_Nb_horner_19 hl (by decide) rfl (fun ls hl => ?_)
    have hl : lv_has ls 5 [(4, .int (6 : Int32)), (2, .long (f (7 : Int32).toNatClampNeg)), (0, .ref h0), (1, .int k)] := hl
    exact b21 ((((6 : Int32).toInt + 1).toNat) + 1) (f (7 : Int32).toNatClampNeg) (6 : Int32) ls (Nat.lt_succ_self _) (lv_sub hl [2, 3, 1, 0] rfl) h1 (by decide) (by rw [mf_Nb_horner, if_neg h1])
  · refine lv_lconst (v := 1) hx hb d_Nb_horner_7 (by decide) ?_
    exact W.lret hx hb hr (fun t ht hW => ⟨_, rfl, (by rw [mf_Nb_horner, if_pos h1]), ht⟩) t_nil d_Nb_horner_8
def y_Nb_single : MethodName := ⟨"NumberBench", "single", "(I)I"⟩
abbrev w_Nb_single : List Cond := Cond.code y_Nb_single prog_1_method_8_code 2 (Option.some FieldType.int) :: nb_tb
theorem hd_Nb_single : y_Nb_single.cls ≠ "java/lang/invoke/MethodHandle" ∧ y_Nb_single.cls ≠ "java/lang/invoke/VarHandle" ∧ (parseMethodDescriptor y_Nb_single.desc).map (fun d => d.parameters.length) = some 1 := by decide +kernel
theorem d_Nb_single_0 : decode prog_1_method_8_code 0 = .ok (.iload_n 1, 1) := by decide +kernel
theorem d_Nb_single_1 : decode prog_1_method_8_code 1 = .ok (.invokestatic 13, 3) := by decide +kernel
theorem d_Nb_single_4 : decode prog_1_method_8_code 4 = .ok (.ifCond .ne 5, 3) := by decide +kernel
theorem d_Nb_single_7 : decode prog_1_method_8_code 7 = .ok (.iconst 1, 1) := by decide +kernel
theorem d_Nb_single_8 : decode prog_1_method_8_code 8 = .ok (.ireturn, 1) := by decide +kernel
theorem d_Nb_single_9 : decode prog_1_method_8_code 9 = .ok (.aload_n 0, 1) := by decide +kernel
theorem d_Nb_single_10 : decode prog_1_method_8_code 10 = .ok (.getfield 9, 3) := by decide +kernel
theorem d_Nb_single_13 : decode prog_1_method_8_code 13 = .ok (.iload_n 1, 1) := by decide +kernel
theorem d_Nb_single_14 : decode prog_1_method_8_code 14 = .ok (.laload, 1) := by decide +kernel
theorem d_Nb_single_15 : decode prog_1_method_8_code 15 = .ok (.invokestatic 68, 3) := by decide +kernel
theorem d_Nb_single_18 : decode prog_1_method_8_code 18 = .ok (.l2i, 1) := by decide +kernel
theorem d_Nb_single_19 : decode prog_1_method_8_code 19 = .ok (.ireturn, 1) := by decide +kernel
set_option maxHeartbeats 1200000 in
set_option maxRecDepth 100000 in
theorem c_Nb_single (l : Launch) (ad : Nat → Nat) (dC : Nat → ClassId) (dI : Nat → Nat → Nat) (h0 q0 : Nat) (cA : ClassId) (f : Nat → Int64) (k : Int32)  : Met l y_Nb_single w_Nb_single ({ frames := 5, cells := 0, slots := 0, locals := 117 } : Room) (va_Pc [.ref h0, .int k] (nb_W (dC, dI) 0 h0 q0 cA f ad)) (vp_Si (fun r => r = mf_Nb_single f k)) 0 0 (fun _ => False) := by
  refine Met.ofW (cc := prog_1_method_8_code) (maxL := 2) (ret := some .int) (by decide) rfl ?_
  intro p e s m args below meth c s₁ B hml hv
  obtain ⟨rfl, hP, hK, hC⟩ := hv
  have hx := B.exec
  have hb := B.bytes
  have hr := B.returns
  have hts := atoms_spec (ws := w_Nb_single) B.pre
  have hown : s.vm.findClass "NumberBench" = some m.cls := findClass_of_methodNamed B.named
  have hlocks := B.notSynchronized
  have hC : nb_C ad (fun _ => False) s s.heap := hC
  have hS : va_S (fun _ => False) s.heap s.heap [] := va_S.rf
  have hl := lv_entry ([.ref h0, .int k]) (n := 2) (Nat.le_of_ble_eq_true rfl)
  rw [lg_entry_eq]
  generalize (lg_sl ([.ref h0, .int k]) ++ List.replicate (2 - (lg_sl ([.ref h0, .int k])).length) Slot.unset).toArray = ls at hl ⊢
  have hl : lv_has ls 2 [(0, .ref h0), (1, .int k)] := hl
  refine lv_iload_n hx hb d_Nb_single_0 rfl (lv_at hl 1 rfl) ?_
  refine nb_callSi (As := [.int k]) (rest := []) hx hb hml hown hts (c_Nb_isStore l ad k) nb_t25 nb_t26 nb_t1 nb_t27 hd_Nb_isStore rfl ⟨Nat.le_of_ble_eq_true rfl, Nat.le_of_ble_eq_true rfl⟩ ⟨rfl, rfl⟩ hC hS hl.1 rfl (Nat.le_of_ble_eq_true rfl) ⟨Nat.le_of_ble_eq_true rfl, Nat.le_of_ble_eq_true rfl⟩ d_Nb_single_1 ?_
  refine lv_if_ne (tgt := 9) hx hb d_Nb_single_4 (by decide) (fun h1 => ?_) (fun h1 => ?_)
  · refine lv_aload_n hx hb d_Nb_single_9 rfl (lv_at hl 0 rfl) ?_
    refine va_get (D := (dC, dI)) (ci := 0) (v := .ref q0) (C := "NumberBench") (T := F_NB) (N := 1) hx hb hts nb_uN hown hK hP 0 rfl rfl 0 (by decide) (hts _ (nb_c nb_t16)) (fun _ h => h) rfl d_Nb_single_10 ?_
    refine lv_iload_n hx hb d_Nb_single_13 rfl (lv_at hl 1 rfl) ?_
    refine va_lald hx hb hK hP 1 0 rfl rfl (nb_inS h1) d_Nb_single_14 ?_
    refine nb_callSl (As := [.long (f k.toNatClampNeg)]) (rest := []) hx hb hml hown hts (c_Nb_narrowed l ad (f k.toNatClampNeg)) nb_t154 nb_t155 nb_t1 nb_t156 hd_Nb_narrowed rfl ⟨Nat.le_of_ble_eq_true rfl, Nat.le_of_ble_eq_true rfl⟩ ⟨rfl, rfl⟩ hC hS hl.1 rfl (Nat.le_of_ble_eq_true rfl) ⟨Nat.le_of_ble_eq_true rfl, Nat.le_of_ble_eq_true rfl⟩ d_Nb_single_15 ?_
    refine lv_l2i hx hb d_Nb_single_18 rfl ?_
    exact W.iret hx hb hr (fun t ht hW => ⟨_, rfl, (by rw [mf_Nb_single, if_neg h1]), ht⟩) t_nil d_Nb_single_19
  · refine lv_iconst (v := 1) hx hb d_Nb_single_7 (by decide) ?_
    exact W.iret hx hb hr (fun t ht hW => ⟨_, rfl, (by rw [mf_Nb_single, if_pos h1]), ht⟩) t_nil d_Nb_single_8
