def y_Fo_plus : MethodName := ⟨"NumberBench$Form", "plus", "(JJ)J"⟩
abbrev w_Fo_plus : List Cond := Cond.code y_Fo_plus prog_2_method_8_code 5 (Option.some FieldType.long) :: nb_tb
theorem hd_Fo_plus : y_Fo_plus.cls ≠ "java/lang/invoke/MethodHandle" ∧ y_Fo_plus.cls ≠ "java/lang/invoke/VarHandle" ∧ (parseMethodDescriptor y_Fo_plus.desc).map (fun d => d.parameters.length) = some 2 := by decide +kernel
theorem d_Fo_plus_0 : decode prog_2_method_8_code 0 = .ok (.aload_n 0, 1) := by decide +kernel
theorem d_Fo_plus_1 : decode prog_2_method_8_code 1 = .ok (.lload_n 1, 1) := by decide +kernel
theorem d_Fo_plus_2 : decode prog_2_method_8_code 2 = .ok (.invokevirtual 54, 3) := by decide +kernel
theorem d_Fo_plus_5 : decode prog_2_method_8_code 5 = .ok (.ifCond .ne 11, 3) := by decide +kernel
theorem d_Fo_plus_8 : decode prog_2_method_8_code 8 = .ok (.aload_n 0, 1) := by decide +kernel
theorem d_Fo_plus_9 : decode prog_2_method_8_code 9 = .ok (.lload_n 3, 1) := by decide +kernel
theorem d_Fo_plus_10 : decode prog_2_method_8_code 10 = .ok (.invokevirtual 54, 3) := by decide +kernel
theorem d_Fo_plus_13 : decode prog_2_method_8_code 13 = .ok (.ifCond .eq 8, 3) := by decide +kernel
theorem d_Fo_plus_16 : decode prog_2_method_8_code 16 = .ok (.aload_n 0, 1) := by decide +kernel
theorem d_Fo_plus_17 : decode prog_2_method_8_code 17 = .ok (.getfield 51, 3) := by decide +kernel
theorem d_Fo_plus_20 : decode prog_2_method_8_code 20 = .ok (.lreturn, 1) := by decide +kernel
theorem d_Fo_plus_21 : decode prog_2_method_8_code 21 = .ok (.aload_n 0, 1) := by decide +kernel
theorem d_Fo_plus_22 : decode prog_2_method_8_code 22 = .ok (.lload_n 1, 1) := by decide +kernel
theorem d_Fo_plus_23 : decode prog_2_method_8_code 23 = .ok (.invokevirtual 65, 3) := by decide +kernel
theorem d_Fo_plus_26 : decode prog_2_method_8_code 26 = .ok (.ifCond .eq 26, 3) := by decide +kernel
theorem d_Fo_plus_29 : decode prog_2_method_8_code 29 = .ok (.aload_n 0, 1) := by decide +kernel
theorem d_Fo_plus_30 : decode prog_2_method_8_code 30 = .ok (.lload_n 3, 1) := by decide +kernel
theorem d_Fo_plus_31 : decode prog_2_method_8_code 31 = .ok (.invokevirtual 65, 3) := by decide +kernel
theorem d_Fo_plus_34 : decode prog_2_method_8_code 34 = .ok (.ifCond .eq 16, 3) := by decide +kernel
theorem d_Fo_plus_37 : decode prog_2_method_8_code 37 = .ok (.lload_n 1, 1) := by decide +kernel
theorem d_Fo_plus_38 : decode prog_2_method_8_code 38 = .ok (.lload_n 3, 1) := by decide +kernel
theorem d_Fo_plus_39 : decode prog_2_method_8_code 39 = .ok (.lcmp, 1) := by decide +kernel
theorem d_Fo_plus_40 : decode prog_2_method_8_code 40 = .ok (.ifCond .eq 10, 3) := by decide +kernel
theorem d_Fo_plus_43 : decode prog_2_method_8_code 43 = .ok (.aload_n 0, 1) := by decide +kernel
theorem d_Fo_plus_44 : decode prog_2_method_8_code 44 = .ok (.getfield 51, 3) := by decide +kernel
theorem d_Fo_plus_47 : decode prog_2_method_8_code 47 = .ok (.goto 4, 3) := by decide +kernel
theorem d_Fo_plus_50 : decode prog_2_method_8_code 50 = .ok (.lload_n 1, 1) := by decide +kernel
theorem d_Fo_plus_51 : decode prog_2_method_8_code 51 = .ok (.lreturn, 1) := by decide +kernel
theorem d_Fo_plus_52 : decode prog_2_method_8_code 52 = .ok (.aload_n 0, 1) := by decide +kernel
theorem d_Fo_plus_53 : decode prog_2_method_8_code 53 = .ok (.lload_n 3, 1) := by decide +kernel
theorem d_Fo_plus_54 : decode prog_2_method_8_code 54 = .ok (.invokevirtual 65, 3) := by decide +kernel
theorem d_Fo_plus_57 : decode prog_2_method_8_code 57 = .ok (.ifCond .eq 5, 3) := by decide +kernel
theorem d_Fo_plus_60 : decode prog_2_method_8_code 60 = .ok (.lload_n 3, 1) := by decide +kernel
theorem d_Fo_plus_61 : decode prog_2_method_8_code 61 = .ok (.lreturn, 1) := by decide +kernel
theorem d_Fo_plus_62 : decode prog_2_method_8_code 62 = .ok (.aload_n 0, 1) := by decide +kernel
theorem d_Fo_plus_63 : decode prog_2_method_8_code 63 = .ok (.lload_n 1, 1) := by decide +kernel
theorem d_Fo_plus_64 : decode prog_2_method_8_code 64 = .ok (.invokevirtual 58, 3) := by decide +kernel
theorem d_Fo_plus_67 : decode prog_2_method_8_code 67 = .ok (.aload_n 0, 1) := by decide +kernel
theorem d_Fo_plus_68 : decode prog_2_method_8_code 68 = .ok (.lload_n 3, 1) := by decide +kernel
theorem d_Fo_plus_69 : decode prog_2_method_8_code 69 = .ok (.invokevirtual 58, 3) := by decide +kernel
theorem d_Fo_plus_72 : decode prog_2_method_8_code 72 = .ok (.lcmp, 1) := by decide +kernel
theorem d_Fo_plus_73 : decode prog_2_method_8_code 73 = .ok (.ifCond .lt 12, 3) := by decide +kernel
theorem d_Fo_plus_76 : decode prog_2_method_8_code 76 = .ok (.aload_n 0, 1) := by decide +kernel
theorem d_Fo_plus_77 : decode prog_2_method_8_code 77 = .ok (.lload_n 1, 1) := by decide +kernel
theorem d_Fo_plus_78 : decode prog_2_method_8_code 78 = .ok (.lload_n 3, 1) := by decide +kernel
theorem d_Fo_plus_79 : decode prog_2_method_8_code 79 = .ok (.invokevirtual 68, 3) := by decide +kernel
theorem d_Fo_plus_82 : decode prog_2_method_8_code 82 = .ok (.goto 9, 3) := by decide +kernel
theorem d_Fo_plus_85 : decode prog_2_method_8_code 85 = .ok (.aload_n 0, 1) := by decide +kernel
theorem d_Fo_plus_86 : decode prog_2_method_8_code 86 = .ok (.lload_n 3, 1) := by decide +kernel
theorem d_Fo_plus_87 : decode prog_2_method_8_code 87 = .ok (.lload_n 1, 1) := by decide +kernel
theorem d_Fo_plus_88 : decode prog_2_method_8_code 88 = .ok (.invokevirtual 68, 3) := by decide +kernel
theorem d_Fo_plus_91 : decode prog_2_method_8_code 91 = .ok (.lreturn, 1) := by decide +kernel
set_option maxHeartbeats 1200000 in
set_option maxRecDepth 100000 in
theorem c_Fo_plus (l : Launch) (ad : Nat → Nat) (i : Nat) (a : Int64) (b : Int64) (h_i : i < 2) : Met l y_Fo_plus w_Fo_plus ({ frames := 4, cells := 0, slots := 0, locals := 102 } : Room) (va_Pc [.ref (ad i), .long a, .long b] (nb_K ad)) (vp_Sl (fun r => r = mf_Fo_plus i a b)) 0 0 (fun _ => False) := by
  refine Met.ofW (cc := prog_2_method_8_code) (maxL := 5) (ret := some .long) (by decide) rfl ?_
  intro p e s m args below meth c s₁ B hml hv
  obtain ⟨rfl, hC⟩ := hv
  have hx := B.exec
  have hb := B.bytes
  have hr := B.returns
  have hts := atoms_spec (ws := w_Fo_plus) B.pre
  have hown : s.vm.findClass "NumberBench$Form" = some m.cls := findClass_of_methodNamed B.named
  have hlocks := B.notSynchronized
  have hC : nb_C ad (fun _ => False) s s.heap := hC
  have hS : va_S (fun _ => False) s.heap s.heap [] := va_S.rf
  have hl := lv_entry ([.ref (ad i), .long a, .long b]) (n := 5) (Nat.le_of_ble_eq_true rfl)
  rw [lg_entry_eq]
  generalize (lg_sl ([.ref (ad i), .long a, .long b]) ++ List.replicate (5 - (lg_sl ([.ref (ad i), .long a, .long b])).length) Slot.unset).toArray = ls at hl ⊢
  have hl : lv_has ls 5 [(0, .ref (ad i)), (1, .long a), (3, .long b)] := hl
  refine lv_aload_n hx hb d_Fo_plus_0 rfl (lv_at hl 0 rfl) ?_
  refine lv_lload_n hx hb d_Fo_plus_1 rfl (lv_at hl 1 rfl) ?_
  refine nb_callVi (As := [.long a]) (rest := []) hx hb hml hown hts (c_Fo_isNoNumber l ad i a h_i) nb_t34 nb_t35 nb_t36 h_i nb_t4 nb_t37 hd_Fo_isNoNumber rfl ⟨Nat.le_of_ble_eq_true rfl, Nat.le_of_ble_eq_true rfl⟩ ⟨rfl, rfl⟩ hC hS hl.1 rfl (Nat.le_of_ble_eq_true rfl) ⟨Nat.le_of_ble_eq_true rfl, Nat.le_of_ble_eq_true rfl⟩ d_Fo_plus_2 ?_
  refine lv_if_ne (tgt := 16) hx hb d_Fo_plus_5 (by decide) (fun h1 => ?_) (fun h1 => ?_)
  · refine lv_aload_n hx hb d_Fo_plus_16 rfl (lv_at hl 0 rfl) ?_
    refine vk_getf (v := .long (fo_nan i)) hx hb (nb_f_nan hC h_i) hS hown (hts _ (nb_c nb_t428)) (fun _ h => h) d_Fo_plus_17 ?_
    exact W.lret hx hb hr (fun t ht hW => ⟨_, rfl, (by rw [mf_Fo_plus, if_neg h1]), ht⟩) t_nil d_Fo_plus_20
  · refine lv_aload_n hx hb d_Fo_plus_8 rfl (lv_at hl 0 rfl) ?_
    refine lv_lload_n hx hb d_Fo_plus_9 rfl (lv_at hl 2 rfl) ?_
    refine nb_callVi (As := [.long b]) (rest := []) hx hb hml hown hts (c_Fo_isNoNumber l ad i b h_i) nb_t34 nb_t35 nb_t36 h_i nb_t4 nb_t37 hd_Fo_isNoNumber rfl ⟨Nat.le_of_ble_eq_true rfl, Nat.le_of_ble_eq_true rfl⟩ ⟨rfl, rfl⟩ hC hS hl.1 rfl (Nat.le_of_ble_eq_true rfl) ⟨Nat.le_of_ble_eq_true rfl, Nat.le_of_ble_eq_true rfl⟩ d_Fo_plus_10 ?_
    refine lv_if_eq (tgt := 21) hx hb d_Fo_plus_13 (by decide) (fun h2 => ?_) (fun h2 => ?_)
    · refine lv_aload_n hx hb d_Fo_plus_21 rfl (lv_at hl 0 rfl) ?_
      refine lv_lload_n hx hb d_Fo_plus_22 rfl (lv_at hl 1 rfl) ?_
      refine nb_callVi (As := [.long a]) (rest := []) hx hb hml hown hts (c_Fo_isInfinite l ad i a h_i) nb_t57 nb_t59 nb_s1 h_i nb_t4 nb_t60 hd_Fo_isInfinite rfl ⟨Nat.le_of_ble_eq_true rfl, Nat.le_of_ble_eq_true rfl⟩ ⟨rfl, rfl⟩ hC hS hl.1 rfl (Nat.le_of_ble_eq_true rfl) ⟨Nat.le_of_ble_eq_true rfl, Nat.le_of_ble_eq_true rfl⟩ d_Fo_plus_23 ?_
      refine lv_if_eq (tgt := 52) hx hb d_Fo_plus_26 (by decide) (fun h3 => ?_) (fun h3 => ?_)
      · refine lv_aload_n hx hb d_Fo_plus_52 rfl (lv_at hl 0 rfl) ?_
        refine lv_lload_n hx hb d_Fo_plus_53 rfl (lv_at hl 2 rfl) ?_
        refine nb_callVi (As := [.long b]) (rest := []) hx hb hml hown hts (c_Fo_isInfinite l ad i b h_i) nb_t57 nb_t59 nb_s1 h_i nb_t4 nb_t60 hd_Fo_isInfinite rfl ⟨Nat.le_of_ble_eq_true rfl, Nat.le_of_ble_eq_true rfl⟩ ⟨rfl, rfl⟩ hC hS hl.1 rfl (Nat.le_of_ble_eq_true rfl) ⟨Nat.le_of_ble_eq_true rfl, Nat.le_of_ble_eq_true rfl⟩ d_Fo_plus_54 ?_
        refine lv_if_eq (tgt := 62) hx hb d_Fo_plus_57 (by decide) (fun h4 => ?_) (fun h4 => ?_)
        · refine lv_aload_n hx hb d_Fo_plus_62 rfl (lv_at hl 0 rfl) ?_
          refine lv_lload_n hx hb d_Fo_plus_63 rfl (lv_at hl 1 rfl) ?_
          refine nb_callVl (As := [.long a]) (rest := []) hx hb hml hown hts (c_Fo_magnitude l ad i a h_i) nb_t38 nb_t40 nb_s0 h_i nb_t4 nb_t42 hd_Fo_magnitude rfl ⟨Nat.le_of_ble_eq_true rfl, Nat.le_of_ble_eq_true rfl⟩ ⟨rfl, rfl⟩ hC hS hl.1 rfl (Nat.le_of_ble_eq_true rfl) ⟨Nat.le_of_ble_eq_true rfl, Nat.le_of_ble_eq_true rfl⟩ d_Fo_plus_64 ?_
          refine lv_aload_n hx hb d_Fo_plus_67 rfl (lv_at hl 0 rfl) ?_
          refine lv_lload_n hx hb d_Fo_plus_68 rfl (lv_at hl 2 rfl) ?_
          refine nb_callVl (As := [.long b]) (rest := [.long (mf_Fo_magnitude i a)]) hx hb hml hown hts (c_Fo_magnitude l ad i b h_i) nb_t38 nb_t40 nb_s0 h_i nb_t4 nb_t42 hd_Fo_magnitude rfl ⟨Nat.le_of_ble_eq_true rfl, Nat.le_of_ble_eq_true rfl⟩ ⟨rfl, rfl⟩ hC hS hl.1 rfl (Nat.le_of_ble_eq_true rfl) ⟨Nat.le_of_ble_eq_true rfl, Nat.le_of_ble_eq_true rfl⟩ d_Fo_plus_69 ?_
          refine nb_lc_lt (tgt := 85) hx hb d_Fo_plus_72 d_Fo_plus_73 (by decide) (fun h5 => ?_) (fun h5 => ?_)
          · refine lv_aload_n hx hb d_Fo_plus_85 rfl (lv_at hl 0 rfl) ?_
            refine lv_lload_n hx hb d_Fo_plus_86 rfl (lv_at hl 2 rfl) ?_
            refine lv_lload_n hx hb d_Fo_plus_87 rfl (lv_at hl 1 rfl) ?_
            refine nb_callVl (As := [.long b, .long a]) (rest := []) hx hb hml hown hts (c_Fo_finiteSum l ad i b a h_i) nb_t61 nb_t63 nb_s2 h_i nb_t4 nb_t64 hd_Fo_finiteSum rfl ⟨Nat.le_of_ble_eq_true rfl, Nat.le_of_ble_eq_true rfl⟩ ⟨rfl, rfl⟩ hC hS hl.1 rfl (Nat.le_of_ble_eq_true rfl) ⟨Nat.le_of_ble_eq_true rfl, Nat.le_of_ble_eq_true rfl⟩ d_Fo_plus_88 ?_
            exact W.lret hx hb hr (fun t ht hW => ⟨_, rfl, (by rw [mf_Fo_plus, if_pos h1, if_pos h2, if_pos h3, if_pos h4, if_pos h5]), ht⟩) t_nil d_Fo_plus_91
          · refine lv_aload_n hx hb d_Fo_plus_76 rfl (lv_at hl 0 rfl) ?_
            refine lv_lload_n hx hb d_Fo_plus_77 rfl (lv_at hl 1 rfl) ?_
            refine lv_lload_n hx hb d_Fo_plus_78 rfl (lv_at hl 2 rfl) ?_
            refine nb_callVl (As := [.long a, .long b]) (rest := []) hx hb hml hown hts (c_Fo_finiteSum l ad i a b h_i) nb_t61 nb_t63 nb_s2 h_i nb_t4 nb_t64 hd_Fo_finiteSum rfl ⟨Nat.le_of_ble_eq_true rfl, Nat.le_of_ble_eq_true rfl⟩ ⟨rfl, rfl⟩ hC hS hl.1 rfl (Nat.le_of_ble_eq_true rfl) ⟨Nat.le_of_ble_eq_true rfl, Nat.le_of_ble_eq_true rfl⟩ d_Fo_plus_79 ?_
            refine lv_goto (tgt := 91) hx hb d_Fo_plus_82 (by decide) ?_
            exact W.lret hx hb hr (fun t ht hW => ⟨_, rfl, (by rw [mf_Fo_plus, if_pos h1, if_pos h2, if_pos h3, if_pos h4, if_neg h5]), ht⟩) t_nil d_Fo_plus_91
        · refine lv_lload_n hx hb d_Fo_plus_60 rfl (lv_at hl 2 rfl) ?_
          exact W.lret hx hb hr (fun t ht hW => ⟨_, rfl, (by rw [mf_Fo_plus, if_pos h1, if_pos h2, if_pos h3, if_neg h4]), ht⟩) t_nil d_Fo_plus_61
      · refine lv_aload_n hx hb d_Fo_plus_29 rfl (lv_at hl 0 rfl) ?_
        refine lv_lload_n hx hb d_Fo_plus_30 rfl (lv_at hl 2 rfl) ?_
        refine nb_callVi (As := [.long b]) (rest := []) hx hb hml hown hts (c_Fo_isInfinite l ad i b h_i) nb_t57 nb_t59 nb_s1 h_i nb_t4 nb_t60 hd_Fo_isInfinite rfl ⟨Nat.le_of_ble_eq_true rfl, Nat.le_of_ble_eq_true rfl⟩ ⟨rfl, rfl⟩ hC hS hl.1 rfl (Nat.le_of_ble_eq_true rfl) ⟨Nat.le_of_ble_eq_true rfl, Nat.le_of_ble_eq_true rfl⟩ d_Fo_plus_31 ?_
        refine lv_if_eq (tgt := 50) hx hb d_Fo_plus_34 (by decide) (fun h6 => ?_) (fun h6 => ?_)
        · refine lv_lload_n hx hb d_Fo_plus_50 rfl (lv_at hl 1 rfl) ?_
          exact W.lret hx hb hr (fun t ht hW => ⟨_, rfl, (by rw [mf_Fo_plus, if_pos h1, if_pos h2, if_neg h3, if_pos h6]), ht⟩) t_nil d_Fo_plus_51
        · refine lv_lload_n hx hb d_Fo_plus_37 rfl (lv_at hl 1 rfl) ?_
          refine lv_lload_n hx hb d_Fo_plus_38 rfl (lv_at hl 2 rfl) ?_
          refine nb_lc_eq (tgt := 50) hx hb d_Fo_plus_39 d_Fo_plus_40 (by decide) (fun h7 => ?_) (fun h7 => ?_)
          · refine lv_lload_n hx hb d_Fo_plus_50 rfl (lv_at hl 1 rfl) ?_
            exact W.lret hx hb hr (fun t ht hW => ⟨_, rfl, (by rw [mf_Fo_plus, if_pos h1, if_pos h2, if_neg h3, if_neg h6, if_pos h7]), ht⟩) t_nil d_Fo_plus_51
          · refine lv_aload_n hx hb d_Fo_plus_43 rfl (lv_at hl 0 rfl) ?_
            refine vk_getf (v := .long (fo_nan i)) hx hb (nb_f_nan hC h_i) hS hown (hts _ (nb_c nb_t428)) (fun _ h => h) d_Fo_plus_44 ?_
            refine lv_goto (tgt := 51) hx hb d_Fo_plus_47 (by decide) ?_
            exact W.lret hx hb hr (fun t ht hW => ⟨_, rfl, (by rw [mf_Fo_plus, if_pos h1, if_pos h2, if_neg h3, if_neg h6, if_neg h7]), ht⟩) t_nil d_Fo_plus_51
    · refine lv_aload_n hx hb d_Fo_plus_16 rfl (lv_at hl 0 rfl) ?_
      refine vk_getf (v := .long (fo_nan i)) hx hb (nb_f_nan hC h_i) hS hown (hts _ (nb_c nb_t428)) (fun _ h => h) d_Fo_plus_17 ?_
      exact W.lret hx hb hr (fun t ht hW => ⟨_, rfl, (by rw [mf_Fo_plus, if_pos h1, if_neg h2]), ht⟩) t_nil d_Fo_plus_20
def y_Fo_minus : MethodName := ⟨"NumberBench$Form", "minus", "(JJ)J"⟩
abbrev w_Fo_minus : List Cond := Cond.code y_Fo_minus prog_2_method_9_code 5 (Option.some FieldType.long) :: nb_tb
theorem hd_Fo_minus : y_Fo_minus.cls ≠ "java/lang/invoke/MethodHandle" ∧ y_Fo_minus.cls ≠ "java/lang/invoke/VarHandle" ∧ (parseMethodDescriptor y_Fo_minus.desc).map (fun d => d.parameters.length) = some 2 := by decide +kernel
theorem d_Fo_minus_0 : decode prog_2_method_9_code 0 = .ok (.aload_n 0, 1) := by decide +kernel
theorem d_Fo_minus_1 : decode prog_2_method_9_code 1 = .ok (.lload_n 1, 1) := by decide +kernel
theorem d_Fo_minus_2 : decode prog_2_method_9_code 2 = .ok (.aload_n 0, 1) := by decide +kernel
theorem d_Fo_minus_3 : decode prog_2_method_9_code 3 = .ok (.lload_n 3, 1) := by decide +kernel
theorem d_Fo_minus_4 : decode prog_2_method_9_code 4 = .ok (.invokevirtual 72, 3) := by decide +kernel
theorem d_Fo_minus_7 : decode prog_2_method_9_code 7 = .ok (.invokevirtual 75, 3) := by decide +kernel
theorem d_Fo_minus_10 : decode prog_2_method_9_code 10 = .ok (.lreturn, 1) := by decide +kernel
set_option maxHeartbeats 1200000 in
set_option maxRecDepth 100000 in
theorem c_Fo_minus (l : Launch) (ad : Nat → Nat) (i : Nat) (a : Int64) (b : Int64) (h_i : i < 2) : Met l y_Fo_minus w_Fo_minus ({ frames := 5, cells := 0, slots := 0, locals := 126 } : Room) (va_Pc [.ref (ad i), .long a, .long b] (nb_K ad)) (vp_Sl (fun r => r = mf_Fo_minus i a b)) 0 0 (fun _ => False) := by
  refine Met.ofW (cc := prog_2_method_9_code) (maxL := 5) (ret := some .long) (by decide) rfl ?_
  intro p e s m args below meth c s₁ B hml hv
  obtain ⟨rfl, hC⟩ := hv
  have hx := B.exec
  have hb := B.bytes
  have hr := B.returns
  have hts := atoms_spec (ws := w_Fo_minus) B.pre
  have hown : s.vm.findClass "NumberBench$Form" = some m.cls := findClass_of_methodNamed B.named
  have hlocks := B.notSynchronized
  have hC : nb_C ad (fun _ => False) s s.heap := hC
  have hS : va_S (fun _ => False) s.heap s.heap [] := va_S.rf
  have hl := lv_entry ([.ref (ad i), .long a, .long b]) (n := 5) (Nat.le_of_ble_eq_true rfl)
  rw [lg_entry_eq]
  generalize (lg_sl ([.ref (ad i), .long a, .long b]) ++ List.replicate (5 - (lg_sl ([.ref (ad i), .long a, .long b])).length) Slot.unset).toArray = ls at hl ⊢
  have hl : lv_has ls 5 [(0, .ref (ad i)), (1, .long a), (3, .long b)] := hl
  refine lv_aload_n hx hb d_Fo_minus_0 rfl (lv_at hl 0 rfl) ?_
  refine lv_lload_n hx hb d_Fo_minus_1 rfl (lv_at hl 1 rfl) ?_
  refine lv_aload_n hx hb d_Fo_minus_2 rfl (lv_at hl 0 rfl) ?_
  refine lv_lload_n hx hb d_Fo_minus_3 rfl (lv_at hl 2 rfl) ?_
  refine nb_callVl (As := [.long b]) (rest := [.long a, .ref (ad i)]) hx hb hml hown hts (c_Fo_negated l ad i b h_i) nb_t105 nb_t106 nb_t107 h_i nb_t4 nb_t108 hd_Fo_negated rfl ⟨Nat.le_of_ble_eq_true rfl, Nat.le_of_ble_eq_true rfl⟩ ⟨rfl, rfl⟩ hC hS hl.1 rfl (Nat.le_of_ble_eq_true rfl) ⟨Nat.le_of_ble_eq_true rfl, Nat.le_of_ble_eq_true rfl⟩ d_Fo_minus_4 ?_
  refine nb_callVl (As := [.long a, .long (mf_Fo_negated i b)]) (rest := []) hx hb hml hown hts (c_Fo_plus l ad i a (mf_Fo_negated i b) h_i) nb_t110 nb_t54 nb_t55 h_i nb_t4 nb_t56 hd_Fo_plus rfl ⟨Nat.le_of_ble_eq_true rfl, Nat.le_of_ble_eq_true rfl⟩ ⟨rfl, rfl⟩ hC hS hl.1 rfl (Nat.le_of_ble_eq_true rfl) ⟨Nat.le_of_ble_eq_true rfl, Nat.le_of_ble_eq_true rfl⟩ d_Fo_minus_7 ?_
  exact W.lret hx hb hr (fun t ht hW => ⟨_, rfl, (by rw [mf_Fo_minus]), ht⟩) t_nil d_Fo_minus_10
def y_Fo_times : MethodName := ⟨"NumberBench$Form", "times", "(JJ)J"⟩
abbrev w_Fo_times : List Cond := Cond.code y_Fo_times prog_2_method_10_code 6 (Option.some FieldType.long) :: nb_tb
theorem hd_Fo_times : y_Fo_times.cls ≠ "java/lang/invoke/MethodHandle" ∧ y_Fo_times.cls ≠ "java/lang/invoke/VarHandle" ∧ (parseMethodDescriptor y_Fo_times.desc).map (fun d => d.parameters.length) = some 2 := by decide +kernel
theorem d_Fo_times_0 : decode prog_2_method_10_code 0 = .ok (.aload_n 0, 1) := by decide +kernel
theorem d_Fo_times_1 : decode prog_2_method_10_code 1 = .ok (.lload_n 1, 1) := by decide +kernel
theorem d_Fo_times_2 : decode prog_2_method_10_code 2 = .ok (.invokevirtual 54, 3) := by decide +kernel
theorem d_Fo_times_5 : decode prog_2_method_10_code 5 = .ok (.ifCond .ne 11, 3) := by decide +kernel
theorem d_Fo_times_8 : decode prog_2_method_10_code 8 = .ok (.aload_n 0, 1) := by decide +kernel
theorem d_Fo_times_9 : decode prog_2_method_10_code 9 = .ok (.lload_n 3, 1) := by decide +kernel
theorem d_Fo_times_10 : decode prog_2_method_10_code 10 = .ok (.invokevirtual 54, 3) := by decide +kernel
theorem d_Fo_times_13 : decode prog_2_method_10_code 13 = .ok (.ifCond .eq 8, 3) := by decide +kernel
theorem d_Fo_times_16 : decode prog_2_method_10_code 16 = .ok (.aload_n 0, 1) := by decide +kernel
theorem d_Fo_times_17 : decode prog_2_method_10_code 17 = .ok (.getfield 51, 3) := by decide +kernel
theorem d_Fo_times_20 : decode prog_2_method_10_code 20 = .ok (.lreturn, 1) := by decide +kernel
theorem d_Fo_times_21 : decode prog_2_method_10_code 21 = .ok (.aload_n 0, 1) := by decide +kernel
theorem d_Fo_times_22 : decode prog_2_method_10_code 22 = .ok (.lload_n 1, 1) := by decide +kernel
theorem d_Fo_times_23 : decode prog_2_method_10_code 23 = .ok (.invokevirtual 78, 3) := by decide +kernel
theorem d_Fo_times_26 : decode prog_2_method_10_code 26 = .ok (.aload_n 0, 1) := by decide +kernel
theorem d_Fo_times_27 : decode prog_2_method_10_code 27 = .ok (.lload_n 3, 1) := by decide +kernel
theorem d_Fo_times_28 : decode prog_2_method_10_code 28 = .ok (.invokevirtual 78, 3) := by decide +kernel
theorem d_Fo_times_31 : decode prog_2_method_10_code 31 = .ok (.if_icmp .eq 7, 3) := by decide +kernel
theorem d_Fo_times_34 : decode prog_2_method_10_code 34 = .ok (.iconst 1, 1) := by decide +kernel
theorem d_Fo_times_35 : decode prog_2_method_10_code 35 = .ok (.goto 4, 3) := by decide +kernel
theorem d_Fo_times_38 : decode prog_2_method_10_code 38 = .ok (.iconst 0, 1) := by decide +kernel
theorem d_Fo_times_39 : decode prog_2_method_10_code 39 = .ok (.istore 5, 2) := by decide +kernel
theorem d_Fo_times_41 : decode prog_2_method_10_code 41 = .ok (.aload_n 0, 1) := by decide +kernel
theorem d_Fo_times_42 : decode prog_2_method_10_code 42 = .ok (.lload_n 1, 1) := by decide +kernel
theorem d_Fo_times_43 : decode prog_2_method_10_code 43 = .ok (.invokevirtual 65, 3) := by decide +kernel
theorem d_Fo_times_46 : decode prog_2_method_10_code 46 = .ok (.ifCond .ne 11, 3) := by decide +kernel
theorem d_Fo_times_49 : decode prog_2_method_10_code 49 = .ok (.aload_n 0, 1) := by decide +kernel
theorem d_Fo_times_50 : decode prog_2_method_10_code 50 = .ok (.lload_n 3, 1) := by decide +kernel
theorem d_Fo_times_51 : decode prog_2_method_10_code 51 = .ok (.invokevirtual 65, 3) := by decide +kernel
theorem d_Fo_times_54 : decode prog_2_method_10_code 54 = .ok (.ifCond .eq 37, 3) := by decide +kernel
theorem d_Fo_times_57 : decode prog_2_method_10_code 57 = .ok (.aload_n 0, 1) := by decide +kernel
theorem d_Fo_times_58 : decode prog_2_method_10_code 58 = .ok (.lload_n 1, 1) := by decide +kernel
theorem d_Fo_times_59 : decode prog_2_method_10_code 59 = .ok (.invokevirtual 81, 3) := by decide +kernel
theorem d_Fo_times_62 : decode prog_2_method_10_code 62 = .ok (.ifCond .ne 11, 3) := by decide +kernel
theorem d_Fo_times_65 : decode prog_2_method_10_code 65 = .ok (.aload_n 0, 1) := by decide +kernel
theorem d_Fo_times_66 : decode prog_2_method_10_code 66 = .ok (.lload_n 3, 1) := by decide +kernel
theorem d_Fo_times_67 : decode prog_2_method_10_code 67 = .ok (.invokevirtual 81, 3) := by decide +kernel
theorem d_Fo_times_70 : decode prog_2_method_10_code 70 = .ok (.ifCond .eq 10, 3) := by decide +kernel
theorem d_Fo_times_73 : decode prog_2_method_10_code 73 = .ok (.aload_n 0, 1) := by decide +kernel
theorem d_Fo_times_74 : decode prog_2_method_10_code 74 = .ok (.getfield 51, 3) := by decide +kernel
theorem d_Fo_times_77 : decode prog_2_method_10_code 77 = .ok (.goto 13, 3) := by decide +kernel
theorem d_Fo_times_80 : decode prog_2_method_10_code 80 = .ok (.aload_n 0, 1) := by decide +kernel
theorem d_Fo_times_81 : decode prog_2_method_10_code 81 = .ok (.iload 5, 2) := by decide +kernel
theorem d_Fo_times_83 : decode prog_2_method_10_code 83 = .ok (.aload_n 0, 1) := by decide +kernel
theorem d_Fo_times_84 : decode prog_2_method_10_code 84 = .ok (.getfield 48, 3) := by decide +kernel
theorem d_Fo_times_87 : decode prog_2_method_10_code 87 = .ok (.invokevirtual 84, 3) := by decide +kernel
theorem d_Fo_times_90 : decode prog_2_method_10_code 90 = .ok (.lreturn, 1) := by decide +kernel
theorem d_Fo_times_91 : decode prog_2_method_10_code 91 = .ok (.aload_n 0, 1) := by decide +kernel
theorem d_Fo_times_92 : decode prog_2_method_10_code 92 = .ok (.lload_n 1, 1) := by decide +kernel
theorem d_Fo_times_93 : decode prog_2_method_10_code 93 = .ok (.invokevirtual 81, 3) := by decide +kernel
theorem d_Fo_times_96 : decode prog_2_method_10_code 96 = .ok (.ifCond .ne 11, 3) := by decide +kernel
theorem d_Fo_times_99 : decode prog_2_method_10_code 99 = .ok (.aload_n 0, 1) := by decide +kernel
theorem d_Fo_times_100 : decode prog_2_method_10_code 100 = .ok (.lload_n 3, 1) := by decide +kernel
theorem d_Fo_times_101 : decode prog_2_method_10_code 101 = .ok (.invokevirtual 81, 3) := by decide +kernel
theorem d_Fo_times_104 : decode prog_2_method_10_code 104 = .ok (.ifCond .eq 11, 3) := by decide +kernel
theorem d_Fo_times_107 : decode prog_2_method_10_code 107 = .ok (.aload_n 0, 1) := by decide +kernel
theorem d_Fo_times_108 : decode prog_2_method_10_code 108 = .ok (.iload 5, 2) := by decide +kernel
theorem d_Fo_times_110 : decode prog_2_method_10_code 110 = .ok (.lconst 0, 1) := by decide +kernel
theorem d_Fo_times_111 : decode prog_2_method_10_code 111 = .ok (.invokevirtual 84, 3) := by decide +kernel
theorem d_Fo_times_114 : decode prog_2_method_10_code 114 = .ok (.lreturn, 1) := by decide +kernel
theorem d_Fo_times_115 : decode prog_2_method_10_code 115 = .ok (.aload_n 0, 1) := by decide +kernel
theorem d_Fo_times_116 : decode prog_2_method_10_code 116 = .ok (.iload 5, 2) := by decide +kernel
theorem d_Fo_times_118 : decode prog_2_method_10_code 118 = .ok (.lload_n 1, 1) := by decide +kernel
theorem d_Fo_times_119 : decode prog_2_method_10_code 119 = .ok (.lload_n 3, 1) := by decide +kernel
theorem d_Fo_times_120 : decode prog_2_method_10_code 120 = .ok (.invokevirtual 88, 3) := by decide +kernel
theorem d_Fo_times_123 : decode prog_2_method_10_code 123 = .ok (.lreturn, 1) := by decide +kernel
set_option maxHeartbeats 1200000 in
set_option maxRecDepth 100000 in
theorem c_Fo_times (l : Launch) (ad : Nat → Nat) (i : Nat) (a : Int64) (b : Int64) (h_i : i < 2) : Met l y_Fo_times w_Fo_times ({ frames := 4, cells := 0, slots := 0, locals := 106 } : Room) (va_Pc [.ref (ad i), .long a, .long b] (nb_K ad)) (vp_Sl (fun r => r = mf_Fo_times i a b)) 0 0 (fun _ => False) := by
  refine Met.ofW (cc := prog_2_method_10_code) (maxL := 6) (ret := some .long) (by decide) rfl ?_
  intro p e s m args below meth c s₁ B hml hv
  obtain ⟨rfl, hC⟩ := hv
  have hx := B.exec
  have hb := B.bytes
  have hr := B.returns
  have hts := atoms_spec (ws := w_Fo_times) B.pre
  have hown : s.vm.findClass "NumberBench$Form" = some m.cls := findClass_of_methodNamed B.named
  have hlocks := B.notSynchronized
  have hC : nb_C ad (fun _ => False) s s.heap := hC
  have hS : va_S (fun _ => False) s.heap s.heap [] := va_S.rf
  have hl := lv_entry ([.ref (ad i), .long a, .long b]) (n := 6) (Nat.le_of_ble_eq_true rfl)
  rw [lg_entry_eq]
  generalize (lg_sl ([.ref (ad i), .long a, .long b]) ++ List.replicate (6 - (lg_sl ([.ref (ad i), .long a, .long b])).length) Slot.unset).toArray = ls at hl ⊢
  have hl : lv_has ls 6 [(0, .ref (ad i)), (1, .long a), (3, .long b)] := hl
  have b57 : ∀ (x5 : Int32) (ls : Array Slot), lv_has ls 6 [(0, .ref (ad i)), (1, .long a), (3, .long b), (5, .int x5)] → mf_Fo_times i a b = mf_Fo_times_b57 i a b x5 → W p l e (headSpec w_Fo_times ({ frames := 4, cells := 0, slots := 0, locals := 106 } : Room)).room s m ([.ref (ad i), .long a, .long b] : List Value).toArray below meth c s.heap [] 0 0 (MQ below (vp_Sl (fun r => r = mf_Fo_times i a b)) ([.ref (ad i), .long a, .long b] : List Value).toArray s 0 0 (fun _ => False)) (F0 m 57 ls []) := by
    intro x5 ls hl  hE
    refine lv_aload_n hx hb d_Fo_times_57 rfl (lv_at hl 0 rfl) ?_
    refine lv_lload_n hx hb d_Fo_times_58 rfl (lv_at hl 1 rfl) ?_
    refine nb_callVi (As := [.long a]) (rest := []) hx hb hml hown hts (c_Fo_isZero l ad i a h_i) nb_t115 nb_t116 nb_t117 h_i nb_t4 nb_t118 hd_Fo_isZero rfl ⟨Nat.le_of_ble_eq_true rfl, Nat.le_of_ble_eq_true rfl⟩ ⟨rfl, rfl⟩ hC hS hl.1 rfl (Nat.le_of_ble_eq_true rfl) ⟨Nat.le_of_ble_eq_true rfl, Nat.le_of_ble_eq_true rfl⟩ d_Fo_times_59 ?_
    refine lv_if_ne (tgt := 73) hx hb d_Fo_times_62 (by decide) (fun h8 => ?_) (fun h8 => ?_)
    · refine lv_aload_n hx hb d_Fo_times_73 rfl (lv_at hl 0 rfl) ?_
      refine vk_getf (v := .long (fo_nan i)) hx hb (nb_f_nan hC h_i) hS hown (hts _ (nb_c nb_t428)) (fun _ h => h) d_Fo_times_74 ?_
      refine lv_goto (tgt := 90) hx hb d_Fo_times_77 (by decide) ?_
      exact W.lret hx hb hr (fun t ht hW => ⟨_, rfl, (by rw [hE, mf_Fo_times_b57, if_neg h8]), ht⟩) t_nil d_Fo_times_90
    · refine lv_aload_n hx hb d_Fo_times_65 rfl (lv_at hl 0 rfl) ?_
      refine lv_lload_n hx hb d_Fo_times_66 rfl (lv_at hl 2 rfl) ?_
      refine nb_callVi (As := [.long b]) (rest := []) hx hb hml hown hts (c_Fo_isZero l ad i b h_i) nb_t115 nb_t116 nb_t117 h_i nb_t4 nb_t118 hd_Fo_isZero rfl ⟨Nat.le_of_ble_eq_true rfl, Nat.le_of_ble_eq_true rfl⟩ ⟨rfl, rfl⟩ hC hS hl.1 rfl (Nat.le_of_ble_eq_true rfl) ⟨Nat.le_of_ble_eq_true rfl, Nat.le_of_ble_eq_true rfl⟩ d_Fo_times_67 ?_
      refine lv_if_eq (tgt := 80) hx hb d_Fo_times_70 (by decide) (fun h9 => ?_) (fun h9 => ?_)
      · refine lv_aload_n hx hb d_Fo_times_80 rfl (lv_at hl 0 rfl) ?_
        refine lv_iload hx hb d_Fo_times_81 (lv_at hl 3 rfl) ?_
        refine lv_aload_n hx hb d_Fo_times_83 rfl (lv_at hl 0 rfl) ?_
        refine vk_getf (v := .long (fo_inf i)) hx hb (nb_f_inf hC h_i) hS hown (hts _ (nb_c nb_t427)) (fun _ h => h) d_Fo_times_84 ?_
        refine nb_callVl (As := [.int x5, .long (fo_inf i)]) (rest := []) hx hb hml hown hts (c_Fo_signed l ad i x5 (fo_inf i) h_i) nb_t87 nb_t89 nb_s7 h_i nb_t4 nb_t90 hd_Fo_signed rfl ⟨Nat.le_of_ble_eq_true rfl, Nat.le_of_ble_eq_true rfl⟩ ⟨rfl, rfl⟩ hC hS hl.1 rfl (Nat.le_of_ble_eq_true rfl) ⟨Nat.le_of_ble_eq_true rfl, Nat.le_of_ble_eq_true rfl⟩ d_Fo_times_87 ?_
        exact W.lret hx hb hr (fun t ht hW => ⟨_, rfl, (by rw [hE, mf_Fo_times_b57, if_pos h8, if_pos h9]), ht⟩) t_nil d_Fo_times_90
      · refine lv_aload_n hx hb d_Fo_times_73 rfl (lv_at hl 0 rfl) ?_
        refine vk_getf (v := .long (fo_nan i)) hx hb (nb_f_nan hC h_i) hS hown (hts _ (nb_c nb_t428)) (fun _ h => h) d_Fo_times_74 ?_
        refine lv_goto (tgt := 90) hx hb d_Fo_times_77 (by decide) ?_
        exact W.lret hx hb hr (fun t ht hW => ⟨_, rfl, (by rw [hE, mf_Fo_times_b57, if_pos h8, if_neg h9]), ht⟩) t_nil d_Fo_times_90
  have b39 : ∀ (k0 : Int32) (ls : Array Slot), lv_has ls 6 [(0, .ref (ad i)), (1, .long a), (3, .long b)] → mf_Fo_times i a b = mf_Fo_times_b39 i a b k0 → W p l e (headSpec w_Fo_times ({ frames := 4, cells := 0, slots := 0, locals := 106 } : Room)).room s m ([.ref (ad i), .long a, .long b] : List Value).toArray below meth c s.heap [] 0 0 (MQ below (vp_Sl (fun r => r = mf_Fo_times i a b)) ([.ref (ad i), .long a, .long b] : List Value).toArray s 0 0 (fun _ => False)) (F0 m 39 ls [.int k0]) := by
    intro k0 ls hl  hE
    refine lv_istore hx hb d_Fo_times_39 hl (by decide) rfl (fun ls hl => ?_)
    have hl : lv_has ls 6 [(5, .int k0), (0, .ref (ad i)), (1, .long a), (3, .long b)] := hl
    refine lv_aload_n hx hb d_Fo_times_41 rfl (lv_at hl 1 rfl) ?_
    refine lv_lload_n hx hb d_Fo_times_42 rfl (lv_at hl 2 rfl) ?_
    refine nb_callVi (As := [.long a]) (rest := []) hx hb hml hown hts (c_Fo_isInfinite l ad i a h_i) nb_t57 nb_t59 nb_s1 h_i nb_t4 nb_t60 hd_Fo_isInfinite rfl ⟨Nat.le_of_ble_eq_true rfl, Nat.le_of_ble_eq_true rfl⟩ ⟨rfl, rfl⟩ hC hS hl.1 rfl (Nat.le_of_ble_eq_true rfl) ⟨Nat.le_of_ble_eq_true rfl, Nat.le_of_ble_eq_true rfl⟩ d_Fo_times_43 ?_
    refine lv_if_ne (tgt := 57) hx hb d_Fo_times_46 (by decide) (fun h4 => ?_) (fun h4 => ?_)
    · exact b57 k0 ls (lv_sub hl [1, 2, 3, 0] rfl)  (by rw [hE, mf_Fo_times_b39, if_neg h4])
    · refine lv_aload_n hx hb d_Fo_times_49 rfl (lv_at hl 1 rfl) ?_
      refine lv_lload_n hx hb d_Fo_times_50 rfl (lv_at hl 3 rfl) ?_
      refine nb_callVi (As := [.long b]) (rest := []) hx hb hml hown hts (c_Fo_isInfinite l ad i b h_i) nb_t57 nb_t59 nb_s1 h_i nb_t4 nb_t60 hd_Fo_isInfinite rfl ⟨Nat.le_of_ble_eq_true rfl, Nat.le_of_ble_eq_true rfl⟩ ⟨rfl, rfl⟩ hC hS hl.1 rfl (Nat.le_of_ble_eq_true rfl) ⟨Nat.le_of_ble_eq_true rfl, Nat.le_of_ble_eq_true rfl⟩ d_Fo_times_51 ?_
      refine lv_if_eq (tgt := 91) hx hb d_Fo_times_54 (by decide) (fun h5 => ?_) (fun h5 => ?_)
      · refine lv_aload_n hx hb d_Fo_times_91 rfl (lv_at hl 1 rfl) ?_
        refine lv_lload_n hx hb d_Fo_times_92 rfl (lv_at hl 2 rfl) ?_
        refine nb_callVi (As := [.long a]) (rest := []) hx hb hml hown hts (c_Fo_isZero l ad i a h_i) nb_t115 nb_t116 nb_t117 h_i nb_t4 nb_t118 hd_Fo_isZero rfl ⟨Nat.le_of_ble_eq_true rfl, Nat.le_of_ble_eq_true rfl⟩ ⟨rfl, rfl⟩ hC hS hl.1 rfl (Nat.le_of_ble_eq_true rfl) ⟨Nat.le_of_ble_eq_true rfl, Nat.le_of_ble_eq_true rfl⟩ d_Fo_times_93 ?_
        refine lv_if_ne (tgt := 107) hx hb d_Fo_times_96 (by decide) (fun h6 => ?_) (fun h6 => ?_)
        · refine lv_aload_n hx hb d_Fo_times_107 rfl (lv_at hl 1 rfl) ?_
          refine lv_iload hx hb d_Fo_times_108 (lv_at hl 0 rfl) ?_
          refine lv_lconst (v := 0) hx hb d_Fo_times_110 (by decide) ?_
          refine nb_callVl (As := [.int k0, .long (0 : Int64)]) (rest := []) hx hb hml hown hts (c_Fo_signed l ad i k0 (0 : Int64) h_i) nb_t87 nb_t89 nb_s7 h_i nb_t4 nb_t90 hd_Fo_signed rfl ⟨Nat.le_of_ble_eq_true rfl, Nat.le_of_ble_eq_true rfl⟩ ⟨rfl, rfl⟩ hC hS hl.1 rfl (Nat.le_of_ble_eq_true rfl) ⟨Nat.le_of_ble_eq_true rfl, Nat.le_of_ble_eq_true rfl⟩ d_Fo_times_111 ?_
          exact W.lret hx hb hr (fun t ht hW => ⟨_, rfl, (by rw [hE, mf_Fo_times_b39, if_pos h4, if_pos h5, if_neg h6]), ht⟩) t_nil d_Fo_times_114
        · refine lv_aload_n hx hb d_Fo_times_99 rfl (lv_at hl 1 rfl) ?_
          refine lv_lload_n hx hb d_Fo_times_100 rfl (lv_at hl 3 rfl) ?_
          refine nb_callVi (As := [.long b]) (rest := []) hx hb hml hown hts (c_Fo_isZero l ad i b h_i) nb_t115 nb_t116 nb_t117 h_i nb_t4 nb_t118 hd_Fo_isZero rfl ⟨Nat.le_of_ble_eq_true rfl, Nat.le_of_ble_eq_true rfl⟩ ⟨rfl, rfl⟩ hC hS hl.1 rfl (Nat.le_of_ble_eq_true rfl) ⟨Nat.le_of_ble_eq_true rfl, Nat.le_of_ble_eq_true rfl⟩ d_Fo_times_101 ?_
          refine lv_if_eq (tgt := 115) hx hb d_Fo_times_104 (by decide) (fun h7 => ?_) (fun h7 => ?_)
          · refine lv_aload_n hx hb d_Fo_times_115 rfl (lv_at hl 1 rfl) ?_
            refine lv_iload hx hb d_Fo_times_116 (lv_at hl 0 rfl) ?_
            refine lv_lload_n hx hb d_Fo_times_118 rfl (lv_at hl 2 rfl) ?_
            refine lv_lload_n hx hb d_Fo_times_119 rfl (lv_at hl 3 rfl) ?_
            refine nb_callVl (As := [.int k0, .long a, .long b]) (rest := []) hx hb hml hown hts (c_Fo_finiteProduct l ad i k0 a b h_i) nb_t119 nb_t121 nb_s8 h_i nb_t4 nb_t122 hd_Fo_finiteProduct rfl ⟨Nat.le_of_ble_eq_true rfl, Nat.le_of_ble_eq_true rfl⟩ ⟨rfl, rfl⟩ hC hS hl.1 rfl (Nat.le_of_ble_eq_true rfl) ⟨Nat.le_of_ble_eq_true rfl, Nat.le_of_ble_eq_true rfl⟩ d_Fo_times_120 ?_
            exact W.lret hx hb hr (fun t ht hW => ⟨_, rfl, (by rw [hE, mf_Fo_times_b39, if_pos h4, if_pos h5, if_pos h6, if_pos h7]), ht⟩) t_nil d_Fo_times_123
          · refine lv_aload_n hx hb d_Fo_times_107 rfl (lv_at hl 1 rfl) ?_
            refine lv_iload hx hb d_Fo_times_108 (lv_at hl 0 rfl) ?_
            refine lv_lconst (v := 0) hx hb d_Fo_times_110 (by decide) ?_
            refine nb_callVl (As := [.int k0, .long (0 : Int64)]) (rest := []) hx hb hml hown hts (c_Fo_signed l ad i k0 (0 : Int64) h_i) nb_t87 nb_t89 nb_s7 h_i nb_t4 nb_t90 hd_Fo_signed rfl ⟨Nat.le_of_ble_eq_true rfl, Nat.le_of_ble_eq_true rfl⟩ ⟨rfl, rfl⟩ hC hS hl.1 rfl (Nat.le_of_ble_eq_true rfl) ⟨Nat.le_of_ble_eq_true rfl, Nat.le_of_ble_eq_true rfl⟩ d_Fo_times_111 ?_
            exact W.lret hx hb hr (fun t ht hW => ⟨_, rfl, (by rw [hE, mf_Fo_times_b39, if_pos h4, if_pos h5, if_pos h6, if_neg h7]), ht⟩) t_nil d_Fo_times_114
      · exact b57 k0 ls (lv_sub hl [1, 2, 3, 0] rfl)  (by rw [hE, mf_Fo_times_b39, if_pos h4, if_neg h5])
  refine lv_aload_n hx hb d_Fo_times_0 rfl (lv_at hl 0 rfl) ?_
  refine lv_lload_n hx hb d_Fo_times_1 rfl (lv_at hl 1 rfl) ?_
  refine nb_callVi (As := [.long a]) (rest := []) hx hb hml hown hts (c_Fo_isNoNumber l ad i a h_i) nb_t34 nb_t35 nb_t36 h_i nb_t4 nb_t37 hd_Fo_isNoNumber rfl ⟨Nat.le_of_ble_eq_true rfl, Nat.le_of_ble_eq_true rfl⟩ ⟨rfl, rfl⟩ hC hS hl.1 rfl (Nat.le_of_ble_eq_true rfl) ⟨Nat.le_of_ble_eq_true rfl, Nat.le_of_ble_eq_true rfl⟩ d_Fo_times_2 ?_
  refine lv_if_ne (tgt := 16) hx hb d_Fo_times_5 (by decide) (fun h1 => ?_) (fun h1 => ?_)
  · refine lv_aload_n hx hb d_Fo_times_16 rfl (lv_at hl 0 rfl) ?_
    refine vk_getf (v := .long (fo_nan i)) hx hb (nb_f_nan hC h_i) hS hown (hts _ (nb_c nb_t428)) (fun _ h => h) d_Fo_times_17 ?_
    exact W.lret hx hb hr (fun t ht hW => ⟨_, rfl, (by rw [mf_Fo_times, if_neg h1]), ht⟩) t_nil d_Fo_times_20
  · refine lv_aload_n hx hb d_Fo_times_8 rfl (lv_at hl 0 rfl) ?_
    refine lv_lload_n hx hb d_Fo_times_9 rfl (lv_at hl 2 rfl) ?_
    refine nb_callVi (As := [.long b]) (rest := []) hx hb hml hown hts (c_Fo_isNoNumber l ad i b h_i) nb_t34 nb_t35 nb_t36 h_i nb_t4 nb_t37 hd_Fo_isNoNumber rfl ⟨Nat.le_of_ble_eq_true rfl, Nat.le_of_ble_eq_true rfl⟩ ⟨rfl, rfl⟩ hC hS hl.1 rfl (Nat.le_of_ble_eq_true rfl) ⟨Nat.le_of_ble_eq_true rfl, Nat.le_of_ble_eq_true rfl⟩ d_Fo_times_10 ?_
    refine lv_if_eq (tgt := 21) hx hb d_Fo_times_13 (by decide) (fun h2 => ?_) (fun h2 => ?_)
    · refine lv_aload_n hx hb d_Fo_times_21 rfl (lv_at hl 0 rfl) ?_
      refine lv_lload_n hx hb d_Fo_times_22 rfl (lv_at hl 1 rfl) ?_
      refine nb_callVi (As := [.long a]) (rest := []) hx hb hml hown hts (c_Fo_isNegative l ad i a h_i) nb_t79 nb_t81 nb_s5 h_i nb_t4 nb_t82 hd_Fo_isNegative rfl ⟨Nat.le_of_ble_eq_true rfl, Nat.le_of_ble_eq_true rfl⟩ ⟨rfl, rfl⟩ hC hS hl.1 rfl (Nat.le_of_ble_eq_true rfl) ⟨Nat.le_of_ble_eq_true rfl, Nat.le_of_ble_eq_true rfl⟩ d_Fo_times_23 ?_
      refine lv_aload_n hx hb d_Fo_times_26 rfl (lv_at hl 0 rfl) ?_
      refine lv_lload_n hx hb d_Fo_times_27 rfl (lv_at hl 2 rfl) ?_
      refine nb_callVi (As := [.long b]) (rest := [.int (mf_Fo_isNegative i a)]) hx hb hml hown hts (c_Fo_isNegative l ad i b h_i) nb_t79 nb_t81 nb_s5 h_i nb_t4 nb_t82 hd_Fo_isNegative rfl ⟨Nat.le_of_ble_eq_true rfl, Nat.le_of_ble_eq_true rfl⟩ ⟨rfl, rfl⟩ hC hS hl.1 rfl (Nat.le_of_ble_eq_true rfl) ⟨Nat.le_of_ble_eq_true rfl, Nat.le_of_ble_eq_true rfl⟩ d_Fo_times_28 ?_
      refine lv_icmp_eq (tgt := 38) hx hb d_Fo_times_31 (by decide) (fun h3 => ?_) (fun h3 => ?_)
      · refine lv_iconst (v := 0) hx hb d_Fo_times_38 (by decide) ?_
        exact b39 (0 : Int32) ls (lv_sub hl [0, 1, 2] rfl)  (by rw [mf_Fo_times, if_pos h1, if_pos h2, if_pos h3])
      · refine lv_iconst (v := 1) hx hb d_Fo_times_34 (by decide) ?_
        refine lv_goto (tgt := 39) hx hb d_Fo_times_35 (by decide) ?_
        exact b39 (1 : Int32) ls (lv_sub hl [0, 1, 2] rfl)  (by rw [mf_Fo_times, if_pos h1, if_pos h2, if_neg h3])
    · refine lv_aload_n hx hb d_Fo_times_16 rfl (lv_at hl 0 rfl) ?_
      refine vk_getf (v := .long (fo_nan i)) hx hb (nb_f_nan hC h_i) hS hown (hts _ (nb_c nb_t428)) (fun _ h => h) d_Fo_times_17 ?_
      exact W.lret hx hb hr (fun t ht hW => ⟨_, rfl, (by rw [mf_Fo_times, if_pos h1, if_neg h2]), ht⟩) t_nil d_Fo_times_20
def y_Fo_over : MethodName := ⟨"NumberBench$Form", "over", "(JJ)J"⟩
abbrev w_Fo_over : List Cond := Cond.code y_Fo_over prog_2_method_11_code 6 (Option.some FieldType.long) :: nb_tb
theorem hd_Fo_over : y_Fo_over.cls ≠ "java/lang/invoke/MethodHandle" ∧ y_Fo_over.cls ≠ "java/lang/invoke/VarHandle" ∧ (parseMethodDescriptor y_Fo_over.desc).map (fun d => d.parameters.length) = some 2 := by decide +kernel
theorem d_Fo_over_0 : decode prog_2_method_11_code 0 = .ok (.aload_n 0, 1) := by decide +kernel
theorem d_Fo_over_1 : decode prog_2_method_11_code 1 = .ok (.lload_n 1, 1) := by decide +kernel
theorem d_Fo_over_2 : decode prog_2_method_11_code 2 = .ok (.invokevirtual 54, 3) := by decide +kernel
theorem d_Fo_over_5 : decode prog_2_method_11_code 5 = .ok (.ifCond .ne 11, 3) := by decide +kernel
theorem d_Fo_over_8 : decode prog_2_method_11_code 8 = .ok (.aload_n 0, 1) := by decide +kernel
theorem d_Fo_over_9 : decode prog_2_method_11_code 9 = .ok (.lload_n 3, 1) := by decide +kernel
theorem d_Fo_over_10 : decode prog_2_method_11_code 10 = .ok (.invokevirtual 54, 3) := by decide +kernel
theorem d_Fo_over_13 : decode prog_2_method_11_code 13 = .ok (.ifCond .eq 8, 3) := by decide +kernel
theorem d_Fo_over_16 : decode prog_2_method_11_code 16 = .ok (.aload_n 0, 1) := by decide +kernel
theorem d_Fo_over_17 : decode prog_2_method_11_code 17 = .ok (.getfield 51, 3) := by decide +kernel
theorem d_Fo_over_20 : decode prog_2_method_11_code 20 = .ok (.lreturn, 1) := by decide +kernel
theorem d_Fo_over_21 : decode prog_2_method_11_code 21 = .ok (.aload_n 0, 1) := by decide +kernel
theorem d_Fo_over_22 : decode prog_2_method_11_code 22 = .ok (.lload_n 1, 1) := by decide +kernel
theorem d_Fo_over_23 : decode prog_2_method_11_code 23 = .ok (.invokevirtual 78, 3) := by decide +kernel
theorem d_Fo_over_26 : decode prog_2_method_11_code 26 = .ok (.aload_n 0, 1) := by decide +kernel
theorem d_Fo_over_27 : decode prog_2_method_11_code 27 = .ok (.lload_n 3, 1) := by decide +kernel
theorem d_Fo_over_28 : decode prog_2_method_11_code 28 = .ok (.invokevirtual 78, 3) := by decide +kernel
theorem d_Fo_over_31 : decode prog_2_method_11_code 31 = .ok (.if_icmp .eq 7, 3) := by decide +kernel
theorem d_Fo_over_34 : decode prog_2_method_11_code 34 = .ok (.iconst 1, 1) := by decide +kernel
theorem d_Fo_over_35 : decode prog_2_method_11_code 35 = .ok (.goto 4, 3) := by decide +kernel
theorem d_Fo_over_38 : decode prog_2_method_11_code 38 = .ok (.iconst 0, 1) := by decide +kernel
theorem d_Fo_over_39 : decode prog_2_method_11_code 39 = .ok (.istore 5, 2) := by decide +kernel
theorem d_Fo_over_41 : decode prog_2_method_11_code 41 = .ok (.aload_n 0, 1) := by decide +kernel
theorem d_Fo_over_42 : decode prog_2_method_11_code 42 = .ok (.lload_n 1, 1) := by decide +kernel
theorem d_Fo_over_43 : decode prog_2_method_11_code 43 = .ok (.invokevirtual 65, 3) := by decide +kernel
theorem d_Fo_over_46 : decode prog_2_method_11_code 46 = .ok (.ifCond .eq 29, 3) := by decide +kernel
theorem d_Fo_over_49 : decode prog_2_method_11_code 49 = .ok (.aload_n 0, 1) := by decide +kernel
theorem d_Fo_over_50 : decode prog_2_method_11_code 50 = .ok (.lload_n 3, 1) := by decide +kernel
theorem d_Fo_over_51 : decode prog_2_method_11_code 51 = .ok (.invokevirtual 65, 3) := by decide +kernel
theorem d_Fo_over_54 : decode prog_2_method_11_code 54 = .ok (.ifCond .eq 10, 3) := by decide +kernel
theorem d_Fo_over_57 : decode prog_2_method_11_code 57 = .ok (.aload_n 0, 1) := by decide +kernel
theorem d_Fo_over_58 : decode prog_2_method_11_code 58 = .ok (.getfield 51, 3) := by decide +kernel
theorem d_Fo_over_61 : decode prog_2_method_11_code 61 = .ok (.goto 13, 3) := by decide +kernel
theorem d_Fo_over_64 : decode prog_2_method_11_code 64 = .ok (.aload_n 0, 1) := by decide +kernel
theorem d_Fo_over_65 : decode prog_2_method_11_code 65 = .ok (.iload 5, 2) := by decide +kernel
theorem d_Fo_over_67 : decode prog_2_method_11_code 67 = .ok (.aload_n 0, 1) := by decide +kernel
theorem d_Fo_over_68 : decode prog_2_method_11_code 68 = .ok (.getfield 48, 3) := by decide +kernel
theorem d_Fo_over_71 : decode prog_2_method_11_code 71 = .ok (.invokevirtual 84, 3) := by decide +kernel
theorem d_Fo_over_74 : decode prog_2_method_11_code 74 = .ok (.lreturn, 1) := by decide +kernel
theorem d_Fo_over_75 : decode prog_2_method_11_code 75 = .ok (.aload_n 0, 1) := by decide +kernel
theorem d_Fo_over_76 : decode prog_2_method_11_code 76 = .ok (.lload_n 3, 1) := by decide +kernel
theorem d_Fo_over_77 : decode prog_2_method_11_code 77 = .ok (.invokevirtual 81, 3) := by decide +kernel
theorem d_Fo_over_80 : decode prog_2_method_11_code 80 = .ok (.ifCond .eq 29, 3) := by decide +kernel
theorem d_Fo_over_83 : decode prog_2_method_11_code 83 = .ok (.aload_n 0, 1) := by decide +kernel
theorem d_Fo_over_84 : decode prog_2_method_11_code 84 = .ok (.lload_n 1, 1) := by decide +kernel
theorem d_Fo_over_85 : decode prog_2_method_11_code 85 = .ok (.invokevirtual 81, 3) := by decide +kernel
theorem d_Fo_over_88 : decode prog_2_method_11_code 88 = .ok (.ifCond .eq 10, 3) := by decide +kernel
theorem d_Fo_over_91 : decode prog_2_method_11_code 91 = .ok (.aload_n 0, 1) := by decide +kernel
theorem d_Fo_over_92 : decode prog_2_method_11_code 92 = .ok (.getfield 51, 3) := by decide +kernel
theorem d_Fo_over_95 : decode prog_2_method_11_code 95 = .ok (.goto 13, 3) := by decide +kernel
theorem d_Fo_over_98 : decode prog_2_method_11_code 98 = .ok (.aload_n 0, 1) := by decide +kernel
theorem d_Fo_over_99 : decode prog_2_method_11_code 99 = .ok (.iload 5, 2) := by decide +kernel
theorem d_Fo_over_101 : decode prog_2_method_11_code 101 = .ok (.aload_n 0, 1) := by decide +kernel
theorem d_Fo_over_102 : decode prog_2_method_11_code 102 = .ok (.getfield 48, 3) := by decide +kernel
theorem d_Fo_over_105 : decode prog_2_method_11_code 105 = .ok (.invokevirtual 84, 3) := by decide +kernel
theorem d_Fo_over_108 : decode prog_2_method_11_code 108 = .ok (.lreturn, 1) := by decide +kernel
theorem d_Fo_over_109 : decode prog_2_method_11_code 109 = .ok (.aload_n 0, 1) := by decide +kernel
theorem d_Fo_over_110 : decode prog_2_method_11_code 110 = .ok (.lload_n 3, 1) := by decide +kernel
theorem d_Fo_over_111 : decode prog_2_method_11_code 111 = .ok (.invokevirtual 65, 3) := by decide +kernel
theorem d_Fo_over_114 : decode prog_2_method_11_code 114 = .ok (.ifCond .ne 11, 3) := by decide +kernel
theorem d_Fo_over_117 : decode prog_2_method_11_code 117 = .ok (.aload_n 0, 1) := by decide +kernel
theorem d_Fo_over_118 : decode prog_2_method_11_code 118 = .ok (.lload_n 1, 1) := by decide +kernel
theorem d_Fo_over_119 : decode prog_2_method_11_code 119 = .ok (.invokevirtual 81, 3) := by decide +kernel
theorem d_Fo_over_122 : decode prog_2_method_11_code 122 = .ok (.ifCond .eq 11, 3) := by decide +kernel
theorem d_Fo_over_125 : decode prog_2_method_11_code 125 = .ok (.aload_n 0, 1) := by decide +kernel
theorem d_Fo_over_126 : decode prog_2_method_11_code 126 = .ok (.iload 5, 2) := by decide +kernel
theorem d_Fo_over_128 : decode prog_2_method_11_code 128 = .ok (.lconst 0, 1) := by decide +kernel
theorem d_Fo_over_129 : decode prog_2_method_11_code 129 = .ok (.invokevirtual 84, 3) := by decide +kernel
theorem d_Fo_over_132 : decode prog_2_method_11_code 132 = .ok (.lreturn, 1) := by decide +kernel
theorem d_Fo_over_133 : decode prog_2_method_11_code 133 = .ok (.aload_n 0, 1) := by decide +kernel
theorem d_Fo_over_134 : decode prog_2_method_11_code 134 = .ok (.iload 5, 2) := by decide +kernel
theorem d_Fo_over_136 : decode prog_2_method_11_code 136 = .ok (.lload_n 1, 1) := by decide +kernel
theorem d_Fo_over_137 : decode prog_2_method_11_code 137 = .ok (.lload_n 3, 1) := by decide +kernel
theorem d_Fo_over_138 : decode prog_2_method_11_code 138 = .ok (.invokevirtual 92, 3) := by decide +kernel
theorem d_Fo_over_141 : decode prog_2_method_11_code 141 = .ok (.lreturn, 1) := by decide +kernel
set_option maxHeartbeats 1200000 in
set_option maxRecDepth 100000 in
theorem c_Fo_over (l : Launch) (ad : Nat → Nat) (i : Nat) (a : Int64) (b : Int64) (h_i : i < 2) : Met l y_Fo_over w_Fo_over ({ frames := 4, cells := 0, slots := 0, locals := 106 } : Room) (va_Pc [.ref (ad i), .long a, .long b] (nb_K ad)) (vp_Sl (fun r => r = mf_Fo_over i a b)) 0 0 (fun _ => False) := by
  refine Met.ofW (cc := prog_2_method_11_code) (maxL := 6) (ret := some .long) (by decide) rfl ?_
  intro p e s m args below meth c s₁ B hml hv
  obtain ⟨rfl, hC⟩ := hv
  have hx := B.exec
  have hb := B.bytes
  have hr := B.returns
  have hts := atoms_spec (ws := w_Fo_over) B.pre
  have hown : s.vm.findClass "NumberBench$Form" = some m.cls := findClass_of_methodNamed B.named
  have hlocks := B.notSynchronized
  have hC : nb_C ad (fun _ => False) s s.heap := hC
  have hS : va_S (fun _ => False) s.heap s.heap [] := va_S.rf
  have hl := lv_entry ([.ref (ad i), .long a, .long b]) (n := 6) (Nat.le_of_ble_eq_true rfl)
  rw [lg_entry_eq]
  generalize (lg_sl ([.ref (ad i), .long a, .long b]) ++ List.replicate (6 - (lg_sl ([.ref (ad i), .long a, .long b])).length) Slot.unset).toArray = ls at hl ⊢
  have hl : lv_has ls 6 [(0, .ref (ad i)), (1, .long a), (3, .long b)] := hl
  have b39 : ∀ (k0 : Int32) (ls : Array Slot), lv_has ls 6 [(0, .ref (ad i)), (1, .long a), (3, .long b)] → mf_Fo_over i a b = mf_Fo_over_b39 i a b k0 → W p l e (headSpec w_Fo_over ({ frames := 4, cells := 0, slots := 0, locals := 106 } : Room)).room s m ([.ref (ad i), .long a, .long b] : List Value).toArray below meth c s.heap [] 0 0 (MQ below (vp_Sl (fun r => r = mf_Fo_over i a b)) ([.ref (ad i), .long a, .long b] : List Value).toArray s 0 0 (fun _ => False)) (F0 m 39 ls [.int k0]) := by
    intro k0 ls hl  hE
    refine lv_istore hx hb d_Fo_over_39 hl (by decide) rfl (fun ls hl => ?_)
    have hl : lv_has ls 6 [(5, .int k0), (0, .ref (ad i)), (1, .long a), (3, .long b)] := hl
    refine lv_aload_n hx hb d_Fo_over_41 rfl (lv_at hl 1 rfl) ?_
    refine lv_lload_n hx hb d_Fo_over_42 rfl (lv_at hl 2 rfl) ?_
    refine nb_callVi (As := [.long a]) (rest := []) hx hb hml hown hts (c_Fo_isInfinite l ad i a h_i) nb_t57 nb_t59 nb_s1 h_i nb_t4 nb_t60 hd_Fo_isInfinite rfl ⟨Nat.le_of_ble_eq_true rfl, Nat.le_of_ble_eq_true rfl⟩ ⟨rfl, rfl⟩ hC hS hl.1 rfl (Nat.le_of_ble_eq_true rfl) ⟨Nat.le_of_ble_eq_true rfl, Nat.le_of_ble_eq_true rfl⟩ d_Fo_over_43 ?_
    refine lv_if_eq (tgt := 75) hx hb d_Fo_over_46 (by decide) (fun h4 => ?_) (fun h4 => ?_)
    · refine lv_aload_n hx hb d_Fo_over_75 rfl (lv_at hl 1 rfl) ?_
      refine lv_lload_n hx hb d_Fo_over_76 rfl (lv_at hl 3 rfl) ?_
      refine nb_callVi (As := [.long b]) (rest := []) hx hb hml hown hts (c_Fo_isZero l ad i b h_i) nb_t115 nb_t116 nb_t117 h_i nb_t4 nb_t118 hd_Fo_isZero rfl ⟨Nat.le_of_ble_eq_true rfl, Nat.le_of_ble_eq_true rfl⟩ ⟨rfl, rfl⟩ hC hS hl.1 rfl (Nat.le_of_ble_eq_true rfl) ⟨Nat.le_of_ble_eq_true rfl, Nat.le_of_ble_eq_true rfl⟩ d_Fo_over_77 ?_
      refine lv_if_eq (tgt := 109) hx hb d_Fo_over_80 (by decide) (fun h5 => ?_) (fun h5 => ?_)
      · refine lv_aload_n hx hb d_Fo_over_109 rfl (lv_at hl 1 rfl) ?_
        refine lv_lload_n hx hb d_Fo_over_110 rfl (lv_at hl 3 rfl) ?_
        refine nb_callVi (As := [.long b]) (rest := []) hx hb hml hown hts (c_Fo_isInfinite l ad i b h_i) nb_t57 nb_t59 nb_s1 h_i nb_t4 nb_t60 hd_Fo_isInfinite rfl ⟨Nat.le_of_ble_eq_true rfl, Nat.le_of_ble_eq_true rfl⟩ ⟨rfl, rfl⟩ hC hS hl.1 rfl (Nat.le_of_ble_eq_true rfl) ⟨Nat.le_of_ble_eq_true rfl, Nat.le_of_ble_eq_true rfl⟩ d_Fo_over_111 ?_
        refine lv_if_ne (tgt := 125) hx hb d_Fo_over_114 (by decide) (fun h6 => ?_) (fun h6 => ?_)
        · refine lv_aload_n hx hb d_Fo_over_125 rfl (lv_at hl 1 rfl) ?_
          refine lv_iload hx hb d_Fo_over_126 (lv_at hl 0 rfl) ?_
          refine lv_lconst (v := 0) hx hb d_Fo_over_128 (by decide) ?_
          refine nb_callVl (As := [.int k0, .long (0 : Int64)]) (rest := []) hx hb hml hown hts (c_Fo_signed l ad i k0 (0 : Int64) h_i) nb_t87 nb_t89 nb_s7 h_i nb_t4 nb_t90 hd_Fo_signed rfl ⟨Nat.le_of_ble_eq_true rfl, Nat.le_of_ble_eq_true rfl⟩ ⟨rfl, rfl⟩ hC hS hl.1 rfl (Nat.le_of_ble_eq_true rfl) ⟨Nat.le_of_ble_eq_true rfl, Nat.le_of_ble_eq_true rfl⟩ d_Fo_over_129 ?_
          exact W.lret hx hb hr (fun t ht hW => ⟨_, rfl, (by rw [hE, mf_Fo_over_b39, if_pos h4, if_pos h5, if_neg h6]), ht⟩) t_nil d_Fo_over_132
        · refine lv_aload_n hx hb d_Fo_over_117 rfl (lv_at hl 1 rfl) ?_
          refine lv_lload_n hx hb d_Fo_over_118 rfl (lv_at hl 2 rfl) ?_
          refine nb_callVi (As := [.long a]) (rest := []) hx hb hml hown hts (c_Fo_isZero l ad i a h_i) nb_t115 nb_t116 nb_t117 h_i nb_t4 nb_t118 hd_Fo_isZero rfl ⟨Nat.le_of_ble_eq_true rfl, Nat.le_of_ble_eq_true rfl⟩ ⟨rfl, rfl⟩ hC hS hl.1 rfl (Nat.le_of_ble_eq_true rfl) ⟨Nat.le_of_ble_eq_true rfl, Nat.le_of_ble_eq_true rfl⟩ d_Fo_over_119 ?_
          refine lv_if_eq (tgt := 133) hx hb d_Fo_over_122 (by decide) (fun h7 => ?_) (fun h7 => ?_)
          · refine lv_aload_n hx hb d_Fo_over_133 rfl (lv_at hl 1 rfl) ?_
            refine lv_iload hx hb d_Fo_over_134 (lv_at hl 0 rfl) ?_
            refine lv_lload_n hx hb d_Fo_over_136 rfl (lv_at hl 2 rfl) ?_
            refine lv_lload_n hx hb d_Fo_over_137 rfl (lv_at hl 3 rfl) ?_
            refine nb_callVl (As := [.int k0, .long a, .long b]) (rest := []) hx hb hml hown hts (c_Fo_finiteQuotient l ad i k0 a b h_i) nb_t134 nb_t136 nb_s9 h_i nb_t4 nb_t137 hd_Fo_finiteQuotient rfl ⟨Nat.le_of_ble_eq_true rfl, Nat.le_of_ble_eq_true rfl⟩ ⟨rfl, rfl⟩ hC hS hl.1 rfl (Nat.le_of_ble_eq_true rfl) ⟨Nat.le_of_ble_eq_true rfl, Nat.le_of_ble_eq_true rfl⟩ d_Fo_over_138 ?_
            exact W.lret hx hb hr (fun t ht hW => ⟨_, rfl, (by rw [hE, mf_Fo_over_b39, if_pos h4, if_pos h5, if_pos h6, if_pos h7]), ht⟩) t_nil d_Fo_over_141
          · refine lv_aload_n hx hb d_Fo_over_125 rfl (lv_at hl 1 rfl) ?_
            refine lv_iload hx hb d_Fo_over_126 (lv_at hl 0 rfl) ?_
            refine lv_lconst (v := 0) hx hb d_Fo_over_128 (by decide) ?_
            refine nb_callVl (As := [.int k0, .long (0 : Int64)]) (rest := []) hx hb hml hown hts (c_Fo_signed l ad i k0 (0 : Int64) h_i) nb_t87 nb_t89 nb_s7 h_i nb_t4 nb_t90 hd_Fo_signed rfl ⟨Nat.le_of_ble_eq_true rfl, Nat.le_of_ble_eq_true rfl⟩ ⟨rfl, rfl⟩ hC hS hl.1 rfl (Nat.le_of_ble_eq_true rfl) ⟨Nat.le_of_ble_eq_true rfl, Nat.le_of_ble_eq_true rfl⟩ d_Fo_over_129 ?_
            exact W.lret hx hb hr (fun t ht hW => ⟨_, rfl, (by rw [hE, mf_Fo_over_b39, if_pos h4, if_pos h5, if_pos h6, if_neg h7]), ht⟩) t_nil d_Fo_over_132
      · refine lv_aload_n hx hb d_Fo_over_83 rfl (lv_at hl 1 rfl) ?_
        refine lv_lload_n hx hb d_Fo_over_84 rfl (lv_at hl 2 rfl) ?_
        refine nb_callVi (As := [.long a]) (rest := []) hx hb hml hown hts (c_Fo_isZero l ad i a h_i) nb_t115 nb_t116 nb_t117 h_i nb_t4 nb_t118 hd_Fo_isZero rfl ⟨Nat.le_of_ble_eq_true rfl, Nat.le_of_ble_eq_true rfl⟩ ⟨rfl, rfl⟩ hC hS hl.1 rfl (Nat.le_of_ble_eq_true rfl) ⟨Nat.le_of_ble_eq_true rfl, Nat.le_of_ble_eq_true rfl⟩ d_Fo_over_85 ?_
        refine lv_if_eq (tgt := 98) hx hb d_Fo_over_88 (by decide) (fun h8 => ?_) (fun h8 => ?_)
        · refine lv_aload_n hx hb d_Fo_over_98 rfl (lv_at hl 1 rfl) ?_
          refine lv_iload hx hb d_Fo_over_99 (lv_at hl 0 rfl) ?_
          refine lv_aload_n hx hb d_Fo_over_101 rfl (lv_at hl 1 rfl) ?_
          refine vk_getf (v := .long (fo_inf i)) hx hb (nb_f_inf hC h_i) hS hown (hts _ (nb_c nb_t427)) (fun _ h => h) d_Fo_over_102 ?_
          refine nb_callVl (As := [.int k0, .long (fo_inf i)]) (rest := []) hx hb hml hown hts (c_Fo_signed l ad i k0 (fo_inf i) h_i) nb_t87 nb_t89 nb_s7 h_i nb_t4 nb_t90 hd_Fo_signed rfl ⟨Nat.le_of_ble_eq_true rfl, Nat.le_of_ble_eq_true rfl⟩ ⟨rfl, rfl⟩ hC hS hl.1 rfl (Nat.le_of_ble_eq_true rfl) ⟨Nat.le_of_ble_eq_true rfl, Nat.le_of_ble_eq_true rfl⟩ d_Fo_over_105 ?_
          exact W.lret hx hb hr (fun t ht hW => ⟨_, rfl, (by rw [hE, mf_Fo_over_b39, if_pos h4, if_neg h5, if_pos h8]), ht⟩) t_nil d_Fo_over_108
        · refine lv_aload_n hx hb d_Fo_over_91 rfl (lv_at hl 1 rfl) ?_
          refine vk_getf (v := .long (fo_nan i)) hx hb (nb_f_nan hC h_i) hS hown (hts _ (nb_c nb_t428)) (fun _ h => h) d_Fo_over_92 ?_
          refine lv_goto (tgt := 108) hx hb d_Fo_over_95 (by decide) ?_
          exact W.lret hx hb hr (fun t ht hW => ⟨_, rfl, (by rw [hE, mf_Fo_over_b39, if_pos h4, if_neg h5, if_neg h8]), ht⟩) t_nil d_Fo_over_108
    · refine lv_aload_n hx hb d_Fo_over_49 rfl (lv_at hl 1 rfl) ?_
      refine lv_lload_n hx hb d_Fo_over_50 rfl (lv_at hl 3 rfl) ?_
      refine nb_callVi (As := [.long b]) (rest := []) hx hb hml hown hts (c_Fo_isInfinite l ad i b h_i) nb_t57 nb_t59 nb_s1 h_i nb_t4 nb_t60 hd_Fo_isInfinite rfl ⟨Nat.le_of_ble_eq_true rfl, Nat.le_of_ble_eq_true rfl⟩ ⟨rfl, rfl⟩ hC hS hl.1 rfl (Nat.le_of_ble_eq_true rfl) ⟨Nat.le_of_ble_eq_true rfl, Nat.le_of_ble_eq_true rfl⟩ d_Fo_over_51 ?_
      refine lv_if_eq (tgt := 64) hx hb d_Fo_over_54 (by decide) (fun h9 => ?_) (fun h9 => ?_)
      · refine lv_aload_n hx hb d_Fo_over_64 rfl (lv_at hl 1 rfl) ?_
        refine lv_iload hx hb d_Fo_over_65 (lv_at hl 0 rfl) ?_
        refine lv_aload_n hx hb d_Fo_over_67 rfl (lv_at hl 1 rfl) ?_
        refine vk_getf (v := .long (fo_inf i)) hx hb (nb_f_inf hC h_i) hS hown (hts _ (nb_c nb_t427)) (fun _ h => h) d_Fo_over_68 ?_
        refine nb_callVl (As := [.int k0, .long (fo_inf i)]) (rest := []) hx hb hml hown hts (c_Fo_signed l ad i k0 (fo_inf i) h_i) nb_t87 nb_t89 nb_s7 h_i nb_t4 nb_t90 hd_Fo_signed rfl ⟨Nat.le_of_ble_eq_true rfl, Nat.le_of_ble_eq_true rfl⟩ ⟨rfl, rfl⟩ hC hS hl.1 rfl (Nat.le_of_ble_eq_true rfl) ⟨Nat.le_of_ble_eq_true rfl, Nat.le_of_ble_eq_true rfl⟩ d_Fo_over_71 ?_
        exact W.lret hx hb hr (fun t ht hW => ⟨_, rfl, (by rw [hE, mf_Fo_over_b39, if_neg h4, if_pos h9]), ht⟩) t_nil d_Fo_over_74
      · refine lv_aload_n hx hb d_Fo_over_57 rfl (lv_at hl 1 rfl) ?_
        refine vk_getf (v := .long (fo_nan i)) hx hb (nb_f_nan hC h_i) hS hown (hts _ (nb_c nb_t428)) (fun _ h => h) d_Fo_over_58 ?_
        refine lv_goto (tgt := 74) hx hb d_Fo_over_61 (by decide) ?_
        exact W.lret hx hb hr (fun t ht hW => ⟨_, rfl, (by rw [hE, mf_Fo_over_b39, if_neg h4, if_neg h9]), ht⟩) t_nil d_Fo_over_74
  refine lv_aload_n hx hb d_Fo_over_0 rfl (lv_at hl 0 rfl) ?_
  refine lv_lload_n hx hb d_Fo_over_1 rfl (lv_at hl 1 rfl) ?_
  refine nb_callVi (As := [.long a]) (rest := []) hx hb hml hown hts (c_Fo_isNoNumber l ad i a h_i) nb_t34 nb_t35 nb_t36 h_i nb_t4 nb_t37 hd_Fo_isNoNumber rfl ⟨Nat.le_of_ble_eq_true rfl, Nat.le_of_ble_eq_true rfl⟩ ⟨rfl, rfl⟩ hC hS hl.1 rfl (Nat.le_of_ble_eq_true rfl) ⟨Nat.le_of_ble_eq_true rfl, Nat.le_of_ble_eq_true rfl⟩ d_Fo_over_2 ?_
  refine lv_if_ne (tgt := 16) hx hb d_Fo_over_5 (by decide) (fun h1 => ?_) (fun h1 => ?_)
  · refine lv_aload_n hx hb d_Fo_over_16 rfl (lv_at hl 0 rfl) ?_
    refine vk_getf (v := .long (fo_nan i)) hx hb (nb_f_nan hC h_i) hS hown (hts _ (nb_c nb_t428)) (fun _ h => h) d_Fo_over_17 ?_
    exact W.lret hx hb hr (fun t ht hW => ⟨_, rfl, (by rw [mf_Fo_over, if_neg h1]), ht⟩) t_nil d_Fo_over_20
  · refine lv_aload_n hx hb d_Fo_over_8 rfl (lv_at hl 0 rfl) ?_
    refine lv_lload_n hx hb d_Fo_over_9 rfl (lv_at hl 2 rfl) ?_
    refine nb_callVi (As := [.long b]) (rest := []) hx hb hml hown hts (c_Fo_isNoNumber l ad i b h_i) nb_t34 nb_t35 nb_t36 h_i nb_t4 nb_t37 hd_Fo_isNoNumber rfl ⟨Nat.le_of_ble_eq_true rfl, Nat.le_of_ble_eq_true rfl⟩ ⟨rfl, rfl⟩ hC hS hl.1 rfl (Nat.le_of_ble_eq_true rfl) ⟨Nat.le_of_ble_eq_true rfl, Nat.le_of_ble_eq_true rfl⟩ d_Fo_over_10 ?_
    refine lv_if_eq (tgt := 21) hx hb d_Fo_over_13 (by decide) (fun h2 => ?_) (fun h2 => ?_)
    · refine lv_aload_n hx hb d_Fo_over_21 rfl (lv_at hl 0 rfl) ?_
      refine lv_lload_n hx hb d_Fo_over_22 rfl (lv_at hl 1 rfl) ?_
      refine nb_callVi (As := [.long a]) (rest := []) hx hb hml hown hts (c_Fo_isNegative l ad i a h_i) nb_t79 nb_t81 nb_s5 h_i nb_t4 nb_t82 hd_Fo_isNegative rfl ⟨Nat.le_of_ble_eq_true rfl, Nat.le_of_ble_eq_true rfl⟩ ⟨rfl, rfl⟩ hC hS hl.1 rfl (Nat.le_of_ble_eq_true rfl) ⟨Nat.le_of_ble_eq_true rfl, Nat.le_of_ble_eq_true rfl⟩ d_Fo_over_23 ?_
      refine lv_aload_n hx hb d_Fo_over_26 rfl (lv_at hl 0 rfl) ?_
      refine lv_lload_n hx hb d_Fo_over_27 rfl (lv_at hl 2 rfl) ?_
      refine nb_callVi (As := [.long b]) (rest := [.int (mf_Fo_isNegative i a)]) hx hb hml hown hts (c_Fo_isNegative l ad i b h_i) nb_t79 nb_t81 nb_s5 h_i nb_t4 nb_t82 hd_Fo_isNegative rfl ⟨Nat.le_of_ble_eq_true rfl, Nat.le_of_ble_eq_true rfl⟩ ⟨rfl, rfl⟩ hC hS hl.1 rfl (Nat.le_of_ble_eq_true rfl) ⟨Nat.le_of_ble_eq_true rfl, Nat.le_of_ble_eq_true rfl⟩ d_Fo_over_28 ?_
      refine lv_icmp_eq (tgt := 38) hx hb d_Fo_over_31 (by decide) (fun h3 => ?_) (fun h3 => ?_)
      · refine lv_iconst (v := 0) hx hb d_Fo_over_38 (by decide) ?_
        exact b39 (0 : Int32) ls (lv_sub hl [0, 1, 2] rfl)  (by rw [mf_Fo_over, if_pos h1, if_pos h2, if_pos h3])
      · refine lv_iconst (v := 1) hx hb d_Fo_over_34 (by decide) ?_
        refine lv_goto (tgt := 39) hx hb d_Fo_over_35 (by decide) ?_
        exact b39 (1 : Int32) ls (lv_sub hl [0, 1, 2] rfl)  (by rw [mf_Fo_over, if_pos h1, if_pos h2, if_neg h3])
    · refine lv_aload_n hx hb d_Fo_over_16 rfl (lv_at hl 0 rfl) ?_
      refine vk_getf (v := .long (fo_nan i)) hx hb (nb_f_nan hC h_i) hS hown (hts _ (nb_c nb_t428)) (fun _ h => h) d_Fo_over_17 ?_
      exact W.lret hx hb hr (fun t ht hW => ⟨_, rfl, (by rw [mf_Fo_over, if_pos h1, if_neg h2]), ht⟩) t_nil d_Fo_over_20
def y_Fo_remainder : MethodName := ⟨"NumberBench$Form", "remainder", "(JJ)J"⟩
abbrev w_Fo_remainder : List Cond := Cond.code y_Fo_remainder prog_2_method_12_code 5 (Option.some FieldType.long) :: nb_tb
theorem hd_Fo_remainder : y_Fo_remainder.cls ≠ "java/lang/invoke/MethodHandle" ∧ y_Fo_remainder.cls ≠ "java/lang/invoke/VarHandle" ∧ (parseMethodDescriptor y_Fo_remainder.desc).map (fun d => d.parameters.length) = some 2 := by decide +kernel
theorem d_Fo_remainder_0 : decode prog_2_method_12_code 0 = .ok (.aload_n 0, 1) := by decide +kernel
theorem d_Fo_remainder_1 : decode prog_2_method_12_code 1 = .ok (.lload_n 1, 1) := by decide +kernel
theorem d_Fo_remainder_2 : decode prog_2_method_12_code 2 = .ok (.invokevirtual 54, 3) := by decide +kernel
theorem d_Fo_remainder_5 : decode prog_2_method_12_code 5 = .ok (.ifCond .ne 27, 3) := by decide +kernel
theorem d_Fo_remainder_8 : decode prog_2_method_12_code 8 = .ok (.aload_n 0, 1) := by decide +kernel
theorem d_Fo_remainder_9 : decode prog_2_method_12_code 9 = .ok (.lload_n 3, 1) := by decide +kernel
theorem d_Fo_remainder_10 : decode prog_2_method_12_code 10 = .ok (.invokevirtual 54, 3) := by decide +kernel
theorem d_Fo_remainder_13 : decode prog_2_method_12_code 13 = .ok (.ifCond .ne 19, 3) := by decide +kernel
theorem d_Fo_remainder_16 : decode prog_2_method_12_code 16 = .ok (.aload_n 0, 1) := by decide +kernel
theorem d_Fo_remainder_17 : decode prog_2_method_12_code 17 = .ok (.lload_n 1, 1) := by decide +kernel
theorem d_Fo_remainder_18 : decode prog_2_method_12_code 18 = .ok (.invokevirtual 65, 3) := by decide +kernel
theorem d_Fo_remainder_21 : decode prog_2_method_12_code 21 = .ok (.ifCond .ne 11, 3) := by decide +kernel
theorem d_Fo_remainder_24 : decode prog_2_method_12_code 24 = .ok (.aload_n 0, 1) := by decide +kernel
theorem d_Fo_remainder_25 : decode prog_2_method_12_code 25 = .ok (.lload_n 3, 1) := by decide +kernel
theorem d_Fo_remainder_26 : decode prog_2_method_12_code 26 = .ok (.invokevirtual 81, 3) := by decide +kernel
theorem d_Fo_remainder_29 : decode prog_2_method_12_code 29 = .ok (.ifCond .eq 8, 3) := by decide +kernel
theorem d_Fo_remainder_32 : decode prog_2_method_12_code 32 = .ok (.aload_n 0, 1) := by decide +kernel
theorem d_Fo_remainder_33 : decode prog_2_method_12_code 33 = .ok (.getfield 51, 3) := by decide +kernel
theorem d_Fo_remainder_36 : decode prog_2_method_12_code 36 = .ok (.lreturn, 1) := by decide +kernel
theorem d_Fo_remainder_37 : decode prog_2_method_12_code 37 = .ok (.aload_n 0, 1) := by decide +kernel
theorem d_Fo_remainder_38 : decode prog_2_method_12_code 38 = .ok (.lload_n 1, 1) := by decide +kernel
theorem d_Fo_remainder_39 : decode prog_2_method_12_code 39 = .ok (.invokevirtual 58, 3) := by decide +kernel
theorem d_Fo_remainder_42 : decode prog_2_method_12_code 42 = .ok (.aload_n 0, 1) := by decide +kernel
theorem d_Fo_remainder_43 : decode prog_2_method_12_code 43 = .ok (.lload_n 3, 1) := by decide +kernel
theorem d_Fo_remainder_44 : decode prog_2_method_12_code 44 = .ok (.invokevirtual 58, 3) := by decide +kernel
theorem d_Fo_remainder_47 : decode prog_2_method_12_code 47 = .ok (.lcmp, 1) := by decide +kernel
theorem d_Fo_remainder_48 : decode prog_2_method_12_code 48 = .ok (.ifCond .ge 5, 3) := by decide +kernel
theorem d_Fo_remainder_51 : decode prog_2_method_12_code 51 = .ok (.lload_n 1, 1) := by decide +kernel
theorem d_Fo_remainder_52 : decode prog_2_method_12_code 52 = .ok (.lreturn, 1) := by decide +kernel
theorem d_Fo_remainder_53 : decode prog_2_method_12_code 53 = .ok (.aload_n 0, 1) := by decide +kernel
theorem d_Fo_remainder_54 : decode prog_2_method_12_code 54 = .ok (.lload_n 1, 1) := by decide +kernel
theorem d_Fo_remainder_55 : decode prog_2_method_12_code 55 = .ok (.lload_n 3, 1) := by decide +kernel
theorem d_Fo_remainder_56 : decode prog_2_method_12_code 56 = .ok (.invokevirtual 95, 3) := by decide +kernel
theorem d_Fo_remainder_59 : decode prog_2_method_12_code 59 = .ok (.lreturn, 1) := by decide +kernel
set_option maxHeartbeats 1200000 in
set_option maxRecDepth 100000 in
theorem c_Fo_remainder (l : Launch) (ad : Nat → Nat) (i : Nat) (a : Int64) (b : Int64) (h_i : i < 2) : Met l y_Fo_remainder w_Fo_remainder ({ frames := 4, cells := 0, slots := 0, locals := 101 } : Room) (va_Pc [.ref (ad i), .long a, .long b] (nb_K ad)) (vp_Sl (fun r => r = mf_Fo_remainder i a b)) 0 0 (fun _ => False) := by
  refine Met.ofW (cc := prog_2_method_12_code) (maxL := 5) (ret := some .long) (by decide) rfl ?_
  intro p e s m args below meth c s₁ B hml hv
  obtain ⟨rfl, hC⟩ := hv
  have hx := B.exec
  have hb := B.bytes
  have hr := B.returns
  have hts := atoms_spec (ws := w_Fo_remainder) B.pre
  have hown : s.vm.findClass "NumberBench$Form" = some m.cls := findClass_of_methodNamed B.named
  have hlocks := B.notSynchronized
  have hC : nb_C ad (fun _ => False) s s.heap := hC
  have hS : va_S (fun _ => False) s.heap s.heap [] := va_S.rf
  have hl := lv_entry ([.ref (ad i), .long a, .long b]) (n := 5) (Nat.le_of_ble_eq_true rfl)
  rw [lg_entry_eq]
  generalize (lg_sl ([.ref (ad i), .long a, .long b]) ++ List.replicate (5 - (lg_sl ([.ref (ad i), .long a, .long b])).length) Slot.unset).toArray = ls at hl ⊢
  have hl : lv_has ls 5 [(0, .ref (ad i)), (1, .long a), (3, .long b)] := hl
  refine lv_aload_n hx hb d_Fo_remainder_0 rfl (lv_at hl 0 rfl) ?_
  refine lv_lload_n hx hb d_Fo_remainder_1 rfl (lv_at hl 1 rfl) ?_
  refine nb_callVi (As := [.long a]) (rest := []) hx hb hml hown hts (c_Fo_isNoNumber l ad i a h_i) nb_t34 nb_t35 nb_t36 h_i nb_t4 nb_t37 hd_Fo_isNoNumber rfl ⟨Nat.le_of_ble_eq_true rfl, Nat.le_of_ble_eq_true rfl⟩ ⟨rfl, rfl⟩ hC hS hl.1 rfl (Nat.le_of_ble_eq_true rfl) ⟨Nat.le_of_ble_eq_true rfl, Nat.le_of_ble_eq_true rfl⟩ d_Fo_remainder_2 ?_
  refine lv_if_ne (tgt := 32) hx hb d_Fo_remainder_5 (by decide) (fun h1 => ?_) (fun h1 => ?_)
  · refine lv_aload_n hx hb d_Fo_remainder_32 rfl (lv_at hl 0 rfl) ?_
    refine vk_getf (v := .long (fo_nan i)) hx hb (nb_f_nan hC h_i) hS hown (hts _ (nb_c nb_t428)) (fun _ h => h) d_Fo_remainder_33 ?_
    exact W.lret hx hb hr (fun t ht hW => ⟨_, rfl, (by rw [mf_Fo_remainder, if_neg h1]), ht⟩) t_nil d_Fo_remainder_36
  · refine lv_aload_n hx hb d_Fo_remainder_8 rfl (lv_at hl 0 rfl) ?_
    refine lv_lload_n hx hb d_Fo_remainder_9 rfl (lv_at hl 2 rfl) ?_
    refine nb_callVi (As := [.long b]) (rest := []) hx hb hml hown hts (c_Fo_isNoNumber l ad i b h_i) nb_t34 nb_t35 nb_t36 h_i nb_t4 nb_t37 hd_Fo_isNoNumber rfl ⟨Nat.le_of_ble_eq_true rfl, Nat.le_of_ble_eq_true rfl⟩ ⟨rfl, rfl⟩ hC hS hl.1 rfl (Nat.le_of_ble_eq_true rfl) ⟨Nat.le_of_ble_eq_true rfl, Nat.le_of_ble_eq_true rfl⟩ d_Fo_remainder_10 ?_
    refine lv_if_ne (tgt := 32) hx hb d_Fo_remainder_13 (by decide) (fun h2 => ?_) (fun h2 => ?_)
    · refine lv_aload_n hx hb d_Fo_remainder_32 rfl (lv_at hl 0 rfl) ?_
      refine vk_getf (v := .long (fo_nan i)) hx hb (nb_f_nan hC h_i) hS hown (hts _ (nb_c nb_t428)) (fun _ h => h) d_Fo_remainder_33 ?_
      exact W.lret hx hb hr (fun t ht hW => ⟨_, rfl, (by rw [mf_Fo_remainder, if_pos h1, if_neg h2]), ht⟩) t_nil d_Fo_remainder_36
    · refine lv_aload_n hx hb d_Fo_remainder_16 rfl (lv_at hl 0 rfl) ?_
      refine lv_lload_n hx hb d_Fo_remainder_17 rfl (lv_at hl 1 rfl) ?_
      refine nb_callVi (As := [.long a]) (rest := []) hx hb hml hown hts (c_Fo_isInfinite l ad i a h_i) nb_t57 nb_t59 nb_s1 h_i nb_t4 nb_t60 hd_Fo_isInfinite rfl ⟨Nat.le_of_ble_eq_true rfl, Nat.le_of_ble_eq_true rfl⟩ ⟨rfl, rfl⟩ hC hS hl.1 rfl (Nat.le_of_ble_eq_true rfl) ⟨Nat.le_of_ble_eq_true rfl, Nat.le_of_ble_eq_true rfl⟩ d_Fo_remainder_18 ?_
      refine lv_if_ne (tgt := 32) hx hb d_Fo_remainder_21 (by decide) (fun h3 => ?_) (fun h3 => ?_)
      · refine lv_aload_n hx hb d_Fo_remainder_32 rfl (lv_at hl 0 rfl) ?_
        refine vk_getf (v := .long (fo_nan i)) hx hb (nb_f_nan hC h_i) hS hown (hts _ (nb_c nb_t428)) (fun _ h => h) d_Fo_remainder_33 ?_
        exact W.lret hx hb hr (fun t ht hW => ⟨_, rfl, (by rw [mf_Fo_remainder, if_pos h1, if_pos h2, if_neg h3]), ht⟩) t_nil d_Fo_remainder_36
      · refine lv_aload_n hx hb d_Fo_remainder_24 rfl (lv_at hl 0 rfl) ?_
        refine lv_lload_n hx hb d_Fo_remainder_25 rfl (lv_at hl 2 rfl) ?_
        refine nb_callVi (As := [.long b]) (rest := []) hx hb hml hown hts (c_Fo_isZero l ad i b h_i) nb_t115 nb_t116 nb_t117 h_i nb_t4 nb_t118 hd_Fo_isZero rfl ⟨Nat.le_of_ble_eq_true rfl, Nat.le_of_ble_eq_true rfl⟩ ⟨rfl, rfl⟩ hC hS hl.1 rfl (Nat.le_of_ble_eq_true rfl) ⟨Nat.le_of_ble_eq_true rfl, Nat.le_of_ble_eq_true rfl⟩ d_Fo_remainder_26 ?_
        refine lv_if_eq (tgt := 37) hx hb d_Fo_remainder_29 (by decide) (fun h4 => ?_) (fun h4 => ?_)
        · refine lv_aload_n hx hb d_Fo_remainder_37 rfl (lv_at hl 0 rfl) ?_
          refine lv_lload_n hx hb d_Fo_remainder_38 rfl (lv_at hl 1 rfl) ?_
          refine nb_callVl (As := [.long a]) (rest := []) hx hb hml hown hts (c_Fo_magnitude l ad i a h_i) nb_t38 nb_t40 nb_s0 h_i nb_t4 nb_t42 hd_Fo_magnitude rfl ⟨Nat.le_of_ble_eq_true rfl, Nat.le_of_ble_eq_true rfl⟩ ⟨rfl, rfl⟩ hC hS hl.1 rfl (Nat.le_of_ble_eq_true rfl) ⟨Nat.le_of_ble_eq_true rfl, Nat.le_of_ble_eq_true rfl⟩ d_Fo_remainder_39 ?_
          refine lv_aload_n hx hb d_Fo_remainder_42 rfl (lv_at hl 0 rfl) ?_
          refine lv_lload_n hx hb d_Fo_remainder_43 rfl (lv_at hl 2 rfl) ?_
          refine nb_callVl (As := [.long b]) (rest := [.long (mf_Fo_magnitude i a)]) hx hb hml hown hts (c_Fo_magnitude l ad i b h_i) nb_t38 nb_t40 nb_s0 h_i nb_t4 nb_t42 hd_Fo_magnitude rfl ⟨Nat.le_of_ble_eq_true rfl, Nat.le_of_ble_eq_true rfl⟩ ⟨rfl, rfl⟩ hC hS hl.1 rfl (Nat.le_of_ble_eq_true rfl) ⟨Nat.le_of_ble_eq_true rfl, Nat.le_of_ble_eq_true rfl⟩ d_Fo_remainder_44 ?_
          refine nb_lc_ge (tgt := 53) hx hb d_Fo_remainder_47 d_Fo_remainder_48 (by decide) (fun h5 => ?_) (fun h5 => ?_)
          · refine lv_aload_n hx hb d_Fo_remainder_53 rfl (lv_at hl 0 rfl) ?_
            refine lv_lload_n hx hb d_Fo_remainder_54 rfl (lv_at hl 1 rfl) ?_
            refine lv_lload_n hx hb d_Fo_remainder_55 rfl (lv_at hl 2 rfl) ?_
            refine nb_callVl (As := [.long a, .long b]) (rest := []) hx hb hml hown hts (c_Fo_finiteRemainder l ad i a b h_i) nb_t145 nb_t147 nb_s10 h_i nb_t4 nb_t148 hd_Fo_finiteRemainder rfl ⟨Nat.le_of_ble_eq_true rfl, Nat.le_of_ble_eq_true rfl⟩ ⟨rfl, rfl⟩ hC hS hl.1 rfl (Nat.le_of_ble_eq_true rfl) ⟨Nat.le_of_ble_eq_true rfl, Nat.le_of_ble_eq_true rfl⟩ d_Fo_remainder_56 ?_
            exact W.lret hx hb hr (fun t ht hW => ⟨_, rfl, (by rw [mf_Fo_remainder, if_pos h1, if_pos h2, if_pos h3, if_pos h4, if_pos h5]), ht⟩) t_nil d_Fo_remainder_59
          · refine lv_lload_n hx hb d_Fo_remainder_51 rfl (lv_at hl 1 rfl) ?_
            exact W.lret hx hb hr (fun t ht hW => ⟨_, rfl, (by rw [mf_Fo_remainder, if_pos h1, if_pos h2, if_pos h3, if_pos h4, if_neg h5]), ht⟩) t_nil d_Fo_remainder_52
        · refine lv_aload_n hx hb d_Fo_remainder_32 rfl (lv_at hl 0 rfl) ?_
          refine vk_getf (v := .long (fo_nan i)) hx hb (nb_f_nan hC h_i) hS hown (hts _ (nb_c nb_t428)) (fun _ h => h) d_Fo_remainder_33 ?_
          exact W.lret hx hb hr (fun t ht hW => ⟨_, rfl, (by rw [mf_Fo_remainder, if_pos h1, if_pos h2, if_pos h3, if_neg h4]), ht⟩) t_nil d_Fo_remainder_36
def y_Fo_nearestTo : MethodName := ⟨"NumberBench$Form", "nearestTo", "(LNumberBench$Form;J)J"⟩
abbrev w_Fo_nearestTo : List Cond := Cond.code y_Fo_nearestTo prog_2_method_13_code 5 (Option.some FieldType.long) :: nb_tb
theorem hd_Fo_nearestTo : y_Fo_nearestTo.cls ≠ "java/lang/invoke/MethodHandle" ∧ y_Fo_nearestTo.cls ≠ "java/lang/invoke/VarHandle" ∧ (parseMethodDescriptor y_Fo_nearestTo.desc).map (fun d => d.parameters.length) = some 2 := by decide +kernel
theorem d_Fo_nearestTo_0 : decode prog_2_method_13_code 0 = .ok (.aload_n 1, 1) := by decide +kernel
theorem d_Fo_nearestTo_1 : decode prog_2_method_13_code 1 = .ok (.lload_n 2, 1) := by decide +kernel
theorem d_Fo_nearestTo_2 : decode prog_2_method_13_code 2 = .ok (.invokevirtual 54, 3) := by decide +kernel
theorem d_Fo_nearestTo_5 : decode prog_2_method_13_code 5 = .ok (.ifCond .eq 8, 3) := by decide +kernel
theorem d_Fo_nearestTo_8 : decode prog_2_method_13_code 8 = .ok (.aload_n 0, 1) := by decide +kernel
theorem d_Fo_nearestTo_9 : decode prog_2_method_13_code 9 = .ok (.getfield 51, 3) := by decide +kernel
theorem d_Fo_nearestTo_12 : decode prog_2_method_13_code 12 = .ok (.lreturn, 1) := by decide +kernel
theorem d_Fo_nearestTo_13 : decode prog_2_method_13_code 13 = .ok (.aload_n 1, 1) := by decide +kernel
theorem d_Fo_nearestTo_14 : decode prog_2_method_13_code 14 = .ok (.lload_n 2, 1) := by decide +kernel
theorem d_Fo_nearestTo_15 : decode prog_2_method_13_code 15 = .ok (.invokevirtual 78, 3) := by decide +kernel
theorem d_Fo_nearestTo_18 : decode prog_2_method_13_code 18 = .ok (.istore 4, 2) := by decide +kernel
theorem d_Fo_nearestTo_20 : decode prog_2_method_13_code 20 = .ok (.aload_n 1, 1) := by decide +kernel
theorem d_Fo_nearestTo_21 : decode prog_2_method_13_code 21 = .ok (.lload_n 2, 1) := by decide +kernel
theorem d_Fo_nearestTo_22 : decode prog_2_method_13_code 22 = .ok (.invokevirtual 65, 3) := by decide +kernel
theorem d_Fo_nearestTo_25 : decode prog_2_method_13_code 25 = .ok (.ifCond .eq 14, 3) := by decide +kernel
theorem d_Fo_nearestTo_28 : decode prog_2_method_13_code 28 = .ok (.aload_n 0, 1) := by decide +kernel
theorem d_Fo_nearestTo_29 : decode prog_2_method_13_code 29 = .ok (.iload 4, 2) := by decide +kernel
theorem d_Fo_nearestTo_31 : decode prog_2_method_13_code 31 = .ok (.aload_n 0, 1) := by decide +kernel
theorem d_Fo_nearestTo_32 : decode prog_2_method_13_code 32 = .ok (.getfield 48, 3) := by decide +kernel
theorem d_Fo_nearestTo_35 : decode prog_2_method_13_code 35 = .ok (.invokevirtual 84, 3) := by decide +kernel
theorem d_Fo_nearestTo_38 : decode prog_2_method_13_code 38 = .ok (.lreturn, 1) := by decide +kernel
theorem d_Fo_nearestTo_39 : decode prog_2_method_13_code 39 = .ok (.aload_n 0, 1) := by decide +kernel
theorem d_Fo_nearestTo_40 : decode prog_2_method_13_code 40 = .ok (.iload 4, 2) := by decide +kernel
theorem d_Fo_nearestTo_42 : decode prog_2_method_13_code 42 = .ok (.aload_n 1, 1) := by decide +kernel
theorem d_Fo_nearestTo_43 : decode prog_2_method_13_code 43 = .ok (.lload_n 2, 1) := by decide +kernel
theorem d_Fo_nearestTo_44 : decode prog_2_method_13_code 44 = .ok (.invokevirtual 98, 3) := by decide +kernel
theorem d_Fo_nearestTo_47 : decode prog_2_method_13_code 47 = .ok (.aload_n 1, 1) := by decide +kernel
theorem d_Fo_nearestTo_48 : decode prog_2_method_13_code 48 = .ok (.lload_n 2, 1) := by decide +kernel
theorem d_Fo_nearestTo_49 : decode prog_2_method_13_code 49 = .ok (.invokevirtual 101, 3) := by decide +kernel
theorem d_Fo_nearestTo_52 : decode prog_2_method_13_code 52 = .ok (.invokevirtual 105, 3) := by decide +kernel
theorem d_Fo_nearestTo_55 : decode prog_2_method_13_code 55 = .ok (.lreturn, 1) := by decide +kernel
set_option maxHeartbeats 1200000 in
set_option maxRecDepth 100000 in
theorem c_Fo_nearestTo (l : Launch) (ad : Nat → Nat) (i : Nat) (j : Nat) (a : Int64) (h_i : i < 2) (h_j : j < 2) : Met l y_Fo_nearestTo w_Fo_nearestTo ({ frames := 3, cells := 0, slots := 0, locals := 72 } : Room) (va_Pc [.ref (ad i), .ref (ad j), .long a] (nb_K ad)) (vp_Sl (fun r => r = mf_Fo_nearestTo i j a)) 0 0 (fun _ => False) := by
  refine Met.ofW (cc := prog_2_method_13_code) (maxL := 5) (ret := some .long) (by decide) rfl ?_
  intro p e s m args below meth c s₁ B hml hv
  obtain ⟨rfl, hC⟩ := hv
  have hx := B.exec
  have hb := B.bytes
  have hr := B.returns
  have hts := atoms_spec (ws := w_Fo_nearestTo) B.pre
  have hown : s.vm.findClass "NumberBench$Form" = some m.cls := findClass_of_methodNamed B.named
  have hlocks := B.notSynchronized
  have hC : nb_C ad (fun _ => False) s s.heap := hC
  have hS : va_S (fun _ => False) s.heap s.heap [] := va_S.rf
  have hl := lv_entry ([.ref (ad i), .ref (ad j), .long a]) (n := 5) (Nat.le_of_ble_eq_true rfl)
  rw [lg_entry_eq]
  generalize (lg_sl ([.ref (ad i), .ref (ad j), .long a]) ++ List.replicate (5 - (lg_sl ([.ref (ad i), .ref (ad j), .long a])).length) Slot.unset).toArray = ls at hl ⊢
  have hl : lv_has ls 5 [(0, .ref (ad i)), (1, .ref (ad j)), (2, .long a)] := hl
  refine lv_aload_n hx hb d_Fo_nearestTo_0 rfl (lv_at hl 1 rfl) ?_
  refine lv_lload_n hx hb d_Fo_nearestTo_1 rfl (lv_at hl 2 rfl) ?_
  refine nb_callVi (As := [.long a]) (rest := []) hx hb hml hown hts (c_Fo_isNoNumber l ad j a h_j) nb_t34 nb_t35 nb_t36 h_j nb_t4 nb_t37 hd_Fo_isNoNumber rfl ⟨Nat.le_of_ble_eq_true rfl, Nat.le_of_ble_eq_true rfl⟩ ⟨rfl, rfl⟩ hC hS hl.1 rfl (Nat.le_of_ble_eq_true rfl) ⟨Nat.le_of_ble_eq_true rfl, Nat.le_of_ble_eq_true rfl⟩ d_Fo_nearestTo_2 ?_
  refine lv_if_eq (tgt := 13) hx hb d_Fo_nearestTo_5 (by decide) (fun h1 => ?_) (fun h1 => ?_)
  · refine lv_aload_n hx hb d_Fo_nearestTo_13 rfl (lv_at hl 1 rfl) ?_
    refine lv_lload_n hx hb d_Fo_nearestTo_14 rfl (lv_at hl 2 rfl) ?_
    refine nb_callVi (As := [.long a]) (rest := []) hx hb hml hown hts (c_Fo_isNegative l ad j a h_j) nb_t79 nb_t81 nb_s5 h_j nb_t4 nb_t82 hd_Fo_isNegative rfl ⟨Nat.le_of_ble_eq_true rfl, Nat.le_of_ble_eq_true rfl⟩ ⟨rfl, rfl⟩ hC hS hl.1 rfl (Nat.le_of_ble_eq_true rfl) ⟨Nat.le_of_ble_eq_true rfl, Nat.le_of_ble_eq_true rfl⟩ d_Fo_nearestTo_15 ?_
    refine lv_istore hx hb d_Fo_nearestTo_18 hl (by decide) rfl (fun ls hl => ?_)
    have hl : lv_has ls 5 [(4, .int (mf_Fo_isNegative j a)), (0, .ref (ad i)), (1, .ref (ad j)), (2, .long a)] := hl
    refine lv_aload_n hx hb d_Fo_nearestTo_20 rfl (lv_at hl 2 rfl) ?_
    refine lv_lload_n hx hb d_Fo_nearestTo_21 rfl (lv_at hl 3 rfl) ?_
    refine nb_callVi (As := [.long a]) (rest := []) hx hb hml hown hts (c_Fo_isInfinite l ad j a h_j) nb_t57 nb_t59 nb_s1 h_j nb_t4 nb_t60 hd_Fo_isInfinite rfl ⟨Nat.le_of_ble_eq_true rfl, Nat.le_of_ble_eq_true rfl⟩ ⟨rfl, rfl⟩ hC hS hl.1 rfl (Nat.le_of_ble_eq_true rfl) ⟨Nat.le_of_ble_eq_true rfl, Nat.le_of_ble_eq_true rfl⟩ d_Fo_nearestTo_22 ?_
    refine lv_if_eq (tgt := 39) hx hb d_Fo_nearestTo_25 (by decide) (fun h2 => ?_) (fun h2 => ?_)
    · refine lv_aload_n hx hb d_Fo_nearestTo_39 rfl (lv_at hl 1 rfl) ?_
      refine lv_iload hx hb d_Fo_nearestTo_40 (lv_at hl 0 rfl) ?_
      refine lv_aload_n hx hb d_Fo_nearestTo_42 rfl (lv_at hl 2 rfl) ?_
      refine lv_lload_n hx hb d_Fo_nearestTo_43 rfl (lv_at hl 3 rfl) ?_
      refine nb_callVl (As := [.long a]) (rest := [.int (mf_Fo_isNegative j a), .ref (ad i)]) hx hb hml hown hts (c_Fo_significand l ad j a h_j) nb_t72 nb_t74 nb_s4 h_j nb_t4 nb_t75 hd_Fo_significand rfl ⟨Nat.le_of_ble_eq_true rfl, Nat.le_of_ble_eq_true rfl⟩ ⟨rfl, rfl⟩ hC hS hl.1 rfl (Nat.le_of_ble_eq_true rfl) ⟨Nat.le_of_ble_eq_true rfl, Nat.le_of_ble_eq_true rfl⟩ d_Fo_nearestTo_44 ?_
      refine lv_aload_n hx hb d_Fo_nearestTo_47 rfl (lv_at hl 2 rfl) ?_
      refine lv_lload_n hx hb d_Fo_nearestTo_48 rfl (lv_at hl 3 rfl) ?_
      refine nb_callVi (As := [.long a]) (rest := [.long (mf_Fo_significand j a), .int (mf_Fo_isNegative j a), .ref (ad i)]) hx hb hml hown hts (c_Fo_scale l ad j a h_j) nb_t65 nb_t67 nb_s3 h_j nb_t4 nb_t68 hd_Fo_scale rfl ⟨Nat.le_of_ble_eq_true rfl, Nat.le_of_ble_eq_true rfl⟩ ⟨rfl, rfl⟩ hC hS hl.1 rfl (Nat.le_of_ble_eq_true rfl) ⟨Nat.le_of_ble_eq_true rfl, Nat.le_of_ble_eq_true rfl⟩ d_Fo_nearestTo_49 ?_
      refine nb_callVl (As := [.int (mf_Fo_isNegative j a), .long (mf_Fo_significand j a), .int (mf_Fo_scale j a)]) (rest := []) hx hb hml hown hts (c_Fo_rounded l ad i (mf_Fo_isNegative j a) (mf_Fo_significand j a) (mf_Fo_scale j a) h_i) nb_t83 nb_t85 nb_s6 h_i nb_t4 nb_t86 hd_Fo_rounded rfl ⟨Nat.le_of_ble_eq_true rfl, Nat.le_of_ble_eq_true rfl⟩ ⟨rfl, rfl⟩ hC hS hl.1 rfl (Nat.le_of_ble_eq_true rfl) ⟨Nat.le_of_ble_eq_true rfl, Nat.le_of_ble_eq_true rfl⟩ d_Fo_nearestTo_52 ?_
      exact W.lret hx hb hr (fun t ht hW => ⟨_, rfl, (by rw [mf_Fo_nearestTo, if_pos h1, if_pos h2]), ht⟩) t_nil d_Fo_nearestTo_55
    · refine lv_aload_n hx hb d_Fo_nearestTo_28 rfl (lv_at hl 1 rfl) ?_
      refine lv_iload hx hb d_Fo_nearestTo_29 (lv_at hl 0 rfl) ?_
      refine lv_aload_n hx hb d_Fo_nearestTo_31 rfl (lv_at hl 1 rfl) ?_
      refine vk_getf (v := .long (fo_inf i)) hx hb (nb_f_inf hC h_i) hS hown (hts _ (nb_c nb_t427)) (fun _ h => h) d_Fo_nearestTo_32 ?_
      refine nb_callVl (As := [.int (mf_Fo_isNegative j a), .long (fo_inf i)]) (rest := []) hx hb hml hown hts (c_Fo_signed l ad i (mf_Fo_isNegative j a) (fo_inf i) h_i) nb_t87 nb_t89 nb_s7 h_i nb_t4 nb_t90 hd_Fo_signed rfl ⟨Nat.le_of_ble_eq_true rfl, Nat.le_of_ble_eq_true rfl⟩ ⟨rfl, rfl⟩ hC hS hl.1 rfl (Nat.le_of_ble_eq_true rfl) ⟨Nat.le_of_ble_eq_true rfl, Nat.le_of_ble_eq_true rfl⟩ d_Fo_nearestTo_35 ?_
      exact W.lret hx hb hr (fun t ht hW => ⟨_, rfl, (by rw [mf_Fo_nearestTo, if_pos h1, if_neg h2]), ht⟩) t_nil d_Fo_nearestTo_38
  · refine lv_aload_n hx hb d_Fo_nearestTo_8 rfl (lv_at hl 0 rfl) ?_
    refine vk_getf (v := .long (fo_nan i)) hx hb (nb_f_nan hC h_i) hS hown (hts _ (nb_c nb_t428)) (fun _ h => h) d_Fo_nearestTo_9 ?_
    exact W.lret hx hb hr (fun t ht hW => ⟨_, rfl, (by rw [mf_Fo_nearestTo, if_neg h1]), ht⟩) t_nil d_Fo_nearestTo_12
def y_Fo_ofWhole : MethodName := ⟨"NumberBench$Form", "ofWhole", "(J)J"⟩
abbrev w_Fo_ofWhole : List Cond := Cond.code y_Fo_ofWhole prog_2_method_14_code 3 (Option.some FieldType.long) :: nb_tb
theorem hd_Fo_ofWhole : y_Fo_ofWhole.cls ≠ "java/lang/invoke/MethodHandle" ∧ y_Fo_ofWhole.cls ≠ "java/lang/invoke/VarHandle" ∧ (parseMethodDescriptor y_Fo_ofWhole.desc).map (fun d => d.parameters.length) = some 1 := by decide +kernel
theorem d_Fo_ofWhole_0 : decode prog_2_method_14_code 0 = .ok (.lload_n 1, 1) := by decide +kernel
theorem d_Fo_ofWhole_1 : decode prog_2_method_14_code 1 = .ok (.ldc2_w 109, 3) := by decide +kernel
theorem d_Fo_ofWhole_4 : decode prog_2_method_14_code 4 = .ok (.lcmp, 1) := by decide +kernel
theorem d_Fo_ofWhole_5 : decode prog_2_method_14_code 5 = .ok (.ifCond .ne 12, 3) := by decide +kernel
theorem d_Fo_ofWhole_8 : decode prog_2_method_14_code 8 = .ok (.aload_n 0, 1) := by decide +kernel
theorem d_Fo_ofWhole_9 : decode prog_2_method_14_code 9 = .ok (.iconst 1, 1) := by decide +kernel
theorem d_Fo_ofWhole_10 : decode prog_2_method_14_code 10 = .ok (.lconst 1, 1) := by decide +kernel
theorem d_Fo_ofWhole_11 : decode prog_2_method_14_code 11 = .ok (.bipush 63, 2) := by decide +kernel
theorem d_Fo_ofWhole_13 : decode prog_2_method_14_code 13 = .ok (.invokevirtual 105, 3) := by decide +kernel
theorem d_Fo_ofWhole_16 : decode prog_2_method_14_code 16 = .ok (.lreturn, 1) := by decide +kernel
theorem d_Fo_ofWhole_17 : decode prog_2_method_14_code 17 = .ok (.aload_n 0, 1) := by decide +kernel
theorem d_Fo_ofWhole_18 : decode prog_2_method_14_code 18 = .ok (.lload_n 1, 1) := by decide +kernel
theorem d_Fo_ofWhole_19 : decode prog_2_method_14_code 19 = .ok (.lconst 0, 1) := by decide +kernel
theorem d_Fo_ofWhole_20 : decode prog_2_method_14_code 20 = .ok (.lcmp, 1) := by decide +kernel
theorem d_Fo_ofWhole_21 : decode prog_2_method_14_code 21 = .ok (.ifCond .ge 7, 3) := by decide +kernel
theorem d_Fo_ofWhole_24 : decode prog_2_method_14_code 24 = .ok (.iconst 1, 1) := by decide +kernel
theorem d_Fo_ofWhole_25 : decode prog_2_method_14_code 25 = .ok (.goto 4, 3) := by decide +kernel
theorem d_Fo_ofWhole_28 : decode prog_2_method_14_code 28 = .ok (.iconst 0, 1) := by decide +kernel
theorem d_Fo_ofWhole_29 : decode prog_2_method_14_code 29 = .ok (.lload_n 1, 1) := by decide +kernel
theorem d_Fo_ofWhole_30 : decode prog_2_method_14_code 30 = .ok (.invokestatic 111, 3) := by decide +kernel
theorem d_Fo_ofWhole_33 : decode prog_2_method_14_code 33 = .ok (.iconst 0, 1) := by decide +kernel
theorem d_Fo_ofWhole_34 : decode prog_2_method_14_code 34 = .ok (.invokevirtual 105, 3) := by decide +kernel
theorem d_Fo_ofWhole_37 : decode prog_2_method_14_code 37 = .ok (.lreturn, 1) := by decide +kernel
set_option maxHeartbeats 1200000 in
set_option maxRecDepth 100000 in
theorem c_Fo_ofWhole (l : Launch) (ad : Nat → Nat) (i : Nat) (a : Int64) (h_i : i < 2) : Met l y_Fo_ofWhole w_Fo_ofWhole ({ frames := 3, cells := 0, slots := 0, locals := 72 } : Room) (va_Pc [.ref (ad i), .long a] (nb_K ad)) (vp_Sl (fun r => r = mf_Fo_ofWhole i a)) 0 0 (fun _ => False) := by
  refine Met.ofW (cc := prog_2_method_14_code) (maxL := 3) (ret := some .long) (by decide) rfl ?_
  intro p e s m args below meth c s₁ B hml hv
  obtain ⟨rfl, hC⟩ := hv
  have hx := B.exec
  have hb := B.bytes
  have hr := B.returns
  have hts := atoms_spec (ws := w_Fo_ofWhole) B.pre
  have hown : s.vm.findClass "NumberBench$Form" = some m.cls := findClass_of_methodNamed B.named
  have hlocks := B.notSynchronized
  have hC : nb_C ad (fun _ => False) s s.heap := hC
  have hS : va_S (fun _ => False) s.heap s.heap [] := va_S.rf
  have hl := lv_entry ([.ref (ad i), .long a]) (n := 3) (Nat.le_of_ble_eq_true rfl)
  rw [lg_entry_eq]
  generalize (lg_sl ([.ref (ad i), .long a]) ++ List.replicate (3 - (lg_sl ([.ref (ad i), .long a])).length) Slot.unset).toArray = ls at hl ⊢
  have hl : lv_has ls 3 [(0, .ref (ad i)), (1, .long a)] := hl
  refine lv_lload_n hx hb d_Fo_ofWhole_0 rfl (lv_at hl 1 rfl) ?_
  refine lv_ldc2 (v := (-9223372036854775808 : Int64)) hx hb hown (hts (.constantLong "NumberBench$Form" 109 (-9223372036854775808 : Int64)) (nb_c nb_t189)) d_Fo_ofWhole_1 ?_
  refine nb_lc_ne (tgt := 17) hx hb d_Fo_ofWhole_4 d_Fo_ofWhole_5 (by decide) (fun h1 => ?_) (fun h1 => ?_)
  · refine lv_aload_n hx hb d_Fo_ofWhole_17 rfl (lv_at hl 0 rfl) ?_
    refine lv_lload_n hx hb d_Fo_ofWhole_18 rfl (lv_at hl 1 rfl) ?_
    refine lv_lconst (v := 0) hx hb d_Fo_ofWhole_19 (by decide) ?_
    refine nb_lc_ge (tgt := 28) hx hb d_Fo_ofWhole_20 d_Fo_ofWhole_21 (by decide) (fun h2 => ?_) (fun h2 => ?_)
    · refine lv_iconst (v := 0) hx hb d_Fo_ofWhole_28 (by decide) ?_
      refine lv_lload_n hx hb d_Fo_ofWhole_29 rfl (lv_at hl 1 rfl) ?_
      refine va_mabs_long hx hb (by rw [hml]; exact hl.1.symm) hown (hts _ (nb_c nb_t190)) (hts _ (nb_c nb_t191)) (hts _ (nb_c nb_t5)) (hts _ (nb_c nb_code_va_mabs_long)) (Nat.le_of_ble_eq_true rfl) (Nat.le_of_ble_eq_true rfl) (Nat.le_of_ble_eq_true rfl) (Nat.le_of_ble_eq_true rfl) d_Fo_ofWhole_30 ?_
      refine lv_iconst (v := 0) hx hb d_Fo_ofWhole_33 (by decide) ?_
      refine nb_callVl (As := [.int (0 : Int32), .long (if 0 < a then a else -a), .int (0 : Int32)]) (rest := []) hx hb hml hown hts (c_Fo_rounded l ad i (0 : Int32) (if 0 < a then a else -a) (0 : Int32) h_i) nb_t83 nb_t85 nb_s6 h_i nb_t4 nb_t86 hd_Fo_rounded rfl ⟨Nat.le_of_ble_eq_true rfl, Nat.le_of_ble_eq_true rfl⟩ ⟨rfl, rfl⟩ hC hS hl.1 rfl (Nat.le_of_ble_eq_true rfl) ⟨Nat.le_of_ble_eq_true rfl, Nat.le_of_ble_eq_true rfl⟩ d_Fo_ofWhole_34 ?_
      exact W.lret hx hb hr (fun t ht hW => ⟨_, rfl, (by rw [mf_Fo_ofWhole, if_neg h1, if_pos h2]), ht⟩) t_nil d_Fo_ofWhole_37
    · refine lv_iconst (v := 1) hx hb d_Fo_ofWhole_24 (by decide) ?_
      refine lv_goto (tgt := 29) hx hb d_Fo_ofWhole_25 (by decide) ?_
      refine lv_lload_n hx hb d_Fo_ofWhole_29 rfl (lv_at hl 1 rfl) ?_
      refine va_mabs_long hx hb (by rw [hml]; exact hl.1.symm) hown (hts _ (nb_c nb_t190)) (hts _ (nb_c nb_t191)) (hts _ (nb_c nb_t5)) (hts _ (nb_c nb_code_va_mabs_long)) (Nat.le_of_ble_eq_true rfl) (Nat.le_of_ble_eq_true rfl) (Nat.le_of_ble_eq_true rfl) (Nat.le_of_ble_eq_true rfl) d_Fo_ofWhole_30 ?_
      refine lv_iconst (v := 0) hx hb d_Fo_ofWhole_33 (by decide) ?_
      refine nb_callVl (As := [.int (1 : Int32), .long (if 0 < a then a else -a), .int (0 : Int32)]) (rest := []) hx hb hml hown hts (c_Fo_rounded l ad i (1 : Int32) (if 0 < a then a else -a) (0 : Int32) h_i) nb_t83 nb_t85 nb_s6 h_i nb_t4 nb_t86 hd_Fo_rounded rfl ⟨Nat.le_of_ble_eq_true rfl, Nat.le_of_ble_eq_true rfl⟩ ⟨rfl, rfl⟩ hC hS hl.1 rfl (Nat.le_of_ble_eq_true rfl) ⟨Nat.le_of_ble_eq_true rfl, Nat.le_of_ble_eq_true rfl⟩ d_Fo_ofWhole_34 ?_
      exact W.lret hx hb hr (fun t ht hW => ⟨_, rfl, (by rw [mf_Fo_ofWhole, if_neg h1, if_neg h2]), ht⟩) t_nil d_Fo_ofWhole_37
  · refine lv_aload_n hx hb d_Fo_ofWhole_8 rfl (lv_at hl 0 rfl) ?_
    refine lv_iconst (v := 1) hx hb d_Fo_ofWhole_9 (by decide) ?_
    refine lv_lconst (v := 1) hx hb d_Fo_ofWhole_10 (by decide) ?_
    refine lv_bipush (v := 63) hx hb d_Fo_ofWhole_11 (by decide) ?_
    refine nb_callVl (As := [.int (1 : Int32), .long (1 : Int64), .int (63 : Int32)]) (rest := []) hx hb hml hown hts (c_Fo_rounded l ad i (1 : Int32) (1 : Int64) (63 : Int32) h_i) nb_t83 nb_t85 nb_s6 h_i nb_t4 nb_t86 hd_Fo_rounded rfl ⟨Nat.le_of_ble_eq_true rfl, Nat.le_of_ble_eq_true rfl⟩ ⟨rfl, rfl⟩ hC hS hl.1 rfl (Nat.le_of_ble_eq_true rfl) ⟨Nat.le_of_ble_eq_true rfl, Nat.le_of_ble_eq_true rfl⟩ d_Fo_ofWhole_13 ?_
    exact W.lret hx hb hr (fun t ht hW => ⟨_, rfl, (by rw [mf_Fo_ofWhole, if_pos h1]), ht⟩) t_nil d_Fo_ofWhole_16
def y_Fo_cut : MethodName := ⟨"NumberBench$Form", "cut", "(J)J"⟩
abbrev w_Fo_cut : List Cond := Cond.code y_Fo_cut prog_2_method_15_code 8 (Option.some FieldType.long) :: nb_tb
theorem hd_Fo_cut : y_Fo_cut.cls ≠ "java/lang/invoke/MethodHandle" ∧ y_Fo_cut.cls ≠ "java/lang/invoke/VarHandle" ∧ (parseMethodDescriptor y_Fo_cut.desc).map (fun d => d.parameters.length) = some 1 := by decide +kernel
theorem d_Fo_cut_0 : decode prog_2_method_15_code 0 = .ok (.aload_n 0, 1) := by decide +kernel
theorem d_Fo_cut_1 : decode prog_2_method_15_code 1 = .ok (.lload_n 1, 1) := by decide +kernel
theorem d_Fo_cut_2 : decode prog_2_method_15_code 2 = .ok (.invokevirtual 54, 3) := by decide +kernel
theorem d_Fo_cut_5 : decode prog_2_method_15_code 5 = .ok (.ifCond .eq 5, 3) := by decide +kernel
theorem d_Fo_cut_8 : decode prog_2_method_15_code 8 = .ok (.lconst 0, 1) := by decide +kernel
theorem d_Fo_cut_9 : decode prog_2_method_15_code 9 = .ok (.lreturn, 1) := by decide +kernel
theorem d_Fo_cut_10 : decode prog_2_method_15_code 10 = .ok (.aload_n 0, 1) := by decide +kernel
theorem d_Fo_cut_11 : decode prog_2_method_15_code 11 = .ok (.lload_n 1, 1) := by decide +kernel
theorem d_Fo_cut_12 : decode prog_2_method_15_code 12 = .ok (.invokevirtual 101, 3) := by decide +kernel
theorem d_Fo_cut_15 : decode prog_2_method_15_code 15 = .ok (.istore_n 3, 1) := by decide +kernel
theorem d_Fo_cut_16 : decode prog_2_method_15_code 16 = .ok (.iload_n 3, 1) := by decide +kernel
theorem d_Fo_cut_17 : decode prog_2_method_15_code 17 = .ok (.bipush 62, 2) := by decide +kernel
theorem d_Fo_cut_19 : decode prog_2_method_15_code 19 = .ok (.aload_n 0, 1) := by decide +kernel
theorem d_Fo_cut_20 : decode prog_2_method_15_code 20 = .ok (.getfield 31, 3) := by decide +kernel
theorem d_Fo_cut_23 : decode prog_2_method_15_code 23 = .ok (.isub, 1) := by decide +kernel
theorem d_Fo_cut_24 : decode prog_2_method_15_code 24 = .ok (.if_icmp .le 21, 3) := by decide +kernel
theorem d_Fo_cut_27 : decode prog_2_method_15_code 27 = .ok (.aload_n 0, 1) := by decide +kernel
theorem d_Fo_cut_28 : decode prog_2_method_15_code 28 = .ok (.lload_n 1, 1) := by decide +kernel
theorem d_Fo_cut_29 : decode prog_2_method_15_code 29 = .ok (.invokevirtual 78, 3) := by decide +kernel
theorem d_Fo_cut_32 : decode prog_2_method_15_code 32 = .ok (.ifCond .eq 9, 3) := by decide +kernel
theorem d_Fo_cut_35 : decode prog_2_method_15_code 35 = .ok (.ldc2_w 109, 3) := by decide +kernel
theorem d_Fo_cut_38 : decode prog_2_method_15_code 38 = .ok (.goto 6, 3) := by decide +kernel
theorem d_Fo_cut_41 : decode prog_2_method_15_code 41 = .ok (.ldc2_w 116, 3) := by decide +kernel
theorem d_Fo_cut_44 : decode prog_2_method_15_code 44 = .ok (.lreturn, 1) := by decide +kernel
theorem d_Fo_cut_45 : decode prog_2_method_15_code 45 = .ok (.iload_n 3, 1) := by decide +kernel
theorem d_Fo_cut_46 : decode prog_2_method_15_code 46 = .ok (.aload_n 0, 1) := by decide +kernel
theorem d_Fo_cut_47 : decode prog_2_method_15_code 47 = .ok (.getfield 31, 3) := by decide +kernel
theorem d_Fo_cut_50 : decode prog_2_method_15_code 50 = .ok (.ineg, 1) := by decide +kernel
theorem d_Fo_cut_51 : decode prog_2_method_15_code 51 = .ok (.if_icmp .ge 5, 3) := by decide +kernel
theorem d_Fo_cut_54 : decode prog_2_method_15_code 54 = .ok (.lconst 0, 1) := by decide +kernel
theorem d_Fo_cut_55 : decode prog_2_method_15_code 55 = .ok (.lreturn, 1) := by decide +kernel
theorem d_Fo_cut_56 : decode prog_2_method_15_code 56 = .ok (.aload_n 0, 1) := by decide +kernel
theorem d_Fo_cut_57 : decode prog_2_method_15_code 57 = .ok (.lload_n 1, 1) := by decide +kernel
theorem d_Fo_cut_58 : decode prog_2_method_15_code 58 = .ok (.invokevirtual 98, 3) := by decide +kernel
theorem d_Fo_cut_61 : decode prog_2_method_15_code 61 = .ok (.lstore 4, 2) := by decide +kernel
theorem d_Fo_cut_63 : decode prog_2_method_15_code 63 = .ok (.iload_n 3, 1) := by decide +kernel
theorem d_Fo_cut_64 : decode prog_2_method_15_code 64 = .ok (.ifCond .lt 10, 3) := by decide +kernel
theorem d_Fo_cut_67 : decode prog_2_method_15_code 67 = .ok (.lload 4, 2) := by decide +kernel
theorem d_Fo_cut_69 : decode prog_2_method_15_code 69 = .ok (.iload_n 3, 1) := by decide +kernel
theorem d_Fo_cut_70 : decode prog_2_method_15_code 70 = .ok (.lshl, 1) := by decide +kernel
theorem d_Fo_cut_71 : decode prog_2_method_15_code 71 = .ok (.goto 8, 3) := by decide +kernel
theorem d_Fo_cut_74 : decode prog_2_method_15_code 74 = .ok (.lload 4, 2) := by decide +kernel
theorem d_Fo_cut_76 : decode prog_2_method_15_code 76 = .ok (.iload_n 3, 1) := by decide +kernel
theorem d_Fo_cut_77 : decode prog_2_method_15_code 77 = .ok (.ineg, 1) := by decide +kernel
theorem d_Fo_cut_78 : decode prog_2_method_15_code 78 = .ok (.lshr, 1) := by decide +kernel
theorem d_Fo_cut_79 : decode prog_2_method_15_code 79 = .ok (.lstore 6, 2) := by decide +kernel
theorem d_Fo_cut_81 : decode prog_2_method_15_code 81 = .ok (.aload_n 0, 1) := by decide +kernel
theorem d_Fo_cut_82 : decode prog_2_method_15_code 82 = .ok (.lload_n 1, 1) := by decide +kernel
theorem d_Fo_cut_83 : decode prog_2_method_15_code 83 = .ok (.invokevirtual 78, 3) := by decide +kernel
theorem d_Fo_cut_86 : decode prog_2_method_15_code 86 = .ok (.ifCond .eq 9, 3) := by decide +kernel
theorem d_Fo_cut_89 : decode prog_2_method_15_code 89 = .ok (.lload 6, 2) := by decide +kernel
theorem d_Fo_cut_91 : decode prog_2_method_15_code 91 = .ok (.lneg, 1) := by decide +kernel
theorem d_Fo_cut_92 : decode prog_2_method_15_code 92 = .ok (.goto 5, 3) := by decide +kernel
theorem d_Fo_cut_95 : decode prog_2_method_15_code 95 = .ok (.lload 6, 2) := by decide +kernel
theorem d_Fo_cut_97 : decode prog_2_method_15_code 97 = .ok (.lreturn, 1) := by decide +kernel
set_option maxHeartbeats 1200000 in
set_option maxRecDepth 100000 in
theorem c_Fo_cut (l : Launch) (ad : Nat → Nat) (i : Nat) (a : Int64) (h_i : i < 2) : Met l y_Fo_cut w_Fo_cut ({ frames := 2, cells := 0, slots := 0, locals := 44 } : Room) (va_Pc [.ref (ad i), .long a] (nb_K ad)) (vp_Sl (fun r => r = mf_Fo_cut i a)) 0 0 (fun _ => False) := by
  refine Met.ofW (cc := prog_2_method_15_code) (maxL := 8) (ret := some .long) (by decide) rfl ?_
  intro p e s m args below meth c s₁ B hml hv
  obtain ⟨rfl, hC⟩ := hv
  have hx := B.exec
  have hb := B.bytes
  have hr := B.returns
  have hts := atoms_spec (ws := w_Fo_cut) B.pre
  have hown : s.vm.findClass "NumberBench$Form" = some m.cls := findClass_of_methodNamed B.named
  have hlocks := B.notSynchronized
  have hC : nb_C ad (fun _ => False) s s.heap := hC
  have hS : va_S (fun _ => False) s.heap s.heap [] := va_S.rf
  have hl := lv_entry ([.ref (ad i), .long a]) (n := 8) (Nat.le_of_ble_eq_true rfl)
  rw [lg_entry_eq]
  generalize (lg_sl ([.ref (ad i), .long a]) ++ List.replicate (8 - (lg_sl ([.ref (ad i), .long a])).length) Slot.unset).toArray = ls at hl ⊢
  have hl : lv_has ls 8 [(0, .ref (ad i)), (1, .long a)] := hl
  refine lv_aload_n hx hb d_Fo_cut_0 rfl (lv_at hl 0 rfl) ?_
  refine lv_lload_n hx hb d_Fo_cut_1 rfl (lv_at hl 1 rfl) ?_
  refine nb_callVi (As := [.long a]) (rest := []) hx hb hml hown hts (c_Fo_isNoNumber l ad i a h_i) nb_t34 nb_t35 nb_t36 h_i nb_t4 nb_t37 hd_Fo_isNoNumber rfl ⟨Nat.le_of_ble_eq_true rfl, Nat.le_of_ble_eq_true rfl⟩ ⟨rfl, rfl⟩ hC hS hl.1 rfl (Nat.le_of_ble_eq_true rfl) ⟨Nat.le_of_ble_eq_true rfl, Nat.le_of_ble_eq_true rfl⟩ d_Fo_cut_2 ?_
  refine lv_if_eq (tgt := 10) hx hb d_Fo_cut_5 (by decide) (fun h1 => ?_) (fun h1 => ?_)
  · refine lv_aload_n hx hb d_Fo_cut_10 rfl (lv_at hl 0 rfl) ?_
    refine lv_lload_n hx hb d_Fo_cut_11 rfl (lv_at hl 1 rfl) ?_
    refine nb_callVi (As := [.long a]) (rest := []) hx hb hml hown hts (c_Fo_scale l ad i a h_i) nb_t65 nb_t67 nb_s3 h_i nb_t4 nb_t68 hd_Fo_scale rfl ⟨Nat.le_of_ble_eq_true rfl, Nat.le_of_ble_eq_true rfl⟩ ⟨rfl, rfl⟩ hC hS hl.1 rfl (Nat.le_of_ble_eq_true rfl) ⟨Nat.le_of_ble_eq_true rfl, Nat.le_of_ble_eq_true rfl⟩ d_Fo_cut_12 ?_
    refine lv_istore_n hx hb d_Fo_cut_15 rfl hl (by decide) rfl (fun ls hl => ?_)
    have hl : lv_has ls 8 [(3, .int (mf_Fo_scale i a)), (0, .ref (ad i)), (1, .long a)] := hl
    refine lv_iload_n hx hb d_Fo_cut_16 rfl (lv_at hl 0 rfl) ?_
    refine lv_bipush (v := 62) hx hb d_Fo_cut_17 (by decide) ?_
    refine lv_aload_n hx hb d_Fo_cut_19 rfl (lv_at hl 1 rfl) ?_
    refine vk_getf (v := .int (fo_fb i)) hx hb (nb_f_fb hC h_i) hS hown (hts _ (nb_c nb_t429)) (fun _ h => h) d_Fo_cut_20 ?_
    refine lv_isub hx hb d_Fo_cut_23 ?_
    refine lv_icmp_le (tgt := 45) hx hb d_Fo_cut_24 (by decide) (fun h2 => ?_) (fun h2 => ?_)
    · refine lv_iload_n hx hb d_Fo_cut_45 rfl (lv_at hl 0 rfl) ?_
      refine lv_aload_n hx hb d_Fo_cut_46 rfl (lv_at hl 1 rfl) ?_
      refine vk_getf (v := .int (fo_fb i)) hx hb (nb_f_fb hC h_i) hS hown (hts _ (nb_c nb_t429)) (fun _ h => h) d_Fo_cut_47 ?_
      refine lv_ineg hx hb d_Fo_cut_50 ?_
      refine lv_icmp_ge (tgt := 56) hx hb d_Fo_cut_51 (by decide) (fun h3 => ?_) (fun h3 => ?_)
      · refine lv_aload_n hx hb d_Fo_cut_56 rfl (lv_at hl 1 rfl) ?_
        refine lv_lload_n hx hb d_Fo_cut_57 rfl (lv_at hl 2 rfl) ?_
        refine nb_callVl (As := [.long a]) (rest := []) hx hb hml hown hts (c_Fo_significand l ad i a h_i) nb_t72 nb_t74 nb_s4 h_i nb_t4 nb_t75 hd_Fo_significand rfl ⟨Nat.le_of_ble_eq_true rfl, Nat.le_of_ble_eq_true rfl⟩ ⟨rfl, rfl⟩ hC hS hl.1 rfl (Nat.le_of_ble_eq_true rfl) ⟨Nat.le_of_ble_eq_true rfl, Nat.le_of_ble_eq_true rfl⟩ d_Fo_cut_58 ?_
        refine lv_lstore hx hb d_Fo_cut_61 hl (by decide) rfl (fun ls hl => ?_)
        have hl : lv_has ls 8 [(4, .long (mf_Fo_significand i a)), (3, .int (mf_Fo_scale i a)), (0, .ref (ad i)), (1, .long a)] := hl
        refine lv_iload_n hx hb d_Fo_cut_63 rfl (lv_at hl 1 rfl) ?_
        refine lv_if_lt (tgt := 74) hx hb d_Fo_cut_64 (by decide) (fun h4 => ?_) (fun h4 => ?_)
        · refine lv_lload hx hb d_Fo_cut_74 (lv_at hl 0 rfl) ?_
          refine lv_iload_n hx hb d_Fo_cut_76 rfl (lv_at hl 1 rfl) ?_
          refine lv_ineg hx hb d_Fo_cut_77 ?_
          refine lv_lshr hx hb d_Fo_cut_78 rfl ?_
          refine lv_topl (fun v5 ev5 => ?_)
          refine lv_lstore hx hb d_Fo_cut_79 hl (by decide) rfl (fun ls hl => ?_)
          have hl : lv_has ls 8 [(6, .long v5), (4, .long (mf_Fo_significand i a)), (3, .int (mf_Fo_scale i a)), (0, .ref (ad i)), (1, .long a)] := hl
          refine lv_aload_n hx hb d_Fo_cut_81 rfl (lv_at hl 3 rfl) ?_
          refine lv_lload_n hx hb d_Fo_cut_82 rfl (lv_at hl 4 rfl) ?_
          refine nb_callVi (As := [.long a]) (rest := []) hx hb hml hown hts (c_Fo_isNegative l ad i a h_i) nb_t79 nb_t81 nb_s5 h_i nb_t4 nb_t82 hd_Fo_isNegative rfl ⟨Nat.le_of_ble_eq_true rfl, Nat.le_of_ble_eq_true rfl⟩ ⟨rfl, rfl⟩ hC hS hl.1 rfl (Nat.le_of_ble_eq_true rfl) ⟨Nat.le_of_ble_eq_true rfl, Nat.le_of_ble_eq_true rfl⟩ d_Fo_cut_83 ?_
          refine lv_if_eq (tgt := 95) hx hb d_Fo_cut_86 (by decide) (fun h6 => ?_) (fun h6 => ?_)
          · refine lv_lload hx hb d_Fo_cut_95 (lv_at hl 0 rfl) ?_
            exact W.lret hx hb hr (fun t ht hW => ⟨_, rfl, (by subst ev5; rw [mf_Fo_cut, if_pos h1, if_pos h2, if_pos h3, if_pos h4, if_pos h6]), ht⟩) t_nil d_Fo_cut_97
          · refine lv_lload hx hb d_Fo_cut_89 (lv_at hl 0 rfl) ?_
            refine lv_lneg hx hb d_Fo_cut_91 ?_
            refine lv_goto (tgt := 97) hx hb d_Fo_cut_92 (by decide) ?_
            exact W.lret hx hb hr (fun t ht hW => ⟨_, rfl, (by subst ev5; rw [mf_Fo_cut, if_pos h1, if_pos h2, if_pos h3, if_pos h4, if_neg h6]), ht⟩) t_nil d_Fo_cut_97
        · refine lv_lload hx hb d_Fo_cut_67 (lv_at hl 0 rfl) ?_
          refine lv_iload_n hx hb d_Fo_cut_69 rfl (lv_at hl 1 rfl) ?_
          refine lv_lshl hx hb d_Fo_cut_70 rfl ?_
          refine lv_goto (tgt := 79) hx hb d_Fo_cut_71 (by decide) ?_
          refine lv_topl (fun v7 ev7 => ?_)
          refine lv_lstore hx hb d_Fo_cut_79 hl (by decide) rfl (fun ls hl => ?_)
          have hl : lv_has ls 8 [(6, .long v7), (4, .long (mf_Fo_significand i a)), (3, .int (mf_Fo_scale i a)), (0, .ref (ad i)), (1, .long a)] := hl
          refine lv_aload_n hx hb d_Fo_cut_81 rfl (lv_at hl 3 rfl) ?_
          refine lv_lload_n hx hb d_Fo_cut_82 rfl (lv_at hl 4 rfl) ?_
          refine nb_callVi (As := [.long a]) (rest := []) hx hb hml hown hts (c_Fo_isNegative l ad i a h_i) nb_t79 nb_t81 nb_s5 h_i nb_t4 nb_t82 hd_Fo_isNegative rfl ⟨Nat.le_of_ble_eq_true rfl, Nat.le_of_ble_eq_true rfl⟩ ⟨rfl, rfl⟩ hC hS hl.1 rfl (Nat.le_of_ble_eq_true rfl) ⟨Nat.le_of_ble_eq_true rfl, Nat.le_of_ble_eq_true rfl⟩ d_Fo_cut_83 ?_
          refine lv_if_eq (tgt := 95) hx hb d_Fo_cut_86 (by decide) (fun h8 => ?_) (fun h8 => ?_)
          · refine lv_lload hx hb d_Fo_cut_95 (lv_at hl 0 rfl) ?_
            exact W.lret hx hb hr (fun t ht hW => ⟨_, rfl, (by subst ev7; rw [mf_Fo_cut, if_pos h1, if_pos h2, if_pos h3, if_neg h4, if_pos h8]), ht⟩) t_nil d_Fo_cut_97
          · refine lv_lload hx hb d_Fo_cut_89 (lv_at hl 0 rfl) ?_
            refine lv_lneg hx hb d_Fo_cut_91 ?_
            refine lv_goto (tgt := 97) hx hb d_Fo_cut_92 (by decide) ?_
            exact W.lret hx hb hr (fun t ht hW => ⟨_, rfl, (by subst ev7; rw [mf_Fo_cut, if_pos h1, if_pos h2, if_pos h3, if_neg h4, if_neg h8]), ht⟩) t_nil d_Fo_cut_97
      · refine lv_lconst (v := 0) hx hb d_Fo_cut_54 (by decide) ?_
        exact W.lret hx hb hr (fun t ht hW => ⟨_, rfl, (by rw [mf_Fo_cut, if_pos h1, if_pos h2, if_neg h3]), ht⟩) t_nil d_Fo_cut_55
    · refine lv_aload_n hx hb d_Fo_cut_27 rfl (lv_at hl 1 rfl) ?_
      refine lv_lload_n hx hb d_Fo_cut_28 rfl (lv_at hl 2 rfl) ?_
      refine nb_callVi (As := [.long a]) (rest := []) hx hb hml hown hts (c_Fo_isNegative l ad i a h_i) nb_t79 nb_t81 nb_s5 h_i nb_t4 nb_t82 hd_Fo_isNegative rfl ⟨Nat.le_of_ble_eq_true rfl, Nat.le_of_ble_eq_true rfl⟩ ⟨rfl, rfl⟩ hC hS hl.1 rfl (Nat.le_of_ble_eq_true rfl) ⟨Nat.le_of_ble_eq_true rfl, Nat.le_of_ble_eq_true rfl⟩ d_Fo_cut_29 ?_
      refine lv_if_eq (tgt := 41) hx hb d_Fo_cut_32 (by decide) (fun h9 => ?_) (fun h9 => ?_)
      · refine lv_ldc2 (v := (9223372036854775807 : Int64)) hx hb hown (hts (.constantLong "NumberBench$Form" 116 (9223372036854775807 : Int64)) (nb_c nb_t201)) d_Fo_cut_41 ?_
        exact W.lret hx hb hr (fun t ht hW => ⟨_, rfl, (by rw [mf_Fo_cut, if_pos h1, if_neg h2, if_pos h9]), ht⟩) t_nil d_Fo_cut_44
      · refine lv_ldc2 (v := (-9223372036854775808 : Int64)) hx hb hown (hts (.constantLong "NumberBench$Form" 109 (-9223372036854775808 : Int64)) (nb_c nb_t189)) d_Fo_cut_35 ?_
        refine lv_goto (tgt := 44) hx hb d_Fo_cut_38 (by decide) ?_
        exact W.lret hx hb hr (fun t ht hW => ⟨_, rfl, (by rw [mf_Fo_cut, if_pos h1, if_neg h2, if_neg h9]), ht⟩) t_nil d_Fo_cut_44
  · refine lv_lconst (v := 0) hx hb d_Fo_cut_8 (by decide) ?_
    exact W.lret hx hb hr (fun t ht hW => ⟨_, rfl, (by rw [mf_Fo_cut, if_neg h1]), ht⟩) t_nil d_Fo_cut_9
