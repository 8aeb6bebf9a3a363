def y_Tw_sum : MethodName := ⟨"NumberBenchModel", "sum", "(I)J"⟩
abbrev w_Tw_sum : List Cond := Cond.code y_Tw_sum prog_4_method_45_code 15 (Option.some FieldType.long) :: nb_tb
theorem hd_Tw_sum : y_Tw_sum.cls ≠ "java/lang/invoke/MethodHandle" ∧ y_Tw_sum.cls ≠ "java/lang/invoke/VarHandle" ∧ (parseMethodDescriptor y_Tw_sum.desc).map (fun d => d.parameters.length) = some 1 := by decide +kernel
theorem d_Tw_sum_0 : decode prog_4_method_45_code 0 = .ok (.iload_n 1, 1) := by decide +kernel
theorem d_Tw_sum_1 : decode prog_4_method_45_code 1 = .ok (.iconst 3, 1) := by decide +kernel
theorem d_Tw_sum_2 : decode prog_4_method_45_code 2 = .ok (.invokestatic 139, 3) := by decide +kernel
theorem d_Tw_sum_5 : decode prog_4_method_45_code 5 = .ok (.ifCond .ne 5, 3) := by decide +kernel
theorem d_Tw_sum_8 : decode prog_4_method_45_code 8 = .ok (.lconst 1, 1) := by decide +kernel
theorem d_Tw_sum_9 : decode prog_4_method_45_code 9 = .ok (.lreturn, 1) := by decide +kernel
theorem d_Tw_sum_10 : decode prog_4_method_45_code 10 = .ok (.lconst 0, 1) := by decide +kernel
theorem d_Tw_sum_11 : decode prog_4_method_45_code 11 = .ok (.lstore_n 2, 1) := by decide +kernel
theorem d_Tw_sum_12 : decode prog_4_method_45_code 12 = .ok (.lconst 0, 1) := by decide +kernel
theorem d_Tw_sum_13 : decode prog_4_method_45_code 13 = .ok (.lstore 4, 2) := by decide +kernel
theorem d_Tw_sum_15 : decode prog_4_method_45_code 15 = .ok (.aload_n 0, 1) := by decide +kernel
theorem d_Tw_sum_16 : decode prog_4_method_45_code 16 = .ok (.getfield 135, 3) := by decide +kernel
theorem d_Tw_sum_19 : decode prog_4_method_45_code 19 = .ok (.astore 6, 2) := by decide +kernel
theorem d_Tw_sum_21 : decode prog_4_method_45_code 21 = .ok (.aload 6, 2) := by decide +kernel
theorem d_Tw_sum_23 : decode prog_4_method_45_code 23 = .ok (.arraylength, 1) := by decide +kernel
theorem d_Tw_sum_24 : decode prog_4_method_45_code 24 = .ok (.istore 7, 2) := by decide +kernel
theorem d_Tw_sum_26 : decode prog_4_method_45_code 26 = .ok (.iconst 0, 1) := by decide +kernel
theorem d_Tw_sum_27 : decode prog_4_method_45_code 27 = .ok (.istore 8, 2) := by decide +kernel
theorem d_Tw_sum_29 : decode prog_4_method_45_code 29 = .ok (.iload 8, 2) := by decide +kernel
theorem d_Tw_sum_31 : decode prog_4_method_45_code 31 = .ok (.iload 7, 2) := by decide +kernel
theorem d_Tw_sum_33 : decode prog_4_method_45_code 33 = .ok (.if_icmp .ge 84, 3) := by decide +kernel
theorem d_Tw_sum_36 : decode prog_4_method_45_code 36 = .ok (.aload 6, 2) := by decide +kernel
theorem d_Tw_sum_38 : decode prog_4_method_45_code 38 = .ok (.iload 8, 2) := by decide +kernel
theorem d_Tw_sum_40 : decode prog_4_method_45_code 40 = .ok (.laload, 1) := by decide +kernel
theorem d_Tw_sum_41 : decode prog_4_method_45_code 41 = .ok (.lstore 9, 2) := by decide +kernel
theorem d_Tw_sum_43 : decode prog_4_method_45_code 43 = .ok (.iload_n 1, 1) := by decide +kernel
theorem d_Tw_sum_44 : decode prog_4_method_45_code 44 = .ok (.ifCond .ne 10, 3) := by decide +kernel
theorem d_Tw_sum_47 : decode prog_4_method_45_code 47 = .ok (.lload_n 2, 1) := by decide +kernel
theorem d_Tw_sum_48 : decode prog_4_method_45_code 48 = .ok (.lload 9, 2) := by decide +kernel
theorem d_Tw_sum_50 : decode prog_4_method_45_code 50 = .ok (.invokestatic 123, 3) := by decide +kernel
theorem d_Tw_sum_53 : decode prog_4_method_45_code 53 = .ok (.lstore_n 2, 1) := by decide +kernel
theorem d_Tw_sum_54 : decode prog_4_method_45_code 54 = .ok (.iload_n 1, 1) := by decide +kernel
theorem d_Tw_sum_55 : decode prog_4_method_45_code 55 = .ok (.iconst 1, 1) := by decide +kernel
theorem d_Tw_sum_56 : decode prog_4_method_45_code 56 = .ok (.if_icmp .ne 14, 3) := by decide +kernel
theorem d_Tw_sum_59 : decode prog_4_method_45_code 59 = .ok (.lload_n 2, 1) := by decide +kernel
theorem d_Tw_sum_60 : decode prog_4_method_45_code 60 = .ok (.lload 9, 2) := by decide +kernel
theorem d_Tw_sum_62 : decode prog_4_method_45_code 62 = .ok (.invokestatic 143, 3) := by decide +kernel
theorem d_Tw_sum_65 : decode prog_4_method_45_code 65 = .ok (.iconst 1, 1) := by decide +kernel
theorem d_Tw_sum_66 : decode prog_4_method_45_code 66 = .ok (.invokestatic 82, 3) := by decide +kernel
theorem d_Tw_sum_69 : decode prog_4_method_45_code 69 = .ok (.lstore_n 2, 1) := by decide +kernel
theorem d_Tw_sum_70 : decode prog_4_method_45_code 70 = .ok (.iload_n 1, 1) := by decide +kernel
theorem d_Tw_sum_71 : decode prog_4_method_45_code 71 = .ok (.iconst 2, 1) := by decide +kernel
theorem d_Tw_sum_72 : decode prog_4_method_45_code 72 = .ok (.if_icmp .ge 6, 3) := by decide +kernel
theorem d_Tw_sum_75 : decode prog_4_method_45_code 75 = .ok (.goto 36, 3) := by decide +kernel
theorem d_Tw_sum_78 : decode prog_4_method_45_code 78 = .ok (.lload 9, 2) := by decide +kernel
theorem d_Tw_sum_80 : decode prog_4_method_45_code 80 = .ok (.lload 4, 2) := by decide +kernel
theorem d_Tw_sum_82 : decode prog_4_method_45_code 82 = .ok (.invokestatic 189, 3) := by decide +kernel
theorem d_Tw_sum_85 : decode prog_4_method_45_code 85 = .ok (.lstore 11, 2) := by decide +kernel
theorem d_Tw_sum_87 : decode prog_4_method_45_code 87 = .ok (.lload_n 2, 1) := by decide +kernel
theorem d_Tw_sum_88 : decode prog_4_method_45_code 88 = .ok (.lload 11, 2) := by decide +kernel
theorem d_Tw_sum_90 : decode prog_4_method_45_code 90 = .ok (.invokestatic 123, 3) := by decide +kernel
theorem d_Tw_sum_93 : decode prog_4_method_45_code 93 = .ok (.lstore 13, 2) := by decide +kernel
theorem d_Tw_sum_95 : decode prog_4_method_45_code 95 = .ok (.lload 13, 2) := by decide +kernel
theorem d_Tw_sum_97 : decode prog_4_method_45_code 97 = .ok (.lload_n 2, 1) := by decide +kernel
theorem d_Tw_sum_98 : decode prog_4_method_45_code 98 = .ok (.invokestatic 189, 3) := by decide +kernel
theorem d_Tw_sum_101 : decode prog_4_method_45_code 101 = .ok (.lload 11, 2) := by decide +kernel
theorem d_Tw_sum_103 : decode prog_4_method_45_code 103 = .ok (.invokestatic 189, 3) := by decide +kernel
theorem d_Tw_sum_106 : decode prog_4_method_45_code 106 = .ok (.lstore 4, 2) := by decide +kernel
theorem d_Tw_sum_108 : decode prog_4_method_45_code 108 = .ok (.lload 13, 2) := by decide +kernel
theorem d_Tw_sum_110 : decode prog_4_method_45_code 110 = .ok (.lstore_n 2, 1) := by decide +kernel
theorem d_Tw_sum_111 : decode prog_4_method_45_code 111 = .ok (.iinc 8 1, 3) := by decide +kernel
theorem d_Tw_sum_114 : decode prog_4_method_45_code 114 = .ok (.goto (-85), 3) := by decide +kernel
theorem d_Tw_sum_117 : decode prog_4_method_45_code 117 = .ok (.iload_n 1, 1) := by decide +kernel
theorem d_Tw_sum_118 : decode prog_4_method_45_code 118 = .ok (.iconst 1, 1) := by decide +kernel
theorem d_Tw_sum_119 : decode prog_4_method_45_code 119 = .ok (.if_icmp .ne 10, 3) := by decide +kernel
theorem d_Tw_sum_122 : decode prog_4_method_45_code 122 = .ok (.lload_n 2, 1) := by decide +kernel
theorem d_Tw_sum_123 : decode prog_4_method_45_code 123 = .ok (.invokestatic 153, 3) := by decide +kernel
theorem d_Tw_sum_126 : decode prog_4_method_45_code 126 = .ok (.goto 4, 3) := by decide +kernel
theorem d_Tw_sum_129 : decode prog_4_method_45_code 129 = .ok (.lload_n 2, 1) := by decide +kernel
theorem d_Tw_sum_130 : decode prog_4_method_45_code 130 = .ok (.invokestatic 164, 3) := by decide +kernel
theorem d_Tw_sum_133 : decode prog_4_method_45_code 133 = .ok (.lreturn, 1) := by decide +kernel
set_option maxHeartbeats 1200000 in
set_option maxRecDepth 100000 in
theorem c_Tw_sum (l : Launch) (ad : Nat → Nat) (dC : Nat → ClassId) (dI : Nat → Nat → Nat) (h0 q0 : Nat) (cA : ClassId) (f : Nat → Int64) (w : Int32)  : Met l y_Tw_sum w_Tw_sum ({ frames := 6, cells := 0, slots := 0, locals := 162 } : Room) (va_Pc [.ref h0, .int w] (nb_W (dC, dI) 1 h0 q0 cA f ad)) (vp_Sl (fun r => r = mf_Tw_sum f w)) 0 0 (fun _ => False) := by
  refine Met.ofW (cc := prog_4_method_45_code) (maxL := 15) (ret := some .long) (by decide) rfl ?_
  intro p e s m args below meth c s₁ B hml hv
  obtain ⟨rfl, hP, hK, hC⟩ := hv
  have hx := B.exec
  have hb := B.bytes
  have hr := B.returns
  have hts := atoms_spec (ws := w_Tw_sum) B.pre
  have hown : s.vm.findClass "NumberBenchModel" = some m.cls := findClass_of_methodNamed B.named
  have hlocks := B.notSynchronized
  have hC : nb_C ad (fun _ => False) s s.heap := hC
  have hS : va_S (fun _ => False) s.heap s.heap [] := va_S.rf
  have hl := lv_entry ([.ref h0, .int w]) (n := 15) (Nat.le_of_ble_eq_true rfl)
  rw [lg_entry_eq]
  generalize (lg_sl ([.ref h0, .int w]) ++ List.replicate (15 - (lg_sl ([.ref h0, .int w])).length) Slot.unset).toArray = ls at hl ⊢
  have hl : lv_has ls 15 [(0, .ref h0), (1, .int w)] := hl
  have b29 : ∀ (fuel : Nat) (x2 : Int64) (x4 : Int64) (x7 : Int32) (x8 : Int32) (ls : Array Slot), ((x7.toInt - x8.toInt).toNat) < fuel → lv_has ls 15 [(1, .int w), (2, .long x2), (4, .long x4), (6, .ref q0), (7, .int x7), (8, .int x8)] → (x7 = 8) → (0 ≤ x8) → mf_Tw_sum f w = mf_Tw_sum_b29 f w fuel x2 x4 x7 x8 → W p l e (headSpec w_Tw_sum ({ frames := 6, cells := 0, slots := 0, locals := 162 } : Room)).room s m ([.ref h0, .int w] : List Value).toArray below meth c s.heap [] 0 0 (MQ below (vp_Sl (fun r => r = mf_Tw_sum f w)) ([.ref h0, .int w] : List Value).toArray s 0 0 (fun _ => False)) (F0 m 29 ls []) := by
    intro fuel
    induction fuel with
    | zero => intro x2 x4 x7 x8 ls hf; exact absurd hf (Nat.not_lt_zero _)
    | succ fuel ih =>
      intro x2 x4 x7 x8 ls hf hl h7 hz hE
      refine lv_iload hx hb d_Tw_sum_29 (lv_at hl 5 rfl) ?_
      refine lv_iload hx hb d_Tw_sum_31 (lv_at hl 4 rfl) ?_
      refine lv_icmp_ge (tgt := 117) hx hb d_Tw_sum_33 (by decide) (fun h2 => ?_) (fun h2 => ?_)
      · refine lv_iload_n hx hb d_Tw_sum_117 rfl (lv_at hl 0 rfl) ?_
        refine lv_iconst (v := 1) hx hb d_Tw_sum_118 (by decide) ?_
        refine lv_icmp_ne (tgt := 129) hx hb d_Tw_sum_119 (by decide) (fun h3 => ?_) (fun h3 => ?_)
        · refine lv_lload_n hx hb d_Tw_sum_129 rfl (lv_at hl 1 rfl) ?_
          refine nb_callSl (As := [.long x2]) (rest := []) hx hb hml hown hts (c_Tw_told l ad x2) nb_t376 nb_t377 nb_t2 nb_t378 hd_Tw_told rfl ⟨Nat.le_of_ble_eq_true rfl, Nat.le_of_ble_eq_true rfl⟩ ⟨rfl, rfl⟩ hC hS hl.1 rfl (Nat.le_of_ble_eq_true rfl) ⟨Nat.le_of_ble_eq_true rfl, Nat.le_of_ble_eq_true rfl⟩ d_Tw_sum_130 ?_
          exact W.lret hx hb hr (fun t ht hW => ⟨_, rfl, (by rw [hE, mf_Tw_sum_b29, if_pos h2, if_neg h3]), ht⟩) t_nil d_Tw_sum_133
        · refine lv_lload_n hx hb d_Tw_sum_122 rfl (lv_at hl 1 rfl) ?_
          refine nb_callSl (As := [.long x2]) (rest := []) hx hb hml hown hts (c_Tw_toDouble l ad x2) nb_t370 nb_t371 nb_t2 nb_t372 hd_Tw_toDouble rfl ⟨Nat.le_of_ble_eq_true rfl, Nat.le_of_ble_eq_true rfl⟩ ⟨rfl, rfl⟩ hC hS hl.1 rfl (Nat.le_of_ble_eq_true rfl) ⟨Nat.le_of_ble_eq_true rfl, Nat.le_of_ble_eq_true rfl⟩ d_Tw_sum_123 ?_
          refine lv_goto (tgt := 130) hx hb d_Tw_sum_126 (by decide) ?_
          refine nb_callSl (As := [.long (mf_Tw_toDouble x2)]) (rest := []) hx hb hml hown hts (c_Tw_told l ad (mf_Tw_toDouble x2)) nb_t376 nb_t377 nb_t2 nb_t378 hd_Tw_told rfl ⟨Nat.le_of_ble_eq_true rfl, Nat.le_of_ble_eq_true rfl⟩ ⟨rfl, rfl⟩ hC hS hl.1 rfl (Nat.le_of_ble_eq_true rfl) ⟨Nat.le_of_ble_eq_true rfl, Nat.le_of_ble_eq_true rfl⟩ d_Tw_sum_130 ?_
          exact W.lret hx hb hr (fun t ht hW => ⟨_, rfl, (by rw [hE, mf_Tw_sum_b29, if_pos h2, if_pos h3]), ht⟩) t_nil d_Tw_sum_133
      · refine lv_aload hx hb d_Tw_sum_36 (lv_at hl 3 rfl) ?_
        refine lv_iload hx hb d_Tw_sum_38 (lv_at hl 5 rfl) ?_
        refine va_lald hx hb hK hP 1 0 rfl rfl (nb_in0e h7 hz h2) d_Tw_sum_40 ?_
        refine lv_lstore hx hb d_Tw_sum_41 hl (by decide) rfl (fun ls hl => ?_)
        have hl : lv_has ls 15 [(9, .long (f x8.toNatClampNeg)), (1, .int w), (2, .long x2), (4, .long x4), (6, .ref q0), (7, .int x7), (8, .int x8)] := hl
        refine lv_iload_n hx hb d_Tw_sum_43 rfl (lv_at hl 1 rfl) ?_
        refine lv_if_ne (tgt := 54) hx hb d_Tw_sum_44 (by decide) (fun h4 => ?_) (fun h4 => ?_)
        · refine lv_iload_n hx hb d_Tw_sum_54 rfl (lv_at hl 1 rfl) ?_
          refine lv_iconst (v := 1) hx hb d_Tw_sum_55 (by decide) ?_
          refine lv_icmp_ne (tgt := 70) hx hb d_Tw_sum_56 (by decide) (fun h5 => ?_) (fun h5 => ?_)
          · refine lv_iload_n hx hb d_Tw_sum_70 rfl (lv_at hl 1 rfl) ?_
            refine lv_iconst (v := 2) hx hb d_Tw_sum_71 (by decide) ?_
            refine lv_icmp_ge (tgt := 78) hx hb d_Tw_sum_72 (by decide) (fun h6 => ?_) (fun h6 => ?_)
            · refine lv_lload hx hb d_Tw_sum_78 (lv_at hl 0 rfl) ?_
              refine lv_lload hx hb d_Tw_sum_80 (lv_at hl 3 rfl) ?_
              refine nb_callSl (As := [.long (f x8.toNatClampNeg), .long x4]) (rest := []) hx hb hml hown hts (c_Tw_subtract2 l ad (f x8.toNatClampNeg) x4) nb_t422 nb_t423 nb_t2 nb_t424 hd_Tw_subtract2 rfl ⟨Nat.le_of_ble_eq_true rfl, Nat.le_of_ble_eq_true rfl⟩ ⟨rfl, rfl⟩ hC hS hl.1 rfl (Nat.le_of_ble_eq_true rfl) ⟨Nat.le_of_ble_eq_true rfl, Nat.le_of_ble_eq_true rfl⟩ d_Tw_sum_82 ?_
              refine lv_lstore hx hb d_Tw_sum_85 hl (by decide) rfl (fun ls hl => ?_)
              have hl : lv_has ls 15 [(11, .long (mf_Tw_subtract2 (f x8.toNatClampNeg) x4)), (9, .long (f x8.toNatClampNeg)), (1, .int w), (2, .long x2), (4, .long x4), (6, .ref q0), (7, .int x7), (8, .int x8)] := hl
              refine lv_lload_n hx hb d_Tw_sum_87 rfl (lv_at hl 3 rfl) ?_
              refine lv_lload hx hb d_Tw_sum_88 (lv_at hl 0 rfl) ?_
              refine nb_callSl (As := [.long x2, .long (mf_Tw_subtract2 (f x8.toNatClampNeg) x4)]) (rest := []) hx hb hml hown hts (c_Tw_add2 l ad x2 (mf_Tw_subtract2 (f x8.toNatClampNeg) x4)) nb_t366 nb_t367 nb_t2 nb_t368 hd_Tw_add2 rfl ⟨Nat.le_of_ble_eq_true rfl, Nat.le_of_ble_eq_true rfl⟩ ⟨rfl, rfl⟩ hC hS hl.1 rfl (Nat.le_of_ble_eq_true rfl) ⟨Nat.le_of_ble_eq_true rfl, Nat.le_of_ble_eq_true rfl⟩ d_Tw_sum_90 ?_
              refine lv_topl (fun v7 ev7 => ?_)
              refine lv_lstore hx hb d_Tw_sum_93 hl (by decide) rfl (fun ls hl => ?_)
              have hl : lv_has ls 15 [(13, .long v7), (11, .long (mf_Tw_subtract2 (f x8.toNatClampNeg) x4)), (9, .long (f x8.toNatClampNeg)), (1, .int w), (2, .long x2), (4, .long x4), (6, .ref q0), (7, .int x7), (8, .int x8)] := hl
              refine lv_lload hx hb d_Tw_sum_95 (lv_at hl 0 rfl) ?_
              refine lv_lload_n hx hb d_Tw_sum_97 rfl (lv_at hl 4 rfl) ?_
              refine nb_callSl (As := [.long v7, .long x2]) (rest := []) hx hb hml hown hts (c_Tw_subtract2 l ad v7 x2) nb_t422 nb_t423 nb_t2 nb_t424 hd_Tw_subtract2 rfl ⟨Nat.le_of_ble_eq_true rfl, Nat.le_of_ble_eq_true rfl⟩ ⟨rfl, rfl⟩ hC hS hl.1 rfl (Nat.le_of_ble_eq_true rfl) ⟨Nat.le_of_ble_eq_true rfl, Nat.le_of_ble_eq_true rfl⟩ d_Tw_sum_98 ?_
              refine lv_lload hx hb d_Tw_sum_101 (lv_at hl 1 rfl) ?_
              refine nb_callSl (As := [.long (mf_Tw_subtract2 v7 x2), .long (mf_Tw_subtract2 (f x8.toNatClampNeg) x4)]) (rest := []) hx hb hml hown hts (c_Tw_subtract2 l ad (mf_Tw_subtract2 v7 x2) (mf_Tw_subtract2 (f x8.toNatClampNeg) x4)) nb_t422 nb_t423 nb_t2 nb_t424 hd_Tw_subtract2 rfl ⟨Nat.le_of_ble_eq_true rfl, Nat.le_of_ble_eq_true rfl⟩ ⟨rfl, rfl⟩ hC hS hl.1 rfl (Nat.le_of_ble_eq_true rfl) ⟨Nat.le_of_ble_eq_true rfl, Nat.le_of_ble_eq_true rfl⟩ d_Tw_sum_103 ?_
              refine lv_topl (fun v8 ev8 => ?_)
              refine lv_lstore hx hb d_Tw_sum_106 hl (by decide) rfl (fun ls hl => ?_)
              have hl : lv_has ls 15 [(4, .long v8), (13, .long v7), (11, .long (mf_Tw_subtract2 (f x8.toNatClampNeg) x4)), (9, .long (f x8.toNatClampNeg)), (1, .int w), (2, .long x2), (6, .ref q0), (7, .int x7), (8, .int x8)] := hl
              refine lv_lload hx hb d_Tw_sum_108 (lv_at hl 1 rfl) ?_
              refine lv_lstore_n hx hb d_Tw_sum_110 rfl hl (by decide) rfl (fun ls hl => ?_)
              have hl : lv_has ls 15 [(2, .long v7), (4, .long v8), (13, .long v7), (11, .long (mf_Tw_subtract2 (f x8.toNatClampNeg) x4)), (9, .long (f x8.toNatClampNeg)), (1, .int w), (6, .ref q0), (7, .int x7), (8, .int x8)] := hl
              refine lv_iinc (k := 8) (v := x8 + (1 : Int32)) hx hb d_Tw_sum_111 hl rfl rfl (by decide) rfl (fun ls hl => ?_)
              have hl : lv_has ls 15 [(8, .int (x8 + (1 : Int32))), (2, .long v7), (4, .long v8), (13, .long v7), (11, .long (mf_Tw_subtract2 (f x8.toNatClampNeg) x4)), (9, .long (f x8.toNatClampNeg)), (1, .int w), (6, .ref q0), (7, .int x7)] := hl
              refine lv_goto (tgt := 29) hx hb d_Tw_sum_114 (by decide) ?_
              exact ih v7 v8 x7 (x8 + (1 : Int32)) ls (Nat.lt_of_lt_of_le (lp_up h2) (Nat.le_of_lt_succ hf)) (lv_sub hl [6, 1, 2, 7, 8, 0] rfl) h7 (lp_upge hz h2) (by subst ev8; subst ev7; rw [hE, mf_Tw_sum_b29, if_neg h2, if_neg h4, if_neg h5, if_pos h6])
            · refine lv_goto (tgt := 111) hx hb d_Tw_sum_75 (by decide) ?_
              refine lv_iinc (k := 6) (v := x8 + (1 : Int32)) hx hb d_Tw_sum_111 hl rfl rfl (by decide) rfl (fun ls hl => ?_)
              have hl : lv_has ls 15 [(8, .int (x8 + (1 : Int32))), (9, .long (f x8.toNatClampNeg)), (1, .int w), (2, .long x2), (4, .long x4), (6, .ref q0), (7, .int x7)] := hl
              refine lv_goto (tgt := 29) hx hb d_Tw_sum_114 (by decide) ?_
              exact ih x2 x4 x7 (x8 + (1 : Int32)) ls (Nat.lt_of_lt_of_le (lp_up h2) (Nat.le_of_lt_succ hf)) (lv_sub hl [2, 3, 4, 5, 6, 0] rfl) h7 (lp_upge hz h2) (by rw [hE, mf_Tw_sum_b29, if_neg h2, if_neg h4, if_neg h5, if_neg h6])
          · refine lv_lload_n hx hb d_Tw_sum_59 rfl (lv_at hl 2 rfl) ?_
            refine lv_lload hx hb d_Tw_sum_60 (lv_at hl 0 rfl) ?_
            refine nb_callSl (As := [.long (f x8.toNatClampNeg)]) (rest := [.long x2]) hx hb hml hown hts (c_Tw_toFloat l ad (f x8.toNatClampNeg)) nb_t271 nb_t272 nb_t2 nb_t273 hd_Tw_toFloat rfl ⟨Nat.le_of_ble_eq_true rfl, Nat.le_of_ble_eq_true rfl⟩ ⟨rfl, rfl⟩ hC hS hl.1 rfl (Nat.le_of_ble_eq_true rfl) ⟨Nat.le_of_ble_eq_true rfl, Nat.le_of_ble_eq_true rfl⟩ d_Tw_sum_62 ?_
            refine lv_iconst (v := 1) hx hb d_Tw_sum_65 (by decide) ?_
            refine nb_callSl (As := [.long x2, .long (mf_Tw_toFloat (f x8.toNatClampNeg)), .int (nI 1)]) (rest := []) hx hb hml hown hts (c_Tw_add l ad x2 (mf_Tw_toFloat (f x8.toNatClampNeg)) 1 (by decide)) nb_t326 nb_t327 nb_t2 nb_t328 hd_Tw_add rfl ⟨Nat.le_of_ble_eq_true rfl, Nat.le_of_ble_eq_true rfl⟩ ⟨rfl, rfl⟩ hC hS hl.1 rfl (Nat.le_of_ble_eq_true rfl) ⟨Nat.le_of_ble_eq_true rfl, Nat.le_of_ble_eq_true rfl⟩ d_Tw_sum_66 ?_
            refine lv_topl (fun v9 ev9 => ?_)
            refine lv_lstore_n hx hb d_Tw_sum_69 rfl hl (by decide) rfl (fun ls hl => ?_)
            have hl : lv_has ls 15 [(2, .long v9), (9, .long (f x8.toNatClampNeg)), (1, .int w), (4, .long x4), (6, .ref q0), (7, .int x7), (8, .int x8)] := hl
            refine lv_iload_n hx hb d_Tw_sum_70 rfl (lv_at hl 2 rfl) ?_
            refine lv_iconst (v := 2) hx hb d_Tw_sum_71 (by decide) ?_
            refine lv_icmp_ge (tgt := 78) hx hb d_Tw_sum_72 (by decide) (fun h10 => ?_) (fun h10 => ?_)
            · refine lv_lload hx hb d_Tw_sum_78 (lv_at hl 1 rfl) ?_
              refine lv_lload hx hb d_Tw_sum_80 (lv_at hl 3 rfl) ?_
              refine nb_callSl (As := [.long (f x8.toNatClampNeg), .long x4]) (rest := []) hx hb hml hown hts (c_Tw_subtract2 l ad (f x8.toNatClampNeg) x4) nb_t422 nb_t423 nb_t2 nb_t424 hd_Tw_subtract2 rfl ⟨Nat.le_of_ble_eq_true rfl, Nat.le_of_ble_eq_true rfl⟩ ⟨rfl, rfl⟩ hC hS hl.1 rfl (Nat.le_of_ble_eq_true rfl) ⟨Nat.le_of_ble_eq_true rfl, Nat.le_of_ble_eq_true rfl⟩ d_Tw_sum_82 ?_
              refine lv_lstore hx hb d_Tw_sum_85 hl (by decide) rfl (fun ls hl => ?_)
              have hl : lv_has ls 15 [(11, .long (mf_Tw_subtract2 (f x8.toNatClampNeg) x4)), (2, .long v9), (9, .long (f x8.toNatClampNeg)), (1, .int w), (4, .long x4), (6, .ref q0), (7, .int x7), (8, .int x8)] := hl
              refine lv_lload_n hx hb d_Tw_sum_87 rfl (lv_at hl 1 rfl) ?_
              refine lv_lload hx hb d_Tw_sum_88 (lv_at hl 0 rfl) ?_
              refine nb_callSl (As := [.long v9, .long (mf_Tw_subtract2 (f x8.toNatClampNeg) x4)]) (rest := []) hx hb hml hown hts (c_Tw_add2 l ad v9 (mf_Tw_subtract2 (f x8.toNatClampNeg) x4)) nb_t366 nb_t367 nb_t2 nb_t368 hd_Tw_add2 rfl ⟨Nat.le_of_ble_eq_true rfl, Nat.le_of_ble_eq_true rfl⟩ ⟨rfl, rfl⟩ hC hS hl.1 rfl (Nat.le_of_ble_eq_true rfl) ⟨Nat.le_of_ble_eq_true rfl, Nat.le_of_ble_eq_true rfl⟩ d_Tw_sum_90 ?_
              refine lv_topl (fun v11 ev11 => ?_)
              refine lv_lstore hx hb d_Tw_sum_93 hl (by decide) rfl (fun ls hl => ?_)
              have hl : lv_has ls 15 [(13, .long v11), (11, .long (mf_Tw_subtract2 (f x8.toNatClampNeg) x4)), (2, .long v9), (9, .long (f x8.toNatClampNeg)), (1, .int w), (4, .long x4), (6, .ref q0), (7, .int x7), (8, .int x8)] := hl
              refine lv_lload hx hb d_Tw_sum_95 (lv_at hl 0 rfl) ?_
              refine lv_lload_n hx hb d_Tw_sum_97 rfl (lv_at hl 2 rfl) ?_
              refine nb_callSl (As := [.long v11, .long v9]) (rest := []) hx hb hml hown hts (c_Tw_subtract2 l ad v11 v9) nb_t422 nb_t423 nb_t2 nb_t424 hd_Tw_subtract2 rfl ⟨Nat.le_of_ble_eq_true rfl, Nat.le_of_ble_eq_true rfl⟩ ⟨rfl, rfl⟩ hC hS hl.1 rfl (Nat.le_of_ble_eq_true rfl) ⟨Nat.le_of_ble_eq_true rfl, Nat.le_of_ble_eq_true rfl⟩ d_Tw_sum_98 ?_
              refine lv_lload hx hb d_Tw_sum_101 (lv_at hl 1 rfl) ?_
              refine nb_callSl (As := [.long (mf_Tw_subtract2 v11 v9), .long (mf_Tw_subtract2 (f x8.toNatClampNeg) x4)]) (rest := []) hx hb hml hown hts (c_Tw_subtract2 l ad (mf_Tw_subtract2 v11 v9) (mf_Tw_subtract2 (f x8.toNatClampNeg) x4)) nb_t422 nb_t423 nb_t2 nb_t424 hd_Tw_subtract2 rfl ⟨Nat.le_of_ble_eq_true rfl, Nat.le_of_ble_eq_true rfl⟩ ⟨rfl, rfl⟩ hC hS hl.1 rfl (Nat.le_of_ble_eq_true rfl) ⟨Nat.le_of_ble_eq_true rfl, Nat.le_of_ble_eq_true rfl⟩ d_Tw_sum_103 ?_
              refine lv_topl (fun v12 ev12 => ?_)
              refine lv_lstore hx hb d_Tw_sum_106 hl (by decide) rfl (fun ls hl => ?_)
              have hl : lv_has ls 15 [(4, .long v12), (13, .long v11), (11, .long (mf_Tw_subtract2 (f x8.toNatClampNeg) x4)), (2, .long v9), (9, .long (f x8.toNatClampNeg)), (1, .int w), (6, .ref q0), (7, .int x7), (8, .int x8)] := hl
              refine lv_lload hx hb d_Tw_sum_108 (lv_at hl 1 rfl) ?_
              refine lv_lstore_n hx hb d_Tw_sum_110 rfl hl (by decide) rfl (fun ls hl => ?_)
              have hl : lv_has ls 15 [(2, .long v11), (4, .long v12), (13, .long v11), (11, .long (mf_Tw_subtract2 (f x8.toNatClampNeg) x4)), (9, .long (f x8.toNatClampNeg)), (1, .int w), (6, .ref q0), (7, .int x7), (8, .int x8)] := hl
              refine lv_iinc (k := 8) (v := x8 + (1 : Int32)) hx hb d_Tw_sum_111 hl rfl rfl (by decide) rfl (fun ls hl => ?_)
              have hl : lv_has ls 15 [(8, .int (x8 + (1 : Int32))), (2, .long v11), (4, .long v12), (13, .long v11), (11, .long (mf_Tw_subtract2 (f x8.toNatClampNeg) x4)), (9, .long (f x8.toNatClampNeg)), (1, .int w), (6, .ref q0), (7, .int x7)] := hl
              refine lv_goto (tgt := 29) hx hb d_Tw_sum_114 (by decide) ?_
              exact ih v11 v12 x7 (x8 + (1 : Int32)) ls (Nat.lt_of_lt_of_le (lp_up h2) (Nat.le_of_lt_succ hf)) (lv_sub hl [6, 1, 2, 7, 8, 0] rfl) h7 (lp_upge hz h2) (by subst ev12; subst ev11; subst ev9; rw [hE, mf_Tw_sum_b29, if_neg h2, if_neg h4, if_pos h5, if_pos h10])
            · refine lv_goto (tgt := 111) hx hb d_Tw_sum_75 (by decide) ?_
              refine lv_iinc (k := 6) (v := x8 + (1 : Int32)) hx hb d_Tw_sum_111 hl rfl rfl (by decide) rfl (fun ls hl => ?_)
              have hl : lv_has ls 15 [(8, .int (x8 + (1 : Int32))), (2, .long v9), (9, .long (f x8.toNatClampNeg)), (1, .int w), (4, .long x4), (6, .ref q0), (7, .int x7)] := hl
              refine lv_goto (tgt := 29) hx hb d_Tw_sum_114 (by decide) ?_
              exact ih v9 x4 x7 (x8 + (1 : Int32)) ls (Nat.lt_of_lt_of_le (lp_up h2) (Nat.le_of_lt_succ hf)) (lv_sub hl [3, 1, 4, 5, 6, 0] rfl) h7 (lp_upge hz h2) (by subst ev9; rw [hE, mf_Tw_sum_b29, if_neg h2, if_neg h4, if_pos h5, if_neg h10])
        · refine lv_lload_n hx hb d_Tw_sum_47 rfl (lv_at hl 2 rfl) ?_
          refine lv_lload hx hb d_Tw_sum_48 (lv_at hl 0 rfl) ?_
          refine nb_callSl (As := [.long x2, .long (f x8.toNatClampNeg)]) (rest := []) hx hb hml hown hts (c_Tw_add2 l ad x2 (f x8.toNatClampNeg)) nb_t366 nb_t367 nb_t2 nb_t368 hd_Tw_add2 rfl ⟨Nat.le_of_ble_eq_true rfl, Nat.le_of_ble_eq_true rfl⟩ ⟨rfl, rfl⟩ hC hS hl.1 rfl (Nat.le_of_ble_eq_true rfl) ⟨Nat.le_of_ble_eq_true rfl, Nat.le_of_ble_eq_true rfl⟩ d_Tw_sum_50 ?_
          refine lv_lstore_n hx hb d_Tw_sum_53 rfl hl (by decide) rfl (fun ls hl => ?_)
          have hl : lv_has ls 15 [(2, .long (mf_Tw_add2 x2 (f x8.toNatClampNeg))), (9, .long (f x8.toNatClampNeg)), (1, .int w), (4, .long x4), (6, .ref q0), (7, .int x7), (8, .int x8)] := hl
          refine lv_iload_n hx hb d_Tw_sum_54 rfl (lv_at hl 2 rfl) ?_
          refine lv_iconst (v := 1) hx hb d_Tw_sum_55 (by decide) ?_
          refine lv_icmp_ne (tgt := 70) hx hb d_Tw_sum_56 (by decide) (fun h13 => ?_) (fun h13 => ?_)
          · refine lv_iload_n hx hb d_Tw_sum_70 rfl (lv_at hl 2 rfl) ?_
            refine lv_iconst (v := 2) hx hb d_Tw_sum_71 (by decide) ?_
            refine lv_icmp_ge (tgt := 78) hx hb d_Tw_sum_72 (by decide) (fun h14 => ?_) (fun h14 => ?_)
            · refine lv_lload hx hb d_Tw_sum_78 (lv_at hl 1 rfl) ?_
              refine lv_lload hx hb d_Tw_sum_80 (lv_at hl 3 rfl) ?_
              refine nb_callSl (As := [.long (f x8.toNatClampNeg), .long x4]) (rest := []) hx hb hml hown hts (c_Tw_subtract2 l ad (f x8.toNatClampNeg) x4) nb_t422 nb_t423 nb_t2 nb_t424 hd_Tw_subtract2 rfl ⟨Nat.le_of_ble_eq_true rfl, Nat.le_of_ble_eq_true rfl⟩ ⟨rfl, rfl⟩ hC hS hl.1 rfl (Nat.le_of_ble_eq_true rfl) ⟨Nat.le_of_ble_eq_true rfl, Nat.le_of_ble_eq_true rfl⟩ d_Tw_sum_82 ?_
              refine lv_lstore hx hb d_Tw_sum_85 hl (by decide) rfl (fun ls hl => ?_)
              have hl : lv_has ls 15 [(11, .long (mf_Tw_subtract2 (f x8.toNatClampNeg) x4)), (2, .long (mf_Tw_add2 x2 (f x8.toNatClampNeg))), (9, .long (f x8.toNatClampNeg)), (1, .int w), (4, .long x4), (6, .ref q0), (7, .int x7), (8, .int x8)] := hl
              refine lv_lload_n hx hb d_Tw_sum_87 rfl (lv_at hl 1 rfl) ?_
              refine lv_lload hx hb d_Tw_sum_88 (lv_at hl 0 rfl) ?_
              refine nb_callSl (As := [.long (mf_Tw_add2 x2 (f x8.toNatClampNeg)), .long (mf_Tw_subtract2 (f x8.toNatClampNeg) x4)]) (rest := []) hx hb hml hown hts (c_Tw_add2 l ad (mf_Tw_add2 x2 (f x8.toNatClampNeg)) (mf_Tw_subtract2 (f x8.toNatClampNeg) x4)) nb_t366 nb_t367 nb_t2 nb_t368 hd_Tw_add2 rfl ⟨Nat.le_of_ble_eq_true rfl, Nat.le_of_ble_eq_true rfl⟩ ⟨rfl, rfl⟩ hC hS hl.1 rfl (Nat.le_of_ble_eq_true rfl) ⟨Nat.le_of_ble_eq_true rfl, Nat.le_of_ble_eq_true rfl⟩ d_Tw_sum_90 ?_
              refine lv_topl (fun v15 ev15 => ?_)
              refine lv_lstore hx hb d_Tw_sum_93 hl (by decide) rfl (fun ls hl => ?_)
              have hl : lv_has ls 15 [(13, .long v15), (11, .long (mf_Tw_subtract2 (f x8.toNatClampNeg) x4)), (2, .long (mf_Tw_add2 x2 (f x8.toNatClampNeg))), (9, .long (f x8.toNatClampNeg)), (1, .int w), (4, .long x4), (6, .ref q0), (7, .int x7), (8, .int x8)] := hl
              refine lv_lload hx hb d_Tw_sum_95 (lv_at hl 0 rfl) ?_
              refine lv_lload_n hx hb d_Tw_sum_97 rfl (lv_at hl 2 rfl) ?_
              refine nb_callSl (As := [.long v15, .long (mf_Tw_add2 x2 (f x8.toNatClampNeg))]) (rest := []) hx hb hml hown hts (c_Tw_subtract2 l ad v15 (mf_Tw_add2 x2 (f x8.toNatClampNeg))) nb_t422 nb_t423 nb_t2 nb_t424 hd_Tw_subtract2 rfl ⟨Nat.le_of_ble_eq_true rfl, Nat.le_of_ble_eq_true rfl⟩ ⟨rfl, rfl⟩ hC hS hl.1 rfl (Nat.le_of_ble_eq_true rfl) ⟨Nat.le_of_ble_eq_true rfl, Nat.le_of_ble_eq_true rfl⟩ d_Tw_sum_98 ?_
              refine lv_lload hx hb d_Tw_sum_101 (lv_at hl 1 rfl) ?_
              refine nb_callSl (As := [.long (mf_Tw_subtract2 v15 (mf_Tw_add2 x2 (f x8.toNatClampNeg))), .long (mf_Tw_subtract2 (f x8.toNatClampNeg) x4)]) (rest := []) hx hb hml hown hts (c_Tw_subtract2 l ad (mf_Tw_subtract2 v15 (mf_Tw_add2 x2 (f x8.toNatClampNeg))) (mf_Tw_subtract2 (f x8.toNatClampNeg) x4)) nb_t422 nb_t423 nb_t2 nb_t424 hd_Tw_subtract2 rfl ⟨Nat.le_of_ble_eq_true rfl, Nat.le_of_ble_eq_true rfl⟩ ⟨rfl, rfl⟩ hC hS hl.1 rfl (Nat.le_of_ble_eq_true rfl) ⟨Nat.le_of_ble_eq_true rfl, Nat.le_of_ble_eq_true rfl⟩ d_Tw_sum_103 ?_
              refine lv_topl (fun v16 ev16 => ?_)
              refine lv_lstore hx hb d_Tw_sum_106 hl (by decide) rfl (fun ls hl => ?_)
              have hl : lv_has ls 15 [(4, .long v16), (13, .long v15), (11, .long (mf_Tw_subtract2 (f x8.toNatClampNeg) x4)), (2, .long (mf_Tw_add2 x2 (f x8.toNatClampNeg))), (9, .long (f x8.toNatClampNeg)), (1, .int w), (6, .ref q0), (7, .int x7), (8, .int x8)] := hl
              refine lv_lload hx hb d_Tw_sum_108 (lv_at hl 1 rfl) ?_
              refine lv_lstore_n hx hb d_Tw_sum_110 rfl hl (by decide) rfl (fun ls hl => ?_)
              have hl : lv_has ls 15 [(2, .long v15), (4, .long v16), (13, .long v15), (11, .long (mf_Tw_subtract2 (f x8.toNatClampNeg) x4)), (9, .long (f x8.toNatClampNeg)), (1, .int w), (6, .ref q0), (7, .int x7), (8, .int x8)] := hl
              refine lv_iinc (k := 8) (v := x8 + (1 : Int32)) hx hb d_Tw_sum_111 hl rfl rfl (by decide) rfl (fun ls hl => ?_)
              have hl : lv_has ls 15 [(8, .int (x8 + (1 : Int32))), (2, .long v15), (4, .long v16), (13, .long v15), (11, .long (mf_Tw_subtract2 (f x8.toNatClampNeg) x4)), (9, .long (f x8.toNatClampNeg)), (1, .int w), (6, .ref q0), (7, .int x7)] := hl
              refine lv_goto (tgt := 29) hx hb d_Tw_sum_114 (by decide) ?_
              exact ih v15 v16 x7 (x8 + (1 : Int32)) ls (Nat.lt_of_lt_of_le (lp_up h2) (Nat.le_of_lt_succ hf)) (lv_sub hl [6, 1, 2, 7, 8, 0] rfl) h7 (lp_upge hz h2) (by subst ev16; subst ev15; rw [hE, mf_Tw_sum_b29, if_neg h2, if_pos h4, if_neg h13, if_pos h14])
            · refine lv_goto (tgt := 111) hx hb d_Tw_sum_75 (by decide) ?_
              refine lv_iinc (k := 6) (v := x8 + (1 : Int32)) hx hb d_Tw_sum_111 hl rfl rfl (by decide) rfl (fun ls hl => ?_)
              have hl : lv_has ls 15 [(8, .int (x8 + (1 : Int32))), (2, .long (mf_Tw_add2 x2 (f x8.toNatClampNeg))), (9, .long (f x8.toNatClampNeg)), (1, .int w), (4, .long x4), (6, .ref q0), (7, .int x7)] := hl
              refine lv_goto (tgt := 29) hx hb d_Tw_sum_114 (by decide) ?_
              exact ih (mf_Tw_add2 x2 (f x8.toNatClampNeg)) x4 x7 (x8 + (1 : Int32)) ls (Nat.lt_of_lt_of_le (lp_up h2) (Nat.le_of_lt_succ hf)) (lv_sub hl [3, 1, 4, 5, 6, 0] rfl) h7 (lp_upge hz h2) (by rw [hE, mf_Tw_sum_b29, if_neg h2, if_pos h4, if_neg h13, if_neg h14])
          · refine lv_lload_n hx hb d_Tw_sum_59 rfl (lv_at hl 0 rfl) ?_
            refine lv_lload hx hb d_Tw_sum_60 (lv_at hl 1 rfl) ?_
            refine nb_callSl (As := [.long (f x8.toNatClampNeg)]) (rest := [.long (mf_Tw_add2 x2 (f x8.toNatClampNeg))]) hx hb hml hown hts (c_Tw_toFloat l ad (f x8.toNatClampNeg)) nb_t271 nb_t272 nb_t2 nb_t273 hd_Tw_toFloat rfl ⟨Nat.le_of_ble_eq_true rfl, Nat.le_of_ble_eq_true rfl⟩ ⟨rfl, rfl⟩ hC hS hl.1 rfl (Nat.le_of_ble_eq_true rfl) ⟨Nat.le_of_ble_eq_true rfl, Nat.le_of_ble_eq_true rfl⟩ d_Tw_sum_62 ?_
            refine lv_iconst (v := 1) hx hb d_Tw_sum_65 (by decide) ?_
            refine nb_callSl (As := [.long (mf_Tw_add2 x2 (f x8.toNatClampNeg)), .long (mf_Tw_toFloat (f x8.toNatClampNeg)), .int (nI 1)]) (rest := []) hx hb hml hown hts (c_Tw_add l ad (mf_Tw_add2 x2 (f x8.toNatClampNeg)) (mf_Tw_toFloat (f x8.toNatClampNeg)) 1 (by decide)) nb_t326 nb_t327 nb_t2 nb_t328 hd_Tw_add rfl ⟨Nat.le_of_ble_eq_true rfl, Nat.le_of_ble_eq_true rfl⟩ ⟨rfl, rfl⟩ hC hS hl.1 rfl (Nat.le_of_ble_eq_true rfl) ⟨Nat.le_of_ble_eq_true rfl, Nat.le_of_ble_eq_true rfl⟩ d_Tw_sum_66 ?_
            refine lv_topl (fun v17 ev17 => ?_)
            refine lv_lstore_n hx hb d_Tw_sum_69 rfl hl (by decide) rfl (fun ls hl => ?_)
            have hl : lv_has ls 15 [(2, .long v17), (9, .long (f x8.toNatClampNeg)), (1, .int w), (4, .long x4), (6, .ref q0), (7, .int x7), (8, .int x8)] := hl
            refine lv_iload_n hx hb d_Tw_sum_70 rfl (lv_at hl 2 rfl) ?_
            refine lv_iconst (v := 2) hx hb d_Tw_sum_71 (by decide) ?_
            refine lv_icmp_ge (tgt := 78) hx hb d_Tw_sum_72 (by decide) (fun h18 => ?_) (fun h18 => ?_)
            · refine lv_lload hx hb d_Tw_sum_78 (lv_at hl 1 rfl) ?_
              refine lv_lload hx hb d_Tw_sum_80 (lv_at hl 3 rfl) ?_
              refine nb_callSl (As := [.long (f x8.toNatClampNeg), .long x4]) (rest := []) hx hb hml hown hts (c_Tw_subtract2 l ad (f x8.toNatClampNeg) x4) nb_t422 nb_t423 nb_t2 nb_t424 hd_Tw_subtract2 rfl ⟨Nat.le_of_ble_eq_true rfl, Nat.le_of_ble_eq_true rfl⟩ ⟨rfl, rfl⟩ hC hS hl.1 rfl (Nat.le_of_ble_eq_true rfl) ⟨Nat.le_of_ble_eq_true rfl, Nat.le_of_ble_eq_true rfl⟩ d_Tw_sum_82 ?_
              refine lv_lstore hx hb d_Tw_sum_85 hl (by decide) rfl (fun ls hl => ?_)
              have hl : lv_has ls 15 [(11, .long (mf_Tw_subtract2 (f x8.toNatClampNeg) x4)), (2, .long v17), (9, .long (f x8.toNatClampNeg)), (1, .int w), (4, .long x4), (6, .ref q0), (7, .int x7), (8, .int x8)] := hl
              refine lv_lload_n hx hb d_Tw_sum_87 rfl (lv_at hl 1 rfl) ?_
              refine lv_lload hx hb d_Tw_sum_88 (lv_at hl 0 rfl) ?_
              refine nb_callSl (As := [.long v17, .long (mf_Tw_subtract2 (f x8.toNatClampNeg) x4)]) (rest := []) hx hb hml hown hts (c_Tw_add2 l ad v17 (mf_Tw_subtract2 (f x8.toNatClampNeg) x4)) nb_t366 nb_t367 nb_t2 nb_t368 hd_Tw_add2 rfl ⟨Nat.le_of_ble_eq_true rfl, Nat.le_of_ble_eq_true rfl⟩ ⟨rfl, rfl⟩ hC hS hl.1 rfl (Nat.le_of_ble_eq_true rfl) ⟨Nat.le_of_ble_eq_true rfl, Nat.le_of_ble_eq_true rfl⟩ d_Tw_sum_90 ?_
              refine lv_topl (fun v19 ev19 => ?_)
              refine lv_lstore hx hb d_Tw_sum_93 hl (by decide) rfl (fun ls hl => ?_)
              have hl : lv_has ls 15 [(13, .long v19), (11, .long (mf_Tw_subtract2 (f x8.toNatClampNeg) x4)), (2, .long v17), (9, .long (f x8.toNatClampNeg)), (1, .int w), (4, .long x4), (6, .ref q0), (7, .int x7), (8, .int x8)] := hl
              refine lv_lload hx hb d_Tw_sum_95 (lv_at hl 0 rfl) ?_
              refine lv_lload_n hx hb d_Tw_sum_97 rfl (lv_at hl 2 rfl) ?_
              refine nb_callSl (As := [.long v19, .long v17]) (rest := []) hx hb hml hown hts (c_Tw_subtract2 l ad v19 v17) nb_t422 nb_t423 nb_t2 nb_t424 hd_Tw_subtract2 rfl ⟨Nat.le_of_ble_eq_true rfl, Nat.le_of_ble_eq_true rfl⟩ ⟨rfl, rfl⟩ hC hS hl.1 rfl (Nat.le_of_ble_eq_true rfl) ⟨Nat.le_of_ble_eq_true rfl, Nat.le_of_ble_eq_true rfl⟩ d_Tw_sum_98 ?_
              refine lv_lload hx hb d_Tw_sum_101 (lv_at hl 1 rfl) ?_
              refine nb_callSl (As := [.long (mf_Tw_subtract2 v19 v17), .long (mf_Tw_subtract2 (f x8.toNatClampNeg) x4)]) (rest := []) hx hb hml hown hts (c_Tw_subtract2 l ad (mf_Tw_subtract2 v19 v17) (mf_Tw_subtract2 (f x8.toNatClampNeg) x4)) nb_t422 nb_t423 nb_t2 nb_t424 hd_Tw_subtract2 rfl ⟨Nat.le_of_ble_eq_true rfl, Nat.le_of_ble_eq_true rfl⟩ ⟨rfl, rfl⟩ hC hS hl.1 rfl (Nat.le_of_ble_eq_true rfl) ⟨Nat.le_of_ble_eq_true rfl, Nat.le_of_ble_eq_true rfl⟩ d_Tw_sum_103 ?_
              refine lv_topl (fun v20 ev20 => ?_)
              refine lv_lstore hx hb d_Tw_sum_106 hl (by decide) rfl (fun ls hl => ?_)
              have hl : lv_has ls 15 [(4, .long v20), (13, .long v19), (11, .long (mf_Tw_subtract2 (f x8.toNatClampNeg) x4)), (2, .long v17), (9, .long (f x8.toNatClampNeg)), (1, .int w), (6, .ref q0), (7, .int x7), (8, .int x8)] := hl
              refine lv_lload hx hb d_Tw_sum_108 (lv_at hl 1 rfl) ?_
              refine lv_lstore_n hx hb d_Tw_sum_110 rfl hl (by decide) rfl (fun ls hl => ?_)
              have hl : lv_has ls 15 [(2, .long v19), (4, .long v20), (13, .long v19), (11, .long (mf_Tw_subtract2 (f x8.toNatClampNeg) x4)), (9, .long (f x8.toNatClampNeg)), (1, .int w), (6, .ref q0), (7, .int x7), (8, .int x8)] := hl
              refine lv_iinc (k := 8) (v := x8 + (1 : Int32)) hx hb d_Tw_sum_111 hl rfl rfl (by decide) rfl (fun ls hl => ?_)
              have hl : lv_has ls 15 [(8, .int (x8 + (1 : Int32))), (2, .long v19), (4, .long v20), (13, .long v19), (11, .long (mf_Tw_subtract2 (f x8.toNatClampNeg) x4)), (9, .long (f x8.toNatClampNeg)), (1, .int w), (6, .ref q0), (7, .int x7)] := hl
              refine lv_goto (tgt := 29) hx hb d_Tw_sum_114 (by decide) ?_
              exact ih v19 v20 x7 (x8 + (1 : Int32)) ls (Nat.lt_of_lt_of_le (lp_up h2) (Nat.le_of_lt_succ hf)) (lv_sub hl [6, 1, 2, 7, 8, 0] rfl) h7 (lp_upge hz h2) (by subst ev20; subst ev19; subst ev17; rw [hE, mf_Tw_sum_b29, if_neg h2, if_pos h4, if_pos h13, if_pos h18])
            · refine lv_goto (tgt := 111) hx hb d_Tw_sum_75 (by decide) ?_
              refine lv_iinc (k := 6) (v := x8 + (1 : Int32)) hx hb d_Tw_sum_111 hl rfl rfl (by decide) rfl (fun ls hl => ?_)
              have hl : lv_has ls 15 [(8, .int (x8 + (1 : Int32))), (2, .long v17), (9, .long (f x8.toNatClampNeg)), (1, .int w), (4, .long x4), (6, .ref q0), (7, .int x7)] := hl
              refine lv_goto (tgt := 29) hx hb d_Tw_sum_114 (by decide) ?_
              exact ih v17 x4 x7 (x8 + (1 : Int32)) ls (Nat.lt_of_lt_of_le (lp_up h2) (Nat.le_of_lt_succ hf)) (lv_sub hl [3, 1, 4, 5, 6, 0] rfl) h7 (lp_upge hz h2) (by subst ev17; rw [hE, mf_Tw_sum_b29, if_neg h2, if_pos h4, if_pos h13, if_neg h18])
  refine lv_iload_n hx hb d_Tw_sum_0 rfl (lv_at hl 1 rfl) ?_
  refine lv_iconst (v := 3) hx hb d_Tw_sum_1 (by decide) ?_
  refine nb_callSi (As := [.int w, .int (3 : Int32)]) (rest := []) hx hb hml hown hts (c_Tw_in l ad w (3 : Int32)) nb_t261 nb_t262 nb_t2 nb_t263 hd_Tw_in rfl ⟨Nat.le_of_ble_eq_true rfl, Nat.le_of_ble_eq_true rfl⟩ ⟨rfl, rfl⟩ hC hS hl.1 rfl (Nat.le_of_ble_eq_true rfl) ⟨Nat.le_of_ble_eq_true rfl, Nat.le_of_ble_eq_true rfl⟩ d_Tw_sum_2 ?_
  refine lv_if_ne (tgt := 10) hx hb d_Tw_sum_5 (by decide) (fun h1 => ?_) (fun h1 => ?_)
  · refine lv_lconst (v := 0) hx hb d_Tw_sum_10 (by decide) ?_
    refine lv_lstore_n hx hb d_Tw_sum_11 rfl hl (by decide) rfl (fun ls hl => ?_)
    have hl : lv_has ls 15 [(2, .long (0 : Int64)), (0, .ref h0), (1, .int w)] := hl
    refine lv_lconst (v := 0) hx hb d_Tw_sum_12 (by decide) ?_
    refine lv_lstore hx hb d_Tw_sum_13 hl (by decide) rfl (fun ls hl => ?_)
    have hl : lv_has ls 15 [(4, .long (0 : Int64)), (2, .long (0 : Int64)), (0, .ref h0), (1, .int w)] := hl
    refine lv_aload_n hx hb d_Tw_sum_15 rfl (lv_at hl 2 rfl) ?_
    refine va_get (D := (dC, dI)) (ci := 1) (v := .ref q0) (C := "NumberBenchModel") (T := F_TW) (N := 1) hx hb hts nb_uT hown hK hP 0 rfl rfl 0 (by decide) (hts _ (nb_c nb_t253)) (fun _ h => h) rfl d_Tw_sum_16 ?_
    refine lv_astore hx hb d_Tw_sum_19 hl (by decide) rfl (fun ls hl => ?_)
    have hl : lv_has ls 15 [(6, .ref q0), (4, .long (0 : Int64)), (2, .long (0 : Int64)), (0, .ref h0), (1, .int w)] := hl
    refine lv_aload hx hb d_Tw_sum_21 (lv_at hl 0 rfl) ?_
    refine va_alen (v := 8) hx hb hK hP 1 0 rfl rfl rfl d_Tw_sum_23 ?_
    refine lv_istore hx hb d_Tw_sum_24 hl (by decide) rfl (fun ls hl => ?_)
    have hl : lv_has ls 15 [(7, .int (8 : Int32)), (6, .ref q0), (4, .long (0 : Int64)), (2, .long (0 : Int64)), (0, .ref h0), (1, .int w)] := hl
    refine lv_iconst (v := 0) hx hb d_Tw_sum_26 (by decide) ?_
    refine lv_istore hx hb d_Tw_sum_27 hl (by decide) rfl (fun ls hl => ?_)
    have hl : lv_has ls 15 [(8, .int (0 : Int32)), (7, .int (8 : Int32)), (6, .ref q0), (4, .long (0 : Int64)), (2, .long (0 : Int64)), (0, .ref h0), (1, .int w)] := hl
    exact b29 ((((8 : Int32).toInt - (0 : Int32).toInt).toNat) + 1) (0 : Int64) (0 : Int64) (8 : Int32) (0 : Int32) ls (Nat.lt_succ_self _) (lv_sub hl [6, 4, 3, 2, 1, 0] rfl) rfl (by decide) (by rw [mf_Tw_sum, if_neg h1])
  · refine lv_lconst (v := 1) hx hb d_Tw_sum_8 (by decide) ?_
    exact W.lret hx hb hr (fun t ht hW => ⟨_, rfl, (by rw [mf_Tw_sum, if_pos h1]), ht⟩) t_nil d_Tw_sum_9
def y_Tw_cast : MethodName := ⟨"NumberBenchModel", "cast", "(II)J"⟩
abbrev w_Tw_cast : List Cond := Cond.code y_Tw_cast prog_4_method_40_code 4 (Option.some FieldType.long) :: nb_tb
theorem hd_Tw_cast : y_Tw_cast.cls ≠ "java/lang/invoke/MethodHandle" ∧ y_Tw_cast.cls ≠ "java/lang/invoke/VarHandle" ∧ (parseMethodDescriptor y_Tw_cast.desc).map (fun d => d.parameters.length) = some 2 := by decide +kernel
theorem d_Tw_cast_0 : decode prog_4_method_40_code 0 = .ok (.iload_n 1, 1) := by decide +kernel
theorem d_Tw_cast_1 : decode prog_4_method_40_code 1 = .ok (.bipush 8, 2) := by decide +kernel
theorem d_Tw_cast_3 : decode prog_4_method_40_code 3 = .ok (.invokestatic 139, 3) := by decide +kernel
theorem d_Tw_cast_6 : decode prog_4_method_40_code 6 = .ok (.ifCond .eq 11, 3) := by decide +kernel
theorem d_Tw_cast_9 : decode prog_4_method_40_code 9 = .ok (.iload_n 2, 1) := by decide +kernel
theorem d_Tw_cast_10 : decode prog_4_method_40_code 10 = .ok (.iconst 5, 1) := by decide +kernel
theorem d_Tw_cast_11 : decode prog_4_method_40_code 11 = .ok (.invokestatic 139, 3) := by decide +kernel
theorem d_Tw_cast_14 : decode prog_4_method_40_code 14 = .ok (.ifCond .ne 7, 3) := by decide +kernel
theorem d_Tw_cast_17 : decode prog_4_method_40_code 17 = .ok (.ldc2_w 125, 3) := by decide +kernel
theorem d_Tw_cast_20 : decode prog_4_method_40_code 20 = .ok (.lreturn, 1) := by decide +kernel
theorem d_Tw_cast_21 : decode prog_4_method_40_code 21 = .ok (.iload_n 2, 1) := by decide +kernel
theorem d_Tw_cast_22 : decode prog_4_method_40_code 22 = .ok (.iconst 1, 1) := by decide +kernel
theorem d_Tw_cast_23 : decode prog_4_method_40_code 23 = .ok (.if_icmp .ne 19, 3) := by decide +kernel
theorem d_Tw_cast_26 : decode prog_4_method_40_code 26 = .ok (.aload_n 0, 1) := by decide +kernel
theorem d_Tw_cast_27 : decode prog_4_method_40_code 27 = .ok (.getfield 135, 3) := by decide +kernel
theorem d_Tw_cast_30 : decode prog_4_method_40_code 30 = .ok (.iload_n 1, 1) := by decide +kernel
theorem d_Tw_cast_31 : decode prog_4_method_40_code 31 = .ok (.laload, 1) := by decide +kernel
theorem d_Tw_cast_32 : decode prog_4_method_40_code 32 = .ok (.ldc2_w 167, 3) := by decide +kernel
theorem d_Tw_cast_35 : decode prog_4_method_40_code 35 = .ok (.ldc2_w 172, 3) := by decide +kernel
theorem d_Tw_cast_38 : decode prog_4_method_40_code 38 = .ok (.invokestatic 174, 3) := by decide +kernel
theorem d_Tw_cast_41 : decode prog_4_method_40_code 41 = .ok (.lreturn, 1) := by decide +kernel
theorem d_Tw_cast_42 : decode prog_4_method_40_code 42 = .ok (.aload_n 0, 1) := by decide +kernel
theorem d_Tw_cast_43 : decode prog_4_method_40_code 43 = .ok (.getfield 135, 3) := by decide +kernel
theorem d_Tw_cast_46 : decode prog_4_method_40_code 46 = .ok (.iload_n 1, 1) := by decide +kernel
theorem d_Tw_cast_47 : decode prog_4_method_40_code 47 = .ok (.laload, 1) := by decide +kernel
theorem d_Tw_cast_48 : decode prog_4_method_40_code 48 = .ok (.ldc2_w 180, 3) := by decide +kernel
theorem d_Tw_cast_51 : decode prog_4_method_40_code 51 = .ok (.ldc2_w 182, 3) := by decide +kernel
theorem d_Tw_cast_54 : decode prog_4_method_40_code 54 = .ok (.invokestatic 174, 3) := by decide +kernel
theorem d_Tw_cast_57 : decode prog_4_method_40_code 57 = .ok (.l2i, 1) := by decide +kernel
theorem d_Tw_cast_58 : decode prog_4_method_40_code 58 = .ok (.istore_n 3, 1) := by decide +kernel
theorem d_Tw_cast_59 : decode prog_4_method_40_code 59 = .ok (.iload_n 2, 1) := by decide +kernel
theorem d_Tw_cast_60 : decode prog_4_method_40_code 60 = .ok (.ifCond .ne 8, 3) := by decide +kernel
theorem d_Tw_cast_63 : decode prog_4_method_40_code 63 = .ok (.iload_n 3, 1) := by decide +kernel
theorem d_Tw_cast_64 : decode prog_4_method_40_code 64 = .ok (.i2l, 1) := by decide +kernel
theorem d_Tw_cast_65 : decode prog_4_method_40_code 65 = .ok (.goto 28, 3) := by decide +kernel
theorem d_Tw_cast_68 : decode prog_4_method_40_code 68 = .ok (.iload_n 2, 1) := by decide +kernel
theorem d_Tw_cast_69 : decode prog_4_method_40_code 69 = .ok (.iconst 2, 1) := by decide +kernel
theorem d_Tw_cast_70 : decode prog_4_method_40_code 70 = .ok (.if_icmp .ne 9, 3) := by decide +kernel
theorem d_Tw_cast_73 : decode prog_4_method_40_code 73 = .ok (.iload_n 3, 1) := by decide +kernel
theorem d_Tw_cast_74 : decode prog_4_method_40_code 74 = .ok (.i2s, 1) := by decide +kernel
theorem d_Tw_cast_75 : decode prog_4_method_40_code 75 = .ok (.i2l, 1) := by decide +kernel
theorem d_Tw_cast_76 : decode prog_4_method_40_code 76 = .ok (.goto 17, 3) := by decide +kernel
theorem d_Tw_cast_79 : decode prog_4_method_40_code 79 = .ok (.iload_n 2, 1) := by decide +kernel
theorem d_Tw_cast_80 : decode prog_4_method_40_code 80 = .ok (.iconst 3, 1) := by decide +kernel
theorem d_Tw_cast_81 : decode prog_4_method_40_code 81 = .ok (.if_icmp .ne 9, 3) := by decide +kernel
theorem d_Tw_cast_84 : decode prog_4_method_40_code 84 = .ok (.iload_n 3, 1) := by decide +kernel
theorem d_Tw_cast_85 : decode prog_4_method_40_code 85 = .ok (.i2c, 1) := by decide +kernel
theorem d_Tw_cast_86 : decode prog_4_method_40_code 86 = .ok (.i2l, 1) := by decide +kernel
theorem d_Tw_cast_87 : decode prog_4_method_40_code 87 = .ok (.goto 6, 3) := by decide +kernel
theorem d_Tw_cast_90 : decode prog_4_method_40_code 90 = .ok (.iload_n 3, 1) := by decide +kernel
theorem d_Tw_cast_91 : decode prog_4_method_40_code 91 = .ok (.i2b, 1) := by decide +kernel
theorem d_Tw_cast_92 : decode prog_4_method_40_code 92 = .ok (.i2l, 1) := by decide +kernel
theorem d_Tw_cast_93 : decode prog_4_method_40_code 93 = .ok (.lreturn, 1) := by decide +kernel
set_option maxHeartbeats 1200000 in
set_option maxRecDepth 100000 in
theorem c_Tw_cast (l : Launch) (ad : Nat → Nat) (dC : Nat → ClassId) (dI : Nat → Nat → Nat) (h0 q0 : Nat) (cA : ClassId) (f : Nat → Int64) (k : Int32) (n : Int32)  : Met l y_Tw_cast w_Tw_cast ({ frames := 4, cells := 0, slots := 0, locals := 102 } : Room) (va_Pc [.ref h0, .int k, .int n] (nb_W (dC, dI) 1 h0 q0 cA f ad)) (vp_Sl (fun r => r = mf_Tw_cast f k n)) 0 0 (fun _ => False) := by
  refine Met.ofW (cc := prog_4_method_40_code) (maxL := 4) (ret := some .long) (by decide) rfl ?_
  intro p e s m args below meth c s₁ B hml hv
  obtain ⟨rfl, hP, hK, hC⟩ := hv
  have hx := B.exec
  have hb := B.bytes
  have hr := B.returns
  have hts := atoms_spec (ws := w_Tw_cast) B.pre
  have hown : s.vm.findClass "NumberBenchModel" = some m.cls := findClass_of_methodNamed B.named
  have hlocks := B.notSynchronized
  have hC : nb_C ad (fun _ => False) s s.heap := hC
  have hS : va_S (fun _ => False) s.heap s.heap [] := va_S.rf
  have hl := lv_entry ([.ref h0, .int k, .int n]) (n := 4) (Nat.le_of_ble_eq_true rfl)
  rw [lg_entry_eq]
  generalize (lg_sl ([.ref h0, .int k, .int n]) ++ List.replicate (4 - (lg_sl ([.ref h0, .int k, .int n])).length) Slot.unset).toArray = ls at hl ⊢
  have hl : lv_has ls 4 [(0, .ref h0), (1, .int k), (2, .int n)] := hl
  refine lv_iload_n hx hb d_Tw_cast_0 rfl (lv_at hl 1 rfl) ?_
  refine lv_bipush (v := 8) hx hb d_Tw_cast_1 (by decide) ?_
  refine nb_callSi (As := [.int k, .int (8 : Int32)]) (rest := []) hx hb hml hown hts (c_Tw_in l ad k (8 : Int32)) nb_t261 nb_t262 nb_t2 nb_t263 hd_Tw_in rfl ⟨Nat.le_of_ble_eq_true rfl, Nat.le_of_ble_eq_true rfl⟩ ⟨rfl, rfl⟩ hC hS hl.1 rfl (Nat.le_of_ble_eq_true rfl) ⟨Nat.le_of_ble_eq_true rfl, Nat.le_of_ble_eq_true rfl⟩ d_Tw_cast_3 ?_
  refine lv_if_eq (tgt := 17) hx hb d_Tw_cast_6 (by decide) (fun h1 => ?_) (fun h1 => ?_)
  · refine lv_ldc2 (v := (4611686018427387904 : Int64)) hx hb hown (hts (.constantLong "NumberBenchModel" 125 (4611686018427387904 : Int64)) (nb_c nb_t369)) d_Tw_cast_17 ?_
    exact W.lret hx hb hr (fun t ht hW => ⟨_, rfl, (by rw [mf_Tw_cast, if_pos h1]), ht⟩) t_nil d_Tw_cast_20
  · refine lv_iload_n hx hb d_Tw_cast_9 rfl (lv_at hl 2 rfl) ?_
    refine lv_iconst (v := 5) hx hb d_Tw_cast_10 (by decide) ?_
    refine nb_callSi (As := [.int n, .int (5 : Int32)]) (rest := []) hx hb hml hown hts (c_Tw_in l ad n (5 : Int32)) nb_t261 nb_t262 nb_t2 nb_t263 hd_Tw_in rfl ⟨Nat.le_of_ble_eq_true rfl, Nat.le_of_ble_eq_true rfl⟩ ⟨rfl, rfl⟩ hC hS hl.1 rfl (Nat.le_of_ble_eq_true rfl) ⟨Nat.le_of_ble_eq_true rfl, Nat.le_of_ble_eq_true rfl⟩ d_Tw_cast_11 ?_
    refine lv_if_ne (tgt := 21) hx hb d_Tw_cast_14 (by decide) (fun h2 => ?_) (fun h2 => ?_)
    · refine lv_iload_n hx hb d_Tw_cast_21 rfl (lv_at hl 2 rfl) ?_
      refine lv_iconst (v := 1) hx hb d_Tw_cast_22 (by decide) ?_
      refine lv_icmp_ne (tgt := 42) hx hb d_Tw_cast_23 (by decide) (fun h3 => ?_) (fun h3 => ?_)
      · refine lv_aload_n hx hb d_Tw_cast_42 rfl (lv_at hl 0 rfl) ?_
        refine va_get (D := (dC, dI)) (ci := 1) (v := .ref q0) (C := "NumberBenchModel") (T := F_TW) (N := 1) hx hb hts nb_uT hown hK hP 0 rfl rfl 0 (by decide) (hts _ (nb_c nb_t253)) (fun _ h => h) rfl d_Tw_cast_43 ?_
        refine lv_iload_n hx hb d_Tw_cast_46 rfl (lv_at hl 1 rfl) ?_
        refine va_lald hx hb hK hP 1 0 rfl rfl (tw_inS h1) d_Tw_cast_47 ?_
        refine lv_ldc2 (v := (-2147483648 : Int64)) hx hb hown (hts (.constantLong "NumberBenchModel" 180 (-2147483648 : Int64)) (nb_c nb_t393)) d_Tw_cast_48 ?_
        refine lv_ldc2 (v := (2147483647 : Int64)) hx hb hown (hts (.constantLong "NumberBenchModel" 182 (2147483647 : Int64)) (nb_c nb_t394)) d_Tw_cast_51 ?_
        refine nb_callSl (As := [.long (f k.toNatClampNeg), .long (-2147483648 : Int64), .long (2147483647 : Int64)]) (rest := []) hx hb hml hown hts (c_Tw_cutTo l ad (f k.toNatClampNeg) (-2147483648 : Int64) (2147483647 : Int64)) nb_t390 nb_t391 nb_t2 nb_t392 hd_Tw_cutTo rfl ⟨Nat.le_of_ble_eq_true rfl, Nat.le_of_ble_eq_true rfl⟩ ⟨rfl, rfl⟩ hC hS hl.1 rfl (Nat.le_of_ble_eq_true rfl) ⟨Nat.le_of_ble_eq_true rfl, Nat.le_of_ble_eq_true rfl⟩ d_Tw_cast_54 ?_
        refine lv_l2i hx hb d_Tw_cast_57 rfl ?_
        refine lv_topi (fun v4 ev4 => ?_)
        refine lv_istore_n hx hb d_Tw_cast_58 rfl hl (by decide) rfl (fun ls hl => ?_)
        have hl : lv_has ls 4 [(3, .int v4), (0, .ref h0), (1, .int k), (2, .int n)] := hl
        refine lv_iload_n hx hb d_Tw_cast_59 rfl (lv_at hl 3 rfl) ?_
        refine lv_if_ne (tgt := 68) hx hb d_Tw_cast_60 (by decide) (fun h5 => ?_) (fun h5 => ?_)
        · refine lv_iload_n hx hb d_Tw_cast_68 rfl (lv_at hl 3 rfl) ?_
          refine lv_iconst (v := 2) hx hb d_Tw_cast_69 (by decide) ?_
          refine lv_icmp_ne (tgt := 79) hx hb d_Tw_cast_70 (by decide) (fun h6 => ?_) (fun h6 => ?_)
          · refine lv_iload_n hx hb d_Tw_cast_79 rfl (lv_at hl 3 rfl) ?_
            refine lv_iconst (v := 3) hx hb d_Tw_cast_80 (by decide) ?_
            refine lv_icmp_ne (tgt := 90) hx hb d_Tw_cast_81 (by decide) (fun h7 => ?_) (fun h7 => ?_)
            · refine lv_iload_n hx hb d_Tw_cast_90 rfl (lv_at hl 0 rfl) ?_
              refine lv_i2b hx hb d_Tw_cast_91 rfl ?_
              refine lv_i2l hx hb d_Tw_cast_92 rfl ?_
              exact W.lret hx hb hr (fun t ht hW => ⟨_, rfl, (by subst ev4; rw [mf_Tw_cast, if_neg h1, if_neg h2, if_neg h3, if_neg h5, if_neg h6, if_neg h7]), ht⟩) t_nil d_Tw_cast_93
            · refine lv_iload_n hx hb d_Tw_cast_84 rfl (lv_at hl 0 rfl) ?_
              refine lv_i2c hx hb d_Tw_cast_85 rfl ?_
              refine lv_i2l hx hb d_Tw_cast_86 rfl ?_
              refine lv_goto (tgt := 93) hx hb d_Tw_cast_87 (by decide) ?_
              exact W.lret hx hb hr (fun t ht hW => ⟨_, rfl, (by subst ev4; rw [mf_Tw_cast, if_neg h1, if_neg h2, if_neg h3, if_neg h5, if_neg h6, if_pos h7]), ht⟩) t_nil d_Tw_cast_93
          · refine lv_iload_n hx hb d_Tw_cast_73 rfl (lv_at hl 0 rfl) ?_
            refine lv_i2s hx hb d_Tw_cast_74 rfl ?_
            refine lv_i2l hx hb d_Tw_cast_75 rfl ?_
            refine lv_goto (tgt := 93) hx hb d_Tw_cast_76 (by decide) ?_
            exact W.lret hx hb hr (fun t ht hW => ⟨_, rfl, (by subst ev4; rw [mf_Tw_cast, if_neg h1, if_neg h2, if_neg h3, if_neg h5, if_pos h6]), ht⟩) t_nil d_Tw_cast_93
        · refine lv_iload_n hx hb d_Tw_cast_63 rfl (lv_at hl 0 rfl) ?_
          refine lv_i2l hx hb d_Tw_cast_64 rfl ?_
          refine lv_goto (tgt := 93) hx hb d_Tw_cast_65 (by decide) ?_
          exact W.lret hx hb hr (fun t ht hW => ⟨_, rfl, (by subst ev4; rw [mf_Tw_cast, if_neg h1, if_neg h2, if_neg h3, if_pos h5]), ht⟩) t_nil d_Tw_cast_93
      · refine lv_aload_n hx hb d_Tw_cast_26 rfl (lv_at hl 0 rfl) ?_
        refine va_get (D := (dC, dI)) (ci := 1) (v := .ref q0) (C := "NumberBenchModel") (T := F_TW) (N := 1) hx hb hts nb_uT hown hK hP 0 rfl rfl 0 (by decide) (hts _ (nb_c nb_t253)) (fun _ h => h) rfl d_Tw_cast_27 ?_
        refine lv_iload_n hx hb d_Tw_cast_30 rfl (lv_at hl 1 rfl) ?_
        refine va_lald hx hb hK hP 1 0 rfl rfl (tw_inS h1) d_Tw_cast_31 ?_
        refine lv_ldc2 (v := (-9223372036854775808 : Int64)) hx hb hown (hts (.constantLong "NumberBenchModel" 167 (-9223372036854775808 : Int64)) (nb_c nb_t383)) d_Tw_cast_32 ?_
        refine lv_ldc2 (v := (9223372036854775807 : Int64)) hx hb hown (hts (.constantLong "NumberBenchModel" 172 (9223372036854775807 : Int64)) (nb_c nb_t389)) d_Tw_cast_35 ?_
        refine nb_callSl (As := [.long (f k.toNatClampNeg), .long (-9223372036854775808 : Int64), .long (9223372036854775807 : Int64)]) (rest := []) hx hb hml hown hts (c_Tw_cutTo l ad (f k.toNatClampNeg) (-9223372036854775808 : Int64) (9223372036854775807 : Int64)) nb_t390 nb_t391 nb_t2 nb_t392 hd_Tw_cutTo rfl ⟨Nat.le_of_ble_eq_true rfl, Nat.le_of_ble_eq_true rfl⟩ ⟨rfl, rfl⟩ hC hS hl.1 rfl (Nat.le_of_ble_eq_true rfl) ⟨Nat.le_of_ble_eq_true rfl, Nat.le_of_ble_eq_true rfl⟩ d_Tw_cast_38 ?_
        exact W.lret hx hb hr (fun t ht hW => ⟨_, rfl, (by rw [mf_Tw_cast, if_neg h1, if_neg h2, if_pos h3]), ht⟩) t_nil d_Tw_cast_41
    · refine lv_ldc2 (v := (4611686018427387904 : Int64)) hx hb hown (hts (.constantLong "NumberBenchModel" 125 (4611686018427387904 : Int64)) (nb_c nb_t369)) d_Tw_cast_17 ?_
      exact W.lret hx hb hr (fun t ht hW => ⟨_, rfl, (by rw [mf_Tw_cast, if_neg h1, if_pos h2]), ht⟩) t_nil d_Tw_cast_20
def y_Tw_compare : MethodName := ⟨"NumberBenchModel", "compare", "(II)I"⟩
abbrev w_Tw_compare : List Cond := Cond.code y_Tw_compare prog_4_method_41_code 3 (Option.some FieldType.int) :: nb_tb
theorem hd_Tw_compare : y_Tw_compare.cls ≠ "java/lang/invoke/MethodHandle" ∧ y_Tw_compare.cls ≠ "java/lang/invoke/VarHandle" ∧ (parseMethodDescriptor y_Tw_compare.desc).map (fun d => d.parameters.length) = some 2 := by decide +kernel
theorem d_Tw_compare_0 : decode prog_4_method_41_code 0 = .ok (.iload_n 1, 1) := by decide +kernel
theorem d_Tw_compare_1 : decode prog_4_method_41_code 1 = .ok (.bipush 8, 2) := by decide +kernel
theorem d_Tw_compare_3 : decode prog_4_method_41_code 3 = .ok (.invokestatic 139, 3) := by decide +kernel
theorem d_Tw_compare_6 : decode prog_4_method_41_code 6 = .ok (.ifCond .eq 12, 3) := by decide +kernel
theorem d_Tw_compare_9 : decode prog_4_method_41_code 9 = .ok (.iload_n 2, 1) := by decide +kernel
theorem d_Tw_compare_10 : decode prog_4_method_41_code 10 = .ok (.bipush 8, 2) := by decide +kernel
theorem d_Tw_compare_12 : decode prog_4_method_41_code 12 = .ok (.invokestatic 139, 3) := by decide +kernel
theorem d_Tw_compare_15 : decode prog_4_method_41_code 15 = .ok (.ifCond .ne 5, 3) := by decide +kernel
theorem d_Tw_compare_18 : decode prog_4_method_41_code 18 = .ok (.iconst (-1), 1) := by decide +kernel
theorem d_Tw_compare_19 : decode prog_4_method_41_code 19 = .ok (.ireturn, 1) := by decide +kernel
theorem d_Tw_compare_20 : decode prog_4_method_41_code 20 = .ok (.aload_n 0, 1) := by decide +kernel
theorem d_Tw_compare_21 : decode prog_4_method_41_code 21 = .ok (.getfield 135, 3) := by decide +kernel
theorem d_Tw_compare_24 : decode prog_4_method_41_code 24 = .ok (.iload_n 1, 1) := by decide +kernel
theorem d_Tw_compare_25 : decode prog_4_method_41_code 25 = .ok (.laload, 1) := by decide +kernel
theorem d_Tw_compare_26 : decode prog_4_method_41_code 26 = .ok (.aload_n 0, 1) := by decide +kernel
theorem d_Tw_compare_27 : decode prog_4_method_41_code 27 = .ok (.getfield 135, 3) := by decide +kernel
theorem d_Tw_compare_30 : decode prog_4_method_41_code 30 = .ok (.iload_n 2, 1) := by decide +kernel
theorem d_Tw_compare_31 : decode prog_4_method_41_code 31 = .ok (.laload, 1) := by decide +kernel
theorem d_Tw_compare_32 : decode prog_4_method_41_code 32 = .ok (.invokestatic 116, 3) := by decide +kernel
theorem d_Tw_compare_35 : decode prog_4_method_41_code 35 = .ok (.tableswitch 34 (-1) 1 #[25, 28, 31], 25) := by decide +kernel
theorem d_Tw_compare_60 : decode prog_4_method_41_code 60 = .ok (.bipush 11, 2) := by decide +kernel
theorem d_Tw_compare_62 : decode prog_4_method_41_code 62 = .ok (.ireturn, 1) := by decide +kernel
theorem d_Tw_compare_63 : decode prog_4_method_41_code 63 = .ok (.bipush 22, 2) := by decide +kernel
theorem d_Tw_compare_65 : decode prog_4_method_41_code 65 = .ok (.ireturn, 1) := by decide +kernel
theorem d_Tw_compare_66 : decode prog_4_method_41_code 66 = .ok (.bipush 56, 2) := by decide +kernel
theorem d_Tw_compare_68 : decode prog_4_method_41_code 68 = .ok (.ireturn, 1) := by decide +kernel
theorem d_Tw_compare_69 : decode prog_4_method_41_code 69 = .ok (.bipush 8, 2) := by decide +kernel
theorem d_Tw_compare_71 : decode prog_4_method_41_code 71 = .ok (.ireturn, 1) := by decide +kernel
set_option maxHeartbeats 1200000 in
set_option maxRecDepth 100000 in
theorem c_Tw_compare (l : Launch) (ad : Nat → Nat) (dC : Nat → ClassId) (dI : Nat → Nat → Nat) (h0 q0 : Nat) (cA : ClassId) (f : Nat → Int64) (k : Int32) (n : Int32)  : Met l y_Tw_compare w_Tw_compare ({ frames := 4, cells := 0, slots := 0, locals := 91 } : Room) (va_Pc [.ref h0, .int k, .int n] (nb_W (dC, dI) 1 h0 q0 cA f ad)) (vp_Si (fun r => r = mf_Tw_compare f k n)) 0 0 (fun _ => False) := by
  refine Met.ofW (cc := prog_4_method_41_code) (maxL := 3) (ret := some .int) (by decide) rfl ?_
  intro p e s m args below meth c s₁ B hml hv
  obtain ⟨rfl, hP, hK, hC⟩ := hv
  have hx := B.exec
  have hb := B.bytes
  have hr := B.returns
  have hts := atoms_spec (ws := w_Tw_compare) B.pre
  have hown : s.vm.findClass "NumberBenchModel" = some m.cls := findClass_of_methodNamed B.named
  have hlocks := B.notSynchronized
  have hC : nb_C ad (fun _ => False) s s.heap := hC
  have hS : va_S (fun _ => False) s.heap s.heap [] := va_S.rf
  have hl := lv_entry ([.ref h0, .int k, .int n]) (n := 3) (Nat.le_of_ble_eq_true rfl)
  rw [lg_entry_eq]
  generalize (lg_sl ([.ref h0, .int k, .int n]) ++ List.replicate (3 - (lg_sl ([.ref h0, .int k, .int n])).length) Slot.unset).toArray = ls at hl ⊢
  have hl : lv_has ls 3 [(0, .ref h0), (1, .int k), (2, .int n)] := hl
  refine lv_iload_n hx hb d_Tw_compare_0 rfl (lv_at hl 1 rfl) ?_
  refine lv_bipush (v := 8) hx hb d_Tw_compare_1 (by decide) ?_
  refine nb_callSi (As := [.int k, .int (8 : Int32)]) (rest := []) hx hb hml hown hts (c_Tw_in l ad k (8 : Int32)) nb_t261 nb_t262 nb_t2 nb_t263 hd_Tw_in rfl ⟨Nat.le_of_ble_eq_true rfl, Nat.le_of_ble_eq_true rfl⟩ ⟨rfl, rfl⟩ hC hS hl.1 rfl (Nat.le_of_ble_eq_true rfl) ⟨Nat.le_of_ble_eq_true rfl, Nat.le_of_ble_eq_true rfl⟩ d_Tw_compare_3 ?_
  refine lv_if_eq (tgt := 18) hx hb d_Tw_compare_6 (by decide) (fun h1 => ?_) (fun h1 => ?_)
  · refine lv_iconst (v := (-1)) hx hb d_Tw_compare_18 (by decide) ?_
    exact W.iret hx hb hr (fun t ht hW => ⟨_, rfl, (by rw [mf_Tw_compare, if_pos h1]), ht⟩) t_nil d_Tw_compare_19
  · refine lv_iload_n hx hb d_Tw_compare_9 rfl (lv_at hl 2 rfl) ?_
    refine lv_bipush (v := 8) hx hb d_Tw_compare_10 (by decide) ?_
    refine nb_callSi (As := [.int n, .int (8 : Int32)]) (rest := []) hx hb hml hown hts (c_Tw_in l ad n (8 : Int32)) nb_t261 nb_t262 nb_t2 nb_t263 hd_Tw_in rfl ⟨Nat.le_of_ble_eq_true rfl, Nat.le_of_ble_eq_true rfl⟩ ⟨rfl, rfl⟩ hC hS hl.1 rfl (Nat.le_of_ble_eq_true rfl) ⟨Nat.le_of_ble_eq_true rfl, Nat.le_of_ble_eq_true rfl⟩ d_Tw_compare_12 ?_
    refine lv_if_ne (tgt := 20) hx hb d_Tw_compare_15 (by decide) (fun h2 => ?_) (fun h2 => ?_)
    · refine lv_aload_n hx hb d_Tw_compare_20 rfl (lv_at hl 0 rfl) ?_
      refine va_get (D := (dC, dI)) (ci := 1) (v := .ref q0) (C := "NumberBenchModel") (T := F_TW) (N := 1) hx hb hts nb_uT hown hK hP 0 rfl rfl 0 (by decide) (hts _ (nb_c nb_t253)) (fun _ h => h) rfl d_Tw_compare_21 ?_
      refine lv_iload_n hx hb d_Tw_compare_24 rfl (lv_at hl 1 rfl) ?_
      refine va_lald hx hb hK hP 1 0 rfl rfl (tw_inS h1) d_Tw_compare_25 ?_
      refine lv_aload_n hx hb d_Tw_compare_26 rfl (lv_at hl 0 rfl) ?_
      refine va_get (D := (dC, dI)) (ci := 1) (v := .ref q0) (C := "NumberBenchModel") (T := F_TW) (N := 1) hx hb hts nb_uT hown hK hP 0 rfl rfl 0 (by decide) (hts _ (nb_c nb_t253)) (fun _ h => h) rfl d_Tw_compare_27 ?_
      refine lv_iload_n hx hb d_Tw_compare_30 rfl (lv_at hl 2 rfl) ?_
      refine va_lald hx hb hK hP 1 0 rfl rfl (tw_inS h2) d_Tw_compare_31 ?_
      refine nb_callSi (As := [.long (f k.toNatClampNeg), .long (f n.toNatClampNeg)]) (rest := []) hx hb hml hown hts (c_Tw_order l ad (f k.toNatClampNeg) (f n.toNatClampNeg)) nb_t356 nb_t357 nb_t2 nb_t358 hd_Tw_order rfl ⟨Nat.le_of_ble_eq_true rfl, Nat.le_of_ble_eq_true rfl⟩ ⟨rfl, rfl⟩ hC hS hl.1 rfl (Nat.le_of_ble_eq_true rfl) ⟨Nat.le_of_ble_eq_true rfl, Nat.le_of_ble_eq_true rfl⟩ d_Tw_compare_32 ?_
      by_cases h3 : (mf_Tw_order (f k.toNatClampNeg) (f n.toNatClampNeg)) = (-1 : Int32)
      · refine lv_tableIn (off := 25) (tgt := 60) hx hb d_Tw_compare_35 (by rw [h3]; decide) (by rw [h3]; decide) (by rw [h3]; decide) (by decide) ?_
        refine lv_bipush (v := 11) hx hb d_Tw_compare_60 (by decide) ?_
        exact W.iret hx hb hr (fun t ht hW => ⟨_, rfl, (by rw [mf_Tw_compare, if_neg h1, if_neg h2, if_pos h3]), ht⟩) t_nil d_Tw_compare_62
      by_cases h4 : (mf_Tw_order (f k.toNatClampNeg) (f n.toNatClampNeg)) = (0 : Int32)
      · refine lv_tableIn (off := 28) (tgt := 63) hx hb d_Tw_compare_35 (by rw [h4]; decide) (by rw [h4]; decide) (by rw [h4]; decide) (by decide) ?_
        refine lv_bipush (v := 22) hx hb d_Tw_compare_63 (by decide) ?_
        exact W.iret hx hb hr (fun t ht hW => ⟨_, rfl, (by rw [mf_Tw_compare, if_neg h1, if_neg h2, if_neg h3, if_pos h4]), ht⟩) t_nil d_Tw_compare_65
      by_cases h5 : (mf_Tw_order (f k.toNatClampNeg) (f n.toNatClampNeg)) = (1 : Int32)
      · refine lv_tableIn (off := 31) (tgt := 66) hx hb d_Tw_compare_35 (by rw [h5]; decide) (by rw [h5]; decide) (by rw [h5]; decide) (by decide) ?_
        refine lv_bipush (v := 56) hx hb d_Tw_compare_66 (by decide) ?_
        exact W.iret hx hb hr (fun t ht hW => ⟨_, rfl, (by rw [mf_Tw_compare, if_neg h1, if_neg h2, if_neg h3, if_neg h4, if_pos h5]), ht⟩) t_nil d_Tw_compare_68
      refine lv_tableOut (tgt := 69) hx hb d_Tw_compare_35 (by have q0 := lv_neT (a := -1) h3 (by decide); have q1 := lv_neT (a := 0) h4 (by decide); have q2 := lv_neT (a := 1) h5 (by decide); omega) (by decide) ?_
      refine lv_bipush (v := 8) hx hb d_Tw_compare_69 (by decide) ?_
      exact W.iret hx hb hr (fun t ht hW => ⟨_, rfl, (by rw [mf_Tw_compare, if_neg h1, if_neg h2, if_neg h3, if_neg h4, if_neg h5]), ht⟩) t_nil d_Tw_compare_71
    · refine lv_iconst (v := (-1)) hx hb d_Tw_compare_18 (by decide) ?_
      exact W.iret hx hb hr (fun t ht hW => ⟨_, rfl, (by rw [mf_Tw_compare, if_neg h1, if_pos h2]), ht⟩) t_nil d_Tw_compare_19
def y_Tw_horner : MethodName := ⟨"NumberBenchModel", "horner", "(I)J"⟩
abbrev w_Tw_horner : List Cond := Cond.code y_Tw_horner prog_4_method_42_code 5 (Option.some FieldType.long) :: nb_tb
theorem hd_Tw_horner : y_Tw_horner.cls ≠ "java/lang/invoke/MethodHandle" ∧ y_Tw_horner.cls ≠ "java/lang/invoke/VarHandle" ∧ (parseMethodDescriptor y_Tw_horner.desc).map (fun d => d.parameters.length) = some 1 := by decide +kernel
theorem d_Tw_horner_0 : decode prog_4_method_42_code 0 = .ok (.iload_n 1, 1) := by decide +kernel
theorem d_Tw_horner_1 : decode prog_4_method_42_code 1 = .ok (.bipush 8, 2) := by decide +kernel
theorem d_Tw_horner_3 : decode prog_4_method_42_code 3 = .ok (.invokestatic 139, 3) := by decide +kernel
theorem d_Tw_horner_6 : decode prog_4_method_42_code 6 = .ok (.ifCond .ne 5, 3) := by decide +kernel
theorem d_Tw_horner_9 : decode prog_4_method_42_code 9 = .ok (.lconst 1, 1) := by decide +kernel
theorem d_Tw_horner_10 : decode prog_4_method_42_code 10 = .ok (.lreturn, 1) := by decide +kernel
theorem d_Tw_horner_11 : decode prog_4_method_42_code 11 = .ok (.aload_n 0, 1) := by decide +kernel
theorem d_Tw_horner_12 : decode prog_4_method_42_code 12 = .ok (.getfield 135, 3) := by decide +kernel
theorem d_Tw_horner_15 : decode prog_4_method_42_code 15 = .ok (.bipush 7, 2) := by decide +kernel
theorem d_Tw_horner_17 : decode prog_4_method_42_code 17 = .ok (.laload, 1) := by decide +kernel
theorem d_Tw_horner_18 : decode prog_4_method_42_code 18 = .ok (.lstore_n 2, 1) := by decide +kernel
theorem d_Tw_horner_19 : decode prog_4_method_42_code 19 = .ok (.bipush 6, 2) := by decide +kernel
theorem d_Tw_horner_21 : decode prog_4_method_42_code 21 = .ok (.istore 4, 2) := by decide +kernel
theorem d_Tw_horner_23 : decode prog_4_method_42_code 23 = .ok (.iload 4, 2) := by decide +kernel
theorem d_Tw_horner_25 : decode prog_4_method_42_code 25 = .ok (.ifCond .lt 30, 3) := by decide +kernel
theorem d_Tw_horner_28 : decode prog_4_method_42_code 28 = .ok (.lload_n 2, 1) := by decide +kernel
theorem d_Tw_horner_29 : decode prog_4_method_42_code 29 = .ok (.aload_n 0, 1) := by decide +kernel
theorem d_Tw_horner_30 : decode prog_4_method_42_code 30 = .ok (.getfield 135, 3) := by decide +kernel
theorem d_Tw_horner_33 : decode prog_4_method_42_code 33 = .ok (.iload_n 1, 1) := by decide +kernel
theorem d_Tw_horner_34 : decode prog_4_method_42_code 34 = .ok (.laload, 1) := by decide +kernel
theorem d_Tw_horner_35 : decode prog_4_method_42_code 35 = .ok (.invokestatic 184, 3) := by decide +kernel
theorem d_Tw_horner_38 : decode prog_4_method_42_code 38 = .ok (.aload_n 0, 1) := by decide +kernel
theorem d_Tw_horner_39 : decode prog_4_method_42_code 39 = .ok (.getfield 135, 3) := by decide +kernel
theorem d_Tw_horner_42 : decode prog_4_method_42_code 42 = .ok (.iload 4, 2) := by decide +kernel
theorem d_Tw_horner_44 : decode prog_4_method_42_code 44 = .ok (.laload, 1) := by decide +kernel
theorem d_Tw_horner_45 : decode prog_4_method_42_code 45 = .ok (.invokestatic 123, 3) := by decide +kernel
theorem d_Tw_horner_48 : decode prog_4_method_42_code 48 = .ok (.lstore_n 2, 1) := by decide +kernel
theorem d_Tw_horner_49 : decode prog_4_method_42_code 49 = .ok (.iinc 4 (-1), 3) := by decide +kernel
theorem d_Tw_horner_52 : decode prog_4_method_42_code 52 = .ok (.goto (-29), 3) := by decide +kernel
theorem d_Tw_horner_55 : decode prog_4_method_42_code 55 = .ok (.lload_n 2, 1) := by decide +kernel
theorem d_Tw_horner_56 : decode prog_4_method_42_code 56 = .ok (.invokestatic 164, 3) := by decide +kernel
theorem d_Tw_horner_59 : decode prog_4_method_42_code 59 = .ok (.lreturn, 1) := by decide +kernel
set_option maxHeartbeats 1200000 in
set_option maxRecDepth 100000 in
theorem c_Tw_horner (l : Launch) (ad : Nat → Nat) (dC : Nat → ClassId) (dI : Nat → Nat → Nat) (h0 q0 : Nat) (cA : ClassId) (f : Nat → Int64) (k : Int32)  : Met l y_Tw_horner w_Tw_horner ({ frames := 6, cells := 0, slots := 0, locals := 168 } : Room) (va_Pc [.ref h0, .int k] (nb_W (dC, dI) 1 h0 q0 cA f ad)) (vp_Sl (fun r => r = mf_Tw_horner f k)) 0 0 (fun _ => False) := by
  refine Met.ofW (cc := prog_4_method_42_code) (maxL := 5) (ret := some .long) (by decide) rfl ?_
  intro p e s m args below meth c s₁ B hml hv
  obtain ⟨rfl, hP, hK, hC⟩ := hv
  have hx := B.exec
  have hb := B.bytes
  have hr := B.returns
  have hts := atoms_spec (ws := w_Tw_horner) B.pre
  have hown : s.vm.findClass "NumberBenchModel" = some m.cls := findClass_of_methodNamed B.named
  have hlocks := B.notSynchronized
  have hC : nb_C ad (fun _ => False) s s.heap := hC
  have hS : va_S (fun _ => False) s.heap s.heap [] := va_S.rf
  have hl := lv_entry ([.ref h0, .int k]) (n := 5) (Nat.le_of_ble_eq_true rfl)
  rw [lg_entry_eq]
  generalize (lg_sl ([.ref h0, .int k]) ++ List.replicate (5 - (lg_sl ([.ref h0, .int k])).length) Slot.unset).toArray = ls at hl ⊢
  have hl : lv_has ls 5 [(0, .ref h0), (1, .int k)] := hl
  have b23 : ∀ (fuel : Nat) (x2 : Int64) (x4 : Int32) (ls : Array Slot), ((x4.toInt + 1).toNat) < fuel → lv_has ls 5 [(0, .ref h0), (1, .int k), (2, .long x2), (4, .int x4)] → (¬ (mf_Tw_in k (8 : Int32)) = 0) → (x4 ≤ 6) → mf_Tw_horner f k = mf_Tw_horner_b23 f k fuel x2 x4 → W p l e (headSpec w_Tw_horner ({ frames := 6, cells := 0, slots := 0, locals := 168 } : Room)).room s m ([.ref h0, .int k] : List Value).toArray below meth c s.heap [] 0 0 (MQ below (vp_Sl (fun r => r = mf_Tw_horner f k)) ([.ref h0, .int k] : List Value).toArray s 0 0 (fun _ => False)) (F0 m 23 ls []) := by
    intro fuel
    induction fuel with
    | zero => intro x2 x4 ls hf; exact absurd hf (Nat.not_lt_zero _)
    | succ fuel ih =>
      intro x2 x4 ls hf hl hs h6 hE
      refine lv_iload hx hb d_Tw_horner_23 (lv_at hl 3 rfl) ?_
      refine lv_if_lt (tgt := 55) hx hb d_Tw_horner_25 (by decide) (fun h2 => ?_) (fun h2 => ?_)
      · refine lv_lload_n hx hb d_Tw_horner_55 rfl (lv_at hl 2 rfl) ?_
        refine nb_callSl (As := [.long x2]) (rest := []) hx hb hml hown hts (c_Tw_told l ad x2) nb_t376 nb_t377 nb_t2 nb_t378 hd_Tw_told rfl ⟨Nat.le_of_ble_eq_true rfl, Nat.le_of_ble_eq_true rfl⟩ ⟨rfl, rfl⟩ hC hS hl.1 rfl (Nat.le_of_ble_eq_true rfl) ⟨Nat.le_of_ble_eq_true rfl, Nat.le_of_ble_eq_true rfl⟩ d_Tw_horner_56 ?_
        exact W.lret hx hb hr (fun t ht hW => ⟨_, rfl, (by rw [hE, mf_Tw_horner_b23, if_pos h2]), ht⟩) t_nil d_Tw_horner_59
      · refine lv_lload_n hx hb d_Tw_horner_28 rfl (lv_at hl 2 rfl) ?_
        refine lv_aload_n hx hb d_Tw_horner_29 rfl (lv_at hl 0 rfl) ?_
        refine va_get (D := (dC, dI)) (ci := 1) (v := .ref q0) (C := "NumberBenchModel") (T := F_TW) (N := 1) hx hb hts nb_uT hown hK hP 0 rfl rfl 0 (by decide) (hts _ (nb_c nb_t253)) (fun _ h => h) rfl d_Tw_horner_30 ?_
        refine lv_iload_n hx hb d_Tw_horner_33 rfl (lv_at hl 1 rfl) ?_
        refine va_lald hx hb hK hP 1 0 rfl rfl (tw_inS hs) d_Tw_horner_34 ?_
        refine nb_callSl (As := [.long x2, .long (f k.toNatClampNeg)]) (rest := []) hx hb hml hown hts (c_Tw_multiply2 l ad x2 (f k.toNatClampNeg)) nb_t403 nb_t404 nb_t2 nb_t405 hd_Tw_multiply2 rfl ⟨Nat.le_of_ble_eq_true rfl, Nat.le_of_ble_eq_true rfl⟩ ⟨rfl, rfl⟩ hC hS hl.1 rfl (Nat.le_of_ble_eq_true rfl) ⟨Nat.le_of_ble_eq_true rfl, Nat.le_of_ble_eq_true rfl⟩ d_Tw_horner_35 ?_
        refine lv_aload_n hx hb d_Tw_horner_38 rfl (lv_at hl 0 rfl) ?_
        refine va_get (D := (dC, dI)) (ci := 1) (v := .ref q0) (C := "NumberBenchModel") (T := F_TW) (N := 1) hx hb hts nb_uT hown hK hP 0 rfl rfl 0 (by decide) (hts _ (nb_c nb_t253)) (fun _ h => h) rfl d_Tw_horner_39 ?_
        refine lv_iload hx hb d_Tw_horner_42 (lv_at hl 3 rfl) ?_
        refine va_lald hx hb hK hP 1 0 rfl rfl (nb_in6 h6 h2) d_Tw_horner_44 ?_
        refine nb_callSl (As := [.long (mf_Tw_multiply2 x2 (f k.toNatClampNeg)), .long (f x4.toNatClampNeg)]) (rest := []) hx hb hml hown hts (c_Tw_add2 l ad (mf_Tw_multiply2 x2 (f k.toNatClampNeg)) (f x4.toNatClampNeg)) nb_t366 nb_t367 nb_t2 nb_t368 hd_Tw_add2 rfl ⟨Nat.le_of_ble_eq_true rfl, Nat.le_of_ble_eq_true rfl⟩ ⟨rfl, rfl⟩ hC hS hl.1 rfl (Nat.le_of_ble_eq_true rfl) ⟨Nat.le_of_ble_eq_true rfl, Nat.le_of_ble_eq_true rfl⟩ d_Tw_horner_45 ?_
        refine lv_topl (fun v3 ev3 => ?_)
        refine lv_lstore_n hx hb d_Tw_horner_48 rfl hl (by decide) rfl (fun ls hl => ?_)
        have hl : lv_has ls 5 [(2, .long v3), (0, .ref h0), (1, .int k), (4, .int x4)] := hl
        refine lv_iinc (k := 3) (v := x4 + (-1 : Int32)) hx hb d_Tw_horner_49 hl rfl rfl (by decide) rfl (fun ls hl => ?_)
        have hl : lv_has ls 5 [(4, .int (x4 + (-1 : Int32))), (2, .long v3), (0, .ref h0), (1, .int k)] := hl
        refine lv_goto (tgt := 23) hx hb d_Tw_horner_52 (by decide) ?_
        exact ih v3 (x4 + (-1 : Int32)) ls (Nat.lt_of_lt_of_le (lp_dn h2) (Nat.le_of_lt_succ hf)) (lv_sub hl [2, 3, 1, 0] rfl) hs (lp_dnle h6 h2) (by subst ev3; rw [hE, mf_Tw_horner_b23, if_neg h2])
  refine lv_iload_n hx hb d_Tw_horner_0 rfl (lv_at hl 1 rfl) ?_
  refine lv_bipush (v := 8) hx hb d_Tw_horner_1 (by decide) ?_
  refine nb_callSi (As := [.int k, .int (8 : Int32)]) (rest := []) hx hb hml hown hts (c_Tw_in l ad k (8 : Int32)) nb_t261 nb_t262 nb_t2 nb_t263 hd_Tw_in rfl ⟨Nat.le_of_ble_eq_true rfl, Nat.le_of_ble_eq_true rfl⟩ ⟨rfl, rfl⟩ hC hS hl.1 rfl (Nat.le_of_ble_eq_true rfl) ⟨Nat.le_of_ble_eq_true rfl, Nat.le_of_ble_eq_true rfl⟩ d_Tw_horner_3 ?_
  refine lv_if_ne (tgt := 11) hx hb d_Tw_horner_6 (by decide) (fun h1 => ?_) (fun h1 => ?_)
  · refine lv_aload_n hx hb d_Tw_horner_11 rfl (lv_at hl 0 rfl) ?_
    refine va_get (D := (dC, dI)) (ci := 1) (v := .ref q0) (C := "NumberBenchModel") (T := F_TW) (N := 1) hx hb hts nb_uT hown hK hP 0 rfl rfl 0 (by decide) (hts _ (nb_c nb_t253)) (fun _ h => h) rfl d_Tw_horner_12 ?_
    refine lv_bipush (v := 7) hx hb d_Tw_horner_15 (by decide) ?_
    refine va_lald hx hb hK hP 1 0 rfl rfl (nb_inL (by decide)) d_Tw_horner_17 ?_
    refine lv_lstore_n hx hb d_Tw_horner_18 rfl hl (by decide) rfl (fun ls hl => ?_)
    have hl : lv_has ls 5 [(2, .long (f (7 : Int32).toNatClampNeg)), (0, .ref h0), (1, .int k)] := hl
    refine lv_bipush (v := 6) hx hb d_Tw_horner_19 (by decide) ?_
    refine lv_istore hx hb d_Tw_horner_21 hl (by decide) rfl (fun ls hl => ?_)
    have hl : lv_has ls 5 [(4, .int (6 : Int32)), (2, .long (f (7 : Int32).toNatClampNeg)), (0, .ref h0), (1, .int k)] := hl
    exact b23 ((((6 : Int32).toInt + 1).toNat) + 1) (f (7 : Int32).toNatClampNeg) (6 : Int32) ls (Nat.lt_succ_self _) (lv_sub hl [2, 3, 1, 0] rfl) h1 (by decide) (by rw [mf_Tw_horner, if_neg h1])
  · refine lv_lconst (v := 1) hx hb d_Tw_horner_9 (by decide) ?_
    exact W.lret hx hb hr (fun t ht hW => ⟨_, rfl, (by rw [mf_Tw_horner, if_pos h1]), ht⟩) t_nil d_Tw_horner_10
def y_Tw_single : MethodName := ⟨"NumberBenchModel", "single", "(I)I"⟩
abbrev w_Tw_single : List Cond := Cond.code y_Tw_single prog_4_method_43_code 2 (Option.some FieldType.int) :: nb_tb
theorem hd_Tw_single : y_Tw_single.cls ≠ "java/lang/invoke/MethodHandle" ∧ y_Tw_single.cls ≠ "java/lang/invoke/VarHandle" ∧ (parseMethodDescriptor y_Tw_single.desc).map (fun d => d.parameters.length) = some 1 := by decide +kernel
theorem d_Tw_single_0 : decode prog_4_method_43_code 0 = .ok (.iload_n 1, 1) := by decide +kernel
theorem d_Tw_single_1 : decode prog_4_method_43_code 1 = .ok (.bipush 8, 2) := by decide +kernel
theorem d_Tw_single_3 : decode prog_4_method_43_code 3 = .ok (.invokestatic 139, 3) := by decide +kernel
theorem d_Tw_single_6 : decode prog_4_method_43_code 6 = .ok (.ifCond .eq 16, 3) := by decide +kernel
theorem d_Tw_single_9 : decode prog_4_method_43_code 9 = .ok (.aload_n 0, 1) := by decide +kernel
theorem d_Tw_single_10 : decode prog_4_method_43_code 10 = .ok (.getfield 135, 3) := by decide +kernel
theorem d_Tw_single_13 : decode prog_4_method_43_code 13 = .ok (.iload_n 1, 1) := by decide +kernel
theorem d_Tw_single_14 : decode prog_4_method_43_code 14 = .ok (.laload, 1) := by decide +kernel
theorem d_Tw_single_15 : decode prog_4_method_43_code 15 = .ok (.invokestatic 143, 3) := by decide +kernel
theorem d_Tw_single_18 : decode prog_4_method_43_code 18 = .ok (.l2i, 1) := by decide +kernel
theorem d_Tw_single_19 : decode prog_4_method_43_code 19 = .ok (.goto 4, 3) := by decide +kernel
theorem d_Tw_single_22 : decode prog_4_method_43_code 22 = .ok (.iconst 1, 1) := by decide +kernel
theorem d_Tw_single_23 : decode prog_4_method_43_code 23 = .ok (.ireturn, 1) := by decide +kernel
set_option maxHeartbeats 1200000 in
set_option maxRecDepth 100000 in
theorem c_Tw_single (l : Launch) (ad : Nat → Nat) (dC : Nat → ClassId) (dI : Nat → Nat → Nat) (h0 q0 : Nat) (cA : ClassId) (f : Nat → Int64) (k : Int32)  : Met l y_Tw_single w_Tw_single ({ frames := 6, cells := 0, slots := 0, locals := 145 } : Room) (va_Pc [.ref h0, .int k] (nb_W (dC, dI) 1 h0 q0 cA f ad)) (vp_Si (fun r => r = mf_Tw_single f k)) 0 0 (fun _ => False) := by
  refine Met.ofW (cc := prog_4_method_43_code) (maxL := 2) (ret := some .int) (by decide) rfl ?_
  intro p e s m args below meth c s₁ B hml hv
  obtain ⟨rfl, hP, hK, hC⟩ := hv
  have hx := B.exec
  have hb := B.bytes
  have hr := B.returns
  have hts := atoms_spec (ws := w_Tw_single) B.pre
  have hown : s.vm.findClass "NumberBenchModel" = some m.cls := findClass_of_methodNamed B.named
  have hlocks := B.notSynchronized
  have hC : nb_C ad (fun _ => False) s s.heap := hC
  have hS : va_S (fun _ => False) s.heap s.heap [] := va_S.rf
  have hl := lv_entry ([.ref h0, .int k]) (n := 2) (Nat.le_of_ble_eq_true rfl)
  rw [lg_entry_eq]
  generalize (lg_sl ([.ref h0, .int k]) ++ List.replicate (2 - (lg_sl ([.ref h0, .int k])).length) Slot.unset).toArray = ls at hl ⊢
  have hl : lv_has ls 2 [(0, .ref h0), (1, .int k)] := hl
  refine lv_iload_n hx hb d_Tw_single_0 rfl (lv_at hl 1 rfl) ?_
  refine lv_bipush (v := 8) hx hb d_Tw_single_1 (by decide) ?_
  refine nb_callSi (As := [.int k, .int (8 : Int32)]) (rest := []) hx hb hml hown hts (c_Tw_in l ad k (8 : Int32)) nb_t261 nb_t262 nb_t2 nb_t263 hd_Tw_in rfl ⟨Nat.le_of_ble_eq_true rfl, Nat.le_of_ble_eq_true rfl⟩ ⟨rfl, rfl⟩ hC hS hl.1 rfl (Nat.le_of_ble_eq_true rfl) ⟨Nat.le_of_ble_eq_true rfl, Nat.le_of_ble_eq_true rfl⟩ d_Tw_single_3 ?_
  refine lv_if_eq (tgt := 22) hx hb d_Tw_single_6 (by decide) (fun h1 => ?_) (fun h1 => ?_)
  · refine lv_iconst (v := 1) hx hb d_Tw_single_22 (by decide) ?_
    exact W.iret hx hb hr (fun t ht hW => ⟨_, rfl, (by rw [mf_Tw_single, if_pos h1]), ht⟩) t_nil d_Tw_single_23
  · refine lv_aload_n hx hb d_Tw_single_9 rfl (lv_at hl 0 rfl) ?_
    refine va_get (D := (dC, dI)) (ci := 1) (v := .ref q0) (C := "NumberBenchModel") (T := F_TW) (N := 1) hx hb hts nb_uT hown hK hP 0 rfl rfl 0 (by decide) (hts _ (nb_c nb_t253)) (fun _ h => h) rfl d_Tw_single_10 ?_
    refine lv_iload_n hx hb d_Tw_single_13 rfl (lv_at hl 1 rfl) ?_
    refine va_lald hx hb hK hP 1 0 rfl rfl (tw_inS h1) d_Tw_single_14 ?_
    refine nb_callSl (As := [.long (f k.toNatClampNeg)]) (rest := []) hx hb hml hown hts (c_Tw_toFloat l ad (f k.toNatClampNeg)) nb_t271 nb_t272 nb_t2 nb_t273 hd_Tw_toFloat rfl ⟨Nat.le_of_ble_eq_true rfl, Nat.le_of_ble_eq_true rfl⟩ ⟨rfl, rfl⟩ hC hS hl.1 rfl (Nat.le_of_ble_eq_true rfl) ⟨Nat.le_of_ble_eq_true rfl, Nat.le_of_ble_eq_true rfl⟩ d_Tw_single_15 ?_
    refine lv_l2i hx hb d_Tw_single_18 rfl ?_
    refine lv_goto (tgt := 23) hx hb d_Tw_single_19 (by decide) ?_
    exact W.iret hx hb hr (fun t ht hW => ⟨_, rfl, (by rw [mf_Tw_single, if_neg h1]), ht⟩) t_nil d_Tw_single_23
