theorem nb_t20 : Cond.arrayClass FieldType.long ∈ nb_tb := nb_mem 20 (by decide +kernel) (by decide +kernel)
def y_Nb_init : MethodName := ⟨"NumberBench", "<init>", "()V"⟩
abbrev w_Nb_init : List Cond := Cond.code y_Nb_init prog_1_method_1_code 1 none :: nb_tb
theorem hd_Nb_init : y_Nb_init.cls ≠ "java/lang/invoke/MethodHandle" ∧ y_Nb_init.cls ≠ "java/lang/invoke/VarHandle" ∧ (parseMethodDescriptor y_Nb_init.desc).map (fun d => d.parameters.length) = some 0 := by decide +kernel
theorem d_Nb_init_0 : decode prog_1_method_1_code 0 = .ok (.aload_n 0, 1) := by decide +kernel
theorem d_Nb_init_1 : decode prog_1_method_1_code 1 = .ok (.invokespecial 3, 3) := by decide +kernel
theorem d_Nb_init_4 : decode prog_1_method_1_code 4 = .ok (.aload_n 0, 1) := by decide +kernel
theorem d_Nb_init_5 : decode prog_1_method_1_code 5 = .ok (.bipush 8, 2) := by decide +kernel
theorem d_Nb_init_7 : decode prog_1_method_1_code 7 = .ok (.newarray .long, 2) := by decide +kernel
theorem d_Nb_init_9 : decode prog_1_method_1_code 9 = .ok (.putfield 9, 3) := by decide +kernel
theorem d_Nb_init_12 : decode prog_1_method_1_code 12 = .ok (.return_, 1) := by decide +kernel
set_option maxHeartbeats 1200000 in
set_option maxRecDepth 100000 in
theorem c_Nb_init (l : Launch) (dC : Nat → ClassId) (dI : Nat → Nat → Nat) (h0 : Nat) (sz : Nat) : Met l y_Nb_init w_Nb_init ({ frames := 1, cells := 1, slots := 8, locals := 20 } : Room) (va_Pc [.ref h0] (fun U => U.heap.size = sz ∧ va_P (dC, dI) nb_cl [(h0, .inr (0, [.null]))] U.heap ∧ va_K (dC, dI) nb_cl [] U ∧ va_D (fun _ => True) [(h0, .inr (0, [.null]))])) (va_Qv (fun _ : Unit => True) (fun _ t => ∃ (q0 : Nat) (cA : ClassId), nb_At (dC, dI) 0 (va_A [(h0, .inr (0, [.null]))] sz) h0 q0 cA (fun _ => 0) t) (va_A [(h0, .inr (0, [.null]))] sz)) 1 8 (va_A [(h0, .inr (0, [.null]))] sz) := by
  refine Met.ofW (cc := prog_1_method_1_code) (maxL := 1) (ret := none) (by decide) rfl ?_
  intro p e s m args below meth c s₁ B hml hv
  obtain ⟨rfl, hsz, hP, hK, hD0⟩ := hv
  have hx := B.exec
  have hb := B.bytes
  have hr := B.returns
  have hts := atoms_spec (ws := w_Nb_init) B.pre
  have hown : s.vm.findClass "NumberBench" = some m.cls := findClass_of_methodNamed B.named
  have hlocks := B.notSynchronized
  have hin : meth.name = "<init>" := (name_of_methodNamed B.named B.method).1
  subst hsz
  have hD := hD0.self (sz := s.heap.size)
  generalize hAe : va_A [(h0, .inr (0, [.null]))] s.heap.size = A at hD ⊢
  have hA : ∀ q : Nat, s.heap.size ≤ q → A q := fun q h => by rw [← hAe]; exact Or.inr h
  have hS : va_S A s.heap s.heap [] := va_S.rf
  have hP : va_P (dC, dI) nb_cl [(h0, .inr (0, [.null]))] s.heap := hP
  have hl := lv_entry ([.ref h0]) (n := 1) (Nat.le_of_ble_eq_true rfl)
  rw [lg_entry_eq]
  generalize (lg_sl ([.ref h0]) ++ List.replicate (1 - (lg_sl ([.ref h0])).length) Slot.unset).toArray = ls at hl ⊢
  have hl : lv_has ls 1 [(0, .ref h0)] := hl
  refine lv_aload_n hx hb d_Nb_init_0 rfl (lv_at hl 0 rfl) ?_
  refine W.objInit hx hb hown (hts _ (nb_c nb_t13)) (hts _ (nb_c nb_t14)) (hts _ (nb_c nb_t15)) rfl (by rw [hml]; exact hl.1) rfl d_Nb_init_1 (Nat.le_of_ble_eq_true rfl) (Nat.le_of_ble_eq_true rfl) ?_
  refine W.eq (g2 := F0 m 4 ls []) rfl ?_
  refine lv_aload_n hx hb d_Nb_init_4 rfl (lv_at hl 0 rfl) ?_
  refine lv_bipush (v := 8) hx hb d_Nb_init_5 (by decide) ?_
  refine va_newa (atype := .long) (a0 := (8, .inr (.inl (fun _ => 0)))) (N' := 8) hx hb (hts _ (nb_c nb_t20)) (ty := .long) rfl hK hP hD hS hA (fun _ => rfl) (by decide) (by decide) (by decide) (Nat.le_of_ble_eq_true rfl) (Nat.le_of_ble_eq_true rfl) d_Nb_init_7 (fun q0 cA H hK hP hD hS => ?_)
  have hK : va_K (dC, dI) nb_cl [(cA, .long)] s := hK
  have hP : va_P (dC, dI) nb_cl [(h0, .inr (0, [.null])), (q0, .inl (cA, 8, .inr (.inl (fun _ => 0))))] H := hP
  have hD : va_D A [(h0, .inr (0, [.null])), (q0, .inl (cA, 8, .inr (.inl (fun _ => 0))))] := hD
  refine va_putF (D := (dC, dI)) (ci := 0) (v := .ref q0) (ty := .array .long) (C := "NumberBench") (T := F_NB) (N := 1) hx hb hts nb_uN t_arr (by decide +kernel) (by decide +kernel) hown hK hP hD hS 0 rfl rfl 0 (by decide) (hts _ (nb_c nb_t16)) (fun _ h9 => h9) rfl hin rfl (by decide +kernel) rfl rfl (Nat.le_of_ble_eq_true rfl) d_Nb_init_9 (fun H locs hP hD hS => ?_)
  have hP : va_P (dC, dI) nb_cl (nb_w 0 h0 q0 cA (fun _ => 0)) H := hP
  have hD : va_D A (nb_w 0 h0 q0 cA (fun _ => 0)) := hD
  exact W.vret hx hb hr (fun t ht hW => ⟨⟨(), rfl, trivial, q0, cA, by rw [ht]; exact hP, va_K.moved hW.alike hK, hD⟩, hS.F ht⟩) hS.2.2 d_Nb_init_12
def y_Tw_init : MethodName := ⟨"NumberBenchModel", "<init>", "()V"⟩
abbrev w_Tw_init : List Cond := Cond.code y_Tw_init prog_4_method_33_code 1 none :: nb_tb
theorem hd_Tw_init : y_Tw_init.cls ≠ "java/lang/invoke/MethodHandle" ∧ y_Tw_init.cls ≠ "java/lang/invoke/VarHandle" ∧ (parseMethodDescriptor y_Tw_init.desc).map (fun d => d.parameters.length) = some 0 := by decide +kernel
theorem d_Tw_init_0 : decode prog_4_method_33_code 0 = .ok (.aload_n 0, 1) := by decide +kernel
theorem d_Tw_init_1 : decode prog_4_method_33_code 1 = .ok (.invokespecial 129, 3) := by decide +kernel
theorem d_Tw_init_4 : decode prog_4_method_33_code 4 = .ok (.aload_n 0, 1) := by decide +kernel
theorem d_Tw_init_5 : decode prog_4_method_33_code 5 = .ok (.bipush 8, 2) := by decide +kernel
theorem d_Tw_init_7 : decode prog_4_method_33_code 7 = .ok (.newarray .long, 2) := by decide +kernel
theorem d_Tw_init_9 : decode prog_4_method_33_code 9 = .ok (.putfield 135, 3) := by decide +kernel
theorem d_Tw_init_12 : decode prog_4_method_33_code 12 = .ok (.return_, 1) := by decide +kernel
set_option maxHeartbeats 1200000 in
set_option maxRecDepth 100000 in
theorem c_Tw_init (l : Launch) (dC : Nat → ClassId) (dI : Nat → Nat → Nat) (h0 : Nat) (sz : Nat) : Met l y_Tw_init w_Tw_init ({ frames := 1, cells := 1, slots := 8, locals := 20 } : Room) (va_Pc [.ref h0] (fun U => U.heap.size = sz ∧ va_P (dC, dI) nb_cl [(h0, .inr (1, [.null]))] U.heap ∧ va_K (dC, dI) nb_cl [] U ∧ va_D (fun _ => True) [(h0, .inr (1, [.null]))])) (va_Qv (fun _ : Unit => True) (fun _ t => ∃ (q0 : Nat) (cA : ClassId), nb_At (dC, dI) 1 (va_A [(h0, .inr (1, [.null]))] sz) h0 q0 cA (fun _ => 0) t) (va_A [(h0, .inr (1, [.null]))] sz)) 1 8 (va_A [(h0, .inr (1, [.null]))] sz) := by
  refine Met.ofW (cc := prog_4_method_33_code) (maxL := 1) (ret := none) (by decide) rfl ?_
  intro p e s m args below meth c s₁ B hml hv
  obtain ⟨rfl, hsz, hP, hK, hD0⟩ := hv
  have hx := B.exec
  have hb := B.bytes
  have hr := B.returns
  have hts := atoms_spec (ws := w_Tw_init) B.pre
  have hown : s.vm.findClass "NumberBenchModel" = some m.cls := findClass_of_methodNamed B.named
  have hlocks := B.notSynchronized
  have hin : meth.name = "<init>" := (name_of_methodNamed B.named B.method).1
  subst hsz
  have hD := hD0.self (sz := s.heap.size)
  generalize hAe : va_A [(h0, .inr (1, [.null]))] s.heap.size = A at hD ⊢
  have hA : ∀ q : Nat, s.heap.size ≤ q → A q := fun q h => by rw [← hAe]; exact Or.inr h
  have hS : va_S A s.heap s.heap [] := va_S.rf
  have hP : va_P (dC, dI) nb_cl [(h0, .inr (1, [.null]))] s.heap := hP
  have hl := lv_entry ([.ref h0]) (n := 1) (Nat.le_of_ble_eq_true rfl)
  rw [lg_entry_eq]
  generalize (lg_sl ([.ref h0]) ++ List.replicate (1 - (lg_sl ([.ref h0])).length) Slot.unset).toArray = ls at hl ⊢
  have hl : lv_has ls 1 [(0, .ref h0)] := hl
  refine lv_aload_n hx hb d_Tw_init_0 rfl (lv_at hl 0 rfl) ?_
  refine W.objInit hx hb hown (hts _ (nb_c nb_t252)) (hts _ (nb_c nb_t14)) (hts _ (nb_c nb_t15)) rfl (by rw [hml]; exact hl.1) rfl d_Tw_init_1 (Nat.le_of_ble_eq_true rfl) (Nat.le_of_ble_eq_true rfl) ?_
  refine W.eq (g2 := F0 m 4 ls []) rfl ?_
  refine lv_aload_n hx hb d_Tw_init_4 rfl (lv_at hl 0 rfl) ?_
  refine lv_bipush (v := 8) hx hb d_Tw_init_5 (by decide) ?_
  refine va_newa (atype := .long) (a0 := (8, .inr (.inl (fun _ => 0)))) (N' := 8) hx hb (hts _ (nb_c nb_t20)) (ty := .long) rfl hK hP hD hS hA (fun _ => rfl) (by decide) (by decide) (by decide) (Nat.le_of_ble_eq_true rfl) (Nat.le_of_ble_eq_true rfl) d_Tw_init_7 (fun q0 cA H hK hP hD hS => ?_)
  have hK : va_K (dC, dI) nb_cl [(cA, .long)] s := hK
  have hP : va_P (dC, dI) nb_cl [(h0, .inr (1, [.null])), (q0, .inl (cA, 8, .inr (.inl (fun _ => 0))))] H := hP
  have hD : va_D A [(h0, .inr (1, [.null])), (q0, .inl (cA, 8, .inr (.inl (fun _ => 0))))] := hD
  refine va_putF (D := (dC, dI)) (ci := 1) (v := .ref q0) (ty := .array .long) (C := "NumberBenchModel") (T := F_TW) (N := 1) hx hb hts nb_uT t_arr (by decide +kernel) (by decide +kernel) hown hK hP hD hS 0 rfl rfl 0 (by decide) (hts _ (nb_c nb_t253)) (fun _ h9 => h9) rfl hin rfl (by decide +kernel) rfl rfl (Nat.le_of_ble_eq_true rfl) d_Tw_init_9 (fun H locs hP hD hS => ?_)
  have hP : va_P (dC, dI) nb_cl (nb_w 1 h0 q0 cA (fun _ => 0)) H := hP
  have hD : va_D A (nb_w 1 h0 q0 cA (fun _ => 0)) := hD
  exact W.vret hx hb hr (fun t ht hW => ⟨⟨(), rfl, trivial, q0, cA, by rw [ht]; exact hP, va_K.moved hW.alike hK, hD⟩, hS.F ht⟩) hS.2.2 d_Tw_init_12
