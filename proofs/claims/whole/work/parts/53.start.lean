/-! The constants, out of what the Statement gives of the start -/
theorem lw_word {args : Array Value} {s : State} (htl : ∀ w ∈ lw_tbl, w.before args s = true) {w : Cond} (k : Nat) (h : tables_1[k]? = some w) : w.before args s = true := htl w (List.mem_append_right _ (List.mem_of_getElem? h))
set_option maxRecDepth 100000 in
theorem lw_F0 {args : Array Value} {s : State} {A : Nat → Prop} (hg : (Jvm.Cond.and given_1 narrow_1).before args s = true) (htl : ∀ w ∈ lw_tbl, w.before args s = true) (hA : ∀ a : Nat, a < s.heap.size → ¬ A a) : ∃ a : Nat, ∀ ad : Nat → Nat, ad 0 = a → nb_F ad 0 A s s.heap := by
  have hs := flat_of_before _ hg
  have hex : (Cond.exactly (Term.static "NumberBench$Form" "FLOATS" "LNumberBench$Form;") "NumberBench$Form").before args s = true := hs _ (by decide +kernel)
  obtain ⟨a, c, cell, k, q1, q2, q3, q4, q5, q6, -⟩ := Cond.exactly_spec hex
  refine ⟨a, fun ad had => ?_⟩
  subst had
  have h_fractionBits : (Cond.eq (.field (Term.static "NumberBench$Form" "FLOATS" "LNumberBench$Form;") "NumberBench$Form" "fractionBits" "I") (.int (23))).before args s = true := hs _ (by decide +kernel)
  have h_bias : (Cond.eq (.field (Term.static "NumberBench$Form" "FLOATS" "LNumberBench$Form;") "NumberBench$Form" "bias" "I") (.int (127))).before args s = true := hs _ (by decide +kernel)
  have h_topExponent : (Cond.eq (.field (Term.static "NumberBench$Form" "FLOATS" "LNumberBench$Form;") "NumberBench$Form" "topExponent" "I") (.int (255))).before args s = true := hs _ (by decide +kernel)
  have h_signBit : (Cond.eq (.field (Term.static "NumberBench$Form" "FLOATS" "LNumberBench$Form;") "NumberBench$Form" "signBit" "J") (.long (2147483648))).before args s = true := hs _ (by decide +kernel)
  have h_leastNormal : (Cond.eq (.field (Term.static "NumberBench$Form" "FLOATS" "LNumberBench$Form;") "NumberBench$Form" "leastNormal" "J") (.long (8388608))).before args s = true := hs _ (by decide +kernel)
  have h_infinity : (Cond.eq (.field (Term.static "NumberBench$Form" "FLOATS" "LNumberBench$Form;") "NumberBench$Form" "infinity" "J") (.long (2139095040))).before args s = true := hs _ (by decide +kernel)
  have h_noNumber : (Cond.eq (.field (Term.static "NumberBench$Form" "FLOATS" "LNumberBench$Form;") "NumberBench$Form" "noNumber" "J") (.long (2143289344))).before args s = true := hs _ (by decide +kernel)
  exact ⟨va_Zref (lw_word htl 153 (by decide +kernel)) (lw_word htl 4 (by decide +kernel)) q1 hA, va_Oof hex q1 hA, vk_OFof q1 (va_eqt h_fractionBits) hA, vk_OFof q1 (va_eqt h_bias) hA, vk_OFof q1 (va_eqt h_topExponent) hA, vk_OFof q1 (va_eqtl h_signBit) hA, vk_OFof q1 (va_eqtl h_leastNormal) hA, vk_OFof q1 (va_eqtl h_infinity) hA, vk_OFof q1 (va_eqtl h_noNumber) hA⟩
set_option maxRecDepth 100000 in
theorem lw_F1 {args : Array Value} {s : State} {A : Nat → Prop} (hg : (Jvm.Cond.and given_1 narrow_1).before args s = true) (htl : ∀ w ∈ lw_tbl, w.before args s = true) (hA : ∀ a : Nat, a < s.heap.size → ¬ A a) : ∃ a : Nat, ∀ ad : Nat → Nat, ad 1 = a → nb_F ad 1 A s s.heap := by
  have hs := flat_of_before _ hg
  have hex : (Cond.exactly (Term.static "NumberBench$Form" "DOUBLES" "LNumberBench$Form;") "NumberBench$Form").before args s = true := hs _ (by decide +kernel)
  obtain ⟨a, c, cell, k, q1, q2, q3, q4, q5, q6, -⟩ := Cond.exactly_spec hex
  refine ⟨a, fun ad had => ?_⟩
  subst had
  have h_fractionBits : (Cond.eq (.field (Term.static "NumberBench$Form" "DOUBLES" "LNumberBench$Form;") "NumberBench$Form" "fractionBits" "I") (.int (52))).before args s = true := hs _ (by decide +kernel)
  have h_bias : (Cond.eq (.field (Term.static "NumberBench$Form" "DOUBLES" "LNumberBench$Form;") "NumberBench$Form" "bias" "I") (.int (1023))).before args s = true := hs _ (by decide +kernel)
  have h_topExponent : (Cond.eq (.field (Term.static "NumberBench$Form" "DOUBLES" "LNumberBench$Form;") "NumberBench$Form" "topExponent" "I") (.int (2047))).before args s = true := hs _ (by decide +kernel)
  have h_signBit : (Cond.eq (.field (Term.static "NumberBench$Form" "DOUBLES" "LNumberBench$Form;") "NumberBench$Form" "signBit" "J") (.long (-9223372036854775808))).before args s = true := hs _ (by decide +kernel)
  have h_leastNormal : (Cond.eq (.field (Term.static "NumberBench$Form" "DOUBLES" "LNumberBench$Form;") "NumberBench$Form" "leastNormal" "J") (.long (4503599627370496))).before args s = true := hs _ (by decide +kernel)
  have h_infinity : (Cond.eq (.field (Term.static "NumberBench$Form" "DOUBLES" "LNumberBench$Form;") "NumberBench$Form" "infinity" "J") (.long (9218868437227405312))).before args s = true := hs _ (by decide +kernel)
  have h_noNumber : (Cond.eq (.field (Term.static "NumberBench$Form" "DOUBLES" "LNumberBench$Form;") "NumberBench$Form" "noNumber" "J") (.long (9221120237041090560))).before args s = true := hs _ (by decide +kernel)
  exact ⟨va_Zref (lw_word htl 29 (by decide +kernel)) (lw_word htl 4 (by decide +kernel)) q1 hA, va_Oof hex q1 hA, vk_OFof q1 (va_eqt h_fractionBits) hA, vk_OFof q1 (va_eqt h_bias) hA, vk_OFof q1 (va_eqt h_topExponent) hA, vk_OFof q1 (va_eqtl h_signBit) hA, vk_OFof q1 (va_eqtl h_leastNormal) hA, vk_OFof q1 (va_eqtl h_infinity) hA, vk_OFof q1 (va_eqtl h_noNumber) hA⟩
set_option maxRecDepth 100000 in
theorem lw_TPLACES {args : Array Value} {s : State} {A : Nat → Prop} (hg : (Jvm.Cond.and given_1 narrow_1).before args s = true) (htl : ∀ w ∈ lw_tbl, w.before args s = true) (hA : ∀ a : Nat, a < s.heap.size → ¬ A a) : ∃ a : Nat, nb_Ta "PLACES" tw_pl a A s s.heap := by
  have hs := flat_of_before _ hg
  have h1 : (Cond.arrayOf (Term.static "NumberBenchModel" "PLACES" "[I") .int).before args s = true := hs _ (by decide +kernel)
  have h2 : (Cond.eq (.length (Term.static "NumberBenchModel" "PLACES" "[I")) (.int 2)).before args s = true := hs _ (by decide +kernel)
  have e0 : (Cond.eq (.elem (Term.static "NumberBenchModel" "PLACES" "[I") (.int 0)) (.int (53))).before args s = true := hs _ (by decide +kernel)
  have e1 : (Cond.eq (.elem (Term.static "NumberBenchModel" "PLACES" "[I") (.int 1)) (.int (24))).before args s = true := hs _ (by decide +kernel)
  obtain ⟨a, ha, hT⟩ := va_Tof (N := 2) (f := fun j => .int (tw_pl j)) (A := A) (by decide) h1 (va_eqt h2) (fun j hj => by
    rcases (show j = 0 ∨ j = 1 by omega) with rfl | rfl
    · exact va_eqt e0
    · exact va_eqt e1) hA
  exact ⟨a, va_Zref (lw_word htl 309 (by decide +kernel)) (lw_word htl 2 (by decide +kernel)) ha hA, hT⟩
set_option maxRecDepth 100000 in
theorem lw_TLEAST {args : Array Value} {s : State} {A : Nat → Prop} (hg : (Jvm.Cond.and given_1 narrow_1).before args s = true) (htl : ∀ w ∈ lw_tbl, w.before args s = true) (hA : ∀ a : Nat, a < s.heap.size → ¬ A a) : ∃ a : Nat, nb_Ta "LEAST" tw_le a A s s.heap := by
  have hs := flat_of_before _ hg
  have h1 : (Cond.arrayOf (Term.static "NumberBenchModel" "LEAST" "[I") .int).before args s = true := hs _ (by decide +kernel)
  have h2 : (Cond.eq (.length (Term.static "NumberBenchModel" "LEAST" "[I")) (.int 2)).before args s = true := hs _ (by decide +kernel)
  have e0 : (Cond.eq (.elem (Term.static "NumberBenchModel" "LEAST" "[I") (.int 0)) (.int (-1074))).before args s = true := hs _ (by decide +kernel)
  have e1 : (Cond.eq (.elem (Term.static "NumberBenchModel" "LEAST" "[I") (.int 1)) (.int (-149))).before args s = true := hs _ (by decide +kernel)
  obtain ⟨a, ha, hT⟩ := va_Tof (N := 2) (f := fun j => .int (tw_le j)) (A := A) (by decide) h1 (va_eqt h2) (fun j hj => by
    rcases (show j = 0 ∨ j = 1 by omega) with rfl | rfl
    · exact va_eqt e0
    · exact va_eqt e1) hA
  exact ⟨a, va_Zref (lw_word htl 314 (by decide +kernel)) (lw_word htl 2 (by decide +kernel)) ha hA, hT⟩
set_option maxRecDepth 100000 in
theorem lw_TGREATEST {args : Array Value} {s : State} {A : Nat → Prop} (hg : (Jvm.Cond.and given_1 narrow_1).before args s = true) (htl : ∀ w ∈ lw_tbl, w.before args s = true) (hA : ∀ a : Nat, a < s.heap.size → ¬ A a) : ∃ a : Nat, nb_Ta "GREATEST" tw_gr a A s s.heap := by
  have hs := flat_of_before _ hg
  have h1 : (Cond.arrayOf (Term.static "NumberBenchModel" "GREATEST" "[I") .int).before args s = true := hs _ (by decide +kernel)
  have h2 : (Cond.eq (.length (Term.static "NumberBenchModel" "GREATEST" "[I")) (.int 2)).before args s = true := hs _ (by decide +kernel)
  have e0 : (Cond.eq (.elem (Term.static "NumberBenchModel" "GREATEST" "[I") (.int 0)) (.int (971))).before args s = true := hs _ (by decide +kernel)
  have e1 : (Cond.eq (.elem (Term.static "NumberBenchModel" "GREATEST" "[I") (.int 1)) (.int (104))).before args s = true := hs _ (by decide +kernel)
  obtain ⟨a, ha, hT⟩ := va_Tof (N := 2) (f := fun j => .int (tw_gr j)) (A := A) (by decide) h1 (va_eqt h2) (fun j hj => by
    rcases (show j = 0 ∨ j = 1 by omega) with rfl | rfl
    · exact va_eqt e0
    · exact va_eqt e1) hA
  exact ⟨a, va_Zref (lw_word htl 325 (by decide +kernel)) (lw_word htl 2 (by decide +kernel)) ha hA, hT⟩
theorem lw_consts {args : Array Value} {s : State} {A : Nat → Prop} (hg : (Jvm.Cond.and given_1 narrow_1).before args s = true) (htl : ∀ w ∈ lw_tbl, w.before args s = true) (hA : ∀ a : Nat, a < s.heap.size → ¬ A a) : ∃ ad : Nat → Nat, nb_C ad A s s.heap := by
  obtain ⟨a0, h0⟩ := lw_F0 hg htl hA
  obtain ⟨a1, h1⟩ := lw_F1 hg htl hA
  obtain ⟨a2, h2⟩ := lw_TPLACES hg htl hA
  obtain ⟨a3, h3⟩ := lw_TLEAST hg htl hA
  obtain ⟨a4, h4⟩ := lw_TGREATEST hg htl hA
  refine ⟨fun k => if k = 0 then a0 else if k = 1 then a1 else if k = 2 then a2 else if k = 3 then a3 else a4, fun i hi => ?_, h2, h3, h4, ?_⟩
  · rcases (show i = 0 ∨ i = 1 by omega) with rfl | rfl
    · exact h0 _ rfl
    · exact h1 _ rfl
  · exact ⟨va_Nw.of rfl (lw_word htl 433 (by decide +kernel)), va_Nw.of rfl (lw_word htl 434 (by decide +kernel))⟩
set_option maxHeartbeats 4000000 in
set_option maxRecDepth 100000 in
theorem whole_start {p : Program} {e : Env} {s : State} {m : MethodId} {below : List Frame} {meth : Method} {c : Code} (l : Launch) {b L : Nat} {xs : Nat → Int32} (hL : L ≤ 2560) (C0 : lw_At p s m meth c b L xs) : W p l e room_1 s m #[Value.ref b] below meth c s.heap [] 0 0 (lw_Z below #[Value.ref b] s) (entryFrame m ([Value.ref b] : List Value).toArray 4) := by
  have C1 := C0
  obtain ⟨hx, hb, hr, hml, hown, htl, hX, hbl, hlocks, hgv⟩ := C1
  have hts : ∀ w ∈ Cond.initialized "NumberBench" :: nb_tb, w.before #[Value.ref b] s = true := fun w hw => htl w (by
    rcases List.mem_cons.mp hw with q | q
    · rw [q]; exact (List.mem_filter.mp nb_t1).1
    · exact (List.mem_filter.mp q).1)
  obtain ⟨A, hAe⟩ : ∃ A : Nat → Prop, ∀ q, A q ↔ s.heap.size ≤ q := ⟨fun q => s.heap.size ≤ q, fun _ => Iff.rfl⟩
  have hA : ∀ q, s.heap.size ≤ q → A q := fun q h => (hAe q).mpr h
  have hAn : ∀ a : Nat, a < s.heap.size → ¬ A a := fun a h q => absurd h (Nat.not_lt.mpr ((hAe a).mp q))
  obtain ⟨ad, hC⟩ := lw_consts hgv htl hAn
  obtain ⟨cN, iN, hkN⟩ := u_known (C := "NumberBench") (T := F_NB) (N := 1) (n := 1) hts nb_uN (lw_word htl 9 (by decide +kernel))
  obtain ⟨cT, iT, hkT⟩ := u_known (C := "NumberBenchModel") (T := F_TW) (N := 1) (n := 1) hts nb_uT (lw_word htl 248 (by decide +kernel))
  obtain ⟨D, hD0, hD1⟩ : ∃ D : va_G, u_Kn s "NumberBench" F_NB 1 (D.1 0) (D.2 0) ∧ u_Kn s "NumberBenchModel" F_TW 1 (D.1 1) (D.2 1) := ⟨(fun k => if k = 0 then cN else cT, fun k => if k = 0 then iN else iT), hkN, hkT⟩
  have hK : va_K D nb_cl [] s := ⟨fun k q hq => by
    match k, hq with
    | 0, hq => cases hq; exact hD0
    | 1, hq => cases hq; exact hD1
    | k + 2, hq => simp at hq, fun k q h => by simp at h⟩
  have hP : va_P D nb_cl [] s.heap := fun k q h => by simp at h
  have hD : va_D A [] := ⟨fun i j p q h => by simp at h, fun k q h => by simp at h⟩
  have hS : va_S A s.heap s.heap [] := va_S.rf
  have hl := lv_entry ([.ref b]) (n := 4) (Nat.le_of_ble_eq_true rfl)
  rw [lg_entry_eq]
  generalize (lg_sl ([.ref b]) ++ List.replicate (4 - (lg_sl ([.ref b])).length) Slot.unset).toArray = ls at hl ⊢
  have hl : lv_has ls 4 [(0, .ref b)] := hl
  refine va_new (ci := 0) (fs := [.null]) (C := "NumberBench") (T := F_NB) (N := 1) hx hb hts nb_uN t_arr (by decide +kernel) hown (lw_word htl 8 (by decide +kernel)) (lw_word htl 9 (by decide +kernel)) (lw_word htl 1 (by decide +kernel)) hK hP hD hS hA rfl (fun j hj => by rcases (show j = 0 by omega) with rfl; rfl) (Nat.le_of_ble_eq_true rfl) (Nat.le_of_ble_eq_true rfl) d_law_0 (fun h1 H hP hD hS => ?_)
  have hP : va_P D nb_cl [(h1, .inr (0, [.null]))] H := hP
  have hD : va_D A [(h1, .inr (0, [.null]))] := hD
  refine lv_dup hx hb d_law_3 rfl ?_
  have hPc := hP.sub (ws' := [(h1, .inr (0, [.null]))]) [0] rfl
  have hDc := hD.sub (ws' := [(h1, .inr (0, [.null]))]) [0] (by decide) rfl
  have hKc := hK.sub (tys' := []) [] rfl
  have hFc := va_free (wc := [(h1, .inr (0, [.null]))]) hD hS hA [0] rfl
  refine va_callv (va_runI (As := []) (rest := [.ref h1]) ⟨hx, hb, hml, hown, hts⟩ (c_Nb_init l D.1 D.2 h1 H.size) ⟨callB_of 0 hts (nb_G nb_t12) rfl rfl rfl (hts _ (nb_c nb_t1)) (hts _ (nb_c nb_t10)) hd_Nb_init ⟨Nat.le_of_ble_eq_true rfl, Nat.le_of_ble_eq_true rfl⟩, rfl, hts _ (nb_c nb_t11)⟩ ⟨fun a U g mk q => by obtain ⟨q0, q1, qP, qK, qD⟩ := q; exact ⟨q0, q1, qP, va_K.moved (u := U) (U := U.calling g mk a) (Vm.Alike.refl U.vm) qK, qD⟩, fun U hU hW => ⟨rfl, by rw [hU], by rw [hU]; exact hPc, va_K.moved hW.alike hKc, hDc.weaken (fun _ _ _ _ => trivial)⟩⟩ rfl rfl hl.1 rfl (lv_room (Nat.le_of_ble_eq_true rfl)) d_law_4 ⟨Nat.le_of_ble_eq_true rfl, Nat.le_of_ble_eq_true rfl⟩) hS (fun q _ h => hFc q h) hFc (fun u t H1 locs ht hvm h5 hB hz1 hk1 hS => ?_)
  obtain ⟨q1, c1, hP1, hK1, hD1⟩ := hB
  rw [ht] at hP1
  have hK1 := va_K.moved hvm.symm hK1
  obtain ⟨hP, hD⟩ := va_join (wr := []) (w1 := nb_w 0 h1 q1 c1 (fun _ => 0)) hP hD [0] [] rfl rfl (by decide) (by decide) hk1 hFc hP1 hD1
  have hK : va_K D nb_cl [(c1, .long)] s := (hK.sub (tys' := []) [] rfl).app hK1
  have hP : va_P D nb_cl (nb_w 0 h1 q1 c1 (fun _ => 0)) H1 := hP
  have hD : va_D A (nb_w 0 h1 q1 c1 (fun _ => 0)) := hD
  generalize H1 = H at hP hS ⊢
  refine lv_astore_n hx hb d_law_7 rfl hl (by decide) rfl (fun ls hl => ?_)
  have hl : lv_has ls 4 [(1, .ref h1), (0, .ref b)] := hl
  refine va_new (ci := 1) (fs := [.null]) (C := "NumberBenchModel") (T := F_TW) (N := 1) hx hb hts nb_uT t_arr (by decide +kernel) hown (lw_word htl 247 (by decide +kernel)) (lw_word htl 248 (by decide +kernel)) (lw_word htl 2 (by decide +kernel)) hK hP hD hS hA rfl (fun j hj => by rcases (show j = 0 by omega) with rfl; rfl) (Nat.le_of_ble_eq_true rfl) (Nat.le_of_ble_eq_true rfl) d_law_8 (fun h2 H hP hD hS => ?_)
  have hP : va_P D nb_cl [(h1, .inr (0, [.ref q1])), (q1, .inl (c1, 8, .inr (.inl (fun _ => 0)))), (h2, .inr (1, [.null]))] H := hP
  have hD : va_D A [(h1, .inr (0, [.ref q1])), (q1, .inl (c1, 8, .inr (.inl (fun _ => 0)))), (h2, .inr (1, [.null]))] := hD
  refine lv_dup hx hb d_law_11 rfl ?_
  have hPc := hP.sub (ws' := [(h2, .inr (1, [.null]))]) [2] rfl
  have hDc := hD.sub (ws' := [(h2, .inr (1, [.null]))]) [2] (by decide) rfl
  have hKc := hK.sub (tys' := []) [] rfl
  have hFc := va_free (wc := [(h2, .inr (1, [.null]))]) hD hS hA [2] rfl
  refine va_callv (va_runI (As := []) (rest := [.ref h2]) ⟨hx, hb, hml, hown, hts⟩ (c_Tw_init l D.1 D.2 h2 H.size) ⟨callB_of 0 hts (nb_G nb_t251) rfl rfl rfl (hts _ (nb_c nb_t2)) (hts _ (nb_c nb_t249)) hd_Tw_init ⟨Nat.le_of_ble_eq_true rfl, Nat.le_of_ble_eq_true rfl⟩, rfl, hts _ (nb_c nb_t250)⟩ ⟨fun a U g mk q => by obtain ⟨q0, q1, qP, qK, qD⟩ := q; exact ⟨q0, q1, qP, va_K.moved (u := U) (U := U.calling g mk a) (Vm.Alike.refl U.vm) qK, qD⟩, fun U hU hW => ⟨rfl, by rw [hU], by rw [hU]; exact hPc, va_K.moved hW.alike hKc, hDc.weaken (fun _ _ _ _ => trivial)⟩⟩ rfl rfl hl.1 rfl (lv_room (Nat.le_of_ble_eq_true rfl)) d_law_12 ⟨Nat.le_of_ble_eq_true rfl, Nat.le_of_ble_eq_true rfl⟩) hS (fun q _ h => hFc q h) hFc (fun u t H1 locs ht hvm h5 hB hz1 hk1 hS => ?_)
  obtain ⟨q2, c2, hP1, hK1, hD1⟩ := hB
  rw [ht] at hP1
  have hK1 := va_K.moved hvm.symm hK1
  obtain ⟨hP, hD⟩ := va_join (wr := [(h1, .inr (0, [.ref q1])), (q1, .inl (c1, 8, .inr (.inl (fun _ => 0))))]) (w1 := nb_w 1 h2 q2 c2 (fun _ => 0)) hP hD [2] [0, 1] rfl rfl (by decide) (by decide) hk1 hFc hP1 hD1
  have hK : va_K D nb_cl [(c1, .long), (c2, .long)] s := hK.app hK1
  refine lv_astore_n hx hb d_law_15 rfl hl (by decide) rfl (fun ls hl => ?_)
  have hl : lv_has ls 4 [(2, .ref h2), (1, .ref h1), (0, .ref b)] := hl
  refine lv_iconst (v := nI 0) hx hb d_law_16 (by decide) ?_
  refine lv_istore_n hx hb d_law_17 rfl hl (by decide) rfl (fun ls hl => ?_)
  have hl : lv_has ls 4 [(3, .int (nI 0)), (2, .ref h2), (1, .ref h1), (0, .ref b)] := hl
  exact lw_loop l hL C0 hAe hC hK (L + 6) 0 (fun _ => 0) (fun _ => 0) H1 locs ls (by omega) (by omega) (fun _ => show (0 : Int64) = mf_Tw_told 0 by decide +kernel) hP hD hS (lv_sub hl [3, 2, 1, 0] rfl)
