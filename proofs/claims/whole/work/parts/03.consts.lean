/-! What is never written: the two constants of Form with their fields, the reference's three static arrays; and calls that leave the heap as it was -/
def fo_nm (i : Nat) : String := if i = 0 then "FLOATS" else "DOUBLES"
def fo_fb (i : Nat) : Int32 := if i = 0 then 23 else 52
def fo_bias (i : Nat) : Int32 := if i = 0 then 127 else 1023
def fo_top (i : Nat) : Int32 := if i = 0 then 255 else 2047
def fo_sign (i : Nat) : Int64 := if i = 0 then 2147483648 else -9223372036854775808
def fo_least (i : Nat) : Int64 := if i = 0 then 8388608 else 4503599627370496
def fo_inf (i : Nat) : Int64 := if i = 0 then 2139095040 else 9218868437227405312
def fo_nan (i : Nat) : Int64 := if i = 0 then 2143289344 else 9221120237041090560
def tw_pl (i : Nat) : Int32 := if i = 0 then 53 else 24
def tw_le (i : Nat) : Int32 := if i = 0 then -1074 else -149
def tw_gr (i : Nat) : Int32 := if i = 0 then 971 else 104
def nb_F (ad : Nat → Nat) (i : Nat) (A : Nat → Prop) (U : State) (H : Heap) : Prop :=
  va_Z "NumberBench$Form" (fo_nm i) "LNumberBench$Form;" (.ref (ad i)) A U H ∧ va_O "NumberBench$Form" (ad i) A U H ∧
  va_OF "NumberBench$Form" "fractionBits" "I" (.int (fo_fb i)) (ad i) A U H ∧ va_OF "NumberBench$Form" "bias" "I" (.int (fo_bias i)) (ad i) A U H ∧ va_OF "NumberBench$Form" "topExponent" "I" (.int (fo_top i)) (ad i) A U H ∧
  va_OF "NumberBench$Form" "signBit" "J" (.long (fo_sign i)) (ad i) A U H ∧ va_OF "NumberBench$Form" "leastNormal" "J" (.long (fo_least i)) (ad i) A U H ∧ va_OF "NumberBench$Form" "infinity" "J" (.long (fo_inf i)) (ad i) A U H ∧ va_OF "NumberBench$Form" "noNumber" "J" (.long (fo_nan i)) (ad i) A U H
theorem nb_F.map {ad : Nat → Nat} {i : Nat} {A B : Nat → Prop} {u U : State} {H H1 : Heap} (hz : ∀ {C n d v}, va_Z C n d v A u H → va_Z C n d v B U H1) (ho : ∀ {E t}, va_O E t A u H → va_O E t B U H1) (hf : ∀ {o n d v t}, va_OF o n d v t A u H → va_OF o n d v t B U H1) (h : nb_F ad i A u H) : nb_F ad i B U H1 := by
  obtain ⟨h1, h2, h3, h4, h5, h6, h7, h8, h9⟩ := h
  exact ⟨hz h1, ho h2, hf h3, hf h4, hf h5, hf h6, hf h7, hf h8, hf h9⟩
def nb_Ta (n : String) (f : Nat → Int32) (a : Nat) (A : Nat → Prop) (U : State) (H : Heap) : Prop := va_Z "NumberBenchModel" n "[I" (.ref a) A U H ∧ va_T .int a 2 (fun j => .int (f j)) A U H
def nb_Nw (U : State) : Prop := va_Nw (.fieldLinkNest "NumberBench" 112 "NumberBench$Form" "infinity" "J" "NumberBench") U ∧ va_Nw (.fieldLinkNest "NumberBench" 122 "NumberBench$Form" "noNumber" "J" "NumberBench") U
def nb_C (ad : Nat → Nat) (A : Nat → Prop) (U : State) (H : Heap) : Prop :=
  (∀ i, i < 2 → nb_F ad i A U H) ∧ nb_Ta "PLACES" tw_pl (ad 2) A U H ∧ nb_Ta "LEAST" tw_le (ad 3) A U H ∧ nb_Ta "GREATEST" tw_gr (ad 4) A U H ∧ nb_Nw U
theorem nb_C.kept {ad : Nat → Nat} {A : Nat → Prop} {U : State} {H H1 : Heap} (h : nb_C ad A U H) (hq : ∀ a : Nat, a < H.size → ¬ A a → H1[a]? = H[a]?) : nb_C ad A U H1 := by
  obtain ⟨h1, ⟨a1, b1⟩, ⟨a2, b2⟩, ⟨a3, b3⟩, hn⟩ := h
  exact ⟨fun i hi => (h1 i hi).map (fun z => z.kept hq) (fun z => z.kept hq) (fun z => z.kept hq), ⟨a1.kept hq, b1.kept hq⟩, ⟨a2.kept hq, b2.kept hq⟩, ⟨a3.kept hq, b3.kept hq⟩, hn⟩
theorem nb_C.narrow {ad : Nat → Nat} {A B : Nat → Prop} {U : State} {H : Heap} (h : nb_C ad A U H) (hAB : ∀ q, B q → A q) : nb_C ad B U H := by
  obtain ⟨h1, ⟨a1, b1⟩, ⟨a2, b2⟩, ⟨a3, b3⟩, hn⟩ := h
  exact ⟨fun i hi => (h1 i hi).map (fun z => z.narrow hAB) (fun z => z.narrow hAB) (fun z => z.narrow hAB), ⟨a1.narrow hAB, b1.narrow hAB⟩, ⟨a2.narrow hAB, b2.narrow hAB⟩, ⟨a3.narrow hAB, b3.narrow hAB⟩, hn⟩
theorem nb_C.go {ad : Nat → Nat} {A : Nat → Prop} {s U : State} {H : Heap} (hW : s.WarmedH U.vm) (h : nb_C ad A s H) : nb_C ad A U H := by
  obtain ⟨h1, ⟨a1, b1⟩, ⟨a2, b2⟩, ⟨a3, b3⟩, n1, n2⟩ := h
  have hv := hW.alike
  exact ⟨fun i hi => (h1 i hi).map (fun z => va_Z.moved hv z) (fun z => va_O.moved hv z) (fun z => va_OF.moved hv z), ⟨va_Z.moved hv a1, va_T.moved hv b1⟩, ⟨va_Z.moved hv a2, va_T.moved hv b2⟩, ⟨va_Z.moved hv a3, va_T.moved hv b3⟩, va_Nw.warmF hW n1, va_Nw.warmF hW n2⟩
theorem nb_C.same {ad : Nat → Nat} {A : Nat → Prop} {u U : State} {H : Heap} (hv : u.vm = U.vm) (h : nb_C ad A u H) : nb_C ad A U H := by
  obtain ⟨h1, ⟨a1, b1⟩, ⟨a2, b2⟩, ⟨a3, b3⟩, n1, n2⟩ := h
  have hw : u.vm.Alike U.vm := by rw [hv]; exact Vm.Alike.refl _
  exact ⟨fun i hi => (h1 i hi).map (fun z => va_Z.moved hw z) (fun z => va_O.moved hw z) (fun z => va_OF.moved hw z), ⟨va_Z.moved hw a1, va_T.moved hw b1⟩, ⟨va_Z.moved hw a2, va_T.moved hw b2⟩, ⟨va_Z.moved hw a3, va_T.moved hw b3⟩, va_Nw.same rfl hv n1, va_Nw.same rfl hv n2⟩
def nb_K (ad : Nat → Nat) : State → Prop := fun U => nb_C ad (fun _ => False) U U.heap
theorem nb_fb {ad : Nat → Nat} {As : List Value} : FrameBlind (va_Pc As (nb_K ad)) := fun _ U g mk q => ⟨q.1, nb_C.same (u := U) (U := U.calling g mk _) rfl q.2⟩
theorem nb_at {ad : Nat → Nat} {A : Nat → Prop} {s U : State} {H : Heap} {locs : List Loc} (hC : nb_C ad A s s.heap) (hS : va_S A s.heap H locs) (hU : U.heap = H) (hW : s.WarmedH U.vm) : nb_K ad U := by
  show nb_C ad (fun _ => False) U U.heap
  rw [hU]
  exact ((hC.kept hS.2.1).go hW).narrow (fun _ h => h.elim)
theorem nb_Z0 {ad : Nat → Nat} {A : Nat → Prop} {U : State} {H : Heap} (h : nb_C ad A U H) : va_Z "NumberBench$Form" "FLOATS" "LNumberBench$Form;" (.ref (ad 0)) A U H := (h.1 0 (by decide)).1
theorem nb_Z1 {ad : Nat → Nat} {A : Nat → Prop} {U : State} {H : Heap} (h : nb_C ad A U H) : va_Z "NumberBench$Form" "DOUBLES" "LNumberBench$Form;" (.ref (ad 1)) A U H := (h.1 1 (by decide)).1
theorem nb_ZPl {ad : Nat → Nat} {A : Nat → Prop} {U : State} {H : Heap} (h : nb_C ad A U H) : va_Z "NumberBenchModel" "PLACES" "[I" (.ref (ad 2)) A U H := h.2.1.1
theorem nb_ZLe {ad : Nat → Nat} {A : Nat → Prop} {U : State} {H : Heap} (h : nb_C ad A U H) : va_Z "NumberBenchModel" "LEAST" "[I" (.ref (ad 3)) A U H := h.2.2.1.1
theorem nb_ZGr {ad : Nat → Nat} {A : Nat → Prop} {U : State} {H : Heap} (h : nb_C ad A U H) : va_Z "NumberBenchModel" "GREATEST" "[I" (.ref (ad 4)) A U H := h.2.2.2.1.1
theorem nb_TPl {ad : Nat → Nat} {A : Nat → Prop} {U : State} {H : Heap} (h : nb_C ad A U H) : va_T .int (ad 2) 2 (fun j => .int (tw_pl j)) A U H := h.2.1.2
theorem nb_TLe {ad : Nat → Nat} {A : Nat → Prop} {U : State} {H : Heap} (h : nb_C ad A U H) : va_T .int (ad 3) 2 (fun j => .int (tw_le j)) A U H := h.2.2.1.2
theorem nb_TGr {ad : Nat → Nat} {A : Nat → Prop} {U : State} {H : Heap} (h : nb_C ad A U H) : va_T .int (ad 4) 2 (fun j => .int (tw_gr j)) A U H := h.2.2.2.1.2
theorem nb_f_fb {ad : Nat → Nat} {A : Nat → Prop} {U : State} {H : Heap} {i : Nat} (h : nb_C ad A U H) (hi : i < 2) : va_OF "NumberBench$Form" "fractionBits" "I" (.int (fo_fb i)) (ad i) A U H := (h.1 i hi).2.2.1
theorem nb_f_bias {ad : Nat → Nat} {A : Nat → Prop} {U : State} {H : Heap} {i : Nat} (h : nb_C ad A U H) (hi : i < 2) : va_OF "NumberBench$Form" "bias" "I" (.int (fo_bias i)) (ad i) A U H := (h.1 i hi).2.2.2.1
theorem nb_f_top {ad : Nat → Nat} {A : Nat → Prop} {U : State} {H : Heap} {i : Nat} (h : nb_C ad A U H) (hi : i < 2) : va_OF "NumberBench$Form" "topExponent" "I" (.int (fo_top i)) (ad i) A U H := (h.1 i hi).2.2.2.2.1
theorem nb_f_sign {ad : Nat → Nat} {A : Nat → Prop} {U : State} {H : Heap} {i : Nat} (h : nb_C ad A U H) (hi : i < 2) : va_OF "NumberBench$Form" "signBit" "J" (.long (fo_sign i)) (ad i) A U H := (h.1 i hi).2.2.2.2.2.1
theorem nb_f_least {ad : Nat → Nat} {A : Nat → Prop} {U : State} {H : Heap} {i : Nat} (h : nb_C ad A U H) (hi : i < 2) : va_OF "NumberBench$Form" "leastNormal" "J" (.long (fo_least i)) (ad i) A U H := (h.1 i hi).2.2.2.2.2.2.1
theorem nb_f_inf {ad : Nat → Nat} {A : Nat → Prop} {U : State} {H : Heap} {i : Nat} (h : nb_C ad A U H) (hi : i < 2) : va_OF "NumberBench$Form" "infinity" "J" (.long (fo_inf i)) (ad i) A U H := (h.1 i hi).2.2.2.2.2.2.2.1
theorem nb_f_nan {ad : Nat → Nat} {A : Nat → Prop} {U : State} {H : Heap} {i : Nat} (h : nb_C ad A U H) (hi : i < 2) : va_OF "NumberBench$Form" "noNumber" "J" (.long (fo_nan i)) (ad i) A U H := (h.1 i hi).2.2.2.2.2.2.2.2
theorem nb_N_inf {ad : Nat → Nat} {A : Nat → Prop} {U : State} {H : Heap} (h : nb_C ad A U H) : va_Nw (.fieldLinkNest "NumberBench" 112 "NumberBench$Form" "infinity" "J" "NumberBench") U := h.2.2.2.2.1
theorem nb_N_nan {ad : Nat → Nat} {A : Nat → Prop} {U : State} {H : Heap} (h : nb_C ad A U H) : va_Nw (.fieldLinkNest "NumberBench" 122 "NumberBench$Form" "noNumber" "J" "NumberBench") U := h.2.2.2.2.2
theorem nb_in2 {f : Nat} (h : f < 2) : vp_in (nI f) 2 := vp_in_nI h (by decide)
theorem nb_cl2 {f : Nat} (h : f < 2) {g : Nat → Int32} : (fun j => Value.int (g j)) (nI f).toNatClampNeg = Value.int (g f) := by
  rw [nI_clamp (show f < 2 ^ 31 by omega)]
section NBC
variable {p : Program} {l : Launch} {e : Env} {R : Room} {s : State} {m : MethodId} {args : Array Value} {below : List Frame} {meth : Method} {c : Code} {H : Heap} {locs : List Loc} {cells slots : Nat} {Q : State → Prop} {cc : ByteArray} {pc : Nat} {ls : Array Slot} {rest st0 As : List Value} {cw : Cond} {A : Nat → Prop} {ad : Nat → Nat} {y : MethodName} {bytes : ByteArray} {maxL nL n index : Nat} {ret : Option FieldType} {rm : Room} {own : String}
theorem nb_callSl {v : Int64} (hx : p.tables.exec = Jvm.exec) (hb : c.code = cc) (hml : c.maxLocals = nL) (hown : s.vm.findClass own = some m.cls) (hts : ∀ w ∈ cw :: nb_tb, w.before args s = true) (hM : Met l y (Cond.code y bytes maxL ret :: nb_tb) rm (va_Pc As (nb_K ad)) (vp_Sl (fun r => r = v)) 0 0 (fun _ => False))
    (m1 : Cond.methodLink own index y ∈ nb_tb) (m2 : Cond.static y ∈ nb_tb) (m3 : Cond.initialized y.cls ∈ nb_tb) (m4 : Cond.code y bytes maxL ret ∈ nb_tb) (hd : y.cls ≠ "java/lang/invoke/MethodHandle" ∧ y.cls ≠ "java/lang/invoke/VarHandle" ∧ (parseMethodDescriptor y.desc).map (fun d => d.parameters.length) = some n) (hn : As.length = n) (hR : rm.frames + 1 ≤ R.frames ∧ 8 + (maxL + 11) + rm.locals ≤ R.locals) (hrm : rm.cells = 0 ∧ rm.slots = 0)
    (hC : nb_C ad A s s.heap) (hS : va_S A s.heap H locs) (hls : ls.size = nL) (hst : st0 = As.reverse ++ rest) (hW : (rest.map fun v => v.category).sum ≤ 8) (hcs : cells ≤ R.cells ∧ slots ≤ R.slots) (hdg : decode cc pc = .ok (.invokestatic index, 3)) (kk : W p l e R s m args below meth c H locs cells slots Q (F0 m (pc + 3) ls (.long v :: rest))) : W p l e R s m args below meth c H locs cells slots Q (F0 m pc ls st0) :=
  vp_callSl (W.runS ⟨hx, hb, hml, hown, hts⟩ hM ⟨callB_of n hts (nb_G m4) rfl hrm.1 hrm.2 (hts _ (nb_c m3)) (hts _ (nb_c m1)) hd hR, hts _ (nb_c m2)⟩ ⟨nb_fb, fun _ hU hW => ⟨rfl, nb_at hC hS hU hW⟩⟩ rfl hn hls hst (lv_room hW) hdg hcs) (fun _ hr => by subst hr; exact kk)
theorem nb_callSi {v : Int32} (hx : p.tables.exec = Jvm.exec) (hb : c.code = cc) (hml : c.maxLocals = nL) (hown : s.vm.findClass own = some m.cls) (hts : ∀ w ∈ cw :: nb_tb, w.before args s = true) (hM : Met l y (Cond.code y bytes maxL ret :: nb_tb) rm (va_Pc As (nb_K ad)) (vp_Si (fun r => r = v)) 0 0 (fun _ => False))
    (m1 : Cond.methodLink own index y ∈ nb_tb) (m2 : Cond.static y ∈ nb_tb) (m3 : Cond.initialized y.cls ∈ nb_tb) (m4 : Cond.code y bytes maxL ret ∈ nb_tb) (hd : y.cls ≠ "java/lang/invoke/MethodHandle" ∧ y.cls ≠ "java/lang/invoke/VarHandle" ∧ (parseMethodDescriptor y.desc).map (fun d => d.parameters.length) = some n) (hn : As.length = n) (hR : rm.frames + 1 ≤ R.frames ∧ 8 + (maxL + 11) + rm.locals ≤ R.locals) (hrm : rm.cells = 0 ∧ rm.slots = 0)
    (hC : nb_C ad A s s.heap) (hS : va_S A s.heap H locs) (hls : ls.size = nL) (hst : st0 = As.reverse ++ rest) (hW : (rest.map fun v => v.category).sum ≤ 8) (hcs : cells ≤ R.cells ∧ slots ≤ R.slots) (hdg : decode cc pc = .ok (.invokestatic index, 3)) (kk : W p l e R s m args below meth c H locs cells slots Q (F0 m (pc + 3) ls (.int v :: rest))) : W p l e R s m args below meth c H locs cells slots Q (F0 m pc ls st0) :=
  vp_callSi (W.runS ⟨hx, hb, hml, hown, hts⟩ hM ⟨callB_of n hts (nb_G m4) rfl hrm.1 hrm.2 (hts _ (nb_c m3)) (hts _ (nb_c m1)) hd hR, hts _ (nb_c m2)⟩ ⟨nb_fb, fun _ hU hW => ⟨rfl, nb_at hC hS hU hW⟩⟩ rfl hn hls hst (lv_room hW) hdg hcs) (fun _ hr => by subst hr; exact kk)
theorem nb_recv {i : Nat} (hC : nb_C ad A s s.heap) (hi : i < 2) (hS : va_S A s.heap H locs) : ∃ cell : Cell, H[ad i]? = some cell ∧ cell.vm.isStatics = false ∧ s.vm.findClass "NumberBench$Form" = some cell.cls := va_Orecv (hC.1 i hi).2.1 hS
theorem nb_callVl {v : Int64} {i : Nat} (hx : p.tables.exec = Jvm.exec) (hb : c.code = cc) (hml : c.maxLocals = nL) (hown : s.vm.findClass own = some m.cls) (hts : ∀ w ∈ cw :: nb_tb, w.before args s = true) (hM : Met l y (Cond.code y bytes maxL ret :: nb_tb) rm (va_Pc (.ref (ad i) :: As) (nb_K ad)) (vp_Sl (fun r => r = v)) 0 0 (fun _ => False))
    (m1 : Cond.methodLink own index y ∈ nb_tb) (m2 : Cond.instanceMethod y ∈ nb_tb) (m5 : Cond.selects "NumberBench$Form" y y ∈ nb_tb) (hi : i < 2) (m3 : Cond.initialized y.cls ∈ nb_tb) (m4 : Cond.code y bytes maxL ret ∈ nb_tb) (hd : y.cls ≠ "java/lang/invoke/MethodHandle" ∧ y.cls ≠ "java/lang/invoke/VarHandle" ∧ (parseMethodDescriptor y.desc).map (fun d => d.parameters.length) = some n) (hn : As.length = n) (hR : rm.frames + 1 ≤ R.frames ∧ 8 + (maxL + 11) + rm.locals ≤ R.locals) (hrm : rm.cells = 0 ∧ rm.slots = 0)
    (hC : nb_C ad A s s.heap) (hS : va_S A s.heap H locs) (hls : ls.size = nL) (hst : st0 = As.reverse ++ .ref (ad i) :: rest) (hW : (rest.map fun v => v.category).sum ≤ 8) (hcs : cells ≤ R.cells ∧ slots ≤ R.slots) (hdg : decode cc pc = .ok (.invokevirtual index, 3)) (kk : W p l e R s m args below meth c H locs cells slots Q (F0 m (pc + 3) ls (.long v :: rest))) : W p l e R s m args below meth c H locs cells slots Q (F0 m pc ls st0) :=
  vp_callSl (W.runV ⟨hx, hb, hml, hown, hts⟩ hM ⟨callB_of n hts (nb_G m4) rfl hrm.1 hrm.2 (hts _ (nb_c m3)) (hts _ (nb_c m1)) hd hR, hts _ (nb_c m2), hts _ (nb_c m5)⟩ ⟨nb_fb, nb_recv hC hi hS, fun _ hU hW => ⟨rfl, nb_at hC hS hU hW⟩⟩ rfl hn hls hst (lv_room hW) hdg hcs) (fun _ hr => by subst hr; exact kk)
theorem nb_callVi {v : Int32} {i : Nat} (hx : p.tables.exec = Jvm.exec) (hb : c.code = cc) (hml : c.maxLocals = nL) (hown : s.vm.findClass own = some m.cls) (hts : ∀ w ∈ cw :: nb_tb, w.before args s = true) (hM : Met l y (Cond.code y bytes maxL ret :: nb_tb) rm (va_Pc (.ref (ad i) :: As) (nb_K ad)) (vp_Si (fun r => r = v)) 0 0 (fun _ => False))
    (m1 : Cond.methodLink own index y ∈ nb_tb) (m2 : Cond.instanceMethod y ∈ nb_tb) (m5 : Cond.selects "NumberBench$Form" y y ∈ nb_tb) (hi : i < 2) (m3 : Cond.initialized y.cls ∈ nb_tb) (m4 : Cond.code y bytes maxL ret ∈ nb_tb) (hd : y.cls ≠ "java/lang/invoke/MethodHandle" ∧ y.cls ≠ "java/lang/invoke/VarHandle" ∧ (parseMethodDescriptor y.desc).map (fun d => d.parameters.length) = some n) (hn : As.length = n) (hR : rm.frames + 1 ≤ R.frames ∧ 8 + (maxL + 11) + rm.locals ≤ R.locals) (hrm : rm.cells = 0 ∧ rm.slots = 0)
    (hC : nb_C ad A s s.heap) (hS : va_S A s.heap H locs) (hls : ls.size = nL) (hst : st0 = As.reverse ++ .ref (ad i) :: rest) (hW : (rest.map fun v => v.category).sum ≤ 8) (hcs : cells ≤ R.cells ∧ slots ≤ R.slots) (hdg : decode cc pc = .ok (.invokevirtual index, 3)) (kk : W p l e R s m args below meth c H locs cells slots Q (F0 m (pc + 3) ls (.int v :: rest))) : W p l e R s m args below meth c H locs cells slots Q (F0 m pc ls st0) :=
  vp_callSi (W.runV ⟨hx, hb, hml, hown, hts⟩ hM ⟨callB_of n hts (nb_G m4) rfl hrm.1 hrm.2 (hts _ (nb_c m3)) (hts _ (nb_c m1)) hd hR, hts _ (nb_c m2), hts _ (nb_c m5)⟩ ⟨nb_fb, nb_recv hC hi hS, fun _ hU hW => ⟨rfl, nb_at hC hS hU hW⟩⟩ rfl hn hls hst (lv_room hW) hdg hcs) (fun _ hr => by subst hr; exact kk)
end NBC
