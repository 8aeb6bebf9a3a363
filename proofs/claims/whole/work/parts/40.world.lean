/-! The two objects: each one cell with a reference to its array of eight longs f -/
def F_NB : u_T := fun _ => ("NumberBench", "stores", "[J", true)
def F_TW : u_T := fun _ => ("NumberBenchModel", "store", "[J", true)
def t_arr : Nat → FieldType := fun _ => .array .long
abbrev nb_cl : List vw_C := [("NumberBench", F_NB, 1), ("NumberBenchModel", F_TW, 1)]
abbrev nb_w (ci h0 q0 : Nat) (cA : ClassId) (f : Nat → Int64) : va_W := [(h0, .inr (ci, [.ref q0])), (q0, .inl (cA, 8, .inr (.inl f)))]
theorem nb_t17 : Cond.laysFinal "NumberBench" "NumberBench" "stores" "[J" ∈ nb_tb := nb_mem 17 (by decide +kernel) (by decide +kernel)
theorem nb_t254 : Cond.laysFinal "NumberBenchModel" "NumberBenchModel" "store" "[J" ∈ nb_tb := nb_mem 254 (by decide +kernel) (by decide +kernel)
theorem nb_uN {c : Cond} : ∀ w ∈ u_ws "NumberBench" F_NB 1, w ∈ c :: nb_tb := fun w h => by
  rw [show u_ws "NumberBench" F_NB 1 = [Cond.laysFinal "NumberBench" "NumberBench" "stores" "[J"] from rfl, List.mem_singleton] at h
  rw [h]
  exact nb_c nb_t17
theorem nb_uT {c : Cond} : ∀ w ∈ u_ws "NumberBenchModel" F_TW 1, w ∈ c :: nb_tb := fun w h => by
  rw [show u_ws "NumberBenchModel" F_TW 1 = [Cond.laysFinal "NumberBenchModel" "NumberBenchModel" "store" "[J"] from rfl, List.mem_singleton] at h
  rw [h]
  exact nb_c nb_t254
def nb_W (D : va_G) (ci h0 q0 : Nat) (cA : ClassId) (f : Nat → Int64) (ad : Nat → Nat) : State → Prop := fun U => va_P D nb_cl (nb_w ci h0 q0 cA f) U.heap ∧ va_K D nb_cl [(cA, .long)] U ∧ nb_K ad U
theorem nb_Wfb {D : va_G} {ci h0 q0 : Nat} {cA : ClassId} {f : Nat → Int64} {ad : Nat → Nat} {As : List Value} : FrameBlind (va_Pc As (nb_W D ci h0 q0 cA f ad)) := fun _ U g mk q => ⟨q.1, q.2.1, va_K.moved (u := U) (U := U.calling g mk _) (Vm.Alike.refl U.vm) q.2.2.1, nb_C.same (u := U) (U := U.calling g mk _) rfl q.2.2.2⟩
theorem nb_Wat {D : va_G} {ci h0 q0 : Nat} {cA : ClassId} {f : Nat → Int64} {ad : Nat → Nat} {A : Nat → Prop} {s U : State} {H : Heap} {locs : List Loc} (hP : va_P D nb_cl (nb_w ci h0 q0 cA f) H) (hK : va_K D nb_cl [(cA, .long)] s) (hC : nb_C ad A s s.heap) (hS : va_S A s.heap H locs) (hU : U.heap = H) (hW : s.WarmedH U.vm) : nb_W D ci h0 q0 cA f ad U :=
  ⟨by rw [hU]; exact hP, va_K.moved hW.alike hK, nb_at hC hS hU hW⟩
theorem nb_inL {i : Int32} (h : ¬ (i < 0 ∨ 8 ≤ i.toNatClampNeg)) : vp_in i 8 := h
theorem nb_in0 {i : Int32} (h : 0 ≤ i) (h8 : ¬ (8 : Int32) ≤ i) : vp_in i 8 := by
  rw [Int32.le_iff_toInt_le] at h h8
  rw [vp_in_iff]
  have e : (8 : Int32).toInt = 8 := rfl
  have e0 : (0 : Int32).toInt = 0 := rfl
  omega
theorem nb_in0e {i x : Int32} (hx : x = 8) (h : 0 ≤ i) (h8 : ¬ x ≤ i) : vp_in i 8 := by
  subst hx
  exact nb_in0 h h8
theorem nb_in6 {i : Int32} (h : i ≤ 6) (h0 : ¬ i < 0) : vp_in i 8 := by
  rw [Int32.le_iff_toInt_le] at h
  rw [Int32.lt_iff_toInt_lt] at h0
  rw [vp_in_iff]
  have e : (6 : Int32).toInt = 6 := rfl
  have e0 : (0 : Int32).toInt = 0 := rfl
  omega
theorem nb_inS {k : Int32} (h : ¬ mf_Nb_isStore k = 0) : vp_in k 8 := by
  unfold mf_Nb_isStore at h
  by_cases h1 : k < 0
  · rw [if_pos h1] at h
    exact absurd rfl h
  · rw [if_neg h1] at h
    by_cases h2 : (8 : Int32) ≤ k
    · rw [if_pos h2] at h
      exact absurd rfl h
    · refine nb_in0 ?_ h2
      rw [Int32.lt_iff_toInt_lt] at h1
      rw [Int32.le_iff_toInt_le]
      omega
theorem tw_inS {k : Int32} (h : ¬ mf_Tw_in k (8 : Int32) = 0) : vp_in k 8 := nb_inS h
theorem lp_dnle {x M : Int32} (h : x ≤ M) (h0 : ¬ x < 0) : x + (-1) ≤ M := by
  rw [Int32.lt_iff_toInt_lt, show (0 : Int32).toInt = 0 from rfl] at h0
  rw [Int32.le_iff_toInt_le] at h ⊢
  have h2 := x.toInt_lt
  have e : (x + (-1)).toInt = x.toInt + (-1) := by
    rw [show (-1 : Int32) = iI (-1) by decide]
    exact lp_add (by omega) (by omega)
  rw [e]
  omega
theorem lp_upge {x K : Int32} (h : 0 ≤ x) (h8 : ¬ K ≤ x) : 0 ≤ x + 1 := by
  rw [Int32.le_iff_toInt_le, show (0 : Int32).toInt = 0 from rfl] at h ⊢
  rw [Int32.le_iff_toInt_le] at h8
  have h2 := K.toInt_lt
  have e : (x + 1).toInt = x.toInt + 1 := lp_add (n := 1) (by omega) (by omega)
  rw [e]
  omega
section NBT
variable {p : Program} {l : Launch} {e : Env} {R : Room} {s : State} {m : MethodId} {args : Array Value} {below : List Frame} {meth : Method} {c : Code} {Q : State → Prop} {cc : ByteArray} {pc : Nat} {ls : Array Slot} {rest st0 As : List Value} {cw : Cond} {ad : Nat → Nat} {y : MethodName} {bytes : ByteArray} {maxL nL n index : Nat} {ret : Option FieldType} {rm : Room} {own : String} {D : va_G} {h0 q0 : Nat} {cA : ClassId} {f : Nat → Int64}
/-- the class's own method, on itself, that writes nothing -/
theorem nb_callTl {v : Int64} (hx : p.tables.exec = Jvm.exec) (hb : c.code = cc) (hml : c.maxLocals = nL) (hown : s.vm.findClass own = some m.cls) (hts : ∀ w ∈ cw :: nb_tb, w.before args s = true) (hM : Met l y (Cond.code y bytes maxL ret :: nb_tb) rm (va_Pc (.ref h0 :: As) (nb_W D 0 h0 q0 cA f ad)) (vp_Sl (fun r => r = v)) 0 0 (fun _ => False))
    (m1 : Cond.methodLink own index y ∈ nb_tb) (m2 : Cond.instanceMethod y ∈ nb_tb) (m5 : Cond.selects "NumberBench" y y ∈ nb_tb) (m3 : Cond.initialized y.cls ∈ nb_tb) (m4 : Cond.code y bytes maxL ret ∈ nb_tb) (hd : y.cls ≠ "java/lang/invoke/MethodHandle" ∧ y.cls ≠ "java/lang/invoke/VarHandle" ∧ (parseMethodDescriptor y.desc).map (fun d => d.parameters.length) = some n) (hn : As.length = n) (hR : rm.frames + 1 ≤ R.frames ∧ 8 + (maxL + 11) + rm.locals ≤ R.locals) (hrm : rm.cells = 0 ∧ rm.slots = 0)
    (hP : va_P D nb_cl (nb_w 0 h0 q0 cA f) s.heap) (hK : va_K D nb_cl [(cA, .long)] s) (hC : nb_C ad (fun _ => False) s s.heap) (hls : ls.size = nL) (hst : st0 = As.reverse ++ .ref h0 :: rest) (hW : (rest.map fun v => v.category).sum ≤ 8) (hcs : 0 ≤ R.cells ∧ 0 ≤ R.slots) (hdg : decode cc pc = .ok (.invokevirtual index, 3)) (kk : W p l e R s m args below meth c s.heap [] 0 0 Q (F0 m (pc + 3) ls (.long v :: rest))) : W p l e R s m args below meth c s.heap [] 0 0 Q (F0 m pc ls st0) :=
  vp_callSl (W.runV ⟨hx, hb, hml, hown, hts⟩ hM ⟨callB_of n hts (nb_G m4) rfl hrm.1 hrm.2 (hts _ (nb_c m3)) (hts _ (nb_c m1)) hd hR, hts _ (nb_c m2), hts _ (nb_c m5)⟩ ⟨nb_Wfb, va_recv (ci := 0) (q0 := 0) hK hP rfl rfl, fun _ hU hW => ⟨rfl, nb_Wat hP hK hC va_S.rf hU hW⟩⟩ rfl hn hls hst (lv_room hW) hdg hcs) (fun _ hr => by subst hr; exact kk)
end NBT
