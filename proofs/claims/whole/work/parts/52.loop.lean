/-! The law's loop -/
theorem lw_len {L i : Nat} (hL : L ≤ 2560) (hi : i ≤ 2565) (h : ¬ Int32.ofNat L - 5 < nI i) : i + 5 ≤ L := by
  have e : Int32.ofNat L - 5 = iI ((L : Int) - 5) := by
    rw [show Int32.ofNat L = iI (L : Int) from iI_n L, show (5 : Int32) = iI 5 from rfl, iI_sub]
  rw [e, iI_n, iI_lt (by omega) (by omega) (by omega) (by omega)] at h
  omega
theorem lw_at0 {L i : Nat} (hL : L ≤ 2560) (h : i + 5 ≤ L) : vp_in (nI i) L := vp_in_nI (by omega) (by omega)
theorem lw_atj {L i j : Nat} (hL : L ≤ 2560) (h : i + 5 ≤ L) (hj : j < 5) : vp_in (nI i + nI j) L := by
  rw [nI_add]
  exact vp_in_nI (by omega) (by omega)
def lw_v (xs : Nat → Int32) (i j : Nat) : Int32 := xs (nI i + nI j).toNatClampNeg
def lw_l (xs : Nat → Int32) (i j : Nat) : Int64 := (lw_v xs i j).toInt64 <<< ((32 : Int32).toInt64 &&& 63) ||| (lw_v xs i (j + 1)).toInt64 &&& 4294967295
set_option maxHeartbeats 4000000 in
set_option maxRecDepth 100000 in
theorem lw_loop {p : Program} {e : Env} {s : State} {m : MethodId} {below : List Frame} {meth : Method} {c : Code} (l : Launch) {b L : Nat} {xs : Nat → Int32} (hL : L ≤ 2560) (C0 : lw_At p s m meth c b L xs) {ad : Nat → Nat} {D : va_G} {h1 q1 h2 q2 : Nat} {c1 c2 : ClassId} {A : Nat → Prop} (hAe : ∀ q, A q ↔ s.heap.size ≤ q) (hC : nb_C ad A s s.heap) (hK : va_K D nb_cl [(c1, .long), (c2, .long)] s) : ∀ (fuel i : Nat) (g f : Nat → Int64) (H : Heap) (locs : List Loc) (ls : Array Slot), L + 5 - i < fuel → i ≤ L + 4 → nb_R g f → va_P D nb_cl (nb_w 0 h1 q1 c1 g ++ nb_w 1 h2 q2 c2 f) H → va_D A (nb_w 0 h1 q1 c1 g ++ nb_w 1 h2 q2 c2 f) → va_S A s.heap H locs → lv_has ls 4 [(0, .ref b), (1, .ref h1), (2, .ref h2), (3, .int (nI i))] → W p l e room_1 s m #[Value.ref b] below meth c H locs 4 18 (lw_Z below #[Value.ref b] s) (F0 m 18 ls []) := by
  obtain ⟨hx, hb, hr, hml, hown, htl, hX, hbl, hlocks, -⟩ := C0
  have hts : ∀ w ∈ Cond.initialized "NumberBench" :: nb_tb, w.before #[Value.ref b] s = true := fun w hw => htl w (by
    rcases List.mem_cons.mp hw with q | q
    · rw [q]; exact (List.mem_filter.mp nb_t1).1
    · exact (List.mem_filter.mp q).1)
  have hA : ∀ q, s.heap.size ≤ q → A q := fun q h => (hAe q).mpr h
  have hbA : ¬ A b := fun h => absurd hbl (Nat.not_lt.mpr ((hAe b).mp h))
  have hK1 := hK.sub (tys' := [(c1, .long)]) [0] rfl
  have hK2 := hK.sub (tys' := [(c2, .long)]) [1] rfl
  intro fuel
  induction fuel with
  | zero => intro i g f H locs ls hf; exact absurd hf (Nat.not_lt_zero _)
  | succ fuel ih =>
    intro i g f H locs ls hf hi hR hP hD hS hl
    have hback : ∀ (g f : Nat → Int64) (H : Heap) (locs : List Loc), i + 5 ≤ L → nb_R g f → va_P D nb_cl (nb_w 0 h1 q1 c1 g ++ nb_w 1 h2 q2 c2 f) H → va_D A (nb_w 0 h1 q1 c1 g ++ nb_w 1 h2 q2 c2 f) → va_S A s.heap H locs → W p l e room_1 s m #[Value.ref b] below meth c H locs 4 18 (lw_Z below #[Value.ref b] s) (F0 m 447 ls []) := by
      intro g f H locs h5 hR hP hD hS
      refine lv_iinc (k := 3) (v := nI (i + 5)) hx hb d_law_447 hl rfl (nI_add i 5) (by decide) rfl (fun ls hl => ?_)
      refine lv_goto (tgt := 18) hx hb d_law_450 (by decide) ?_
      exact ih (i + 5) g f H locs ls (by omega) (by omega) hR hP hD hS (lv_sub hl [1, 2, 3, 0] rfl)
    refine lv_iload_n hx hb d_law_18 rfl (lv_at hl 3 rfl) ?_
    refine lv_aload_n hx hb d_law_19 rfl (lv_at hl 0 rfl) ?_
    refine va_slen hx hb hX hbl hbA hS d_law_20 ?_
    refine lv_iconst (v := 5) hx hb d_law_21 (by decide) ?_
    refine lv_isub hx hb d_law_22 ?_
    refine lv_icmp_gt (tgt := 453) hx hb d_law_23 (by decide) (fun hend => ?_) (fun hgo => ?_)
    · refine lv_iconst (v := 1) hx hb d_law_453 (by decide) ?_
      exact va_forget (fun q hq => (hAe _).mp (hS.2.2 q hq)) (lw_ret hx hb hr hlocks d_law_454)
    have h5 := lw_len hL (by omega) hgo
    refine lv_aload_n hx hb d_law_26 rfl (lv_at hl 0 rfl) ?_
    refine lv_iload_n hx hb d_law_27 rfl (lv_at hl 3 rfl) ?_
    refine va_sld hx hb hX hbl hbA hS (lw_at0 hL h5) d_law_28 ?_
    refine lv_bipush (v := 15) hx hb d_law_29 (by decide) ?_
    refine lv_iand hx hb d_law_31 ?_
    refine lv_topi (fun v ev => ?_)
    by_cases hv0 : v = (0 : Int32)
    · refine lv_tableIn (off := 52) (tgt := 84) hx hb d_law_32 (by rw [hv0]; decide) (by rw [hv0]; decide) (by rw [hv0]; decide) (by decide) ?_
      refine lv_aload_n hx hb d_law_84 rfl (lv_at hl 1 rfl) ?_
      refine lv_aload_n hx hb d_law_85 rfl (lv_at hl 0 rfl) ?_
      refine lv_iload_n hx hb d_law_86 rfl (lv_at hl 3 rfl) ?_
      refine lv_iconst (v := 1) hx hb d_law_87 (by decide) ?_
      refine lv_iadd hx hb d_law_88 ?_
      refine va_sld hx hb hX hbl hbA hS (lw_atj (j := 1) hL h5 (by decide)) d_law_89 ?_
      refine lv_aload_n hx hb d_law_90 rfl (lv_at hl 0 rfl) ?_
      refine lv_iload_n hx hb d_law_91 rfl (lv_at hl 3 rfl) ?_
      refine lv_iconst (v := 2) hx hb d_law_92 (by decide) ?_
      refine lv_iadd hx hb d_law_93 ?_
      refine va_sld hx hb hX hbl hbA hS (lw_atj (j := 2) hL h5 (by decide)) d_law_94 ?_
      refine lv_i2l hx hb d_law_95 rfl ?_
      refine lv_bipush (v := 32) hx hb d_law_96 (by decide) ?_
      refine lv_lshl hx hb d_law_98 rfl ?_
      refine lv_aload_n hx hb d_law_99 rfl (lv_at hl 0 rfl) ?_
      refine lv_iload_n hx hb d_law_100 rfl (lv_at hl 3 rfl) ?_
      refine lv_iconst (v := 3) hx hb d_law_101 (by decide) ?_
      refine lv_iadd hx hb d_law_102 ?_
      refine va_sld hx hb hX hbl hbA hS (lw_atj (j := 3) hL h5 (by decide)) d_law_103 ?_
      refine lv_i2l hx hb d_law_104 rfl ?_
      refine lv_ldc2 (v := 4294967295) hx hb hown (hts (.constantLong "NumberBenchLaw" 13 4294967295) (nb_c nb_t425)) d_law_105 ?_
      refine lv_land hx hb d_law_108 ?_
      refine lv_lor hx hb d_law_109 ?_
      refine nb_lwVi (As := [.int (lw_v xs i 1), .long (lw_l xs i 2)]) (rest := []) (wr := (nb_w 1 h2 q2 c2 f)) [0, 1] [2, 3] hx hb hml hown hts (c_Nb_keep l ad D.1 D.2 h1 q1 c1 H.size g (lw_v xs i 1) (lw_l xs i 2)) rfl nb_t21 nb_t22 nb_t23 nb_t1 nb_t24 hd_Nb_keep rfl ⟨Nat.le_of_ble_eq_true rfl, Nat.le_of_ble_eq_true rfl⟩ ⟨rfl, rfl⟩ hP hD hA rfl rfl rfl rfl rfl (by decide) hK1 hC hS hl.1 rfl (Nat.le_of_ble_eq_true rfl) ⟨Nat.le_of_ble_eq_true rfl, Nat.le_of_ble_eq_true rfl⟩ d_law_110 (fun H locs hP hD hS => ?_)
      have hP : va_P D nb_cl (nb_w 0 h1 q1 c1 ((mf_Nb_keep g (lw_v xs i 1) (lw_l xs i 2)).2) ++ nb_w 1 h2 q2 c2 f) H := hP.sub [2, 3, 0, 1] rfl
      have hD : va_D A (nb_w 0 h1 q1 c1 ((mf_Nb_keep g (lw_v xs i 1) (lw_l xs i 2)).2) ++ nb_w 1 h2 q2 c2 f) := hD.sub [2, 3, 0, 1] (by decide) rfl
      refine lv_aload_n hx hb d_law_113 rfl (lv_at hl 2 rfl) ?_
      refine lv_aload_n hx hb d_law_114 rfl (lv_at hl 0 rfl) ?_
      refine lv_iload_n hx hb d_law_115 rfl (lv_at hl 3 rfl) ?_
      refine lv_iconst (v := 1) hx hb d_law_116 (by decide) ?_
      refine lv_iadd hx hb d_law_117 ?_
      refine va_sld hx hb hX hbl hbA hS (lw_atj (j := 1) hL h5 (by decide)) d_law_118 ?_
      refine lv_aload_n hx hb d_law_119 rfl (lv_at hl 0 rfl) ?_
      refine lv_iload_n hx hb d_law_120 rfl (lv_at hl 3 rfl) ?_
      refine lv_iconst (v := 2) hx hb d_law_121 (by decide) ?_
      refine lv_iadd hx hb d_law_122 ?_
      refine va_sld hx hb hX hbl hbA hS (lw_atj (j := 2) hL h5 (by decide)) d_law_123 ?_
      refine lv_i2l hx hb d_law_124 rfl ?_
      refine lv_bipush (v := 32) hx hb d_law_125 (by decide) ?_
      refine lv_lshl hx hb d_law_127 rfl ?_
      refine lv_aload_n hx hb d_law_128 rfl (lv_at hl 0 rfl) ?_
      refine lv_iload_n hx hb d_law_129 rfl (lv_at hl 3 rfl) ?_
      refine lv_iconst (v := 3) hx hb d_law_130 (by decide) ?_
      refine lv_iadd hx hb d_law_131 ?_
      refine va_sld hx hb hX hbl hbA hS (lw_atj (j := 3) hL h5 (by decide)) d_law_132 ?_
      refine lv_i2l hx hb d_law_133 rfl ?_
      refine lv_ldc2 (v := 4294967295) hx hb hown (hts (.constantLong "NumberBenchLaw" 13 4294967295) (nb_c nb_t425)) d_law_134 ?_
      refine lv_land hx hb d_law_137 ?_
      refine lv_lor hx hb d_law_138 ?_
      refine nb_lwVi (As := [.int (lw_v xs i 1), .long (lw_l xs i 2)]) (rest := [.int ((mf_Nb_keep g (lw_v xs i 1) (lw_l xs i 2)).1)]) (wr := (nb_w 0 h1 q1 c1 ((mf_Nb_keep g (lw_v xs i 1) (lw_l xs i 2)).2))) [2, 3] [0, 1] hx hb hml hown hts (c_Tw_keep l ad D.1 D.2 h2 q2 c2 H.size f (lw_v xs i 1) (lw_l xs i 2)) rfl nb_t257 nb_t258 nb_t259 nb_t2 nb_t260 hd_Tw_keep rfl ⟨Nat.le_of_ble_eq_true rfl, Nat.le_of_ble_eq_true rfl⟩ ⟨rfl, rfl⟩ hP hD hA rfl rfl rfl rfl rfl (by decide) hK2 hC hS hl.1 rfl (Nat.le_of_ble_eq_true rfl) ⟨Nat.le_of_ble_eq_true rfl, Nat.le_of_ble_eq_true rfl⟩ d_law_139 (fun H locs hP hD hS => ?_)
      have hP : va_P D nb_cl (nb_w 0 h1 q1 c1 ((mf_Nb_keep g (lw_v xs i 1) (lw_l xs i 2)).2) ++ nb_w 1 h2 q2 c2 ((mf_Tw_keep f (lw_v xs i 1) (lw_l xs i 2)).2)) H := hP
      have hD : va_D A (nb_w 0 h1 q1 c1 ((mf_Nb_keep g (lw_v xs i 1) (lw_l xs i 2)).2) ++ nb_w 1 h2 q2 c2 ((mf_Tw_keep f (lw_v xs i 1) (lw_l xs i 2)).2)) := hD
      refine lv_icmp_eq (tgt := 447) hx hb d_law_142 (by decide) (fun _ => ?_) (fun hne => absurd (sm_keep hR (lw_v xs i 1) (lw_l xs i 2)).1 hne)
      exact hback _ _ H locs h5 (sm_keep hR (lw_v xs i 1) (lw_l xs i 2)).2 hP hD hS
    by_cases hv1 : v = (1 : Int32)
    · refine lv_tableIn (off := 115) (tgt := 147) hx hb d_law_32 (by rw [hv1]; decide) (by rw [hv1]; decide) (by rw [hv1]; decide) (by decide) ?_
      refine lv_aload_n hx hb d_law_147 rfl (lv_at hl 1 rfl) ?_
      refine lv_aload_n hx hb d_law_148 rfl (lv_at hl 0 rfl) ?_
      refine lv_iload_n hx hb d_law_149 rfl (lv_at hl 3 rfl) ?_
      refine lv_iconst (v := 1) hx hb d_law_150 (by decide) ?_
      refine lv_iadd hx hb d_law_151 ?_
      refine va_sld hx hb hX hbl hbA hS (lw_atj (j := 1) hL h5 (by decide)) d_law_152 ?_
      refine lv_aload_n hx hb d_law_153 rfl (lv_at hl 0 rfl) ?_
      refine lv_iload_n hx hb d_law_154 rfl (lv_at hl 3 rfl) ?_
      refine lv_iconst (v := 2) hx hb d_law_155 (by decide) ?_
      refine lv_iadd hx hb d_law_156 ?_
      refine va_sld hx hb hX hbl hbA hS (lw_atj (j := 2) hL h5 (by decide)) d_law_157 ?_
      refine lv_aload_n hx hb d_law_158 rfl (lv_at hl 0 rfl) ?_
      refine lv_iload_n hx hb d_law_159 rfl (lv_at hl 3 rfl) ?_
      refine lv_iconst (v := 3) hx hb d_law_160 (by decide) ?_
      refine lv_iadd hx hb d_law_161 ?_
      refine va_sld hx hb hX hbl hbA hS (lw_atj (j := 3) hL h5 (by decide)) d_law_162 ?_
      refine lv_aload_n hx hb d_law_163 rfl (lv_at hl 0 rfl) ?_
      refine lv_iload_n hx hb d_law_164 rfl (lv_at hl 3 rfl) ?_
      refine lv_iconst (v := 4) hx hb d_law_165 (by decide) ?_
      refine lv_iadd hx hb d_law_166 ?_
      refine va_sld hx hb hX hbl hbA hS (lw_atj (j := 4) hL h5 (by decide)) d_law_167 ?_
      refine nb_lwVl (As := [.int (lw_v xs i 1), .int (lw_v xs i 2), .int (lw_v xs i 3), .int (lw_v xs i 4)]) (rest := []) (wr := (nb_w 1 h2 q2 c2 f)) [0, 1] [2, 3] hx hb hml hown hts (c_Nb_reckon l ad D.1 D.2 h1 q1 c1 H.size g (lw_v xs i 1) (lw_v xs i 2) (lw_v xs i 3) (lw_v xs i 4)) rfl nb_t43 nb_t44 nb_t45 nb_t1 nb_t46 hd_Nb_reckon rfl ⟨Nat.le_of_ble_eq_true rfl, Nat.le_of_ble_eq_true rfl⟩ ⟨rfl, rfl⟩ hP hD hA rfl rfl rfl rfl rfl (by decide) hK1 hC hS hl.1 rfl (Nat.le_of_ble_eq_true rfl) ⟨Nat.le_of_ble_eq_true rfl, Nat.le_of_ble_eq_true rfl⟩ d_law_168 (fun H locs hP hD hS => ?_)
      have hP : va_P D nb_cl (nb_w 0 h1 q1 c1 ((mf_Nb_reckon g (lw_v xs i 1) (lw_v xs i 2) (lw_v xs i 3) (lw_v xs i 4)).2) ++ nb_w 1 h2 q2 c2 f) H := hP.sub [2, 3, 0, 1] rfl
      have hD : va_D A (nb_w 0 h1 q1 c1 ((mf_Nb_reckon g (lw_v xs i 1) (lw_v xs i 2) (lw_v xs i 3) (lw_v xs i 4)).2) ++ nb_w 1 h2 q2 c2 f) := hD.sub [2, 3, 0, 1] (by decide) rfl
      refine lv_aload_n hx hb d_law_171 rfl (lv_at hl 2 rfl) ?_
      refine lv_aload_n hx hb d_law_172 rfl (lv_at hl 0 rfl) ?_
      refine lv_iload_n hx hb d_law_173 rfl (lv_at hl 3 rfl) ?_
      refine lv_iconst (v := 1) hx hb d_law_174 (by decide) ?_
      refine lv_iadd hx hb d_law_175 ?_
      refine va_sld hx hb hX hbl hbA hS (lw_atj (j := 1) hL h5 (by decide)) d_law_176 ?_
      refine lv_aload_n hx hb d_law_177 rfl (lv_at hl 0 rfl) ?_
      refine lv_iload_n hx hb d_law_178 rfl (lv_at hl 3 rfl) ?_
      refine lv_iconst (v := 2) hx hb d_law_179 (by decide) ?_
      refine lv_iadd hx hb d_law_180 ?_
      refine va_sld hx hb hX hbl hbA hS (lw_atj (j := 2) hL h5 (by decide)) d_law_181 ?_
      refine lv_aload_n hx hb d_law_182 rfl (lv_at hl 0 rfl) ?_
      refine lv_iload_n hx hb d_law_183 rfl (lv_at hl 3 rfl) ?_
      refine lv_iconst (v := 3) hx hb d_law_184 (by decide) ?_
      refine lv_iadd hx hb d_law_185 ?_
      refine va_sld hx hb hX hbl hbA hS (lw_atj (j := 3) hL h5 (by decide)) d_law_186 ?_
      refine lv_aload_n hx hb d_law_187 rfl (lv_at hl 0 rfl) ?_
      refine lv_iload_n hx hb d_law_188 rfl (lv_at hl 3 rfl) ?_
      refine lv_iconst (v := 4) hx hb d_law_189 (by decide) ?_
      refine lv_iadd hx hb d_law_190 ?_
      refine va_sld hx hb hX hbl hbA hS (lw_atj (j := 4) hL h5 (by decide)) d_law_191 ?_
      refine nb_lwVl (As := [.int (lw_v xs i 1), .int (lw_v xs i 2), .int (lw_v xs i 3), .int (lw_v xs i 4)]) (rest := [.long ((mf_Nb_reckon g (lw_v xs i 1) (lw_v xs i 2) (lw_v xs i 3) (lw_v xs i 4)).1)]) (wr := (nb_w 0 h1 q1 c1 ((mf_Nb_reckon g (lw_v xs i 1) (lw_v xs i 2) (lw_v xs i 3) (lw_v xs i 4)).2))) [2, 3] [0, 1] hx hb hml hown hts (c_Tw_reckon l ad D.1 D.2 h2 q2 c2 H.size f (lw_v xs i 1) (lw_v xs i 2) (lw_v xs i 3) (lw_v xs i 4)) rfl nb_t264 nb_t265 nb_t266 nb_t2 nb_t267 hd_Tw_reckon rfl ⟨Nat.le_of_ble_eq_true rfl, Nat.le_of_ble_eq_true rfl⟩ ⟨rfl, rfl⟩ hP hD hA rfl rfl rfl rfl rfl (by decide) hK2 hC hS hl.1 rfl (Nat.le_of_ble_eq_true rfl) ⟨Nat.le_of_ble_eq_true rfl, Nat.le_of_ble_eq_true rfl⟩ d_law_192 (fun H locs hP hD hS => ?_)
      have hP : va_P D nb_cl (nb_w 0 h1 q1 c1 ((mf_Nb_reckon g (lw_v xs i 1) (lw_v xs i 2) (lw_v xs i 3) (lw_v xs i 4)).2) ++ nb_w 1 h2 q2 c2 ((mf_Tw_reckon f (lw_v xs i 1) (lw_v xs i 2) (lw_v xs i 3) (lw_v xs i 4)).2)) H := hP
      have hD : va_D A (nb_w 0 h1 q1 c1 ((mf_Nb_reckon g (lw_v xs i 1) (lw_v xs i 2) (lw_v xs i 3) (lw_v xs i 4)).2) ++ nb_w 1 h2 q2 c2 ((mf_Tw_reckon f (lw_v xs i 1) (lw_v xs i 2) (lw_v xs i 3) (lw_v xs i 4)).2)) := hD
      refine nb_lc_eq (tgt := 447) hx hb d_law_195 d_law_196 (by decide) (fun _ => ?_) (fun hne => absurd (sm_reckon hR (lw_v xs i 1) (lw_v xs i 2) (lw_v xs i 3) (lw_v xs i 4)).1 hne)
      exact hback _ _ H locs h5 (sm_reckon hR (lw_v xs i 1) (lw_v xs i 2) (lw_v xs i 3) (lw_v xs i 4)).2 hP hD hS
    by_cases hv2 : v = (2 : Int32)
    · refine lv_tableIn (off := 169) (tgt := 201) hx hb d_law_32 (by rw [hv2]; decide) (by rw [hv2]; decide) (by rw [hv2]; decide) (by decide) ?_
      refine lv_aload_n hx hb d_law_201 rfl (lv_at hl 1 rfl) ?_
      refine lv_aload_n hx hb d_law_202 rfl (lv_at hl 0 rfl) ?_
      refine lv_iload_n hx hb d_law_203 rfl (lv_at hl 3 rfl) ?_
      refine lv_iconst (v := 1) hx hb d_law_204 (by decide) ?_
      refine lv_iadd hx hb d_law_205 ?_
      refine va_sld hx hb hX hbl hbA hS (lw_atj (j := 1) hL h5 (by decide)) d_law_206 ?_
      refine lv_aload_n hx hb d_law_207 rfl (lv_at hl 0 rfl) ?_
      refine lv_iload_n hx hb d_law_208 rfl (lv_at hl 3 rfl) ?_
      refine lv_iconst (v := 2) hx hb d_law_209 (by decide) ?_
      refine lv_iadd hx hb d_law_210 ?_
      refine va_sld hx hb hX hbl hbA hS (lw_atj (j := 2) hL h5 (by decide)) d_law_211 ?_
      refine lv_aload_n hx hb d_law_212 rfl (lv_at hl 0 rfl) ?_
      refine lv_iload_n hx hb d_law_213 rfl (lv_at hl 3 rfl) ?_
      refine lv_iconst (v := 3) hx hb d_law_214 (by decide) ?_
      refine lv_iadd hx hb d_law_215 ?_
      refine va_sld hx hb hX hbl hbA hS (lw_atj (j := 3) hL h5 (by decide)) d_law_216 ?_
      refine lv_i2l hx hb d_law_217 rfl ?_
      refine lv_bipush (v := 32) hx hb d_law_218 (by decide) ?_
      refine lv_lshl hx hb d_law_220 rfl ?_
      refine lv_aload_n hx hb d_law_221 rfl (lv_at hl 0 rfl) ?_
      refine lv_iload_n hx hb d_law_222 rfl (lv_at hl 3 rfl) ?_
      refine lv_iconst (v := 4) hx hb d_law_223 (by decide) ?_
      refine lv_iadd hx hb d_law_224 ?_
      refine va_sld hx hb hX hbl hbA hS (lw_atj (j := 4) hL h5 (by decide)) d_law_225 ?_
      refine lv_i2l hx hb d_law_226 rfl ?_
      refine lv_ldc2 (v := 4294967295) hx hb hown (hts (.constantLong "NumberBenchLaw" 13 4294967295) (nb_c nb_t425)) d_law_227 ?_
      refine lv_land hx hb d_law_230 ?_
      refine lv_lor hx hb d_law_231 ?_
      refine nb_lwVl (As := [.int (lw_v xs i 1), .int (lw_v xs i 2), .long (lw_l xs i 3)]) (rest := []) (wr := (nb_w 1 h2 q2 c2 f)) [0, 1] [2, 3] hx hb hml hown hts (c_Nb_whole l ad D.1 D.2 h1 q1 c1 H.size g (lw_v xs i 1) (lw_v xs i 2) (lw_l xs i 3)) rfl nb_t181 nb_t182 nb_t183 nb_t1 nb_t184 hd_Nb_whole rfl ⟨Nat.le_of_ble_eq_true rfl, Nat.le_of_ble_eq_true rfl⟩ ⟨rfl, rfl⟩ hP hD hA rfl rfl rfl rfl rfl (by decide) hK1 hC hS hl.1 rfl (Nat.le_of_ble_eq_true rfl) ⟨Nat.le_of_ble_eq_true rfl, Nat.le_of_ble_eq_true rfl⟩ d_law_232 (fun H locs hP hD hS => ?_)
      have hP : va_P D nb_cl (nb_w 0 h1 q1 c1 ((mf_Nb_whole g (lw_v xs i 1) (lw_v xs i 2) (lw_l xs i 3)).2) ++ nb_w 1 h2 q2 c2 f) H := hP.sub [2, 3, 0, 1] rfl
      have hD : va_D A (nb_w 0 h1 q1 c1 ((mf_Nb_whole g (lw_v xs i 1) (lw_v xs i 2) (lw_l xs i 3)).2) ++ nb_w 1 h2 q2 c2 f) := hD.sub [2, 3, 0, 1] (by decide) rfl
      refine lv_aload_n hx hb d_law_235 rfl (lv_at hl 2 rfl) ?_
      refine lv_aload_n hx hb d_law_236 rfl (lv_at hl 0 rfl) ?_
      refine lv_iload_n hx hb d_law_237 rfl (lv_at hl 3 rfl) ?_
      refine lv_iconst (v := 1) hx hb d_law_238 (by decide) ?_
      refine lv_iadd hx hb d_law_239 ?_
      refine va_sld hx hb hX hbl hbA hS (lw_atj (j := 1) hL h5 (by decide)) d_law_240 ?_
      refine lv_aload_n hx hb d_law_241 rfl (lv_at hl 0 rfl) ?_
      refine lv_iload_n hx hb d_law_242 rfl (lv_at hl 3 rfl) ?_
      refine lv_iconst (v := 2) hx hb d_law_243 (by decide) ?_
      refine lv_iadd hx hb d_law_244 ?_
      refine va_sld hx hb hX hbl hbA hS (lw_atj (j := 2) hL h5 (by decide)) d_law_245 ?_
      refine lv_aload_n hx hb d_law_246 rfl (lv_at hl 0 rfl) ?_
      refine lv_iload_n hx hb d_law_247 rfl (lv_at hl 3 rfl) ?_
      refine lv_iconst (v := 3) hx hb d_law_248 (by decide) ?_
      refine lv_iadd hx hb d_law_249 ?_
      refine va_sld hx hb hX hbl hbA hS (lw_atj (j := 3) hL h5 (by decide)) d_law_250 ?_
      refine lv_i2l hx hb d_law_251 rfl ?_
      refine lv_bipush (v := 32) hx hb d_law_252 (by decide) ?_
      refine lv_lshl hx hb d_law_254 rfl ?_
      refine lv_aload_n hx hb d_law_255 rfl (lv_at hl 0 rfl) ?_
      refine lv_iload_n hx hb d_law_256 rfl (lv_at hl 3 rfl) ?_
      refine lv_iconst (v := 4) hx hb d_law_257 (by decide) ?_
      refine lv_iadd hx hb d_law_258 ?_
      refine va_sld hx hb hX hbl hbA hS (lw_atj (j := 4) hL h5 (by decide)) d_law_259 ?_
      refine lv_i2l hx hb d_law_260 rfl ?_
      refine lv_ldc2 (v := 4294967295) hx hb hown (hts (.constantLong "NumberBenchLaw" 13 4294967295) (nb_c nb_t425)) d_law_261 ?_
      refine lv_land hx hb d_law_264 ?_
      refine lv_lor hx hb d_law_265 ?_
      refine nb_lwVl (As := [.int (lw_v xs i 1), .int (lw_v xs i 2), .long (lw_l xs i 3)]) (rest := [.long ((mf_Nb_whole g (lw_v xs i 1) (lw_v xs i 2) (lw_l xs i 3)).1)]) (wr := (nb_w 0 h1 q1 c1 ((mf_Nb_whole g (lw_v xs i 1) (lw_v xs i 2) (lw_l xs i 3)).2))) [2, 3] [0, 1] hx hb hml hown hts (c_Tw_wholeM l ad D.1 D.2 h2 q2 c2 H.size f (lw_v xs i 1) (lw_v xs i 2) (lw_l xs i 3)) rfl nb_t379 nb_t380 nb_t381 nb_t2 nb_t382 hd_Tw_wholeM rfl ⟨Nat.le_of_ble_eq_true rfl, Nat.le_of_ble_eq_true rfl⟩ ⟨rfl, rfl⟩ hP hD hA rfl rfl rfl rfl rfl (by decide) hK2 hC hS hl.1 rfl (Nat.le_of_ble_eq_true rfl) ⟨Nat.le_of_ble_eq_true rfl, Nat.le_of_ble_eq_true rfl⟩ d_law_266 (fun H locs hP hD hS => ?_)
      have hP : va_P D nb_cl (nb_w 0 h1 q1 c1 ((mf_Nb_whole g (lw_v xs i 1) (lw_v xs i 2) (lw_l xs i 3)).2) ++ nb_w 1 h2 q2 c2 ((mf_Tw_wholeM f (lw_v xs i 1) (lw_v xs i 2) (lw_l xs i 3)).2)) H := hP
      have hD : va_D A (nb_w 0 h1 q1 c1 ((mf_Nb_whole g (lw_v xs i 1) (lw_v xs i 2) (lw_l xs i 3)).2) ++ nb_w 1 h2 q2 c2 ((mf_Tw_wholeM f (lw_v xs i 1) (lw_v xs i 2) (lw_l xs i 3)).2)) := hD
      refine nb_lc_eq (tgt := 447) hx hb d_law_269 d_law_270 (by decide) (fun _ => ?_) (fun hne => absurd (sm_whole hR (lw_v xs i 1) (lw_v xs i 2) (lw_l xs i 3)).1 hne)
      exact hback _ _ H locs h5 (sm_whole hR (lw_v xs i 1) (lw_v xs i 2) (lw_l xs i 3)).2 hP hD hS
    by_cases hv3 : v = (3 : Int32)
    · refine lv_tableIn (off := 243) (tgt := 275) hx hb d_law_32 (by rw [hv3]; decide) (by rw [hv3]; decide) (by rw [hv3]; decide) (by decide) ?_
      refine lv_aload_n hx hb d_law_275 rfl (lv_at hl 1 rfl) ?_
      refine lv_aload_n hx hb d_law_276 rfl (lv_at hl 0 rfl) ?_
      refine lv_iload_n hx hb d_law_277 rfl (lv_at hl 3 rfl) ?_
      refine lv_iconst (v := 1) hx hb d_law_278 (by decide) ?_
      refine lv_iadd hx hb d_law_279 ?_
      refine va_sld hx hb hX hbl hbA hS (lw_atj (j := 1) hL h5 (by decide)) d_law_280 ?_
      refine lv_aload_n hx hb d_law_281 rfl (lv_at hl 0 rfl) ?_
      refine lv_iload_n hx hb d_law_282 rfl (lv_at hl 3 rfl) ?_
      refine lv_iconst (v := 2) hx hb d_law_283 (by decide) ?_
      refine lv_iadd hx hb d_law_284 ?_
      refine va_sld hx hb hX hbl hbA hS (lw_atj (j := 2) hL h5 (by decide)) d_law_285 ?_
      refine nb_lwRl (As := [.int (lw_v xs i 1), .int (lw_v xs i 2)]) (rest := []) hx hb hml hown hts (c_Nb_cast l ad D.1 D.2 h1 q1 c1 g (lw_v xs i 1) (lw_v xs i 2)) rfl nb_t193 nb_t194 nb_t195 nb_t1 nb_t196 hd_Nb_cast rfl ⟨Nat.le_of_ble_eq_true rfl, Nat.le_of_ble_eq_true rfl⟩ ⟨rfl, rfl⟩ (hP.sub [0, 1] rfl) hK1 hC hS hl.1 rfl (Nat.le_of_ble_eq_true rfl) ⟨Nat.le_of_ble_eq_true rfl, Nat.le_of_ble_eq_true rfl⟩ d_law_286 ?_
      refine lv_aload_n hx hb d_law_289 rfl (lv_at hl 2 rfl) ?_
      refine lv_aload_n hx hb d_law_290 rfl (lv_at hl 0 rfl) ?_
      refine lv_iload_n hx hb d_law_291 rfl (lv_at hl 3 rfl) ?_
      refine lv_iconst (v := 1) hx hb d_law_292 (by decide) ?_
      refine lv_iadd hx hb d_law_293 ?_
      refine va_sld hx hb hX hbl hbA hS (lw_atj (j := 1) hL h5 (by decide)) d_law_294 ?_
      refine lv_aload_n hx hb d_law_295 rfl (lv_at hl 0 rfl) ?_
      refine lv_iload_n hx hb d_law_296 rfl (lv_at hl 3 rfl) ?_
      refine lv_iconst (v := 2) hx hb d_law_297 (by decide) ?_
      refine lv_iadd hx hb d_law_298 ?_
      refine va_sld hx hb hX hbl hbA hS (lw_atj (j := 2) hL h5 (by decide)) d_law_299 ?_
      refine nb_lwRl (As := [.int (lw_v xs i 1), .int (lw_v xs i 2)]) (rest := [.long (mf_Nb_cast g (lw_v xs i 1) (lw_v xs i 2))]) hx hb hml hown hts (c_Tw_cast l ad D.1 D.2 h2 q2 c2 f (lw_v xs i 1) (lw_v xs i 2)) rfl nb_t385 nb_t386 nb_t387 nb_t2 nb_t388 hd_Tw_cast rfl ⟨Nat.le_of_ble_eq_true rfl, Nat.le_of_ble_eq_true rfl⟩ ⟨rfl, rfl⟩ (hP.sub [2, 3] rfl) hK2 hC hS hl.1 rfl (Nat.le_of_ble_eq_true rfl) ⟨Nat.le_of_ble_eq_true rfl, Nat.le_of_ble_eq_true rfl⟩ d_law_300 ?_
      refine nb_lc_eq (tgt := 447) hx hb d_law_303 d_law_304 (by decide) (fun _ => ?_) (fun hne => absurd (sm_cast hR (lw_v xs i 1) (lw_v xs i 2)) hne)
      exact hback _ _ H locs h5 hR hP hD hS
    by_cases hv4 : v = (4 : Int32)
    · refine lv_tableIn (off := 277) (tgt := 309) hx hb d_law_32 (by rw [hv4]; decide) (by rw [hv4]; decide) (by rw [hv4]; decide) (by decide) ?_
      refine lv_aload_n hx hb d_law_309 rfl (lv_at hl 1 rfl) ?_
      refine lv_aload_n hx hb d_law_310 rfl (lv_at hl 0 rfl) ?_
      refine lv_iload_n hx hb d_law_311 rfl (lv_at hl 3 rfl) ?_
      refine lv_iconst (v := 1) hx hb d_law_312 (by decide) ?_
      refine lv_iadd hx hb d_law_313 ?_
      refine va_sld hx hb hX hbl hbA hS (lw_atj (j := 1) hL h5 (by decide)) d_law_314 ?_
      refine lv_aload_n hx hb d_law_315 rfl (lv_at hl 0 rfl) ?_
      refine lv_iload_n hx hb d_law_316 rfl (lv_at hl 3 rfl) ?_
      refine lv_iconst (v := 2) hx hb d_law_317 (by decide) ?_
      refine lv_iadd hx hb d_law_318 ?_
      refine va_sld hx hb hX hbl hbA hS (lw_atj (j := 2) hL h5 (by decide)) d_law_319 ?_
      refine nb_lwRi (As := [.int (lw_v xs i 1), .int (lw_v xs i 2)]) (rest := []) hx hb hml hown hts (c_Nb_compare l ad D.1 D.2 h1 q1 c1 g (lw_v xs i 1) (lw_v xs i 2)) rfl nb_t210 nb_t211 nb_t212 nb_t1 nb_t213 hd_Nb_compare rfl ⟨Nat.le_of_ble_eq_true rfl, Nat.le_of_ble_eq_true rfl⟩ ⟨rfl, rfl⟩ (hP.sub [0, 1] rfl) hK1 hC hS hl.1 rfl (Nat.le_of_ble_eq_true rfl) ⟨Nat.le_of_ble_eq_true rfl, Nat.le_of_ble_eq_true rfl⟩ d_law_320 ?_
      refine lv_aload_n hx hb d_law_323 rfl (lv_at hl 2 rfl) ?_
      refine lv_aload_n hx hb d_law_324 rfl (lv_at hl 0 rfl) ?_
      refine lv_iload_n hx hb d_law_325 rfl (lv_at hl 3 rfl) ?_
      refine lv_iconst (v := 1) hx hb d_law_326 (by decide) ?_
      refine lv_iadd hx hb d_law_327 ?_
      refine va_sld hx hb hX hbl hbA hS (lw_atj (j := 1) hL h5 (by decide)) d_law_328 ?_
      refine lv_aload_n hx hb d_law_329 rfl (lv_at hl 0 rfl) ?_
      refine lv_iload_n hx hb d_law_330 rfl (lv_at hl 3 rfl) ?_
      refine lv_iconst (v := 2) hx hb d_law_331 (by decide) ?_
      refine lv_iadd hx hb d_law_332 ?_
      refine va_sld hx hb hX hbl hbA hS (lw_atj (j := 2) hL h5 (by decide)) d_law_333 ?_
      refine nb_lwRi (As := [.int (lw_v xs i 1), .int (lw_v xs i 2)]) (rest := [.int (mf_Nb_compare g (lw_v xs i 1) (lw_v xs i 2))]) hx hb hml hown hts (c_Tw_compare l ad D.1 D.2 h2 q2 c2 f (lw_v xs i 1) (lw_v xs i 2)) rfl nb_t395 nb_t396 nb_t397 nb_t2 nb_t398 hd_Tw_compare rfl ⟨Nat.le_of_ble_eq_true rfl, Nat.le_of_ble_eq_true rfl⟩ ⟨rfl, rfl⟩ (hP.sub [2, 3] rfl) hK2 hC hS hl.1 rfl (Nat.le_of_ble_eq_true rfl) ⟨Nat.le_of_ble_eq_true rfl, Nat.le_of_ble_eq_true rfl⟩ d_law_334 ?_
      refine lv_icmp_eq (tgt := 447) hx hb d_law_337 (by decide) (fun _ => ?_) (fun hne => absurd (sm_compare hR (lw_v xs i 1) (lw_v xs i 2)) hne)
      exact hback _ _ H locs h5 hR hP hD hS
    by_cases hv5 : v = (5 : Int32)
    · refine lv_tableIn (off := 310) (tgt := 342) hx hb d_law_32 (by rw [hv5]; decide) (by rw [hv5]; decide) (by rw [hv5]; decide) (by decide) ?_
      refine lv_aload_n hx hb d_law_342 rfl (lv_at hl 1 rfl) ?_
      refine lv_aload_n hx hb d_law_343 rfl (lv_at hl 0 rfl) ?_
      refine lv_iload_n hx hb d_law_344 rfl (lv_at hl 3 rfl) ?_
      refine lv_iconst (v := 1) hx hb d_law_345 (by decide) ?_
      refine lv_iadd hx hb d_law_346 ?_
      refine va_sld hx hb hX hbl hbA hS (lw_atj (j := 1) hL h5 (by decide)) d_law_347 ?_
      refine nb_lwRl (As := [.int (lw_v xs i 1)]) (rest := []) hx hb hml hown hts (c_Nb_horner l ad D.1 D.2 h1 q1 c1 g (lw_v xs i 1)) rfl nb_t218 nb_t219 nb_t220 nb_t1 nb_t221 hd_Nb_horner rfl ⟨Nat.le_of_ble_eq_true rfl, Nat.le_of_ble_eq_true rfl⟩ ⟨rfl, rfl⟩ (hP.sub [0, 1] rfl) hK1 hC hS hl.1 rfl (Nat.le_of_ble_eq_true rfl) ⟨Nat.le_of_ble_eq_true rfl, Nat.le_of_ble_eq_true rfl⟩ d_law_348 ?_
      refine lv_aload_n hx hb d_law_351 rfl (lv_at hl 2 rfl) ?_
      refine lv_aload_n hx hb d_law_352 rfl (lv_at hl 0 rfl) ?_
      refine lv_iload_n hx hb d_law_353 rfl (lv_at hl 3 rfl) ?_
      refine lv_iconst (v := 1) hx hb d_law_354 (by decide) ?_
      refine lv_iadd hx hb d_law_355 ?_
      refine va_sld hx hb hX hbl hbA hS (lw_atj (j := 1) hL h5 (by decide)) d_law_356 ?_
      refine nb_lwRl (As := [.int (lw_v xs i 1)]) (rest := [.long (mf_Nb_horner g (lw_v xs i 1))]) hx hb hml hown hts (c_Tw_horner l ad D.1 D.2 h2 q2 c2 f (lw_v xs i 1)) rfl nb_t399 nb_t400 nb_t401 nb_t2 nb_t402 hd_Tw_horner rfl ⟨Nat.le_of_ble_eq_true rfl, Nat.le_of_ble_eq_true rfl⟩ ⟨rfl, rfl⟩ (hP.sub [2, 3] rfl) hK2 hC hS hl.1 rfl (Nat.le_of_ble_eq_true rfl) ⟨Nat.le_of_ble_eq_true rfl, Nat.le_of_ble_eq_true rfl⟩ d_law_357 ?_
      refine nb_lc_eq (tgt := 447) hx hb d_law_360 d_law_361 (by decide) (fun _ => ?_) (fun hne => absurd (sm_horner hR (lw_v xs i 1)) hne)
      exact hback _ _ H locs h5 hR hP hD hS
    by_cases hv6 : v = (6 : Int32)
    · refine lv_tableIn (off := 334) (tgt := 366) hx hb d_law_32 (by rw [hv6]; decide) (by rw [hv6]; decide) (by rw [hv6]; decide) (by decide) ?_
      refine lv_aload_n hx hb d_law_366 rfl (lv_at hl 1 rfl) ?_
      refine lv_aload_n hx hb d_law_367 rfl (lv_at hl 0 rfl) ?_
      refine lv_iload_n hx hb d_law_368 rfl (lv_at hl 3 rfl) ?_
      refine lv_iconst (v := 1) hx hb d_law_369 (by decide) ?_
      refine lv_iadd hx hb d_law_370 ?_
      refine va_sld hx hb hX hbl hbA hS (lw_atj (j := 1) hL h5 (by decide)) d_law_371 ?_
      refine nb_lwRi (As := [.int (lw_v xs i 1)]) (rest := []) hx hb hml hown hts (c_Nb_single l ad D.1 D.2 h1 q1 c1 g (lw_v xs i 1)) rfl nb_t222 nb_t223 nb_t224 nb_t1 nb_t225 hd_Nb_single rfl ⟨Nat.le_of_ble_eq_true rfl, Nat.le_of_ble_eq_true rfl⟩ ⟨rfl, rfl⟩ (hP.sub [0, 1] rfl) hK1 hC hS hl.1 rfl (Nat.le_of_ble_eq_true rfl) ⟨Nat.le_of_ble_eq_true rfl, Nat.le_of_ble_eq_true rfl⟩ d_law_372 ?_
      refine lv_aload_n hx hb d_law_375 rfl (lv_at hl 2 rfl) ?_
      refine lv_aload_n hx hb d_law_376 rfl (lv_at hl 0 rfl) ?_
      refine lv_iload_n hx hb d_law_377 rfl (lv_at hl 3 rfl) ?_
      refine lv_iconst (v := 1) hx hb d_law_378 (by decide) ?_
      refine lv_iadd hx hb d_law_379 ?_
      refine va_sld hx hb hX hbl hbA hS (lw_atj (j := 1) hL h5 (by decide)) d_law_380 ?_
      refine nb_lwRi (As := [.int (lw_v xs i 1)]) (rest := [.int (mf_Nb_single g (lw_v xs i 1))]) hx hb hml hown hts (c_Tw_single l ad D.1 D.2 h2 q2 c2 f (lw_v xs i 1)) rfl nb_t406 nb_t407 nb_t408 nb_t2 nb_t409 hd_Tw_single rfl ⟨Nat.le_of_ble_eq_true rfl, Nat.le_of_ble_eq_true rfl⟩ ⟨rfl, rfl⟩ (hP.sub [2, 3] rfl) hK2 hC hS hl.1 rfl (Nat.le_of_ble_eq_true rfl) ⟨Nat.le_of_ble_eq_true rfl, Nat.le_of_ble_eq_true rfl⟩ d_law_381 ?_
      refine lv_icmp_eq (tgt := 447) hx hb d_law_384 (by decide) (fun _ => ?_) (fun hne => absurd (sm_single hR (lw_v xs i 1)) hne)
      exact hback _ _ H locs h5 hR hP hD hS
    by_cases hv7 : v = (7 : Int32)
    · refine lv_tableIn (off := 357) (tgt := 389) hx hb d_law_32 (by rw [hv7]; decide) (by rw [hv7]; decide) (by rw [hv7]; decide) (by decide) ?_
      refine lv_aload_n hx hb d_law_389 rfl (lv_at hl 1 rfl) ?_
      refine lv_aload_n hx hb d_law_390 rfl (lv_at hl 0 rfl) ?_
      refine lv_iload_n hx hb d_law_391 rfl (lv_at hl 3 rfl) ?_
      refine lv_iconst (v := 1) hx hb d_law_392 (by decide) ?_
      refine lv_iadd hx hb d_law_393 ?_
      refine va_sld hx hb hX hbl hbA hS (lw_atj (j := 1) hL h5 (by decide)) d_law_394 ?_
      refine lv_aload_n hx hb d_law_395 rfl (lv_at hl 0 rfl) ?_
      refine lv_iload_n hx hb d_law_396 rfl (lv_at hl 3 rfl) ?_
      refine lv_iconst (v := 2) hx hb d_law_397 (by decide) ?_
      refine lv_iadd hx hb d_law_398 ?_
      refine va_sld hx hb hX hbl hbA hS (lw_atj (j := 2) hL h5 (by decide)) d_law_399 ?_
      refine nb_lwVl (As := [.int (lw_v xs i 1), .int (lw_v xs i 2)]) (rest := []) (wr := (nb_w 1 h2 q2 c2 f)) [0, 1] [2, 3] hx hb hml hown hts (c_Nb_fromSingle l ad D.1 D.2 h1 q1 c1 H.size g (lw_v xs i 1) (lw_v xs i 2)) rfl nb_t226 nb_t227 nb_t228 nb_t1 nb_t229 hd_Nb_fromSingle rfl ⟨Nat.le_of_ble_eq_true rfl, Nat.le_of_ble_eq_true rfl⟩ ⟨rfl, rfl⟩ hP hD hA rfl rfl rfl rfl rfl (by decide) hK1 hC hS hl.1 rfl (Nat.le_of_ble_eq_true rfl) ⟨Nat.le_of_ble_eq_true rfl, Nat.le_of_ble_eq_true rfl⟩ d_law_400 (fun H locs hP hD hS => ?_)
      have hP : va_P D nb_cl (nb_w 0 h1 q1 c1 ((mf_Nb_fromSingle g (lw_v xs i 1) (lw_v xs i 2)).2) ++ nb_w 1 h2 q2 c2 f) H := hP.sub [2, 3, 0, 1] rfl
      have hD : va_D A (nb_w 0 h1 q1 c1 ((mf_Nb_fromSingle g (lw_v xs i 1) (lw_v xs i 2)).2) ++ nb_w 1 h2 q2 c2 f) := hD.sub [2, 3, 0, 1] (by decide) rfl
      refine lv_aload_n hx hb d_law_403 rfl (lv_at hl 2 rfl) ?_
      refine lv_aload_n hx hb d_law_404 rfl (lv_at hl 0 rfl) ?_
      refine lv_iload_n hx hb d_law_405 rfl (lv_at hl 3 rfl) ?_
      refine lv_iconst (v := 1) hx hb d_law_406 (by decide) ?_
      refine lv_iadd hx hb d_law_407 ?_
      refine va_sld hx hb hX hbl hbA hS (lw_atj (j := 1) hL h5 (by decide)) d_law_408 ?_
      refine lv_aload_n hx hb d_law_409 rfl (lv_at hl 0 rfl) ?_
      refine lv_iload_n hx hb d_law_410 rfl (lv_at hl 3 rfl) ?_
      refine lv_iconst (v := 2) hx hb d_law_411 (by decide) ?_
      refine lv_iadd hx hb d_law_412 ?_
      refine va_sld hx hb hX hbl hbA hS (lw_atj (j := 2) hL h5 (by decide)) d_law_413 ?_
      refine nb_lwVl (As := [.int (lw_v xs i 1), .int (lw_v xs i 2)]) (rest := [.long ((mf_Nb_fromSingle g (lw_v xs i 1) (lw_v xs i 2)).1)]) (wr := (nb_w 0 h1 q1 c1 ((mf_Nb_fromSingle g (lw_v xs i 1) (lw_v xs i 2)).2))) [2, 3] [0, 1] hx hb hml hown hts (c_Tw_fromSingle l ad D.1 D.2 h2 q2 c2 H.size f (lw_v xs i 1) (lw_v xs i 2)) rfl nb_t410 nb_t411 nb_t412 nb_t2 nb_t413 hd_Tw_fromSingle rfl ⟨Nat.le_of_ble_eq_true rfl, Nat.le_of_ble_eq_true rfl⟩ ⟨rfl, rfl⟩ hP hD hA rfl rfl rfl rfl rfl (by decide) hK2 hC hS hl.1 rfl (Nat.le_of_ble_eq_true rfl) ⟨Nat.le_of_ble_eq_true rfl, Nat.le_of_ble_eq_true rfl⟩ d_law_414 (fun H locs hP hD hS => ?_)
      have hP : va_P D nb_cl (nb_w 0 h1 q1 c1 ((mf_Nb_fromSingle g (lw_v xs i 1) (lw_v xs i 2)).2) ++ nb_w 1 h2 q2 c2 ((mf_Tw_fromSingle f (lw_v xs i 1) (lw_v xs i 2)).2)) H := hP
      have hD : va_D A (nb_w 0 h1 q1 c1 ((mf_Nb_fromSingle g (lw_v xs i 1) (lw_v xs i 2)).2) ++ nb_w 1 h2 q2 c2 ((mf_Tw_fromSingle f (lw_v xs i 1) (lw_v xs i 2)).2)) := hD
      refine nb_lc_eq (tgt := 447) hx hb d_law_417 d_law_418 (by decide) (fun _ => ?_) (fun hne => absurd (sm_fromSingle hR (lw_v xs i 1) (lw_v xs i 2)).1 hne)
      exact hback _ _ H locs h5 (sm_fromSingle hR (lw_v xs i 1) (lw_v xs i 2)).2 hP hD hS
    by_cases hv8 : v = (8 : Int32)
    · refine lv_tableIn (off := 391) (tgt := 423) hx hb d_law_32 (by rw [hv8]; decide) (by rw [hv8]; decide) (by rw [hv8]; decide) (by decide) ?_
      refine lv_aload_n hx hb d_law_423 rfl (lv_at hl 1 rfl) ?_
      refine lv_aload_n hx hb d_law_424 rfl (lv_at hl 0 rfl) ?_
      refine lv_iload_n hx hb d_law_425 rfl (lv_at hl 3 rfl) ?_
      refine lv_iconst (v := 1) hx hb d_law_426 (by decide) ?_
      refine lv_iadd hx hb d_law_427 ?_
      refine va_sld hx hb hX hbl hbA hS (lw_atj (j := 1) hL h5 (by decide)) d_law_428 ?_
      refine nb_lwRl (As := [.int (lw_v xs i 1)]) (rest := []) hx hb hml hown hts (c_Nb_sum l ad D.1 D.2 h1 q1 c1 g (lw_v xs i 1)) rfl nb_t231 nb_t232 nb_t233 nb_t1 nb_t234 hd_Nb_sum rfl ⟨Nat.le_of_ble_eq_true rfl, Nat.le_of_ble_eq_true rfl⟩ ⟨rfl, rfl⟩ (hP.sub [0, 1] rfl) hK1 hC hS hl.1 rfl (Nat.le_of_ble_eq_true rfl) ⟨Nat.le_of_ble_eq_true rfl, Nat.le_of_ble_eq_true rfl⟩ d_law_429 ?_
      refine lv_aload_n hx hb d_law_432 rfl (lv_at hl 2 rfl) ?_
      refine lv_aload_n hx hb d_law_433 rfl (lv_at hl 0 rfl) ?_
      refine lv_iload_n hx hb d_law_434 rfl (lv_at hl 3 rfl) ?_
      refine lv_iconst (v := 1) hx hb d_law_435 (by decide) ?_
      refine lv_iadd hx hb d_law_436 ?_
      refine va_sld hx hb hX hbl hbA hS (lw_atj (j := 1) hL h5 (by decide)) d_law_437 ?_
      refine nb_lwRl (As := [.int (lw_v xs i 1)]) (rest := [.long (mf_Nb_sum g (lw_v xs i 1))]) hx hb hml hown hts (c_Tw_sum l ad D.1 D.2 h2 q2 c2 f (lw_v xs i 1)) rfl nb_t418 nb_t419 nb_t420 nb_t2 nb_t421 hd_Tw_sum rfl ⟨Nat.le_of_ble_eq_true rfl, Nat.le_of_ble_eq_true rfl⟩ ⟨rfl, rfl⟩ (hP.sub [2, 3] rfl) hK2 hC hS hl.1 rfl (Nat.le_of_ble_eq_true rfl) ⟨Nat.le_of_ble_eq_true rfl, Nat.le_of_ble_eq_true rfl⟩ d_law_438 ?_
      refine nb_lc_eq (tgt := 447) hx hb d_law_441 d_law_442 (by decide) (fun _ => ?_) (fun hne => absurd (sm_sum hR (lw_v xs i 1)) hne)
      exact hback _ _ H locs h5 hR hP hD hS
    refine lv_tableOut (tgt := 447) hx hb d_law_32 (by have q0 := lv_neT (a := 0) hv0 (by decide); have q1 := lv_neT (a := 1) hv1 (by decide); have q2 := lv_neT (a := 2) hv2 (by decide); have q3 := lv_neT (a := 3) hv3 (by decide); have q4 := lv_neT (a := 4) hv4 (by decide); have q5 := lv_neT (a := 5) hv5 (by decide); have q6 := lv_neT (a := 6) hv6 (by decide); have q7 := lv_neT (a := 7) hv7 (by decide); have q8 := lv_neT (a := 8) hv8 (by decide); omega) (by decide) ?_
    exact hback g f H locs h5 hR hP hD hS
