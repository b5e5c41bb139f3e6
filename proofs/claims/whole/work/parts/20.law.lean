theorem ts_0_22 {x : Int32} (h0 : ¬ x = 0) (h1 : ¬ x = 1) (h2 : ¬ x = 2) (h3 : ¬ x = 3) (h4 : ¬ x = 4) (h5 : ¬ x = 5) (h6 : ¬ x = 6) (h7 : ¬ x = 7) (h8 : ¬ x = 8) (h9 : ¬ x = 9) (h10 : ¬ x = 10) (h11 : ¬ x = 11) (h12 : ¬ x = 12) (h13 : ¬ x = 13) (h14 : ¬ x = 14) (h15 : ¬ x = 15) (h16 : ¬ x = 16) (h17 : ¬ x = 17) (h18 : ¬ x = 18) (h19 : ¬ x = 19) (h20 : ¬ x = 20) (h21 : ¬ x = 21) (h22 : ¬ x = 22) : x.toInt < 0 ∨ 22 < x.toInt := by
  have e0 := i32_ne (x := x) 0 (by decide) h0
  have e1 := i32_ne (x := x) 1 (by decide) h1
  have e2 := i32_ne (x := x) 2 (by decide) h2
  have e3 := i32_ne (x := x) 3 (by decide) h3
  have e4 := i32_ne (x := x) 4 (by decide) h4
  have e5 := i32_ne (x := x) 5 (by decide) h5
  have e6 := i32_ne (x := x) 6 (by decide) h6
  have e7 := i32_ne (x := x) 7 (by decide) h7
  have e8 := i32_ne (x := x) 8 (by decide) h8
  have e9 := i32_ne (x := x) 9 (by decide) h9
  have e10 := i32_ne (x := x) 10 (by decide) h10
  have e11 := i32_ne (x := x) 11 (by decide) h11
  have e12 := i32_ne (x := x) 12 (by decide) h12
  have e13 := i32_ne (x := x) 13 (by decide) h13
  have e14 := i32_ne (x := x) 14 (by decide) h14
  have e15 := i32_ne (x := x) 15 (by decide) h15
  have e16 := i32_ne (x := x) 16 (by decide) h16
  have e17 := i32_ne (x := x) 17 (by decide) h17
  have e18 := i32_ne (x := x) 18 (by decide) h18
  have e19 := i32_ne (x := x) 19 (by decide) h19
  have e20 := i32_ne (x := x) 20 (by decide) h20
  have e21 := i32_ne (x := x) 21 (by decide) h21
  have e22 := i32_ne (x := x) 22 (by decide) h22
  omega
theorem ct2 : Cond.constantLong RL 21 4294967295 ∈ gtb := gm 904 (by decide +kernel) (by decide +kernel)
theorem wX_at {k : Nat → ClassId} {a : Nat → Nat} {S : XS} {i : Nat} {q : Nat × va_E} (h : (wX k a S)[i]? = some q) : i < 14 ∧ q.1 = a i := by
  have h1 : ((wX k a S).map Prod.fst)[i]? = some q.1 := by rw [List.getElem?_map, h]; rfl
  rw [wX_len, List.getElem?_map] at h1
  by_cases hi : i < 14
  · rw [List.getElem?_range hi] at h1
    exact ⟨hi, (Option.some.inj h1).symm⟩
  · rw [List.getElem?_eq_none (by simp; omega)] at h1
    cases h1
theorem wM_at {k : Nat → ClassId} {a : Nat → Nat} {S : XS} {i : Nat} {q : Nat × va_E} (h : (wM k a S)[i]? = some q) : i < 8 ∧ q.1 = a i := by
  have h1 : ((wM k a S).map Prod.fst)[i]? = some q.1 := by rw [List.getElem?_map, h]; rfl
  rw [wM_len, List.getElem?_map] at h1
  by_cases hi : i < 8
  · rw [List.getElem?_range hi] at h1
    exact ⟨hi, (Option.some.inj h1).symm⟩
  · rw [List.getElem?_eq_none (by simp; omega)] at h1
    cases h1
theorem keepM {D : va_G} {k : Nat → ClassId} {ax am : Nat → Nat} {S T : XS} {H H1 : Heap} (hj : ∀ i j, i < 14 → j < 8 → ax i ≠ am j) (hP : va_P D vwCl (wM k am T) H) (hk : ∀ q : Nat, q < H.size → ¬ va_A (wX k ax S) H.size q → H1[q]? = H[q]?) : va_P D vwCl (wM k am T) H1 := by
  refine hP.kept (fun i q hq => hk q.1 (hP i q hq).lt (fun h => ?_))
  obtain ⟨h1, h2⟩ := wM_at hq
  rcases h with ⟨i2, e, h⟩ | h
  · obtain ⟨h3, h4⟩ := wX_at h
    exact hj i2 i h3 h1 (h4.symm.trans h2)
  · exact absurd (hP i q hq).lt (by omega)
theorem keepX {D : va_G} {k : Nat → ClassId} {ax am : Nat → Nat} {S T : XS} {H H1 : Heap} (hj : ∀ i j, i < 14 → j < 8 → ax i ≠ am j) (hP : va_P D vwCl (wX k ax S) H) (hk : ∀ q : Nat, q < H.size → ¬ va_A (wM k am T) H.size q → H1[q]? = H[q]?) : va_P D vwCl (wX k ax S) H1 := by
  refine hP.kept (fun i q hq => hk q.1 (hP i q hq).lt (fun h => ?_))
  obtain ⟨h1, h2⟩ := wX_at hq
  rcases h with ⟨i2, e, h⟩ | h
  · obtain ⟨h3, h4⟩ := wM_at h
    exact hj i i2 h1 h3 (h2.symm.trans h4)
  · exact absurd (hP i q hq).lt (by omega)
theorem lw_gt {L j : Nat} (hL : L ≤ 2049) (hj : j ≤ L + 1) (h : ¬ (Int32.ofNat L - (4 : Int32)) < nI j) : j + 4 ≤ L := by
  have h1 := pk_sub_toInt (a := L) (b := 4) (by omega) (by omega)
  have h2 : (nI j).toInt = (j : Int) := nI_toInt (by omega)
  have h3 : ¬ ((Int32.ofNat L - (4 : Int32)).toInt < (nI j).toInt) := fun q => h (Int32.lt_iff_toInt_lt.mpr q)
  have h4 : (Int32.ofNat L - (4 : Int32)).toInt = (L : Int) - 4 := h1
  rw [h4, h2] at h3
  omega
set_option maxRecDepth 100000 in
set_option maxHeartbeats 16000000 in
theorem law_loop {p : Program} {l : Launch} {e : Env} {s : State} {m : MethodId} {below : List Frame} {meth : Method} {c : Code} {D : va_G} {k : Nat → ClassId} {ax am : Nat → Nat} {b L : Nat} {xs : Nat → Int32} (hL : L ≤ 2049) (C0 : lw_At p s m meth c b L xs) {w : Bool} {v : Int32} (hEk : Ek ax (fun q : Nat => s.heap.size ≤ q) s s.heap) (hK : va_K D vwCl (tyk k) s) (hDX : ∀ S, va_D (fun q : Nat => s.heap.size ≤ q) (wX k ax S)) (hDM : ∀ S, va_D (fun q : Nat => s.heap.size ≤ q) (wM k am S)) (hj : ∀ i j, i < 14 → j < 8 → ax i ≠ am j) :
    ∀ (n j : Nat), j ≤ L + 1 → L + 2 ≤ j + n → ∀ (S T : XS) (H : Heap) (locs : List Loc) (ls : Array Slot), Rel w v S T → va_P D vwCl (wX k ax S) H → va_P D vwCl (wM k am T) H → va_S (fun q : Nat => s.heap.size ≤ q) s.heap H locs → lv_has ls 4 [(0, .ref b), (1, .ref (ax 0)), (2, .ref (am 0)), (3, .int (nI j))] → W p l e room_1 s m #[Value.ref b] below meth c H locs 22 18773 (lw_Z below #[Value.ref b] s) (F0 m 28 ls []) := by
  obtain ⟨hx, hb, hr, hml, hown, hts0, hX, hbl, hlocks, hgv⟩ := C0
  have hts : ∀ w ∈ gtb, w.before #[Value.ref b] s = true := fun w h => hts0 w (List.mem_filter.mp h).1
  have hA : ∀ q : Nat, s.heap.size ≤ q → (fun q : Nat => s.heap.size ≤ q) q := fun _ h => h
  have hbA : ¬ (fun q : Nat => s.heap.size ≤ q) b := Nat.not_le.mpr hbl
  have C : Cx p s m c #[Value.ref b] RL cL_law 4 D (tyk k) := ⟨⟨hx, hb, hml, hown, hts⟩, hK⟩
  intro n
  induction n with
  | zero =>
    intro j h1 h2
    exact absurd h2 (by omega)
  | succ n ih =>
    intro j hj1 hjn S T H locs ls hRel hPX hPM hS hl
    refine lv_iload_n hx hb dL_law_28 rfl (lv_at hl 3 rfl) ?_
    refine lv_aload_n hx hb dL_law_29 rfl (lv_at hl 0 rfl) ?_
    refine va_slen hx hb hX hbl hbA hS dL_law_30 ?_
    refine lv_iconst (v := (4 : Int32)) hx hb dL_law_31 (by decide) ?_
    refine lv_isub hx hb dL_law_32 ?_
    refine lv_icmp_gt (tgt := 829) hx hb dL_law_33 (by decide) (fun c0 => ?_) (fun c0 => ?_)
    · refine lv_iconst (v := 1) hx hb dL_law_829 (by decide) ?_
      refine va_forget (fun q hq => hS.2.2 q hq) ?_
      exact lw_ret hx hb hr hlocks dL_law_830
    have hj4 : j + 4 ≤ L := lw_gt hL hj1 c0
    have hnext : ∀ (S T : XS) (H : Heap) (locs : List Loc), Rel w v S T → va_P D vwCl (wX k ax S) H → va_P D vwCl (wM k am T) H → va_S (fun q : Nat => s.heap.size ≤ q) s.heap H locs → W p l e room_1 s m #[Value.ref b] below meth c H locs 22 18773 (lw_Z below #[Value.ref b] s) (F0 m 823 ls []) := by
      intro S T H locs hRel hPX hPM hS
      refine lv_iinc (v := nI (j + 4)) (lv' := [(3, .int (nI (j + 4))), (0, .ref b), (1, .ref (ax 0)), (2, .ref (am 0))]) hx hb dL_law_823 hl (k := 3) rfl (by rw [show Int32.ofInt 4 = nI 4 from by decide]; exact nI_add j 4) (by decide) rfl (fun ls hl => ?_)
      refine lv_goto (tgt := 28) hx hb dL_law_826 (by decide) ?_
      exact ih (j + 4) (by omega) (by omega) S T H locs ls hRel hPX hPM hS (lv_sub hl [1, 2, 3, 0] rfl)
    refine lv_aload_n hx hb dL_law_36 rfl (lv_at hl 0 rfl) ?_
    refine lv_iload_n hx hb dL_law_37 rfl (lv_at hl 3 rfl) ?_
    refine va_sld hx hb hX hbl hbA hS (vp_in_nI (by omega) (by omega)) dL_law_38 ?_
    refine lv_bipush (v := 31) hx hb dL_law_39 (by decide) ?_
    refine lv_iand hx hb dL_law_41 ?_
    refine lv_topi (fun zz _ => ?_)
    by_cases d0 : zz = (0 : Int32)
    · refine lv_tableIn (off := 106) (tgt := 148) hx hb dL_law_42 (by rw [d0]; decide) (by rw [d0]; decide) (by rw [d0]; rfl) (by decide) ?_
      refine lv_aload_n hx hb dL_law_148 rfl (lv_at hl 1 rfl) ?_
      refine lv_aload_n hx hb dL_law_149 rfl (lv_at hl 0 rfl) ?_
      refine lv_iload_n hx hb dL_law_150 rfl (lv_at hl 3 rfl) ?_
      refine lv_iconst (v := (1 : Int32)) hx hb dL_law_151 (by decide) ?_
      refine lv_iadd hx hb dL_law_152 ?_
      refine lv_topi (fun z1 ez1 => ?_)
      obtain rfl : z1 = nI (j + 1) := ez1.trans (nI_add j 1)
      refine va_sld hx hb hX hbl hbA hS (vp_in_nI (by omega) (by omega)) dL_law_153 ?_
      refine lv_i2l hx hb dL_law_154 rfl ?_
      refine lv_bipush (v := (32 : Int32)) hx hb dL_law_155 (by decide) ?_
      refine lv_lshl hx hb dL_law_157 rfl ?_
      refine lv_aload_n hx hb dL_law_158 rfl (lv_at hl 0 rfl) ?_
      refine lv_iload_n hx hb dL_law_159 rfl (lv_at hl 3 rfl) ?_
      refine lv_iconst (v := (2 : Int32)) hx hb dL_law_160 (by decide) ?_
      refine lv_iadd hx hb dL_law_161 ?_
      refine lv_topi (fun z2 ez2 => ?_)
      obtain rfl : z2 = nI (j + 2) := ez2.trans (nI_add j 2)
      refine va_sld hx hb hX hbl hbA hS (vp_in_nI (by omega) (by omega)) dL_law_162 ?_
      refine lv_i2l hx hb dL_law_163 rfl ?_
      refine lv_ldc2 (v := (4294967295 : Int64)) hx hb hown (hts _ ct2) dL_law_164 ?_
      refine lv_land hx hb dL_law_167 ?_
      refine lv_lor hx hb dL_law_168 ?_
      refine lv_aload_n hx hb dL_law_169 rfl (lv_at hl 0 rfl) ?_
      refine lv_iload_n hx hb dL_law_170 rfl (lv_at hl 3 rfl) ?_
      refine lv_iconst (v := (3 : Int32)) hx hb dL_law_171 (by decide) ?_
      refine lv_iadd hx hb dL_law_172 ?_
      refine lv_topi (fun z3 ez3 => ?_)
      obtain rfl : z3 = nI (j + 3) := ez3.trans (nI_add j 3)
      refine va_sld hx hb hX hbl hbA hS (vp_in_nI (by omega) (by omega)) dL_law_173 ?_
      obtain ⟨u, t, hu, ht, hut, hRel1⟩ := op_type hRel ((((xs (nI (j + 1)).toNatClampNeg).toInt64) <<< ((32 : Int32).toInt64 &&& 63)) ||| (((xs (nI (j + 2)).toNatClampNeg).toInt64) &&& (4294967295 : Int64))) (xs (nI (j + 3)).toNatClampNeg)
      refine wrV (Ek_est ax) C hPX (hDX _) hA hS hEk (c_X7_type l D k ax _ ((((xs (nI (j + 1)).toNatClampNeg).toInt64) <<< ((32 : Int32).toInt64 &&& 63)) ||| (((xs (nI (j + 2)).toNatClampNeg).toInt64) &&& (4294967295 : Int64))) (xs (nI (j + 3)).toNatClampNeg) u hu) my_X7_type ml_L_23 (rX0 C hPX) rfl hl.1 (rest := []) rfl (Nat.le_of_ble_eq_true rfl) ⟨rfl, rfl, (Nat.le_of_ble_eq_true rfl), (Nat.le_of_ble_eq_true rfl)⟩ ⟨(Nat.le_of_ble_eq_true rfl), (Nat.le_of_ble_eq_true rfl)⟩ dL_law_174 (fun H1 locs1 hPX hS hz hk => ?_)
      have hPM := keepM hj hPM hk
      refine lv_aload_n hx hb dL_law_177 rfl (lv_at hl 2 rfl) ?_
      refine lv_aload_n hx hb dL_law_178 rfl (lv_at hl 0 rfl) ?_
      refine lv_iload_n hx hb dL_law_179 rfl (lv_at hl 3 rfl) ?_
      refine lv_iconst (v := (1 : Int32)) hx hb dL_law_180 (by decide) ?_
      refine lv_iadd hx hb dL_law_181 ?_
      refine lv_topi (fun z4 ez4 => ?_)
      obtain rfl : z4 = nI (j + 1) := ez4.trans (nI_add j 1)
      refine va_sld hx hb hX hbl hbA hS (vp_in_nI (by omega) (by omega)) dL_law_182 ?_
      refine lv_i2l hx hb dL_law_183 rfl ?_
      refine lv_bipush (v := (32 : Int32)) hx hb dL_law_184 (by decide) ?_
      refine lv_lshl hx hb dL_law_186 rfl ?_
      refine lv_aload_n hx hb dL_law_187 rfl (lv_at hl 0 rfl) ?_
      refine lv_iload_n hx hb dL_law_188 rfl (lv_at hl 3 rfl) ?_
      refine lv_iconst (v := (2 : Int32)) hx hb dL_law_189 (by decide) ?_
      refine lv_iadd hx hb dL_law_190 ?_
      refine lv_topi (fun z5 ez5 => ?_)
      obtain rfl : z5 = nI (j + 2) := ez5.trans (nI_add j 2)
      refine va_sld hx hb hX hbl hbA hS (vp_in_nI (by omega) (by omega)) dL_law_191 ?_
      refine lv_i2l hx hb dL_law_192 rfl ?_
      refine lv_ldc2 (v := (4294967295 : Int64)) hx hb hown (hts _ ct2) dL_law_193 ?_
      refine lv_land hx hb dL_law_196 ?_
      refine lv_lor hx hb dL_law_197 ?_
      refine lv_aload_n hx hb dL_law_198 rfl (lv_at hl 0 rfl) ?_
      refine lv_iload_n hx hb dL_law_199 rfl (lv_at hl 3 rfl) ?_
      refine lv_iconst (v := (3 : Int32)) hx hb dL_law_200 (by decide) ?_
      refine lv_iadd hx hb dL_law_201 ?_
      refine lv_topi (fun z6 ez6 => ?_)
      obtain rfl : z6 = nI (j + 3) := ez6.trans (nI_add j 3)
      refine va_sld hx hb hX hbl hbA hS (vp_in_nI (by omega) (by omega)) dL_law_202 ?_
      refine wrV noE_est C hPM (hDM _) hA hS trivial (c_X8_type l D k am _ ((((xs (nI (j + 1)).toNatClampNeg).toInt64) <<< ((32 : Int32).toInt64 &&& 63)) ||| (((xs (nI (j + 2)).toNatClampNeg).toInt64) &&& (4294967295 : Int64))) (xs (nI (j + 3)).toNatClampNeg) t ht) my_X8_type ml_L_27 (rM0 C hPM) rfl hl.1 (rest := [.int u.1]) rfl (Nat.le_of_ble_eq_true rfl) ⟨rfl, rfl, (Nat.le_of_ble_eq_true rfl), (Nat.le_of_ble_eq_true rfl)⟩ ⟨(Nat.le_of_ble_eq_true rfl), (Nat.le_of_ble_eq_true rfl)⟩ dL_law_203 (fun H1 locs1 hPM hS hz hk => ?_)
      have hPX := keepX hj hPX hk
      refine lv_icmp_eq (tgt := 823) hx hb dL_law_206 (by decide) (fun c1 => ?_) (fun c1 => absurd hut c1)
      exact hnext _ _ _ _ hRel1 hPX hPM hS
    by_cases d1 : zz = (1 : Int32)
    · refine lv_tableIn (off := 169) (tgt := 211) hx hb dL_law_42 (by rw [d1]; decide) (by rw [d1]; decide) (by rw [d1]; rfl) (by decide) ?_
      refine lv_aload_n hx hb dL_law_211 rfl (lv_at hl 1 rfl) ?_
      obtain ⟨u, t, hu, ht, hut, hRel1⟩ := op_object hRel 
      refine wrV (Ek_est ax) C hPX (hDX _) hA hS hEk (c_X7_object l D k ax _  u hu) my_X7_object ml_L_28 (rX0 C hPX) rfl hl.1 (rest := []) rfl (Nat.le_of_ble_eq_true rfl) ⟨rfl, rfl, (Nat.le_of_ble_eq_true rfl), (Nat.le_of_ble_eq_true rfl)⟩ ⟨(Nat.le_of_ble_eq_true rfl), (Nat.le_of_ble_eq_true rfl)⟩ dL_law_212 (fun H1 locs1 hPX hS hz hk => ?_)
      have hPM := keepM hj hPM hk
      refine lv_aload_n hx hb dL_law_215 rfl (lv_at hl 2 rfl) ?_
      refine wrV noE_est C hPM (hDM _) hA hS trivial (c_X8_object l D k am _  t ht) my_X8_object ml_L_32 (rM0 C hPM) rfl hl.1 (rest := [.int u.1]) rfl (Nat.le_of_ble_eq_true rfl) ⟨rfl, rfl, (Nat.le_of_ble_eq_true rfl), (Nat.le_of_ble_eq_true rfl)⟩ ⟨(Nat.le_of_ble_eq_true rfl), (Nat.le_of_ble_eq_true rfl)⟩ dL_law_216 (fun H1 locs1 hPM hS hz hk => ?_)
      have hPX := keepX hj hPX hk
      refine lv_icmp_eq (tgt := 823) hx hb dL_law_219 (by decide) (fun c1 => ?_) (fun c1 => absurd hut c1)
      exact hnext _ _ _ _ hRel1 hPX hPM hS
    by_cases d2 : zz = (2 : Int32)
    · refine lv_tableIn (off := 182) (tgt := 224) hx hb dL_law_42 (by rw [d2]; decide) (by rw [d2]; decide) (by rw [d2]; rfl) (by decide) ?_
      refine lv_aload_n hx hb dL_law_224 rfl (lv_at hl 1 rfl) ?_
      have heq := op_count hRel 
      refine rdV (Ek_est ax) C hPX (ef (Ek_est ax) hS hEk) (c_X7_count l D k ax S ) my_X7_count ml_L_33 (rX0 C hPX) rfl hl.1 (rest := []) rfl (Nat.le_of_ble_eq_true rfl) ⟨rfl, rfl, (Nat.le_of_ble_eq_true rfl), (Nat.le_of_ble_eq_true rfl)⟩ ⟨(Nat.le_of_ble_eq_true rfl), (Nat.le_of_ble_eq_true rfl)⟩ dL_law_225 ?_
      refine lv_aload_n hx hb dL_law_228 rfl (lv_at hl 2 rfl) ?_
      refine rdV noE_est C hPM trivial (c_X8_count l D k am T ) my_X8_count ml_L_36 (rM0 C hPM) rfl hl.1 (rest := [.int (fX7_count S )]) rfl (Nat.le_of_ble_eq_true rfl) ⟨rfl, rfl, (Nat.le_of_ble_eq_true rfl), (Nat.le_of_ble_eq_true rfl)⟩ ⟨(Nat.le_of_ble_eq_true rfl), (Nat.le_of_ble_eq_true rfl)⟩ dL_law_229 ?_
      refine lv_icmp_eq (tgt := 823) hx hb dL_law_232 (by decide) (fun c1 => ?_) (fun c1 => absurd heq c1)
      exact hnext _ _ _ _ hRel hPX hPM hS
    by_cases d3 : zz = (3 : Int32)
    · refine lv_tableIn (off := 195) (tgt := 237) hx hb dL_law_42 (by rw [d3]; decide) (by rw [d3]; decide) (by rw [d3]; rfl) (by decide) ?_
      refine lv_aload_n hx hb dL_law_237 rfl (lv_at hl 1 rfl) ?_
      refine lv_aload_n hx hb dL_law_238 rfl (lv_at hl 0 rfl) ?_
      refine lv_iload_n hx hb dL_law_239 rfl (lv_at hl 3 rfl) ?_
      refine lv_iconst (v := (1 : Int32)) hx hb dL_law_240 (by decide) ?_
      refine lv_iadd hx hb dL_law_241 ?_
      refine lv_topi (fun z7 ez7 => ?_)
      obtain rfl : z7 = nI (j + 1) := ez7.trans (nI_add j 1)
      refine va_sld hx hb hX hbl hbA hS (vp_in_nI (by omega) (by omega)) dL_law_242 ?_
      have heq := op_peek hRel (xs (nI (j + 1)).toNatClampNeg)
      refine rdV (Ek_est ax) C hPX (ef (Ek_est ax) hS hEk) (c_X7_peek l D k ax S (xs (nI (j + 1)).toNatClampNeg)) my_X7_peek ml_L_37 (rX0 C hPX) rfl hl.1 (rest := []) rfl (Nat.le_of_ble_eq_true rfl) ⟨rfl, rfl, (Nat.le_of_ble_eq_true rfl), (Nat.le_of_ble_eq_true rfl)⟩ ⟨(Nat.le_of_ble_eq_true rfl), (Nat.le_of_ble_eq_true rfl)⟩ dL_law_243 ?_
      refine lv_aload_n hx hb dL_law_246 rfl (lv_at hl 2 rfl) ?_
      refine lv_aload_n hx hb dL_law_247 rfl (lv_at hl 0 rfl) ?_
      refine lv_iload_n hx hb dL_law_248 rfl (lv_at hl 3 rfl) ?_
      refine lv_iconst (v := (1 : Int32)) hx hb dL_law_249 (by decide) ?_
      refine lv_iadd hx hb dL_law_250 ?_
      refine lv_topi (fun z8 ez8 => ?_)
      obtain rfl : z8 = nI (j + 1) := ez8.trans (nI_add j 1)
      refine va_sld hx hb hX hbl hbA hS (vp_in_nI (by omega) (by omega)) dL_law_251 ?_
      refine rdV noE_est C hPM trivial (c_X8_peek l D k am T (xs (nI (j + 1)).toNatClampNeg)) my_X8_peek ml_L_41 (rM0 C hPM) rfl hl.1 (rest := [.int (fX7_peek S (xs (nI (j + 1)).toNatClampNeg))]) rfl (Nat.le_of_ble_eq_true rfl) ⟨rfl, rfl, (Nat.le_of_ble_eq_true rfl), (Nat.le_of_ble_eq_true rfl)⟩ ⟨(Nat.le_of_ble_eq_true rfl), (Nat.le_of_ble_eq_true rfl)⟩ dL_law_252 ?_
      refine lv_icmp_eq (tgt := 823) hx hb dL_law_255 (by decide) (fun c1 => ?_) (fun c1 => absurd heq c1)
      exact hnext _ _ _ _ hRel hPX hPM hS
    by_cases d4 : zz = (4 : Int32)
    · refine lv_tableIn (off := 218) (tgt := 260) hx hb dL_law_42 (by rw [d4]; decide) (by rw [d4]; decide) (by rw [d4]; rfl) (by decide) ?_
      refine lv_aload_n hx hb dL_law_260 rfl (lv_at hl 1 rfl) ?_
      refine lv_aload_n hx hb dL_law_261 rfl (lv_at hl 0 rfl) ?_
      refine lv_iload_n hx hb dL_law_262 rfl (lv_at hl 3 rfl) ?_
      refine lv_iconst (v := (1 : Int32)) hx hb dL_law_263 (by decide) ?_
      refine lv_iadd hx hb dL_law_264 ?_
      refine lv_topi (fun z9 ez9 => ?_)
      obtain rfl : z9 = nI (j + 1) := ez9.trans (nI_add j 1)
      refine va_sld hx hb hX hbl hbA hS (vp_in_nI (by omega) (by omega)) dL_law_265 ?_
      refine lv_aload_n hx hb dL_law_266 rfl (lv_at hl 0 rfl) ?_
      refine lv_iload_n hx hb dL_law_267 rfl (lv_at hl 3 rfl) ?_
      refine lv_iconst (v := (2 : Int32)) hx hb dL_law_268 (by decide) ?_
      refine lv_iadd hx hb dL_law_269 ?_
      refine lv_topi (fun z10 ez10 => ?_)
      obtain rfl : z10 = nI (j + 2) := ez10.trans (nI_add j 2)
      refine va_sld hx hb hX hbl hbA hS (vp_in_nI (by omega) (by omega)) dL_law_270 ?_
      obtain ⟨u, t, hu, ht, hut, hRel1⟩ := op_poke hRel (xs (nI (j + 1)).toNatClampNeg) (xs (nI (j + 2)).toNatClampNeg)
      subst hu
      refine wrV (Ek_est ax) C hPX (hDX _) hA hS hEk (c_X7_poke l D k ax _ (xs (nI (j + 1)).toNatClampNeg) (xs (nI (j + 2)).toNatClampNeg)) my_X7_poke ml_L_42 (rX0 C hPX) rfl hl.1 (rest := []) rfl (Nat.le_of_ble_eq_true rfl) ⟨rfl, rfl, (Nat.le_of_ble_eq_true rfl), (Nat.le_of_ble_eq_true rfl)⟩ ⟨(Nat.le_of_ble_eq_true rfl), (Nat.le_of_ble_eq_true rfl)⟩ dL_law_271 (fun H1 locs1 hPX hS hz hk => ?_)
      have hPM := keepM hj hPM hk
      refine lv_aload_n hx hb dL_law_274 rfl (lv_at hl 2 rfl) ?_
      refine lv_aload_n hx hb dL_law_275 rfl (lv_at hl 0 rfl) ?_
      refine lv_iload_n hx hb dL_law_276 rfl (lv_at hl 3 rfl) ?_
      refine lv_iconst (v := (1 : Int32)) hx hb dL_law_277 (by decide) ?_
      refine lv_iadd hx hb dL_law_278 ?_
      refine lv_topi (fun z11 ez11 => ?_)
      obtain rfl : z11 = nI (j + 1) := ez11.trans (nI_add j 1)
      refine va_sld hx hb hX hbl hbA hS (vp_in_nI (by omega) (by omega)) dL_law_279 ?_
      refine lv_aload_n hx hb dL_law_280 rfl (lv_at hl 0 rfl) ?_
      refine lv_iload_n hx hb dL_law_281 rfl (lv_at hl 3 rfl) ?_
      refine lv_iconst (v := (2 : Int32)) hx hb dL_law_282 (by decide) ?_
      refine lv_iadd hx hb dL_law_283 ?_
      refine lv_topi (fun z12 ez12 => ?_)
      obtain rfl : z12 = nI (j + 2) := ez12.trans (nI_add j 2)
      refine va_sld hx hb hX hbl hbA hS (vp_in_nI (by omega) (by omega)) dL_law_284 ?_
      subst ht
      refine wrV noE_est C hPM (hDM _) hA hS trivial (c_X8_poke l D k am _ (xs (nI (j + 1)).toNatClampNeg) (xs (nI (j + 2)).toNatClampNeg)) my_X8_poke ml_L_46 (rM0 C hPM) rfl hl.1 (rest := [.int (fX7_poke S (xs (nI (j + 1)).toNatClampNeg) (xs (nI (j + 2)).toNatClampNeg)).1]) rfl (Nat.le_of_ble_eq_true rfl) ⟨rfl, rfl, (Nat.le_of_ble_eq_true rfl), (Nat.le_of_ble_eq_true rfl)⟩ ⟨(Nat.le_of_ble_eq_true rfl), (Nat.le_of_ble_eq_true rfl)⟩ dL_law_285 (fun H1 locs1 hPM hS hz hk => ?_)
      have hPX := keepX hj hPX hk
      refine lv_icmp_eq (tgt := 823) hx hb dL_law_288 (by decide) (fun c1 => ?_) (fun c1 => absurd hut c1)
      exact hnext _ _ _ _ hRel1 hPX hPM hS
    by_cases d5 : zz = (5 : Int32)
    · refine lv_tableIn (off := 251) (tgt := 293) hx hb dL_law_42 (by rw [d5]; decide) (by rw [d5]; decide) (by rw [d5]; rfl) (by decide) ?_
      refine lv_aload_n hx hb dL_law_293 rfl (lv_at hl 1 rfl) ?_
      refine lv_aload_n hx hb dL_law_294 rfl (lv_at hl 0 rfl) ?_
      refine lv_iload_n hx hb dL_law_295 rfl (lv_at hl 3 rfl) ?_
      refine lv_iconst (v := (1 : Int32)) hx hb dL_law_296 (by decide) ?_
      refine lv_iadd hx hb dL_law_297 ?_
      refine lv_topi (fun z13 ez13 => ?_)
      obtain rfl : z13 = nI (j + 1) := ez13.trans (nI_add j 1)
      refine va_sld hx hb hX hbl hbA hS (vp_in_nI (by omega) (by omega)) dL_law_298 ?_
      refine lv_if_eq (tgt := 306) hx hb dL_law_299 (by decide) (fun c114 => ?_) (fun c114 => ?_)
      · skip
        refine lv_iconst (v := (0 : Int32)) hx hb dL_law_306 (by decide) ?_
        obtain ⟨u, t, hu, ht, hut, hRel1⟩ := op_strict hRel false
        refine wrV (Ek_est ax) C hPX (hDX _) hA hS hEk (c_X7_strict l D k ax _ false u hu) my_X7_strict ml_L_47 (rX0 C hPX) rfl hl.1 (rest := []) rfl (Nat.le_of_ble_eq_true rfl) ⟨rfl, rfl, (Nat.le_of_ble_eq_true rfl), (Nat.le_of_ble_eq_true rfl)⟩ ⟨(Nat.le_of_ble_eq_true rfl), (Nat.le_of_ble_eq_true rfl)⟩ dL_law_307 (fun H1 locs1 hPX hS hz hk => ?_)
        have hPM := keepM hj hPM hk
        refine lv_aload_n hx hb dL_law_310 rfl (lv_at hl 2 rfl) ?_
        refine lv_aload_n hx hb dL_law_311 rfl (lv_at hl 0 rfl) ?_
        refine lv_iload_n hx hb dL_law_312 rfl (lv_at hl 3 rfl) ?_
        refine lv_iconst (v := (1 : Int32)) hx hb dL_law_313 (by decide) ?_
        refine lv_iadd hx hb dL_law_314 ?_
        refine lv_topi (fun z15 ez15 => ?_)
        obtain rfl : z15 = nI (j + 1) := ez15.trans (nI_add j 1)
        refine va_sld hx hb hX hbl hbA hS (vp_in_nI (by omega) (by omega)) dL_law_315 ?_
        refine lv_if_eq (tgt := 323) hx hb dL_law_316 (by decide) (fun c116 => ?_) (fun c116 => ?_)
        · skip
          refine lv_iconst (v := (0 : Int32)) hx hb dL_law_323 (by decide) ?_
          refine wrV noE_est C hPM (hDM _) hA hS trivial (c_X8_strict l D k am _ false t ht) my_X8_strict ml_L_51 (rM0 C hPM) rfl hl.1 (rest := [.int u.1]) rfl (Nat.le_of_ble_eq_true rfl) ⟨rfl, rfl, (Nat.le_of_ble_eq_true rfl), (Nat.le_of_ble_eq_true rfl)⟩ ⟨(Nat.le_of_ble_eq_true rfl), (Nat.le_of_ble_eq_true rfl)⟩ dL_law_324 (fun H1 locs1 hPM hS hz hk => ?_)
          have hPX := keepX hj hPX hk
          refine lv_icmp_eq (tgt := 823) hx hb dL_law_327 (by decide) (fun c1 => ?_) (fun c1 => absurd hut c1)
          exact hnext _ _ _ _ hRel1 hPX hPM hS
        · exact absurd c114 c116
      · skip
        refine lv_iconst (v := (1 : Int32)) hx hb dL_law_302 (by decide) ?_
        refine lv_goto (tgt := 307) hx hb dL_law_303 (by decide) ?_
        obtain ⟨u, t, hu, ht, hut, hRel1⟩ := op_strict hRel true
        refine wrV (Ek_est ax) C hPX (hDX _) hA hS hEk (c_X7_strict l D k ax _ true u hu) my_X7_strict ml_L_47 (rX0 C hPX) rfl hl.1 (rest := []) rfl (Nat.le_of_ble_eq_true rfl) ⟨rfl, rfl, (Nat.le_of_ble_eq_true rfl), (Nat.le_of_ble_eq_true rfl)⟩ ⟨(Nat.le_of_ble_eq_true rfl), (Nat.le_of_ble_eq_true rfl)⟩ dL_law_307 (fun H1 locs1 hPX hS hz hk => ?_)
        have hPM := keepM hj hPM hk
        refine lv_aload_n hx hb dL_law_310 rfl (lv_at hl 2 rfl) ?_
        refine lv_aload_n hx hb dL_law_311 rfl (lv_at hl 0 rfl) ?_
        refine lv_iload_n hx hb dL_law_312 rfl (lv_at hl 3 rfl) ?_
        refine lv_iconst (v := (1 : Int32)) hx hb dL_law_313 (by decide) ?_
        refine lv_iadd hx hb dL_law_314 ?_
        refine lv_topi (fun z17 ez17 => ?_)
        obtain rfl : z17 = nI (j + 1) := ez17.trans (nI_add j 1)
        refine va_sld hx hb hX hbl hbA hS (vp_in_nI (by omega) (by omega)) dL_law_315 ?_
        refine lv_if_eq (tgt := 323) hx hb dL_law_316 (by decide) (fun c118 => ?_) (fun c118 => ?_)
        · exact absurd c118 c114
        · skip
          refine lv_iconst (v := (1 : Int32)) hx hb dL_law_319 (by decide) ?_
          refine lv_goto (tgt := 324) hx hb dL_law_320 (by decide) ?_
          refine wrV noE_est C hPM (hDM _) hA hS trivial (c_X8_strict l D k am _ true t ht) my_X8_strict ml_L_51 (rM0 C hPM) rfl hl.1 (rest := [.int u.1]) rfl (Nat.le_of_ble_eq_true rfl) ⟨rfl, rfl, (Nat.le_of_ble_eq_true rfl), (Nat.le_of_ble_eq_true rfl)⟩ ⟨(Nat.le_of_ble_eq_true rfl), (Nat.le_of_ble_eq_true rfl)⟩ dL_law_324 (fun H1 locs1 hPM hS hz hk => ?_)
          have hPX := keepX hj hPX hk
          refine lv_icmp_eq (tgt := 823) hx hb dL_law_327 (by decide) (fun c1 => ?_) (fun c1 => absurd hut c1)
          exact hnext _ _ _ _ hRel1 hPX hPM hS
    by_cases d6 : zz = (6 : Int32)
    · refine lv_tableIn (off := 290) (tgt := 332) hx hb dL_law_42 (by rw [d6]; decide) (by rw [d6]; decide) (by rw [d6]; rfl) (by decide) ?_
      refine lv_aload_n hx hb dL_law_332 rfl (lv_at hl 1 rfl) ?_
      refine lv_aload_n hx hb dL_law_333 rfl (lv_at hl 0 rfl) ?_
      refine lv_iload_n hx hb dL_law_334 rfl (lv_at hl 3 rfl) ?_
      refine lv_iconst (v := (1 : Int32)) hx hb dL_law_335 (by decide) ?_
      refine lv_iadd hx hb dL_law_336 ?_
      refine lv_topi (fun z19 ez19 => ?_)
      obtain rfl : z19 = nI (j + 1) := ez19.trans (nI_add j 1)
      refine va_sld hx hb hX hbl hbA hS (vp_in_nI (by omega) (by omega)) dL_law_337 ?_
      have heq := op_parent hRel (xs (nI (j + 1)).toNatClampNeg)
      refine rdV (Ek_est ax) C hPX (ef (Ek_est ax) hS hEk) (c_X7_parent l D k ax S (xs (nI (j + 1)).toNatClampNeg)) my_X7_parent ml_L_52 (rX0 C hPX) rfl hl.1 (rest := []) rfl (Nat.le_of_ble_eq_true rfl) ⟨rfl, rfl, (Nat.le_of_ble_eq_true rfl), (Nat.le_of_ble_eq_true rfl)⟩ ⟨(Nat.le_of_ble_eq_true rfl), (Nat.le_of_ble_eq_true rfl)⟩ dL_law_338 ?_
      refine lv_aload_n hx hb dL_law_341 rfl (lv_at hl 2 rfl) ?_
      refine lv_aload_n hx hb dL_law_342 rfl (lv_at hl 0 rfl) ?_
      refine lv_iload_n hx hb dL_law_343 rfl (lv_at hl 3 rfl) ?_
      refine lv_iconst (v := (1 : Int32)) hx hb dL_law_344 (by decide) ?_
      refine lv_iadd hx hb dL_law_345 ?_
      refine lv_topi (fun z20 ez20 => ?_)
      obtain rfl : z20 = nI (j + 1) := ez20.trans (nI_add j 1)
      refine va_sld hx hb hX hbl hbA hS (vp_in_nI (by omega) (by omega)) dL_law_346 ?_
      refine rdV noE_est C hPM trivial (c_X8_parent l D k am T (xs (nI (j + 1)).toNatClampNeg)) my_X8_parent ml_L_55 (rM0 C hPM) rfl hl.1 (rest := [.int (fX7_parent S (xs (nI (j + 1)).toNatClampNeg))]) rfl (Nat.le_of_ble_eq_true rfl) ⟨rfl, rfl, (Nat.le_of_ble_eq_true rfl), (Nat.le_of_ble_eq_true rfl)⟩ ⟨(Nat.le_of_ble_eq_true rfl), (Nat.le_of_ble_eq_true rfl)⟩ dL_law_347 ?_
      refine lv_icmp_eq (tgt := 823) hx hb dL_law_350 (by decide) (fun c1 => ?_) (fun c1 => absurd heq c1)
      exact hnext _ _ _ _ hRel hPX hPM hS
    by_cases d7 : zz = (7 : Int32)
    · refine lv_tableIn (off := 313) (tgt := 355) hx hb dL_law_42 (by rw [d7]; decide) (by rw [d7]; decide) (by rw [d7]; rfl) (by decide) ?_
      refine lv_aload_n hx hb dL_law_355 rfl (lv_at hl 1 rfl) ?_
      refine lv_aload_n hx hb dL_law_356 rfl (lv_at hl 0 rfl) ?_
      refine lv_iload_n hx hb dL_law_357 rfl (lv_at hl 3 rfl) ?_
      refine lv_iconst (v := (1 : Int32)) hx hb dL_law_358 (by decide) ?_
      refine lv_iadd hx hb dL_law_359 ?_
      refine lv_topi (fun z21 ez21 => ?_)
      obtain rfl : z21 = nI (j + 1) := ez21.trans (nI_add j 1)
      refine va_sld hx hb hX hbl hbA hS (vp_in_nI (by omega) (by omega)) dL_law_360 ?_
      have heq := op_child hRel (xs (nI (j + 1)).toNatClampNeg)
      refine rdV (Ek_est ax) C hPX (ef (Ek_est ax) hS hEk) (c_X7_child l D k ax S (xs (nI (j + 1)).toNatClampNeg)) my_X7_child ml_L_56 (rX0 C hPX) rfl hl.1 (rest := []) rfl (Nat.le_of_ble_eq_true rfl) ⟨rfl, rfl, (Nat.le_of_ble_eq_true rfl), (Nat.le_of_ble_eq_true rfl)⟩ ⟨(Nat.le_of_ble_eq_true rfl), (Nat.le_of_ble_eq_true rfl)⟩ dL_law_361 ?_
      refine lv_aload_n hx hb dL_law_364 rfl (lv_at hl 2 rfl) ?_
      refine lv_aload_n hx hb dL_law_365 rfl (lv_at hl 0 rfl) ?_
      refine lv_iload_n hx hb dL_law_366 rfl (lv_at hl 3 rfl) ?_
      refine lv_iconst (v := (1 : Int32)) hx hb dL_law_367 (by decide) ?_
      refine lv_iadd hx hb dL_law_368 ?_
      refine lv_topi (fun z22 ez22 => ?_)
      obtain rfl : z22 = nI (j + 1) := ez22.trans (nI_add j 1)
      refine va_sld hx hb hX hbl hbA hS (vp_in_nI (by omega) (by omega)) dL_law_369 ?_
      refine rdV noE_est C hPM trivial (c_X8_child l D k am T (xs (nI (j + 1)).toNatClampNeg)) my_X8_child ml_L_59 (rM0 C hPM) rfl hl.1 (rest := [.int (fX7_child S (xs (nI (j + 1)).toNatClampNeg))]) rfl (Nat.le_of_ble_eq_true rfl) ⟨rfl, rfl, (Nat.le_of_ble_eq_true rfl), (Nat.le_of_ble_eq_true rfl)⟩ ⟨(Nat.le_of_ble_eq_true rfl), (Nat.le_of_ble_eq_true rfl)⟩ dL_law_370 ?_
      refine lv_icmp_eq (tgt := 823) hx hb dL_law_373 (by decide) (fun c1 => ?_) (fun c1 => absurd heq c1)
      exact hnext _ _ _ _ hRel hPX hPM hS
    by_cases d8 : zz = (8 : Int32)
    · refine lv_tableIn (off := 336) (tgt := 378) hx hb dL_law_42 (by rw [d8]; decide) (by rw [d8]; decide) (by rw [d8]; rfl) (by decide) ?_
      refine lv_aload_n hx hb dL_law_378 rfl (lv_at hl 1 rfl) ?_
      refine lv_aload_n hx hb dL_law_379 rfl (lv_at hl 0 rfl) ?_
      refine lv_iload_n hx hb dL_law_380 rfl (lv_at hl 3 rfl) ?_
      refine lv_iconst (v := (1 : Int32)) hx hb dL_law_381 (by decide) ?_
      refine lv_iadd hx hb dL_law_382 ?_
      refine lv_topi (fun z23 ez23 => ?_)
      obtain rfl : z23 = nI (j + 1) := ez23.trans (nI_add j 1)
      refine va_sld hx hb hX hbl hbA hS (vp_in_nI (by omega) (by omega)) dL_law_383 ?_
      have heq := op_sibling hRel (xs (nI (j + 1)).toNatClampNeg)
      refine rdV (Ek_est ax) C hPX (ef (Ek_est ax) hS hEk) (c_X7_sibling l D k ax S (xs (nI (j + 1)).toNatClampNeg)) my_X7_sibling ml_L_60 (rX0 C hPX) rfl hl.1 (rest := []) rfl (Nat.le_of_ble_eq_true rfl) ⟨rfl, rfl, (Nat.le_of_ble_eq_true rfl), (Nat.le_of_ble_eq_true rfl)⟩ ⟨(Nat.le_of_ble_eq_true rfl), (Nat.le_of_ble_eq_true rfl)⟩ dL_law_384 ?_
      refine lv_aload_n hx hb dL_law_387 rfl (lv_at hl 2 rfl) ?_
      refine lv_aload_n hx hb dL_law_388 rfl (lv_at hl 0 rfl) ?_
      refine lv_iload_n hx hb dL_law_389 rfl (lv_at hl 3 rfl) ?_
      refine lv_iconst (v := (1 : Int32)) hx hb dL_law_390 (by decide) ?_
      refine lv_iadd hx hb dL_law_391 ?_
      refine lv_topi (fun z24 ez24 => ?_)
      obtain rfl : z24 = nI (j + 1) := ez24.trans (nI_add j 1)
      refine va_sld hx hb hX hbl hbA hS (vp_in_nI (by omega) (by omega)) dL_law_392 ?_
      refine rdV noE_est C hPM trivial (c_X8_sibling l D k am T (xs (nI (j + 1)).toNatClampNeg)) my_X8_sibling ml_L_63 (rM0 C hPM) rfl hl.1 (rest := [.int (fX7_sibling S (xs (nI (j + 1)).toNatClampNeg))]) rfl (Nat.le_of_ble_eq_true rfl) ⟨rfl, rfl, (Nat.le_of_ble_eq_true rfl), (Nat.le_of_ble_eq_true rfl)⟩ ⟨(Nat.le_of_ble_eq_true rfl), (Nat.le_of_ble_eq_true rfl)⟩ dL_law_393 ?_
      refine lv_icmp_eq (tgt := 823) hx hb dL_law_396 (by decide) (fun c1 => ?_) (fun c1 => absurd heq c1)
      exact hnext _ _ _ _ hRel hPX hPM hS
    by_cases d9 : zz = (9 : Int32)
    · refine lv_tableIn (off := 359) (tgt := 401) hx hb dL_law_42 (by rw [d9]; decide) (by rw [d9]; decide) (by rw [d9]; rfl) (by decide) ?_
      refine lv_aload_n hx hb dL_law_401 rfl (lv_at hl 1 rfl) ?_
      refine lv_aload_n hx hb dL_law_402 rfl (lv_at hl 0 rfl) ?_
      refine lv_iload_n hx hb dL_law_403 rfl (lv_at hl 3 rfl) ?_
      refine lv_iconst (v := (1 : Int32)) hx hb dL_law_404 (by decide) ?_
      refine lv_iadd hx hb dL_law_405 ?_
      refine lv_topi (fun z25 ez25 => ?_)
      obtain rfl : z25 = nI (j + 1) := ez25.trans (nI_add j 1)
      refine va_sld hx hb hX hbl hbA hS (vp_in_nI (by omega) (by omega)) dL_law_406 ?_
      refine lv_aload_n hx hb dL_law_407 rfl (lv_at hl 0 rfl) ?_
      refine lv_iload_n hx hb dL_law_408 rfl (lv_at hl 3 rfl) ?_
      refine lv_iconst (v := (2 : Int32)) hx hb dL_law_409 (by decide) ?_
      refine lv_iadd hx hb dL_law_410 ?_
      refine lv_topi (fun z26 ez26 => ?_)
      obtain rfl : z26 = nI (j + 2) := ez26.trans (nI_add j 2)
      refine va_sld hx hb hX hbl hbA hS (vp_in_nI (by omega) (by omega)) dL_law_411 ?_
      obtain ⟨u, t, hu, ht, hut, hRel1⟩ := op_move hRel (xs (nI (j + 1)).toNatClampNeg) (xs (nI (j + 2)).toNatClampNeg)
      refine wrV (Ek_est ax) C hPX (hDX _) hA hS hEk (c_X7_move l D k ax _ (xs (nI (j + 1)).toNatClampNeg) (xs (nI (j + 2)).toNatClampNeg) u hu) my_X7_move ml_L_64 (rX0 C hPX) rfl hl.1 (rest := []) rfl (Nat.le_of_ble_eq_true rfl) ⟨rfl, rfl, (Nat.le_of_ble_eq_true rfl), (Nat.le_of_ble_eq_true rfl)⟩ ⟨(Nat.le_of_ble_eq_true rfl), (Nat.le_of_ble_eq_true rfl)⟩ dL_law_412 (fun H1 locs1 hPX hS hz hk => ?_)
      have hPM := keepM hj hPM hk
      refine lv_aload_n hx hb dL_law_415 rfl (lv_at hl 2 rfl) ?_
      refine lv_aload_n hx hb dL_law_416 rfl (lv_at hl 0 rfl) ?_
      refine lv_iload_n hx hb dL_law_417 rfl (lv_at hl 3 rfl) ?_
      refine lv_iconst (v := (1 : Int32)) hx hb dL_law_418 (by decide) ?_
      refine lv_iadd hx hb dL_law_419 ?_
      refine lv_topi (fun z27 ez27 => ?_)
      obtain rfl : z27 = nI (j + 1) := ez27.trans (nI_add j 1)
      refine va_sld hx hb hX hbl hbA hS (vp_in_nI (by omega) (by omega)) dL_law_420 ?_
      refine lv_aload_n hx hb dL_law_421 rfl (lv_at hl 0 rfl) ?_
      refine lv_iload_n hx hb dL_law_422 rfl (lv_at hl 3 rfl) ?_
      refine lv_iconst (v := (2 : Int32)) hx hb dL_law_423 (by decide) ?_
      refine lv_iadd hx hb dL_law_424 ?_
      refine lv_topi (fun z28 ez28 => ?_)
      obtain rfl : z28 = nI (j + 2) := ez28.trans (nI_add j 2)
      refine va_sld hx hb hX hbl hbA hS (vp_in_nI (by omega) (by omega)) dL_law_425 ?_
      refine wrV noE_est C hPM (hDM _) hA hS trivial (c_X8_move l D k am _ (xs (nI (j + 1)).toNatClampNeg) (xs (nI (j + 2)).toNatClampNeg) t ht) my_X8_move ml_L_67 (rM0 C hPM) rfl hl.1 (rest := [.int u.1]) rfl (Nat.le_of_ble_eq_true rfl) ⟨rfl, rfl, (Nat.le_of_ble_eq_true rfl), (Nat.le_of_ble_eq_true rfl)⟩ ⟨(Nat.le_of_ble_eq_true rfl), (Nat.le_of_ble_eq_true rfl)⟩ dL_law_426 (fun H1 locs1 hPM hS hz hk => ?_)
      have hPX := keepX hj hPX hk
      refine lv_icmp_eq (tgt := 823) hx hb dL_law_429 (by decide) (fun c1 => ?_) (fun c1 => absurd hut c1)
      exact hnext _ _ _ _ hRel1 hPX hPM hS
    by_cases d10 : zz = (10 : Int32)
    · refine lv_tableIn (off := 392) (tgt := 434) hx hb dL_law_42 (by rw [d10]; decide) (by rw [d10]; decide) (by rw [d10]; rfl) (by decide) ?_
      refine lv_aload_n hx hb dL_law_434 rfl (lv_at hl 1 rfl) ?_
      refine lv_aload_n hx hb dL_law_435 rfl (lv_at hl 0 rfl) ?_
      refine lv_iload_n hx hb dL_law_436 rfl (lv_at hl 3 rfl) ?_
      refine lv_iconst (v := (1 : Int32)) hx hb dL_law_437 (by decide) ?_
      refine lv_iadd hx hb dL_law_438 ?_
      refine lv_topi (fun z29 ez29 => ?_)
      obtain rfl : z29 = nI (j + 1) := ez29.trans (nI_add j 1)
      refine va_sld hx hb hX hbl hbA hS (vp_in_nI (by omega) (by omega)) dL_law_439 ?_
      obtain ⟨u, t, hu, ht, hut, hRel1⟩ := op_remove hRel (xs (nI (j + 1)).toNatClampNeg)
      refine wrV (Ek_est ax) C hPX (hDX _) hA hS hEk (c_X7_remove l D k ax _ (xs (nI (j + 1)).toNatClampNeg) u hu) my_X7_remove ml_L_68 (rX0 C hPX) rfl hl.1 (rest := []) rfl (Nat.le_of_ble_eq_true rfl) ⟨rfl, rfl, (Nat.le_of_ble_eq_true rfl), (Nat.le_of_ble_eq_true rfl)⟩ ⟨(Nat.le_of_ble_eq_true rfl), (Nat.le_of_ble_eq_true rfl)⟩ dL_law_440 (fun H1 locs1 hPX hS hz hk => ?_)
      have hPM := keepM hj hPM hk
      refine lv_aload_n hx hb dL_law_443 rfl (lv_at hl 2 rfl) ?_
      refine lv_aload_n hx hb dL_law_444 rfl (lv_at hl 0 rfl) ?_
      refine lv_iload_n hx hb dL_law_445 rfl (lv_at hl 3 rfl) ?_
      refine lv_iconst (v := (1 : Int32)) hx hb dL_law_446 (by decide) ?_
      refine lv_iadd hx hb dL_law_447 ?_
      refine lv_topi (fun z30 ez30 => ?_)
      obtain rfl : z30 = nI (j + 1) := ez30.trans (nI_add j 1)
      refine va_sld hx hb hX hbl hbA hS (vp_in_nI (by omega) (by omega)) dL_law_448 ?_
      refine wrV noE_est C hPM (hDM _) hA hS trivial (c_X8_remove l D k am _ (xs (nI (j + 1)).toNatClampNeg) t ht) my_X8_remove ml_L_71 (rM0 C hPM) rfl hl.1 (rest := [.int u.1]) rfl (Nat.le_of_ble_eq_true rfl) ⟨rfl, rfl, (Nat.le_of_ble_eq_true rfl), (Nat.le_of_ble_eq_true rfl)⟩ ⟨(Nat.le_of_ble_eq_true rfl), (Nat.le_of_ble_eq_true rfl)⟩ dL_law_449 (fun H1 locs1 hPM hS hz hk => ?_)
      have hPX := keepX hj hPX hk
      refine lv_icmp_eq (tgt := 823) hx hb dL_law_452 (by decide) (fun c1 => ?_) (fun c1 => absurd hut c1)
      exact hnext _ _ _ _ hRel1 hPX hPM hS
    by_cases d11 : zz = (11 : Int32)
    · refine lv_tableIn (off := 415) (tgt := 457) hx hb dL_law_42 (by rw [d11]; decide) (by rw [d11]; decide) (by rw [d11]; rfl) (by decide) ?_
      refine lv_aload_n hx hb dL_law_457 rfl (lv_at hl 1 rfl) ?_
      refine lv_aload_n hx hb dL_law_458 rfl (lv_at hl 0 rfl) ?_
      refine lv_iload_n hx hb dL_law_459 rfl (lv_at hl 3 rfl) ?_
      refine lv_iconst (v := (1 : Int32)) hx hb dL_law_460 (by decide) ?_
      refine lv_iadd hx hb dL_law_461 ?_
      refine lv_topi (fun z31 ez31 => ?_)
      obtain rfl : z31 = nI (j + 1) := ez31.trans (nI_add j 1)
      refine va_sld hx hb hX hbl hbA hS (vp_in_nI (by omega) (by omega)) dL_law_462 ?_
      refine lv_aload_n hx hb dL_law_463 rfl (lv_at hl 0 rfl) ?_
      refine lv_iload_n hx hb dL_law_464 rfl (lv_at hl 3 rfl) ?_
      refine lv_iconst (v := (2 : Int32)) hx hb dL_law_465 (by decide) ?_
      refine lv_iadd hx hb dL_law_466 ?_
      refine lv_topi (fun z32 ez32 => ?_)
      obtain rfl : z32 = nI (j + 2) := ez32.trans (nI_add j 2)
      refine va_sld hx hb hX hbl hbA hS (vp_in_nI (by omega) (by omega)) dL_law_467 ?_
      refine lv_aload_n hx hb dL_law_468 rfl (lv_at hl 0 rfl) ?_
      refine lv_iload_n hx hb dL_law_469 rfl (lv_at hl 3 rfl) ?_
      refine lv_iconst (v := (3 : Int32)) hx hb dL_law_470 (by decide) ?_
      refine lv_iadd hx hb dL_law_471 ?_
      refine lv_topi (fun z33 ez33 => ?_)
      obtain rfl : z33 = nI (j + 3) := ez33.trans (nI_add j 3)
      refine va_sld hx hb hX hbl hbA hS (vp_in_nI (by omega) (by omega)) dL_law_472 ?_
      obtain ⟨u, t, hu, ht, hut, hRel1⟩ := op_attribute hRel (xs (nI (j + 1)).toNatClampNeg) (xs (nI (j + 2)).toNatClampNeg) (xs (nI (j + 3)).toNatClampNeg)
      subst hu
      refine wrV (Ek_est ax) C hPX (hDX _) hA hS hEk (c_X7_attribute l D k ax _ (xs (nI (j + 1)).toNatClampNeg) (xs (nI (j + 2)).toNatClampNeg) (xs (nI (j + 3)).toNatClampNeg)) my_X7_attribute ml_L_72 (rX0 C hPX) rfl hl.1 (rest := []) rfl (Nat.le_of_ble_eq_true rfl) ⟨rfl, rfl, (Nat.le_of_ble_eq_true rfl), (Nat.le_of_ble_eq_true rfl)⟩ ⟨(Nat.le_of_ble_eq_true rfl), (Nat.le_of_ble_eq_true rfl)⟩ dL_law_473 (fun H1 locs1 hPX hS hz hk => ?_)
      have hPM := keepM hj hPM hk
      refine lv_aload_n hx hb dL_law_476 rfl (lv_at hl 2 rfl) ?_
      refine lv_aload_n hx hb dL_law_477 rfl (lv_at hl 0 rfl) ?_
      refine lv_iload_n hx hb dL_law_478 rfl (lv_at hl 3 rfl) ?_
      refine lv_iconst (v := (1 : Int32)) hx hb dL_law_479 (by decide) ?_
      refine lv_iadd hx hb dL_law_480 ?_
      refine lv_topi (fun z34 ez34 => ?_)
      obtain rfl : z34 = nI (j + 1) := ez34.trans (nI_add j 1)
      refine va_sld hx hb hX hbl hbA hS (vp_in_nI (by omega) (by omega)) dL_law_481 ?_
      refine lv_aload_n hx hb dL_law_482 rfl (lv_at hl 0 rfl) ?_
      refine lv_iload_n hx hb dL_law_483 rfl (lv_at hl 3 rfl) ?_
      refine lv_iconst (v := (2 : Int32)) hx hb dL_law_484 (by decide) ?_
      refine lv_iadd hx hb dL_law_485 ?_
      refine lv_topi (fun z35 ez35 => ?_)
      obtain rfl : z35 = nI (j + 2) := ez35.trans (nI_add j 2)
      refine va_sld hx hb hX hbl hbA hS (vp_in_nI (by omega) (by omega)) dL_law_486 ?_
      refine lv_aload_n hx hb dL_law_487 rfl (lv_at hl 0 rfl) ?_
      refine lv_iload_n hx hb dL_law_488 rfl (lv_at hl 3 rfl) ?_
      refine lv_iconst (v := (3 : Int32)) hx hb dL_law_489 (by decide) ?_
      refine lv_iadd hx hb dL_law_490 ?_
      refine lv_topi (fun z36 ez36 => ?_)
      obtain rfl : z36 = nI (j + 3) := ez36.trans (nI_add j 3)
      refine va_sld hx hb hX hbl hbA hS (vp_in_nI (by omega) (by omega)) dL_law_491 ?_
      subst ht
      refine wrV noE_est C hPM (hDM _) hA hS trivial (c_X8_attribute l D k am _ (xs (nI (j + 1)).toNatClampNeg) (xs (nI (j + 2)).toNatClampNeg) (xs (nI (j + 3)).toNatClampNeg)) my_X8_attribute ml_L_76 (rM0 C hPM) rfl hl.1 (rest := [.int (fX7_attribute S (xs (nI (j + 1)).toNatClampNeg) (xs (nI (j + 2)).toNatClampNeg) (xs (nI (j + 3)).toNatClampNeg)).1]) rfl (Nat.le_of_ble_eq_true rfl) ⟨rfl, rfl, (Nat.le_of_ble_eq_true rfl), (Nat.le_of_ble_eq_true rfl)⟩ ⟨(Nat.le_of_ble_eq_true rfl), (Nat.le_of_ble_eq_true rfl)⟩ dL_law_492 (fun H1 locs1 hPM hS hz hk => ?_)
      have hPX := keepX hj hPX hk
      refine lv_icmp_eq (tgt := 823) hx hb dL_law_495 (by decide) (fun c1 => ?_) (fun c1 => absurd hut c1)
      exact hnext _ _ _ _ hRel1 hPX hPM hS
    by_cases d12 : zz = (12 : Int32)
    · refine lv_tableIn (off := 458) (tgt := 500) hx hb dL_law_42 (by rw [d12]; decide) (by rw [d12]; decide) (by rw [d12]; rfl) (by decide) ?_
      refine lv_aload_n hx hb dL_law_500 rfl (lv_at hl 1 rfl) ?_
      refine lv_aload_n hx hb dL_law_501 rfl (lv_at hl 0 rfl) ?_
      refine lv_iload_n hx hb dL_law_502 rfl (lv_at hl 3 rfl) ?_
      refine lv_iconst (v := (1 : Int32)) hx hb dL_law_503 (by decide) ?_
      refine lv_iadd hx hb dL_law_504 ?_
      refine lv_topi (fun z37 ez37 => ?_)
      obtain rfl : z37 = nI (j + 1) := ez37.trans (nI_add j 1)
      refine va_sld hx hb hX hbl hbA hS (vp_in_nI (by omega) (by omega)) dL_law_505 ?_
      refine lv_aload_n hx hb dL_law_506 rfl (lv_at hl 0 rfl) ?_
      refine lv_iload_n hx hb dL_law_507 rfl (lv_at hl 3 rfl) ?_
      refine lv_iconst (v := (2 : Int32)) hx hb dL_law_508 (by decide) ?_
      refine lv_iadd hx hb dL_law_509 ?_
      refine lv_topi (fun z38 ez38 => ?_)
      obtain rfl : z38 = nI (j + 2) := ez38.trans (nI_add j 2)
      refine va_sld hx hb hX hbl hbA hS (vp_in_nI (by omega) (by omega)) dL_law_510 ?_
      obtain ⟨u, t, hu, ht, hut, hRel1⟩ := op_property hRel (xs (nI (j + 1)).toNatClampNeg) (xs (nI (j + 2)).toNatClampNeg)
      refine wrV (Ek_est ax) C hPX (hDX _) hA hS hEk (c_X7_property l D k ax _ (xs (nI (j + 1)).toNatClampNeg) (xs (nI (j + 2)).toNatClampNeg) u hu) my_X7_property ml_L_77 (rX0 C hPX) rfl hl.1 (rest := []) rfl (Nat.le_of_ble_eq_true rfl) ⟨rfl, rfl, (Nat.le_of_ble_eq_true rfl), (Nat.le_of_ble_eq_true rfl)⟩ ⟨(Nat.le_of_ble_eq_true rfl), (Nat.le_of_ble_eq_true rfl)⟩ dL_law_511 (fun H1 locs1 hPX hS hz hk => ?_)
      have hPM := keepM hj hPM hk
      refine lv_aload_n hx hb dL_law_514 rfl (lv_at hl 2 rfl) ?_
      refine lv_aload_n hx hb dL_law_515 rfl (lv_at hl 0 rfl) ?_
      refine lv_iload_n hx hb dL_law_516 rfl (lv_at hl 3 rfl) ?_
      refine lv_iconst (v := (1 : Int32)) hx hb dL_law_517 (by decide) ?_
      refine lv_iadd hx hb dL_law_518 ?_
      refine lv_topi (fun z39 ez39 => ?_)
      obtain rfl : z39 = nI (j + 1) := ez39.trans (nI_add j 1)
      refine va_sld hx hb hX hbl hbA hS (vp_in_nI (by omega) (by omega)) dL_law_519 ?_
      refine lv_aload_n hx hb dL_law_520 rfl (lv_at hl 0 rfl) ?_
      refine lv_iload_n hx hb dL_law_521 rfl (lv_at hl 3 rfl) ?_
      refine lv_iconst (v := (2 : Int32)) hx hb dL_law_522 (by decide) ?_
      refine lv_iadd hx hb dL_law_523 ?_
      refine lv_topi (fun z40 ez40 => ?_)
      obtain rfl : z40 = nI (j + 2) := ez40.trans (nI_add j 2)
      refine va_sld hx hb hX hbl hbA hS (vp_in_nI (by omega) (by omega)) dL_law_524 ?_
      refine wrV noE_est C hPM (hDM _) hA hS trivial (c_X8_property l D k am _ (xs (nI (j + 1)).toNatClampNeg) (xs (nI (j + 2)).toNatClampNeg) t ht) my_X8_property ml_L_80 (rM0 C hPM) rfl hl.1 (rest := [.int u.1]) rfl (Nat.le_of_ble_eq_true rfl) ⟨rfl, rfl, (Nat.le_of_ble_eq_true rfl), (Nat.le_of_ble_eq_true rfl)⟩ ⟨(Nat.le_of_ble_eq_true rfl), (Nat.le_of_ble_eq_true rfl)⟩ dL_law_525 (fun H1 locs1 hPM hS hz hk => ?_)
      have hPX := keepX hj hPX hk
      refine lv_icmp_eq (tgt := 823) hx hb dL_law_528 (by decide) (fun c1 => ?_) (fun c1 => absurd hut c1)
      exact hnext _ _ _ _ hRel1 hPX hPM hS
    by_cases d13 : zz = (13 : Int32)
    · refine lv_tableIn (off := 491) (tgt := 533) hx hb dL_law_42 (by rw [d13]; decide) (by rw [d13]; decide) (by rw [d13]; rfl) (by decide) ?_
      refine lv_aload_n hx hb dL_law_533 rfl (lv_at hl 1 rfl) ?_
      refine lv_aload_n hx hb dL_law_534 rfl (lv_at hl 0 rfl) ?_
      refine lv_iload_n hx hb dL_law_535 rfl (lv_at hl 3 rfl) ?_
      refine lv_iconst (v := (1 : Int32)) hx hb dL_law_536 (by decide) ?_
      refine lv_iadd hx hb dL_law_537 ?_
      refine lv_topi (fun z41 ez41 => ?_)
      obtain rfl : z41 = nI (j + 1) := ez41.trans (nI_add j 1)
      refine va_sld hx hb hX hbl hbA hS (vp_in_nI (by omega) (by omega)) dL_law_538 ?_
      refine lv_aload_n hx hb dL_law_539 rfl (lv_at hl 0 rfl) ?_
      refine lv_iload_n hx hb dL_law_540 rfl (lv_at hl 3 rfl) ?_
      refine lv_iconst (v := (2 : Int32)) hx hb dL_law_541 (by decide) ?_
      refine lv_iadd hx hb dL_law_542 ?_
      refine lv_topi (fun z42 ez42 => ?_)
      obtain rfl : z42 = nI (j + 2) := ez42.trans (nI_add j 2)
      refine va_sld hx hb hX hbl hbA hS (vp_in_nI (by omega) (by omega)) dL_law_543 ?_
      refine lv_aload_n hx hb dL_law_544 rfl (lv_at hl 0 rfl) ?_
      refine lv_iload_n hx hb dL_law_545 rfl (lv_at hl 3 rfl) ?_
      refine lv_iconst (v := (3 : Int32)) hx hb dL_law_546 (by decide) ?_
      refine lv_iadd hx hb dL_law_547 ?_
      refine lv_topi (fun z43 ez43 => ?_)
      obtain rfl : z43 = nI (j + 3) := ez43.trans (nI_add j 3)
      refine va_sld hx hb hX hbl hbA hS (vp_in_nI (by omega) (by omega)) dL_law_548 ?_
      obtain ⟨u, t, hu, ht, hut, hRel1⟩ := op_put hRel (xs (nI (j + 1)).toNatClampNeg) (xs (nI (j + 2)).toNatClampNeg) (xs (nI (j + 3)).toNatClampNeg)
      refine wrV (Ek_est ax) C hPX (hDX _) hA hS hEk (c_X7_put l D k ax _ (xs (nI (j + 1)).toNatClampNeg) (xs (nI (j + 2)).toNatClampNeg) (xs (nI (j + 3)).toNatClampNeg) u hu) my_X7_put ml_L_81 (rX0 C hPX) rfl hl.1 (rest := []) rfl (Nat.le_of_ble_eq_true rfl) ⟨rfl, rfl, (Nat.le_of_ble_eq_true rfl), (Nat.le_of_ble_eq_true rfl)⟩ ⟨(Nat.le_of_ble_eq_true rfl), (Nat.le_of_ble_eq_true rfl)⟩ dL_law_549 (fun H1 locs1 hPX hS hz hk => ?_)
      have hPM := keepM hj hPM hk
      refine lv_aload_n hx hb dL_law_552 rfl (lv_at hl 2 rfl) ?_
      refine lv_aload_n hx hb dL_law_553 rfl (lv_at hl 0 rfl) ?_
      refine lv_iload_n hx hb dL_law_554 rfl (lv_at hl 3 rfl) ?_
      refine lv_iconst (v := (1 : Int32)) hx hb dL_law_555 (by decide) ?_
      refine lv_iadd hx hb dL_law_556 ?_
      refine lv_topi (fun z44 ez44 => ?_)
      obtain rfl : z44 = nI (j + 1) := ez44.trans (nI_add j 1)
      refine va_sld hx hb hX hbl hbA hS (vp_in_nI (by omega) (by omega)) dL_law_557 ?_
      refine lv_aload_n hx hb dL_law_558 rfl (lv_at hl 0 rfl) ?_
      refine lv_iload_n hx hb dL_law_559 rfl (lv_at hl 3 rfl) ?_
      refine lv_iconst (v := (2 : Int32)) hx hb dL_law_560 (by decide) ?_
      refine lv_iadd hx hb dL_law_561 ?_
      refine lv_topi (fun z45 ez45 => ?_)
      obtain rfl : z45 = nI (j + 2) := ez45.trans (nI_add j 2)
      refine va_sld hx hb hX hbl hbA hS (vp_in_nI (by omega) (by omega)) dL_law_562 ?_
      refine lv_aload_n hx hb dL_law_563 rfl (lv_at hl 0 rfl) ?_
      refine lv_iload_n hx hb dL_law_564 rfl (lv_at hl 3 rfl) ?_
      refine lv_iconst (v := (3 : Int32)) hx hb dL_law_565 (by decide) ?_
      refine lv_iadd hx hb dL_law_566 ?_
      refine lv_topi (fun z46 ez46 => ?_)
      obtain rfl : z46 = nI (j + 3) := ez46.trans (nI_add j 3)
      refine va_sld hx hb hX hbl hbA hS (vp_in_nI (by omega) (by omega)) dL_law_567 ?_
      refine wrV noE_est C hPM (hDM _) hA hS trivial (c_X8_put l D k am _ (xs (nI (j + 1)).toNatClampNeg) (xs (nI (j + 2)).toNatClampNeg) (xs (nI (j + 3)).toNatClampNeg) t ht) my_X8_put ml_L_84 (rM0 C hPM) rfl hl.1 (rest := [.int u.1]) rfl (Nat.le_of_ble_eq_true rfl) ⟨rfl, rfl, (Nat.le_of_ble_eq_true rfl), (Nat.le_of_ble_eq_true rfl)⟩ ⟨(Nat.le_of_ble_eq_true rfl), (Nat.le_of_ble_eq_true rfl)⟩ dL_law_568 (fun H1 locs1 hPM hS hz hk => ?_)
      have hPX := keepX hj hPX hk
      refine lv_icmp_eq (tgt := 823) hx hb dL_law_571 (by decide) (fun c1 => ?_) (fun c1 => absurd hut c1)
      exact hnext _ _ _ _ hRel1 hPX hPM hS
    by_cases d14 : zz = (14 : Int32)
    · refine lv_tableIn (off := 534) (tgt := 576) hx hb dL_law_42 (by rw [d14]; decide) (by rw [d14]; decide) (by rw [d14]; rfl) (by decide) ?_
      refine lv_aload_n hx hb dL_law_576 rfl (lv_at hl 1 rfl) ?_
      refine lv_aload_n hx hb dL_law_577 rfl (lv_at hl 0 rfl) ?_
      refine lv_iload_n hx hb dL_law_578 rfl (lv_at hl 3 rfl) ?_
      refine lv_iconst (v := (1 : Int32)) hx hb dL_law_579 (by decide) ?_
      refine lv_iadd hx hb dL_law_580 ?_
      refine lv_topi (fun z47 ez47 => ?_)
      obtain rfl : z47 = nI (j + 1) := ez47.trans (nI_add j 1)
      refine va_sld hx hb hX hbl hbA hS (vp_in_nI (by omega) (by omega)) dL_law_581 ?_
      refine lv_aload_n hx hb dL_law_582 rfl (lv_at hl 0 rfl) ?_
      refine lv_iload_n hx hb dL_law_583 rfl (lv_at hl 3 rfl) ?_
      refine lv_iconst (v := (2 : Int32)) hx hb dL_law_584 (by decide) ?_
      refine lv_iadd hx hb dL_law_585 ?_
      refine lv_topi (fun z48 ez48 => ?_)
      obtain rfl : z48 = nI (j + 2) := ez48.trans (nI_add j 2)
      refine va_sld hx hb hX hbl hbA hS (vp_in_nI (by omega) (by omega)) dL_law_586 ?_
      obtain ⟨u, t, hu, ht, hut, hRel1⟩ := op_next hRel (xs (nI (j + 1)).toNatClampNeg) (xs (nI (j + 2)).toNatClampNeg)
      refine wrV (Ek_est ax) C hPX (hDX _) hA hS hEk (c_X7_next l D k ax _ (xs (nI (j + 1)).toNatClampNeg) (xs (nI (j + 2)).toNatClampNeg) u hu) my_X7_next ml_L_85 (rX0 C hPX) rfl hl.1 (rest := []) rfl (Nat.le_of_ble_eq_true rfl) ⟨rfl, rfl, (Nat.le_of_ble_eq_true rfl), (Nat.le_of_ble_eq_true rfl)⟩ ⟨(Nat.le_of_ble_eq_true rfl), (Nat.le_of_ble_eq_true rfl)⟩ dL_law_587 (fun H1 locs1 hPX hS hz hk => ?_)
      have hPM := keepM hj hPM hk
      refine lv_aload_n hx hb dL_law_590 rfl (lv_at hl 2 rfl) ?_
      refine lv_aload_n hx hb dL_law_591 rfl (lv_at hl 0 rfl) ?_
      refine lv_iload_n hx hb dL_law_592 rfl (lv_at hl 3 rfl) ?_
      refine lv_iconst (v := (1 : Int32)) hx hb dL_law_593 (by decide) ?_
      refine lv_iadd hx hb dL_law_594 ?_
      refine lv_topi (fun z49 ez49 => ?_)
      obtain rfl : z49 = nI (j + 1) := ez49.trans (nI_add j 1)
      refine va_sld hx hb hX hbl hbA hS (vp_in_nI (by omega) (by omega)) dL_law_595 ?_
      refine lv_aload_n hx hb dL_law_596 rfl (lv_at hl 0 rfl) ?_
      refine lv_iload_n hx hb dL_law_597 rfl (lv_at hl 3 rfl) ?_
      refine lv_iconst (v := (2 : Int32)) hx hb dL_law_598 (by decide) ?_
      refine lv_iadd hx hb dL_law_599 ?_
      refine lv_topi (fun z50 ez50 => ?_)
      obtain rfl : z50 = nI (j + 2) := ez50.trans (nI_add j 2)
      refine va_sld hx hb hX hbl hbA hS (vp_in_nI (by omega) (by omega)) dL_law_600 ?_
      refine wrV noE_est C hPM (hDM _) hA hS trivial (c_X8_next l D k am _ (xs (nI (j + 1)).toNatClampNeg) (xs (nI (j + 2)).toNatClampNeg) t ht) my_X8_next ml_L_88 (rM0 C hPM) rfl hl.1 (rest := [.int u.1]) rfl (Nat.le_of_ble_eq_true rfl) ⟨rfl, rfl, (Nat.le_of_ble_eq_true rfl), (Nat.le_of_ble_eq_true rfl)⟩ ⟨(Nat.le_of_ble_eq_true rfl), (Nat.le_of_ble_eq_true rfl)⟩ dL_law_601 (fun H1 locs1 hPM hS hz hk => ?_)
      have hPX := keepX hj hPX hk
      refine lv_icmp_eq (tgt := 823) hx hb dL_law_604 (by decide) (fun c1 => ?_) (fun c1 => absurd hut c1)
      exact hnext _ _ _ _ hRel1 hPX hPM hS
    by_cases d15 : zz = (15 : Int32)
    · refine lv_tableIn (off := 567) (tgt := 609) hx hb dL_law_42 (by rw [d15]; decide) (by rw [d15]; decide) (by rw [d15]; rfl) (by decide) ?_
      refine lv_aload_n hx hb dL_law_609 rfl (lv_at hl 1 rfl) ?_
      refine lv_aload_n hx hb dL_law_610 rfl (lv_at hl 0 rfl) ?_
      refine lv_iload_n hx hb dL_law_611 rfl (lv_at hl 3 rfl) ?_
      refine lv_iconst (v := (1 : Int32)) hx hb dL_law_612 (by decide) ?_
      refine lv_iadd hx hb dL_law_613 ?_
      refine lv_topi (fun z51 ez51 => ?_)
      obtain rfl : z51 = nI (j + 1) := ez51.trans (nI_add j 1)
      refine va_sld hx hb hX hbl hbA hS (vp_in_nI (by omega) (by omega)) dL_law_614 ?_
      refine lv_aload_n hx hb dL_law_615 rfl (lv_at hl 0 rfl) ?_
      refine lv_iload_n hx hb dL_law_616 rfl (lv_at hl 3 rfl) ?_
      refine lv_iconst (v := (2 : Int32)) hx hb dL_law_617 (by decide) ?_
      refine lv_iadd hx hb dL_law_618 ?_
      refine lv_topi (fun z52 ez52 => ?_)
      obtain rfl : z52 = nI (j + 2) := ez52.trans (nI_add j 2)
      refine va_sld hx hb hX hbl hbA hS (vp_in_nI (by omega) (by omega)) dL_law_619 ?_
      obtain ⟨u, t, hu, ht, hut, hRel1⟩ := op_address hRel (xs (nI (j + 1)).toNatClampNeg) (xs (nI (j + 2)).toNatClampNeg)
      refine wrV (Ek_est ax) C hPX (hDX _) hA hS hEk (c_X7_address l D k ax _ (xs (nI (j + 1)).toNatClampNeg) (xs (nI (j + 2)).toNatClampNeg) u hu) my_X7_address ml_L_89 (rX0 C hPX) rfl hl.1 (rest := []) rfl (Nat.le_of_ble_eq_true rfl) ⟨rfl, rfl, (Nat.le_of_ble_eq_true rfl), (Nat.le_of_ble_eq_true rfl)⟩ ⟨(Nat.le_of_ble_eq_true rfl), (Nat.le_of_ble_eq_true rfl)⟩ dL_law_620 (fun H1 locs1 hPX hS hz hk => ?_)
      have hPM := keepM hj hPM hk
      refine lv_aload_n hx hb dL_law_623 rfl (lv_at hl 2 rfl) ?_
      refine lv_aload_n hx hb dL_law_624 rfl (lv_at hl 0 rfl) ?_
      refine lv_iload_n hx hb dL_law_625 rfl (lv_at hl 3 rfl) ?_
      refine lv_iconst (v := (1 : Int32)) hx hb dL_law_626 (by decide) ?_
      refine lv_iadd hx hb dL_law_627 ?_
      refine lv_topi (fun z53 ez53 => ?_)
      obtain rfl : z53 = nI (j + 1) := ez53.trans (nI_add j 1)
      refine va_sld hx hb hX hbl hbA hS (vp_in_nI (by omega) (by omega)) dL_law_628 ?_
      refine lv_aload_n hx hb dL_law_629 rfl (lv_at hl 0 rfl) ?_
      refine lv_iload_n hx hb dL_law_630 rfl (lv_at hl 3 rfl) ?_
      refine lv_iconst (v := (2 : Int32)) hx hb dL_law_631 (by decide) ?_
      refine lv_iadd hx hb dL_law_632 ?_
      refine lv_topi (fun z54 ez54 => ?_)
      obtain rfl : z54 = nI (j + 2) := ez54.trans (nI_add j 2)
      refine va_sld hx hb hX hbl hbA hS (vp_in_nI (by omega) (by omega)) dL_law_633 ?_
      refine wrV noE_est C hPM (hDM _) hA hS trivial (c_X8_address l D k am _ (xs (nI (j + 1)).toNatClampNeg) (xs (nI (j + 2)).toNatClampNeg) t ht) my_X8_address ml_L_92 (rM0 C hPM) rfl hl.1 (rest := [.int u.1]) rfl (Nat.le_of_ble_eq_true rfl) ⟨rfl, rfl, (Nat.le_of_ble_eq_true rfl), (Nat.le_of_ble_eq_true rfl)⟩ ⟨(Nat.le_of_ble_eq_true rfl), (Nat.le_of_ble_eq_true rfl)⟩ dL_law_634 (fun H1 locs1 hPM hS hz hk => ?_)
      have hPX := keepX hj hPX hk
      refine lv_icmp_eq (tgt := 823) hx hb dL_law_637 (by decide) (fun c1 => ?_) (fun c1 => absurd hut c1)
      exact hnext _ _ _ _ hRel1 hPX hPM hS
    by_cases d16 : zz = (16 : Int32)
    · refine lv_tableIn (off := 600) (tgt := 642) hx hb dL_law_42 (by rw [d16]; decide) (by rw [d16]; decide) (by rw [d16]; rfl) (by decide) ?_
      refine lv_aload_n hx hb dL_law_642 rfl (lv_at hl 1 rfl) ?_
      refine lv_aload_n hx hb dL_law_643 rfl (lv_at hl 0 rfl) ?_
      refine lv_iload_n hx hb dL_law_644 rfl (lv_at hl 3 rfl) ?_
      refine lv_iconst (v := (1 : Int32)) hx hb dL_law_645 (by decide) ?_
      refine lv_iadd hx hb dL_law_646 ?_
      refine lv_topi (fun z55 ez55 => ?_)
      obtain rfl : z55 = nI (j + 1) := ez55.trans (nI_add j 1)
      refine va_sld hx hb hX hbl hbA hS (vp_in_nI (by omega) (by omega)) dL_law_647 ?_
      have heq := op_length hRel (xs (nI (j + 1)).toNatClampNeg)
      refine rdV (Ek_est ax) C hPX (ef (Ek_est ax) hS hEk) (c_X7_length l D k ax S (xs (nI (j + 1)).toNatClampNeg)) my_X7_length ml_L_93 (rX0 C hPX) rfl hl.1 (rest := []) rfl (Nat.le_of_ble_eq_true rfl) ⟨rfl, rfl, (Nat.le_of_ble_eq_true rfl), (Nat.le_of_ble_eq_true rfl)⟩ ⟨(Nat.le_of_ble_eq_true rfl), (Nat.le_of_ble_eq_true rfl)⟩ dL_law_648 ?_
      refine lv_aload_n hx hb dL_law_651 rfl (lv_at hl 2 rfl) ?_
      refine lv_aload_n hx hb dL_law_652 rfl (lv_at hl 0 rfl) ?_
      refine lv_iload_n hx hb dL_law_653 rfl (lv_at hl 3 rfl) ?_
      refine lv_iconst (v := (1 : Int32)) hx hb dL_law_654 (by decide) ?_
      refine lv_iadd hx hb dL_law_655 ?_
      refine lv_topi (fun z56 ez56 => ?_)
      obtain rfl : z56 = nI (j + 1) := ez56.trans (nI_add j 1)
      refine va_sld hx hb hX hbl hbA hS (vp_in_nI (by omega) (by omega)) dL_law_656 ?_
      refine rdV noE_est C hPM trivial (c_X8_length l D k am T (xs (nI (j + 1)).toNatClampNeg)) my_X8_length ml_L_96 (rM0 C hPM) rfl hl.1 (rest := [.int (fX7_length S (xs (nI (j + 1)).toNatClampNeg))]) rfl (Nat.le_of_ble_eq_true rfl) ⟨rfl, rfl, (Nat.le_of_ble_eq_true rfl), (Nat.le_of_ble_eq_true rfl)⟩ ⟨(Nat.le_of_ble_eq_true rfl), (Nat.le_of_ble_eq_true rfl)⟩ dL_law_657 ?_
      refine lv_icmp_eq (tgt := 823) hx hb dL_law_660 (by decide) (fun c1 => ?_) (fun c1 => absurd heq c1)
      exact hnext _ _ _ _ hRel hPX hPM hS
    by_cases d17 : zz = (17 : Int32)
    · refine lv_tableIn (off := 623) (tgt := 665) hx hb dL_law_42 (by rw [d17]; decide) (by rw [d17]; decide) (by rw [d17]; rfl) (by decide) ?_
      refine lv_aload_n hx hb dL_law_665 rfl (lv_at hl 1 rfl) ?_
      refine lv_aload_n hx hb dL_law_666 rfl (lv_at hl 0 rfl) ?_
      refine lv_iload_n hx hb dL_law_667 rfl (lv_at hl 3 rfl) ?_
      refine lv_iconst (v := (1 : Int32)) hx hb dL_law_668 (by decide) ?_
      refine lv_iadd hx hb dL_law_669 ?_
      refine lv_topi (fun z57 ez57 => ?_)
      obtain rfl : z57 = nI (j + 1) := ez57.trans (nI_add j 1)
      refine va_sld hx hb hX hbl hbA hS (vp_in_nI (by omega) (by omega)) dL_law_670 ?_
      refine lv_aload_n hx hb dL_law_671 rfl (lv_at hl 0 rfl) ?_
      refine lv_iload_n hx hb dL_law_672 rfl (lv_at hl 3 rfl) ?_
      refine lv_iconst (v := (2 : Int32)) hx hb dL_law_673 (by decide) ?_
      refine lv_iadd hx hb dL_law_674 ?_
      refine lv_topi (fun z58 ez58 => ?_)
      obtain rfl : z58 = nI (j + 2) := ez58.trans (nI_add j 2)
      refine va_sld hx hb hX hbl hbA hS (vp_in_nI (by omega) (by omega)) dL_law_675 ?_
      obtain ⟨u, t, hu, ht, hut, hRel1⟩ := op_fallback hRel (xs (nI (j + 1)).toNatClampNeg) (xs (nI (j + 2)).toNatClampNeg)
      subst hu
      refine wrV (Ek_est ax) C hPX (hDX _) hA hS hEk (c_X7_fallback l D k ax _ (xs (nI (j + 1)).toNatClampNeg) (xs (nI (j + 2)).toNatClampNeg)) my_X7_fallback ml_L_97 (rX0 C hPX) rfl hl.1 (rest := []) rfl (Nat.le_of_ble_eq_true rfl) ⟨rfl, rfl, (Nat.le_of_ble_eq_true rfl), (Nat.le_of_ble_eq_true rfl)⟩ ⟨(Nat.le_of_ble_eq_true rfl), (Nat.le_of_ble_eq_true rfl)⟩ dL_law_676 (fun H1 locs1 hPX hS hz hk => ?_)
      have hPM := keepM hj hPM hk
      refine lv_aload_n hx hb dL_law_679 rfl (lv_at hl 2 rfl) ?_
      refine lv_aload_n hx hb dL_law_680 rfl (lv_at hl 0 rfl) ?_
      refine lv_iload_n hx hb dL_law_681 rfl (lv_at hl 3 rfl) ?_
      refine lv_iconst (v := (1 : Int32)) hx hb dL_law_682 (by decide) ?_
      refine lv_iadd hx hb dL_law_683 ?_
      refine lv_topi (fun z59 ez59 => ?_)
      obtain rfl : z59 = nI (j + 1) := ez59.trans (nI_add j 1)
      refine va_sld hx hb hX hbl hbA hS (vp_in_nI (by omega) (by omega)) dL_law_684 ?_
      refine lv_aload_n hx hb dL_law_685 rfl (lv_at hl 0 rfl) ?_
      refine lv_iload_n hx hb dL_law_686 rfl (lv_at hl 3 rfl) ?_
      refine lv_iconst (v := (2 : Int32)) hx hb dL_law_687 (by decide) ?_
      refine lv_iadd hx hb dL_law_688 ?_
      refine lv_topi (fun z60 ez60 => ?_)
      obtain rfl : z60 = nI (j + 2) := ez60.trans (nI_add j 2)
      refine va_sld hx hb hX hbl hbA hS (vp_in_nI (by omega) (by omega)) dL_law_689 ?_
      subst ht
      refine wrV noE_est C hPM (hDM _) hA hS trivial (c_X8_fallback l D k am _ (xs (nI (j + 1)).toNatClampNeg) (xs (nI (j + 2)).toNatClampNeg)) my_X8_fallback ml_L_100 (rM0 C hPM) rfl hl.1 (rest := [.int (fX7_fallback S (xs (nI (j + 1)).toNatClampNeg) (xs (nI (j + 2)).toNatClampNeg)).1]) rfl (Nat.le_of_ble_eq_true rfl) ⟨rfl, rfl, (Nat.le_of_ble_eq_true rfl), (Nat.le_of_ble_eq_true rfl)⟩ ⟨(Nat.le_of_ble_eq_true rfl), (Nat.le_of_ble_eq_true rfl)⟩ dL_law_690 (fun H1 locs1 hPM hS hz hk => ?_)
      have hPX := keepX hj hPX hk
      refine lv_icmp_eq (tgt := 823) hx hb dL_law_693 (by decide) (fun c1 => ?_) (fun c1 => absurd hut c1)
      exact hnext _ _ _ _ hRel1 hPX hPM hS
    by_cases d18 : zz = (18 : Int32)
    · refine lv_tableIn (off := 656) (tgt := 698) hx hb dL_law_42 (by rw [d18]; decide) (by rw [d18]; decide) (by rw [d18]; rfl) (by decide) ?_
      refine lv_aload_n hx hb dL_law_698 rfl (lv_at hl 1 rfl) ?_
      refine lv_aload_n hx hb dL_law_699 rfl (lv_at hl 0 rfl) ?_
      refine lv_iload_n hx hb dL_law_700 rfl (lv_at hl 3 rfl) ?_
      refine lv_iconst (v := (1 : Int32)) hx hb dL_law_701 (by decide) ?_
      refine lv_iadd hx hb dL_law_702 ?_
      refine lv_topi (fun z61 ez61 => ?_)
      obtain rfl : z61 = nI (j + 1) := ez61.trans (nI_add j 1)
      refine va_sld hx hb hX hbl hbA hS (vp_in_nI (by omega) (by omega)) dL_law_703 ?_
      refine lv_aload_n hx hb dL_law_704 rfl (lv_at hl 0 rfl) ?_
      refine lv_iload_n hx hb dL_law_705 rfl (lv_at hl 3 rfl) ?_
      refine lv_iconst (v := (2 : Int32)) hx hb dL_law_706 (by decide) ?_
      refine lv_iadd hx hb dL_law_707 ?_
      refine lv_topi (fun z62 ez62 => ?_)
      obtain rfl : z62 = nI (j + 2) := ez62.trans (nI_add j 2)
      refine va_sld hx hb hX hbl hbA hS (vp_in_nI (by omega) (by omega)) dL_law_708 ?_
      obtain ⟨u, t, hu, ht, hut, hRel1⟩ := op_name hRel (xs (nI (j + 1)).toNatClampNeg) (xs (nI (j + 2)).toNatClampNeg)
      refine wrV (Ek_est ax) C hPX (hDX _) hA hS hEk (c_X7_name l D k ax _ (xs (nI (j + 1)).toNatClampNeg) (xs (nI (j + 2)).toNatClampNeg) u hu) my_X7_name ml_L_101 (rX0 C hPX) rfl hl.1 (rest := []) rfl (Nat.le_of_ble_eq_true rfl) ⟨rfl, rfl, (Nat.le_of_ble_eq_true rfl), (Nat.le_of_ble_eq_true rfl)⟩ ⟨(Nat.le_of_ble_eq_true rfl), (Nat.le_of_ble_eq_true rfl)⟩ dL_law_709 (fun H1 locs1 hPX hS hz hk => ?_)
      have hPM := keepM hj hPM hk
      refine lv_aload_n hx hb dL_law_712 rfl (lv_at hl 2 rfl) ?_
      refine lv_aload_n hx hb dL_law_713 rfl (lv_at hl 0 rfl) ?_
      refine lv_iload_n hx hb dL_law_714 rfl (lv_at hl 3 rfl) ?_
      refine lv_iconst (v := (1 : Int32)) hx hb dL_law_715 (by decide) ?_
      refine lv_iadd hx hb dL_law_716 ?_
      refine lv_topi (fun z63 ez63 => ?_)
      obtain rfl : z63 = nI (j + 1) := ez63.trans (nI_add j 1)
      refine va_sld hx hb hX hbl hbA hS (vp_in_nI (by omega) (by omega)) dL_law_717 ?_
      refine lv_aload_n hx hb dL_law_718 rfl (lv_at hl 0 rfl) ?_
      refine lv_iload_n hx hb dL_law_719 rfl (lv_at hl 3 rfl) ?_
      refine lv_iconst (v := (2 : Int32)) hx hb dL_law_720 (by decide) ?_
      refine lv_iadd hx hb dL_law_721 ?_
      refine lv_topi (fun z64 ez64 => ?_)
      obtain rfl : z64 = nI (j + 2) := ez64.trans (nI_add j 2)
      refine va_sld hx hb hX hbl hbA hS (vp_in_nI (by omega) (by omega)) dL_law_722 ?_
      refine wrV noE_est C hPM (hDM _) hA hS trivial (c_X8_name l D k am _ (xs (nI (j + 1)).toNatClampNeg) (xs (nI (j + 2)).toNatClampNeg) t ht) my_X8_name ml_L_104 (rM0 C hPM) rfl hl.1 (rest := [.int u.1]) rfl (Nat.le_of_ble_eq_true rfl) ⟨rfl, rfl, (Nat.le_of_ble_eq_true rfl), (Nat.le_of_ble_eq_true rfl)⟩ ⟨(Nat.le_of_ble_eq_true rfl), (Nat.le_of_ble_eq_true rfl)⟩ dL_law_723 (fun H1 locs1 hPM hS hz hk => ?_)
      have hPX := keepX hj hPX hk
      refine lv_icmp_eq (tgt := 823) hx hb dL_law_726 (by decide) (fun c1 => ?_) (fun c1 => absurd hut c1)
      exact hnext _ _ _ _ hRel1 hPX hPM hS
    by_cases d19 : zz = (19 : Int32)
    · refine lv_tableIn (off := 689) (tgt := 731) hx hb dL_law_42 (by rw [d19]; decide) (by rw [d19]; decide) (by rw [d19]; rfl) (by decide) ?_
      refine lv_aload_n hx hb dL_law_731 rfl (lv_at hl 1 rfl) ?_
      refine lv_aload_n hx hb dL_law_732 rfl (lv_at hl 0 rfl) ?_
      refine lv_iload_n hx hb dL_law_733 rfl (lv_at hl 3 rfl) ?_
      refine lv_iconst (v := (1 : Int32)) hx hb dL_law_734 (by decide) ?_
      refine lv_iadd hx hb dL_law_735 ?_
      refine lv_topi (fun z65 ez65 => ?_)
      obtain rfl : z65 = nI (j + 1) := ez65.trans (nI_add j 1)
      refine va_sld hx hb hX hbl hbA hS (vp_in_nI (by omega) (by omega)) dL_law_736 ?_
      obtain ⟨u, t, hu, ht, hut, hRel1⟩ := op_named hRel (xs (nI (j + 1)).toNatClampNeg)
      refine wrV (Ek_est ax) C hPX (hDX _) hA hS hEk (c_X7_named l D k ax _ (xs (nI (j + 1)).toNatClampNeg) u hu) my_X7_named ml_L_105 (rX0 C hPX) rfl hl.1 (rest := []) rfl (Nat.le_of_ble_eq_true rfl) ⟨rfl, rfl, (Nat.le_of_ble_eq_true rfl), (Nat.le_of_ble_eq_true rfl)⟩ ⟨(Nat.le_of_ble_eq_true rfl), (Nat.le_of_ble_eq_true rfl)⟩ dL_law_737 (fun H1 locs1 hPX hS hz hk => ?_)
      have hPM := keepM hj hPM hk
      refine lv_aload_n hx hb dL_law_740 rfl (lv_at hl 2 rfl) ?_
      refine lv_aload_n hx hb dL_law_741 rfl (lv_at hl 0 rfl) ?_
      refine lv_iload_n hx hb dL_law_742 rfl (lv_at hl 3 rfl) ?_
      refine lv_iconst (v := (1 : Int32)) hx hb dL_law_743 (by decide) ?_
      refine lv_iadd hx hb dL_law_744 ?_
      refine lv_topi (fun z66 ez66 => ?_)
      obtain rfl : z66 = nI (j + 1) := ez66.trans (nI_add j 1)
      refine va_sld hx hb hX hbl hbA hS (vp_in_nI (by omega) (by omega)) dL_law_745 ?_
      refine wrV noE_est C hPM (hDM _) hA hS trivial (c_X8_named l D k am _ (xs (nI (j + 1)).toNatClampNeg) t ht) my_X8_named ml_L_108 (rM0 C hPM) rfl hl.1 (rest := [.int u.1]) rfl (Nat.le_of_ble_eq_true rfl) ⟨rfl, rfl, (Nat.le_of_ble_eq_true rfl), (Nat.le_of_ble_eq_true rfl)⟩ ⟨(Nat.le_of_ble_eq_true rfl), (Nat.le_of_ble_eq_true rfl)⟩ dL_law_746 (fun H1 locs1 hPM hS hz hk => ?_)
      have hPX := keepX hj hPX hk
      refine lv_icmp_eq (tgt := 823) hx hb dL_law_749 (by decide) (fun c1 => ?_) (fun c1 => absurd hut c1)
      exact hnext _ _ _ _ hRel1 hPX hPM hS
    by_cases d20 : zz = (20 : Int32)
    · refine lv_tableIn (off := 712) (tgt := 754) hx hb dL_law_42 (by rw [d20]; decide) (by rw [d20]; decide) (by rw [d20]; rfl) (by decide) ?_
      refine lv_aload_n hx hb dL_law_754 rfl (lv_at hl 1 rfl) ?_
      refine lv_aload_n hx hb dL_law_755 rfl (lv_at hl 0 rfl) ?_
      refine lv_iload_n hx hb dL_law_756 rfl (lv_at hl 3 rfl) ?_
      refine lv_iconst (v := (1 : Int32)) hx hb dL_law_757 (by decide) ?_
      refine lv_iadd hx hb dL_law_758 ?_
      refine lv_topi (fun z67 ez67 => ?_)
      obtain rfl : z67 = nI (j + 1) := ez67.trans (nI_add j 1)
      refine va_sld hx hb hX hbl hbA hS (vp_in_nI (by omega) (by omega)) dL_law_759 ?_
      refine lv_aload_n hx hb dL_law_760 rfl (lv_at hl 0 rfl) ?_
      refine lv_iload_n hx hb dL_law_761 rfl (lv_at hl 3 rfl) ?_
      refine lv_iconst (v := (2 : Int32)) hx hb dL_law_762 (by decide) ?_
      refine lv_iadd hx hb dL_law_763 ?_
      refine lv_topi (fun z68 ez68 => ?_)
      obtain rfl : z68 = nI (j + 2) := ez68.trans (nI_add j 2)
      refine va_sld hx hb hX hbl hbA hS (vp_in_nI (by omega) (by omega)) dL_law_764 ?_
      obtain ⟨u, t, hu, ht, hut, hRel1⟩ := op_within hRel (xs (nI (j + 1)).toNatClampNeg) (xs (nI (j + 2)).toNatClampNeg)
      refine wrV (Ek_est ax) C hPX (hDX _) hA hS hEk (c_X7_within l D k ax _ (xs (nI (j + 1)).toNatClampNeg) (xs (nI (j + 2)).toNatClampNeg) u hu) my_X7_within ml_L_109 (rX0 C hPX) rfl hl.1 (rest := []) rfl (Nat.le_of_ble_eq_true rfl) ⟨rfl, rfl, (Nat.le_of_ble_eq_true rfl), (Nat.le_of_ble_eq_true rfl)⟩ ⟨(Nat.le_of_ble_eq_true rfl), (Nat.le_of_ble_eq_true rfl)⟩ dL_law_765 (fun H1 locs1 hPX hS hz hk => ?_)
      have hPM := keepM hj hPM hk
      refine lv_aload_n hx hb dL_law_768 rfl (lv_at hl 2 rfl) ?_
      refine lv_aload_n hx hb dL_law_769 rfl (lv_at hl 0 rfl) ?_
      refine lv_iload_n hx hb dL_law_770 rfl (lv_at hl 3 rfl) ?_
      refine lv_iconst (v := (1 : Int32)) hx hb dL_law_771 (by decide) ?_
      refine lv_iadd hx hb dL_law_772 ?_
      refine lv_topi (fun z69 ez69 => ?_)
      obtain rfl : z69 = nI (j + 1) := ez69.trans (nI_add j 1)
      refine va_sld hx hb hX hbl hbA hS (vp_in_nI (by omega) (by omega)) dL_law_773 ?_
      refine lv_aload_n hx hb dL_law_774 rfl (lv_at hl 0 rfl) ?_
      refine lv_iload_n hx hb dL_law_775 rfl (lv_at hl 3 rfl) ?_
      refine lv_iconst (v := (2 : Int32)) hx hb dL_law_776 (by decide) ?_
      refine lv_iadd hx hb dL_law_777 ?_
      refine lv_topi (fun z70 ez70 => ?_)
      obtain rfl : z70 = nI (j + 2) := ez70.trans (nI_add j 2)
      refine va_sld hx hb hX hbl hbA hS (vp_in_nI (by omega) (by omega)) dL_law_778 ?_
      refine wrV noE_est C hPM (hDM _) hA hS trivial (c_X8_within l D k am _ (xs (nI (j + 1)).toNatClampNeg) (xs (nI (j + 2)).toNatClampNeg) t ht) my_X8_within ml_L_112 (rM0 C hPM) rfl hl.1 (rest := [.int u.1]) rfl (Nat.le_of_ble_eq_true rfl) ⟨rfl, rfl, (Nat.le_of_ble_eq_true rfl), (Nat.le_of_ble_eq_true rfl)⟩ ⟨(Nat.le_of_ble_eq_true rfl), (Nat.le_of_ble_eq_true rfl)⟩ dL_law_779 (fun H1 locs1 hPM hS hz hk => ?_)
      have hPX := keepX hj hPX hk
      refine lv_icmp_eq (tgt := 823) hx hb dL_law_782 (by decide) (fun c1 => ?_) (fun c1 => absurd hut c1)
      exact hnext _ _ _ _ hRel1 hPX hPM hS
    by_cases d21 : zz = (21 : Int32)
    · refine lv_tableIn (off := 745) (tgt := 787) hx hb dL_law_42 (by rw [d21]; decide) (by rw [d21]; decide) (by rw [d21]; rfl) (by decide) ?_
      refine lv_aload_n hx hb dL_law_787 rfl (lv_at hl 1 rfl) ?_
      obtain ⟨u, t, hu, ht, hut, hRel1⟩ := op_judge hRel 
      refine wrV (Ek_est ax) C hPX (hDX _) hA hS hEk (c_X7_judge l D k ax _  u hu) my_X7_judge ml_L_113 (rX0 C hPX) rfl hl.1 (rest := []) rfl (Nat.le_of_ble_eq_true rfl) ⟨rfl, rfl, (Nat.le_of_ble_eq_true rfl), (Nat.le_of_ble_eq_true rfl)⟩ ⟨(Nat.le_of_ble_eq_true rfl), (Nat.le_of_ble_eq_true rfl)⟩ dL_law_788 (fun H1 locs1 hPX hS hz hk => ?_)
      have hPM := keepM hj hPM hk
      refine lv_aload_n hx hb dL_law_791 rfl (lv_at hl 2 rfl) ?_
      refine wrV noE_est C hPM (hDM _) hA hS trivial (c_X8_judge l D k am _  t ht) my_X8_judge ml_L_116 (rM0 C hPM) rfl hl.1 (rest := [.int u.1]) rfl (Nat.le_of_ble_eq_true rfl) ⟨rfl, rfl, (Nat.le_of_ble_eq_true rfl), (Nat.le_of_ble_eq_true rfl)⟩ ⟨(Nat.le_of_ble_eq_true rfl), (Nat.le_of_ble_eq_true rfl)⟩ dL_law_792 (fun H1 locs1 hPM hS hz hk => ?_)
      have hPX := keepX hj hPX hk
      refine lv_icmp_eq (tgt := 823) hx hb dL_law_795 (by decide) (fun c1 => ?_) (fun c1 => absurd hut c1)
      exact hnext _ _ _ _ hRel1 hPX hPM hS
    by_cases d22 : zz = (22 : Int32)
    · refine lv_tableIn (off := 758) (tgt := 800) hx hb dL_law_42 (by rw [d22]; decide) (by rw [d22]; decide) (by rw [d22]; rfl) (by decide) ?_
      refine lv_aload_n hx hb dL_law_800 rfl (lv_at hl 1 rfl) ?_
      refine lv_aload_n hx hb dL_law_801 rfl (lv_at hl 0 rfl) ?_
      refine lv_iload_n hx hb dL_law_802 rfl (lv_at hl 3 rfl) ?_
      refine lv_iconst (v := (1 : Int32)) hx hb dL_law_803 (by decide) ?_
      refine lv_iadd hx hb dL_law_804 ?_
      refine lv_topi (fun z71 ez71 => ?_)
      obtain rfl : z71 = nI (j + 1) := ez71.trans (nI_add j 1)
      refine va_sld hx hb hX hbl hbA hS (vp_in_nI (by omega) (by omega)) dL_law_805 ?_
      obtain ⟨u, t, hu, ht, hut, hRel1⟩ := op_ring hRel (xs (nI (j + 1)).toNatClampNeg)
      refine wrV (Ek_est ax) C hPX (hDX _) hA hS hEk (c_X7_ring l D k ax _ (xs (nI (j + 1)).toNatClampNeg) u hu) my_X7_ring ml_L_117 (rX0 C hPX) rfl hl.1 (rest := []) rfl (Nat.le_of_ble_eq_true rfl) ⟨rfl, rfl, (Nat.le_of_ble_eq_true rfl), (Nat.le_of_ble_eq_true rfl)⟩ ⟨(Nat.le_of_ble_eq_true rfl), (Nat.le_of_ble_eq_true rfl)⟩ dL_law_806 (fun H1 locs1 hPX hS hz hk => ?_)
      have hPM := keepM hj hPM hk
      refine lv_aload_n hx hb dL_law_809 rfl (lv_at hl 2 rfl) ?_
      refine lv_aload_n hx hb dL_law_810 rfl (lv_at hl 0 rfl) ?_
      refine lv_iload_n hx hb dL_law_811 rfl (lv_at hl 3 rfl) ?_
      refine lv_iconst (v := (1 : Int32)) hx hb dL_law_812 (by decide) ?_
      refine lv_iadd hx hb dL_law_813 ?_
      refine lv_topi (fun z72 ez72 => ?_)
      obtain rfl : z72 = nI (j + 1) := ez72.trans (nI_add j 1)
      refine va_sld hx hb hX hbl hbA hS (vp_in_nI (by omega) (by omega)) dL_law_814 ?_
      refine wrV noE_est C hPM (hDM _) hA hS trivial (c_X8_ring l D k am _ (xs (nI (j + 1)).toNatClampNeg) t ht) my_X8_ring ml_L_120 (rM0 C hPM) rfl hl.1 (rest := [.int u.1]) rfl (Nat.le_of_ble_eq_true rfl) ⟨rfl, rfl, (Nat.le_of_ble_eq_true rfl), (Nat.le_of_ble_eq_true rfl)⟩ ⟨(Nat.le_of_ble_eq_true rfl), (Nat.le_of_ble_eq_true rfl)⟩ dL_law_815 (fun H1 locs1 hPM hS hz hk => ?_)
      have hPX := keepX hj hPX hk
      refine lv_icmp_eq (tgt := 823) hx hb dL_law_818 (by decide) (fun c1 => ?_) (fun c1 => absurd hut c1)
      exact hnext _ _ _ _ hRel1 hPX hPM hS
    refine lv_tableOut (tgt := 823) hx hb dL_law_42 (ts_0_22 d0 d1 d2 d3 d4 d5 d6 d7 d8 d9 d10 d11 d12 d13 d14 d15 d16 d17 d18 d19 d20 d21 d22) (by decide) ?_
    exact hnext _ _ _ _ hRel hPX hPM hS
