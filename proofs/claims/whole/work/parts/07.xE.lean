/-! the JDK's String.length and charAt over the class' two texts -/
theorem in_len {i : Int32} {n : Nat} (hn : n < 2 ^ 31) (h1 : ¬ i < 0) (h2 : i < Int32.ofNat n) : vp_in i n := by
  obtain ⟨j, hj, rfl⟩ := nI_of h1
  refine vp_in_nI ?_ hn
  rcases Nat.lt_or_ge j n with q | q
  · exact q
  · exact absurd h2 (nI_nlt (a := j) (b := n) q hj)
set_option maxRecDepth 100000 in
set_option maxHeartbeats 4000000 in
theorem c_J3_checkIndex (l : Launch) (D : va_G) (ty : List (ClassId × FieldType)) (E : Ety) (w : va_W) (i n : Int32) (v : Value) (hv : v = .null ∨ ∃ t, v = .ref t) (h1 : ¬ i < 0) (h2 : i < n) : Rd E l D ty w yJ3_checkIndex_8e157 cJ3_checkIndex_8e157 3 (some .int) (rmm 0 0) [.int i, .int n, v] i := by
  have hlen : (lg_sl [.int i, .int n, v]).length ≤ 3 := by rcases hv with rfl | ⟨t, rfl⟩ <;> exact Nat.le_of_ble_eq_true rfl
  refine rd_start (by decide) hlen ?_
  intro p e s m below meth c C hr hlocks hP hE0 ls hl
  have hl : lv_has ls 3 [(0, .int i), (1, .int n), (2, v)] := hl
  obtain ⟨⟨hx, hb, hml, hown, hts⟩, hK⟩ := id C
  refine lv_iload_n hx hb dJ3_checkIndex_8e157_0 rfl (lv_at hl 0 rfl) ?_
  refine lv_if_lt (tgt := 9) hx hb dJ3_checkIndex_8e157_1 (by decide) (fun c1 => absurd c1 h1) (fun c1 => ?_)
  refine lv_iload_n hx hb dJ3_checkIndex_8e157_4 rfl (lv_at hl 0 rfl) ?_
  refine lv_iload_n hx hb dJ3_checkIndex_8e157_5 rfl (lv_at hl 1 rfl) ?_
  refine lv_icmp_lt (tgt := 16) hx hb dJ3_checkIndex_8e157_6 (by decide) (fun c2 => ?_) (fun c2 => absurd h2 c2)
  refine lv_iload_n hx hb dJ3_checkIndex_8e157_16 rfl (lv_at hl 0 rfl) ?_
  exact rd_iret C hr hlocks dJ3_checkIndex_8e157_17
/-- a reader without an answer -/
def Rv (E : Ety) (l : Launch) (D : va_G) (ty : List (ClassId × FieldType)) (w : va_W) (y : MethodName) (bytes : ByteArray) (maxL : Nat) (rm : Room) (As : List Value) : Prop :=
  Met l y (cw y bytes maxL none) rm (va_Pc As (fun U => va_P D vwCl w U.heap ∧ va_K D vwCl ty U ∧ E (fun _ => False) U U.heap)) (va_Sv (fun _ => True)) 0 0 (fun _ => False)
set_option maxRecDepth 100000 in
set_option maxHeartbeats 4000000 in
theorem c_J0_checkIndex (l : Launch) (D : va_G) (ty : List (ClassId × FieldType)) (a : Nat → Nat) (w : va_W) (i n : Int32) (h1 : ¬ i < 0) (h2 : i < n) : Rv (Ek a) l D ty w yJ0_checkIndex_df160 cJ0_checkIndex_df160 2 (rmm 1 22) [.int i, .int n] := by
  refine Met.ofW (cc := cJ0_checkIndex_df160) (maxL := 2) (ret := none) (by decide) rfl ?_
  intro p e s m args below meth c s₁ B hml hv
  obtain ⟨rfl, hP, hK, hE0⟩ := hv
  have hts := atoms_spec (ws := cw yJ0_checkIndex_df160 cJ0_checkIndex_df160 2 none) B.pre
  rw [lg_entry_eq]
  have C : Cx p s m c ([.int i, .int n] : List Value).toArray RJ0 cJ0_checkIndex_df160 2 D ty := ⟨⟨B.exec, B.bytes, hml, findClass_of_methodNamed B.named, fun w h => hts w (List.mem_cons_of_mem _ h)⟩, hK⟩
  have hl := lv_entry ([.int i, .int n]) (n := 2) (Nat.le_of_ble_eq_true rfl)
  generalize (lg_sl ([.int i, .int n]) ++ List.replicate (2 - (lg_sl ([.int i, .int n])).length) Slot.unset).toArray = ls at hl ⊢
  have hl : lv_has ls 2 [(0, .int i), (1, .int n)] := hl
  obtain ⟨⟨hx, hb, hml, hown, hts⟩, hK⟩ := id C
  have hS : va_S (fun _ => False) s.heap s.heap [] := va_S.rf
  refine lv_iload_n hx hb dJ0_checkIndex_df160_0 rfl (lv_at hl 0 rfl) ?_
  refine lv_iload_n hx hb dJ0_checkIndex_df160_1 rfl (lv_at hl 1 rfl) ?_
  have tail : ∀ v : Value, (v = .null ∨ ∃ t, v = .ref t) → W p l e (rmm 1 22) s m ([.int i, .int n] : List Value).toArray below meth c s.heap [] 0 0 (MQ below (va_Sv (fun _ => True)) ([.int i, .int n] : List Value).toArray s 0 0 (fun _ => False)) (F0 m 5 ls [v, .int n, .int i]) := by
    intro v hv
    refine rdS (Ek_est a) C hP hE0 (c_J3_checkIndex l D ty (Ek a) w i n v hv h1 h2) my_J3_checkIndex_8e157 ml_J0_1059 rfl hl.1 (rest := []) rfl (Nat.le_of_ble_eq_true rfl) ⟨rfl, rfl, Nat.le_of_ble_eq_true rfl, Nat.le_of_ble_eq_true rfl⟩ ⟨Nat.zero_le _, Nat.zero_le _⟩ dJ0_checkIndex_df160_5 ?_
    refine lv_pop hx hb dJ0_checkIndex_df160_8 rfl ?_
    exact W.vret hx hb B.returns (fun _ ht _ => ⟨rfl, trivial, ht⟩) (fun _ h => by cases h) dJ0_checkIndex_df160_9 B.notSynchronized
  rcases hE0.2.2.2.2 with hz | ⟨t, hz⟩
  · exact va_gets hx hb hz hS hown (hts _ fl_J0_1053) (fun _ h9 => h9) dJ0_checkIndex_df160_2 (tail .null (Or.inl rfl))
  · exact va_gets hx hb hz hS hown (hts _ fl_J0_1053) (fun _ h9 => h9) dJ0_checkIndex_df160_2 (tail (.ref t) (Or.inr ⟨t, rfl⟩))
set_option maxRecDepth 100000 in
set_option maxHeartbeats 4000000 in
theorem c_J1_charAt (l : Launch) (D : va_G) (ty : List (ClassId × FieldType)) (a : Nat → Nat) (w : va_W) (j : Nat) (hj : j < 2) (i : Int32) (h1 : ¬ i < 0) (h2 : i < Int32.ofNat (ln_K.getD j 0)) : Rd (Ek a) l D ty w yJ1_charAt_3b067 cJ1_charAt_3b067 2 (some .char) (rmm 2 43) [.ref (a (22 + j)), .int i] ((by_K.getD j []).getD i.toNatClampNeg 0 &&& 255) := by
  refine rd_start (by decide) (Nat.le_of_ble_eq_true rfl) ?_
  intro p e s m below meth c C hr hlocks hP hE0 ls hl
  have hl : lv_has ls 2 [(0, .ref (a (22 + j))), (1, .int i)] := hl
  obtain ⟨⟨hx, hb, hml, hown, hts⟩, hK⟩ := id C
  have hS : va_S (fun _ => False) s.heap s.heap [] := va_S.rf
  have hT := (hE0.1.1 j hj).2.2.2
  have hn : ln_K.getD j 0 < 2 ^ 31 := by
    rcases (show j = 0 ∨ j = 1 by omega) with rfl | rfl <;> decide
  refine lv_iload_n hx hb dJ1_charAt_3b067_0 rfl (lv_at hl 1 rfl) ?_
  refine lv_aload_n hx hb dJ1_charAt_3b067_1 rfl (lv_at hl 0 rfl) ?_
  refine va_tlen hx hb hT hS rfl dJ1_charAt_3b067_2 ?_
  refine va_csv (post := fun _ => True) (a := ([.int i, .int (Int32.ofNat (ln_K.getD j 0))] : List Value).toArray) (W.runS (As := [.int i, .int (Int32.ofNat (ln_K.getD j 0))]) (rest := []) C.1 (c_J0_checkIndex l D ty a w i (Int32.ofNat (ln_K.getD j 0)) h1 h2) (csM C.1.2.2.2.2 my_J0_checkIndex_df160 ml_J1_9 ⟨rfl, rfl, Nat.le_of_ble_eq_true rfl, Nat.le_of_ble_eq_true rfl⟩) ⟨rd_blind (Ek_est a), fun U hU hWu => ⟨rfl, by rw [hU]; exact hP, va_K.moved hWu.alike C.2, by rw [hU]; exact (Ek_est a).2.2.1 _ _ _ _ hWu hE0⟩⟩ rfl rfl hl.1 rfl (lv_room (Nat.le_of_ble_eq_true rfl)) dJ1_charAt_3b067_3 ⟨Nat.zero_le _, Nat.zero_le _⟩) (fun _ => ?_)
  refine lv_aload_n hx hb dJ1_charAt_3b067_6 rfl (lv_at hl 0 rfl) ?_
  refine lv_iload_n hx hb dJ1_charAt_3b067_7 rfl (lv_at hl 1 rfl) ?_
  refine va_tb hx hb hT hS (in_len hn h1 h2) rfl dJ1_charAt_3b067_8 ?_
  refine lv_sipush (v := 255) hx hb dJ1_charAt_3b067_9 (by decide) ?_
  refine lv_iand hx hb dJ1_charAt_3b067_12 ?_
  refine lv_i2c hx hb dJ1_charAt_3b067_13 (sc_c2 _) ?_
  exact W.zret hx hb hr (sc_nar _) (fun _ ht _ => ⟨rfl, ht⟩) (fun _ h => by cases h) dJ1_charAt_3b067_14 hlocks
set_option maxRecDepth 100000 in
set_option maxHeartbeats 4000000 in
theorem c_J0_isLatin1 (l : Launch) (D : va_G) (ty : List (ClassId × FieldType)) (a : Nat → Nat) (w : va_W) (j : Nat) (hj : j < 2) : Rd (Ek a) l D ty w yJ0_isLatin1_aae02 cJ0_isLatin1_aae02 1 (some .boolean) (rmm 0 0) [.ref (a (20 + j))] 1 := by
  refine rd_start (by decide) (Nat.le_of_ble_eq_true rfl) ?_
  intro p e s m below meth c C hr hlocks hP hE0 ls hl
  have hl : lv_has ls 1 [(0, .ref (a (20 + j)))] := hl
  obtain ⟨⟨hx, hb, hml, hown, hts⟩, hK⟩ := id C
  have hS : va_S (fun _ => False) s.heap s.heap [] := va_S.rf
  refine va_gets hx hb hE0.2.1 hS hown (hts _ fl_J0_38) (fun _ h9 => h9) dJ0_isLatin1_aae02_0 ?_
  refine lv_if_eq (tgt := 17) hx hb dJ0_isLatin1_aae02_3 (by decide) (fun c1 => absurd c1 (by decide)) (fun c1 => ?_)
  refine lv_aload_n hx hb dJ0_isLatin1_aae02_6 rfl (lv_at hl 0 rfl) ?_
  refine vk_getf hx hb (hE0.1.1 j hj).2.1 hS hown (hts _ fl_J0_15) (fun _ h9 => h9) dJ0_isLatin1_aae02_7 ?_
  refine lv_if_ne (tgt := 17) hx hb dJ0_isLatin1_aae02_10 (by decide) (fun c1 => absurd rfl c1) (fun c1 => ?_)
  refine lv_iconst (v := 1) hx hb dJ0_isLatin1_aae02_13 (by decide) ?_
  refine lv_goto (tgt := 18) hx hb dJ0_isLatin1_aae02_14 (by decide) ?_
  exact rd_zret (v := true) C hr hlocks dJ0_isLatin1_aae02_18
set_option maxRecDepth 100000 in
set_option maxHeartbeats 4000000 in
theorem c_J0_coder (l : Launch) (D : va_G) (ty : List (ClassId × FieldType)) (a : Nat → Nat) (w : va_W) (j : Nat) (hj : j < 2) : Rd (Ek a) l D ty w yJ0_coder_7d493 cJ0_coder_7d493 1 (some .byte) (rmm 0 0) [.ref (a (20 + j))] 0 := by
  refine rd_start (by decide) (Nat.le_of_ble_eq_true rfl) ?_
  intro p e s m below meth c C hr hlocks hP hE0 ls hl
  have hl : lv_has ls 1 [(0, .ref (a (20 + j)))] := hl
  obtain ⟨⟨hx, hb, hml, hown, hts⟩, hK⟩ := id C
  have hS : va_S (fun _ => False) s.heap s.heap [] := va_S.rf
  refine va_gets hx hb hE0.2.1 hS hown (hts _ fl_J0_38) (fun _ h9 => h9) dJ0_coder_7d493_0 ?_
  refine lv_if_eq (tgt := 13) hx hb dJ0_coder_7d493_3 (by decide) (fun c1 => absurd c1 (by decide)) (fun c1 => ?_)
  refine lv_aload_n hx hb dJ0_coder_7d493_6 rfl (lv_at hl 0 rfl) ?_
  refine vk_getf hx hb (hE0.1.1 j hj).2.1 hS hown (hts _ fl_J0_15) (fun _ h9 => h9) dJ0_coder_7d493_7 ?_
  refine lv_goto (tgt := 14) hx hb dJ0_coder_7d493_10 (by decide) ?_
  exact W.zret hx hb hr rfl (fun _ ht _ => ⟨rfl, ht⟩) (fun _ h => by cases h) dJ0_coder_7d493_14 hlocks
theorem rStrj {a : Nat → Nat} {A : Nat → Prop} {s : State} {H : Heap} {j : Nat} (hj : j < 2) (h : Ek a A s H) : ∃ cell : Cell, H[a (20 + j)]? = some cell ∧ cell.vm.isStatics = false ∧ s.vm.findClass RJ0 = some cell.cls := by
  obtain ⟨cell, h1, h2, h3, -⟩ := (h.1.1 j hj).1
  exact ⟨cell, h1, h2, h3⟩
set_option maxRecDepth 100000 in
set_option maxHeartbeats 4000000 in
theorem c_J0_length (l : Launch) (D : va_G) (ty : List (ClassId × FieldType)) (a : Nat → Nat) (w : va_W) (j : Nat) (hj : j < 2) : Rd (Ek a) l D ty w yJ0_length_8abf5 cJ0_length_8abf5 1 (some .int) (rmm 1 20) [.ref (a (20 + j))] (Int32.ofNat (ln_K.getD j 0)) := by
  refine rd_start (by decide) (Nat.le_of_ble_eq_true rfl) ?_
  intro p e s m below meth c C hr hlocks hP hE0 ls hl
  have hl : lv_has ls 1 [(0, .ref (a (20 + j)))] := hl
  obtain ⟨⟨hx, hb, hml, hown, hts⟩, hK⟩ := id C
  have hS : va_S (fun _ => False) s.heap s.heap [] := va_S.rf
  refine lv_aload_n hx hb dJ0_length_8abf5_0 rfl (lv_at hl 0 rfl) ?_
  refine vk_getf hx hb (hE0.1.1 j hj).2.2.1 hS hown (hts _ fl_J0_9) (fun _ h9 => h9) dJ0_length_8abf5_1 ?_
  refine va_tlen hx hb (hE0.1.1 j hj).2.2.2 hS rfl dJ0_length_8abf5_4 ?_
  refine lv_aload_n hx hb dJ0_length_8abf5_5 rfl (lv_at hl 0 rfl) ?_
  refine rdV (Ek_est a) C hP hE0 (c_J0_coder l D ty a w j hj) my_J0_coder_7d493 ml_J0_335 (rStrj hj hE0) rfl hl.1 (rest := [.int (Int32.ofNat (ln_K.getD j 0))]) rfl (Nat.le_of_ble_eq_true rfl) ⟨rfl, rfl, Nat.le_of_ble_eq_true rfl, Nat.le_of_ble_eq_true rfl⟩ ⟨Nat.zero_le _, Nat.zero_le _⟩ dJ0_length_8abf5_6 ?_
  refine lv_ishr hx hb dJ0_length_8abf5_9 ?_
  rw [sb_shr0]
  exact rd_iret C hr hlocks dJ0_length_8abf5_10
set_option maxRecDepth 100000 in
set_option maxHeartbeats 4000000 in
theorem c_J0_charAt (l : Launch) (D : va_G) (ty : List (ClassId × FieldType)) (a : Nat → Nat) (w : va_W) (j : Nat) (hj : j < 2) (i : Int32) (h1 : ¬ i < 0) (h2 : i < Int32.ofNat (ln_K.getD j 0)) : Rd (Ek a) l D ty w yJ0_charAt_5068e cJ0_charAt_5068e 2 (some .char) (rmm 3 64) [.ref (a (20 + j)), .int i] ((by_K.getD j []).getD i.toNatClampNeg 0 &&& 255) := by
  refine rd_start (by decide) (Nat.le_of_ble_eq_true rfl) ?_
  intro p e s m below meth c C hr hlocks hP hE0 ls hl
  have hl : lv_has ls 2 [(0, .ref (a (20 + j))), (1, .int i)] := hl
  obtain ⟨⟨hx, hb, hml, hown, hts⟩, hK⟩ := id C
  have hS : va_S (fun _ => False) s.heap s.heap [] := va_S.rf
  refine lv_aload_n hx hb dJ0_charAt_5068e_0 rfl (lv_at hl 0 rfl) ?_
  refine rdV (Ek_est a) C hP hE0 (c_J0_isLatin1 l D ty a w j hj) my_J0_isLatin1_aae02 ml_J0_492 (rStrj hj hE0) rfl hl.1 (rest := []) rfl (Nat.le_of_ble_eq_true rfl) ⟨rfl, rfl, Nat.le_of_ble_eq_true rfl, Nat.le_of_ble_eq_true rfl⟩ ⟨Nat.zero_le _, Nat.zero_le _⟩ dJ0_charAt_5068e_1 ?_
  refine lv_if_eq (tgt := 16) hx hb dJ0_charAt_5068e_4 (by decide) (fun c1 => absurd c1 (by decide)) (fun c1 => ?_)
  refine lv_aload_n hx hb dJ0_charAt_5068e_7 rfl (lv_at hl 0 rfl) ?_
  refine vk_getf hx hb (hE0.1.1 j hj).2.2.1 hS hown (hts _ fl_J0_9) (fun _ h9 => h9) dJ0_charAt_5068e_8 ?_
  refine lv_iload_n hx hb dJ0_charAt_5068e_11 rfl (lv_at hl 1 rfl) ?_
  refine rdS (Ek_est a) C hP hE0 (c_J1_charAt l D ty a w j hj i h1 h2) my_J1_charAt_3b067 ml_J0_495 rfl hl.1 (rest := []) rfl (Nat.le_of_ble_eq_true rfl) ⟨rfl, rfl, Nat.le_of_ble_eq_true rfl, Nat.le_of_ble_eq_true rfl⟩ ⟨Nat.zero_le _, Nat.zero_le _⟩ dJ0_charAt_5068e_12 ?_
  exact W.zret hx hb hr (sc_nar _) (fun _ ht _ => ⟨rfl, ht⟩) (fun _ h => by cases h) dJ0_charAt_5068e_15 hlocks
/-- charIn over one of the two texts -/
def fX5_charInj (j : Nat) (i : Int32) : Int32 := if i < 0 then 0 else if Int32.ofNat (ln_K.getD j 0) ≤ i then 0 else ((by_K.getD j []).getD i.toNatClampNeg 0 &&& 255)
set_option maxRecDepth 100000 in
set_option maxHeartbeats 4000000 in
theorem c_X5_charInj (l : Launch) (D : va_G) (ty : List (ClassId × FieldType)) (a : Nat → Nat) (w : va_W) (j : Nat) (hj : j < 2) (i : Int32) : Rd (Ek a) l D ty w yX5_charIn cX5_charIn 2 (some .int) (rmm 4 85) [.ref (a (20 + j)), .int i] (fX5_charInj j i) := by
  generalize h : fX5_charInj j i = u
  refine rd_start (by decide) (Nat.le_of_ble_eq_true rfl) ?_
  intro p e s m below meth c C hr hlocks hP hE0 ls hl
  have hl : lv_has ls 2 [(0, .ref (a (20 + j))), (1, .int i)] := hl
  obtain ⟨⟨hx, hb, hml, hown, hts⟩, hK⟩ := id C
  rw [fX5_charInj] at h
  refine lv_iload_n hx hb dX5_charIn_0 rfl (lv_at hl 1 rfl) ?_
  refine lv_if_lt (tgt := 20) hx hb dX5_charIn_1 (by decide) (fun c1 => ?_) (fun c1 => ?_)
  · rw [if_pos c1] at h
    refine lv_iconst (v := 0) hx hb dX5_charIn_20 (by decide) ?_
    rw [← h]
    exact rd_iret C hr hlocks dX5_charIn_21
  · rw [if_neg c1] at h
    refine lv_iload_n hx hb dX5_charIn_4 rfl (lv_at hl 1 rfl) ?_
    refine lv_aload_n hx hb dX5_charIn_5 rfl (lv_at hl 0 rfl) ?_
    refine rdV (Ek_est a) C hP hE0 (c_J0_length l D ty a w j hj) my_J0_length_8abf5 ml_X5_104 (rStrj hj hE0) rfl hl.1 (rest := [.int i]) rfl (Nat.le_of_ble_eq_true rfl) ⟨rfl, rfl, Nat.le_of_ble_eq_true rfl, Nat.le_of_ble_eq_true rfl⟩ ⟨Nat.zero_le _, Nat.zero_le _⟩ dX5_charIn_6 ?_
    refine lv_icmp_ge (tgt := 20) hx hb dX5_charIn_9 (by decide) (fun c2 => ?_) (fun c2 => ?_)
    · rw [if_pos c2] at h
      refine lv_iconst (v := 0) hx hb dX5_charIn_20 (by decide) ?_
      rw [← h]
      exact rd_iret C hr hlocks dX5_charIn_21
    · rw [if_neg c2] at h
      have h2 : i < Int32.ofNat (ln_K.getD j 0) := Int32.not_le.mp c2
      refine lv_aload_n hx hb dX5_charIn_12 rfl (lv_at hl 0 rfl) ?_
      refine lv_iload_n hx hb dX5_charIn_13 rfl (lv_at hl 1 rfl) ?_
      refine rdV (Ek_est a) C hP hE0 (c_J0_charAt l D ty a w j hj i c1 h2) my_J0_charAt_5068e ml_X5_109 (rStrj hj hE0) rfl hl.1 (rest := []) rfl (Nat.le_of_ble_eq_true rfl) ⟨rfl, rfl, Nat.le_of_ble_eq_true rfl, Nat.le_of_ble_eq_true rfl⟩ ⟨Nat.zero_le _, Nat.zero_le _⟩ dX5_charIn_14 ?_
      refine lv_goto (tgt := 21) hx hb dX5_charIn_17 (by decide) ?_
      rw [← h]
      exact rd_iret C hr hlocks dX5_charIn_21
def fX5_charIn20 (_ : XS) (i : Int32) : Int32 := fX5_charInj 0 i
def fX5_charIn21 (_ : XS) (i : Int32) : Int32 := fX5_charInj 1 i
theorem c_X5_charIn20 (l : Launch) (D : va_G) (k : Nat → ClassId) (a : Nat → Nat) (S : XS) (i : Int32) : Rd (Ek a) l D (tyk k) (wX k a S) yX5_charIn cX5_charIn 2 (some .int) (rmm 4 85) [.ref (a 20), .int i] (fX5_charIn20 S i) := c_X5_charInj l D (tyk k) a (wX k a S) 0 (by decide) i
theorem c_X5_charIn21 (l : Launch) (D : va_G) (k : Nat → ClassId) (a : Nat → Nat) (S : XS) (i : Int32) : Rd (Ek a) l D (tyk k) (wX k a S) yX5_charIn cX5_charIn 2 (some .int) (rmm 4 85) [.ref (a 21), .int i] (fX5_charIn21 S i) := c_X5_charInj l D (tyk k) a (wX k a S) 1 (by decide) i
