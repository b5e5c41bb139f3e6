def fX8_at (S : XS) (x1 : Int32) : Int32 := (if x1 < 0 then (0 : Int32) else (if (4096 : Int32) ≤ x1 then (0 : Int32) else (S.2 0 x1.toNatClampNeg)))
set_option maxRecDepth 100000 in
set_option maxHeartbeats 4000000 in
theorem c_X8_at (l : Launch) (D : va_G) (k : Nat → ClassId) (a : Nat → Nat) (S : XS) (x1 : Int32) : Rd noE l D (tyk k) (wM k a S) yX8_at cX8_at 2 (some .int) (rmm 0 0) [.ref (a 0), .int x1] (fX8_at S x1) := by
  generalize h : fX8_at S x1 = u
  refine rd_start (by decide) (Nat.le_of_ble_eq_true rfl) ?_
  intro p e s m below meth c C hr hlocks hP hE0 ls hl
  have hl : lv_has ls 2 [(0, .ref (a 0)), (1, .int x1)] := hl
  obtain ⟨⟨hx, hb, hml, hown, hts⟩, hK⟩ := id C
  rw [fX8_at] at h
  refine lv_iload_n hx hb dX8_at_0 rfl (lv_at hl 1 rfl) ?_
  refine lv_if_lt (tgt := 20) hx hb dX8_at_1 (by decide) (fun c1 => ?_) (fun c1 => ?_)
  · rw [if_pos c1] at h
    refine lv_iconst (v := (0 : Int32)) hx hb dX8_at_20 (by decide) ?_
    rw [← h]
    exact rd_iret C hr hlocks dX8_at_21
  · rw [if_neg c1] at h
    refine lv_iload_n hx hb dX8_at_4 rfl (lv_at hl 1 rfl) ?_
    refine lv_sipush (v := (4096 : Int32)) hx hb dX8_at_5 (by decide) ?_
    refine lv_icmp_ge (tgt := 20) hx hb dX8_at_8 (by decide) (fun c2 => ?_) (fun c2 => ?_)
    · rw [if_pos c2] at h
      refine lv_iconst (v := (0 : Int32)) hx hb dX8_at_20 (by decide) ?_
      rw [← h]
      exact rd_iret C hr hlocks dX8_at_21
    · rw [if_neg c2] at h
      refine lv_aload_n hx hb dX8_at_11 rfl (lv_at hl 0 rfl) ?_
      refine gM0_memory C hP fl_X8_7 dX8_at_12 ?_
      refine lv_iload_n hx hb dX8_at_15 rfl (lv_at hl 1 rfl) ?_
      refine aM1 C hP (in_cmp c1 c2) dX8_at_16 (v := (S.2 0 x1.toNatClampNeg)) rfl ?_
      refine lv_goto (tgt := 21) hx hb dX8_at_17 (by decide) ?_
      rw [← h]
      exact rd_iret C hr hlocks dX8_at_21
def fX8_set (S : XS) (x1 : Int32) (x2 : Int32) : XS := (if x1 < 0 then S else (if (4096 : Int32) ≤ x1 then S else (pA S 0 x1 (x2 &&& (255 : Int32)))))
set_option maxRecDepth 100000 in
set_option maxHeartbeats 4000000 in
theorem c_X8_set (l : Launch) (D : va_G) (k : Nat → ClassId) (a : Nat → Nat) (S : XS) (x1 : Int32) (x2 : Int32) : Wr noE l D (tyk k) (wM k a S) (wM k a (fX8_set S x1 x2)) yX8_set cX8_set 3 none (rmm 0 0) [.ref (a 0), .int x1, .int x2] none := by
  generalize h : fX8_set S x1 x2 = u
  refine wr_start (by decide) (Nat.le_of_ble_eq_true rfl) ?_
  intro p e s m below meth c A C hr hlocks hP hD0 hA hE0 ls hl
  have hDA : ∀ S, va_D A (wM k a S) := wM_D hD0
  have hS : va_S A s.heap s.heap [] := va_S.rf
  have hl : lv_has ls 3 [(0, .ref (a 0)), (1, .int x1), (2, .int x2)] := hl
  obtain ⟨⟨hx, hb, hml, hown, hts⟩, hK⟩ := id C
  rw [fX8_set] at h
  refine lv_iload_n hx hb dX8_set_0 rfl (lv_at hl 1 rfl) ?_
  refine lv_if_lt (tgt := 22) hx hb dX8_set_1 (by decide) (fun c1 => ?_) (fun c1 => ?_)
  · rw [if_pos c1] at h
    rw [← h]
    exact wr_vret C hr hlocks hP hS dX8_set_22
  · rw [if_neg c1] at h
    refine lv_iload_n hx hb dX8_set_4 rfl (lv_at hl 1 rfl) ?_
    refine lv_sipush (v := (4096 : Int32)) hx hb dX8_set_5 (by decide) ?_
    refine lv_icmp_ge (tgt := 22) hx hb dX8_set_8 (by decide) (fun c2 => ?_) (fun c2 => ?_)
    · rw [if_pos c2] at h
      rw [← h]
      exact wr_vret C hr hlocks hP hS dX8_set_22
    · rw [if_neg c2] at h
      refine lv_aload_n hx hb dX8_set_11 rfl (lv_at hl 0 rfl) ?_
      refine gM0_memory C hP fl_X8_7 dX8_set_12 ?_
      refine lv_iload_n hx hb dX8_set_15 rfl (lv_at hl 1 rfl) ?_
      refine lv_iload_n hx hb dX8_set_16 rfl (lv_at hl 2 rfl) ?_
      refine lv_sipush (v := (255 : Int32)) hx hb dX8_set_17 (by decide) ?_
      refine lv_iand hx hb dX8_set_20 ?_
      refine sM1 C hP (hDA _) hS (in_cmp c1 c2) dX8_set_21 (fun H locs hP hS => ?_)
      rw [← h]
      exact wr_vret C hr hlocks hP hS dX8_set_22
def fX8_word (S : XS) (x1 : Int32) : Int32 := (((256 : Int32) * (fX8_at S x1)) + (fX8_at S (x1 + (1 : Int32))))
set_option maxRecDepth 100000 in
set_option maxHeartbeats 4000000 in
theorem c_X8_word (l : Launch) (D : va_G) (k : Nat → ClassId) (a : Nat → Nat) (S : XS) (x1 : Int32) : Rd noE l D (tyk k) (wM k a S) yX8_word cX8_word 2 (some .int) (rmm 1 21) [.ref (a 0), .int x1] (fX8_word S x1) := by
  generalize h : fX8_word S x1 = u
  refine rd_start (by decide) (Nat.le_of_ble_eq_true rfl) ?_
  intro p e s m below meth c C hr hlocks hP hE0 ls hl
  have hl : lv_has ls 2 [(0, .ref (a 0)), (1, .int x1)] := hl
  obtain ⟨⟨hx, hb, hml, hown, hts⟩, hK⟩ := id C
  rw [fX8_word] at h
  refine lv_sipush (v := (256 : Int32)) hx hb dX8_word_0 (by decide) ?_
  refine lv_aload_n hx hb dX8_word_3 rfl (lv_at hl 0 rfl) ?_
  refine lv_iload_n hx hb dX8_word_4 rfl (lv_at hl 1 rfl) ?_
  refine rdV noE_est C hP hE0 (c_X8_at l D k a _ x1) my_X8_at ml_X8_46 (rM0 C hP) rfl hl.1 (rest := [.int (256 : Int32)]) rfl (Nat.le_of_ble_eq_true rfl) ⟨rfl, rfl, Nat.le_of_ble_eq_true rfl, Nat.le_of_ble_eq_true rfl⟩ ⟨Nat.zero_le _, Nat.zero_le _⟩ dX8_word_5 ?_
  refine lv_imul hx hb dX8_word_8 ?_
  refine lv_aload_n hx hb dX8_word_9 rfl (lv_at hl 0 rfl) ?_
  refine lv_iload_n hx hb dX8_word_10 rfl (lv_at hl 1 rfl) ?_
  refine lv_iconst (v := (1 : Int32)) hx hb dX8_word_11 (by decide) ?_
  refine lv_iadd hx hb dX8_word_12 ?_
  refine rdV noE_est C hP hE0 (c_X8_at l D k a _ (x1 + (1 : Int32))) my_X8_at ml_X8_46 (rM0 C hP) rfl hl.1 (rest := [.int ((256 : Int32) * (fX8_at S x1))]) rfl (Nat.le_of_ble_eq_true rfl) ⟨rfl, rfl, Nat.le_of_ble_eq_true rfl, Nat.le_of_ble_eq_true rfl⟩ ⟨Nat.zero_le _, Nat.zero_le _⟩ dX8_word_13 ?_
  refine lv_iadd hx hb dX8_word_16 ?_
  rw [← h]
  exact rd_iret C hr hlocks dX8_word_17
def fX8_setWord (S : XS) (x1 : Int32) (x2 : Int32) : XS := (fX8_set (fX8_set S x1 (x2 >>> ((8 : Int32) &&& 31))) (x1 + (1 : Int32)) x2)
set_option maxRecDepth 100000 in
set_option maxHeartbeats 4000000 in
theorem c_X8_setWord (l : Launch) (D : va_G) (k : Nat → ClassId) (a : Nat → Nat) (S : XS) (x1 : Int32) (x2 : Int32) : Wr noE l D (tyk k) (wM k a S) (wM k a (fX8_setWord S x1 x2)) yX8_setWord cX8_setWord 3 none (rmm 1 22) [.ref (a 0), .int x1, .int x2] none := by
  generalize h : fX8_setWord S x1 x2 = u
  refine wr_start (by decide) (Nat.le_of_ble_eq_true rfl) ?_
  intro p e s m below meth c A C hr hlocks hP hD0 hA hE0 ls hl
  have hDA : ∀ S, va_D A (wM k a S) := wM_D hD0
  have hS : va_S A s.heap s.heap [] := va_S.rf
  have hl : lv_has ls 3 [(0, .ref (a 0)), (1, .int x1), (2, .int x2)] := hl
  obtain ⟨⟨hx, hb, hml, hown, hts⟩, hK⟩ := id C
  rw [fX8_setWord] at h
  refine lv_aload_n hx hb dX8_setWord_0 rfl (lv_at hl 0 rfl) ?_
  refine lv_iload_n hx hb dX8_setWord_1 rfl (lv_at hl 1 rfl) ?_
  refine lv_iload_n hx hb dX8_setWord_2 rfl (lv_at hl 2 rfl) ?_
  refine lv_bipush (v := (8 : Int32)) hx hb dX8_setWord_3 (by decide) ?_
  refine lv_ishr hx hb dX8_setWord_5 ?_
  refine wrV noE_est C hP (hDA _) hA hS hE0 (c_X8_set l D k a _ x1 (x2 >>> ((8 : Int32) &&& 31))) my_X8_set ml_X8_50 (rM0 C hP) rfl hl.1 (rest := []) rfl (Nat.le_of_ble_eq_true rfl) ⟨rfl, rfl, Nat.le_of_ble_eq_true rfl, Nat.le_of_ble_eq_true rfl⟩ ⟨Nat.zero_le _, Nat.zero_le _⟩ dX8_setWord_6 (fun H locs hP hS _ _ => ?_)
  refine lv_aload_n hx hb dX8_setWord_9 rfl (lv_at hl 0 rfl) ?_
  refine lv_iload_n hx hb dX8_setWord_10 rfl (lv_at hl 1 rfl) ?_
  refine lv_iconst (v := (1 : Int32)) hx hb dX8_setWord_11 (by decide) ?_
  refine lv_iadd hx hb dX8_setWord_12 ?_
  refine lv_iload_n hx hb dX8_setWord_13 rfl (lv_at hl 2 rfl) ?_
  refine wrV noE_est C hP (hDA _) hA hS hE0 (c_X8_set l D k a _ (x1 + (1 : Int32)) x2) my_X8_set ml_X8_50 (rM0 C hP) rfl hl.1 (rest := []) rfl (Nat.le_of_ble_eq_true rfl) ⟨rfl, rfl, Nat.le_of_ble_eq_true rfl, Nat.le_of_ble_eq_true rfl⟩ ⟨Nat.zero_le _, Nat.zero_le _⟩ dX8_setWord_14 (fun H locs hP hS _ _ => ?_)
  rw [← h]
  exact wr_vret C hr hlocks hP hS dX8_setWord_17
def fX8_entry (S : XS) (x1 : Int32) : Int32 := (if (S.1 2) = 0 then (((256 : Int32) + ((2 : Int32) * (S.1 3))) + ((x1 - (1 : Int32)) * (9 : Int32))) else (((256 : Int32) + ((2 : Int32) * (S.1 3))) + ((x1 - (1 : Int32)) * (14 : Int32))))
set_option maxRecDepth 100000 in
set_option maxHeartbeats 4000000 in
theorem c_X8_entry (l : Launch) (D : va_G) (k : Nat → ClassId) (a : Nat → Nat) (S : XS) (x1 : Int32) : Rd noE l D (tyk k) (wM k a S) yX8_entry cX8_entry 2 (some .int) (rmm 0 0) [.ref (a 0), .int x1] (fX8_entry S x1) := by
  generalize h : fX8_entry S x1 = u
  refine rd_start (by decide) (Nat.le_of_ble_eq_true rfl) ?_
  intro p e s m below meth c C hr hlocks hP hE0 ls hl
  have hl : lv_has ls 2 [(0, .ref (a 0)), (1, .int x1)] := hl
  obtain ⟨⟨hx, hb, hml, hown, hts⟩, hK⟩ := id C
  rw [fX8_entry] at h
  refine lv_sipush (v := (256 : Int32)) hx hb dX8_entry_0 (by decide) ?_
  refine lv_iconst (v := (2 : Int32)) hx hb dX8_entry_3 (by decide) ?_
  refine lv_aload_n hx hb dX8_entry_4 rfl (lv_at hl 0 rfl) ?_
  refine gM0_defaults C hP fl_X8_43 dX8_entry_5 (v := (S.1 3)) rfl ?_
  refine lv_imul hx hb dX8_entry_8 ?_
  refine lv_iadd hx hb dX8_entry_9 ?_
  refine lv_iload_n hx hb dX8_entry_10 rfl (lv_at hl 1 rfl) ?_
  refine lv_iconst (v := (1 : Int32)) hx hb dX8_entry_11 (by decide) ?_
  refine lv_isub hx hb dX8_entry_12 ?_
  refine lv_aload_n hx hb dX8_entry_13 rfl (lv_at hl 0 rfl) ?_
  refine gM0_wide C hP fl_X8_39 dX8_entry_14 (v := (S.1 2)) rfl ?_
  refine lv_if_eq (tgt := 25) hx hb dX8_entry_17 (by decide) (fun c1 => ?_) (fun c1 => ?_)
  · rw [if_pos c1] at h
    refine lv_bipush (v := (9 : Int32)) hx hb dX8_entry_25 (by decide) ?_
    refine lv_imul hx hb dX8_entry_27 ?_
    refine lv_iadd hx hb dX8_entry_28 ?_
    rw [← h]
    exact rd_iret C hr hlocks dX8_entry_29
  · rw [if_neg c1] at h
    refine lv_bipush (v := (14 : Int32)) hx hb dX8_entry_20 (by decide) ?_
    refine lv_goto (tgt := 27) hx hb dX8_entry_22 (by decide) ?_
    refine lv_imul hx hb dX8_entry_27 ?_
    refine lv_iadd hx hb dX8_entry_28 ?_
    rw [← h]
    exact rd_iret C hr hlocks dX8_entry_29
def fX8_link (S : XS) (x1 : Int32) (x2 : Int32) : Int32 := (if (S.1 2) = 0 then (fX8_at S (((fX8_entry S x1) + (4 : Int32)) + x2)) else (fX8_word S (((fX8_entry S x1) + (6 : Int32)) + ((2 : Int32) * x2))))
set_option maxRecDepth 100000 in
set_option maxHeartbeats 4000000 in
theorem c_X8_link (l : Launch) (D : va_G) (k : Nat → ClassId) (a : Nat → Nat) (S : XS) (x1 : Int32) (x2 : Int32) : Rd noE l D (tyk k) (wM k a S) yX8_link cX8_link 3 (some .int) (rmm 2 42) [.ref (a 0), .int x1, .int x2] (fX8_link S x1 x2) := by
  generalize h : fX8_link S x1 x2 = u
  refine rd_start (by decide) (Nat.le_of_ble_eq_true rfl) ?_
  intro p e s m below meth c C hr hlocks hP hE0 ls hl
  have hl : lv_has ls 3 [(0, .ref (a 0)), (1, .int x1), (2, .int x2)] := hl
  obtain ⟨⟨hx, hb, hml, hown, hts⟩, hK⟩ := id C
  rw [fX8_link] at h
  refine lv_aload_n hx hb dX8_link_0 rfl (lv_at hl 0 rfl) ?_
  refine gM0_wide C hP fl_X8_39 dX8_link_1 (v := (S.1 2)) rfl ?_
  refine lv_if_eq (tgt := 26) hx hb dX8_link_4 (by decide) (fun c1 => ?_) (fun c1 => ?_)
  · rw [if_pos c1] at h
    refine lv_aload_n hx hb dX8_link_26 rfl (lv_at hl 0 rfl) ?_
    refine lv_aload_n hx hb dX8_link_27 rfl (lv_at hl 0 rfl) ?_
    refine lv_iload_n hx hb dX8_link_28 rfl (lv_at hl 1 rfl) ?_
    refine rdV noE_est C hP hE0 (c_X8_entry l D k a _ x1) my_X8_entry ml_X8_54 (rM0 C hP) rfl hl.1 (rest := [.ref (a 0)]) rfl (Nat.le_of_ble_eq_true rfl) ⟨rfl, rfl, Nat.le_of_ble_eq_true rfl, Nat.le_of_ble_eq_true rfl⟩ ⟨Nat.zero_le _, Nat.zero_le _⟩ dX8_link_29 ?_
    refine lv_iconst (v := (4 : Int32)) hx hb dX8_link_32 (by decide) ?_
    refine lv_iadd hx hb dX8_link_33 ?_
    refine lv_iload_n hx hb dX8_link_34 rfl (lv_at hl 2 rfl) ?_
    refine lv_iadd hx hb dX8_link_35 ?_
    refine rdV noE_est C hP hE0 (c_X8_at l D k a _ (((fX8_entry S x1) + (4 : Int32)) + x2)) my_X8_at ml_X8_46 (rM0 C hP) rfl hl.1 (rest := []) rfl (Nat.le_of_ble_eq_true rfl) ⟨rfl, rfl, Nat.le_of_ble_eq_true rfl, Nat.le_of_ble_eq_true rfl⟩ ⟨Nat.zero_le _, Nat.zero_le _⟩ dX8_link_36 ?_
    rw [← h]
    exact rd_iret C hr hlocks dX8_link_39
  · rw [if_neg c1] at h
    refine lv_aload_n hx hb dX8_link_7 rfl (lv_at hl 0 rfl) ?_
    refine lv_aload_n hx hb dX8_link_8 rfl (lv_at hl 0 rfl) ?_
    refine lv_iload_n hx hb dX8_link_9 rfl (lv_at hl 1 rfl) ?_
    refine rdV noE_est C hP hE0 (c_X8_entry l D k a _ x1) my_X8_entry ml_X8_54 (rM0 C hP) rfl hl.1 (rest := [.ref (a 0)]) rfl (Nat.le_of_ble_eq_true rfl) ⟨rfl, rfl, Nat.le_of_ble_eq_true rfl, Nat.le_of_ble_eq_true rfl⟩ ⟨Nat.zero_le _, Nat.zero_le _⟩ dX8_link_10 ?_
    refine lv_bipush (v := (6 : Int32)) hx hb dX8_link_13 (by decide) ?_
    refine lv_iadd hx hb dX8_link_15 ?_
    refine lv_iconst (v := (2 : Int32)) hx hb dX8_link_16 (by decide) ?_
    refine lv_iload_n hx hb dX8_link_17 rfl (lv_at hl 2 rfl) ?_
    refine lv_imul hx hb dX8_link_18 ?_
    refine lv_iadd hx hb dX8_link_19 ?_
    refine rdV noE_est C hP hE0 (c_X8_word l D k a _ (((fX8_entry S x1) + (6 : Int32)) + ((2 : Int32) * x2))) my_X8_word ml_X8_57 (rM0 C hP) rfl hl.1 (rest := []) rfl (Nat.le_of_ble_eq_true rfl) ⟨rfl, rfl, Nat.le_of_ble_eq_true rfl, Nat.le_of_ble_eq_true rfl⟩ ⟨Nat.zero_le _, Nat.zero_le _⟩ dX8_link_20 ?_
    refine lv_goto (tgt := 39) hx hb dX8_link_23 (by decide) ?_
    rw [← h]
    exact rd_iret C hr hlocks dX8_link_39
def fX8_setLink (S : XS) (x1 : Int32) (x2 : Int32) (x3 : Int32) : XS := (if (S.1 2) = 0 then (fX8_set S (((fX8_entry S x1) + (4 : Int32)) + x2) x3) else (fX8_setWord S (((fX8_entry S x1) + (6 : Int32)) + ((2 : Int32) * x2)) x3))
set_option maxRecDepth 100000 in
set_option maxHeartbeats 4000000 in
theorem c_X8_setLink (l : Launch) (D : va_G) (k : Nat → ClassId) (a : Nat → Nat) (S : XS) (x1 : Int32) (x2 : Int32) (x3 : Int32) : Wr noE l D (tyk k) (wM k a S) (wM k a (fX8_setLink S x1 x2 x3)) yX8_setLink cX8_setLink 4 none (rmm 2 44) [.ref (a 0), .int x1, .int x2, .int x3] none := by
  generalize h : fX8_setLink S x1 x2 x3 = u
  refine wr_start (by decide) (Nat.le_of_ble_eq_true rfl) ?_
  intro p e s m below meth c A C hr hlocks hP hD0 hA hE0 ls hl
  have hDA : ∀ S, va_D A (wM k a S) := wM_D hD0
  have hS : va_S A s.heap s.heap [] := va_S.rf
  have hl : lv_has ls 4 [(0, .ref (a 0)), (1, .int x1), (2, .int x2), (3, .int x3)] := hl
  obtain ⟨⟨hx, hb, hml, hown, hts⟩, hK⟩ := id C
  rw [fX8_setLink] at h
  refine lv_aload_n hx hb dX8_setLink_0 rfl (lv_at hl 0 rfl) ?_
  refine gM0_wide C hP fl_X8_39 dX8_setLink_1 (v := (S.1 2)) rfl ?_
  refine lv_if_eq (tgt := 27) hx hb dX8_setLink_4 (by decide) (fun c1 => ?_) (fun c1 => ?_)
  · rw [if_pos c1] at h
    refine lv_aload_n hx hb dX8_setLink_27 rfl (lv_at hl 0 rfl) ?_
    refine lv_aload_n hx hb dX8_setLink_28 rfl (lv_at hl 0 rfl) ?_
    refine lv_iload_n hx hb dX8_setLink_29 rfl (lv_at hl 1 rfl) ?_
    refine rdV noE_est C hP (ef noE_est hS hE0) (c_X8_entry l D k a _ x1) my_X8_entry ml_X8_54 (rM0 C hP) rfl hl.1 (rest := [.ref (a 0)]) rfl (Nat.le_of_ble_eq_true rfl) ⟨rfl, rfl, Nat.le_of_ble_eq_true rfl, Nat.le_of_ble_eq_true rfl⟩ ⟨Nat.zero_le _, Nat.zero_le _⟩ dX8_setLink_30 ?_
    refine lv_iconst (v := (4 : Int32)) hx hb dX8_setLink_33 (by decide) ?_
    refine lv_iadd hx hb dX8_setLink_34 ?_
    refine lv_iload_n hx hb dX8_setLink_35 rfl (lv_at hl 2 rfl) ?_
    refine lv_iadd hx hb dX8_setLink_36 ?_
    refine lv_iload_n hx hb dX8_setLink_37 rfl (lv_at hl 3 rfl) ?_
    refine wrV noE_est C hP (hDA _) hA hS hE0 (c_X8_set l D k a _ (((fX8_entry S x1) + (4 : Int32)) + x2) x3) my_X8_set ml_X8_50 (rM0 C hP) rfl hl.1 (rest := []) rfl (Nat.le_of_ble_eq_true rfl) ⟨rfl, rfl, Nat.le_of_ble_eq_true rfl, Nat.le_of_ble_eq_true rfl⟩ ⟨Nat.zero_le _, Nat.zero_le _⟩ dX8_setLink_38 (fun H locs hP hS _ _ => ?_)
    rw [← h]
    exact wr_vret C hr hlocks hP hS dX8_setLink_41
  · rw [if_neg c1] at h
    refine lv_aload_n hx hb dX8_setLink_7 rfl (lv_at hl 0 rfl) ?_
    refine lv_aload_n hx hb dX8_setLink_8 rfl (lv_at hl 0 rfl) ?_
    refine lv_iload_n hx hb dX8_setLink_9 rfl (lv_at hl 1 rfl) ?_
    refine rdV noE_est C hP (ef noE_est hS hE0) (c_X8_entry l D k a _ x1) my_X8_entry ml_X8_54 (rM0 C hP) rfl hl.1 (rest := [.ref (a 0)]) rfl (Nat.le_of_ble_eq_true rfl) ⟨rfl, rfl, Nat.le_of_ble_eq_true rfl, Nat.le_of_ble_eq_true rfl⟩ ⟨Nat.zero_le _, Nat.zero_le _⟩ dX8_setLink_10 ?_
    refine lv_bipush (v := (6 : Int32)) hx hb dX8_setLink_13 (by decide) ?_
    refine lv_iadd hx hb dX8_setLink_15 ?_
    refine lv_iconst (v := (2 : Int32)) hx hb dX8_setLink_16 (by decide) ?_
    refine lv_iload_n hx hb dX8_setLink_17 rfl (lv_at hl 2 rfl) ?_
    refine lv_imul hx hb dX8_setLink_18 ?_
    refine lv_iadd hx hb dX8_setLink_19 ?_
    refine lv_iload_n hx hb dX8_setLink_20 rfl (lv_at hl 3 rfl) ?_
    refine wrV noE_est C hP (hDA _) hA hS hE0 (c_X8_setWord l D k a _ (((fX8_entry S x1) + (6 : Int32)) + ((2 : Int32) * x2)) x3) my_X8_setWord ml_X8_60 (rM0 C hP) rfl hl.1 (rest := []) rfl (Nat.le_of_ble_eq_true rfl) ⟨rfl, rfl, Nat.le_of_ble_eq_true rfl, Nat.le_of_ble_eq_true rfl⟩ ⟨Nat.zero_le _, Nat.zero_le _⟩ dX8_setLink_21 (fun H locs hP hS _ _ => ?_)
    refine lv_goto (tgt := 41) hx hb dX8_setLink_24 (by decide) ?_
    rw [← h]
    exact wr_vret C hr hlocks hP hS dX8_setLink_41
def fX8_tableAt (S : XS) (x1 : Int32) : Int32 := (if (S.1 2) = 0 then ((fX8_entry S x1) + (7 : Int32)) else ((fX8_entry S x1) + (12 : Int32)))
set_option maxRecDepth 100000 in
set_option maxHeartbeats 4000000 in
theorem c_X8_tableAt (l : Launch) (D : va_G) (k : Nat → ClassId) (a : Nat → Nat) (S : XS) (x1 : Int32) : Rd noE l D (tyk k) (wM k a S) yX8_tableAt cX8_tableAt 2 (some .int) (rmm 1 21) [.ref (a 0), .int x1] (fX8_tableAt S x1) := by
  generalize h : fX8_tableAt S x1 = u
  refine rd_start (by decide) (Nat.le_of_ble_eq_true rfl) ?_
  intro p e s m below meth c C hr hlocks hP hE0 ls hl
  have hl : lv_has ls 2 [(0, .ref (a 0)), (1, .int x1)] := hl
  obtain ⟨⟨hx, hb, hml, hown, hts⟩, hK⟩ := id C
  rw [fX8_tableAt] at h
  refine lv_aload_n hx hb dX8_tableAt_0 rfl (lv_at hl 0 rfl) ?_
  refine lv_iload_n hx hb dX8_tableAt_1 rfl (lv_at hl 1 rfl) ?_
  refine rdV noE_est C hP hE0 (c_X8_entry l D k a _ x1) my_X8_entry ml_X8_54 (rM0 C hP) rfl hl.1 (rest := []) rfl (Nat.le_of_ble_eq_true rfl) ⟨rfl, rfl, Nat.le_of_ble_eq_true rfl, Nat.le_of_ble_eq_true rfl⟩ ⟨Nat.zero_le _, Nat.zero_le _⟩ dX8_tableAt_2 ?_
  refine lv_aload_n hx hb dX8_tableAt_5 rfl (lv_at hl 0 rfl) ?_
  refine gM0_wide C hP fl_X8_39 dX8_tableAt_6 (v := (S.1 2)) rfl ?_
  refine lv_if_eq (tgt := 17) hx hb dX8_tableAt_9 (by decide) (fun c1 => ?_) (fun c1 => ?_)
  · rw [if_pos c1] at h
    refine lv_bipush (v := (7 : Int32)) hx hb dX8_tableAt_17 (by decide) ?_
    refine lv_iadd hx hb dX8_tableAt_19 ?_
    rw [← h]
    exact rd_iret C hr hlocks dX8_tableAt_20
  · rw [if_neg c1] at h
    refine lv_bipush (v := (12 : Int32)) hx hb dX8_tableAt_12 (by decide) ?_
    refine lv_goto (tgt := 19) hx hb dX8_tableAt_14 (by decide) ?_
    refine lv_iadd hx hb dX8_tableAt_19 ?_
    rw [← h]
    exact rd_iret C hr hlocks dX8_tableAt_20
def fX8_isObject (S : XS) (x1 : Int32) : Bool := (if x1 < (1 : Int32) then false else (if (S.1 7) < x1 then false else true))
set_option maxRecDepth 100000 in
set_option maxHeartbeats 4000000 in
theorem c_X8_isObject (l : Launch) (D : va_G) (k : Nat → ClassId) (a : Nat → Nat) (S : XS) (x1 : Int32) : Rd noE l D (tyk k) (wM k a S) yX8_isObject cX8_isObject 2 (some .boolean) (rmm 0 0) [.ref (a 0), .int x1] (bI (fX8_isObject S x1)) := by
  generalize h : fX8_isObject S x1 = u
  refine rd_start (by decide) (Nat.le_of_ble_eq_true rfl) ?_
  intro p e s m below meth c C hr hlocks hP hE0 ls hl
  have hl : lv_has ls 2 [(0, .ref (a 0)), (1, .int x1)] := hl
  obtain ⟨⟨hx, hb, hml, hown, hts⟩, hK⟩ := id C
  rw [fX8_isObject] at h
  refine lv_iload_n hx hb dX8_isObject_0 rfl (lv_at hl 1 rfl) ?_
  refine lv_iconst (v := (1 : Int32)) hx hb dX8_isObject_1 (by decide) ?_
  refine lv_icmp_lt (tgt := 17) hx hb dX8_isObject_2 (by decide) (fun c1 => ?_) (fun c1 => ?_)
  · rw [if_pos c1] at h
    refine lv_iconst (v := (0 : Int32)) hx hb dX8_isObject_17 (by decide) ?_
    rw [← h]
    exact rd_zret (v := false) C hr hlocks dX8_isObject_18
  · rw [if_neg c1] at h
    refine lv_iload_n hx hb dX8_isObject_5 rfl (lv_at hl 1 rfl) ?_
    refine lv_aload_n hx hb dX8_isObject_6 rfl (lv_at hl 0 rfl) ?_
    refine gM0_objects C hP fl_X8_63 dX8_isObject_7 (v := (S.1 7)) rfl ?_
    refine lv_icmp_gt (tgt := 17) hx hb dX8_isObject_10 (by decide) (fun c2 => ?_) (fun c2 => ?_)
    · rw [if_pos c2] at h
      refine lv_iconst (v := (0 : Int32)) hx hb dX8_isObject_17 (by decide) ?_
      rw [← h]
      exact rd_zret (v := false) C hr hlocks dX8_isObject_18
    · rw [if_neg c2] at h
      refine lv_iconst (v := (1 : Int32)) hx hb dX8_isObject_13 (by decide) ?_
      refine lv_goto (tgt := 18) hx hb dX8_isObject_14 (by decide) ?_
      rw [← h]
      exact rd_zret (v := true) C hr hlocks dX8_isObject_18
def fX8_comes_L : Nat → XS → Int32 → Int32 → Int32 → Int32 → Int32 → Option Bool
  | 0, _, _, _, _, _, _ => none
  | n + 1, S, y1, y2, y3, y4, y5 => (if (100 : Int32) < y5 then some (false) else (if (bI (fX8_isObject S y4)) = 0 then some (false) else (if y4 = y3 then some (true) else (fX8_comes_L n S y1 y2 y3 (fX8_link S y4 y2) (y5 + (1 : Int32))))))
def fX8_comes (S : XS) (x1 : Int32) (x2 : Int32) (x3 : Int32) : Option Bool := (fX8_comes_L 102 S x1 x2 x3 x1 (0 : Int32))
set_option maxRecDepth 100000 in
set_option maxHeartbeats 4000000 in
theorem c_X8_comes (l : Launch) (D : va_G) (k : Nat → ClassId) (a : Nat → Nat) (S : XS) (x1 : Int32) (x2 : Int32) (x3 : Int32) (u : Bool) (h : fX8_comes S x1 x2 x3 = some u) : Rd noE l D (tyk k) (wM k a S) yX8_comes cX8_comes 6 (some .boolean) (rmm 3 64) [.ref (a 0), .int x1, .int x2, .int x3] (bI u) := by
  refine rd_start (by decide) (Nat.le_of_ble_eq_true rfl) ?_
  intro p e s m below meth c C hr hlocks hP hE0 ls hl
  have hl : lv_has ls 6 [(0, .ref (a 0)), (1, .int x1), (2, .int x2), (3, .int x3)] := hl
  obtain ⟨⟨hx, hb, hml, hown, hts⟩, hK⟩ := id C
  have L : ∀ n : Nat, ∀ (y1 : Int32) (y2 : Int32) (y3 : Int32) (y4 : Int32) (y5 : Int32) (ls : Array Slot), lv_has ls 6 [(0, .ref (a 0)), (1, .int y1), (2, .int y2), (3, .int y3), (4, .int y4), (5, .int y5)] → fX8_comes_L n S y1 y2 y3 y4 y5 = some u → W p l e (rmm 3 64) s m ([.ref (a 0), .int x1, .int x2, .int x3] : List Value).toArray below meth c s.heap [] 0 0 (MQ below (QcRead (bI u)) ([.ref (a 0), .int x1, .int x2, .int x3] : List Value).toArray s 0 0 (fun _ => False)) (F0 m 6 ls []) := by
    intro n
    induction n with
    | zero => intro y1 y2 y3 y4 y5 ls hl h; cases h
    | succ n ih =>
      intro y1 y2 y3 y4 y5 ls hl h
      rw [fX8_comes_L] at h
      refine lv_iload hx hb dX8_comes_6 (lv_at hl 5 rfl) ?_
      refine lv_bipush (v := (100 : Int32)) hx hb dX8_comes_8 (by decide) ?_
      refine lv_icmp_gt (tgt := 45) hx hb dX8_comes_10 (by decide) (fun c1 => ?_) (fun c1 => ?_)
      · rw [if_pos c1] at h
        refine lv_iconst (v := (0 : Int32)) hx hb dX8_comes_45 (by decide) ?_
        rw [← Option.some.inj h]
        exact rd_zret (v := false) C hr hlocks dX8_comes_46
      · rw [if_neg c1] at h
        refine lv_aload_n hx hb dX8_comes_13 rfl (lv_at hl 0 rfl) ?_
        refine lv_iload hx hb dX8_comes_14 (lv_at hl 4 rfl) ?_
        refine rdV noE_est C hP hE0 (c_X8_isObject l D k a _ y4) my_X8_isObject ml_X8_66 (rM0 C hP) rfl hl.1 (rest := []) rfl (Nat.le_of_ble_eq_true rfl) ⟨rfl, rfl, Nat.le_of_ble_eq_true rfl, Nat.le_of_ble_eq_true rfl⟩ ⟨Nat.zero_le _, Nat.zero_le _⟩ dX8_comes_16 ?_
        refine lv_if_eq (tgt := 45) hx hb dX8_comes_19 (by decide) (fun c2 => ?_) (fun c2 => ?_)
        · rw [if_pos c2] at h
          refine lv_iconst (v := (0 : Int32)) hx hb dX8_comes_45 (by decide) ?_
          rw [← Option.some.inj h]
          exact rd_zret (v := false) C hr hlocks dX8_comes_46
        · rw [if_neg c2] at h
          refine lv_iload hx hb dX8_comes_22 (lv_at hl 4 rfl) ?_
          refine lv_iload_n hx hb dX8_comes_24 rfl (lv_at hl 3 rfl) ?_
          refine lv_icmp_ne (tgt := 30) hx hb dX8_comes_25 (by decide) (fun c3 => ?_) (fun c3 => ?_)
          · rw [if_neg c3] at h
            refine lv_aload_n hx hb dX8_comes_30 rfl (lv_at hl 0 rfl) ?_
            refine lv_iload hx hb dX8_comes_31 (lv_at hl 4 rfl) ?_
            refine lv_iload_n hx hb dX8_comes_33 rfl (lv_at hl 2 rfl) ?_
            refine rdV noE_est C hP hE0 (c_X8_link l D k a _ y4 y2) my_X8_link ml_X8_70 (rM0 C hP) rfl hl.1 (rest := []) rfl (Nat.le_of_ble_eq_true rfl) ⟨rfl, rfl, Nat.le_of_ble_eq_true rfl, Nat.le_of_ble_eq_true rfl⟩ ⟨Nat.zero_le _, Nat.zero_le _⟩ dX8_comes_34 ?_
            refine lv_istore (lv' := [(4, .int (fX8_link S y4 y2)), (0, .ref (a 0)), (1, .int y1), (2, .int y2), (3, .int y3), (5, .int y5)]) hx hb dX8_comes_37 hl (by decide) rfl (fun ls hl => ?_)
            refine lv_iinc (v := (y5 + (1 : Int32))) (lv' := [(5, .int (y5 + (1 : Int32))), (4, .int (fX8_link S y4 y2)), (0, .ref (a 0)), (1, .int y1), (2, .int y2), (3, .int y3)]) hx hb dX8_comes_39 hl (k := 5) rfl rfl (by decide) rfl (fun ls hl => ?_)
            refine lv_goto (tgt := 6) hx hb dX8_comes_42 (by decide) ?_
            exact ih _ _ _ _ _ ls (lv_sub hl [2, 3, 4, 5, 1, 0] rfl) h
          · rw [if_pos c3] at h
            refine lv_iconst (v := (1 : Int32)) hx hb dX8_comes_28 (by decide) ?_
            rw [← Option.some.inj h]
            exact rd_zret (v := true) C hr hlocks dX8_comes_29
  rw [fX8_comes] at h
  refine lv_iload_n hx hb dX8_comes_0 rfl (lv_at hl 1 rfl) ?_
  refine lv_istore (lv' := [(4, .int x1), (0, .ref (a 0)), (1, .int x1), (2, .int x2), (3, .int x3)]) hx hb dX8_comes_1 hl (by decide) rfl (fun ls hl => ?_)
  refine lv_iconst (v := (0 : Int32)) hx hb dX8_comes_3 (by decide) ?_
  refine lv_istore (lv' := [(5, .int (0 : Int32)), (4, .int x1), (0, .ref (a 0)), (1, .int x1), (2, .int x2), (3, .int x3)]) hx hb dX8_comes_4 hl (by decide) rfl (fun ls hl => ?_)
  exact L 102 _ _ _ _ _ ls (lv_sub hl [2, 3, 4, 5, 1, 0] rfl) h
def fX8_comesBack_L : Nat → XS → Int32 → Int32 → Int32 → Int32 → Option Bool
  | 0, _, _, _, _, _ => none
  | n + 1, S, y1, y2, y3, y4 => (if (100 : Int32) ≤ y4 then some (false) else (if (bI (fX8_isObject S y3)) = 0 then some (false) else (if y3 = y1 then some (true) else (fX8_comesBack_L n S y1 y2 (fX8_link S y3 y2) (y4 + (1 : Int32))))))
def fX8_comesBack (S : XS) (x1 : Int32) (x2 : Int32) : Option Bool := (fX8_comesBack_L 102 S x1 x2 (fX8_link S x1 x2) (0 : Int32))
set_option maxRecDepth 100000 in
set_option maxHeartbeats 4000000 in
theorem c_X8_comesBack (l : Launch) (D : va_G) (k : Nat → ClassId) (a : Nat → Nat) (S : XS) (x1 : Int32) (x2 : Int32) (u : Bool) (h : fX8_comesBack S x1 x2 = some u) : Rd noE l D (tyk k) (wM k a S) yX8_comesBack cX8_comesBack 5 (some .boolean) (rmm 3 64) [.ref (a 0), .int x1, .int x2] (bI u) := by
  refine rd_start (by decide) (Nat.le_of_ble_eq_true rfl) ?_
  intro p e s m below meth c C hr hlocks hP hE0 ls hl
  have hl : lv_has ls 5 [(0, .ref (a 0)), (1, .int x1), (2, .int x2)] := hl
  obtain ⟨⟨hx, hb, hml, hown, hts⟩, hK⟩ := id C
  have L : ∀ n : Nat, ∀ (y1 : Int32) (y2 : Int32) (y3 : Int32) (y4 : Int32) (ls : Array Slot), lv_has ls 5 [(0, .ref (a 0)), (1, .int y1), (2, .int y2), (3, .int y3), (4, .int y4)] → fX8_comesBack_L n S y1 y2 y3 y4 = some u → W p l e (rmm 3 64) s m ([.ref (a 0), .int x1, .int x2] : List Value).toArray below meth c s.heap [] 0 0 (MQ below (QcRead (bI u)) ([.ref (a 0), .int x1, .int x2] : List Value).toArray s 0 0 (fun _ => False)) (F0 m 10 ls []) := by
    intro n
    induction n with
    | zero => intro y1 y2 y3 y4 ls hl h; cases h
    | succ n ih =>
      intro y1 y2 y3 y4 ls hl h
      rw [fX8_comesBack_L] at h
      refine lv_iload hx hb dX8_comesBack_10 (lv_at hl 4 rfl) ?_
      refine lv_bipush (v := (100 : Int32)) hx hb dX8_comesBack_12 (by decide) ?_
      refine lv_icmp_ge (tgt := 45) hx hb dX8_comesBack_14 (by decide) (fun c1 => ?_) (fun c1 => ?_)
      · rw [if_pos c1] at h
        refine lv_iconst (v := (0 : Int32)) hx hb dX8_comesBack_45 (by decide) ?_
        rw [← Option.some.inj h]
        exact rd_zret (v := false) C hr hlocks dX8_comesBack_46
      · rw [if_neg c1] at h
        refine lv_aload_n hx hb dX8_comesBack_17 rfl (lv_at hl 0 rfl) ?_
        refine lv_iload_n hx hb dX8_comesBack_18 rfl (lv_at hl 3 rfl) ?_
        refine rdV noE_est C hP hE0 (c_X8_isObject l D k a _ y3) my_X8_isObject ml_X8_66 (rM0 C hP) rfl hl.1 (rest := []) rfl (Nat.le_of_ble_eq_true rfl) ⟨rfl, rfl, Nat.le_of_ble_eq_true rfl, Nat.le_of_ble_eq_true rfl⟩ ⟨Nat.zero_le _, Nat.zero_le _⟩ dX8_comesBack_19 ?_
        refine lv_if_eq (tgt := 45) hx hb dX8_comesBack_22 (by decide) (fun c2 => ?_) (fun c2 => ?_)
        · rw [if_pos c2] at h
          refine lv_iconst (v := (0 : Int32)) hx hb dX8_comesBack_45 (by decide) ?_
          rw [← Option.some.inj h]
          exact rd_zret (v := false) C hr hlocks dX8_comesBack_46
        · rw [if_neg c2] at h
          refine lv_iload_n hx hb dX8_comesBack_25 rfl (lv_at hl 3 rfl) ?_
          refine lv_iload_n hx hb dX8_comesBack_26 rfl (lv_at hl 1 rfl) ?_
          refine lv_icmp_ne (tgt := 32) hx hb dX8_comesBack_27 (by decide) (fun c3 => ?_) (fun c3 => ?_)
          · rw [if_neg c3] at h
            refine lv_aload_n hx hb dX8_comesBack_32 rfl (lv_at hl 0 rfl) ?_
            refine lv_iload_n hx hb dX8_comesBack_33 rfl (lv_at hl 3 rfl) ?_
            refine lv_iload_n hx hb dX8_comesBack_34 rfl (lv_at hl 2 rfl) ?_
            refine rdV noE_est C hP hE0 (c_X8_link l D k a _ y3 y2) my_X8_link ml_X8_70 (rM0 C hP) rfl hl.1 (rest := []) rfl (Nat.le_of_ble_eq_true rfl) ⟨rfl, rfl, Nat.le_of_ble_eq_true rfl, Nat.le_of_ble_eq_true rfl⟩ ⟨Nat.zero_le _, Nat.zero_le _⟩ dX8_comesBack_35 ?_
            refine lv_istore_n (lv' := [(3, .int (fX8_link S y3 y2)), (0, .ref (a 0)), (1, .int y1), (2, .int y2), (4, .int y4)]) hx hb dX8_comesBack_38 rfl hl (by decide) rfl (fun ls hl => ?_)
            refine lv_iinc (v := (y4 + (1 : Int32))) (lv' := [(4, .int (y4 + (1 : Int32))), (3, .int (fX8_link S y3 y2)), (0, .ref (a 0)), (1, .int y1), (2, .int y2)]) hx hb dX8_comesBack_39 hl (k := 4) rfl rfl (by decide) rfl (fun ls hl => ?_)
            refine lv_goto (tgt := 10) hx hb dX8_comesBack_42 (by decide) ?_
            exact ih _ _ _ _ ls (lv_sub hl [2, 3, 4, 1, 0] rfl) h
          · rw [if_pos c3] at h
            refine lv_iconst (v := (1 : Int32)) hx hb dX8_comesBack_30 (by decide) ?_
            rw [← Option.some.inj h]
            exact rd_zret (v := true) C hr hlocks dX8_comesBack_31
  rw [fX8_comesBack] at h
  refine lv_aload_n hx hb dX8_comesBack_0 rfl (lv_at hl 0 rfl) ?_
  refine lv_iload_n hx hb dX8_comesBack_1 rfl (lv_at hl 1 rfl) ?_
  refine lv_iload_n hx hb dX8_comesBack_2 rfl (lv_at hl 2 rfl) ?_
  refine rdV noE_est C hP hE0 (c_X8_link l D k a _ x1 x2) my_X8_link ml_X8_70 (rM0 C hP) rfl hl.1 (rest := []) rfl (Nat.le_of_ble_eq_true rfl) ⟨rfl, rfl, Nat.le_of_ble_eq_true rfl, Nat.le_of_ble_eq_true rfl⟩ ⟨Nat.zero_le _, Nat.zero_le _⟩ dX8_comesBack_3 ?_
  refine lv_istore_n (lv' := [(3, .int (fX8_link S x1 x2)), (0, .ref (a 0)), (1, .int x1), (2, .int x2)]) hx hb dX8_comesBack_6 rfl hl (by decide) rfl (fun ls hl => ?_)
  refine lv_iconst (v := (0 : Int32)) hx hb dX8_comesBack_7 (by decide) ?_
  refine lv_istore (lv' := [(4, .int (0 : Int32)), (3, .int (fX8_link S x1 x2)), (0, .ref (a 0)), (1, .int x1), (2, .int x2)]) hx hb dX8_comesBack_8 hl (by decide) rfl (fun ls hl => ?_)
  exact L 102 _ _ _ _ ls (lv_sub hl [2, 3, 4, 1, 0] rfl) h
def fX8_type_L : Nat → XS → Int64 → Int32 → Int32 → Option (Int32 × XS)
  | 0, _, _, _, _ => none
  | n + 1, S, y1, y3, y4 => (if y4 < 0 then some ((S.1 5), S) else (ob (gd (S.1 5) 250) (fun _ => (fX8_type_L n (pS (pA S 1 (S.1 5) (((y1 >>> (((8 : Int32) * y4).toInt64 &&& 63)).toInt32) &&& (255 : Int32))) 5 ((S.1 5) + (1 : Int32))) y1 y3 (y4 + (-1 : Int32))))))
def fX8_type (S : XS) (x1 : Int64) (x3 : Int32) : Option (Int32 × XS) := (if x3 < 0 then some ((-2 : Int32), S) else (if x3 ≤ (8 : Int32) then (if x3 = 0 then some ((0 : Int32), (pS S 5 (0 : Int32))) else (if ((S.1 5) + x3) ≤ (250 : Int32) then (fX8_type_L 10 S x1 x3 (x3 - (1 : Int32))) else some ((-4 : Int32), S))) else some ((-2 : Int32), S)))
set_option maxRecDepth 100000 in
set_option maxHeartbeats 4000000 in
theorem c_X8_type (l : Launch) (D : va_G) (k : Nat → ClassId) (a : Nat → Nat) (S : XS) (x1 : Int64) (x3 : Int32) (u : Int32 × XS) (h : fX8_type S x1 x3 = some u) : Wr noE l D (tyk k) (wM k a S) (wM k a u.2) yX8_type cX8_type 5 (some .int) (rmm 0 0) [.ref (a 0), .long x1, .int x3] (some (.int u.1)) := by
  refine wr_start (by decide) (Nat.le_of_ble_eq_true rfl) ?_
  intro p e s m below meth c A C hr hlocks hP hD0 hA hE0 ls hl
  have hDA : ∀ S, va_D A (wM k a S) := wM_D hD0
  have hS : va_S A s.heap s.heap [] := va_S.rf
  have hl : lv_has ls 5 [(0, .ref (a 0)), (1, .long x1), (3, .int x3)] := hl
  obtain ⟨⟨hx, hb, hml, hown, hts⟩, hK⟩ := id C
  have L : ∀ n : Nat, ∀ (S : XS) (y1 : Int64) (y3 : Int32) (y4 : Int32) (H : Heap) (locs : List Loc) (ls : Array Slot), va_P D vwCl (wM k a S) H → va_S A s.heap H locs → lv_has ls 5 [(0, .ref (a 0)), (1, .long y1), (3, .int y3), (4, .int y4)] → fX8_type_L n S y1 y3 y4 = some u → W p l e (rmm 0 0) s m ([.ref (a 0), .long x1, .int x3] : List Value).toArray below meth c H locs 0 0 (MQ below (Qw D (wM k a u.2) (some (.int u.1)) A) ([.ref (a 0), .long x1, .int x3] : List Value).toArray s 0 0 A) (F0 m 44 ls []) := by
    intro n
    induction n with
    | zero => intro S y1 y3 y4 H locs ls hP hS hl h; cases h
    | succ n ih =>
      intro S y1 y3 y4 H locs ls hP hS hl h
      rw [fX8_type_L] at h
      refine lv_iload hx hb dX8_type_44 (lv_at hl 3 rfl) ?_
      refine lv_if_lt (tgt := 86) hx hb dX8_type_46 (by decide) (fun c5 => ?_) (fun c5 => ?_)
      · rw [if_pos c5] at h
        refine lv_aload_n hx hb dX8_type_86 rfl (lv_at hl 0 rfl) ?_
        refine gM0_typed C hP fl_X8_74 dX8_type_87 (v := (S.1 5)) rfl ?_
        rw [← Option.some.inj h]
        exact wrM_iret C hr hlocks hP hS dX8_type_90
      · rw [if_neg c5] at h
        refine lv_aload_n hx hb dX8_type_49 rfl (lv_at hl 0 rfl) ?_
        refine gM0_row C hP fl_X8_13 dX8_type_50 ?_
        refine lv_aload_n hx hb dX8_type_53 rfl (lv_at hl 0 rfl) ?_
        refine gM0_typed C hP fl_X8_74 dX8_type_54 (v := (S.1 5)) rfl ?_
        refine lv_lload_n hx hb dX8_type_57 rfl (lv_at hl 1 rfl) ?_
        refine lv_bipush (v := (8 : Int32)) hx hb dX8_type_58 (by decide) ?_
        refine lv_iload hx hb dX8_type_60 (lv_at hl 3 rfl) ?_
        refine lv_imul hx hb dX8_type_62 ?_
        refine lv_lshr hx hb dX8_type_63 rfl ?_
        refine lv_l2i hx hb dX8_type_64 rfl ?_
        refine lv_sipush (v := (255 : Int32)) hx hb dX8_type_65 (by decide) ?_
        refine lv_iand hx hb dX8_type_68 ?_
        obtain ⟨_, hg, h⟩ := ob_some h
        refine sM2 C hP (hDA _) hS (gd_in hg) dX8_type_69 (fun H locs hP hS => ?_)
        refine lv_aload_n hx hb dX8_type_70 rfl (lv_at hl 0 rfl) ?_
        refine lv_dup hx hb dX8_type_71 rfl ?_
        refine gM0_typed C hP fl_X8_74 dX8_type_72 (v := (S.1 5)) rfl ?_
        refine lv_iconst (v := (1 : Int32)) hx hb dX8_type_75 (by decide) ?_
        refine lv_iadd hx hb dX8_type_76 ?_
        refine pM0_typed C hP (hDA _) hS fl_X8_74 dX8_type_77 (fun H locs hP hS => ?_)
        refine lv_iinc (v := (y4 + (-1 : Int32))) (lv' := [(4, .int (y4 + (-1 : Int32))), (0, .ref (a 0)), (1, .long y1), (3, .int y3)]) hx hb dX8_type_80 hl (k := 3) rfl rfl (by decide) rfl (fun ls hl => ?_)
        refine lv_goto (tgt := 44) hx hb dX8_type_83 (by decide) ?_
        exact ih _ _ _ _ _ _ ls hP hS (lv_sub hl [1, 2, 3, 0] rfl) h
  rw [fX8_type] at h
  refine lv_iload_n hx hb dX8_type_0 rfl (lv_at hl 2 rfl) ?_
  refine lv_if_lt (tgt := 10) hx hb dX8_type_1 (by decide) (fun c1 => ?_) (fun c1 => ?_)
  · rw [if_pos c1] at h
    refine lv_bipush (v := (-2 : Int32)) hx hb dX8_type_10 (by decide) ?_
    rw [← Option.some.inj h]
    exact wrM_iret C hr hlocks hP hS dX8_type_12
  · rw [if_neg c1] at h
    refine lv_iload_n hx hb dX8_type_4 rfl (lv_at hl 2 rfl) ?_
    refine lv_bipush (v := (8 : Int32)) hx hb dX8_type_5 (by decide) ?_
    refine lv_icmp_le (tgt := 13) hx hb dX8_type_7 (by decide) (fun c2 => ?_) (fun c2 => ?_)
    · rw [if_pos c2] at h
      refine lv_iload_n hx hb dX8_type_13 rfl (lv_at hl 2 rfl) ?_
      refine lv_if_ne (tgt := 24) hx hb dX8_type_14 (by decide) (fun c3 => ?_) (fun c3 => ?_)
      · rw [if_neg c3] at h
        refine lv_aload_n hx hb dX8_type_24 rfl (lv_at hl 0 rfl) ?_
        refine gM0_typed C hP fl_X8_74 dX8_type_25 (v := (S.1 5)) rfl ?_
        refine lv_iload_n hx hb dX8_type_28 rfl (lv_at hl 2 rfl) ?_
        refine lv_iadd hx hb dX8_type_29 ?_
        refine lv_sipush (v := (250 : Int32)) hx hb dX8_type_30 (by decide) ?_
        refine lv_icmp_le (tgt := 39) hx hb dX8_type_33 (by decide) (fun c4 => ?_) (fun c4 => ?_)
        · rw [if_pos c4] at h
          refine lv_iload_n hx hb dX8_type_39 rfl (lv_at hl 2 rfl) ?_
          refine lv_iconst (v := (1 : Int32)) hx hb dX8_type_40 (by decide) ?_
          refine lv_isub hx hb dX8_type_41 ?_
          refine lv_istore (lv' := [(4, .int (x3 - (1 : Int32))), (0, .ref (a 0)), (1, .long x1), (3, .int x3)]) hx hb dX8_type_42 hl (by decide) rfl (fun ls hl => ?_)
          exact L 10 _ _ _ _ _ _ ls hP hS (lv_sub hl [1, 2, 3, 0] rfl) h
        · rw [if_neg c4] at h
          refine lv_bipush (v := (-4 : Int32)) hx hb dX8_type_36 (by decide) ?_
          rw [← Option.some.inj h]
          exact wrM_iret C hr hlocks hP hS dX8_type_38
      · rw [if_pos c3] at h
        refine lv_aload_n hx hb dX8_type_17 rfl (lv_at hl 0 rfl) ?_
        refine lv_iconst (v := (0 : Int32)) hx hb dX8_type_18 (by decide) ?_
        refine pM0_typed C hP (hDA _) hS fl_X8_74 dX8_type_19 (fun H locs hP hS => ?_)
        refine lv_iconst (v := (0 : Int32)) hx hb dX8_type_22 (by decide) ?_
        rw [← Option.some.inj h]
        exact wrM_iret C hr hlocks hP hS dX8_type_23
    · rw [if_neg c2] at h
      refine lv_bipush (v := (-2 : Int32)) hx hb dX8_type_10 (by decide) ?_
      rw [← Option.some.inj h]
      exact wrM_iret C hr hlocks hP hS dX8_type_12
def fX8_object_L : Nat → Nat → XS → Int32 → Int32 → Option (Int32 × XS)
  | 0, _, _, _, _ => none
  | n + 1, b, S, y1, y2 => if b = 48 then (if (S.1 2) = 0 then (if (9 : Int32) ≤ y2 then (fX8_object_L n 98 (fX8_setWord S (fX8_tableAt S (S.1 7)) (S.1 6)) y1 (0 : Int32)) else (fX8_object_L n 48 (fX8_set S (y1 + y2) (0 : Int32)) y1 (y2 + (1 : Int32)))) else (if (14 : Int32) ≤ y2 then (fX8_object_L n 98 (fX8_setWord S (fX8_tableAt S (S.1 7)) (S.1 6)) y1 (0 : Int32)) else (fX8_object_L n 48 (fX8_set S (y1 + y2) (0 : Int32)) y1 (y2 + (1 : Int32))))) else (if (S.1 5) ≤ y2 then some ((S.1 7), (pS (pS S 6 ((S.1 6) + (S.1 5))) 5 (0 : Int32))) else (ob (gd y2 250) (fun _ => (fX8_object_L n 98 (fX8_set S ((S.1 6) + y2) (S.2 1 y2.toNatClampNeg)) y1 (y2 + (1 : Int32))))))
def fX8_object (S : XS)  : Option (Int32 × XS) := (if (S.1 7) = (100 : Int32) then some ((-4 : Int32), S) else (if ((S.1 6) + (S.1 5)) ≤ (4096 : Int32) then (fX8_object_L 300 48 (pS S 7 ((S.1 7) + (1 : Int32))) (fX8_entry (pS S 7 ((S.1 7) + (1 : Int32))) ((S.1 7) + (1 : Int32))) (0 : Int32)) else some ((-4 : Int32), S)))
set_option maxRecDepth 100000 in
set_option maxHeartbeats 4000000 in
theorem c_X8_object (l : Launch) (D : va_G) (k : Nat → ClassId) (a : Nat → Nat) (S : XS)  (u : Int32 × XS) (h : fX8_object S = some u) : Wr noE l D (tyk k) (wM k a S) (wM k a u.2) yX8_object cX8_object 3 (some .int) (rmm 2 44) [.ref (a 0)] (some (.int u.1)) := by
  refine wr_start (by decide) (Nat.le_of_ble_eq_true rfl) ?_
  intro p e s m below meth c A C hr hlocks hP hD0 hA hE0 ls hl
  have hDA : ∀ S, va_D A (wM k a S) := wM_D hD0
  have hS : va_S A s.heap s.heap [] := va_S.rf
  have hl : lv_has ls 3 [(0, .ref (a 0))] := hl
  obtain ⟨⟨hx, hb, hml, hown, hts⟩, hK⟩ := id C
  have L : ∀ n : Nat, (∀ (S : XS) (y1 : Int32) (y2 : Int32) (H : Heap) (locs : List Loc) (ls : Array Slot), va_P D vwCl (wM k a S) H → va_S A s.heap H locs → lv_has ls 3 [(0, .ref (a 0)), (1, .int y1), (2, .int y2)] → fX8_object_L n 48 S y1 y2 = some u → W p l e (rmm 2 44) s m ([.ref (a 0)] : List Value).toArray below meth c H locs 0 0 (MQ below (Qw D (wM k a u.2) (some (.int u.1)) A) ([.ref (a 0)] : List Value).toArray s 0 0 A) (F0 m 48 ls [])) ∧ (∀ (S : XS) (y1 : Int32) (y2 : Int32) (H : Heap) (locs : List Loc) (ls : Array Slot), va_P D vwCl (wM k a S) H → va_S A s.heap H locs → lv_has ls 3 [(0, .ref (a 0)), (1, .int y1), (2, .int y2)] → fX8_object_L n 98 S y1 y2 = some u → W p l e (rmm 2 44) s m ([.ref (a 0)] : List Value).toArray below meth c H locs 0 0 (MQ below (Qw D (wM k a u.2) (some (.int u.1)) A) ([.ref (a 0)] : List Value).toArray s 0 0 A) (F0 m 98 ls [])) := by
    intro n
    induction n with
    | zero => exact ⟨(by intro S y1 y2 H locs ls hP hS hl h; cases h), (by intro S y1 y2 H locs ls hP hS hl h; cases h)⟩
    | succ n ih =>
      refine ⟨?_, ?_⟩
      · intro S y1 y2 H locs ls hP hS hl h
        rw [fX8_object_L] at h
        rw [if_pos rfl] at h
        refine lv_iload_n hx hb dX8_object_48 rfl (lv_at hl 2 rfl) ?_
        refine lv_aload_n hx hb dX8_object_49 rfl (lv_at hl 0 rfl) ?_
        refine gM0_wide C hP fl_X8_39 dX8_object_50 (v := (S.1 2)) rfl ?_
        refine lv_if_eq (tgt := 61) hx hb dX8_object_53 (by decide) (fun c3 => ?_) (fun c3 => ?_)
        · rw [if_pos c3] at h
          refine lv_bipush (v := (9 : Int32)) hx hb dX8_object_61 (by decide) ?_
          refine lv_icmp_ge (tgt := 80) hx hb dX8_object_63 (by decide) (fun c4 => ?_) (fun c4 => ?_)
          · rw [if_pos c4] at h
            refine lv_aload_n hx hb dX8_object_80 rfl (lv_at hl 0 rfl) ?_
            refine lv_aload_n hx hb dX8_object_81 rfl (lv_at hl 0 rfl) ?_
            refine lv_aload_n hx hb dX8_object_82 rfl (lv_at hl 0 rfl) ?_
            refine gM0_objects C hP fl_X8_63 dX8_object_83 (v := (S.1 7)) rfl ?_
            refine rdV noE_est C hP (ef noE_est hS hE0) (c_X8_tableAt l D k a _ (S.1 7)) my_X8_tableAt ml_X8_77 (rM0 C hP) rfl hl.1 (rest := [.ref (a 0)]) rfl (Nat.le_of_ble_eq_true rfl) ⟨rfl, rfl, Nat.le_of_ble_eq_true rfl, Nat.le_of_ble_eq_true rfl⟩ ⟨Nat.zero_le _, Nat.zero_le _⟩ dX8_object_86 ?_
            refine lv_aload_n hx hb dX8_object_89 rfl (lv_at hl 0 rfl) ?_
            refine gM0_top C hP fl_X8_16 dX8_object_90 (v := (S.1 6)) rfl ?_
            refine wrV noE_est C hP (hDA _) hA hS hE0 (c_X8_setWord l D k a _ (fX8_tableAt S (S.1 7)) (S.1 6)) my_X8_setWord ml_X8_60 (rM0 C hP) rfl hl.1 (rest := []) rfl (Nat.le_of_ble_eq_true rfl) ⟨rfl, rfl, Nat.le_of_ble_eq_true rfl, Nat.le_of_ble_eq_true rfl⟩ ⟨Nat.zero_le _, Nat.zero_le _⟩ dX8_object_93 (fun H locs hP hS _ _ => ?_)
            refine lv_iconst (v := (0 : Int32)) hx hb dX8_object_96 (by decide) ?_
            refine lv_istore_n (lv' := [(2, .int (0 : Int32)), (0, .ref (a 0)), (1, .int y1)]) hx hb dX8_object_97 rfl hl (by decide) rfl (fun ls hl => ?_)
            exact (ih).2 _ _ _ _ _ ls hP hS (lv_sub hl [1, 2, 0] rfl) h
          · rw [if_neg c4] at h
            refine lv_aload_n hx hb dX8_object_66 rfl (lv_at hl 0 rfl) ?_
            refine lv_iload_n hx hb dX8_object_67 rfl (lv_at hl 1 rfl) ?_
            refine lv_iload_n hx hb dX8_object_68 rfl (lv_at hl 2 rfl) ?_
            refine lv_iadd hx hb dX8_object_69 ?_
            refine lv_iconst (v := (0 : Int32)) hx hb dX8_object_70 (by decide) ?_
            refine wrV noE_est C hP (hDA _) hA hS hE0 (c_X8_set l D k a _ (y1 + y2) (0 : Int32)) my_X8_set ml_X8_50 (rM0 C hP) rfl hl.1 (rest := []) rfl (Nat.le_of_ble_eq_true rfl) ⟨rfl, rfl, Nat.le_of_ble_eq_true rfl, Nat.le_of_ble_eq_true rfl⟩ ⟨Nat.zero_le _, Nat.zero_le _⟩ dX8_object_71 (fun H locs hP hS _ _ => ?_)
            refine lv_iinc (v := (y2 + (1 : Int32))) (lv' := [(2, .int (y2 + (1 : Int32))), (0, .ref (a 0)), (1, .int y1)]) hx hb dX8_object_74 hl (k := 2) rfl rfl (by decide) rfl (fun ls hl => ?_)
            refine lv_goto (tgt := 48) hx hb dX8_object_77 (by decide) ?_
            exact (ih).1 _ _ _ _ _ ls hP hS (lv_sub hl [1, 2, 0] rfl) h
        · rw [if_neg c3] at h
          refine lv_bipush (v := (14 : Int32)) hx hb dX8_object_56 (by decide) ?_
          refine lv_goto (tgt := 63) hx hb dX8_object_58 (by decide) ?_
          refine lv_icmp_ge (tgt := 80) hx hb dX8_object_63 (by decide) (fun c5 => ?_) (fun c5 => ?_)
          · rw [if_pos c5] at h
            refine lv_aload_n hx hb dX8_object_80 rfl (lv_at hl 0 rfl) ?_
            refine lv_aload_n hx hb dX8_object_81 rfl (lv_at hl 0 rfl) ?_
            refine lv_aload_n hx hb dX8_object_82 rfl (lv_at hl 0 rfl) ?_
            refine gM0_objects C hP fl_X8_63 dX8_object_83 (v := (S.1 7)) rfl ?_
            refine rdV noE_est C hP (ef noE_est hS hE0) (c_X8_tableAt l D k a _ (S.1 7)) my_X8_tableAt ml_X8_77 (rM0 C hP) rfl hl.1 (rest := [.ref (a 0)]) rfl (Nat.le_of_ble_eq_true rfl) ⟨rfl, rfl, Nat.le_of_ble_eq_true rfl, Nat.le_of_ble_eq_true rfl⟩ ⟨Nat.zero_le _, Nat.zero_le _⟩ dX8_object_86 ?_
            refine lv_aload_n hx hb dX8_object_89 rfl (lv_at hl 0 rfl) ?_
            refine gM0_top C hP fl_X8_16 dX8_object_90 (v := (S.1 6)) rfl ?_
            refine wrV noE_est C hP (hDA _) hA hS hE0 (c_X8_setWord l D k a _ (fX8_tableAt S (S.1 7)) (S.1 6)) my_X8_setWord ml_X8_60 (rM0 C hP) rfl hl.1 (rest := []) rfl (Nat.le_of_ble_eq_true rfl) ⟨rfl, rfl, Nat.le_of_ble_eq_true rfl, Nat.le_of_ble_eq_true rfl⟩ ⟨Nat.zero_le _, Nat.zero_le _⟩ dX8_object_93 (fun H locs hP hS _ _ => ?_)
            refine lv_iconst (v := (0 : Int32)) hx hb dX8_object_96 (by decide) ?_
            refine lv_istore_n (lv' := [(2, .int (0 : Int32)), (0, .ref (a 0)), (1, .int y1)]) hx hb dX8_object_97 rfl hl (by decide) rfl (fun ls hl => ?_)
            exact (ih).2 _ _ _ _ _ ls hP hS (lv_sub hl [1, 2, 0] rfl) h
          · rw [if_neg c5] at h
            refine lv_aload_n hx hb dX8_object_66 rfl (lv_at hl 0 rfl) ?_
            refine lv_iload_n hx hb dX8_object_67 rfl (lv_at hl 1 rfl) ?_
            refine lv_iload_n hx hb dX8_object_68 rfl (lv_at hl 2 rfl) ?_
            refine lv_iadd hx hb dX8_object_69 ?_
            refine lv_iconst (v := (0 : Int32)) hx hb dX8_object_70 (by decide) ?_
            refine wrV noE_est C hP (hDA _) hA hS hE0 (c_X8_set l D k a _ (y1 + y2) (0 : Int32)) my_X8_set ml_X8_50 (rM0 C hP) rfl hl.1 (rest := []) rfl (Nat.le_of_ble_eq_true rfl) ⟨rfl, rfl, Nat.le_of_ble_eq_true rfl, Nat.le_of_ble_eq_true rfl⟩ ⟨Nat.zero_le _, Nat.zero_le _⟩ dX8_object_71 (fun H locs hP hS _ _ => ?_)
            refine lv_iinc (v := (y2 + (1 : Int32))) (lv' := [(2, .int (y2 + (1 : Int32))), (0, .ref (a 0)), (1, .int y1)]) hx hb dX8_object_74 hl (k := 2) rfl rfl (by decide) rfl (fun ls hl => ?_)
            refine lv_goto (tgt := 48) hx hb dX8_object_77 (by decide) ?_
            exact (ih).1 _ _ _ _ _ ls hP hS (lv_sub hl [1, 2, 0] rfl) h
      · intro S y1 y2 H locs ls hP hS hl h
        rw [fX8_object_L] at h
        rw [if_neg (by decide)] at h
        refine lv_iload_n hx hb dX8_object_98 rfl (lv_at hl 2 rfl) ?_
        refine lv_aload_n hx hb dX8_object_99 rfl (lv_at hl 0 rfl) ?_
        refine gM0_typed C hP fl_X8_74 dX8_object_100 (v := (S.1 5)) rfl ?_
        refine lv_icmp_ge (tgt := 128) hx hb dX8_object_103 (by decide) (fun c6 => ?_) (fun c6 => ?_)
        · rw [if_pos c6] at h
          refine lv_aload_n hx hb dX8_object_128 rfl (lv_at hl 0 rfl) ?_
          refine lv_dup hx hb dX8_object_129 rfl ?_
          refine gM0_top C hP fl_X8_16 dX8_object_130 (v := (S.1 6)) rfl ?_
          refine lv_aload_n hx hb dX8_object_133 rfl (lv_at hl 0 rfl) ?_
          refine gM0_typed C hP fl_X8_74 dX8_object_134 (v := (S.1 5)) rfl ?_
          refine lv_iadd hx hb dX8_object_137 ?_
          refine pM0_top C hP (hDA _) hS fl_X8_16 dX8_object_138 (fun H locs hP hS => ?_)
          refine lv_aload_n hx hb dX8_object_141 rfl (lv_at hl 0 rfl) ?_
          refine lv_iconst (v := (0 : Int32)) hx hb dX8_object_142 (by decide) ?_
          refine pM0_typed C hP (hDA _) hS fl_X8_74 dX8_object_143 (fun H locs hP hS => ?_)
          refine lv_aload_n hx hb dX8_object_146 rfl (lv_at hl 0 rfl) ?_
          refine gM0_objects C hP fl_X8_63 dX8_object_147 (v := (S.1 7)) rfl ?_
          rw [← Option.some.inj h]
          exact wrM_iret C hr hlocks hP hS dX8_object_150
        · rw [if_neg c6] at h
          refine lv_aload_n hx hb dX8_object_106 rfl (lv_at hl 0 rfl) ?_
          refine lv_aload_n hx hb dX8_object_107 rfl (lv_at hl 0 rfl) ?_
          refine gM0_top C hP fl_X8_16 dX8_object_108 (v := (S.1 6)) rfl ?_
          refine lv_iload_n hx hb dX8_object_111 rfl (lv_at hl 2 rfl) ?_
          refine lv_iadd hx hb dX8_object_112 ?_
          refine lv_aload_n hx hb dX8_object_113 rfl (lv_at hl 0 rfl) ?_
          refine gM0_row C hP fl_X8_13 dX8_object_114 ?_
          refine lv_iload_n hx hb dX8_object_117 rfl (lv_at hl 2 rfl) ?_
          obtain ⟨_, hg, h⟩ := ob_some h
          refine aM2 C hP (gd_in hg) dX8_object_118 (v := (S.2 1 y2.toNatClampNeg)) rfl ?_
          refine wrV noE_est C hP (hDA _) hA hS hE0 (c_X8_set l D k a _ ((S.1 6) + y2) (S.2 1 y2.toNatClampNeg)) my_X8_set ml_X8_50 (rM0 C hP) rfl hl.1 (rest := []) rfl (Nat.le_of_ble_eq_true rfl) ⟨rfl, rfl, Nat.le_of_ble_eq_true rfl, Nat.le_of_ble_eq_true rfl⟩ ⟨Nat.zero_le _, Nat.zero_le _⟩ dX8_object_119 (fun H locs hP hS _ _ => ?_)
          refine lv_iinc (v := (y2 + (1 : Int32))) (lv' := [(2, .int (y2 + (1 : Int32))), (0, .ref (a 0)), (1, .int y1)]) hx hb dX8_object_122 hl (k := 2) rfl rfl (by decide) rfl (fun ls hl => ?_)
          refine lv_goto (tgt := 98) hx hb dX8_object_125 (by decide) ?_
          exact (ih).2 _ _ _ _ _ ls hP hS (lv_sub hl [1, 2, 0] rfl) h
  rw [fX8_object] at h
  refine lv_aload_n hx hb dX8_object_0 rfl (lv_at hl 0 rfl) ?_
  refine gM0_objects C hP fl_X8_63 dX8_object_1 (v := (S.1 7)) rfl ?_
  refine lv_bipush (v := (100 : Int32)) hx hb dX8_object_4 (by decide) ?_
  refine lv_icmp_eq (tgt := 24) hx hb dX8_object_6 (by decide) (fun c1 => ?_) (fun c1 => ?_)
  · rw [if_pos c1] at h
    refine lv_bipush (v := (-4 : Int32)) hx hb dX8_object_24 (by decide) ?_
    rw [← Option.some.inj h]
    exact wrM_iret C hr hlocks hP hS dX8_object_26
  · rw [if_neg c1] at h
    refine lv_aload_n hx hb dX8_object_9 rfl (lv_at hl 0 rfl) ?_
    refine gM0_top C hP fl_X8_16 dX8_object_10 (v := (S.1 6)) rfl ?_
    refine lv_aload_n hx hb dX8_object_13 rfl (lv_at hl 0 rfl) ?_
    refine gM0_typed C hP fl_X8_74 dX8_object_14 (v := (S.1 5)) rfl ?_
    refine lv_iadd hx hb dX8_object_17 ?_
    refine lv_sipush (v := (4096 : Int32)) hx hb dX8_object_18 (by decide) ?_
    refine lv_icmp_le (tgt := 27) hx hb dX8_object_21 (by decide) (fun c2 => ?_) (fun c2 => ?_)
    · rw [if_pos c2] at h
      refine lv_aload_n hx hb dX8_object_27 rfl (lv_at hl 0 rfl) ?_
      refine lv_dup hx hb dX8_object_28 rfl ?_
      refine gM0_objects C hP fl_X8_63 dX8_object_29 (v := (S.1 7)) rfl ?_
      refine lv_iconst (v := (1 : Int32)) hx hb dX8_object_32 (by decide) ?_
      refine lv_iadd hx hb dX8_object_33 ?_
      refine pM0_objects C hP (hDA _) hS fl_X8_63 dX8_object_34 (fun H locs hP hS => ?_)
      refine lv_aload_n hx hb dX8_object_37 rfl (lv_at hl 0 rfl) ?_
      refine lv_aload_n hx hb dX8_object_38 rfl (lv_at hl 0 rfl) ?_
      refine gM0_objects C hP fl_X8_63 dX8_object_39 (v := ((S.1 7) + (1 : Int32))) rfl ?_
      refine rdV noE_est C hP (ef noE_est hS hE0) (c_X8_entry l D k a _ ((S.1 7) + (1 : Int32))) my_X8_entry ml_X8_54 (rM0 C hP) rfl hl.1 (rest := []) rfl (Nat.le_of_ble_eq_true rfl) ⟨rfl, rfl, Nat.le_of_ble_eq_true rfl, Nat.le_of_ble_eq_true rfl⟩ ⟨Nat.zero_le _, Nat.zero_le _⟩ dX8_object_42 ?_
      refine lv_istore_n (lv' := [(1, .int (fX8_entry (pS S 7 ((S.1 7) + (1 : Int32))) ((S.1 7) + (1 : Int32)))), (0, .ref (a 0))]) hx hb dX8_object_45 rfl hl (by decide) rfl (fun ls hl => ?_)
      refine lv_iconst (v := (0 : Int32)) hx hb dX8_object_46 (by decide) ?_
      refine lv_istore_n (lv' := [(2, .int (0 : Int32)), (1, .int (fX8_entry (pS S 7 ((S.1 7) + (1 : Int32))) ((S.1 7) + (1 : Int32)))), (0, .ref (a 0))]) hx hb dX8_object_47 rfl hl (by decide) rfl (fun ls hl => ?_)
      exact (L 300).1 _ _ _ _ _ ls hP hS (lv_sub hl [2, 1, 0] rfl) h
    · rw [if_neg c2] at h
      refine lv_bipush (v := (-4 : Int32)) hx hb dX8_object_24 (by decide) ?_
      rw [← Option.some.inj h]
      exact wrM_iret C hr hlocks hP hS dX8_object_26
def fX8_count (S : XS)  : Int32 := (S.1 7)
set_option maxRecDepth 100000 in
set_option maxHeartbeats 4000000 in
theorem c_X8_count (l : Launch) (D : va_G) (k : Nat → ClassId) (a : Nat → Nat) (S : XS)  : Rd noE l D (tyk k) (wM k a S) yX8_count cX8_count 1 (some .int) (rmm 0 0) [.ref (a 0)] (fX8_count S) := by
  generalize h : fX8_count S = u
  refine rd_start (by decide) (Nat.le_of_ble_eq_true rfl) ?_
  intro p e s m below meth c C hr hlocks hP hE0 ls hl
  have hl : lv_has ls 1 [(0, .ref (a 0))] := hl
  obtain ⟨⟨hx, hb, hml, hown, hts⟩, hK⟩ := id C
  rw [fX8_count] at h
  refine lv_aload_n hx hb dX8_count_0 rfl (lv_at hl 0 rfl) ?_
  refine gM0_objects C hP fl_X8_63 dX8_count_1 (v := (S.1 7)) rfl ?_
  rw [← h]
  exact rd_iret C hr hlocks dX8_count_4
def fX8_peek (S : XS) (x1 : Int32) : Int32 := (if x1 < 0 then (-2 : Int32) else (if x1 < (4096 : Int32) then (S.2 0 x1.toNatClampNeg) else (-2 : Int32)))
set_option maxRecDepth 100000 in
set_option maxHeartbeats 4000000 in
theorem c_X8_peek (l : Launch) (D : va_G) (k : Nat → ClassId) (a : Nat → Nat) (S : XS) (x1 : Int32) : Rd noE l D (tyk k) (wM k a S) yX8_peek cX8_peek 2 (some .int) (rmm 0 0) [.ref (a 0), .int x1] (fX8_peek S x1) := by
  generalize h : fX8_peek S x1 = u
  refine rd_start (by decide) (Nat.le_of_ble_eq_true rfl) ?_
  intro p e s m below meth c C hr hlocks hP hE0 ls hl
  have hl : lv_has ls 2 [(0, .ref (a 0)), (1, .int x1)] := hl
  obtain ⟨⟨hx, hb, hml, hown, hts⟩, hK⟩ := id C
  rw [fX8_peek] at h
  refine lv_iload_n hx hb dX8_peek_0 rfl (lv_at hl 1 rfl) ?_
  refine lv_if_lt (tgt := 11) hx hb dX8_peek_1 (by decide) (fun c1 => ?_) (fun c1 => ?_)
  · rw [if_pos c1] at h
    refine lv_bipush (v := (-2 : Int32)) hx hb dX8_peek_11 (by decide) ?_
    refine lv_goto (tgt := 22) hx hb dX8_peek_13 (by decide) ?_
    rw [← h]
    exact rd_iret C hr hlocks dX8_peek_22
  · rw [if_neg c1] at h
    refine lv_iload_n hx hb dX8_peek_4 rfl (lv_at hl 1 rfl) ?_
    refine lv_sipush (v := (4096 : Int32)) hx hb dX8_peek_5 (by decide) ?_
    refine lv_icmp_lt (tgt := 16) hx hb dX8_peek_8 (by decide) (fun c2 => ?_) (fun c2 => ?_)
    · rw [if_pos c2] at h
      refine lv_aload_n hx hb dX8_peek_16 rfl (lv_at hl 0 rfl) ?_
      refine gM0_memory C hP fl_X8_7 dX8_peek_17 ?_
      refine lv_iload_n hx hb dX8_peek_20 rfl (lv_at hl 1 rfl) ?_
      refine aM1 C hP (in_cmp c1 (Int32.not_le.mpr c2)) dX8_peek_21 (v := (S.2 0 x1.toNatClampNeg)) rfl ?_
      rw [← h]
      exact rd_iret C hr hlocks dX8_peek_22
    · rw [if_neg c2] at h
      refine lv_bipush (v := (-2 : Int32)) hx hb dX8_peek_11 (by decide) ?_
      refine lv_goto (tgt := 22) hx hb dX8_peek_13 (by decide) ?_
      rw [← h]
      exact rd_iret C hr hlocks dX8_peek_22
def fX8_poke (S : XS) (x1 : Int32) (x2 : Int32) : Int32 × XS := (if x1 < 0 then ((-2 : Int32), S) else (if x1 < (4096 : Int32) then ((S.2 0 x1.toNatClampNeg), (pA S 0 x1 (x2 &&& (255 : Int32)))) else ((-2 : Int32), S)))
set_option maxRecDepth 100000 in
set_option maxHeartbeats 4000000 in
theorem c_X8_poke (l : Launch) (D : va_G) (k : Nat → ClassId) (a : Nat → Nat) (S : XS) (x1 : Int32) (x2 : Int32) : Wr noE l D (tyk k) (wM k a S) (wM k a (fX8_poke S x1 x2).2) yX8_poke cX8_poke 4 (some .int) (rmm 0 0) [.ref (a 0), .int x1, .int x2] (some (.int (fX8_poke S x1 x2).1)) := by
  generalize h : fX8_poke S x1 x2 = u
  refine wr_start (by decide) (Nat.le_of_ble_eq_true rfl) ?_
  intro p e s m below meth c A C hr hlocks hP hD0 hA hE0 ls hl
  have hDA : ∀ S, va_D A (wM k a S) := wM_D hD0
  have hS : va_S A s.heap s.heap [] := va_S.rf
  have hl : lv_has ls 4 [(0, .ref (a 0)), (1, .int x1), (2, .int x2)] := hl
  obtain ⟨⟨hx, hb, hml, hown, hts⟩, hK⟩ := id C
  rw [fX8_poke] at h
  refine lv_iload_n hx hb dX8_poke_0 rfl (lv_at hl 1 rfl) ?_
  refine lv_if_lt (tgt := 11) hx hb dX8_poke_1 (by decide) (fun c1 => ?_) (fun c1 => ?_)
  · rw [if_pos c1] at h
    refine lv_bipush (v := (-2 : Int32)) hx hb dX8_poke_11 (by decide) ?_
    rw [← h]
    exact wrM_iret C hr hlocks hP hS dX8_poke_13
  · rw [if_neg c1] at h
    refine lv_iload_n hx hb dX8_poke_4 rfl (lv_at hl 1 rfl) ?_
    refine lv_sipush (v := (4096 : Int32)) hx hb dX8_poke_5 (by decide) ?_
    refine lv_icmp_lt (tgt := 14) hx hb dX8_poke_8 (by decide) (fun c2 => ?_) (fun c2 => ?_)
    · rw [if_pos c2] at h
      refine lv_aload_n hx hb dX8_poke_14 rfl (lv_at hl 0 rfl) ?_
      refine gM0_memory C hP fl_X8_7 dX8_poke_15 ?_
      refine lv_iload_n hx hb dX8_poke_18 rfl (lv_at hl 1 rfl) ?_
      refine aM1 C hP (in_cmp c1 (Int32.not_le.mpr c2)) dX8_poke_19 (v := (S.2 0 x1.toNatClampNeg)) rfl ?_
      refine lv_istore_n (lv' := [(3, .int (S.2 0 x1.toNatClampNeg)), (0, .ref (a 0)), (1, .int x1), (2, .int x2)]) hx hb dX8_poke_20 rfl hl (by decide) rfl (fun ls hl => ?_)
      refine lv_aload_n hx hb dX8_poke_21 rfl (lv_at hl 1 rfl) ?_
      refine gM0_memory C hP fl_X8_7 dX8_poke_22 ?_
      refine lv_iload_n hx hb dX8_poke_25 rfl (lv_at hl 2 rfl) ?_
      refine lv_iload_n hx hb dX8_poke_26 rfl (lv_at hl 3 rfl) ?_
      refine lv_sipush (v := (255 : Int32)) hx hb dX8_poke_27 (by decide) ?_
      refine lv_iand hx hb dX8_poke_30 ?_
      refine sM1 C hP (hDA _) hS (in_cmp c1 (Int32.not_le.mpr c2)) dX8_poke_31 (fun H locs hP hS => ?_)
      refine lv_iload_n hx hb dX8_poke_32 rfl (lv_at hl 0 rfl) ?_
      rw [← h]
      exact wrM_iret C hr hlocks hP hS dX8_poke_33
    · rw [if_neg c2] at h
      refine lv_bipush (v := (-2 : Int32)) hx hb dX8_poke_11 (by decide) ?_
      rw [← h]
      exact wrM_iret C hr hlocks hP hS dX8_poke_13
def fX8_strict (S : XS) (x1 : Bool) : Option (Int32 × XS) := (ob (gz (S.1 8)) (fun _ => some ((S.1 8), (pS S 8 (bI x1)))))
set_option maxRecDepth 100000 in
set_option maxHeartbeats 4000000 in
theorem c_X8_strict (l : Launch) (D : va_G) (k : Nat → ClassId) (a : Nat → Nat) (S : XS) (x1 : Bool) (u : Int32 × XS) (h : fX8_strict S x1 = some u) : Wr noE l D (tyk k) (wM k a S) (wM k a u.2) yX8_strict cX8_strict 3 (some .boolean) (rmm 0 0) [.ref (a 0), .int (bI x1)] (some (.int u.1)) := by
  refine wr_start (by decide) (Nat.le_of_ble_eq_true rfl) ?_
  intro p e s m below meth c A C hr hlocks hP hD0 hA hE0 ls hl
  have hDA : ∀ S, va_D A (wM k a S) := wM_D hD0
  have hS : va_S A s.heap s.heap [] := va_S.rf
  have hl : lv_has ls 3 [(0, .ref (a 0)), (1, .int (bI x1))] := hl
  obtain ⟨⟨hx, hb, hml, hown, hts⟩, hK⟩ := id C
  rw [fX8_strict] at h
  refine lv_aload_n hx hb dX8_strict_0 rfl (lv_at hl 0 rfl) ?_
  refine gM0_strict C hP fl_X8_80 dX8_strict_1 (v := (S.1 8)) rfl ?_
  refine lv_istore_n (lv' := [(2, .int (S.1 8)), (0, .ref (a 0)), (1, .int (bI x1))]) hx hb dX8_strict_4 rfl hl (by decide) rfl (fun ls hl => ?_)
  refine lv_aload_n hx hb dX8_strict_5 rfl (lv_at hl 1 rfl) ?_
  refine lv_iload_n hx hb dX8_strict_6 rfl (lv_at hl 2 rfl) ?_
  refine pM0_strict (v := x1) C hP (hDA _) hS fl_X8_80 dX8_strict_7 (fun H locs hP hS => ?_)
  refine lv_iload_n hx hb dX8_strict_10 rfl (lv_at hl 0 rfl) ?_
  obtain ⟨_, hz, h⟩ := ob_some h
  rw [← Option.some.inj h]
  exact wrM_gret hz C hr hlocks hP hS dX8_strict_11
def fX8_linked (S : XS) (x1 : Int32) (x2 : Int32) : Int32 := (if x1 = 0 then (0 : Int32) else (if (bI (fX8_isObject S x1)) = 0 then (-1 : Int32) else (fX8_link S x1 x2)))
set_option maxRecDepth 100000 in
set_option maxHeartbeats 4000000 in
theorem c_X8_linked (l : Launch) (D : va_G) (k : Nat → ClassId) (a : Nat → Nat) (S : XS) (x1 : Int32) (x2 : Int32) : Rd noE l D (tyk k) (wM k a S) yX8_linked cX8_linked 3 (some .int) (rmm 3 64) [.ref (a 0), .int x1, .int x2] (fX8_linked S x1 x2) := by
  generalize h : fX8_linked S x1 x2 = u
  refine rd_start (by decide) (Nat.le_of_ble_eq_true rfl) ?_
  intro p e s m below meth c C hr hlocks hP hE0 ls hl
  have hl : lv_has ls 3 [(0, .ref (a 0)), (1, .int x1), (2, .int x2)] := hl
  obtain ⟨⟨hx, hb, hml, hown, hts⟩, hK⟩ := id C
  rw [fX8_linked] at h
  refine lv_iload_n hx hb dX8_linked_0 rfl (lv_at hl 1 rfl) ?_
  refine lv_if_ne (tgt := 8) hx hb dX8_linked_1 (by decide) (fun c1 => ?_) (fun c1 => ?_)
  · rw [if_neg c1] at h
    refine lv_aload_n hx hb dX8_linked_8 rfl (lv_at hl 0 rfl) ?_
    refine lv_iload_n hx hb dX8_linked_9 rfl (lv_at hl 1 rfl) ?_
    refine rdV noE_est C hP hE0 (c_X8_isObject l D k a _ x1) my_X8_isObject ml_X8_66 (rM0 C hP) rfl hl.1 (rest := []) rfl (Nat.le_of_ble_eq_true rfl) ⟨rfl, rfl, Nat.le_of_ble_eq_true rfl, Nat.le_of_ble_eq_true rfl⟩ ⟨Nat.zero_le _, Nat.zero_le _⟩ dX8_linked_10 ?_
    refine lv_if_eq (tgt := 25) hx hb dX8_linked_13 (by decide) (fun c2 => ?_) (fun c2 => ?_)
    · rw [if_pos c2] at h
      refine lv_iconst (v := (-1 : Int32)) hx hb dX8_linked_25 (by decide) ?_
      rw [← h]
      exact rd_iret C hr hlocks dX8_linked_26
    · rw [if_neg c2] at h
      refine lv_aload_n hx hb dX8_linked_16 rfl (lv_at hl 0 rfl) ?_
      refine lv_iload_n hx hb dX8_linked_17 rfl (lv_at hl 1 rfl) ?_
      refine lv_iload_n hx hb dX8_linked_18 rfl (lv_at hl 2 rfl) ?_
      refine rdV noE_est C hP hE0 (c_X8_link l D k a _ x1 x2) my_X8_link ml_X8_70 (rM0 C hP) rfl hl.1 (rest := []) rfl (Nat.le_of_ble_eq_true rfl) ⟨rfl, rfl, Nat.le_of_ble_eq_true rfl, Nat.le_of_ble_eq_true rfl⟩ ⟨Nat.zero_le _, Nat.zero_le _⟩ dX8_linked_19 ?_
      refine lv_goto (tgt := 26) hx hb dX8_linked_22 (by decide) ?_
      rw [← h]
      exact rd_iret C hr hlocks dX8_linked_26
  · rw [if_pos c1] at h
    refine lv_iconst (v := (0 : Int32)) hx hb dX8_linked_4 (by decide) ?_
    refine lv_goto (tgt := 26) hx hb dX8_linked_5 (by decide) ?_
    rw [← h]
    exact rd_iret C hr hlocks dX8_linked_26
def fX8_parent (S : XS) (x1 : Int32) : Int32 := (fX8_linked S x1 (0 : Int32))
set_option maxRecDepth 100000 in
set_option maxHeartbeats 4000000 in
theorem c_X8_parent (l : Launch) (D : va_G) (k : Nat → ClassId) (a : Nat → Nat) (S : XS) (x1 : Int32) : Rd noE l D (tyk k) (wM k a S) yX8_parent cX8_parent 2 (some .int) (rmm 4 86) [.ref (a 0), .int x1] (fX8_parent S x1) := by
  generalize h : fX8_parent S x1 = u
  refine rd_start (by decide) (Nat.le_of_ble_eq_true rfl) ?_
  intro p e s m below meth c C hr hlocks hP hE0 ls hl
  have hl : lv_has ls 2 [(0, .ref (a 0)), (1, .int x1)] := hl
  obtain ⟨⟨hx, hb, hml, hown, hts⟩, hK⟩ := id C
  rw [fX8_parent] at h
  refine lv_aload_n hx hb dX8_parent_0 rfl (lv_at hl 0 rfl) ?_
  refine lv_iload_n hx hb dX8_parent_1 rfl (lv_at hl 1 rfl) ?_
  refine lv_iconst (v := (0 : Int32)) hx hb dX8_parent_2 (by decide) ?_
  refine rdV noE_est C hP hE0 (c_X8_linked l D k a _ x1 (0 : Int32)) my_X8_linked ml_X8_83 (rM0 C hP) rfl hl.1 (rest := []) rfl (Nat.le_of_ble_eq_true rfl) ⟨rfl, rfl, Nat.le_of_ble_eq_true rfl, Nat.le_of_ble_eq_true rfl⟩ ⟨Nat.zero_le _, Nat.zero_le _⟩ dX8_parent_3 ?_
  rw [← h]
  exact rd_iret C hr hlocks dX8_parent_6
def fX8_child (S : XS) (x1 : Int32) : Int32 := (fX8_linked S x1 (2 : Int32))
set_option maxRecDepth 100000 in
set_option maxHeartbeats 4000000 in
theorem c_X8_child (l : Launch) (D : va_G) (k : Nat → ClassId) (a : Nat → Nat) (S : XS) (x1 : Int32) : Rd noE l D (tyk k) (wM k a S) yX8_child cX8_child 2 (some .int) (rmm 4 86) [.ref (a 0), .int x1] (fX8_child S x1) := by
  generalize h : fX8_child S x1 = u
  refine rd_start (by decide) (Nat.le_of_ble_eq_true rfl) ?_
  intro p e s m below meth c C hr hlocks hP hE0 ls hl
  have hl : lv_has ls 2 [(0, .ref (a 0)), (1, .int x1)] := hl
  obtain ⟨⟨hx, hb, hml, hown, hts⟩, hK⟩ := id C
  rw [fX8_child] at h
  refine lv_aload_n hx hb dX8_child_0 rfl (lv_at hl 0 rfl) ?_
  refine lv_iload_n hx hb dX8_child_1 rfl (lv_at hl 1 rfl) ?_
  refine lv_iconst (v := (2 : Int32)) hx hb dX8_child_2 (by decide) ?_
  refine rdV noE_est C hP hE0 (c_X8_linked l D k a _ x1 (2 : Int32)) my_X8_linked ml_X8_83 (rM0 C hP) rfl hl.1 (rest := []) rfl (Nat.le_of_ble_eq_true rfl) ⟨rfl, rfl, Nat.le_of_ble_eq_true rfl, Nat.le_of_ble_eq_true rfl⟩ ⟨Nat.zero_le _, Nat.zero_le _⟩ dX8_child_3 ?_
  rw [← h]
  exact rd_iret C hr hlocks dX8_child_6
def fX8_sibling (S : XS) (x1 : Int32) : Int32 := (fX8_linked S x1 (1 : Int32))
set_option maxRecDepth 100000 in
set_option maxHeartbeats 4000000 in
theorem c_X8_sibling (l : Launch) (D : va_G) (k : Nat → ClassId) (a : Nat → Nat) (S : XS) (x1 : Int32) : Rd noE l D (tyk k) (wM k a S) yX8_sibling cX8_sibling 2 (some .int) (rmm 4 86) [.ref (a 0), .int x1] (fX8_sibling S x1) := by
  generalize h : fX8_sibling S x1 = u
  refine rd_start (by decide) (Nat.le_of_ble_eq_true rfl) ?_
  intro p e s m below meth c C hr hlocks hP hE0 ls hl
  have hl : lv_has ls 2 [(0, .ref (a 0)), (1, .int x1)] := hl
  obtain ⟨⟨hx, hb, hml, hown, hts⟩, hK⟩ := id C
  rw [fX8_sibling] at h
  refine lv_aload_n hx hb dX8_sibling_0 rfl (lv_at hl 0 rfl) ?_
  refine lv_iload_n hx hb dX8_sibling_1 rfl (lv_at hl 1 rfl) ?_
  refine lv_iconst (v := (1 : Int32)) hx hb dX8_sibling_2 (by decide) ?_
  refine rdV noE_est C hP hE0 (c_X8_linked l D k a _ x1 (1 : Int32)) my_X8_linked ml_X8_83 (rM0 C hP) rfl hl.1 (rest := []) rfl (Nat.le_of_ble_eq_true rfl) ⟨rfl, rfl, Nat.le_of_ble_eq_true rfl, Nat.le_of_ble_eq_true rfl⟩ ⟨Nat.zero_le _, Nat.zero_le _⟩ dX8_sibling_3 ?_
  rw [← h]
  exact rd_iret C hr hlocks dX8_sibling_6
