def fX2_has (S : XS) (x1 : Int32) : Bool := (if x1 < 0 then false else (if (4096 : Int32) ≤ x1 then false else true))
set_option maxRecDepth 100000 in
set_option maxHeartbeats 4000000 in
theorem c_X2_has (l : Launch) (D : va_G) (k : Nat → ClassId) (a : Nat → Nat) (S : XS) (x1 : Int32) : Rd (Ek a) l D (tyk k) (wX k a S) yX2_has cX2_has 2 (some .boolean) (rmm 0 0) [.ref (a 1), .int x1] (bI (fX2_has S x1)) := by
  generalize h : fX2_has S x1 = u
  refine rd_start (by decide) (Nat.le_of_ble_eq_true rfl) ?_
  intro p e s m below meth c C hr hlocks hP hE0 ls hl
  have hl : lv_has ls 2 [(0, .ref (a 1)), (1, .int x1)] := hl
  obtain ⟨⟨hx, hb, hml, hown, hts⟩, hK⟩ := id C
  rw [fX2_has] at h
  refine lv_iload_n hx hb dX2_has_0 rfl (lv_at hl 1 rfl) ?_
  refine lv_if_lt (tgt := 15) hx hb dX2_has_1 (by decide) (fun c1 => ?_) (fun c1 => ?_)
  · rw [if_pos c1] at h
    refine lv_iconst (v := (0 : Int32)) hx hb dX2_has_15 (by decide) ?_
    rw [← h]
    exact rd_zret (v := false) C hr hlocks dX2_has_16
  · rw [if_neg c1] at h
    refine lv_iload_n hx hb dX2_has_4 rfl (lv_at hl 1 rfl) ?_
    refine lv_sipush (v := (4096 : Int32)) hx hb dX2_has_5 (by decide) ?_
    refine lv_icmp_ge (tgt := 15) hx hb dX2_has_8 (by decide) (fun c2 => ?_) (fun c2 => ?_)
    · rw [if_pos c2] at h
      refine lv_iconst (v := (0 : Int32)) hx hb dX2_has_15 (by decide) ?_
      rw [← h]
      exact rd_zret (v := false) C hr hlocks dX2_has_16
    · rw [if_neg c2] at h
      refine lv_iconst (v := (1 : Int32)) hx hb dX2_has_11 (by decide) ?_
      refine lv_goto (tgt := 16) hx hb dX2_has_12 (by decide) ?_
      rw [← h]
      exact rd_zret (v := true) C hr hlocks dX2_has_16
def fX2_get (S : XS) (x1 : Int32) : Int32 := (if x1 < 0 then (0 : Int32) else (if (4096 : Int32) ≤ x1 then (0 : Int32) else ((S.2 0 x1.toNatClampNeg) &&& (255 : Int32))))
set_option maxRecDepth 100000 in
set_option maxHeartbeats 4000000 in
theorem c_X2_get (l : Launch) (D : va_G) (k : Nat → ClassId) (a : Nat → Nat) (S : XS) (x1 : Int32) : Rd (Ek a) l D (tyk k) (wX k a S) yX2_get cX2_get 2 (some .int) (rmm 0 0) [.ref (a 1), .int x1] (fX2_get S x1) := by
  generalize h : fX2_get S x1 = u
  refine rd_start (by decide) (Nat.le_of_ble_eq_true rfl) ?_
  intro p e s m below meth c C hr hlocks hP hE0 ls hl
  have hl : lv_has ls 2 [(0, .ref (a 1)), (1, .int x1)] := hl
  obtain ⟨⟨hx, hb, hml, hown, hts⟩, hK⟩ := id C
  rw [fX2_get] at h
  refine lv_iload_n hx hb dX2_get_0 rfl (lv_at hl 1 rfl) ?_
  refine lv_if_lt (tgt := 24) hx hb dX2_get_1 (by decide) (fun c1 => ?_) (fun c1 => ?_)
  · rw [if_pos c1] at h
    refine lv_iconst (v := (0 : Int32)) hx hb dX2_get_24 (by decide) ?_
    rw [← h]
    exact rd_iret C hr hlocks dX2_get_25
  · rw [if_neg c1] at h
    refine lv_iload_n hx hb dX2_get_4 rfl (lv_at hl 1 rfl) ?_
    refine lv_sipush (v := (4096 : Int32)) hx hb dX2_get_5 (by decide) ?_
    refine lv_icmp_ge (tgt := 24) hx hb dX2_get_8 (by decide) (fun c2 => ?_) (fun c2 => ?_)
    · rw [if_pos c2] at h
      refine lv_iconst (v := (0 : Int32)) hx hb dX2_get_24 (by decide) ?_
      rw [← h]
      exact rd_iret C hr hlocks dX2_get_25
    · rw [if_neg c2] at h
      refine lv_aload_n hx hb dX2_get_11 rfl (lv_at hl 0 rfl) ?_
      refine gX1_bytes C hP fl_X2_9 dX2_get_12 ?_
      refine lv_iload_n hx hb dX2_get_15 rfl (lv_at hl 1 rfl) ?_
      refine aX2 C hP (in_cmp c1 c2) dX2_get_16 (v := (S.2 0 x1.toNatClampNeg)) rfl ?_
      refine lv_sipush (v := (255 : Int32)) hx hb dX2_get_17 (by decide) ?_
      refine lv_iand hx hb dX2_get_20 ?_
      refine lv_goto (tgt := 25) hx hb dX2_get_21 (by decide) ?_
      rw [← h]
      exact rd_iret C hr hlocks dX2_get_25
def fX2_set (S : XS) (x1 : Int32) (x2 : Int32) : XS := (if x1 < 0 then S else (if (4096 : Int32) ≤ x1 then S else (pA S 0 x1 (vp_nar .byte (x2.toInt8.toInt32)))))
set_option maxRecDepth 100000 in
set_option maxHeartbeats 4000000 in
theorem c_X2_set (l : Launch) (D : va_G) (k : Nat → ClassId) (a : Nat → Nat) (S : XS) (x1 : Int32) (x2 : Int32) : Wr (Ek a) l D (tyk k) (wX k a S) (wX k a (fX2_set S x1 x2)) yX2_set cX2_set 3 none (rmm 0 0) [.ref (a 1), .int x1, .int x2] none := by
  generalize h : fX2_set S x1 x2 = u
  refine wr_start (by decide) (Nat.le_of_ble_eq_true rfl) ?_
  intro p e s m below meth c A C hr hlocks hP hD0 hA hE0 ls hl
  have hDA : ∀ S, va_D A (wX k a S) := wX_D hD0
  have hS : va_S A s.heap s.heap [] := va_S.rf
  have hl : lv_has ls 3 [(0, .ref (a 1)), (1, .int x1), (2, .int x2)] := hl
  obtain ⟨⟨hx, hb, hml, hown, hts⟩, hK⟩ := id C
  rw [fX2_set] at h
  refine lv_iload_n hx hb dX2_set_0 rfl (lv_at hl 1 rfl) ?_
  refine lv_if_lt (tgt := 19) hx hb dX2_set_1 (by decide) (fun c1 => ?_) (fun c1 => ?_)
  · rw [if_pos c1] at h
    rw [← h]
    exact wr_vret C hr hlocks hP hS dX2_set_19
  · rw [if_neg c1] at h
    refine lv_iload_n hx hb dX2_set_4 rfl (lv_at hl 1 rfl) ?_
    refine lv_sipush (v := (4096 : Int32)) hx hb dX2_set_5 (by decide) ?_
    refine lv_icmp_ge (tgt := 19) hx hb dX2_set_8 (by decide) (fun c2 => ?_) (fun c2 => ?_)
    · rw [if_pos c2] at h
      rw [← h]
      exact wr_vret C hr hlocks hP hS dX2_set_19
    · rw [if_neg c2] at h
      refine lv_aload_n hx hb dX2_set_11 rfl (lv_at hl 0 rfl) ?_
      refine gX1_bytes C hP fl_X2_9 dX2_set_12 ?_
      refine lv_iload_n hx hb dX2_set_15 rfl (lv_at hl 1 rfl) ?_
      refine lv_iload_n hx hb dX2_set_16 rfl (lv_at hl 2 rfl) ?_
      refine lv_i2b hx hb dX2_set_17 rfl ?_
      refine sX2 C hP (hDA _) hS (in_cmp c1 c2) dX2_set_18 (fun H locs hP hS => ?_)
      rw [← h]
      exact wr_vret C hr hlocks hP hS dX2_set_19
def fX2_word (S : XS) (x1 : Int32) : Int32 := (((256 : Int32) * (fX2_get S x1)) + (fX2_get S (x1 + (1 : Int32))))
set_option maxRecDepth 100000 in
set_option maxHeartbeats 4000000 in
theorem c_X2_word (l : Launch) (D : va_G) (k : Nat → ClassId) (a : Nat → Nat) (S : XS) (x1 : Int32) : Rd (Ek a) l D (tyk k) (wX k a S) yX2_word cX2_word 2 (some .int) (rmm 1 21) [.ref (a 1), .int x1] (fX2_word S x1) := by
  generalize h : fX2_word S x1 = u
  refine rd_start (by decide) (Nat.le_of_ble_eq_true rfl) ?_
  intro p e s m below meth c C hr hlocks hP hE0 ls hl
  have hl : lv_has ls 2 [(0, .ref (a 1)), (1, .int x1)] := hl
  obtain ⟨⟨hx, hb, hml, hown, hts⟩, hK⟩ := id C
  rw [fX2_word] at h
  refine lv_sipush (v := (256 : Int32)) hx hb dX2_word_0 (by decide) ?_
  refine lv_aload_n hx hb dX2_word_3 rfl (lv_at hl 0 rfl) ?_
  refine lv_iload_n hx hb dX2_word_4 rfl (lv_at hl 1 rfl) ?_
  refine rdV (Ek_est a) C hP hE0 (c_X2_get l D k a _ x1) my_X2_get ml_X2_15 (rX1 C hP) rfl hl.1 (rest := [.int (256 : Int32)]) rfl (Nat.le_of_ble_eq_true rfl) ⟨rfl, rfl, Nat.le_of_ble_eq_true rfl, Nat.le_of_ble_eq_true rfl⟩ ⟨Nat.zero_le _, Nat.zero_le _⟩ dX2_word_5 ?_
  refine lv_imul hx hb dX2_word_8 ?_
  refine lv_aload_n hx hb dX2_word_9 rfl (lv_at hl 0 rfl) ?_
  refine lv_iload_n hx hb dX2_word_10 rfl (lv_at hl 1 rfl) ?_
  refine lv_iconst (v := (1 : Int32)) hx hb dX2_word_11 (by decide) ?_
  refine lv_iadd hx hb dX2_word_12 ?_
  refine rdV (Ek_est a) C hP hE0 (c_X2_get l D k a _ (x1 + (1 : Int32))) my_X2_get ml_X2_15 (rX1 C hP) rfl hl.1 (rest := [.int ((256 : Int32) * (fX2_get S x1))]) rfl (Nat.le_of_ble_eq_true rfl) ⟨rfl, rfl, Nat.le_of_ble_eq_true rfl, Nat.le_of_ble_eq_true rfl⟩ ⟨Nat.zero_le _, Nat.zero_le _⟩ dX2_word_13 ?_
  refine lv_iadd hx hb dX2_word_16 ?_
  rw [← h]
  exact rd_iret C hr hlocks dX2_word_17
def fX2_setWord (S : XS) (x1 : Int32) (x2 : Int32) : XS := (fX2_set (fX2_set S x1 (x2 >>> ((8 : Int32) &&& 31))) (x1 + (1 : Int32)) x2)
set_option maxRecDepth 100000 in
set_option maxHeartbeats 4000000 in
theorem c_X2_setWord (l : Launch) (D : va_G) (k : Nat → ClassId) (a : Nat → Nat) (S : XS) (x1 : Int32) (x2 : Int32) : Wr (Ek a) l D (tyk k) (wX k a S) (wX k a (fX2_setWord S x1 x2)) yX2_setWord cX2_setWord 3 none (rmm 1 22) [.ref (a 1), .int x1, .int x2] none := by
  generalize h : fX2_setWord S x1 x2 = u
  refine wr_start (by decide) (Nat.le_of_ble_eq_true rfl) ?_
  intro p e s m below meth c A C hr hlocks hP hD0 hA hE0 ls hl
  have hDA : ∀ S, va_D A (wX k a S) := wX_D hD0
  have hS : va_S A s.heap s.heap [] := va_S.rf
  have hl : lv_has ls 3 [(0, .ref (a 1)), (1, .int x1), (2, .int x2)] := hl
  obtain ⟨⟨hx, hb, hml, hown, hts⟩, hK⟩ := id C
  rw [fX2_setWord] at h
  refine lv_aload_n hx hb dX2_setWord_0 rfl (lv_at hl 0 rfl) ?_
  refine lv_iload_n hx hb dX2_setWord_1 rfl (lv_at hl 1 rfl) ?_
  refine lv_iload_n hx hb dX2_setWord_2 rfl (lv_at hl 2 rfl) ?_
  refine lv_bipush (v := (8 : Int32)) hx hb dX2_setWord_3 (by decide) ?_
  refine lv_ishr hx hb dX2_setWord_5 ?_
  refine wrV (Ek_est a) C hP (hDA _) hA hS hE0 (c_X2_set l D k a _ x1 (x2 >>> ((8 : Int32) &&& 31))) my_X2_set ml_X2_19 (rX1 C hP) rfl hl.1 (rest := []) rfl (Nat.le_of_ble_eq_true rfl) ⟨rfl, rfl, Nat.le_of_ble_eq_true rfl, Nat.le_of_ble_eq_true rfl⟩ ⟨Nat.zero_le _, Nat.zero_le _⟩ dX2_setWord_6 (fun H locs hP hS _ _ => ?_)
  refine lv_aload_n hx hb dX2_setWord_9 rfl (lv_at hl 0 rfl) ?_
  refine lv_iload_n hx hb dX2_setWord_10 rfl (lv_at hl 1 rfl) ?_
  refine lv_iconst (v := (1 : Int32)) hx hb dX2_setWord_11 (by decide) ?_
  refine lv_iadd hx hb dX2_setWord_12 ?_
  refine lv_iload_n hx hb dX2_setWord_13 rfl (lv_at hl 2 rfl) ?_
  refine wrV (Ek_est a) C hP (hDA _) hA hS hE0 (c_X2_set l D k a _ (x1 + (1 : Int32)) x2) my_X2_set ml_X2_19 (rX1 C hP) rfl hl.1 (rest := []) rfl (Nat.le_of_ble_eq_true rfl) ⟨rfl, rfl, Nat.le_of_ble_eq_true rfl, Nat.le_of_ble_eq_true rfl⟩ ⟨Nat.zero_le _, Nat.zero_le _⟩ dX2_setWord_14 (fun H locs hP hS _ _ => ?_)
  rw [← h]
  exact wr_vret C hr hlocks hP hS dX2_setWord_17
def fX0_size (S : XS)  : Int32 := (S.1 9)
set_option maxRecDepth 100000 in
set_option maxHeartbeats 4000000 in
theorem c_X0_size (l : Launch) (D : va_G) (k : Nat → ClassId) (a : Nat → Nat) (S : XS)  : Rd (Ek a) l D (tyk k) (wX k a S) yX0_size cX0_size 1 (some .int) (rmm 0 0) [.ref (a 3)] (fX0_size S) := by
  generalize h : fX0_size S = u
  refine rd_start (by decide) (Nat.le_of_ble_eq_true rfl) ?_
  intro p e s m below meth c C hr hlocks hP hE0 ls hl
  have hl : lv_has ls 1 [(0, .ref (a 3))] := hl
  obtain ⟨⟨hx, hb, hml, hown, hts⟩, hK⟩ := id C
  rw [fX0_size] at h
  refine lv_aload_n hx hb dX0_size_0 rfl (lv_at hl 0 rfl) ?_
  refine gX3_size C hP fl_X0_32 dX0_size_1 (v := (S.1 9)) rfl ?_
  rw [← h]
  exact rd_iret C hr hlocks dX0_size_4
def fX0_isFull (S : XS)  : Bool := (if (S.1 9) < (100 : Int32) then false else true)
set_option maxRecDepth 100000 in
set_option maxHeartbeats 4000000 in
theorem c_X0_isFull (l : Launch) (D : va_G) (k : Nat → ClassId) (a : Nat → Nat) (S : XS)  : Rd (Ek a) l D (tyk k) (wX k a S) yX0_isFull cX0_isFull 1 (some .boolean) (rmm 0 0) [.ref (a 3)] (bI (fX0_isFull S)) := by
  generalize h : fX0_isFull S = u
  refine rd_start (by decide) (Nat.le_of_ble_eq_true rfl) ?_
  intro p e s m below meth c C hr hlocks hP hE0 ls hl
  have hl : lv_has ls 1 [(0, .ref (a 3))] := hl
  obtain ⟨⟨hx, hb, hml, hown, hts⟩, hK⟩ := id C
  rw [fX0_isFull] at h
  refine lv_aload_n hx hb dX0_isFull_0 rfl (lv_at hl 0 rfl) ?_
  refine gX3_size C hP fl_X0_32 dX0_isFull_1 (v := (S.1 9)) rfl ?_
  refine lv_bipush (v := (100 : Int32)) hx hb dX0_isFull_4 (by decide) ?_
  refine lv_icmp_lt (tgt := 13) hx hb dX0_isFull_6 (by decide) (fun c1 => ?_) (fun c1 => ?_)
  · rw [if_pos c1] at h
    refine lv_iconst (v := (0 : Int32)) hx hb dX0_isFull_13 (by decide) ?_
    rw [← h]
    exact rd_zret (v := false) C hr hlocks dX0_isFull_14
  · rw [if_neg c1] at h
    refine lv_iconst (v := (1 : Int32)) hx hb dX0_isFull_9 (by decide) ?_
    refine lv_goto (tgt := 14) hx hb dX0_isFull_10 (by decide) ?_
    rw [← h]
    exact rd_zret (v := true) C hr hlocks dX0_isFull_14
def fX0_has (S : XS) (x1 : Int32) : Bool := (if x1 < (1 : Int32) then false else (if (S.1 9) < x1 then false else true))
set_option maxRecDepth 100000 in
set_option maxHeartbeats 4000000 in
theorem c_X0_has (l : Launch) (D : va_G) (k : Nat → ClassId) (a : Nat → Nat) (S : XS) (x1 : Int32) : Rd (Ek a) l D (tyk k) (wX k a S) yX0_has cX0_has 2 (some .boolean) (rmm 0 0) [.ref (a 3), .int x1] (bI (fX0_has S x1)) := by
  generalize h : fX0_has S x1 = u
  refine rd_start (by decide) (Nat.le_of_ble_eq_true rfl) ?_
  intro p e s m below meth c C hr hlocks hP hE0 ls hl
  have hl : lv_has ls 2 [(0, .ref (a 3)), (1, .int x1)] := hl
  obtain ⟨⟨hx, hb, hml, hown, hts⟩, hK⟩ := id C
  rw [fX0_has] at h
  refine lv_iload_n hx hb dX0_has_0 rfl (lv_at hl 1 rfl) ?_
  refine lv_iconst (v := (1 : Int32)) hx hb dX0_has_1 (by decide) ?_
  refine lv_icmp_lt (tgt := 17) hx hb dX0_has_2 (by decide) (fun c1 => ?_) (fun c1 => ?_)
  · rw [if_pos c1] at h
    refine lv_iconst (v := (0 : Int32)) hx hb dX0_has_17 (by decide) ?_
    rw [← h]
    exact rd_zret (v := false) C hr hlocks dX0_has_18
  · rw [if_neg c1] at h
    refine lv_iload_n hx hb dX0_has_5 rfl (lv_at hl 1 rfl) ?_
    refine lv_aload_n hx hb dX0_has_6 rfl (lv_at hl 0 rfl) ?_
    refine gX3_size C hP fl_X0_32 dX0_has_7 (v := (S.1 9)) rfl ?_
    refine lv_icmp_gt (tgt := 17) hx hb dX0_has_10 (by decide) (fun c2 => ?_) (fun c2 => ?_)
    · rw [if_pos c2] at h
      refine lv_iconst (v := (0 : Int32)) hx hb dX0_has_17 (by decide) ?_
      rw [← h]
      exact rd_zret (v := false) C hr hlocks dX0_has_18
    · rw [if_neg c2] at h
      refine lv_iconst (v := (1 : Int32)) hx hb dX0_has_13 (by decide) ?_
      refine lv_goto (tgt := 18) hx hb dX0_has_14 (by decide) ?_
      rw [← h]
      exact rd_zret (v := true) C hr hlocks dX0_has_18
def fX0_attributes (S : XS)  : Int32 := ((8 : Int32) * (S.1 6))
set_option maxRecDepth 100000 in
set_option maxHeartbeats 4000000 in
theorem c_X0_attributes (l : Launch) (D : va_G) (k : Nat → ClassId) (a : Nat → Nat) (S : XS)  : Rd (Ek a) l D (tyk k) (wX k a S) yX0_attributes cX0_attributes 1 (some .int) (rmm 0 0) [.ref (a 3)] (fX0_attributes S) := by
  generalize h : fX0_attributes S = u
  refine rd_start (by decide) (Nat.le_of_ble_eq_true rfl) ?_
  intro p e s m below meth c C hr hlocks hP hE0 ls hl
  have hl : lv_has ls 1 [(0, .ref (a 3))] := hl
  obtain ⟨⟨hx, hb, hml, hown, hts⟩, hK⟩ := id C
  rw [fX0_attributes] at h
  refine lv_bipush (v := (8 : Int32)) hx hb dX0_attributes_0 (by decide) ?_
  refine lv_aload_n hx hb dX0_attributes_2 rfl (lv_at hl 0 rfl) ?_
  refine gX3_attributeBytes C hP fl_X0_23 dX0_attributes_3 (v := (S.1 6)) rfl ?_
  refine lv_imul hx hb dX0_attributes_6 ?_
  rw [← h]
  exact rd_iret C hr hlocks dX0_attributes_7
def fX0_start (S : XS) (x1 : Int32) : Int32 := ((S.1 5) + ((S.1 8) * (x1 - (1 : Int32))))
set_option maxRecDepth 100000 in
set_option maxHeartbeats 4000000 in
theorem c_X0_start (l : Launch) (D : va_G) (k : Nat → ClassId) (a : Nat → Nat) (S : XS) (x1 : Int32) : Rd (Ek a) l D (tyk k) (wX k a S) yX0_start cX0_start 2 (some .int) (rmm 0 0) [.ref (a 3), .int x1] (fX0_start S x1) := by
  generalize h : fX0_start S x1 = u
  refine rd_start (by decide) (Nat.le_of_ble_eq_true rfl) ?_
  intro p e s m below meth c C hr hlocks hP hE0 ls hl
  have hl : lv_has ls 2 [(0, .ref (a 3)), (1, .int x1)] := hl
  obtain ⟨⟨hx, hb, hml, hown, hts⟩, hK⟩ := id C
  rw [fX0_start] at h
  refine lv_aload_n hx hb dX0_start_0 rfl (lv_at hl 0 rfl) ?_
  refine gX3_first C hP fl_X0_19 dX0_start_1 (v := (S.1 5)) rfl ?_
  refine lv_aload_n hx hb dX0_start_4 rfl (lv_at hl 0 rfl) ?_
  refine gX3_entryBytes C hP fl_X0_29 dX0_start_5 (v := (S.1 8)) rfl ?_
  refine lv_iload_n hx hb dX0_start_8 rfl (lv_at hl 1 rfl) ?_
  refine lv_iconst (v := (1 : Int32)) hx hb dX0_start_9 (by decide) ?_
  refine lv_isub hx hb dX0_start_10 ?_
  refine lv_imul hx hb dX0_start_11 ?_
  refine lv_iadd hx hb dX0_start_12 ?_
  rw [← h]
  exact rd_iret C hr hlocks dX0_start_13
def fX0_tableAt (S : XS) (x1 : Int32) : Int32 := (((fX0_start S x1) + (S.1 8)) - (2 : Int32))
set_option maxRecDepth 100000 in
set_option maxHeartbeats 4000000 in
theorem c_X0_tableAt (l : Launch) (D : va_G) (k : Nat → ClassId) (a : Nat → Nat) (S : XS) (x1 : Int32) : Rd (Ek a) l D (tyk k) (wX k a S) yX0_tableAt cX0_tableAt 2 (some .int) (rmm 1 21) [.ref (a 3), .int x1] (fX0_tableAt S x1) := by
  generalize h : fX0_tableAt S x1 = u
  refine rd_start (by decide) (Nat.le_of_ble_eq_true rfl) ?_
  intro p e s m below meth c C hr hlocks hP hE0 ls hl
  have hl : lv_has ls 2 [(0, .ref (a 3)), (1, .int x1)] := hl
  obtain ⟨⟨hx, hb, hml, hown, hts⟩, hK⟩ := id C
  rw [fX0_tableAt] at h
  refine lv_aload_n hx hb dX0_tableAt_0 rfl (lv_at hl 0 rfl) ?_
  refine lv_iload_n hx hb dX0_tableAt_1 rfl (lv_at hl 1 rfl) ?_
  refine rdV (Ek_est a) C hP hE0 (c_X0_start l D k a _ x1) my_X0_start ml_X0_35 (rX3 C hP) rfl hl.1 (rest := []) rfl (Nat.le_of_ble_eq_true rfl) ⟨rfl, rfl, Nat.le_of_ble_eq_true rfl, Nat.le_of_ble_eq_true rfl⟩ ⟨Nat.zero_le _, Nat.zero_le _⟩ dX0_tableAt_2 ?_
  refine lv_aload_n hx hb dX0_tableAt_5 rfl (lv_at hl 0 rfl) ?_
  refine gX3_entryBytes C hP fl_X0_29 dX0_tableAt_6 (v := (S.1 8)) rfl ?_
  refine lv_iadd hx hb dX0_tableAt_9 ?_
  refine lv_iconst (v := (2 : Int32)) hx hb dX0_tableAt_10 (by decide) ?_
  refine lv_isub hx hb dX0_tableAt_11 ?_
  rw [← h]
  exact rd_iret C hr hlocks dX0_tableAt_12
def fX0_linkAt (S : XS) (x1 : Int32) (x2 : Int32) : Int32 := (((fX0_start S x1) + (S.1 6)) + (x2 * (S.1 7)))
set_option maxRecDepth 100000 in
set_option maxHeartbeats 4000000 in
theorem c_X0_linkAt (l : Launch) (D : va_G) (k : Nat → ClassId) (a : Nat → Nat) (S : XS) (x1 : Int32) (x2 : Int32) : Rd (Ek a) l D (tyk k) (wX k a S) yX0_linkAt cX0_linkAt 3 (some .int) (rmm 1 21) [.ref (a 3), .int x1, .int x2] (fX0_linkAt S x1 x2) := by
  generalize h : fX0_linkAt S x1 x2 = u
  refine rd_start (by decide) (Nat.le_of_ble_eq_true rfl) ?_
  intro p e s m below meth c C hr hlocks hP hE0 ls hl
  have hl : lv_has ls 3 [(0, .ref (a 3)), (1, .int x1), (2, .int x2)] := hl
  obtain ⟨⟨hx, hb, hml, hown, hts⟩, hK⟩ := id C
  rw [fX0_linkAt] at h
  refine lv_aload_n hx hb dX0_linkAt_0 rfl (lv_at hl 0 rfl) ?_
  refine lv_iload_n hx hb dX0_linkAt_1 rfl (lv_at hl 1 rfl) ?_
  refine rdV (Ek_est a) C hP hE0 (c_X0_start l D k a _ x1) my_X0_start ml_X0_35 (rX3 C hP) rfl hl.1 (rest := []) rfl (Nat.le_of_ble_eq_true rfl) ⟨rfl, rfl, Nat.le_of_ble_eq_true rfl, Nat.le_of_ble_eq_true rfl⟩ ⟨Nat.zero_le _, Nat.zero_le _⟩ dX0_linkAt_2 ?_
  refine lv_aload_n hx hb dX0_linkAt_5 rfl (lv_at hl 0 rfl) ?_
  refine gX3_attributeBytes C hP fl_X0_23 dX0_linkAt_6 (v := (S.1 6)) rfl ?_
  refine lv_iadd hx hb dX0_linkAt_9 ?_
  refine lv_iload_n hx hb dX0_linkAt_10 rfl (lv_at hl 2 rfl) ?_
  refine lv_aload_n hx hb dX0_linkAt_11 rfl (lv_at hl 0 rfl) ?_
  refine gX3_linkBytes C hP fl_X0_26 dX0_linkAt_12 (v := (S.1 7)) rfl ?_
  refine lv_imul hx hb dX0_linkAt_15 ?_
  refine lv_iadd hx hb dX0_linkAt_16 ?_
  rw [← h]
  exact rd_iret C hr hlocks dX0_linkAt_17
def fX0_add_L : Nat → XS → Int32 → Int32 → Int32 → Option XS
  | 0, _, _, _, _ => none
  | n + 1, S, y1, y2, y3 => (if (S.1 8) ≤ y3 then some (fX2_setWord S (fX0_tableAt S (S.1 9)) y1) else (fX0_add_L n (fX2_set S (y2 + y3) (0 : Int32)) y1 y2 (y3 + (1 : Int32))))
def fX0_add (S : XS) (x1 : Int32) : Option XS := (fX0_add_L 20 (pS S 9 ((S.1 9) + (1 : Int32))) x1 (fX0_start (pS S 9 ((S.1 9) + (1 : Int32))) ((S.1 9) + (1 : Int32))) (0 : Int32))
set_option maxRecDepth 100000 in
set_option maxHeartbeats 4000000 in
theorem c_X0_add (l : Launch) (D : va_G) (k : Nat → ClassId) (a : Nat → Nat) (S : XS) (x1 : Int32) (u : XS) (h : fX0_add S x1 = some u) : Wr (Ek a) l D (tyk k) (wX k a S) (wX k a u) yX0_add cX0_add 4 none (rmm 2 44) [.ref (a 3), .int x1] none := by
  refine wr_start (by decide) (Nat.le_of_ble_eq_true rfl) ?_
  intro p e s m below meth c A C hr hlocks hP hD0 hA hE0 ls hl
  have hDA : ∀ S, va_D A (wX k a S) := wX_D hD0
  have hS : va_S A s.heap s.heap [] := va_S.rf
  have hl : lv_has ls 4 [(0, .ref (a 3)), (1, .int x1)] := hl
  obtain ⟨⟨hx, hb, hml, hown, hts⟩, hK⟩ := id C
  have L : ∀ n : Nat, ∀ (S : XS) (y1 : Int32) (y2 : Int32) (y3 : Int32) (H : Heap) (locs : List Loc) (ls : Array Slot), va_P D vwCl (wX k a S) H → va_S A s.heap H locs → lv_has ls 4 [(0, .ref (a 3)), (1, .int y1), (2, .int y2), (3, .int y3)] → fX0_add_L n S y1 y2 y3 = some u → W p l e (rmm 2 44) s m ([.ref (a 3), .int x1] : List Value).toArray below meth c H locs 0 0 (MQ below (Qw D (wX k a u) none A) ([.ref (a 3), .int x1] : List Value).toArray s 0 0 A) (F0 m 21 ls []) := by
    intro n
    induction n with
    | zero => intro S y1 y2 y3 H locs ls hP hS hl h; cases h
    | succ n ih =>
      intro S y1 y2 y3 H locs ls hP hS hl h
      rw [fX0_add_L] at h
      refine lv_iload_n hx hb dX0_add_21 rfl (lv_at hl 3 rfl) ?_
      refine lv_aload_n hx hb dX0_add_22 rfl (lv_at hl 0 rfl) ?_
      refine gX3_entryBytes C hP fl_X0_29 dX0_add_23 (v := (S.1 8)) rfl ?_
      refine lv_icmp_ge (tgt := 46) hx hb dX0_add_26 (by decide) (fun c1 => ?_) (fun c1 => ?_)
      · rw [if_pos c1] at h
        refine lv_aload_n hx hb dX0_add_46 rfl (lv_at hl 0 rfl) ?_
        refine gX3_memory C hP fl_X0_9 dX0_add_47 ?_
        refine lv_aload_n hx hb dX0_add_50 rfl (lv_at hl 0 rfl) ?_
        refine lv_aload_n hx hb dX0_add_51 rfl (lv_at hl 0 rfl) ?_
        refine gX3_size C hP fl_X0_32 dX0_add_52 (v := (S.1 9)) rfl ?_
        refine rdV (Ek_est a) C hP (ef (Ek_est a) hS hE0) (c_X0_tableAt l D k a _ (S.1 9)) my_X0_tableAt ml_X0_45 (rX3 C hP) rfl hl.1 (rest := [.ref (a 1)]) rfl (Nat.le_of_ble_eq_true rfl) ⟨rfl, rfl, Nat.le_of_ble_eq_true rfl, Nat.le_of_ble_eq_true rfl⟩ ⟨Nat.zero_le _, Nat.zero_le _⟩ dX0_add_55 ?_
        refine lv_iload_n hx hb dX0_add_58 rfl (lv_at hl 1 rfl) ?_
        refine wrV (Ek_est a) C hP (hDA _) hA hS hE0 (c_X2_setWord l D k a _ (fX0_tableAt S (S.1 9)) y1) my_X2_setWord ml_X0_48 (rX1 C hP) rfl hl.1 (rest := []) rfl (Nat.le_of_ble_eq_true rfl) ⟨rfl, rfl, Nat.le_of_ble_eq_true rfl, Nat.le_of_ble_eq_true rfl⟩ ⟨Nat.zero_le _, Nat.zero_le _⟩ dX0_add_59 (fun H locs hP hS _ _ => ?_)
        rw [← Option.some.inj h]
        exact wr_vret C hr hlocks hP hS dX0_add_62
      · rw [if_neg c1] at h
        refine lv_aload_n hx hb dX0_add_29 rfl (lv_at hl 0 rfl) ?_
        refine gX3_memory C hP fl_X0_9 dX0_add_30 ?_
        refine lv_iload_n hx hb dX0_add_33 rfl (lv_at hl 2 rfl) ?_
        refine lv_iload_n hx hb dX0_add_34 rfl (lv_at hl 3 rfl) ?_
        refine lv_iadd hx hb dX0_add_35 ?_
        refine lv_iconst (v := (0 : Int32)) hx hb dX0_add_36 (by decide) ?_
        refine wrV (Ek_est a) C hP (hDA _) hA hS hE0 (c_X2_set l D k a _ (y2 + y3) (0 : Int32)) my_X2_set ml_X0_39 (rX1 C hP) rfl hl.1 (rest := []) rfl (Nat.le_of_ble_eq_true rfl) ⟨rfl, rfl, Nat.le_of_ble_eq_true rfl, Nat.le_of_ble_eq_true rfl⟩ ⟨Nat.zero_le _, Nat.zero_le _⟩ dX0_add_37 (fun H locs hP hS _ _ => ?_)
        refine lv_iinc (v := (y3 + (1 : Int32))) (lv' := [(3, .int (y3 + (1 : Int32))), (0, .ref (a 3)), (1, .int y1), (2, .int y2)]) hx hb dX0_add_40 hl (k := 3) rfl rfl (by decide) rfl (fun ls hl => ?_)
        refine lv_goto (tgt := 21) hx hb dX0_add_43 (by decide) ?_
        exact ih _ _ _ _ _ _ ls hP hS (lv_sub hl [1, 2, 3, 0] rfl) h
  rw [fX0_add] at h
  refine lv_aload_n hx hb dX0_add_0 rfl (lv_at hl 0 rfl) ?_
  refine lv_dup hx hb dX0_add_1 rfl ?_
  refine gX3_size C hP fl_X0_32 dX0_add_2 (v := (S.1 9)) rfl ?_
  refine lv_iconst (v := (1 : Int32)) hx hb dX0_add_5 (by decide) ?_
  refine lv_iadd hx hb dX0_add_6 ?_
  refine pX3_size C hP (hDA _) hS fl_X0_32 dX0_add_7 (fun H locs hP hS => ?_)
  refine lv_aload_n hx hb dX0_add_10 rfl (lv_at hl 0 rfl) ?_
  refine lv_aload_n hx hb dX0_add_11 rfl (lv_at hl 0 rfl) ?_
  refine gX3_size C hP fl_X0_32 dX0_add_12 (v := ((S.1 9) + (1 : Int32))) rfl ?_
  refine rdV (Ek_est a) C hP (ef (Ek_est a) hS hE0) (c_X0_start l D k a _ ((S.1 9) + (1 : Int32))) my_X0_start ml_X0_35 (rX3 C hP) rfl hl.1 (rest := []) rfl (Nat.le_of_ble_eq_true rfl) ⟨rfl, rfl, Nat.le_of_ble_eq_true rfl, Nat.le_of_ble_eq_true rfl⟩ ⟨Nat.zero_le _, Nat.zero_le _⟩ dX0_add_15 ?_
  refine lv_istore_n (lv' := [(2, .int (fX0_start (pS S 9 ((S.1 9) + (1 : Int32))) ((S.1 9) + (1 : Int32)))), (0, .ref (a 3)), (1, .int x1)]) hx hb dX0_add_18 rfl hl (by decide) rfl (fun ls hl => ?_)
  refine lv_iconst (v := (0 : Int32)) hx hb dX0_add_19 (by decide) ?_
  refine lv_istore_n (lv' := [(3, .int (0 : Int32)), (2, .int (fX0_start (pS S 9 ((S.1 9) + (1 : Int32))) ((S.1 9) + (1 : Int32)))), (0, .ref (a 3)), (1, .int x1)]) hx hb dX0_add_20 rfl hl (by decide) rfl (fun ls hl => ?_)
  exact L 20 _ _ _ _ _ _ ls hP hS (lv_sub hl [2, 3, 1, 0] rfl) h
def fX0_table (S : XS) (x1 : Int32) : Int32 := (fX2_word S (fX0_tableAt S x1))
set_option maxRecDepth 100000 in
set_option maxHeartbeats 4000000 in
theorem c_X0_table (l : Launch) (D : va_G) (k : Nat → ClassId) (a : Nat → Nat) (S : XS) (x1 : Int32) : Rd (Ek a) l D (tyk k) (wX k a S) yX0_table cX0_table 2 (some .int) (rmm 2 42) [.ref (a 3), .int x1] (fX0_table S x1) := by
  generalize h : fX0_table S x1 = u
  refine rd_start (by decide) (Nat.le_of_ble_eq_true rfl) ?_
  intro p e s m below meth c C hr hlocks hP hE0 ls hl
  have hl : lv_has ls 2 [(0, .ref (a 3)), (1, .int x1)] := hl
  obtain ⟨⟨hx, hb, hml, hown, hts⟩, hK⟩ := id C
  rw [fX0_table] at h
  refine lv_aload_n hx hb dX0_table_0 rfl (lv_at hl 0 rfl) ?_
  refine gX3_memory C hP fl_X0_9 dX0_table_1 ?_
  refine lv_aload_n hx hb dX0_table_4 rfl (lv_at hl 0 rfl) ?_
  refine lv_iload_n hx hb dX0_table_5 rfl (lv_at hl 1 rfl) ?_
  refine rdV (Ek_est a) C hP hE0 (c_X0_tableAt l D k a _ x1) my_X0_tableAt ml_X0_45 (rX3 C hP) rfl hl.1 (rest := [.ref (a 1)]) rfl (Nat.le_of_ble_eq_true rfl) ⟨rfl, rfl, Nat.le_of_ble_eq_true rfl, Nat.le_of_ble_eq_true rfl⟩ ⟨Nat.zero_le _, Nat.zero_le _⟩ dX0_table_6 ?_
  refine rdV (Ek_est a) C hP hE0 (c_X2_word l D k a _ (fX0_tableAt S x1)) my_X2_word ml_X0_51 (rX1 C hP) rfl hl.1 (rest := []) rfl (Nat.le_of_ble_eq_true rfl) ⟨rfl, rfl, Nat.le_of_ble_eq_true rfl, Nat.le_of_ble_eq_true rfl⟩ ⟨Nat.zero_le _, Nat.zero_le _⟩ dX0_table_9 ?_
  rw [← h]
  exact rd_iret C hr hlocks dX0_table_12
def fX0_link (S : XS) (x1 : Int32) (x2 : Int32) : Int32 := (if (S.1 4) = 0 then (fX2_get S (fX0_linkAt S x1 x2)) else (fX2_word S (fX0_linkAt S x1 x2)))
set_option maxRecDepth 100000 in
set_option maxHeartbeats 4000000 in
theorem c_X0_link (l : Launch) (D : va_G) (k : Nat → ClassId) (a : Nat → Nat) (S : XS) (x1 : Int32) (x2 : Int32) : Rd (Ek a) l D (tyk k) (wX k a S) yX0_link cX0_link 4 (some .int) (rmm 2 43) [.ref (a 3), .int x1, .int x2] (fX0_link S x1 x2) := by
  generalize h : fX0_link S x1 x2 = u
  refine rd_start (by decide) (Nat.le_of_ble_eq_true rfl) ?_
  intro p e s m below meth c C hr hlocks hP hE0 ls hl
  have hl : lv_has ls 4 [(0, .ref (a 3)), (1, .int x1), (2, .int x2)] := hl
  obtain ⟨⟨hx, hb, hml, hown, hts⟩, hK⟩ := id C
  rw [fX0_link] at h
  refine lv_aload_n hx hb dX0_link_0 rfl (lv_at hl 0 rfl) ?_
  refine lv_iload_n hx hb dX0_link_1 rfl (lv_at hl 1 rfl) ?_
  refine lv_iload_n hx hb dX0_link_2 rfl (lv_at hl 2 rfl) ?_
  refine rdV (Ek_est a) C hP hE0 (c_X0_linkAt l D k a _ x1 x2) my_X0_linkAt ml_X0_54 (rX3 C hP) rfl hl.1 (rest := []) rfl (Nat.le_of_ble_eq_true rfl) ⟨rfl, rfl, Nat.le_of_ble_eq_true rfl, Nat.le_of_ble_eq_true rfl⟩ ⟨Nat.zero_le _, Nat.zero_le _⟩ dX0_link_3 ?_
  refine lv_istore_n (lv' := [(3, .int (fX0_linkAt S x1 x2)), (0, .ref (a 3)), (1, .int x1), (2, .int x2)]) hx hb dX0_link_6 rfl hl (by decide) rfl (fun ls hl => ?_)
  refine lv_aload_n hx hb dX0_link_7 rfl (lv_at hl 1 rfl) ?_
  refine gX3_wide C hP fl_X0_15 dX0_link_8 (v := (S.1 4)) rfl ?_
  refine lv_if_eq (tgt := 25) hx hb dX0_link_11 (by decide) (fun c1 => ?_) (fun c1 => ?_)
  · rw [if_pos c1] at h
    refine lv_aload_n hx hb dX0_link_25 rfl (lv_at hl 1 rfl) ?_
    refine gX3_memory C hP fl_X0_9 dX0_link_26 ?_
    refine lv_iload_n hx hb dX0_link_29 rfl (lv_at hl 0 rfl) ?_
    refine rdV (Ek_est a) C hP hE0 (c_X2_get l D k a _ (fX0_linkAt S x1 x2)) my_X2_get ml_X0_58 (rX1 C hP) rfl hl.1 (rest := []) rfl (Nat.le_of_ble_eq_true rfl) ⟨rfl, rfl, Nat.le_of_ble_eq_true rfl, Nat.le_of_ble_eq_true rfl⟩ ⟨Nat.zero_le _, Nat.zero_le _⟩ dX0_link_30 ?_
    rw [← h]
    exact rd_iret C hr hlocks dX0_link_33
  · rw [if_neg c1] at h
    refine lv_aload_n hx hb dX0_link_14 rfl (lv_at hl 1 rfl) ?_
    refine gX3_memory C hP fl_X0_9 dX0_link_15 ?_
    refine lv_iload_n hx hb dX0_link_18 rfl (lv_at hl 0 rfl) ?_
    refine rdV (Ek_est a) C hP hE0 (c_X2_word l D k a _ (fX0_linkAt S x1 x2)) my_X2_word ml_X0_51 (rX1 C hP) rfl hl.1 (rest := []) rfl (Nat.le_of_ble_eq_true rfl) ⟨rfl, rfl, Nat.le_of_ble_eq_true rfl, Nat.le_of_ble_eq_true rfl⟩ ⟨Nat.zero_le _, Nat.zero_le _⟩ dX0_link_19 ?_
    refine lv_goto (tgt := 33) hx hb dX0_link_22 (by decide) ?_
    rw [← h]
    exact rd_iret C hr hlocks dX0_link_33
def fX0_setLink (S : XS) (x1 : Int32) (x2 : Int32) (x3 : Int32) : XS := (if (S.1 4) = 0 then (fX2_set S (fX0_linkAt S x1 x2) x3) else (fX2_setWord S (fX0_linkAt S x1 x2) x3))
set_option maxRecDepth 100000 in
set_option maxHeartbeats 4000000 in
theorem c_X0_setLink (l : Launch) (D : va_G) (k : Nat → ClassId) (a : Nat → Nat) (S : XS) (x1 : Int32) (x2 : Int32) (x3 : Int32) : Wr (Ek a) l D (tyk k) (wX k a S) (wX k a (fX0_setLink S x1 x2 x3)) yX0_setLink cX0_setLink 5 none (rmm 2 44) [.ref (a 3), .int x1, .int x2, .int x3] none := by
  generalize h : fX0_setLink S x1 x2 x3 = u
  refine wr_start (by decide) (Nat.le_of_ble_eq_true rfl) ?_
  intro p e s m below meth c A C hr hlocks hP hD0 hA hE0 ls hl
  have hDA : ∀ S, va_D A (wX k a S) := wX_D hD0
  have hS : va_S A s.heap s.heap [] := va_S.rf
  have hl : lv_has ls 5 [(0, .ref (a 3)), (1, .int x1), (2, .int x2), (3, .int x3)] := hl
  obtain ⟨⟨hx, hb, hml, hown, hts⟩, hK⟩ := id C
  rw [fX0_setLink] at h
  refine lv_aload_n hx hb dX0_setLink_0 rfl (lv_at hl 0 rfl) ?_
  refine lv_iload_n hx hb dX0_setLink_1 rfl (lv_at hl 1 rfl) ?_
  refine lv_iload_n hx hb dX0_setLink_2 rfl (lv_at hl 2 rfl) ?_
  refine rdV (Ek_est a) C hP (ef (Ek_est a) hS hE0) (c_X0_linkAt l D k a _ x1 x2) my_X0_linkAt ml_X0_54 (rX3 C hP) rfl hl.1 (rest := []) rfl (Nat.le_of_ble_eq_true rfl) ⟨rfl, rfl, Nat.le_of_ble_eq_true rfl, Nat.le_of_ble_eq_true rfl⟩ ⟨Nat.zero_le _, Nat.zero_le _⟩ dX0_setLink_3 ?_
  refine lv_istore (lv' := [(4, .int (fX0_linkAt S x1 x2)), (0, .ref (a 3)), (1, .int x1), (2, .int x2), (3, .int x3)]) hx hb dX0_setLink_6 hl (by decide) rfl (fun ls hl => ?_)
  refine lv_aload_n hx hb dX0_setLink_8 rfl (lv_at hl 1 rfl) ?_
  refine gX3_wide C hP fl_X0_15 dX0_setLink_9 (v := (S.1 4)) rfl ?_
  refine lv_if_eq (tgt := 28) hx hb dX0_setLink_12 (by decide) (fun c1 => ?_) (fun c1 => ?_)
  · rw [if_pos c1] at h
    refine lv_aload_n hx hb dX0_setLink_28 rfl (lv_at hl 1 rfl) ?_
    refine gX3_memory C hP fl_X0_9 dX0_setLink_29 ?_
    refine lv_iload hx hb dX0_setLink_32 (lv_at hl 0 rfl) ?_
    refine lv_iload_n hx hb dX0_setLink_34 rfl (lv_at hl 4 rfl) ?_
    refine wrV (Ek_est a) C hP (hDA _) hA hS hE0 (c_X2_set l D k a _ (fX0_linkAt S x1 x2) x3) my_X2_set ml_X0_39 (rX1 C hP) rfl hl.1 (rest := []) rfl (Nat.le_of_ble_eq_true rfl) ⟨rfl, rfl, Nat.le_of_ble_eq_true rfl, Nat.le_of_ble_eq_true rfl⟩ ⟨Nat.zero_le _, Nat.zero_le _⟩ dX0_setLink_35 (fun H locs hP hS _ _ => ?_)
    rw [← h]
    exact wr_vret C hr hlocks hP hS dX0_setLink_38
  · rw [if_neg c1] at h
    refine lv_aload_n hx hb dX0_setLink_15 rfl (lv_at hl 1 rfl) ?_
    refine gX3_memory C hP fl_X0_9 dX0_setLink_16 ?_
    refine lv_iload hx hb dX0_setLink_19 (lv_at hl 0 rfl) ?_
    refine lv_iload_n hx hb dX0_setLink_21 rfl (lv_at hl 4 rfl) ?_
    refine wrV (Ek_est a) C hP (hDA _) hA hS hE0 (c_X2_setWord l D k a _ (fX0_linkAt S x1 x2) x3) my_X2_setWord ml_X0_48 (rX1 C hP) rfl hl.1 (rest := []) rfl (Nat.le_of_ble_eq_true rfl) ⟨rfl, rfl, Nat.le_of_ble_eq_true rfl, Nat.le_of_ble_eq_true rfl⟩ ⟨Nat.zero_le _, Nat.zero_le _⟩ dX0_setLink_22 (fun H locs hP hS _ _ => ?_)
    refine lv_goto (tgt := 38) hx hb dX0_setLink_25 (by decide) ?_
    rw [← h]
    exact wr_vret C hr hlocks hP hS dX0_setLink_38
def fX0_comesTo_L : Nat → XS → Int32 → Int32 → Int32 → Int32 → Int32 → Option Bool
  | 0, _, _, _, _, _, _ => none
  | n + 1, S, y1, y2, y3, y4, y5 => (if (100 : Int32) < y5 then some (false) else (if (bI (fX0_has S y4)) = 0 then some (false) else (if y4 = y3 then some (true) else (fX0_comesTo_L n S y1 y2 y3 (fX0_link S y4 y2) (y5 + (1 : Int32))))))
def fX0_comesTo (S : XS) (x1 : Int32) (x2 : Int32) (x3 : Int32) : Option Bool := (fX0_comesTo_L 102 S x1 x2 x3 x1 (0 : Int32))
set_option maxRecDepth 100000 in
set_option maxHeartbeats 4000000 in
theorem c_X0_comesTo (l : Launch) (D : va_G) (k : Nat → ClassId) (a : Nat → Nat) (S : XS) (x1 : Int32) (x2 : Int32) (x3 : Int32) (u : Bool) (h : fX0_comesTo S x1 x2 x3 = some u) : Rd (Ek a) l D (tyk k) (wX k a S) yX0_comesTo cX0_comesTo 6 (some .boolean) (rmm 3 66) [.ref (a 3), .int x1, .int x2, .int x3] (bI u) := by
  refine rd_start (by decide) (Nat.le_of_ble_eq_true rfl) ?_
  intro p e s m below meth c C hr hlocks hP hE0 ls hl
  have hl : lv_has ls 6 [(0, .ref (a 3)), (1, .int x1), (2, .int x2), (3, .int x3)] := hl
  obtain ⟨⟨hx, hb, hml, hown, hts⟩, hK⟩ := id C
  have L : ∀ n : Nat, ∀ (y1 : Int32) (y2 : Int32) (y3 : Int32) (y4 : Int32) (y5 : Int32) (ls : Array Slot), lv_has ls 6 [(0, .ref (a 3)), (1, .int y1), (2, .int y2), (3, .int y3), (4, .int y4), (5, .int y5)] → fX0_comesTo_L n S y1 y2 y3 y4 y5 = some u → W p l e (rmm 3 66) s m ([.ref (a 3), .int x1, .int x2, .int x3] : List Value).toArray below meth c s.heap [] 0 0 (MQ below (QcRead (bI u)) ([.ref (a 3), .int x1, .int x2, .int x3] : List Value).toArray s 0 0 (fun _ => False)) (F0 m 6 ls []) := by
    intro n
    induction n with
    | zero => intro y1 y2 y3 y4 y5 ls hl h; cases h
    | succ n ih =>
      intro y1 y2 y3 y4 y5 ls hl h
      rw [fX0_comesTo_L] at h
      refine lv_iload hx hb dX0_comesTo_6 (lv_at hl 5 rfl) ?_
      refine lv_bipush (v := (100 : Int32)) hx hb dX0_comesTo_8 (by decide) ?_
      refine lv_icmp_gt (tgt := 45) hx hb dX0_comesTo_10 (by decide) (fun c1 => ?_) (fun c1 => ?_)
      · rw [if_pos c1] at h
        refine lv_iconst (v := (0 : Int32)) hx hb dX0_comesTo_45 (by decide) ?_
        rw [← Option.some.inj h]
        exact rd_zret (v := false) C hr hlocks dX0_comesTo_46
      · rw [if_neg c1] at h
        refine lv_aload_n hx hb dX0_comesTo_13 rfl (lv_at hl 0 rfl) ?_
        refine lv_iload hx hb dX0_comesTo_14 (lv_at hl 4 rfl) ?_
        refine rdV (Ek_est a) C hP hE0 (c_X0_has l D k a _ y4) my_X0_has ml_X0_61 (rX3 C hP) rfl hl.1 (rest := []) rfl (Nat.le_of_ble_eq_true rfl) ⟨rfl, rfl, Nat.le_of_ble_eq_true rfl, Nat.le_of_ble_eq_true rfl⟩ ⟨Nat.zero_le _, Nat.zero_le _⟩ dX0_comesTo_16 ?_
        refine lv_if_eq (tgt := 45) hx hb dX0_comesTo_19 (by decide) (fun c2 => ?_) (fun c2 => ?_)
        · rw [if_pos c2] at h
          refine lv_iconst (v := (0 : Int32)) hx hb dX0_comesTo_45 (by decide) ?_
          rw [← Option.some.inj h]
          exact rd_zret (v := false) C hr hlocks dX0_comesTo_46
        · rw [if_neg c2] at h
          refine lv_iload hx hb dX0_comesTo_22 (lv_at hl 4 rfl) ?_
          refine lv_iload_n hx hb dX0_comesTo_24 rfl (lv_at hl 3 rfl) ?_
          refine lv_icmp_ne (tgt := 30) hx hb dX0_comesTo_25 (by decide) (fun c3 => ?_) (fun c3 => ?_)
          · rw [if_neg c3] at h
            refine lv_aload_n hx hb dX0_comesTo_30 rfl (lv_at hl 0 rfl) ?_
            refine lv_iload hx hb dX0_comesTo_31 (lv_at hl 4 rfl) ?_
            refine lv_iload_n hx hb dX0_comesTo_33 rfl (lv_at hl 2 rfl) ?_
            refine rdV (Ek_est a) C hP hE0 (c_X0_link l D k a _ y4 y2) my_X0_link ml_X0_65 (rX3 C hP) rfl hl.1 (rest := []) rfl (Nat.le_of_ble_eq_true rfl) ⟨rfl, rfl, Nat.le_of_ble_eq_true rfl, Nat.le_of_ble_eq_true rfl⟩ ⟨Nat.zero_le _, Nat.zero_le _⟩ dX0_comesTo_34 ?_
            refine lv_istore (lv' := [(4, .int (fX0_link S y4 y2)), (0, .ref (a 3)), (1, .int y1), (2, .int y2), (3, .int y3), (5, .int y5)]) hx hb dX0_comesTo_37 hl (by decide) rfl (fun ls hl => ?_)
            refine lv_iinc (v := (y5 + (1 : Int32))) (lv' := [(5, .int (y5 + (1 : Int32))), (4, .int (fX0_link S y4 y2)), (0, .ref (a 3)), (1, .int y1), (2, .int y2), (3, .int y3)]) hx hb dX0_comesTo_39 hl (k := 5) rfl rfl (by decide) rfl (fun ls hl => ?_)
            refine lv_goto (tgt := 6) hx hb dX0_comesTo_42 (by decide) ?_
            exact ih _ _ _ _ _ ls (lv_sub hl [2, 3, 4, 5, 1, 0] rfl) h
          · rw [if_pos c3] at h
            refine lv_iconst (v := (1 : Int32)) hx hb dX0_comesTo_28 (by decide) ?_
            rw [← Option.some.inj h]
            exact rd_zret (v := true) C hr hlocks dX0_comesTo_29
  rw [fX0_comesTo] at h
  refine lv_iload_n hx hb dX0_comesTo_0 rfl (lv_at hl 1 rfl) ?_
  refine lv_istore (lv' := [(4, .int x1), (0, .ref (a 3)), (1, .int x1), (2, .int x2), (3, .int x3)]) hx hb dX0_comesTo_1 hl (by decide) rfl (fun ls hl => ?_)
  refine lv_iconst (v := (0 : Int32)) hx hb dX0_comesTo_3 (by decide) ?_
  refine lv_istore (lv' := [(5, .int (0 : Int32)), (4, .int x1), (0, .ref (a 3)), (1, .int x1), (2, .int x2), (3, .int x3)]) hx hb dX0_comesTo_4 hl (by decide) rfl (fun ls hl => ?_)
  exact L 102 _ _ _ _ _ ls (lv_sub hl [2, 3, 4, 5, 1, 0] rfl) h
def fX0_isInRowOf (S : XS) (x1 : Int32) (x2 : Int32) : Option Bool := (ob (fX0_comesTo S (fX0_link S x1 (2 : Int32)) (1 : Int32) x2) (fun u1 => some (u1)))
set_option maxRecDepth 100000 in
set_option maxHeartbeats 4000000 in
theorem c_X0_isInRowOf (l : Launch) (D : va_G) (k : Nat → ClassId) (a : Nat → Nat) (S : XS) (x1 : Int32) (x2 : Int32) (u : Bool) (h : fX0_isInRowOf S x1 x2 = some u) : Rd (Ek a) l D (tyk k) (wX k a S) yX0_isInRowOf cX0_isInRowOf 3 (some .boolean) (rmm 4 91) [.ref (a 3), .int x1, .int x2] (bI u) := by
  refine rd_start (by decide) (Nat.le_of_ble_eq_true rfl) ?_
  intro p e s m below meth c C hr hlocks hP hE0 ls hl
  have hl : lv_has ls 3 [(0, .ref (a 3)), (1, .int x1), (2, .int x2)] := hl
  obtain ⟨⟨hx, hb, hml, hown, hts⟩, hK⟩ := id C
  rw [fX0_isInRowOf] at h
  refine lv_aload_n hx hb dX0_isInRowOf_0 rfl (lv_at hl 0 rfl) ?_
  refine lv_aload_n hx hb dX0_isInRowOf_1 rfl (lv_at hl 0 rfl) ?_
  refine lv_iload_n hx hb dX0_isInRowOf_2 rfl (lv_at hl 1 rfl) ?_
  refine lv_iconst (v := (2 : Int32)) hx hb dX0_isInRowOf_3 (by decide) ?_
  refine rdV (Ek_est a) C hP hE0 (c_X0_link l D k a _ x1 (2 : Int32)) my_X0_link ml_X0_65 (rX3 C hP) rfl hl.1 (rest := [.ref (a 3)]) rfl (Nat.le_of_ble_eq_true rfl) ⟨rfl, rfl, Nat.le_of_ble_eq_true rfl, Nat.le_of_ble_eq_true rfl⟩ ⟨Nat.zero_le _, Nat.zero_le _⟩ dX0_isInRowOf_4 ?_
  refine lv_iconst (v := (1 : Int32)) hx hb dX0_isInRowOf_7 (by decide) ?_
  refine lv_iload_n hx hb dX0_isInRowOf_8 rfl (lv_at hl 2 rfl) ?_
  obtain ⟨u1, hhu1, h⟩ := ob_some h
  refine rdV (Ek_est a) C hP hE0 (c_X0_comesTo l D k a _ (fX0_link S x1 (2 : Int32)) (1 : Int32) x2 u1 hhu1) my_X0_comesTo ml_X0_68 (rX3 C hP) rfl hl.1 (rest := []) rfl (Nat.le_of_ble_eq_true rfl) ⟨rfl, rfl, Nat.le_of_ble_eq_true rfl, Nat.le_of_ble_eq_true rfl⟩ ⟨Nat.zero_le _, Nat.zero_le _⟩ dX0_isInRowOf_9 ?_
  rw [← Option.some.inj h]
  exact rd_zret (v := u1) C hr hlocks dX0_isInRowOf_12
