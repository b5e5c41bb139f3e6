def fX4_takeS (S : XS) : Int32 × XS := if S.1 20 = 0 then fX4_take9 S else fX4_take10 S
theorem c_X4_takeS (l : Launch) (D : va_G) (k : Nat → ClassId) (a : Nat → Nat) (S : XS) : Wr (Ek a) l D (tyk k) (wX k a S) (wX k a (fX4_takeS S).2) yX4_take cX4_take 2 (some .int) (rmm 2 42) [.ref (sg a S)] (some (.int (fX4_takeS S).1)) := by
  by_cases h : S.1 20 = 0
  · rw [show sg a S = a 9 from if_pos h, show fX4_takeS S = fX4_take9 S from if_pos h]
    exact c_X4_take9 l D k a S
  · rw [show sg a S = a 10 from if_neg h, show fX4_takeS S = fX4_take10 S from if_neg h]
    exact c_X4_take10 l D k a S
def fX5_byteAt (S : XS) (x1 : Int32) : Option Int32 := (if x1 < 0 then some (0 : Int32) else (if (S.1 16) ≤ x1 then some (0 : Int32) else (ob (gd x1 250) (fun _ => some ((S.2 3 x1.toNatClampNeg) &&& (255 : Int32))))))
set_option maxRecDepth 100000 in
set_option maxHeartbeats 4000000 in
theorem c_X5_byteAt (l : Launch) (D : va_G) (k : Nat → ClassId) (a : Nat → Nat) (S : XS) (x1 : Int32) (u : Int32) (h : fX5_byteAt S x1 = some u) : Rd (Ek a) l D (tyk k) (wX k a S) yX5_byteAt cX5_byteAt 2 (some .int) (rmm 0 0) [.ref (a 8), .int x1] u := by
  refine rd_start (by decide) (Nat.le_of_ble_eq_true rfl) ?_
  intro p e s m below meth c C hr hlocks hP hE0 ls hl
  have hl : lv_has ls 2 [(0, .ref (a 8)), (1, .int x1)] := hl
  obtain ⟨⟨hx, hb, hml, hown, hts⟩, hK⟩ := id C
  rw [fX5_byteAt] at h
  refine lv_iload_n hx hb dX5_byteAt_0 rfl (lv_at hl 1 rfl) ?_
  refine lv_if_lt (tgt := 25) hx hb dX5_byteAt_1 (by decide) (fun c1 => ?_) (fun c1 => ?_)
  · rw [if_pos c1] at h
    refine lv_iconst (v := (0 : Int32)) hx hb dX5_byteAt_25 (by decide) ?_
    rw [← Option.some.inj h]
    exact rd_iret C hr hlocks dX5_byteAt_26
  · rw [if_neg c1] at h
    refine lv_iload_n hx hb dX5_byteAt_4 rfl (lv_at hl 1 rfl) ?_
    refine lv_aload_n hx hb dX5_byteAt_5 rfl (lv_at hl 0 rfl) ?_
    refine gX8_size C hP fl_X5_38 dX5_byteAt_6 (v := (S.1 16)) rfl ?_
    refine lv_icmp_ge (tgt := 25) hx hb dX5_byteAt_9 (by decide) (fun c2 => ?_) (fun c2 => ?_)
    · rw [if_pos c2] at h
      refine lv_iconst (v := (0 : Int32)) hx hb dX5_byteAt_25 (by decide) ?_
      rw [← Option.some.inj h]
      exact rd_iret C hr hlocks dX5_byteAt_26
    · rw [if_neg c2] at h
      refine lv_aload_n hx hb dX5_byteAt_12 rfl (lv_at hl 0 rfl) ?_
      refine gX8_text C hP fl_X5_34 dX5_byteAt_13 ?_
      refine lv_iload_n hx hb dX5_byteAt_16 rfl (lv_at hl 1 rfl) ?_
      obtain ⟨_, hg, h⟩ := ob_some h
      refine aX11 C hP (gd_in hg) dX5_byteAt_17 (v := (S.2 3 x1.toNatClampNeg)) rfl ?_
      refine lv_sipush (v := (255 : Int32)) hx hb dX5_byteAt_18 (by decide) ?_
      refine lv_iand hx hb dX5_byteAt_21 ?_
      refine lv_goto (tgt := 26) hx hb dX5_byteAt_22 (by decide) ?_
      rw [← Option.some.inj h]
      exact rd_iret C hr hlocks dX5_byteAt_26
def fX5_useAlphabet (S : XS) (x1 : Int32) : XS := (pS (pS S 17 x1) 19 x1)
set_option maxRecDepth 100000 in
set_option maxHeartbeats 4000000 in
theorem c_X5_useAlphabet (l : Launch) (D : va_G) (k : Nat → ClassId) (a : Nat → Nat) (S : XS) (x1 : Int32) : Wr (Ek a) l D (tyk k) (wX k a S) (wX k a (fX5_useAlphabet S x1)) yX5_useAlphabet cX5_useAlphabet 2 none (rmm 0 0) [.ref (a 8), .int x1] none := by
  generalize h : fX5_useAlphabet S x1 = u
  refine wr_start (by decide) (Nat.le_of_ble_eq_true rfl) ?_
  intro p e s m below meth c A C hr hlocks hP hD0 hA hE0 ls hl
  have hDA : ∀ S, va_D A (wX k a S) := wX_D hD0
  have hS : va_S A s.heap s.heap [] := va_S.rf
  have hl : lv_has ls 2 [(0, .ref (a 8)), (1, .int x1)] := hl
  obtain ⟨⟨hx, hb, hml, hown, hts⟩, hK⟩ := id C
  rw [fX5_useAlphabet] at h
  refine lv_aload_n hx hb dX5_useAlphabet_0 rfl (lv_at hl 0 rfl) ?_
  refine lv_iload_n hx hb dX5_useAlphabet_1 rfl (lv_at hl 1 rfl) ?_
  refine pX8_atHand C hP (hDA _) hS fl_X5_70 dX5_useAlphabet_2 (fun H locs hP hS => ?_)
  refine lv_aload_n hx hb dX5_useAlphabet_5 rfl (lv_at hl 0 rfl) ?_
  refine lv_iload_n hx hb dX5_useAlphabet_6 rfl (lv_at hl 1 rfl) ?_
  refine pX8_alphabet C hP (hDA _) hS fl_X5_73 dX5_useAlphabet_7 (fun H locs hP hS => ?_)
  rw [← h]
  exact wr_vret C hr hlocks hP hS dX5_useAlphabet_10
def fX5_read9 (S : XS) (x2 : Int32) : XS := (fX5_useAlphabet (pS S 20 (0 : Int32)) x2)
set_option maxRecDepth 100000 in
set_option maxHeartbeats 4000000 in
theorem c_X5_read9 (l : Launch) (D : va_G) (k : Nat → ClassId) (a : Nat → Nat) (S : XS) (x2 : Int32) : Wr (Ek a) l D (tyk k) (wX k a S) (wX k a (fX5_read9 S x2)) yX5_read cX5_read 3 none (rmm 1 21) [.ref (a 8), .ref (a 9), .int x2] none := by
  generalize h : fX5_read9 S x2 = u
  refine wr_start (by decide) (Nat.le_of_ble_eq_true rfl) ?_
  intro p e s m below meth c A C hr hlocks hP hD0 hA hE0 ls hl
  have hDA : ∀ S, va_D A (wX k a S) := wX_D hD0
  have hS : va_S A s.heap s.heap [] := va_S.rf
  have hl : lv_has ls 3 [(0, .ref (a 8)), (1, .ref (a 9)), (2, .int x2)] := hl
  obtain ⟨⟨hx, hb, hml, hown, hts⟩, hK⟩ := id C
  rw [fX5_read9] at h
  refine lv_aload_n hx hb dX5_read_0 rfl (lv_at hl 0 rfl) ?_
  refine lv_aload_n hx hb dX5_read_1 rfl (lv_at hl 1 rfl) ?_
  refine pX8_signs9 C hP (hDA _) hS fl_X5_31 dX5_read_2 (fun H locs hP hS => ?_)
  refine lv_aload_n hx hb dX5_read_5 rfl (lv_at hl 0 rfl) ?_
  refine lv_iload_n hx hb dX5_read_6 rfl (lv_at hl 2 rfl) ?_
  refine wrV (Ek_est a) C hP (hDA _) hA hS hE0 (c_X5_useAlphabet l D k a _ x2) my_X5_useAlphabet ml_X5_67 (rX8 C hP) rfl hl.1 (rest := []) rfl (Nat.le_of_ble_eq_true rfl) ⟨rfl, rfl, Nat.le_of_ble_eq_true rfl, Nat.le_of_ble_eq_true rfl⟩ ⟨Nat.zero_le _, Nat.zero_le _⟩ dX5_read_7 (fun H locs hP hS _ _ => ?_)
  rw [← h]
  exact wr_vret C hr hlocks hP hS dX5_read_10
def fX5_read10 (S : XS) (x2 : Int32) : XS := (fX5_useAlphabet (pS S 20 (1 : Int32)) x2)
set_option maxRecDepth 100000 in
set_option maxHeartbeats 4000000 in
theorem c_X5_read10 (l : Launch) (D : va_G) (k : Nat → ClassId) (a : Nat → Nat) (S : XS) (x2 : Int32) : Wr (Ek a) l D (tyk k) (wX k a S) (wX k a (fX5_read10 S x2)) yX5_read cX5_read 3 none (rmm 1 21) [.ref (a 8), .ref (a 10), .int x2] none := by
  generalize h : fX5_read10 S x2 = u
  refine wr_start (by decide) (Nat.le_of_ble_eq_true rfl) ?_
  intro p e s m below meth c A C hr hlocks hP hD0 hA hE0 ls hl
  have hDA : ∀ S, va_D A (wX k a S) := wX_D hD0
  have hS : va_S A s.heap s.heap [] := va_S.rf
  have hl : lv_has ls 3 [(0, .ref (a 8)), (1, .ref (a 10)), (2, .int x2)] := hl
  obtain ⟨⟨hx, hb, hml, hown, hts⟩, hK⟩ := id C
  rw [fX5_read10] at h
  refine lv_aload_n hx hb dX5_read_0 rfl (lv_at hl 0 rfl) ?_
  refine lv_aload_n hx hb dX5_read_1 rfl (lv_at hl 1 rfl) ?_
  refine pX8_signs10 C hP (hDA _) hS fl_X5_31 dX5_read_2 (fun H locs hP hS => ?_)
  refine lv_aload_n hx hb dX5_read_5 rfl (lv_at hl 0 rfl) ?_
  refine lv_iload_n hx hb dX5_read_6 rfl (lv_at hl 2 rfl) ?_
  refine wrV (Ek_est a) C hP (hDA _) hA hS hE0 (c_X5_useAlphabet l D k a _ x2) my_X5_useAlphabet ml_X5_67 (rX8 C hP) rfl hl.1 (rest := []) rfl (Nat.le_of_ble_eq_true rfl) ⟨rfl, rfl, Nat.le_of_ble_eq_true rfl, Nat.le_of_ble_eq_true rfl⟩ ⟨Nat.zero_le _, Nat.zero_le _⟩ dX5_read_7 (fun H locs hP hS _ _ => ?_)
  rw [← h]
  exact wr_vret C hr hlocks hP hS dX5_read_10
def fX5_say (S : XS) (x1 : Int32) : Option XS := (if (250 : Int32) ≤ (S.1 16) then some (S) else (ob (gd (S.1 16) 250) (fun _ => some (pS (pA S 3 (S.1 16) (vp_nar .byte (x1.toInt8.toInt32))) 16 ((S.1 16) + (1 : Int32))))))
set_option maxRecDepth 100000 in
set_option maxHeartbeats 4000000 in
theorem c_X5_say (l : Launch) (D : va_G) (k : Nat → ClassId) (a : Nat → Nat) (S : XS) (x1 : Int32) (u : XS) (h : fX5_say S x1 = some u) : Wr (Ek a) l D (tyk k) (wX k a S) (wX k a u) yX5_say cX5_say 2 none (rmm 0 0) [.ref (a 8), .int x1] none := by
  refine wr_start (by decide) (Nat.le_of_ble_eq_true rfl) ?_
  intro p e s m below meth c A C hr hlocks hP hD0 hA hE0 ls hl
  have hDA : ∀ S, va_D A (wX k a S) := wX_D hD0
  have hS : va_S A s.heap s.heap [] := va_S.rf
  have hl : lv_has ls 2 [(0, .ref (a 8)), (1, .int x1)] := hl
  obtain ⟨⟨hx, hb, hml, hown, hts⟩, hK⟩ := id C
  rw [fX5_say] at h
  refine lv_aload_n hx hb dX5_say_0 rfl (lv_at hl 0 rfl) ?_
  refine gX8_size C hP fl_X5_38 dX5_say_1 (v := (S.1 16)) rfl ?_
  refine lv_sipush (v := (250 : Int32)) hx hb dX5_say_4 (by decide) ?_
  refine lv_icmp_ge (tgt := 31) hx hb dX5_say_7 (by decide) (fun c1 => ?_) (fun c1 => ?_)
  · rw [if_pos c1] at h
    rw [← Option.some.inj h]
    exact wr_vret C hr hlocks hP hS dX5_say_31
  · rw [if_neg c1] at h
    refine lv_aload_n hx hb dX5_say_10 rfl (lv_at hl 0 rfl) ?_
    refine gX8_text C hP fl_X5_34 dX5_say_11 ?_
    refine lv_aload_n hx hb dX5_say_14 rfl (lv_at hl 0 rfl) ?_
    refine gX8_size C hP fl_X5_38 dX5_say_15 (v := (S.1 16)) rfl ?_
    refine lv_iload_n hx hb dX5_say_18 rfl (lv_at hl 1 rfl) ?_
    refine lv_i2b hx hb dX5_say_19 rfl ?_
    obtain ⟨_, hg, h⟩ := ob_some h
    refine sX11 C hP (hDA _) hS (gd_in hg) dX5_say_20 (fun H locs hP hS => ?_)
    refine lv_aload_n hx hb dX5_say_21 rfl (lv_at hl 0 rfl) ?_
    refine lv_dup hx hb dX5_say_22 rfl ?_
    refine gX8_size C hP fl_X5_38 dX5_say_23 (v := (S.1 16)) rfl ?_
    refine lv_iconst (v := (1 : Int32)) hx hb dX5_say_26 (by decide) ?_
    refine lv_iadd hx hb dX5_say_27 ?_
    refine pX8_size C hP (hDA _) hS fl_X5_38 dX5_say_28 (fun H locs hP hS => ?_)
    rw [← Option.some.inj h]
    exact wr_vret C hr hlocks hP hS dX5_say_31
def fX5_shift (S : XS) (x1 : Int32) : XS := (if (S.1 15) < (3 : Int32) then (if (3 : Int32) < x1 then (fX5_useAlphabet S ((((S.1 17) + x1) - (3 : Int32)) - (((S.1 17) + x1) - (3 : Int32)) / (3 : Int32) * (3 : Int32))) else (pS S 19 ((((S.1 17) + x1) - (1 : Int32)) - (((S.1 17) + x1) - (1 : Int32)) / (3 : Int32) * (3 : Int32)))) else (pS S 19 (x1 - (3 : Int32))))
set_option maxRecDepth 100000 in
set_option maxHeartbeats 4000000 in
theorem c_X5_shift (l : Launch) (D : va_G) (k : Nat → ClassId) (a : Nat → Nat) (S : XS) (x1 : Int32) : Wr (Ek a) l D (tyk k) (wX k a S) (wX k a (fX5_shift S x1)) yX5_shift cX5_shift 2 none (rmm 1 21) [.ref (a 8), .int x1] none := by
  generalize h : fX5_shift S x1 = u
  refine wr_start (by decide) (Nat.le_of_ble_eq_true rfl) ?_
  intro p e s m below meth c A C hr hlocks hP hD0 hA hE0 ls hl
  have hDA : ∀ S, va_D A (wX k a S) := wX_D hD0
  have hS : va_S A s.heap s.heap [] := va_S.rf
  have hl : lv_has ls 2 [(0, .ref (a 8)), (1, .int x1)] := hl
  obtain ⟨⟨hx, hb, hml, hown, hts⟩, hK⟩ := id C
  rw [fX5_shift] at h
  refine lv_aload_n hx hb dX5_shift_0 rfl (lv_at hl 0 rfl) ?_
  refine gX8_version C hP fl_X5_15 dX5_shift_1 (v := (S.1 15)) rfl ?_
  refine lv_iconst (v := (3 : Int32)) hx hb dX5_shift_4 (by decide) ?_
  refine lv_icmp_lt (tgt := 18) hx hb dX5_shift_5 (by decide) (fun c1 => ?_) (fun c1 => ?_)
  · rw [if_pos c1] at h
    refine lv_iload_n hx hb dX5_shift_18 rfl (lv_at hl 1 rfl) ?_
    refine lv_iconst (v := (3 : Int32)) hx hb dX5_shift_19 (by decide) ?_
    refine lv_icmp_gt (tgt := 40) hx hb dX5_shift_20 (by decide) (fun c2 => ?_) (fun c2 => ?_)
    · rw [if_pos c2] at h
      refine lv_aload_n hx hb dX5_shift_40 rfl (lv_at hl 0 rfl) ?_
      refine lv_aload_n hx hb dX5_shift_41 rfl (lv_at hl 0 rfl) ?_
      refine gX8_atHand C hP fl_X5_70 dX5_shift_42 (v := (S.1 17)) rfl ?_
      refine lv_iload_n hx hb dX5_shift_45 rfl (lv_at hl 1 rfl) ?_
      refine lv_iadd hx hb dX5_shift_46 ?_
      refine lv_iconst (v := (3 : Int32)) hx hb dX5_shift_47 (by decide) ?_
      refine lv_isub hx hb dX5_shift_48 ?_
      refine lv_iconst (v := (3 : Int32)) hx hb dX5_shift_49 (by decide) ?_
      refine lv_irem hx hb dX5_shift_50 (by decide) ?_
      refine wrV (Ek_est a) C hP (hDA _) hA hS hE0 (c_X5_useAlphabet l D k a _ ((((S.1 17) + x1) - (3 : Int32)) - (((S.1 17) + x1) - (3 : Int32)) / (3 : Int32) * (3 : Int32))) my_X5_useAlphabet ml_X5_67 (rX8 C hP) rfl hl.1 (rest := []) rfl (Nat.le_of_ble_eq_true rfl) ⟨rfl, rfl, Nat.le_of_ble_eq_true rfl, Nat.le_of_ble_eq_true rfl⟩ ⟨Nat.zero_le _, Nat.zero_le _⟩ dX5_shift_51 (fun H locs hP hS _ _ => ?_)
      rw [← h]
      exact wr_vret C hr hlocks hP hS dX5_shift_54
    · rw [if_neg c2] at h
      refine lv_aload_n hx hb dX5_shift_23 rfl (lv_at hl 0 rfl) ?_
      refine lv_aload_n hx hb dX5_shift_24 rfl (lv_at hl 0 rfl) ?_
      refine gX8_atHand C hP fl_X5_70 dX5_shift_25 (v := (S.1 17)) rfl ?_
      refine lv_iload_n hx hb dX5_shift_28 rfl (lv_at hl 1 rfl) ?_
      refine lv_iadd hx hb dX5_shift_29 ?_
      refine lv_iconst (v := (1 : Int32)) hx hb dX5_shift_30 (by decide) ?_
      refine lv_isub hx hb dX5_shift_31 ?_
      refine lv_iconst (v := (3 : Int32)) hx hb dX5_shift_32 (by decide) ?_
      refine lv_irem hx hb dX5_shift_33 (by decide) ?_
      refine pX8_alphabet C hP (hDA _) hS fl_X5_73 dX5_shift_34 (fun H locs hP hS => ?_)
      refine lv_goto (tgt := 54) hx hb dX5_shift_37 (by decide) ?_
      rw [← h]
      exact wr_vret C hr hlocks hP hS dX5_shift_54
  · rw [if_neg c1] at h
    refine lv_aload_n hx hb dX5_shift_8 rfl (lv_at hl 0 rfl) ?_
    refine lv_iload_n hx hb dX5_shift_9 rfl (lv_at hl 1 rfl) ?_
    refine lv_iconst (v := (3 : Int32)) hx hb dX5_shift_10 (by decide) ?_
    refine lv_isub hx hb dX5_shift_11 ?_
    refine pX8_alphabet C hP (hDA _) hS fl_X5_73 dX5_shift_12 (fun H locs hP hS => ?_)
    refine lv_goto (tgt := 54) hx hb dX5_shift_15 (by decide) ?_
    rw [← h]
    exact wr_vret C hr hlocks hP hS dX5_shift_54
def fX5_letter (S : XS) (x1 : Int32) (x2 : Int32) : Int32 := (if x1 = 0 then (((97 : Int32) + x2) - (6 : Int32)) else (if x1 = (1 : Int32) then (((65 : Int32) + x2) - (6 : Int32)) else (if (S.1 15) = (1 : Int32) then (fX5_charIn20 S (x2 - (7 : Int32))) else (if x2 = (7 : Int32) then (13 : Int32) else (fX5_charIn21 S (x2 - (8 : Int32)))))))
set_option maxRecDepth 100000 in
set_option maxHeartbeats 4000000 in
theorem c_X5_letter (l : Launch) (D : va_G) (k : Nat → ClassId) (a : Nat → Nat) (S : XS) (x1 : Int32) (x2 : Int32) : Rd (Ek a) l D (tyk k) (wX k a S) yX5_letter cX5_letter 3 (some .int) (rmm 5 106) [.ref (a 8), .int x1, .int x2] (fX5_letter S x1 x2) := by
  generalize h : fX5_letter S x1 x2 = u
  refine rd_start (by decide) (Nat.le_of_ble_eq_true rfl) ?_
  intro p e s m below meth c C hr hlocks hP hE0 ls hl
  have hl : lv_has ls 3 [(0, .ref (a 8)), (1, .int x1), (2, .int x2)] := hl
  obtain ⟨⟨hx, hb, hml, hown, hts⟩, hK⟩ := id C
  rw [fX5_letter] at h
  refine lv_iload_n hx hb dX5_letter_0 rfl (lv_at hl 1 rfl) ?_
  refine lv_if_ne (tgt := 12) hx hb dX5_letter_1 (by decide) (fun c1 => ?_) (fun c1 => ?_)
  · rw [if_neg c1] at h
    refine lv_iload_n hx hb dX5_letter_12 rfl (lv_at hl 1 rfl) ?_
    refine lv_iconst (v := (1 : Int32)) hx hb dX5_letter_13 (by decide) ?_
    refine lv_icmp_ne (tgt := 25) hx hb dX5_letter_14 (by decide) (fun c2 => ?_) (fun c2 => ?_)
    · rw [if_neg c2] at h
      refine lv_aload_n hx hb dX5_letter_25 rfl (lv_at hl 0 rfl) ?_
      refine gX8_version C hP fl_X5_15 dX5_letter_26 (v := (S.1 15)) rfl ?_
      refine lv_iconst (v := (1 : Int32)) hx hb dX5_letter_29 (by decide) ?_
      refine lv_icmp_ne (tgt := 43) hx hb dX5_letter_30 (by decide) (fun c3 => ?_) (fun c3 => ?_)
      · rw [if_neg c3] at h
        refine lv_iload_n hx hb dX5_letter_43 rfl (lv_at hl 2 rfl) ?_
        refine lv_bipush (v := (7 : Int32)) hx hb dX5_letter_44 (by decide) ?_
        refine lv_icmp_ne (tgt := 54) hx hb dX5_letter_46 (by decide) (fun c4 => ?_) (fun c4 => ?_)
        · rw [if_neg c4] at h
          refine va_ldcS hx hb hown hE0.2.2.2.1 dX5_letter_54 ?_
          refine lv_iload_n hx hb dX5_letter_56 rfl (lv_at hl 2 rfl) ?_
          refine lv_bipush (v := (8 : Int32)) hx hb dX5_letter_57 (by decide) ?_
          refine lv_isub hx hb dX5_letter_59 ?_
          refine rdS (Ek_est a) C hP hE0 (c_X5_charIn21 l D k a _ (x2 - (8 : Int32))) my_X5_charIn ml_X5_98 rfl hl.1 (rest := []) rfl (Nat.le_of_ble_eq_true rfl) ⟨rfl, rfl, Nat.le_of_ble_eq_true rfl, Nat.le_of_ble_eq_true rfl⟩ ⟨Nat.zero_le _, Nat.zero_le _⟩ dX5_letter_60 ?_
          rw [← h]
          exact rd_iret C hr hlocks dX5_letter_63
        · rw [if_pos c4] at h
          refine lv_bipush (v := (13 : Int32)) hx hb dX5_letter_49 (by decide) ?_
          refine lv_goto (tgt := 63) hx hb dX5_letter_51 (by decide) ?_
          rw [← h]
          exact rd_iret C hr hlocks dX5_letter_63
      · rw [if_pos c3] at h
        refine va_ldcS hx hb hown hE0.2.2.1 dX5_letter_33 ?_
        refine lv_iload_n hx hb dX5_letter_35 rfl (lv_at hl 2 rfl) ?_
        refine lv_bipush (v := (7 : Int32)) hx hb dX5_letter_36 (by decide) ?_
        refine lv_isub hx hb dX5_letter_38 ?_
        refine rdS (Ek_est a) C hP hE0 (c_X5_charIn20 l D k a _ (x2 - (7 : Int32))) my_X5_charIn ml_X5_98 rfl hl.1 (rest := []) rfl (Nat.le_of_ble_eq_true rfl) ⟨rfl, rfl, Nat.le_of_ble_eq_true rfl, Nat.le_of_ble_eq_true rfl⟩ ⟨Nat.zero_le _, Nat.zero_le _⟩ dX5_letter_39 ?_
        rw [← h]
        exact rd_iret C hr hlocks dX5_letter_42
    · rw [if_pos c2] at h
      refine lv_bipush (v := (65 : Int32)) hx hb dX5_letter_17 (by decide) ?_
      refine lv_iload_n hx hb dX5_letter_19 rfl (lv_at hl 2 rfl) ?_
      refine lv_iadd hx hb dX5_letter_20 ?_
      refine lv_bipush (v := (6 : Int32)) hx hb dX5_letter_21 (by decide) ?_
      refine lv_isub hx hb dX5_letter_23 ?_
      rw [← h]
      exact rd_iret C hr hlocks dX5_letter_24
  · rw [if_pos c1] at h
    refine lv_bipush (v := (97 : Int32)) hx hb dX5_letter_4 (by decide) ?_
    refine lv_iload_n hx hb dX5_letter_6 rfl (lv_at hl 2 rfl) ?_
    refine lv_iadd hx hb dX5_letter_7 ?_
    refine lv_bipush (v := (6 : Int32)) hx hb dX5_letter_8 (by decide) ?_
    refine lv_isub hx hb dX5_letter_10 ?_
    rw [← h]
    exact rd_iret C hr hlocks dX5_letter_11
def fX5_sayOwn (S : XS)  : Option XS := (if (fX4_takeS S).1 = (-1 : Int32) then some (fX4_takeS (fX4_takeS S).2).2 else (if (fX4_takeS (fX4_takeS S).2).1 = (-1 : Int32) then some (fX4_takeS (fX4_takeS S).2).2 else (ob (fX5_say (fX4_takeS (fX4_takeS S).2).2 (((32 : Int32) * (fX4_takeS S).1) + (fX4_takeS (fX4_takeS S).2).1)) (fun u3 => some (u3)))))
set_option maxRecDepth 100000 in
set_option maxHeartbeats 4000000 in
theorem c_X5_sayOwn (l : Launch) (D : va_G) (k : Nat → ClassId) (a : Nat → Nat) (S : XS)  (u : XS) (h : fX5_sayOwn S = some u) : Wr (Ek a) l D (tyk k) (wX k a S) (wX k a u) yX5_sayOwn cX5_sayOwn 3 none (rmm 3 63) [.ref (a 8)] none := by
  refine wr_start (by decide) (Nat.le_of_ble_eq_true rfl) ?_
  intro p e s m below meth c A C hr hlocks hP hD0 hA hE0 ls hl
  have hDA : ∀ S, va_D A (wX k a S) := wX_D hD0
  have hS : va_S A s.heap s.heap [] := va_S.rf
  have hl : lv_has ls 3 [(0, .ref (a 8))] := hl
  obtain ⟨⟨hx, hb, hml, hown, hts⟩, hK⟩ := id C
  rw [fX5_sayOwn] at h
  refine lv_aload_n hx hb dX5_sayOwn_0 rfl (lv_at hl 0 rfl) ?_
  refine gX8_signs C hP fl_X5_31 dX5_sayOwn_1 ?_
  refine wrV (Ek_est a) C hP (hDA _) hA hS hE0 (c_X4_takeS l D k a _ ) my_X4_take ml_X5_56 (rXsg C hP) rfl hl.1 (rest := []) rfl (Nat.le_of_ble_eq_true rfl) ⟨rfl, rfl, Nat.le_of_ble_eq_true rfl, Nat.le_of_ble_eq_true rfl⟩ ⟨Nat.zero_le _, Nat.zero_le _⟩ dX5_sayOwn_4 (fun H locs hP hS _ _ => ?_)
  refine lv_istore_n (lv' := [(1, .int (fX4_takeS S).1), (0, .ref (a 8))]) hx hb dX5_sayOwn_7 rfl hl (by decide) rfl (fun ls hl => ?_)
  refine lv_aload_n hx hb dX5_sayOwn_8 rfl (lv_at hl 1 rfl) ?_
  refine gX8_signs C hP fl_X5_31 dX5_sayOwn_9 ?_
  refine wrV (Ek_est a) C hP (hDA _) hA hS hE0 (c_X4_takeS l D k a _ ) my_X4_take ml_X5_56 (rXsg C hP) rfl hl.1 (rest := []) rfl (Nat.le_of_ble_eq_true rfl) ⟨rfl, rfl, Nat.le_of_ble_eq_true rfl, Nat.le_of_ble_eq_true rfl⟩ ⟨Nat.zero_le _, Nat.zero_le _⟩ dX5_sayOwn_12 (fun H locs hP hS _ _ => ?_)
  refine lv_istore_n (lv' := [(2, .int (fX4_takeS (fX4_takeS S).2).1), (1, .int (fX4_takeS S).1), (0, .ref (a 8))]) hx hb dX5_sayOwn_15 rfl hl (by decide) rfl (fun ls hl => ?_)
  refine lv_iload_n hx hb dX5_sayOwn_16 rfl (lv_at hl 1 rfl) ?_
  refine lv_iconst (v := (-1 : Int32)) hx hb dX5_sayOwn_17 (by decide) ?_
  refine lv_icmp_eq (tgt := 36) hx hb dX5_sayOwn_18 (by decide) (fun c1 => ?_) (fun c1 => ?_)
  · rw [if_pos c1] at h
    rw [← Option.some.inj h]
    exact wr_vret C hr hlocks hP hS dX5_sayOwn_36
  · rw [if_neg c1] at h
    refine lv_iload_n hx hb dX5_sayOwn_21 rfl (lv_at hl 0 rfl) ?_
    refine lv_iconst (v := (-1 : Int32)) hx hb dX5_sayOwn_22 (by decide) ?_
    refine lv_icmp_eq (tgt := 36) hx hb dX5_sayOwn_23 (by decide) (fun c2 => ?_) (fun c2 => ?_)
    · rw [if_pos c2] at h
      rw [← Option.some.inj h]
      exact wr_vret C hr hlocks hP hS dX5_sayOwn_36
    · rw [if_neg c2] at h
      refine lv_aload_n hx hb dX5_sayOwn_26 rfl (lv_at hl 2 rfl) ?_
      refine lv_bipush (v := (32 : Int32)) hx hb dX5_sayOwn_27 (by decide) ?_
      refine lv_iload_n hx hb dX5_sayOwn_29 rfl (lv_at hl 1 rfl) ?_
      refine lv_imul hx hb dX5_sayOwn_30 ?_
      refine lv_iload_n hx hb dX5_sayOwn_31 rfl (lv_at hl 0 rfl) ?_
      refine lv_iadd hx hb dX5_sayOwn_32 ?_
      obtain ⟨u3, hhu3, h⟩ := ob_some h
      refine wrV (Ek_est a) C hP (hDA _) hA hS hE0 (c_X5_say l D k a _ (((32 : Int32) * (fX4_takeS S).1) + (fX4_takeS (fX4_takeS S).2).1) u3 hhu3) my_X5_say ml_X5_76 (rX8 C hP) rfl hl.1 (rest := []) rfl (Nat.le_of_ble_eq_true rfl) ⟨rfl, rfl, Nat.le_of_ble_eq_true rfl, Nat.le_of_ble_eq_true rfl⟩ ⟨Nat.zero_le _, Nat.zero_le _⟩ dX5_sayOwn_33 (fun H locs hP hS _ _ => ?_)
      rw [← Option.some.inj h]
      exact wr_vret C hr hlocks hP hS dX5_sayOwn_36
def fX5_abbreviate (S : XS) (x1 : Int32) : Option XS := (if (fX4_takeS S).1 = (-1 : Int32) then some (fX4_takeS S).2 else (if ((fX4_takeS S).2.1 20) = 0 then some (fX5_read10 (pS (fX4_begin10 (fX4_takeS S).2 (((2 : Int32) * (fX2_word (fX4_takeS S).2 ((64 : Int32) + ((2 : Int32) * (((32 : Int32) * (x1 - (1 : Int32))) + (fX4_takeS S).1))))) - ((2 : Int32) * (fX2_word (fX4_takeS S).2 ((64 : Int32) + ((2 : Int32) * (((32 : Int32) * (x1 - (1 : Int32))) + (fX4_takeS S).1))))) / (65536 : Int32) * (65536 : Int32)) (((4096 : Int32) - (((2 : Int32) * (fX2_word (fX4_takeS S).2 ((64 : Int32) + ((2 : Int32) * (((32 : Int32) * (x1 - (1 : Int32))) + (fX4_takeS S).1))))) - ((2 : Int32) * (fX2_word (fX4_takeS S).2 ((64 : Int32) + ((2 : Int32) * (((32 : Int32) * (x1 - (1 : Int32))) + (fX4_takeS S).1))))) / (65536 : Int32) * (65536 : Int32))) / (2 : Int32))) 18 ((fX4_begin10 (fX4_takeS S).2 (((2 : Int32) * (fX2_word (fX4_takeS S).2 ((64 : Int32) + ((2 : Int32) * (((32 : Int32) * (x1 - (1 : Int32))) + (fX4_takeS S).1))))) - ((2 : Int32) * (fX2_word (fX4_takeS S).2 ((64 : Int32) + ((2 : Int32) * (((32 : Int32) * (x1 - (1 : Int32))) + (fX4_takeS S).1))))) / (65536 : Int32) * (65536 : Int32)) (((4096 : Int32) - (((2 : Int32) * (fX2_word (fX4_takeS S).2 ((64 : Int32) + ((2 : Int32) * (((32 : Int32) * (x1 - (1 : Int32))) + (fX4_takeS S).1))))) - ((2 : Int32) * (fX2_word (fX4_takeS S).2 ((64 : Int32) + ((2 : Int32) * (((32 : Int32) * (x1 - (1 : Int32))) + (fX4_takeS S).1))))) / (65536 : Int32) * (65536 : Int32))) / (2 : Int32))).1 17)) (0 : Int32)) else (ob (fX5_say (fX4_takeS S).2 (63 : Int32)) (fun u3 => some (u3)))))
set_option maxRecDepth 100000 in
set_option maxHeartbeats 4000000 in
theorem c_X5_abbreviate (l : Launch) (D : va_G) (k : Nat → ClassId) (a : Nat → Nat) (S : XS) (x1 : Int32) (u : XS) (h : fX5_abbreviate S x1 = some u) : Wr (Ek a) l D (tyk k) (wX k a S) (wX k a u) yX5_abbreviate cX5_abbreviate 5 none (rmm 3 63) [.ref (a 8), .int x1] none := by
  refine wr_start (by decide) (Nat.le_of_ble_eq_true rfl) ?_
  intro p e s m below meth c A C hr hlocks hP hD0 hA hE0 ls hl
  have hDA : ∀ S, va_D A (wX k a S) := wX_D hD0
  have hS : va_S A s.heap s.heap [] := va_S.rf
  have hl : lv_has ls 5 [(0, .ref (a 8)), (1, .int x1)] := hl
  obtain ⟨⟨hx, hb, hml, hown, hts⟩, hK⟩ := id C
  rw [fX5_abbreviate] at h
  refine lv_aload_n hx hb dX5_abbreviate_0 rfl (lv_at hl 0 rfl) ?_
  refine gX8_signs C hP fl_X5_31 dX5_abbreviate_1 ?_
  refine wrV (Ek_est a) C hP (hDA _) hA hS hE0 (c_X4_takeS l D k a _ ) my_X4_take ml_X5_56 (rXsg C hP) rfl hl.1 (rest := []) rfl (Nat.le_of_ble_eq_true rfl) ⟨rfl, rfl, Nat.le_of_ble_eq_true rfl, Nat.le_of_ble_eq_true rfl⟩ ⟨Nat.zero_le _, Nat.zero_le _⟩ dX5_abbreviate_4 (fun H locs hP hS _ _ => ?_)
  refine lv_istore_n (lv' := [(2, .int (fX4_takeS S).1), (0, .ref (a 8)), (1, .int x1)]) hx hb dX5_abbreviate_7 rfl hl (by decide) rfl (fun ls hl => ?_)
  refine lv_iload_n hx hb dX5_abbreviate_8 rfl (lv_at hl 0 rfl) ?_
  refine lv_iconst (v := (-1 : Int32)) hx hb dX5_abbreviate_9 (by decide) ?_
  refine lv_icmp_ne (tgt := 14) hx hb dX5_abbreviate_10 (by decide) (fun c1 => ?_) (fun c1 => ?_)
  · rw [if_neg c1] at h
    refine lv_aload_n hx hb dX5_abbreviate_14 rfl (lv_at hl 1 rfl) ?_
    refine gX8_signs C hP fl_X5_31 dX5_abbreviate_15 ?_
    refine lv_aload_n hx hb dX5_abbreviate_18 rfl (lv_at hl 1 rfl) ?_
    refine gX8_ofAbbreviation C hP fl_X5_28 dX5_abbreviate_19 ?_
    refine acmp_ne (tgt := 32) hx hb (hDA _) dX5_abbreviate_22 (by decide) (v := ((fX4_takeS S).2.1 20)) rfl (fun c2 => ?_) (fun c2 => ?_)
    · rw [if_pos c2] at h
      refine lv_bipush (v := (64 : Int32)) hx hb dX5_abbreviate_32 (by decide) ?_
      refine lv_iconst (v := (2 : Int32)) hx hb dX5_abbreviate_34 (by decide) ?_
      refine lv_bipush (v := (32 : Int32)) hx hb dX5_abbreviate_35 (by decide) ?_
      refine lv_iload_n hx hb dX5_abbreviate_37 rfl (lv_at hl 2 rfl) ?_
      refine lv_iconst (v := (1 : Int32)) hx hb dX5_abbreviate_38 (by decide) ?_
      refine lv_isub hx hb dX5_abbreviate_39 ?_
      refine lv_imul hx hb dX5_abbreviate_40 ?_
      refine lv_iload_n hx hb dX5_abbreviate_41 rfl (lv_at hl 0 rfl) ?_
      refine lv_iadd hx hb dX5_abbreviate_42 ?_
      refine lv_imul hx hb dX5_abbreviate_43 ?_
      refine lv_iadd hx hb dX5_abbreviate_44 ?_
      refine lv_istore_n (lv' := [(3, .int ((64 : Int32) + ((2 : Int32) * (((32 : Int32) * (x1 - (1 : Int32))) + (fX4_takeS S).1)))), (2, .int (fX4_takeS S).1), (0, .ref (a 8)), (1, .int x1)]) hx hb dX5_abbreviate_45 rfl hl (by decide) rfl (fun ls hl => ?_)
      refine lv_iconst (v := (2 : Int32)) hx hb dX5_abbreviate_46 (by decide) ?_
      refine lv_aload_n hx hb dX5_abbreviate_47 rfl (lv_at hl 2 rfl) ?_
      refine gX8_memory C hP fl_X5_9 dX5_abbreviate_48 ?_
      refine lv_iload_n hx hb dX5_abbreviate_51 rfl (lv_at hl 0 rfl) ?_
      refine rdV (Ek_est a) C hP (ef (Ek_est a) hS hE0) (c_X2_word l D k a _ ((64 : Int32) + ((2 : Int32) * (((32 : Int32) * (x1 - (1 : Int32))) + (fX4_takeS S).1)))) my_X2_word ml_X5_92 (rX1 C hP) rfl hl.1 (rest := [.int (2 : Int32)]) rfl (Nat.le_of_ble_eq_true rfl) ⟨rfl, rfl, Nat.le_of_ble_eq_true rfl, Nat.le_of_ble_eq_true rfl⟩ ⟨Nat.zero_le _, Nat.zero_le _⟩ dX5_abbreviate_52 ?_
      refine lv_imul hx hb dX5_abbreviate_55 ?_
      refine lv_ldc (v := (65536 : Int32)) hx hb hown (hts _ ct_X5_95) dX5_abbreviate_56 ?_
      refine lv_irem hx hb dX5_abbreviate_58 (by decide) ?_
      refine lv_istore (lv' := [(4, .int (((2 : Int32) * (fX2_word (fX4_takeS S).2 ((64 : Int32) + ((2 : Int32) * (((32 : Int32) * (x1 - (1 : Int32))) + (fX4_takeS S).1))))) - ((2 : Int32) * (fX2_word (fX4_takeS S).2 ((64 : Int32) + ((2 : Int32) * (((32 : Int32) * (x1 - (1 : Int32))) + (fX4_takeS S).1))))) / (65536 : Int32) * (65536 : Int32))), (3, .int ((64 : Int32) + ((2 : Int32) * (((32 : Int32) * (x1 - (1 : Int32))) + (fX4_takeS S).1)))), (2, .int (fX4_takeS S).1), (0, .ref (a 8)), (1, .int x1)]) hx hb dX5_abbreviate_59 hl (by decide) rfl (fun ls hl => ?_)
      refine lv_aload_n hx hb dX5_abbreviate_61 rfl (lv_at hl 3 rfl) ?_
      refine gX8_ofAbbreviation C hP fl_X5_28 dX5_abbreviate_62 ?_
      refine lv_iload hx hb dX5_abbreviate_65 (lv_at hl 0 rfl) ?_
      refine lv_sipush (v := (4096 : Int32)) hx hb dX5_abbreviate_67 (by decide) ?_
      refine lv_iload hx hb dX5_abbreviate_70 (lv_at hl 0 rfl) ?_
      refine lv_isub hx hb dX5_abbreviate_72 ?_
      refine lv_iconst (v := (2 : Int32)) hx hb dX5_abbreviate_73 (by decide) ?_
      refine lv_idiv hx hb dX5_abbreviate_74 (by decide) ?_
      refine wrV (Ek_est a) C hP (hDA _) hA hS hE0 (c_X4_begin10 l D k a _ (((2 : Int32) * (fX2_word (fX4_takeS S).2 ((64 : Int32) + ((2 : Int32) * (((32 : Int32) * (x1 - (1 : Int32))) + (fX4_takeS S).1))))) - ((2 : Int32) * (fX2_word (fX4_takeS S).2 ((64 : Int32) + ((2 : Int32) * (((32 : Int32) * (x1 - (1 : Int32))) + (fX4_takeS S).1))))) / (65536 : Int32) * (65536 : Int32)) (((4096 : Int32) - (((2 : Int32) * (fX2_word (fX4_takeS S).2 ((64 : Int32) + ((2 : Int32) * (((32 : Int32) * (x1 - (1 : Int32))) + (fX4_takeS S).1))))) - ((2 : Int32) * (fX2_word (fX4_takeS S).2 ((64 : Int32) + ((2 : Int32) * (((32 : Int32) * (x1 - (1 : Int32))) + (fX4_takeS S).1))))) / (65536 : Int32) * (65536 : Int32))) / (2 : Int32))) my_X4_begin ml_X5_47 (rX10 C hP) rfl hl.1 (rest := []) rfl (Nat.le_of_ble_eq_true rfl) ⟨rfl, rfl, Nat.le_of_ble_eq_true rfl, Nat.le_of_ble_eq_true rfl⟩ ⟨Nat.zero_le _, Nat.zero_le _⟩ dX5_abbreviate_75 (fun H locs hP hS _ _ => ?_)
      refine lv_aload_n hx hb dX5_abbreviate_78 rfl (lv_at hl 3 rfl) ?_
      refine lv_aload_n hx hb dX5_abbreviate_79 rfl (lv_at hl 3 rfl) ?_
      refine gX8_atHand C hP fl_X5_70 dX5_abbreviate_80 (v := ((fX4_begin10 (fX4_takeS S).2 (((2 : Int32) * (fX2_word (fX4_takeS S).2 ((64 : Int32) + ((2 : Int32) * (((32 : Int32) * (x1 - (1 : Int32))) + (fX4_takeS S).1))))) - ((2 : Int32) * (fX2_word (fX4_takeS S).2 ((64 : Int32) + ((2 : Int32) * (((32 : Int32) * (x1 - (1 : Int32))) + (fX4_takeS S).1))))) / (65536 : Int32) * (65536 : Int32)) (((4096 : Int32) - (((2 : Int32) * (fX2_word (fX4_takeS S).2 ((64 : Int32) + ((2 : Int32) * (((32 : Int32) * (x1 - (1 : Int32))) + (fX4_takeS S).1))))) - ((2 : Int32) * (fX2_word (fX4_takeS S).2 ((64 : Int32) + ((2 : Int32) * (((32 : Int32) * (x1 - (1 : Int32))) + (fX4_takeS S).1))))) / (65536 : Int32) * (65536 : Int32))) / (2 : Int32))).1 17)) rfl ?_
      refine pX8_atHandOfName C hP (hDA _) hS fl_X5_64 dX5_abbreviate_83 (fun H locs hP hS => ?_)
      refine lv_aload_n hx hb dX5_abbreviate_86 rfl (lv_at hl 3 rfl) ?_
      refine lv_aload_n hx hb dX5_abbreviate_87 rfl (lv_at hl 3 rfl) ?_
      refine gX8_ofAbbreviation C hP fl_X5_28 dX5_abbreviate_88 ?_
      refine lv_iconst (v := (0 : Int32)) hx hb dX5_abbreviate_91 (by decide) ?_
      refine wrV (Ek_est a) C hP (hDA _) hA hS hE0 (c_X5_read10 l D k a _ (0 : Int32)) my_X5_read ml_X5_51 (rX8 C hP) rfl hl.1 (rest := []) rfl (Nat.le_of_ble_eq_true rfl) ⟨rfl, rfl, Nat.le_of_ble_eq_true rfl, Nat.le_of_ble_eq_true rfl⟩ ⟨Nat.zero_le _, Nat.zero_le _⟩ dX5_abbreviate_92 (fun H locs hP hS _ _ => ?_)
      rw [← Option.some.inj h]
      exact wr_vret C hr hlocks hP hS dX5_abbreviate_95
    · rw [if_neg c2] at h
      refine lv_aload_n hx hb dX5_abbreviate_25 rfl (lv_at hl 1 rfl) ?_
      refine lv_bipush (v := (63 : Int32)) hx hb dX5_abbreviate_26 (by decide) ?_
      obtain ⟨u3, hhu3, h⟩ := ob_some h
      refine wrV (Ek_est a) C hP (hDA _) hA hS hE0 (c_X5_say l D k a _ (63 : Int32) u3 hhu3) my_X5_say ml_X5_76 (rX8 C hP) rfl hl.1 (rest := []) rfl (Nat.le_of_ble_eq_true rfl) ⟨rfl, rfl, Nat.le_of_ble_eq_true rfl, Nat.le_of_ble_eq_true rfl⟩ ⟨Nat.zero_le _, Nat.zero_le _⟩ dX5_abbreviate_28 (fun H locs hP hS _ _ => ?_)
      rw [← Option.some.inj h]
      exact wr_vret C hr hlocks hP hS dX5_abbreviate_31
  · rw [if_pos c1] at h
    rw [← Option.some.inj h]
    exact wr_vret C hr hlocks hP hS dX5_abbreviate_13
def fX5_heed (S : XS) (x1 : Int32) : Option XS := (if x1 = 0 then (ob (fX5_say (pS S 19 (S.1 17)) (32 : Int32)) (fun u23 => some (u23))) else (if x1 = (1 : Int32) then (if (S.1 15) = (1 : Int32) then (ob (fX5_say (pS S 19 (S.1 17)) (13 : Int32)) (fun u22 => some (u22))) else (ob (fX5_abbreviate (pS S 19 (S.1 17)) x1) (fun u21 => some (u21)))) else (if (3 : Int32) < x1 then (if (5 : Int32) < x1 then (if (S.1 19) = (2 : Int32) then (if x1 = (6 : Int32) then (ob (fX5_sayOwn (pS S 19 (S.1 17))) (fun u10 => some (u10))) else (ob (fX5_say (pS S 19 (S.1 17)) (fX5_letter (pS S 19 (S.1 17)) (S.1 19) x1)) (fun u9 => some (u9)))) else (ob (fX5_say (pS S 19 (S.1 17)) (fX5_letter (pS S 19 (S.1 17)) (S.1 19) x1)) (fun u7 => some (u7)))) else some (fX5_shift (pS S 19 (S.1 17)) x1)) else (if (S.1 15) < (3 : Int32) then (if (5 : Int32) < x1 then (if (S.1 19) = (2 : Int32) then (if x1 = (6 : Int32) then (ob (fX5_sayOwn (pS S 19 (S.1 17))) (fun u17 => some (u17))) else (ob (fX5_say (pS S 19 (S.1 17)) (fX5_letter (pS S 19 (S.1 17)) (S.1 19) x1)) (fun u16 => some (u16)))) else (ob (fX5_say (pS S 19 (S.1 17)) (fX5_letter (pS S 19 (S.1 17)) (S.1 19) x1)) (fun u14 => some (u14)))) else some (fX5_shift (pS S 19 (S.1 17)) x1)) else (ob (fX5_abbreviate (pS S 19 (S.1 17)) x1) (fun u18 => some (u18)))))))
set_option maxRecDepth 100000 in
set_option maxHeartbeats 4000000 in
theorem c_X5_heed (l : Launch) (D : va_G) (k : Nat → ClassId) (a : Nat → Nat) (S : XS) (x1 : Int32) (u : XS) (h : fX5_heed S x1 = some u) : Wr (Ek a) l D (tyk k) (wX k a S) (wX k a u) yX5_heed cX5_heed 3 none (rmm 6 128) [.ref (a 8), .int x1] none := by
  refine wr_start (by decide) (Nat.le_of_ble_eq_true rfl) ?_
  intro p e s m below meth c A C hr hlocks hP hD0 hA hE0 ls hl
  have hDA : ∀ S, va_D A (wX k a S) := wX_D hD0
  have hS : va_S A s.heap s.heap [] := va_S.rf
  have hl : lv_has ls 3 [(0, .ref (a 8)), (1, .int x1)] := hl
  obtain ⟨⟨hx, hb, hml, hown, hts⟩, hK⟩ := id C
  rw [fX5_heed] at h
  refine lv_aload_n hx hb dX5_heed_0 rfl (lv_at hl 0 rfl) ?_
  refine gX8_alphabet C hP fl_X5_73 dX5_heed_1 (v := (S.1 19)) rfl ?_
  refine lv_istore_n (lv' := [(2, .int (S.1 19)), (0, .ref (a 8)), (1, .int x1)]) hx hb dX5_heed_4 rfl hl (by decide) rfl (fun ls hl => ?_)
  refine lv_aload_n hx hb dX5_heed_5 rfl (lv_at hl 1 rfl) ?_
  refine lv_aload_n hx hb dX5_heed_6 rfl (lv_at hl 1 rfl) ?_
  refine gX8_atHand C hP fl_X5_70 dX5_heed_7 (v := (S.1 17)) rfl ?_
  refine pX8_alphabet C hP (hDA _) hS fl_X5_73 dX5_heed_10 (fun H locs hP hS => ?_)
  refine lv_iload_n hx hb dX5_heed_13 rfl (lv_at hl 2 rfl) ?_
  refine lv_if_ne (tgt := 26) hx hb dX5_heed_14 (by decide) (fun c1 => ?_) (fun c1 => ?_)
  · rw [if_neg c1] at h
    refine lv_iload_n hx hb dX5_heed_26 rfl (lv_at hl 2 rfl) ?_
    refine lv_iconst (v := (1 : Int32)) hx hb dX5_heed_27 (by decide) ?_
    refine lv_icmp_ne (tgt := 48) hx hb dX5_heed_28 (by decide) (fun c2 => ?_) (fun c2 => ?_)
    · rw [if_neg c2] at h
      refine lv_iload_n hx hb dX5_heed_48 rfl (lv_at hl 2 rfl) ?_
      refine lv_iconst (v := (1 : Int32)) hx hb dX5_heed_49 (by decide) ?_
      refine lv_icmp_eq (tgt := 66) hx hb dX5_heed_50 (by decide) (fun c3 => ?_) (fun c3 => ?_)
      · exact absurd c3 c2
      · refine lv_iload_n hx hb dX5_heed_53 rfl (lv_at hl 2 rfl) ?_
        refine lv_iconst (v := (3 : Int32)) hx hb dX5_heed_54 (by decide) ?_
        refine lv_icmp_gt (tgt := 74) hx hb dX5_heed_55 (by decide) (fun c4 => ?_) (fun c4 => ?_)
        · rw [if_pos c4] at h
          refine lv_iload_n hx hb dX5_heed_74 rfl (lv_at hl 2 rfl) ?_
          refine lv_iconst (v := (5 : Int32)) hx hb dX5_heed_75 (by decide) ?_
          refine lv_icmp_gt (tgt := 87) hx hb dX5_heed_76 (by decide) (fun c5 => ?_) (fun c5 => ?_)
          · rw [if_pos c5] at h
            refine lv_iload_n hx hb dX5_heed_87 rfl (lv_at hl 0 rfl) ?_
            refine lv_iconst (v := (2 : Int32)) hx hb dX5_heed_88 (by decide) ?_
            refine lv_icmp_ne (tgt := 105) hx hb dX5_heed_89 (by decide) (fun c6 => ?_) (fun c6 => ?_)
            · rw [if_neg c6] at h
              refine lv_aload_n hx hb dX5_heed_105 rfl (lv_at hl 1 rfl) ?_
              refine lv_aload_n hx hb dX5_heed_106 rfl (lv_at hl 1 rfl) ?_
              refine lv_iload_n hx hb dX5_heed_107 rfl (lv_at hl 0 rfl) ?_
              refine lv_iload_n hx hb dX5_heed_108 rfl (lv_at hl 2 rfl) ?_
              refine rdV (Ek_est a) C hP (ef (Ek_est a) hS hE0) (c_X5_letter l D k a _ (S.1 19) x1) my_X5_letter ml_X5_88 (rX8 C hP) rfl hl.1 (rest := [.ref (a 8)]) rfl (Nat.le_of_ble_eq_true rfl) ⟨rfl, rfl, Nat.le_of_ble_eq_true rfl, Nat.le_of_ble_eq_true rfl⟩ ⟨Nat.zero_le _, Nat.zero_le _⟩ dX5_heed_109 ?_
              obtain ⟨u7, hhu7, h⟩ := ob_some h
              refine wrV (Ek_est a) C hP (hDA _) hA hS hE0 (c_X5_say l D k a _ (fX5_letter (pS S 19 (S.1 17)) (S.1 19) x1) u7 hhu7) my_X5_say ml_X5_76 (rX8 C hP) rfl hl.1 (rest := []) rfl (Nat.le_of_ble_eq_true rfl) ⟨rfl, rfl, Nat.le_of_ble_eq_true rfl, Nat.le_of_ble_eq_true rfl⟩ ⟨Nat.zero_le _, Nat.zero_le _⟩ dX5_heed_112 (fun H locs hP hS _ _ => ?_)
              rw [← Option.some.inj h]
              exact wr_vret C hr hlocks hP hS dX5_heed_115
            · rw [if_pos c6] at h
              refine lv_iload_n hx hb dX5_heed_92 rfl (lv_at hl 2 rfl) ?_
              refine lv_bipush (v := (6 : Int32)) hx hb dX5_heed_93 (by decide) ?_
              refine lv_icmp_ne (tgt := 105) hx hb dX5_heed_95 (by decide) (fun c8 => ?_) (fun c8 => ?_)
              · rw [if_neg c8] at h
                refine lv_aload_n hx hb dX5_heed_105 rfl (lv_at hl 1 rfl) ?_
                refine lv_aload_n hx hb dX5_heed_106 rfl (lv_at hl 1 rfl) ?_
                refine lv_iload_n hx hb dX5_heed_107 rfl (lv_at hl 0 rfl) ?_
                refine lv_iload_n hx hb dX5_heed_108 rfl (lv_at hl 2 rfl) ?_
                refine rdV (Ek_est a) C hP (ef (Ek_est a) hS hE0) (c_X5_letter l D k a _ (S.1 19) x1) my_X5_letter ml_X5_88 (rX8 C hP) rfl hl.1 (rest := [.ref (a 8)]) rfl (Nat.le_of_ble_eq_true rfl) ⟨rfl, rfl, Nat.le_of_ble_eq_true rfl, Nat.le_of_ble_eq_true rfl⟩ ⟨Nat.zero_le _, Nat.zero_le _⟩ dX5_heed_109 ?_
                obtain ⟨u9, hhu9, h⟩ := ob_some h
                refine wrV (Ek_est a) C hP (hDA _) hA hS hE0 (c_X5_say l D k a _ (fX5_letter (pS S 19 (S.1 17)) (S.1 19) x1) u9 hhu9) my_X5_say ml_X5_76 (rX8 C hP) rfl hl.1 (rest := []) rfl (Nat.le_of_ble_eq_true rfl) ⟨rfl, rfl, Nat.le_of_ble_eq_true rfl, Nat.le_of_ble_eq_true rfl⟩ ⟨Nat.zero_le _, Nat.zero_le _⟩ dX5_heed_112 (fun H locs hP hS _ _ => ?_)
                rw [← Option.some.inj h]
                exact wr_vret C hr hlocks hP hS dX5_heed_115
              · rw [if_pos c8] at h
                refine lv_aload_n hx hb dX5_heed_98 rfl (lv_at hl 1 rfl) ?_
                obtain ⟨u10, hhu10, h⟩ := ob_some h
                refine wrV (Ek_est a) C hP (hDA _) hA hS hE0 (c_X5_sayOwn l D k a _  u10 hhu10) my_X5_sayOwn ml_X5_85 (rX8 C hP) rfl hl.1 (rest := []) rfl (Nat.le_of_ble_eq_true rfl) ⟨rfl, rfl, Nat.le_of_ble_eq_true rfl, Nat.le_of_ble_eq_true rfl⟩ ⟨Nat.zero_le _, Nat.zero_le _⟩ dX5_heed_99 (fun H locs hP hS _ _ => ?_)
                refine lv_goto (tgt := 115) hx hb dX5_heed_102 (by decide) ?_
                rw [← Option.some.inj h]
                exact wr_vret C hr hlocks hP hS dX5_heed_115
          · rw [if_neg c5] at h
            refine lv_aload_n hx hb dX5_heed_79 rfl (lv_at hl 1 rfl) ?_
            refine lv_iload_n hx hb dX5_heed_80 rfl (lv_at hl 2 rfl) ?_
            refine wrV (Ek_est a) C hP (hDA _) hA hS hE0 (c_X5_shift l D k a _ x1) my_X5_shift ml_X5_82 (rX8 C hP) rfl hl.1 (rest := []) rfl (Nat.le_of_ble_eq_true rfl) ⟨rfl, rfl, Nat.le_of_ble_eq_true rfl, Nat.le_of_ble_eq_true rfl⟩ ⟨Nat.zero_le _, Nat.zero_le _⟩ dX5_heed_81 (fun H locs hP hS _ _ => ?_)
            refine lv_goto (tgt := 115) hx hb dX5_heed_84 (by decide) ?_
            rw [← Option.some.inj h]
            exact wr_vret C hr hlocks hP hS dX5_heed_115
        · rw [if_neg c4] at h
          refine lv_aload_n hx hb dX5_heed_58 rfl (lv_at hl 1 rfl) ?_
          refine gX8_version C hP fl_X5_15 dX5_heed_59 (v := (S.1 15)) rfl ?_
          refine lv_iconst (v := (3 : Int32)) hx hb dX5_heed_62 (by decide) ?_
          refine lv_icmp_lt (tgt := 74) hx hb dX5_heed_63 (by decide) (fun c11 => ?_) (fun c11 => ?_)
          · rw [if_pos c11] at h
            refine lv_iload_n hx hb dX5_heed_74 rfl (lv_at hl 2 rfl) ?_
            refine lv_iconst (v := (5 : Int32)) hx hb dX5_heed_75 (by decide) ?_
            refine lv_icmp_gt (tgt := 87) hx hb dX5_heed_76 (by decide) (fun c12 => ?_) (fun c12 => ?_)
            · rw [if_pos c12] at h
              refine lv_iload_n hx hb dX5_heed_87 rfl (lv_at hl 0 rfl) ?_
              refine lv_iconst (v := (2 : Int32)) hx hb dX5_heed_88 (by decide) ?_
              refine lv_icmp_ne (tgt := 105) hx hb dX5_heed_89 (by decide) (fun c13 => ?_) (fun c13 => ?_)
              · rw [if_neg c13] at h
                refine lv_aload_n hx hb dX5_heed_105 rfl (lv_at hl 1 rfl) ?_
                refine lv_aload_n hx hb dX5_heed_106 rfl (lv_at hl 1 rfl) ?_
                refine lv_iload_n hx hb dX5_heed_107 rfl (lv_at hl 0 rfl) ?_
                refine lv_iload_n hx hb dX5_heed_108 rfl (lv_at hl 2 rfl) ?_
                refine rdV (Ek_est a) C hP (ef (Ek_est a) hS hE0) (c_X5_letter l D k a _ (S.1 19) x1) my_X5_letter ml_X5_88 (rX8 C hP) rfl hl.1 (rest := [.ref (a 8)]) rfl (Nat.le_of_ble_eq_true rfl) ⟨rfl, rfl, Nat.le_of_ble_eq_true rfl, Nat.le_of_ble_eq_true rfl⟩ ⟨Nat.zero_le _, Nat.zero_le _⟩ dX5_heed_109 ?_
                obtain ⟨u14, hhu14, h⟩ := ob_some h
                refine wrV (Ek_est a) C hP (hDA _) hA hS hE0 (c_X5_say l D k a _ (fX5_letter (pS S 19 (S.1 17)) (S.1 19) x1) u14 hhu14) my_X5_say ml_X5_76 (rX8 C hP) rfl hl.1 (rest := []) rfl (Nat.le_of_ble_eq_true rfl) ⟨rfl, rfl, Nat.le_of_ble_eq_true rfl, Nat.le_of_ble_eq_true rfl⟩ ⟨Nat.zero_le _, Nat.zero_le _⟩ dX5_heed_112 (fun H locs hP hS _ _ => ?_)
                rw [← Option.some.inj h]
                exact wr_vret C hr hlocks hP hS dX5_heed_115
              · rw [if_pos c13] at h
                refine lv_iload_n hx hb dX5_heed_92 rfl (lv_at hl 2 rfl) ?_
                refine lv_bipush (v := (6 : Int32)) hx hb dX5_heed_93 (by decide) ?_
                refine lv_icmp_ne (tgt := 105) hx hb dX5_heed_95 (by decide) (fun c15 => ?_) (fun c15 => ?_)
                · rw [if_neg c15] at h
                  refine lv_aload_n hx hb dX5_heed_105 rfl (lv_at hl 1 rfl) ?_
                  refine lv_aload_n hx hb dX5_heed_106 rfl (lv_at hl 1 rfl) ?_
                  refine lv_iload_n hx hb dX5_heed_107 rfl (lv_at hl 0 rfl) ?_
                  refine lv_iload_n hx hb dX5_heed_108 rfl (lv_at hl 2 rfl) ?_
                  refine rdV (Ek_est a) C hP (ef (Ek_est a) hS hE0) (c_X5_letter l D k a _ (S.1 19) x1) my_X5_letter ml_X5_88 (rX8 C hP) rfl hl.1 (rest := [.ref (a 8)]) rfl (Nat.le_of_ble_eq_true rfl) ⟨rfl, rfl, Nat.le_of_ble_eq_true rfl, Nat.le_of_ble_eq_true rfl⟩ ⟨Nat.zero_le _, Nat.zero_le _⟩ dX5_heed_109 ?_
                  obtain ⟨u16, hhu16, h⟩ := ob_some h
                  refine wrV (Ek_est a) C hP (hDA _) hA hS hE0 (c_X5_say l D k a _ (fX5_letter (pS S 19 (S.1 17)) (S.1 19) x1) u16 hhu16) my_X5_say ml_X5_76 (rX8 C hP) rfl hl.1 (rest := []) rfl (Nat.le_of_ble_eq_true rfl) ⟨rfl, rfl, Nat.le_of_ble_eq_true rfl, Nat.le_of_ble_eq_true rfl⟩ ⟨Nat.zero_le _, Nat.zero_le _⟩ dX5_heed_112 (fun H locs hP hS _ _ => ?_)
                  rw [← Option.some.inj h]
                  exact wr_vret C hr hlocks hP hS dX5_heed_115
                · rw [if_pos c15] at h
                  refine lv_aload_n hx hb dX5_heed_98 rfl (lv_at hl 1 rfl) ?_
                  obtain ⟨u17, hhu17, h⟩ := ob_some h
                  refine wrV (Ek_est a) C hP (hDA _) hA hS hE0 (c_X5_sayOwn l D k a _  u17 hhu17) my_X5_sayOwn ml_X5_85 (rX8 C hP) rfl hl.1 (rest := []) rfl (Nat.le_of_ble_eq_true rfl) ⟨rfl, rfl, Nat.le_of_ble_eq_true rfl, Nat.le_of_ble_eq_true rfl⟩ ⟨Nat.zero_le _, Nat.zero_le _⟩ dX5_heed_99 (fun H locs hP hS _ _ => ?_)
                  refine lv_goto (tgt := 115) hx hb dX5_heed_102 (by decide) ?_
                  rw [← Option.some.inj h]
                  exact wr_vret C hr hlocks hP hS dX5_heed_115
            · rw [if_neg c12] at h
              refine lv_aload_n hx hb dX5_heed_79 rfl (lv_at hl 1 rfl) ?_
              refine lv_iload_n hx hb dX5_heed_80 rfl (lv_at hl 2 rfl) ?_
              refine wrV (Ek_est a) C hP (hDA _) hA hS hE0 (c_X5_shift l D k a _ x1) my_X5_shift ml_X5_82 (rX8 C hP) rfl hl.1 (rest := []) rfl (Nat.le_of_ble_eq_true rfl) ⟨rfl, rfl, Nat.le_of_ble_eq_true rfl, Nat.le_of_ble_eq_true rfl⟩ ⟨Nat.zero_le _, Nat.zero_le _⟩ dX5_heed_81 (fun H locs hP hS _ _ => ?_)
              refine lv_goto (tgt := 115) hx hb dX5_heed_84 (by decide) ?_
              rw [← Option.some.inj h]
              exact wr_vret C hr hlocks hP hS dX5_heed_115
          · rw [if_neg c11] at h
            refine lv_aload_n hx hb dX5_heed_66 rfl (lv_at hl 1 rfl) ?_
            refine lv_iload_n hx hb dX5_heed_67 rfl (lv_at hl 2 rfl) ?_
            obtain ⟨u18, hhu18, h⟩ := ob_some h
            refine wrV (Ek_est a) C hP (hDA _) hA hS hE0 (c_X5_abbreviate l D k a _ x1 u18 hhu18) my_X5_abbreviate ml_X5_79 (rX8 C hP) rfl hl.1 (rest := []) rfl (Nat.le_of_ble_eq_true rfl) ⟨rfl, rfl, Nat.le_of_ble_eq_true rfl, Nat.le_of_ble_eq_true rfl⟩ ⟨Nat.zero_le _, Nat.zero_le _⟩ dX5_heed_68 (fun H locs hP hS _ _ => ?_)
            refine lv_goto (tgt := 115) hx hb dX5_heed_71 (by decide) ?_
            rw [← Option.some.inj h]
            exact wr_vret C hr hlocks hP hS dX5_heed_115
    · rw [if_pos c2] at h
      refine lv_aload_n hx hb dX5_heed_31 rfl (lv_at hl 1 rfl) ?_
      refine gX8_version C hP fl_X5_15 dX5_heed_32 (v := (S.1 15)) rfl ?_
      refine lv_iconst (v := (1 : Int32)) hx hb dX5_heed_35 (by decide) ?_
      refine lv_icmp_ne (tgt := 48) hx hb dX5_heed_36 (by decide) (fun c19 => ?_) (fun c19 => ?_)
      · rw [if_neg c19] at h
        refine lv_iload_n hx hb dX5_heed_48 rfl (lv_at hl 2 rfl) ?_
        refine lv_iconst (v := (1 : Int32)) hx hb dX5_heed_49 (by decide) ?_
        refine lv_icmp_eq (tgt := 66) hx hb dX5_heed_50 (by decide) (fun c20 => ?_) (fun c20 => ?_)
        · refine lv_aload_n hx hb dX5_heed_66 rfl (lv_at hl 1 rfl) ?_
          refine lv_iload_n hx hb dX5_heed_67 rfl (lv_at hl 2 rfl) ?_
          obtain ⟨u21, hhu21, h⟩ := ob_some h
          refine wrV (Ek_est a) C hP (hDA _) hA hS hE0 (c_X5_abbreviate l D k a _ x1 u21 hhu21) my_X5_abbreviate ml_X5_79 (rX8 C hP) rfl hl.1 (rest := []) rfl (Nat.le_of_ble_eq_true rfl) ⟨rfl, rfl, Nat.le_of_ble_eq_true rfl, Nat.le_of_ble_eq_true rfl⟩ ⟨Nat.zero_le _, Nat.zero_le _⟩ dX5_heed_68 (fun H locs hP hS _ _ => ?_)
          refine lv_goto (tgt := 115) hx hb dX5_heed_71 (by decide) ?_
          rw [← Option.some.inj h]
          exact wr_vret C hr hlocks hP hS dX5_heed_115
        · exact absurd c2 c20
      · rw [if_pos c19] at h
        refine lv_aload_n hx hb dX5_heed_39 rfl (lv_at hl 1 rfl) ?_
        refine lv_bipush (v := (13 : Int32)) hx hb dX5_heed_40 (by decide) ?_
        obtain ⟨u22, hhu22, h⟩ := ob_some h
        refine wrV (Ek_est a) C hP (hDA _) hA hS hE0 (c_X5_say l D k a _ (13 : Int32) u22 hhu22) my_X5_say ml_X5_76 (rX8 C hP) rfl hl.1 (rest := []) rfl (Nat.le_of_ble_eq_true rfl) ⟨rfl, rfl, Nat.le_of_ble_eq_true rfl, Nat.le_of_ble_eq_true rfl⟩ ⟨Nat.zero_le _, Nat.zero_le _⟩ dX5_heed_42 (fun H locs hP hS _ _ => ?_)
        refine lv_goto (tgt := 115) hx hb dX5_heed_45 (by decide) ?_
        rw [← Option.some.inj h]
        exact wr_vret C hr hlocks hP hS dX5_heed_115
  · rw [if_pos c1] at h
    refine lv_aload_n hx hb dX5_heed_17 rfl (lv_at hl 1 rfl) ?_
    refine lv_bipush (v := (32 : Int32)) hx hb dX5_heed_18 (by decide) ?_
    obtain ⟨u23, hhu23, h⟩ := ob_some h
    refine wrV (Ek_est a) C hP (hDA _) hA hS hE0 (c_X5_say l D k a _ (32 : Int32) u23 hhu23) my_X5_say ml_X5_76 (rX8 C hP) rfl hl.1 (rest := []) rfl (Nat.le_of_ble_eq_true rfl) ⟨rfl, rfl, Nat.le_of_ble_eq_true rfl, Nat.le_of_ble_eq_true rfl⟩ ⟨Nat.zero_le _, Nat.zero_le _⟩ dX5_heed_20 (fun H locs hP hS _ _ => ?_)
    refine lv_goto (tgt := 115) hx hb dX5_heed_23 (by decide) ?_
    rw [← Option.some.inj h]
    exact wr_vret C hr hlocks hP hS dX5_heed_115
def fX5_spell_L : Nat → XS → Int32 → Int32 → Option (Int32 × XS)
  | 0, _, _, _ => none
  | n + 1, S, y1, y2 => (if (3000000 : Int32) ≤ y2 then some ((S.1 16), S) else (if (250 : Int32) ≤ (S.1 16) then some ((S.1 16), S) else (if (fX4_takeS S).1 = (-1 : Int32) then (if ((fX4_takeS S).2.1 20) = 0 then some (((fX4_takeS S).2.1 16), (fX4_takeS S).2) else (fX5_spell_L n (fX5_read9 (fX4_takeS S).2 ((fX4_takeS S).2.1 18)) y1 (y2 + (1 : Int32)))) else (ob (fX5_heed (fX4_takeS S).2 (fX4_takeS S).1) (fun u5 => (fX5_spell_L n u5 y1 (y2 + (1 : Int32))))))))
def fX5_spell (S : XS) (x1 : Int32) : Option (Int32 × XS) := (fX5_spell_L 3000001 (fX5_read9 (fX4_begin9 (pS S 16 (0 : Int32)) (x1 + (1 : Int32)) (fX2_get (pS S 16 (0 : Int32)) x1)) (0 : Int32)) x1 (0 : Int32))
set_option maxRecDepth 100000 in
set_option maxHeartbeats 4000000 in
theorem c_X5_spell (l : Launch) (D : va_G) (k : Nat → ClassId) (a : Nat → Nat) (S : XS) (x1 : Int32) (u : Int32 × XS) (h : fX5_spell S x1 = some u) : Wr (Ek a) l D (tyk k) (wX k a S) (wX k a u.2) yX5_spell cX5_spell 4 (some .int) (rmm 7 150) [.ref (a 8), .int x1] (some (.int u.1)) := by
  refine wr_start (by decide) (Nat.le_of_ble_eq_true rfl) ?_
  intro p e s m below meth c A C hr hlocks hP hD0 hA hE0 ls hl
  have hDA : ∀ S, va_D A (wX k a S) := wX_D hD0
  have hS : va_S A s.heap s.heap [] := va_S.rf
  have hl : lv_has ls 4 [(0, .ref (a 8)), (1, .int x1)] := hl
  obtain ⟨⟨hx, hb, hml, hown, hts⟩, hK⟩ := id C
  have L : ∀ n : Nat, ∀ (S : XS) (y1 : Int32) (y2 : Int32) (H : Heap) (locs : List Loc) (ls : Array Slot), va_P D vwCl (wX k a S) H → va_S A s.heap H locs → lv_has ls 4 [(0, .ref (a 8)), (1, .int y1), (2, .int y2)] → fX5_spell_L n S y1 y2 = some u → W p l e (rmm 7 150) s m ([.ref (a 8), .int x1] : List Value).toArray below meth c H locs 0 0 (MQ below (Qw D (wX k a u.2) (some (.int u.1)) A) ([.ref (a 8), .int x1] : List Value).toArray s 0 0 A) (F0 m 34 ls []) := by
    intro n
    induction n with
    | zero => intro S y1 y2 H locs ls hP hS hl h; cases h
    | succ n ih =>
      intro S y1 y2 H locs ls hP hS hl h
      rw [fX5_spell_L] at h
      refine lv_iload_n hx hb dX5_spell_34 rfl (lv_at hl 2 rfl) ?_
      refine lv_ldc (v := (3000000 : Int32)) hx hb hown (hts _ ct_X5_55) dX5_spell_35 ?_
      refine lv_icmp_ge (tgt := 100) hx hb dX5_spell_37 (by decide) (fun c1 => ?_) (fun c1 => ?_)
      · rw [if_pos c1] at h
        refine lv_aload_n hx hb dX5_spell_100 rfl (lv_at hl 0 rfl) ?_
        refine gX8_size C hP fl_X5_38 dX5_spell_101 (v := (S.1 16)) rfl ?_
        rw [← Option.some.inj h]
        exact wrX_iret C hr hlocks hP hS dX5_spell_104
      · rw [if_neg c1] at h
        refine lv_aload_n hx hb dX5_spell_40 rfl (lv_at hl 0 rfl) ?_
        refine gX8_size C hP fl_X5_38 dX5_spell_41 (v := (S.1 16)) rfl ?_
        refine lv_sipush (v := (250 : Int32)) hx hb dX5_spell_44 (by decide) ?_
        refine lv_icmp_ge (tgt := 100) hx hb dX5_spell_47 (by decide) (fun c2 => ?_) (fun c2 => ?_)
        · rw [if_pos c2] at h
          refine lv_aload_n hx hb dX5_spell_100 rfl (lv_at hl 0 rfl) ?_
          refine gX8_size C hP fl_X5_38 dX5_spell_101 (v := (S.1 16)) rfl ?_
          rw [← Option.some.inj h]
          exact wrX_iret C hr hlocks hP hS dX5_spell_104
        · rw [if_neg c2] at h
          refine lv_aload_n hx hb dX5_spell_50 rfl (lv_at hl 0 rfl) ?_
          refine gX8_signs C hP fl_X5_31 dX5_spell_51 ?_
          refine wrV (Ek_est a) C hP (hDA _) hA hS hE0 (c_X4_takeS l D k a _ ) my_X4_take ml_X5_56 (rXsg C hP) rfl hl.1 (rest := []) rfl (Nat.le_of_ble_eq_true rfl) ⟨rfl, rfl, Nat.le_of_ble_eq_true rfl, Nat.le_of_ble_eq_true rfl⟩ ⟨Nat.zero_le _, Nat.zero_le _⟩ dX5_spell_54 (fun H locs hP hS _ _ => ?_)
          refine lv_istore_n (lv' := [(3, .int (fX4_takeS S).1), (0, .ref (a 8)), (1, .int y1), (2, .int y2)]) hx hb dX5_spell_57 rfl hl (by decide) rfl (fun ls hl => ?_)
          refine lv_iload_n hx hb dX5_spell_58 rfl (lv_at hl 0 rfl) ?_
          refine lv_iconst (v := (-1 : Int32)) hx hb dX5_spell_59 (by decide) ?_
          refine lv_icmp_eq (tgt := 71) hx hb dX5_spell_60 (by decide) (fun c3 => ?_) (fun c3 => ?_)
          · rw [if_pos c3] at h
            refine lv_aload_n hx hb dX5_spell_71 rfl (lv_at hl 1 rfl) ?_
            refine gX8_signs C hP fl_X5_31 dX5_spell_72 ?_
            refine lv_aload_n hx hb dX5_spell_75 rfl (lv_at hl 1 rfl) ?_
            refine gX8_ofAbbreviation C hP fl_X5_28 dX5_spell_76 ?_
            refine acmp_ne (tgt := 100) hx hb (hDA _) dX5_spell_79 (by decide) (v := ((fX4_takeS S).2.1 20)) rfl (fun c4 => ?_) (fun c4 => ?_)
            · rw [if_pos c4] at h
              refine lv_aload_n hx hb dX5_spell_100 rfl (lv_at hl 1 rfl) ?_
              refine gX8_size C hP fl_X5_38 dX5_spell_101 (v := ((fX4_takeS S).2.1 16)) rfl ?_
              rw [← Option.some.inj h]
              exact wrX_iret C hr hlocks hP hS dX5_spell_104
            · rw [if_neg c4] at h
              refine lv_aload_n hx hb dX5_spell_82 rfl (lv_at hl 1 rfl) ?_
              refine lv_aload_n hx hb dX5_spell_83 rfl (lv_at hl 1 rfl) ?_
              refine gX8_ofName C hP fl_X5_24 dX5_spell_84 ?_
              refine lv_aload_n hx hb dX5_spell_87 rfl (lv_at hl 1 rfl) ?_
              refine gX8_atHandOfName C hP fl_X5_64 dX5_spell_88 (v := ((fX4_takeS S).2.1 18)) rfl ?_
              refine wrV (Ek_est a) C hP (hDA _) hA hS hE0 (c_X5_read9 l D k a _ ((fX4_takeS S).2.1 18)) my_X5_read ml_X5_51 (rX8 C hP) rfl hl.1 (rest := []) rfl (Nat.le_of_ble_eq_true rfl) ⟨rfl, rfl, Nat.le_of_ble_eq_true rfl, Nat.le_of_ble_eq_true rfl⟩ ⟨Nat.zero_le _, Nat.zero_le _⟩ dX5_spell_91 (fun H locs hP hS _ _ => ?_)
              refine lv_iinc (v := (y2 + (1 : Int32))) (lv' := [(2, .int (y2 + (1 : Int32))), (3, .int (fX4_takeS S).1), (0, .ref (a 8)), (1, .int y1)]) hx hb dX5_spell_94 hl (k := 3) rfl rfl (by decide) rfl (fun ls hl => ?_)
              refine lv_goto (tgt := 34) hx hb dX5_spell_97 (by decide) ?_
              exact ih _ _ _ _ _ ls hP hS (lv_sub hl [2, 3, 0] rfl) h
          · rw [if_neg c3] at h
            refine lv_aload_n hx hb dX5_spell_63 rfl (lv_at hl 1 rfl) ?_
            refine lv_iload_n hx hb dX5_spell_64 rfl (lv_at hl 0 rfl) ?_
            obtain ⟨u5, hhu5, h⟩ := ob_some h
            refine wrV (Ek_est a) C hP (hDA _) hA hS hE0 (c_X5_heed l D k a _ (fX4_takeS S).1 u5 hhu5) my_X5_heed ml_X5_60 (rX8 C hP) rfl hl.1 (rest := []) rfl (Nat.le_of_ble_eq_true rfl) ⟨rfl, rfl, Nat.le_of_ble_eq_true rfl, Nat.le_of_ble_eq_true rfl⟩ ⟨Nat.zero_le _, Nat.zero_le _⟩ dX5_spell_65 (fun H locs hP hS _ _ => ?_)
            refine lv_goto (tgt := 94) hx hb dX5_spell_68 (by decide) ?_
            refine lv_iinc (v := (y2 + (1 : Int32))) (lv' := [(2, .int (y2 + (1 : Int32))), (3, .int (fX4_takeS S).1), (0, .ref (a 8)), (1, .int y1)]) hx hb dX5_spell_94 hl (k := 3) rfl rfl (by decide) rfl (fun ls hl => ?_)
            refine lv_goto (tgt := 34) hx hb dX5_spell_97 (by decide) ?_
            exact ih _ _ _ _ _ ls hP hS (lv_sub hl [2, 3, 0] rfl) h
  rw [fX5_spell] at h
  refine lv_aload_n hx hb dX5_spell_0 rfl (lv_at hl 0 rfl) ?_
  refine lv_iconst (v := (0 : Int32)) hx hb dX5_spell_1 (by decide) ?_
  refine pX8_size C hP (hDA _) hS fl_X5_38 dX5_spell_2 (fun H locs hP hS => ?_)
  refine lv_aload_n hx hb dX5_spell_5 rfl (lv_at hl 0 rfl) ?_
  refine gX8_ofName C hP fl_X5_24 dX5_spell_6 ?_
  refine lv_iload_n hx hb dX5_spell_9 rfl (lv_at hl 1 rfl) ?_
  refine lv_iconst (v := (1 : Int32)) hx hb dX5_spell_10 (by decide) ?_
  refine lv_iadd hx hb dX5_spell_11 ?_
  refine lv_aload_n hx hb dX5_spell_12 rfl (lv_at hl 0 rfl) ?_
  refine gX8_memory C hP fl_X5_9 dX5_spell_13 ?_
  refine lv_iload_n hx hb dX5_spell_16 rfl (lv_at hl 1 rfl) ?_
  refine rdV (Ek_est a) C hP (ef (Ek_est a) hS hE0) (c_X2_get l D k a _ x1) my_X2_get ml_X5_41 (rX1 C hP) rfl hl.1 (rest := [.int (x1 + (1 : Int32)), .ref (a 9)]) rfl (Nat.le_of_ble_eq_true rfl) ⟨rfl, rfl, Nat.le_of_ble_eq_true rfl, Nat.le_of_ble_eq_true rfl⟩ ⟨Nat.zero_le _, Nat.zero_le _⟩ dX5_spell_17 ?_
  refine wrV (Ek_est a) C hP (hDA _) hA hS hE0 (c_X4_begin9 l D k a _ (x1 + (1 : Int32)) (fX2_get (pS S 16 (0 : Int32)) x1)) my_X4_begin ml_X5_47 (rX9 C hP) rfl hl.1 (rest := []) rfl (Nat.le_of_ble_eq_true rfl) ⟨rfl, rfl, Nat.le_of_ble_eq_true rfl, Nat.le_of_ble_eq_true rfl⟩ ⟨Nat.zero_le _, Nat.zero_le _⟩ dX5_spell_20 (fun H locs hP hS _ _ => ?_)
  refine lv_aload_n hx hb dX5_spell_23 rfl (lv_at hl 0 rfl) ?_
  refine lv_aload_n hx hb dX5_spell_24 rfl (lv_at hl 0 rfl) ?_
  refine gX8_ofName C hP fl_X5_24 dX5_spell_25 ?_
  refine lv_iconst (v := (0 : Int32)) hx hb dX5_spell_28 (by decide) ?_
  refine wrV (Ek_est a) C hP (hDA _) hA hS hE0 (c_X5_read9 l D k a _ (0 : Int32)) my_X5_read ml_X5_51 (rX8 C hP) rfl hl.1 (rest := []) rfl (Nat.le_of_ble_eq_true rfl) ⟨rfl, rfl, Nat.le_of_ble_eq_true rfl, Nat.le_of_ble_eq_true rfl⟩ ⟨Nat.zero_le _, Nat.zero_le _⟩ dX5_spell_29 (fun H locs hP hS _ _ => ?_)
  refine lv_iconst (v := (0 : Int32)) hx hb dX5_spell_32 (by decide) ?_
  refine lv_istore_n (lv' := [(2, .int (0 : Int32)), (0, .ref (a 8)), (1, .int x1)]) hx hb dX5_spell_33 rfl hl (by decide) rfl (fun ls hl => ?_)
  exact L 3000001 _ _ _ _ _ ls hP hS (lv_sub hl [1, 2, 0] rfl) h
def fX7_name (S : XS) (x1 : Int32) (x2 : Int32) : Option (Int32 × XS) := (if (bI (fX0_has S x1)) = 0 then some ((-1 : Int32), S) else (ob (fX5_spell S (fX0_table S x1)) (fun u2 => (if x2 < 0 then some ((-2 : Int32), u2.2) else (if u2.1 ≤ x2 then some ((-2 : Int32), u2.2) else (ob (fX5_byteAt u2.2 x2) (fun u5 => some (u5, u2.2))))))))
set_option maxRecDepth 100000 in
set_option maxHeartbeats 4000000 in
theorem c_X7_name (l : Launch) (D : va_G) (k : Nat → ClassId) (a : Nat → Nat) (S : XS) (x1 : Int32) (x2 : Int32) (u : Int32 × XS) (h : fX7_name S x1 x2 = some u) : Wr (Ek a) l D (tyk k) (wX k a S) (wX k a u.2) yX7_name cX7_name 4 (some .int) (rmm 8 173) [.ref (a 0), .int x1, .int x2] (some (.int u.1)) := by
  refine wr_start (by decide) (Nat.le_of_ble_eq_true rfl) ?_
  intro p e s m below meth c A C hr hlocks hP hD0 hA hE0 ls hl
  have hDA : ∀ S, va_D A (wX k a S) := wX_D hD0
  have hS : va_S A s.heap s.heap [] := va_S.rf
  have hl : lv_has ls 4 [(0, .ref (a 0)), (1, .int x1), (2, .int x2)] := hl
  obtain ⟨⟨hx, hb, hml, hown, hts⟩, hK⟩ := id C
  rw [fX7_name] at h
  refine lv_aload_n hx hb dX7_name_0 rfl (lv_at hl 0 rfl) ?_
  refine gX0_entries C hP fl_X7_34 dX7_name_1 ?_
  refine lv_iload_n hx hb dX7_name_4 rfl (lv_at hl 1 rfl) ?_
  refine rdV (Ek_est a) C hP (ef (Ek_est a) hS hE0) (c_X0_has l D k a _ x1) my_X0_has ml_X7_115 (rX3 C hP) rfl hl.1 (rest := []) rfl (Nat.le_of_ble_eq_true rfl) ⟨rfl, rfl, Nat.le_of_ble_eq_true rfl, Nat.le_of_ble_eq_true rfl⟩ ⟨Nat.zero_le _, Nat.zero_le _⟩ dX7_name_5 ?_
  refine lv_if_ne (tgt := 13) hx hb dX7_name_8 (by decide) (fun c1 => ?_) (fun c1 => ?_)
  · rw [if_neg c1] at h
    refine lv_aload_n hx hb dX7_name_13 rfl (lv_at hl 0 rfl) ?_
    refine gX0_speller C hP fl_X7_61 dX7_name_14 ?_
    refine lv_aload_n hx hb dX7_name_17 rfl (lv_at hl 0 rfl) ?_
    refine gX0_entries C hP fl_X7_34 dX7_name_18 ?_
    refine lv_iload_n hx hb dX7_name_21 rfl (lv_at hl 1 rfl) ?_
    refine rdV (Ek_est a) C hP (ef (Ek_est a) hS hE0) (c_X0_table l D k a _ x1) my_X0_table ml_X7_156 (rX3 C hP) rfl hl.1 (rest := [.ref (a 8)]) rfl (Nat.le_of_ble_eq_true rfl) ⟨rfl, rfl, Nat.le_of_ble_eq_true rfl, Nat.le_of_ble_eq_true rfl⟩ ⟨Nat.zero_le _, Nat.zero_le _⟩ dX7_name_22 ?_
    obtain ⟨u2, hhu2, h⟩ := ob_some h
    refine wrV (Ek_est a) C hP (hDA _) hA hS hE0 (c_X5_spell l D k a _ (fX0_table S x1) u2 hhu2) my_X5_spell ml_X7_174 (rX8 C hP) rfl hl.1 (rest := []) rfl (Nat.le_of_ble_eq_true rfl) ⟨rfl, rfl, Nat.le_of_ble_eq_true rfl, Nat.le_of_ble_eq_true rfl⟩ ⟨Nat.zero_le _, Nat.zero_le _⟩ dX7_name_25 (fun H locs hP hS _ _ => ?_)
    refine lv_istore_n (lv' := [(3, .int u2.1), (0, .ref (a 0)), (1, .int x1), (2, .int x2)]) hx hb dX7_name_28 rfl hl (by decide) rfl (fun ls hl => ?_)
    refine lv_iload_n hx hb dX7_name_29 rfl (lv_at hl 3 rfl) ?_
    refine lv_if_lt (tgt := 49) hx hb dX7_name_30 (by decide) (fun c3 => ?_) (fun c3 => ?_)
    · rw [if_pos c3] at h
      refine lv_bipush (v := (-2 : Int32)) hx hb dX7_name_49 (by decide) ?_
      rw [← Option.some.inj h]
      exact wrX_iret C hr hlocks hP hS dX7_name_51
    · rw [if_neg c3] at h
      refine lv_iload_n hx hb dX7_name_33 rfl (lv_at hl 3 rfl) ?_
      refine lv_iload_n hx hb dX7_name_34 rfl (lv_at hl 0 rfl) ?_
      refine lv_icmp_ge (tgt := 49) hx hb dX7_name_35 (by decide) (fun c4 => ?_) (fun c4 => ?_)
      · rw [if_pos c4] at h
        refine lv_bipush (v := (-2 : Int32)) hx hb dX7_name_49 (by decide) ?_
        rw [← Option.some.inj h]
        exact wrX_iret C hr hlocks hP hS dX7_name_51
      · rw [if_neg c4] at h
        refine lv_aload_n hx hb dX7_name_38 rfl (lv_at hl 1 rfl) ?_
        refine gX0_speller C hP fl_X7_61 dX7_name_39 ?_
        refine lv_iload_n hx hb dX7_name_42 rfl (lv_at hl 3 rfl) ?_
        obtain ⟨u5, hhu5, h⟩ := ob_some h
        refine rdV (Ek_est a) C hP (ef (Ek_est a) hS hE0) (c_X5_byteAt l D k a _ x2 u5 hhu5) my_X5_byteAt ml_X7_177 (rX8 C hP) rfl hl.1 (rest := []) rfl (Nat.le_of_ble_eq_true rfl) ⟨rfl, rfl, Nat.le_of_ble_eq_true rfl, Nat.le_of_ble_eq_true rfl⟩ ⟨Nat.zero_le _, Nat.zero_le _⟩ dX7_name_43 ?_
        refine lv_goto (tgt := 51) hx hb dX7_name_46 (by decide) ?_
        rw [← Option.some.inj h]
        exact wrX_iret C hr hlocks hP hS dX7_name_51
  · rw [if_pos c1] at h
    refine lv_iconst (v := (-1 : Int32)) hx hb dX7_name_11 (by decide) ?_
    rw [← Option.some.inj h]
    exact wrX_iret C hr hlocks hP hS dX7_name_12
def fX7_named (S : XS) (x1 : Int32) : Option (Int32 × XS) := (if (bI (fX0_has S x1)) = 0 then some ((-1 : Int32), S) else (ob (fX5_spell S (fX0_table S x1)) (fun u2 => some (u2.1, u2.2))))
set_option maxRecDepth 100000 in
set_option maxHeartbeats 4000000 in
theorem c_X7_named (l : Launch) (D : va_G) (k : Nat → ClassId) (a : Nat → Nat) (S : XS) (x1 : Int32) (u : Int32 × XS) (h : fX7_named S x1 = some u) : Wr (Ek a) l D (tyk k) (wX k a S) (wX k a u.2) yX7_named cX7_named 2 (some .int) (rmm 8 173) [.ref (a 0), .int x1] (some (.int u.1)) := by
  refine wr_start (by decide) (Nat.le_of_ble_eq_true rfl) ?_
  intro p e s m below meth c A C hr hlocks hP hD0 hA hE0 ls hl
  have hDA : ∀ S, va_D A (wX k a S) := wX_D hD0
  have hS : va_S A s.heap s.heap [] := va_S.rf
  have hl : lv_has ls 2 [(0, .ref (a 0)), (1, .int x1)] := hl
  obtain ⟨⟨hx, hb, hml, hown, hts⟩, hK⟩ := id C
  rw [fX7_named] at h
  refine lv_aload_n hx hb dX7_named_0 rfl (lv_at hl 0 rfl) ?_
  refine gX0_entries C hP fl_X7_34 dX7_named_1 ?_
  refine lv_iload_n hx hb dX7_named_4 rfl (lv_at hl 1 rfl) ?_
  refine rdV (Ek_est a) C hP (ef (Ek_est a) hS hE0) (c_X0_has l D k a _ x1) my_X0_has ml_X7_115 (rX3 C hP) rfl hl.1 (rest := []) rfl (Nat.le_of_ble_eq_true rfl) ⟨rfl, rfl, Nat.le_of_ble_eq_true rfl, Nat.le_of_ble_eq_true rfl⟩ ⟨Nat.zero_le _, Nat.zero_le _⟩ dX7_named_5 ?_
  refine lv_if_eq (tgt := 29) hx hb dX7_named_8 (by decide) (fun c1 => ?_) (fun c1 => ?_)
  · rw [if_pos c1] at h
    refine lv_iconst (v := (-1 : Int32)) hx hb dX7_named_29 (by decide) ?_
    rw [← Option.some.inj h]
    exact wrX_iret C hr hlocks hP hS dX7_named_30
  · rw [if_neg c1] at h
    refine lv_aload_n hx hb dX7_named_11 rfl (lv_at hl 0 rfl) ?_
    refine gX0_speller C hP fl_X7_61 dX7_named_12 ?_
    refine lv_aload_n hx hb dX7_named_15 rfl (lv_at hl 0 rfl) ?_
    refine gX0_entries C hP fl_X7_34 dX7_named_16 ?_
    refine lv_iload_n hx hb dX7_named_19 rfl (lv_at hl 1 rfl) ?_
    refine rdV (Ek_est a) C hP (ef (Ek_est a) hS hE0) (c_X0_table l D k a _ x1) my_X0_table ml_X7_156 (rX3 C hP) rfl hl.1 (rest := [.ref (a 8)]) rfl (Nat.le_of_ble_eq_true rfl) ⟨rfl, rfl, Nat.le_of_ble_eq_true rfl, Nat.le_of_ble_eq_true rfl⟩ ⟨Nat.zero_le _, Nat.zero_le _⟩ dX7_named_20 ?_
    obtain ⟨u2, hhu2, h⟩ := ob_some h
    refine wrV (Ek_est a) C hP (hDA _) hA hS hE0 (c_X5_spell l D k a _ (fX0_table S x1) u2 hhu2) my_X5_spell ml_X7_174 (rX8 C hP) rfl hl.1 (rest := []) rfl (Nat.le_of_ble_eq_true rfl) ⟨rfl, rfl, Nat.le_of_ble_eq_true rfl, Nat.le_of_ble_eq_true rfl⟩ ⟨Nat.zero_le _, Nat.zero_le _⟩ dX7_named_23 (fun H locs hP hS _ _ => ?_)
    refine lv_goto (tgt := 30) hx hb dX7_named_26 (by decide) ?_
    rw [← Option.some.inj h]
    exact wrX_iret C hr hlocks hP hS dX7_named_30
