def fX6_canLeave (S : XS) (x1 : Int32) : Option Bool := (if (fX0_link S x1 (0 : Int32)) = 0 then some (true) else (if (bI (fX0_has S (fX0_link S x1 (0 : Int32)))) = 0 then some (false) else (ob (fX0_isInRowOf S (fX0_link S x1 (0 : Int32)) x1) (fun u3 => (if (bI u3) = 0 then some (false) else some (true))))))
set_option maxRecDepth 100000 in
set_option maxHeartbeats 4000000 in
theorem c_X6_canLeave (l : Launch) (D : va_G) (k : Nat → ClassId) (a : Nat → Nat) (S : XS) (x1 : Int32) (u : Bool) (h : fX6_canLeave S x1 = some u) : Rd (Ek a) l D (tyk k) (wX k a S) yX6_canLeave cX6_canLeave 3 (some .boolean) (rmm 5 113) [.ref (a 4), .int x1] (bI u) := by
  refine rd_start (by decide) (Nat.le_of_ble_eq_true rfl) ?_
  intro p e s m below meth c C hr hlocks hP hE0 ls hl
  have hl : lv_has ls 3 [(0, .ref (a 4)), (1, .int x1)] := hl
  obtain ⟨⟨hx, hb, hml, hown, hts⟩, hK⟩ := id C
  rw [fX6_canLeave] at h
  refine lv_aload_n hx hb dX6_canLeave_0 rfl (lv_at hl 0 rfl) ?_
  refine gX4_entries C hP fl_X6_9 dX6_canLeave_1 ?_
  refine lv_iload_n hx hb dX6_canLeave_4 rfl (lv_at hl 1 rfl) ?_
  refine lv_iconst (v := (0 : Int32)) hx hb dX6_canLeave_5 (by decide) ?_
  refine rdV (Ek_est a) C hP hE0 (c_X0_link l D k a _ x1 (0 : Int32)) my_X0_link ml_X6_23 (rX3 C hP) rfl hl.1 (rest := []) rfl (Nat.le_of_ble_eq_true rfl) ⟨rfl, rfl, Nat.le_of_ble_eq_true rfl, Nat.le_of_ble_eq_true rfl⟩ ⟨Nat.zero_le _, Nat.zero_le _⟩ dX6_canLeave_6 ?_
  refine lv_istore_n (lv' := [(2, .int (fX0_link S x1 (0 : Int32))), (0, .ref (a 4)), (1, .int x1)]) hx hb dX6_canLeave_9 rfl hl (by decide) rfl (fun ls hl => ?_)
  refine lv_iload_n hx hb dX6_canLeave_10 rfl (lv_at hl 0 rfl) ?_
  refine lv_if_eq (tgt := 37) hx hb dX6_canLeave_11 (by decide) (fun c1 => ?_) (fun c1 => ?_)
  · rw [if_pos c1] at h
    refine lv_iconst (v := (1 : Int32)) hx hb dX6_canLeave_37 (by decide) ?_
    refine lv_goto (tgt := 42) hx hb dX6_canLeave_38 (by decide) ?_
    rw [← Option.some.inj h]
    exact rd_zret (v := true) C hr hlocks dX6_canLeave_42
  · rw [if_neg c1] at h
    refine lv_aload_n hx hb dX6_canLeave_14 rfl (lv_at hl 1 rfl) ?_
    refine gX4_entries C hP fl_X6_9 dX6_canLeave_15 ?_
    refine lv_iload_n hx hb dX6_canLeave_18 rfl (lv_at hl 0 rfl) ?_
    refine rdV (Ek_est a) C hP hE0 (c_X0_has l D k a _ (fX0_link S x1 (0 : Int32))) my_X0_has ml_X6_29 (rX3 C hP) rfl hl.1 (rest := []) rfl (Nat.le_of_ble_eq_true rfl) ⟨rfl, rfl, Nat.le_of_ble_eq_true rfl, Nat.le_of_ble_eq_true rfl⟩ ⟨Nat.zero_le _, Nat.zero_le _⟩ dX6_canLeave_19 ?_
    refine lv_if_eq (tgt := 41) hx hb dX6_canLeave_22 (by decide) (fun c2 => ?_) (fun c2 => ?_)
    · rw [if_pos c2] at h
      refine lv_iconst (v := (0 : Int32)) hx hb dX6_canLeave_41 (by decide) ?_
      rw [← Option.some.inj h]
      exact rd_zret (v := false) C hr hlocks dX6_canLeave_42
    · rw [if_neg c2] at h
      refine lv_aload_n hx hb dX6_canLeave_25 rfl (lv_at hl 1 rfl) ?_
      refine gX4_entries C hP fl_X6_9 dX6_canLeave_26 ?_
      refine lv_iload_n hx hb dX6_canLeave_29 rfl (lv_at hl 0 rfl) ?_
      refine lv_iload_n hx hb dX6_canLeave_30 rfl (lv_at hl 2 rfl) ?_
      obtain ⟨u3, hhu3, h⟩ := ob_some h
      refine rdV (Ek_est a) C hP hE0 (c_X0_isInRowOf l D k a _ (fX0_link S x1 (0 : Int32)) x1 u3 hhu3) my_X0_isInRowOf ml_X6_33 (rX3 C hP) rfl hl.1 (rest := []) rfl (Nat.le_of_ble_eq_true rfl) ⟨rfl, rfl, Nat.le_of_ble_eq_true rfl, Nat.le_of_ble_eq_true rfl⟩ ⟨Nat.zero_le _, Nat.zero_le _⟩ dX6_canLeave_31 ?_
      refine lv_if_eq (tgt := 41) hx hb dX6_canLeave_34 (by decide) (fun c4 => ?_) (fun c4 => ?_)
      · rw [if_pos c4] at h
        refine lv_iconst (v := (0 : Int32)) hx hb dX6_canLeave_41 (by decide) ?_
        rw [← Option.some.inj h]
        exact rd_zret (v := false) C hr hlocks dX6_canLeave_42
      · rw [if_neg c4] at h
        refine lv_iconst (v := (1 : Int32)) hx hb dX6_canLeave_37 (by decide) ?_
        refine lv_goto (tgt := 42) hx hb dX6_canLeave_38 (by decide) ?_
        rw [← Option.some.inj h]
        exact rd_zret (v := true) C hr hlocks dX6_canLeave_42
def fX6_takeOut_L : Nat → XS → Int32 → Int32 → Int32 → Int32 → Int32 → Option XS
  | 0, _, _, _, _, _, _ => none
  | n + 1, S, y1, y2, y3, y4, y5 => (if (100 : Int32) ≤ y5 then some (S) else (if (bI (fX0_has S y4)) = 0 then some (S) else (if (fX0_link S y4 (1 : Int32)) = y2 then some (fX0_setLink S y4 (1 : Int32) y3) else (fX6_takeOut_L n S y1 y2 y3 (fX0_link S y4 (1 : Int32)) (y5 + (1 : Int32))))))
def fX6_takeOut (S : XS) (x1 : Int32) (x2 : Int32) : Option XS := (if (fX0_link S x1 (2 : Int32)) = x2 then some (fX0_setLink S x1 (2 : Int32) (fX0_link S x2 (1 : Int32))) else (fX6_takeOut_L 102 S x1 x2 (fX0_link S x2 (1 : Int32)) (fX0_link S x1 (2 : Int32)) (0 : Int32)))
set_option maxRecDepth 100000 in
set_option maxHeartbeats 4000000 in
theorem c_X6_takeOut (l : Launch) (D : va_G) (k : Nat → ClassId) (a : Nat → Nat) (S : XS) (x1 : Int32) (x2 : Int32) (u : XS) (h : fX6_takeOut S x1 x2 = some u) : Wr (Ek a) l D (tyk k) (wX k a S) (wX k a u) yX6_takeOut cX6_takeOut 7 none (rmm 3 68) [.ref (a 4), .int x1, .int x2] none := by
  refine wr_start (by decide) (Nat.le_of_ble_eq_true rfl) ?_
  intro p e s m below meth c A C hr hlocks hP hD0 hA hE0 ls hl
  have hDA : ∀ S, va_D A (wX k a S) := wX_D hD0
  have hS : va_S A s.heap s.heap [] := va_S.rf
  have hl : lv_has ls 7 [(0, .ref (a 4)), (1, .int x1), (2, .int x2)] := hl
  obtain ⟨⟨hx, hb, hml, hown, hts⟩, hK⟩ := id C
  have L : ∀ n : Nat, ∀ (S : XS) (y1 : Int32) (y2 : Int32) (y3 : Int32) (y4 : Int32) (y5 : Int32) (H : Heap) (locs : List Loc) (ls : Array Slot), va_P D vwCl (wX k a S) H → va_S A s.heap H locs → lv_has ls 7 [(0, .ref (a 4)), (1, .int y1), (2, .int y2), (3, .int y3), (4, .int y4), (5, .int y5)] → fX6_takeOut_L n S y1 y2 y3 y4 y5 = some u → W p l e (rmm 3 68) s m ([.ref (a 4), .int x1, .int x2] : List Value).toArray below meth c H locs 0 0 (MQ below (Qw D (wX k a u) none A) ([.ref (a 4), .int x1, .int x2] : List Value).toArray s 0 0 A) (F0 m 41 ls []) := by
    intro n
    induction n with
    | zero => intro S y1 y2 y3 y4 y5 H locs ls hP hS hl h; cases h
    | succ n ih =>
      intro S y1 y2 y3 y4 y5 H locs ls hP hS hl h
      rw [fX6_takeOut_L] at h
      refine lv_iload hx hb dX6_takeOut_41 (lv_at hl 5 rfl) ?_
      refine lv_bipush (v := (100 : Int32)) hx hb dX6_takeOut_43 (by decide) ?_
      refine lv_icmp_ge (tgt := 100) hx hb dX6_takeOut_45 (by decide) (fun c2 => ?_) (fun c2 => ?_)
      · rw [if_pos c2] at h
        rw [← Option.some.inj h]
        exact wr_vret C hr hlocks hP hS dX6_takeOut_100
      · rw [if_neg c2] at h
        refine lv_aload_n hx hb dX6_takeOut_48 rfl (lv_at hl 0 rfl) ?_
        refine gX4_entries C hP fl_X6_9 dX6_takeOut_49 ?_
        refine lv_iload hx hb dX6_takeOut_52 (lv_at hl 4 rfl) ?_
        refine rdV (Ek_est a) C hP (ef (Ek_est a) hS hE0) (c_X0_has l D k a _ y4) my_X0_has ml_X6_29 (rX3 C hP) rfl hl.1 (rest := []) rfl (Nat.le_of_ble_eq_true rfl) ⟨rfl, rfl, Nat.le_of_ble_eq_true rfl, Nat.le_of_ble_eq_true rfl⟩ ⟨Nat.zero_le _, Nat.zero_le _⟩ dX6_takeOut_54 ?_
        refine lv_if_eq (tgt := 100) hx hb dX6_takeOut_57 (by decide) (fun c3 => ?_) (fun c3 => ?_)
        · rw [if_pos c3] at h
          rw [← Option.some.inj h]
          exact wr_vret C hr hlocks hP hS dX6_takeOut_100
        · rw [if_neg c3] at h
          refine lv_aload_n hx hb dX6_takeOut_60 rfl (lv_at hl 0 rfl) ?_
          refine gX4_entries C hP fl_X6_9 dX6_takeOut_61 ?_
          refine lv_iload hx hb dX6_takeOut_64 (lv_at hl 4 rfl) ?_
          refine lv_iconst (v := (1 : Int32)) hx hb dX6_takeOut_66 (by decide) ?_
          refine rdV (Ek_est a) C hP (ef (Ek_est a) hS hE0) (c_X0_link l D k a _ y4 (1 : Int32)) my_X0_link ml_X6_23 (rX3 C hP) rfl hl.1 (rest := []) rfl (Nat.le_of_ble_eq_true rfl) ⟨rfl, rfl, Nat.le_of_ble_eq_true rfl, Nat.le_of_ble_eq_true rfl⟩ ⟨Nat.zero_le _, Nat.zero_le _⟩ dX6_takeOut_67 ?_
          refine lv_istore (lv' := [(6, .int (fX0_link S y4 (1 : Int32))), (0, .ref (a 4)), (1, .int y1), (2, .int y2), (3, .int y3), (4, .int y4), (5, .int y5)]) hx hb dX6_takeOut_70 hl (by decide) rfl (fun ls hl => ?_)
          refine lv_iload hx hb dX6_takeOut_72 (lv_at hl 0 rfl) ?_
          refine lv_iload_n hx hb dX6_takeOut_74 rfl (lv_at hl 3 rfl) ?_
          refine lv_icmp_ne (tgt := 90) hx hb dX6_takeOut_75 (by decide) (fun c4 => ?_) (fun c4 => ?_)
          · rw [if_neg c4] at h
            refine lv_iload hx hb dX6_takeOut_90 (lv_at hl 0 rfl) ?_
            refine lv_istore (lv' := [(4, .int (fX0_link S y4 (1 : Int32))), (6, .int (fX0_link S y4 (1 : Int32))), (0, .ref (a 4)), (1, .int y1), (2, .int y2), (3, .int y3), (5, .int y5)]) hx hb dX6_takeOut_92 hl (by decide) rfl (fun ls hl => ?_)
            refine lv_iinc (v := (y5 + (1 : Int32))) (lv' := [(5, .int (y5 + (1 : Int32))), (4, .int (fX0_link S y4 (1 : Int32))), (6, .int (fX0_link S y4 (1 : Int32))), (0, .ref (a 4)), (1, .int y1), (2, .int y2), (3, .int y3)]) hx hb dX6_takeOut_94 hl (k := 6) rfl rfl (by decide) rfl (fun ls hl => ?_)
            refine lv_goto (tgt := 41) hx hb dX6_takeOut_97 (by decide) ?_
            exact ih _ _ _ _ _ _ _ _ ls hP hS (lv_sub hl [3, 4, 5, 6, 1, 0] rfl) h
          · rw [if_pos c4] at h
            refine lv_aload_n hx hb dX6_takeOut_78 rfl (lv_at hl 1 rfl) ?_
            refine gX4_entries C hP fl_X6_9 dX6_takeOut_79 ?_
            refine lv_iload hx hb dX6_takeOut_82 (lv_at hl 5 rfl) ?_
            refine lv_iconst (v := (1 : Int32)) hx hb dX6_takeOut_84 (by decide) ?_
            refine lv_iload_n hx hb dX6_takeOut_85 rfl (lv_at hl 4 rfl) ?_
            refine wrV (Ek_est a) C hP (hDA _) hA hS hE0 (c_X0_setLink l D k a _ y4 (1 : Int32) y3) my_X0_setLink ml_X6_41 (rX3 C hP) rfl hl.1 (rest := []) rfl (Nat.le_of_ble_eq_true rfl) ⟨rfl, rfl, Nat.le_of_ble_eq_true rfl, Nat.le_of_ble_eq_true rfl⟩ ⟨Nat.zero_le _, Nat.zero_le _⟩ dX6_takeOut_86 (fun H locs hP hS _ _ => ?_)
            rw [← Option.some.inj h]
            exact wr_vret C hr hlocks hP hS dX6_takeOut_89
  rw [fX6_takeOut] at h
  refine lv_aload_n hx hb dX6_takeOut_0 rfl (lv_at hl 0 rfl) ?_
  refine gX4_entries C hP fl_X6_9 dX6_takeOut_1 ?_
  refine lv_iload_n hx hb dX6_takeOut_4 rfl (lv_at hl 2 rfl) ?_
  refine lv_iconst (v := (1 : Int32)) hx hb dX6_takeOut_5 (by decide) ?_
  refine rdV (Ek_est a) C hP (ef (Ek_est a) hS hE0) (c_X0_link l D k a _ x2 (1 : Int32)) my_X0_link ml_X6_23 (rX3 C hP) rfl hl.1 (rest := []) rfl (Nat.le_of_ble_eq_true rfl) ⟨rfl, rfl, Nat.le_of_ble_eq_true rfl, Nat.le_of_ble_eq_true rfl⟩ ⟨Nat.zero_le _, Nat.zero_le _⟩ dX6_takeOut_6 ?_
  refine lv_istore_n (lv' := [(3, .int (fX0_link S x2 (1 : Int32))), (0, .ref (a 4)), (1, .int x1), (2, .int x2)]) hx hb dX6_takeOut_9 rfl hl (by decide) rfl (fun ls hl => ?_)
  refine lv_aload_n hx hb dX6_takeOut_10 rfl (lv_at hl 1 rfl) ?_
  refine gX4_entries C hP fl_X6_9 dX6_takeOut_11 ?_
  refine lv_iload_n hx hb dX6_takeOut_14 rfl (lv_at hl 2 rfl) ?_
  refine lv_iconst (v := (2 : Int32)) hx hb dX6_takeOut_15 (by decide) ?_
  refine rdV (Ek_est a) C hP (ef (Ek_est a) hS hE0) (c_X0_link l D k a _ x1 (2 : Int32)) my_X0_link ml_X6_23 (rX3 C hP) rfl hl.1 (rest := []) rfl (Nat.le_of_ble_eq_true rfl) ⟨rfl, rfl, Nat.le_of_ble_eq_true rfl, Nat.le_of_ble_eq_true rfl⟩ ⟨Nat.zero_le _, Nat.zero_le _⟩ dX6_takeOut_16 ?_
  refine lv_istore (lv' := [(4, .int (fX0_link S x1 (2 : Int32))), (3, .int (fX0_link S x2 (1 : Int32))), (0, .ref (a 4)), (1, .int x1), (2, .int x2)]) hx hb dX6_takeOut_19 hl (by decide) rfl (fun ls hl => ?_)
  refine lv_iload hx hb dX6_takeOut_21 (lv_at hl 0 rfl) ?_
  refine lv_iload_n hx hb dX6_takeOut_23 rfl (lv_at hl 4 rfl) ?_
  refine lv_icmp_ne (tgt := 38) hx hb dX6_takeOut_24 (by decide) (fun c1 => ?_) (fun c1 => ?_)
  · rw [if_neg c1] at h
    refine lv_iconst (v := (0 : Int32)) hx hb dX6_takeOut_38 (by decide) ?_
    refine lv_istore (lv' := [(5, .int (0 : Int32)), (4, .int (fX0_link S x1 (2 : Int32))), (3, .int (fX0_link S x2 (1 : Int32))), (0, .ref (a 4)), (1, .int x1), (2, .int x2)]) hx hb dX6_takeOut_39 hl (by decide) rfl (fun ls hl => ?_)
    exact L 102 _ _ _ _ _ _ _ _ ls hP hS (lv_sub hl [3, 4, 5, 2, 1, 0] rfl) h
  · rw [if_pos c1] at h
    refine lv_aload_n hx hb dX6_takeOut_27 rfl (lv_at hl 2 rfl) ?_
    refine gX4_entries C hP fl_X6_9 dX6_takeOut_28 ?_
    refine lv_iload_n hx hb dX6_takeOut_31 rfl (lv_at hl 3 rfl) ?_
    refine lv_iconst (v := (2 : Int32)) hx hb dX6_takeOut_32 (by decide) ?_
    refine lv_iload_n hx hb dX6_takeOut_33 rfl (lv_at hl 1 rfl) ?_
    refine wrV (Ek_est a) C hP (hDA _) hA hS hE0 (c_X0_setLink l D k a _ x1 (2 : Int32) (fX0_link S x2 (1 : Int32))) my_X0_setLink ml_X6_41 (rX3 C hP) rfl hl.1 (rest := []) rfl (Nat.le_of_ble_eq_true rfl) ⟨rfl, rfl, Nat.le_of_ble_eq_true rfl, Nat.le_of_ble_eq_true rfl⟩ ⟨Nat.zero_le _, Nat.zero_le _⟩ dX6_takeOut_34 (fun H locs hP hS _ _ => ?_)
    rw [← Option.some.inj h]
    exact wr_vret C hr hlocks hP hS dX6_takeOut_37
def fX6_leave (S : XS) (x1 : Int32) : Option XS := (if (bI (fX0_has S (fX0_link S x1 (0 : Int32)))) = 0 then some (fX0_setLink (fX0_setLink S x1 (0 : Int32) (0 : Int32)) x1 (1 : Int32) (0 : Int32)) else (ob (fX6_takeOut S (fX0_link S x1 (0 : Int32)) x1) (fun u2 => some (fX0_setLink (fX0_setLink u2 x1 (0 : Int32) (0 : Int32)) x1 (1 : Int32) (0 : Int32)))))
set_option maxRecDepth 100000 in
set_option maxHeartbeats 4000000 in
theorem c_X6_leave (l : Launch) (D : va_G) (k : Nat → ClassId) (a : Nat → Nat) (S : XS) (x1 : Int32) (u : XS) (h : fX6_leave S x1 = some u) : Wr (Ek a) l D (tyk k) (wX k a S) (wX k a u) yX6_leave cX6_leave 3 none (rmm 4 94) [.ref (a 4), .int x1] none := by
  refine wr_start (by decide) (Nat.le_of_ble_eq_true rfl) ?_
  intro p e s m below meth c A C hr hlocks hP hD0 hA hE0 ls hl
  have hDA : ∀ S, va_D A (wX k a S) := wX_D hD0
  have hS : va_S A s.heap s.heap [] := va_S.rf
  have hl : lv_has ls 3 [(0, .ref (a 4)), (1, .int x1)] := hl
  obtain ⟨⟨hx, hb, hml, hown, hts⟩, hK⟩ := id C
  rw [fX6_leave] at h
  refine lv_aload_n hx hb dX6_leave_0 rfl (lv_at hl 0 rfl) ?_
  refine gX4_entries C hP fl_X6_9 dX6_leave_1 ?_
  refine lv_iload_n hx hb dX6_leave_4 rfl (lv_at hl 1 rfl) ?_
  refine lv_iconst (v := (0 : Int32)) hx hb dX6_leave_5 (by decide) ?_
  refine rdV (Ek_est a) C hP (ef (Ek_est a) hS hE0) (c_X0_link l D k a _ x1 (0 : Int32)) my_X0_link ml_X6_23 (rX3 C hP) rfl hl.1 (rest := []) rfl (Nat.le_of_ble_eq_true rfl) ⟨rfl, rfl, Nat.le_of_ble_eq_true rfl, Nat.le_of_ble_eq_true rfl⟩ ⟨Nat.zero_le _, Nat.zero_le _⟩ dX6_leave_6 ?_
  refine lv_istore_n (lv' := [(2, .int (fX0_link S x1 (0 : Int32))), (0, .ref (a 4)), (1, .int x1)]) hx hb dX6_leave_9 rfl hl (by decide) rfl (fun ls hl => ?_)
  refine lv_aload_n hx hb dX6_leave_10 rfl (lv_at hl 1 rfl) ?_
  refine gX4_entries C hP fl_X6_9 dX6_leave_11 ?_
  refine lv_iload_n hx hb dX6_leave_14 rfl (lv_at hl 0 rfl) ?_
  refine rdV (Ek_est a) C hP (ef (Ek_est a) hS hE0) (c_X0_has l D k a _ (fX0_link S x1 (0 : Int32))) my_X0_has ml_X6_29 (rX3 C hP) rfl hl.1 (rest := []) rfl (Nat.le_of_ble_eq_true rfl) ⟨rfl, rfl, Nat.le_of_ble_eq_true rfl, Nat.le_of_ble_eq_true rfl⟩ ⟨Nat.zero_le _, Nat.zero_le _⟩ dX6_leave_15 ?_
  refine lv_if_eq (tgt := 27) hx hb dX6_leave_18 (by decide) (fun c1 => ?_) (fun c1 => ?_)
  · rw [if_pos c1] at h
    refine lv_aload_n hx hb dX6_leave_27 rfl (lv_at hl 1 rfl) ?_
    refine gX4_entries C hP fl_X6_9 dX6_leave_28 ?_
    refine lv_iload_n hx hb dX6_leave_31 rfl (lv_at hl 2 rfl) ?_
    refine lv_iconst (v := (0 : Int32)) hx hb dX6_leave_32 (by decide) ?_
    refine lv_iconst (v := (0 : Int32)) hx hb dX6_leave_33 (by decide) ?_
    refine wrV (Ek_est a) C hP (hDA _) hA hS hE0 (c_X0_setLink l D k a _ x1 (0 : Int32) (0 : Int32)) my_X0_setLink ml_X6_41 (rX3 C hP) rfl hl.1 (rest := []) rfl (Nat.le_of_ble_eq_true rfl) ⟨rfl, rfl, Nat.le_of_ble_eq_true rfl, Nat.le_of_ble_eq_true rfl⟩ ⟨Nat.zero_le _, Nat.zero_le _⟩ dX6_leave_34 (fun H locs hP hS _ _ => ?_)
    refine lv_aload_n hx hb dX6_leave_37 rfl (lv_at hl 1 rfl) ?_
    refine gX4_entries C hP fl_X6_9 dX6_leave_38 ?_
    refine lv_iload_n hx hb dX6_leave_41 rfl (lv_at hl 2 rfl) ?_
    refine lv_iconst (v := (1 : Int32)) hx hb dX6_leave_42 (by decide) ?_
    refine lv_iconst (v := (0 : Int32)) hx hb dX6_leave_43 (by decide) ?_
    refine wrV (Ek_est a) C hP (hDA _) hA hS hE0 (c_X0_setLink l D k a _ x1 (1 : Int32) (0 : Int32)) my_X0_setLink ml_X6_41 (rX3 C hP) rfl hl.1 (rest := []) rfl (Nat.le_of_ble_eq_true rfl) ⟨rfl, rfl, Nat.le_of_ble_eq_true rfl, Nat.le_of_ble_eq_true rfl⟩ ⟨Nat.zero_le _, Nat.zero_le _⟩ dX6_leave_44 (fun H locs hP hS _ _ => ?_)
    rw [← Option.some.inj h]
    exact wr_vret C hr hlocks hP hS dX6_leave_47
  · rw [if_neg c1] at h
    refine lv_aload_n hx hb dX6_leave_21 rfl (lv_at hl 1 rfl) ?_
    refine lv_iload_n hx hb dX6_leave_22 rfl (lv_at hl 0 rfl) ?_
    refine lv_iload_n hx hb dX6_leave_23 rfl (lv_at hl 2 rfl) ?_
    obtain ⟨u2, hhu2, h⟩ := ob_some h
    refine wrV (Ek_est a) C hP (hDA _) hA hS hE0 (c_X6_takeOut l D k a _ (fX0_link S x1 (0 : Int32)) x1 u2 hhu2) my_X6_takeOut ml_X6_37 (rX4 C hP) rfl hl.1 (rest := []) rfl (Nat.le_of_ble_eq_true rfl) ⟨rfl, rfl, Nat.le_of_ble_eq_true rfl, Nat.le_of_ble_eq_true rfl⟩ ⟨Nat.zero_le _, Nat.zero_le _⟩ dX6_leave_24 (fun H locs hP hS _ _ => ?_)
    refine lv_aload_n hx hb dX6_leave_27 rfl (lv_at hl 1 rfl) ?_
    refine gX4_entries C hP fl_X6_9 dX6_leave_28 ?_
    refine lv_iload_n hx hb dX6_leave_31 rfl (lv_at hl 2 rfl) ?_
    refine lv_iconst (v := (0 : Int32)) hx hb dX6_leave_32 (by decide) ?_
    refine lv_iconst (v := (0 : Int32)) hx hb dX6_leave_33 (by decide) ?_
    refine wrV (Ek_est a) C hP (hDA _) hA hS hE0 (c_X0_setLink l D k a _ x1 (0 : Int32) (0 : Int32)) my_X0_setLink ml_X6_41 (rX3 C hP) rfl hl.1 (rest := []) rfl (Nat.le_of_ble_eq_true rfl) ⟨rfl, rfl, Nat.le_of_ble_eq_true rfl, Nat.le_of_ble_eq_true rfl⟩ ⟨Nat.zero_le _, Nat.zero_le _⟩ dX6_leave_34 (fun H locs hP hS _ _ => ?_)
    refine lv_aload_n hx hb dX6_leave_37 rfl (lv_at hl 1 rfl) ?_
    refine gX4_entries C hP fl_X6_9 dX6_leave_38 ?_
    refine lv_iload_n hx hb dX6_leave_41 rfl (lv_at hl 2 rfl) ?_
    refine lv_iconst (v := (1 : Int32)) hx hb dX6_leave_42 (by decide) ?_
    refine lv_iconst (v := (0 : Int32)) hx hb dX6_leave_43 (by decide) ?_
    refine wrV (Ek_est a) C hP (hDA _) hA hS hE0 (c_X0_setLink l D k a _ x1 (1 : Int32) (0 : Int32)) my_X0_setLink ml_X6_41 (rX3 C hP) rfl hl.1 (rest := []) rfl (Nat.le_of_ble_eq_true rfl) ⟨rfl, rfl, Nat.le_of_ble_eq_true rfl, Nat.le_of_ble_eq_true rfl⟩ ⟨Nat.zero_le _, Nat.zero_le _⟩ dX6_leave_44 (fun H locs hP hS _ _ => ?_)
    rw [← Option.some.inj h]
    exact wr_vret C hr hlocks hP hS dX6_leave_47
def fX6_enter (S : XS) (x1 : Int32) (x2 : Int32) : XS := (fX0_setLink (fX0_setLink (fX0_setLink S x1 (1 : Int32) (fX0_link S x2 (2 : Int32))) x1 (0 : Int32) x2) x2 (2 : Int32) x1)
set_option maxRecDepth 100000 in
set_option maxHeartbeats 4000000 in
theorem c_X6_enter (l : Launch) (D : va_G) (k : Nat → ClassId) (a : Nat → Nat) (S : XS) (x1 : Int32) (x2 : Int32) : Wr (Ek a) l D (tyk k) (wX k a S) (wX k a (fX6_enter S x1 x2)) yX6_enter cX6_enter 3 none (rmm 3 68) [.ref (a 4), .int x1, .int x2] none := by
  generalize h : fX6_enter S x1 x2 = u
  refine wr_start (by decide) (Nat.le_of_ble_eq_true rfl) ?_
  intro p e s m below meth c A C hr hlocks hP hD0 hA hE0 ls hl
  have hDA : ∀ S, va_D A (wX k a S) := wX_D hD0
  have hS : va_S A s.heap s.heap [] := va_S.rf
  have hl : lv_has ls 3 [(0, .ref (a 4)), (1, .int x1), (2, .int x2)] := hl
  obtain ⟨⟨hx, hb, hml, hown, hts⟩, hK⟩ := id C
  rw [fX6_enter] at h
  refine lv_aload_n hx hb dX6_enter_0 rfl (lv_at hl 0 rfl) ?_
  refine gX4_entries C hP fl_X6_9 dX6_enter_1 ?_
  refine lv_iload_n hx hb dX6_enter_4 rfl (lv_at hl 1 rfl) ?_
  refine lv_iconst (v := (1 : Int32)) hx hb dX6_enter_5 (by decide) ?_
  refine lv_aload_n hx hb dX6_enter_6 rfl (lv_at hl 0 rfl) ?_
  refine gX4_entries C hP fl_X6_9 dX6_enter_7 ?_
  refine lv_iload_n hx hb dX6_enter_10 rfl (lv_at hl 2 rfl) ?_
  refine lv_iconst (v := (2 : Int32)) hx hb dX6_enter_11 (by decide) ?_
  refine rdV (Ek_est a) C hP (ef (Ek_est a) hS hE0) (c_X0_link l D k a _ x2 (2 : Int32)) my_X0_link ml_X6_23 (rX3 C hP) rfl hl.1 (rest := [.int (1 : Int32), .int x1, .ref (a 3)]) rfl (Nat.le_of_ble_eq_true rfl) ⟨rfl, rfl, Nat.le_of_ble_eq_true rfl, Nat.le_of_ble_eq_true rfl⟩ ⟨Nat.zero_le _, Nat.zero_le _⟩ dX6_enter_12 ?_
  refine wrV (Ek_est a) C hP (hDA _) hA hS hE0 (c_X0_setLink l D k a _ x1 (1 : Int32) (fX0_link S x2 (2 : Int32))) my_X0_setLink ml_X6_41 (rX3 C hP) rfl hl.1 (rest := []) rfl (Nat.le_of_ble_eq_true rfl) ⟨rfl, rfl, Nat.le_of_ble_eq_true rfl, Nat.le_of_ble_eq_true rfl⟩ ⟨Nat.zero_le _, Nat.zero_le _⟩ dX6_enter_15 (fun H locs hP hS _ _ => ?_)
  refine lv_aload_n hx hb dX6_enter_18 rfl (lv_at hl 0 rfl) ?_
  refine gX4_entries C hP fl_X6_9 dX6_enter_19 ?_
  refine lv_iload_n hx hb dX6_enter_22 rfl (lv_at hl 1 rfl) ?_
  refine lv_iconst (v := (0 : Int32)) hx hb dX6_enter_23 (by decide) ?_
  refine lv_iload_n hx hb dX6_enter_24 rfl (lv_at hl 2 rfl) ?_
  refine wrV (Ek_est a) C hP (hDA _) hA hS hE0 (c_X0_setLink l D k a _ x1 (0 : Int32) x2) my_X0_setLink ml_X6_41 (rX3 C hP) rfl hl.1 (rest := []) rfl (Nat.le_of_ble_eq_true rfl) ⟨rfl, rfl, Nat.le_of_ble_eq_true rfl, Nat.le_of_ble_eq_true rfl⟩ ⟨Nat.zero_le _, Nat.zero_le _⟩ dX6_enter_25 (fun H locs hP hS _ _ => ?_)
  refine lv_aload_n hx hb dX6_enter_28 rfl (lv_at hl 0 rfl) ?_
  refine gX4_entries C hP fl_X6_9 dX6_enter_29 ?_
  refine lv_iload_n hx hb dX6_enter_32 rfl (lv_at hl 2 rfl) ?_
  refine lv_iconst (v := (2 : Int32)) hx hb dX6_enter_33 (by decide) ?_
  refine lv_iload_n hx hb dX6_enter_34 rfl (lv_at hl 1 rfl) ?_
  refine wrV (Ek_est a) C hP (hDA _) hA hS hE0 (c_X0_setLink l D k a _ x2 (2 : Int32) x1) my_X0_setLink ml_X6_41 (rX3 C hP) rfl hl.1 (rest := []) rfl (Nat.le_of_ble_eq_true rfl) ⟨rfl, rfl, Nat.le_of_ble_eq_true rfl, Nat.le_of_ble_eq_true rfl⟩ ⟨Nat.zero_le _, Nat.zero_le _⟩ dX6_enter_35 (fun H locs hP hS _ _ => ?_)
  rw [← h]
  exact wr_vret C hr hlocks hP hS dX6_enter_38
def fX6_forgetMet_L : Nat → XS → Int32 → Option XS
  | 0, _, _ => none
  | n + 1, S, y1 => (if (101 : Int32) ≤ y1 then some (S) else (ob (gd y1 101) (fun _ => (fX6_forgetMet_L n (pA S 2 y1 (vp_nar .boolean (0 : Int32))) (y1 + (1 : Int32))))))
def fX6_forgetMet (S : XS)  : Option XS := (fX6_forgetMet_L 102 S (0 : Int32))
set_option maxRecDepth 100000 in
set_option maxHeartbeats 4000000 in
theorem c_X6_forgetMet (l : Launch) (D : va_G) (k : Nat → ClassId) (a : Nat → Nat) (S : XS)  (u : XS) (h : fX6_forgetMet S = some u) : Wr (Ek a) l D (tyk k) (wX k a S) (wX k a u) yX6_forgetMet cX6_forgetMet 2 none (rmm 0 0) [.ref (a 4)] none := by
  refine wr_start (by decide) (Nat.le_of_ble_eq_true rfl) ?_
  intro p e s m below meth c A C hr hlocks hP hD0 hA hE0 ls hl
  have hDA : ∀ S, va_D A (wX k a S) := wX_D hD0
  have hS : va_S A s.heap s.heap [] := va_S.rf
  have hl : lv_has ls 2 [(0, .ref (a 4))] := hl
  obtain ⟨⟨hx, hb, hml, hown, hts⟩, hK⟩ := id C
  have L : ∀ n : Nat, ∀ (S : XS) (y1 : Int32) (H : Heap) (locs : List Loc) (ls : Array Slot), va_P D vwCl (wX k a S) H → va_S A s.heap H locs → lv_has ls 2 [(0, .ref (a 4)), (1, .int y1)] → fX6_forgetMet_L n S y1 = some u → W p l e (rmm 0 0) s m ([.ref (a 4)] : List Value).toArray below meth c H locs 0 0 (MQ below (Qw D (wX k a u) none A) ([.ref (a 4)] : List Value).toArray s 0 0 A) (F0 m 2 ls []) := by
    intro n
    induction n with
    | zero => intro S y1 H locs ls hP hS hl h; cases h
    | succ n ih =>
      intro S y1 H locs ls hP hS hl h
      rw [fX6_forgetMet_L] at h
      refine lv_iload_n hx hb dX6_forgetMet_2 rfl (lv_at hl 1 rfl) ?_
      refine lv_aload_n hx hb dX6_forgetMet_3 rfl (lv_at hl 0 rfl) ?_
      refine gX4_isMet C hP fl_X6_19 dX6_forgetMet_4 ?_
      refine nX6 C hP dX6_forgetMet_7 (v := (101 : Int32)) rfl ?_
      refine lv_icmp_ge (tgt := 24) hx hb dX6_forgetMet_8 (by decide) (fun c1 => ?_) (fun c1 => ?_)
      · rw [if_pos c1] at h
        rw [← Option.some.inj h]
        exact wr_vret C hr hlocks hP hS dX6_forgetMet_24
      · rw [if_neg c1] at h
        refine lv_aload_n hx hb dX6_forgetMet_11 rfl (lv_at hl 0 rfl) ?_
        refine gX4_isMet C hP fl_X6_19 dX6_forgetMet_12 ?_
        refine lv_iload_n hx hb dX6_forgetMet_15 rfl (lv_at hl 1 rfl) ?_
        refine lv_iconst (v := (0 : Int32)) hx hb dX6_forgetMet_16 (by decide) ?_
        obtain ⟨_, hg, h⟩ := ob_some h
        refine sX6 C hP (hDA _) hS (gd_in hg) dX6_forgetMet_17 (fun H locs hP hS => ?_)
        refine lv_iinc (v := (y1 + (1 : Int32))) (lv' := [(1, .int (y1 + (1 : Int32))), (0, .ref (a 4))]) hx hb dX6_forgetMet_18 hl (k := 1) rfl rfl (by decide) rfl (fun ls hl => ?_)
        refine lv_goto (tgt := 2) hx hb dX6_forgetMet_21 (by decide) ?_
        exact ih _ _ _ _ ls hP hS (lv_sub hl [1, 0] rfl) h
  rw [fX6_forgetMet] at h
  refine lv_iconst (v := (0 : Int32)) hx hb dX6_forgetMet_0 (by decide) ?_
  refine lv_istore_n (lv' := [(1, .int (0 : Int32)), (0, .ref (a 4))]) hx hb dX6_forgetMet_1 rfl hl (by decide) rfl (fun ls hl => ?_)
  exact L 102 _ _ _ _ ls hP hS (lv_sub hl [1, 0] rfl) h
def fX6_met_L : Nat → XS → Int32 → Int32 → Int32 → Int32 → Int32 → Int32 → Option (Int32 × XS)
  | 0, _, _, _, _, _, _, _ => none
  | n + 1, S, y1, y2, y3, y4, y5, y6 => (if (200 : Int32) < y6 then some ((0 : Int32), S) else (if (bI (fX0_has S y5)) = 0 then (if 0 < (y4 + (-1 : Int32)) then (ob (gd (y4 + (-1 : Int32)) 100) (fun _ => (fX6_met_L n S y1 y2 y3 (y4 + (-1 : Int32)) (fX0_link S (S.2 1 (y4 + (-1 : Int32)).toNatClampNeg) (1 : Int32)) (y6 + (1 : Int32))))) else some ((0 : Int32), S)) else (ob (gd y5 101) (fun _ => (if (S.2 2 y5.toNatClampNeg) = 0 then (if (100 : Int32) ≤ y4 then (if 0 < (y4 + (-1 : Int32)) then (ob (gd (y4 + (-1 : Int32)) 100) (fun _ => (fX6_met_L n S y1 y2 y3 (y4 + (-1 : Int32)) (fX0_link S (S.2 1 (y4 + (-1 : Int32)).toNatClampNeg) (1 : Int32)) (y6 + (1 : Int32))))) else some ((0 : Int32), S)) else (if y3 = y2 then some (y5, S) else (ob (gd y5 101) (fun _ => (ob (gd y4 100) (fun _ => (fX6_met_L n (pA (pA S 2 y5 (vp_nar .boolean (1 : Int32))) 1 y4 y5) y1 y2 (y3 + (1 : Int32)) (y4 + (1 : Int32)) (fX0_link (pA (pA S 2 y5 (vp_nar .boolean (1 : Int32))) 1 y4 y5) y5 (2 : Int32)) (y6 + (1 : Int32))))))))) else (if 0 < (y4 + (-1 : Int32)) then (ob (gd (y4 + (-1 : Int32)) 100) (fun _ => (fX6_met_L n S y1 y2 y3 (y4 + (-1 : Int32)) (fX0_link S (S.2 1 (y4 + (-1 : Int32)).toNatClampNeg) (1 : Int32)) (y6 + (1 : Int32))))) else some ((0 : Int32), S)))))))
def fX6_met (S : XS) (x1 : Int32) (x2 : Int32) : Option (Int32 × XS) := (ob (fX6_forgetMet S) (fun u1 => (fX6_met_L 202 u1 x1 x2 (0 : Int32) (0 : Int32) x1 (0 : Int32))))
set_option maxRecDepth 100000 in
set_option maxHeartbeats 4000000 in
theorem c_X6_met (l : Launch) (D : va_G) (k : Nat → ClassId) (a : Nat → Nat) (S : XS) (x1 : Int32) (x2 : Int32) (u : Int32 × XS) (h : fX6_met S x1 x2 = some u) : Wr (Ek a) l D (tyk k) (wX k a S) (wX k a u.2) yX6_met cX6_met 7 (some .int) (rmm 3 66) [.ref (a 4), .int x1, .int x2] (some (.int u.1)) := by
  refine wr_start (by decide) (Nat.le_of_ble_eq_true rfl) ?_
  intro p e s m below meth c A C hr hlocks hP hD0 hA hE0 ls hl
  have hDA : ∀ S, va_D A (wX k a S) := wX_D hD0
  have hS : va_S A s.heap s.heap [] := va_S.rf
  have hl : lv_has ls 7 [(0, .ref (a 4)), (1, .int x1), (2, .int x2)] := hl
  obtain ⟨⟨hx, hb, hml, hown, hts⟩, hK⟩ := id C
  have L : ∀ n : Nat, ∀ (S : XS) (y1 : Int32) (y2 : Int32) (y3 : Int32) (y4 : Int32) (y5 : Int32) (y6 : Int32) (H : Heap) (locs : List Loc) (ls : Array Slot), va_P D vwCl (wX k a S) H → va_S A s.heap H locs → lv_has ls 7 [(0, .ref (a 4)), (1, .int y1), (2, .int y2), (3, .int y3), (4, .int y4), (5, .int y5), (6, .int y6)] → fX6_met_L n S y1 y2 y3 y4 y5 y6 = some u → W p l e (rmm 3 66) s m ([.ref (a 4), .int x1, .int x2] : List Value).toArray below meth c H locs 0 0 (MQ below (Qw D (wX k a u.2) (some (.int u.1)) A) ([.ref (a 4), .int x1, .int x2] : List Value).toArray s 0 0 A) (F0 m 15 ls []) := by
    intro n
    induction n with
    | zero => intro S y1 y2 y3 y4 y5 y6 H locs ls hP hS hl h; cases h
    | succ n ih =>
      intro S y1 y2 y3 y4 y5 y6 H locs ls hP hS hl h
      rw [fX6_met_L] at h
      refine lv_iload hx hb dX6_met_15 (lv_at hl 6 rfl) ?_
      refine lv_sipush (v := (200 : Int32)) hx hb dX6_met_17 (by decide) ?_
      refine lv_icmp_gt (tgt := 131) hx hb dX6_met_20 (by decide) (fun c2 => ?_) (fun c2 => ?_)
      · rw [if_pos c2] at h
        refine lv_iconst (v := (0 : Int32)) hx hb dX6_met_131 (by decide) ?_
        rw [← Option.some.inj h]
        exact wrX_iret C hr hlocks hP hS dX6_met_132
      · rw [if_neg c2] at h
        refine lv_aload_n hx hb dX6_met_23 rfl (lv_at hl 0 rfl) ?_
        refine gX4_entries C hP fl_X6_9 dX6_met_24 ?_
        refine lv_iload hx hb dX6_met_27 (lv_at hl 5 rfl) ?_
        refine rdV (Ek_est a) C hP (ef (Ek_est a) hS hE0) (c_X0_has l D k a _ y5) my_X0_has ml_X6_29 (rX3 C hP) rfl hl.1 (rest := []) rfl (Nat.le_of_ble_eq_true rfl) ⟨rfl, rfl, Nat.le_of_ble_eq_true rfl, Nat.le_of_ble_eq_true rfl⟩ ⟨Nat.zero_le _, Nat.zero_le _⟩ dX6_met_29 ?_
        refine lv_if_eq (tgt := 98) hx hb dX6_met_32 (by decide) (fun c3 => ?_) (fun c3 => ?_)
        · rw [if_pos c3] at h
          refine lv_iinc (v := (y4 + (-1 : Int32))) (lv' := [(4, .int (y4 + (-1 : Int32))), (0, .ref (a 4)), (1, .int y1), (2, .int y2), (3, .int y3), (5, .int y5), (6, .int y6)]) hx hb dX6_met_98 hl (k := 4) rfl rfl (by decide) rfl (fun ls hl => ?_)
          refine lv_iload hx hb dX6_met_101 (lv_at hl 0 rfl) ?_
          refine lv_if_gt (tgt := 108) hx hb dX6_met_103 (by decide) (fun c4 => ?_) (fun c4 => ?_)
          · rw [if_pos c4] at h
            refine lv_aload_n hx hb dX6_met_108 rfl (lv_at hl 1 rfl) ?_
            refine gX4_entries C hP fl_X6_9 dX6_met_109 ?_
            refine lv_aload_n hx hb dX6_met_112 rfl (lv_at hl 1 rfl) ?_
            refine gX4_open C hP fl_X6_15 dX6_met_113 ?_
            refine lv_iload hx hb dX6_met_116 (lv_at hl 0 rfl) ?_
            obtain ⟨_, hg, h⟩ := ob_some h
            refine aX5 C hP (gd_in hg) dX6_met_118 (v := (S.2 1 (y4 + (-1 : Int32)).toNatClampNeg)) rfl ?_
            refine lv_iconst (v := (1 : Int32)) hx hb dX6_met_119 (by decide) ?_
            refine rdV (Ek_est a) C hP (ef (Ek_est a) hS hE0) (c_X0_link l D k a _ (S.2 1 (y4 + (-1 : Int32)).toNatClampNeg) (1 : Int32)) my_X0_link ml_X6_23 (rX3 C hP) rfl hl.1 (rest := []) rfl (Nat.le_of_ble_eq_true rfl) ⟨rfl, rfl, Nat.le_of_ble_eq_true rfl, Nat.le_of_ble_eq_true rfl⟩ ⟨Nat.zero_le _, Nat.zero_le _⟩ dX6_met_120 ?_
            refine lv_istore (lv' := [(5, .int (fX0_link S (S.2 1 (y4 + (-1 : Int32)).toNatClampNeg) (1 : Int32))), (4, .int (y4 + (-1 : Int32))), (0, .ref (a 4)), (1, .int y1), (2, .int y2), (3, .int y3), (6, .int y6)]) hx hb dX6_met_123 hl (by decide) rfl (fun ls hl => ?_)
            refine lv_iinc (v := (y6 + (1 : Int32))) (lv' := [(6, .int (y6 + (1 : Int32))), (5, .int (fX0_link S (S.2 1 (y4 + (-1 : Int32)).toNatClampNeg) (1 : Int32))), (4, .int (y4 + (-1 : Int32))), (0, .ref (a 4)), (1, .int y1), (2, .int y2), (3, .int y3)]) hx hb dX6_met_125 hl (k := 6) rfl rfl (by decide) rfl (fun ls hl => ?_)
            refine lv_goto (tgt := 15) hx hb dX6_met_128 (by decide) ?_
            exact ih _ _ _ _ _ _ _ _ _ ls hP hS (lv_sub hl [3, 4, 5, 6, 2, 1, 0] rfl) h
          · rw [if_neg c4] at h
            refine lv_iconst (v := (0 : Int32)) hx hb dX6_met_106 (by decide) ?_
            rw [← Option.some.inj h]
            exact wrX_iret C hr hlocks hP hS dX6_met_107
        · rw [if_neg c3] at h
          refine lv_aload_n hx hb dX6_met_35 rfl (lv_at hl 0 rfl) ?_
          refine gX4_isMet C hP fl_X6_19 dX6_met_36 ?_
          refine lv_iload hx hb dX6_met_39 (lv_at hl 5 rfl) ?_
          obtain ⟨_, hg, h⟩ := ob_some h
          refine aX6 C hP (gd_in hg) dX6_met_41 (v := (S.2 2 y5.toNatClampNeg)) rfl ?_
          refine lv_if_ne (tgt := 98) hx hb dX6_met_42 (by decide) (fun c5 => ?_) (fun c5 => ?_)
          · rw [if_neg c5] at h
            refine lv_iinc (v := (y4 + (-1 : Int32))) (lv' := [(4, .int (y4 + (-1 : Int32))), (0, .ref (a 4)), (1, .int y1), (2, .int y2), (3, .int y3), (5, .int y5), (6, .int y6)]) hx hb dX6_met_98 hl (k := 4) rfl rfl (by decide) rfl (fun ls hl => ?_)
            refine lv_iload hx hb dX6_met_101 (lv_at hl 0 rfl) ?_
            refine lv_if_gt (tgt := 108) hx hb dX6_met_103 (by decide) (fun c6 => ?_) (fun c6 => ?_)
            · rw [if_pos c6] at h
              refine lv_aload_n hx hb dX6_met_108 rfl (lv_at hl 1 rfl) ?_
              refine gX4_entries C hP fl_X6_9 dX6_met_109 ?_
              refine lv_aload_n hx hb dX6_met_112 rfl (lv_at hl 1 rfl) ?_
              refine gX4_open C hP fl_X6_15 dX6_met_113 ?_
              refine lv_iload hx hb dX6_met_116 (lv_at hl 0 rfl) ?_
              obtain ⟨_, hg, h⟩ := ob_some h
              refine aX5 C hP (gd_in hg) dX6_met_118 (v := (S.2 1 (y4 + (-1 : Int32)).toNatClampNeg)) rfl ?_
              refine lv_iconst (v := (1 : Int32)) hx hb dX6_met_119 (by decide) ?_
              refine rdV (Ek_est a) C hP (ef (Ek_est a) hS hE0) (c_X0_link l D k a _ (S.2 1 (y4 + (-1 : Int32)).toNatClampNeg) (1 : Int32)) my_X0_link ml_X6_23 (rX3 C hP) rfl hl.1 (rest := []) rfl (Nat.le_of_ble_eq_true rfl) ⟨rfl, rfl, Nat.le_of_ble_eq_true rfl, Nat.le_of_ble_eq_true rfl⟩ ⟨Nat.zero_le _, Nat.zero_le _⟩ dX6_met_120 ?_
              refine lv_istore (lv' := [(5, .int (fX0_link S (S.2 1 (y4 + (-1 : Int32)).toNatClampNeg) (1 : Int32))), (4, .int (y4 + (-1 : Int32))), (0, .ref (a 4)), (1, .int y1), (2, .int y2), (3, .int y3), (6, .int y6)]) hx hb dX6_met_123 hl (by decide) rfl (fun ls hl => ?_)
              refine lv_iinc (v := (y6 + (1 : Int32))) (lv' := [(6, .int (y6 + (1 : Int32))), (5, .int (fX0_link S (S.2 1 (y4 + (-1 : Int32)).toNatClampNeg) (1 : Int32))), (4, .int (y4 + (-1 : Int32))), (0, .ref (a 4)), (1, .int y1), (2, .int y2), (3, .int y3)]) hx hb dX6_met_125 hl (k := 6) rfl rfl (by decide) rfl (fun ls hl => ?_)
              refine lv_goto (tgt := 15) hx hb dX6_met_128 (by decide) ?_
              exact ih _ _ _ _ _ _ _ _ _ ls hP hS (lv_sub hl [3, 4, 5, 6, 2, 1, 0] rfl) h
            · rw [if_neg c6] at h
              refine lv_iconst (v := (0 : Int32)) hx hb dX6_met_106 (by decide) ?_
              rw [← Option.some.inj h]
              exact wrX_iret C hr hlocks hP hS dX6_met_107
          · rw [if_pos c5] at h
            refine lv_iload hx hb dX6_met_45 (lv_at hl 4 rfl) ?_
            refine lv_bipush (v := (100 : Int32)) hx hb dX6_met_47 (by decide) ?_
            refine lv_icmp_ge (tgt := 98) hx hb dX6_met_49 (by decide) (fun c7 => ?_) (fun c7 => ?_)
            · rw [if_pos c7] at h
              refine lv_iinc (v := (y4 + (-1 : Int32))) (lv' := [(4, .int (y4 + (-1 : Int32))), (0, .ref (a 4)), (1, .int y1), (2, .int y2), (3, .int y3), (5, .int y5), (6, .int y6)]) hx hb dX6_met_98 hl (k := 4) rfl rfl (by decide) rfl (fun ls hl => ?_)
              refine lv_iload hx hb dX6_met_101 (lv_at hl 0 rfl) ?_
              refine lv_if_gt (tgt := 108) hx hb dX6_met_103 (by decide) (fun c8 => ?_) (fun c8 => ?_)
              · rw [if_pos c8] at h
                refine lv_aload_n hx hb dX6_met_108 rfl (lv_at hl 1 rfl) ?_
                refine gX4_entries C hP fl_X6_9 dX6_met_109 ?_
                refine lv_aload_n hx hb dX6_met_112 rfl (lv_at hl 1 rfl) ?_
                refine gX4_open C hP fl_X6_15 dX6_met_113 ?_
                refine lv_iload hx hb dX6_met_116 (lv_at hl 0 rfl) ?_
                obtain ⟨_, hg, h⟩ := ob_some h
                refine aX5 C hP (gd_in hg) dX6_met_118 (v := (S.2 1 (y4 + (-1 : Int32)).toNatClampNeg)) rfl ?_
                refine lv_iconst (v := (1 : Int32)) hx hb dX6_met_119 (by decide) ?_
                refine rdV (Ek_est a) C hP (ef (Ek_est a) hS hE0) (c_X0_link l D k a _ (S.2 1 (y4 + (-1 : Int32)).toNatClampNeg) (1 : Int32)) my_X0_link ml_X6_23 (rX3 C hP) rfl hl.1 (rest := []) rfl (Nat.le_of_ble_eq_true rfl) ⟨rfl, rfl, Nat.le_of_ble_eq_true rfl, Nat.le_of_ble_eq_true rfl⟩ ⟨Nat.zero_le _, Nat.zero_le _⟩ dX6_met_120 ?_
                refine lv_istore (lv' := [(5, .int (fX0_link S (S.2 1 (y4 + (-1 : Int32)).toNatClampNeg) (1 : Int32))), (4, .int (y4 + (-1 : Int32))), (0, .ref (a 4)), (1, .int y1), (2, .int y2), (3, .int y3), (6, .int y6)]) hx hb dX6_met_123 hl (by decide) rfl (fun ls hl => ?_)
                refine lv_iinc (v := (y6 + (1 : Int32))) (lv' := [(6, .int (y6 + (1 : Int32))), (5, .int (fX0_link S (S.2 1 (y4 + (-1 : Int32)).toNatClampNeg) (1 : Int32))), (4, .int (y4 + (-1 : Int32))), (0, .ref (a 4)), (1, .int y1), (2, .int y2), (3, .int y3)]) hx hb dX6_met_125 hl (k := 6) rfl rfl (by decide) rfl (fun ls hl => ?_)
                refine lv_goto (tgt := 15) hx hb dX6_met_128 (by decide) ?_
                exact ih _ _ _ _ _ _ _ _ _ ls hP hS (lv_sub hl [3, 4, 5, 6, 2, 1, 0] rfl) h
              · rw [if_neg c8] at h
                refine lv_iconst (v := (0 : Int32)) hx hb dX6_met_106 (by decide) ?_
                rw [← Option.some.inj h]
                exact wrX_iret C hr hlocks hP hS dX6_met_107
            · rw [if_neg c7] at h
              refine lv_iload_n hx hb dX6_met_52 rfl (lv_at hl 3 rfl) ?_
              refine lv_iload_n hx hb dX6_met_53 rfl (lv_at hl 2 rfl) ?_
              refine lv_icmp_ne (tgt := 60) hx hb dX6_met_54 (by decide) (fun c9 => ?_) (fun c9 => ?_)
              · rw [if_neg c9] at h
                refine lv_iinc (v := (y3 + (1 : Int32))) (lv' := [(3, .int (y3 + (1 : Int32))), (0, .ref (a 4)), (1, .int y1), (2, .int y2), (4, .int y4), (5, .int y5), (6, .int y6)]) hx hb dX6_met_60 hl (k := 3) rfl rfl (by decide) rfl (fun ls hl => ?_)
                refine lv_aload_n hx hb dX6_met_63 rfl (lv_at hl 1 rfl) ?_
                refine gX4_isMet C hP fl_X6_19 dX6_met_64 ?_
                refine lv_iload hx hb dX6_met_67 (lv_at hl 5 rfl) ?_
                refine lv_iconst (v := (1 : Int32)) hx hb dX6_met_69 (by decide) ?_
                obtain ⟨_, hg, h⟩ := ob_some h
                refine sX6 C hP (hDA _) hS (gd_in hg) dX6_met_70 (fun H locs hP hS => ?_)
                refine lv_aload_n hx hb dX6_met_71 rfl (lv_at hl 1 rfl) ?_
                refine gX4_open C hP fl_X6_15 dX6_met_72 ?_
                refine lv_iload hx hb dX6_met_75 (lv_at hl 4 rfl) ?_
                refine lv_iload hx hb dX6_met_77 (lv_at hl 5 rfl) ?_
                obtain ⟨_, hg, h⟩ := ob_some h
                refine sX5 C hP (hDA _) hS (gd_in hg) dX6_met_79 (fun H locs hP hS => ?_)
                refine lv_iinc (v := (y4 + (1 : Int32))) (lv' := [(4, .int (y4 + (1 : Int32))), (3, .int (y3 + (1 : Int32))), (0, .ref (a 4)), (1, .int y1), (2, .int y2), (5, .int y5), (6, .int y6)]) hx hb dX6_met_80 hl (k := 4) rfl rfl (by decide) rfl (fun ls hl => ?_)
                refine lv_aload_n hx hb dX6_met_83 rfl (lv_at hl 2 rfl) ?_
                refine gX4_entries C hP fl_X6_9 dX6_met_84 ?_
                refine lv_iload hx hb dX6_met_87 (lv_at hl 5 rfl) ?_
                refine lv_iconst (v := (2 : Int32)) hx hb dX6_met_89 (by decide) ?_
                refine rdV (Ek_est a) C hP (ef (Ek_est a) hS hE0) (c_X0_link l D k a _ y5 (2 : Int32)) my_X0_link ml_X6_23 (rX3 C hP) rfl hl.1 (rest := []) rfl (Nat.le_of_ble_eq_true rfl) ⟨rfl, rfl, Nat.le_of_ble_eq_true rfl, Nat.le_of_ble_eq_true rfl⟩ ⟨Nat.zero_le _, Nat.zero_le _⟩ dX6_met_90 ?_
                refine lv_istore (lv' := [(5, .int (fX0_link (pA (pA S 2 y5 (vp_nar .boolean (1 : Int32))) 1 y4 y5) y5 (2 : Int32))), (4, .int (y4 + (1 : Int32))), (3, .int (y3 + (1 : Int32))), (0, .ref (a 4)), (1, .int y1), (2, .int y2), (6, .int y6)]) hx hb dX6_met_93 hl (by decide) rfl (fun ls hl => ?_)
                refine lv_goto (tgt := 125) hx hb dX6_met_95 (by decide) ?_
                refine lv_iinc (v := (y6 + (1 : Int32))) (lv' := [(6, .int (y6 + (1 : Int32))), (5, .int (fX0_link (pA (pA S 2 y5 (vp_nar .boolean (1 : Int32))) 1 y4 y5) y5 (2 : Int32))), (4, .int (y4 + (1 : Int32))), (3, .int (y3 + (1 : Int32))), (0, .ref (a 4)), (1, .int y1), (2, .int y2)]) hx hb dX6_met_125 hl (k := 6) rfl rfl (by decide) rfl (fun ls hl => ?_)
                refine lv_goto (tgt := 15) hx hb dX6_met_128 (by decide) ?_
                exact ih _ _ _ _ _ _ _ _ _ ls hP hS (lv_sub hl [4, 5, 6, 3, 2, 1, 0] rfl) h
              · rw [if_pos c9] at h
                refine lv_iload hx hb dX6_met_57 (lv_at hl 5 rfl) ?_
                rw [← Option.some.inj h]
                exact wrX_iret C hr hlocks hP hS dX6_met_59
  rw [fX6_met] at h
  refine lv_aload_n hx hb dX6_met_0 rfl (lv_at hl 0 rfl) ?_
  obtain ⟨u1, hhu1, h⟩ := ob_some h
  refine wrV (Ek_est a) C hP (hDA _) hA hS hE0 (c_X6_forgetMet l D k a _  u1 hhu1) my_X6_forgetMet ml_X6_45 (rX4 C hP) rfl hl.1 (rest := []) rfl (Nat.le_of_ble_eq_true rfl) ⟨rfl, rfl, Nat.le_of_ble_eq_true rfl, Nat.le_of_ble_eq_true rfl⟩ ⟨Nat.zero_le _, Nat.zero_le _⟩ dX6_met_1 (fun H locs hP hS _ _ => ?_)
  refine lv_iconst (v := (0 : Int32)) hx hb dX6_met_4 (by decide) ?_
  refine lv_istore_n (lv' := [(3, .int (0 : Int32)), (0, .ref (a 4)), (1, .int x1), (2, .int x2)]) hx hb dX6_met_5 rfl hl (by decide) rfl (fun ls hl => ?_)
  refine lv_iconst (v := (0 : Int32)) hx hb dX6_met_6 (by decide) ?_
  refine lv_istore (lv' := [(4, .int (0 : Int32)), (3, .int (0 : Int32)), (0, .ref (a 4)), (1, .int x1), (2, .int x2)]) hx hb dX6_met_7 hl (by decide) rfl (fun ls hl => ?_)
  refine lv_iload_n hx hb dX6_met_9 rfl (lv_at hl 3 rfl) ?_
  refine lv_istore (lv' := [(5, .int x1), (4, .int (0 : Int32)), (3, .int (0 : Int32)), (0, .ref (a 4)), (1, .int x1), (2, .int x2)]) hx hb dX6_met_10 hl (by decide) rfl (fun ls hl => ?_)
  refine lv_iconst (v := (0 : Int32)) hx hb dX6_met_12 (by decide) ?_
  refine lv_istore (lv' := [(6, .int (0 : Int32)), (5, .int x1), (4, .int (0 : Int32)), (3, .int (0 : Int32)), (0, .ref (a 4)), (1, .int x1), (2, .int x2)]) hx hb dX6_met_13 hl (by decide) rfl (fun ls hl => ?_)
  exact L 202 _ _ _ _ _ _ _ _ _ ls hP hS (lv_sub hl [4, 5, 6, 3, 2, 1, 0] rfl) h
def fX3_begin (S : XS) (x1 : Int32) : XS := (pS S 11 ((x1 + (1 : Int32)) + ((2 : Int32) * (fX2_get S x1))))
set_option maxRecDepth 100000 in
set_option maxHeartbeats 4000000 in
theorem c_X3_begin (l : Launch) (D : va_G) (k : Nat → ClassId) (a : Nat → Nat) (S : XS) (x1 : Int32) : Wr (Ek a) l D (tyk k) (wX k a S) (wX k a (fX3_begin S x1)) yX3_begin cX3_begin 2 none (rmm 1 21) [.ref (a 7), .int x1] none := by
  generalize h : fX3_begin S x1 = u
  refine wr_start (by decide) (Nat.le_of_ble_eq_true rfl) ?_
  intro p e s m below meth c A C hr hlocks hP hD0 hA hE0 ls hl
  have hDA : ∀ S, va_D A (wX k a S) := wX_D hD0
  have hS : va_S A s.heap s.heap [] := va_S.rf
  have hl : lv_has ls 2 [(0, .ref (a 7)), (1, .int x1)] := hl
  obtain ⟨⟨hx, hb, hml, hown, hts⟩, hK⟩ := id C
  rw [fX3_begin] at h
  refine lv_aload_n hx hb dX3_begin_0 rfl (lv_at hl 0 rfl) ?_
  refine lv_iload_n hx hb dX3_begin_1 rfl (lv_at hl 1 rfl) ?_
  refine lv_iconst (v := (1 : Int32)) hx hb dX3_begin_2 (by decide) ?_
  refine lv_iadd hx hb dX3_begin_3 ?_
  refine lv_iconst (v := (2 : Int32)) hx hb dX3_begin_4 (by decide) ?_
  refine lv_aload_n hx hb dX3_begin_5 rfl (lv_at hl 0 rfl) ?_
  refine gX7_memory C hP fl_X3_9 dX3_begin_6 ?_
  refine lv_iload_n hx hb dX3_begin_9 rfl (lv_at hl 1 rfl) ?_
  refine rdV (Ek_est a) C hP (ef (Ek_est a) hS hE0) (c_X2_get l D k a _ x1) my_X2_get ml_X3_19 (rX1 C hP) rfl hl.1 (rest := [.int (2 : Int32), .int (x1 + (1 : Int32)), .ref (a 7)]) rfl (Nat.le_of_ble_eq_true rfl) ⟨rfl, rfl, Nat.le_of_ble_eq_true rfl, Nat.le_of_ble_eq_true rfl⟩ ⟨Nat.zero_le _, Nat.zero_le _⟩ dX3_begin_10 ?_
  refine lv_imul hx hb dX3_begin_13 ?_
  refine lv_iadd hx hb dX3_begin_14 ?_
  refine pX7_at C hP (hDA _) hS fl_X3_25 dX3_begin_15 (fun H locs hP hS => ?_)
  rw [← h]
  exact wr_vret C hr hlocks hP hS dX3_begin_18
def fX3_sizeByLastByte (S : XS) (x1 : Int32) : Int32 := (if (S.1 10) = 0 then ((x1 / (32 : Int32)) + (1 : Int32)) else (if (128 : Int32) ≤ x1 then (if (x1 - x1 / (64 : Int32) * (64 : Int32)) = 0 then (64 : Int32) else (x1 - x1 / (64 : Int32) * (64 : Int32))) else (if x1 < (64 : Int32) then (1 : Int32) else (2 : Int32))))
set_option maxRecDepth 100000 in
set_option maxHeartbeats 4000000 in
theorem c_X3_sizeByLastByte (l : Launch) (D : va_G) (k : Nat → ClassId) (a : Nat → Nat) (S : XS) (x1 : Int32) : Rd (Ek a) l D (tyk k) (wX k a S) yX3_sizeByLastByte cX3_sizeByLastByte 2 (some .int) (rmm 0 0) [.ref (a 7), .int x1] (fX3_sizeByLastByte S x1) := by
  generalize h : fX3_sizeByLastByte S x1 = u
  refine rd_start (by decide) (Nat.le_of_ble_eq_true rfl) ?_
  intro p e s m below meth c C hr hlocks hP hE0 ls hl
  have hl : lv_has ls 2 [(0, .ref (a 7)), (1, .int x1)] := hl
  obtain ⟨⟨hx, hb, hml, hown, hts⟩, hK⟩ := id C
  rw [fX3_sizeByLastByte] at h
  refine lv_aload_n hx hb dX3_sizeByLastByte_0 rfl (lv_at hl 0 rfl) ?_
  refine gX7_wide C hP fl_X3_15 dX3_sizeByLastByte_1 (v := (S.1 10)) rfl ?_
  refine lv_if_ne (tgt := 14) hx hb dX3_sizeByLastByte_4 (by decide) (fun c1 => ?_) (fun c1 => ?_)
  · rw [if_neg c1] at h
    refine lv_iload_n hx hb dX3_sizeByLastByte_14 rfl (lv_at hl 1 rfl) ?_
    refine lv_sipush (v := (128 : Int32)) hx hb dX3_sizeByLastByte_15 (by decide) ?_
    refine lv_icmp_ge (tgt := 33) hx hb dX3_sizeByLastByte_18 (by decide) (fun c2 => ?_) (fun c2 => ?_)
    · rw [if_pos c2] at h
      refine lv_iload_n hx hb dX3_sizeByLastByte_33 rfl (lv_at hl 1 rfl) ?_
      refine lv_bipush (v := (64 : Int32)) hx hb dX3_sizeByLastByte_34 (by decide) ?_
      refine lv_irem hx hb dX3_sizeByLastByte_36 (by decide) ?_
      refine lv_if_ne (tgt := 45) hx hb dX3_sizeByLastByte_37 (by decide) (fun c3 => ?_) (fun c3 => ?_)
      · rw [if_neg c3] at h
        refine lv_iload_n hx hb dX3_sizeByLastByte_45 rfl (lv_at hl 1 rfl) ?_
        refine lv_bipush (v := (64 : Int32)) hx hb dX3_sizeByLastByte_46 (by decide) ?_
        refine lv_irem hx hb dX3_sizeByLastByte_48 (by decide) ?_
        rw [← h]
        exact rd_iret C hr hlocks dX3_sizeByLastByte_49
      · rw [if_pos c3] at h
        refine lv_bipush (v := (64 : Int32)) hx hb dX3_sizeByLastByte_40 (by decide) ?_
        refine lv_goto (tgt := 49) hx hb dX3_sizeByLastByte_42 (by decide) ?_
        rw [← h]
        exact rd_iret C hr hlocks dX3_sizeByLastByte_49
    · rw [if_neg c2] at h
      refine lv_iload_n hx hb dX3_sizeByLastByte_21 rfl (lv_at hl 1 rfl) ?_
      refine lv_bipush (v := (64 : Int32)) hx hb dX3_sizeByLastByte_22 (by decide) ?_
      refine lv_icmp_lt (tgt := 31) hx hb dX3_sizeByLastByte_24 (by decide) (fun c4 => ?_) (fun c4 => ?_)
      · rw [if_pos c4] at h
        refine lv_iconst (v := (1 : Int32)) hx hb dX3_sizeByLastByte_31 (by decide) ?_
        rw [← h]
        exact rd_iret C hr hlocks dX3_sizeByLastByte_32
      · rw [if_neg c4] at h
        refine lv_iconst (v := (2 : Int32)) hx hb dX3_sizeByLastByte_27 (by decide) ?_
        refine lv_goto (tgt := 32) hx hb dX3_sizeByLastByte_28 (by decide) ?_
        rw [← h]
        exact rd_iret C hr hlocks dX3_sizeByLastByte_32
  · rw [if_pos c1] at h
    refine lv_iload_n hx hb dX3_sizeByLastByte_7 rfl (lv_at hl 1 rfl) ?_
    refine lv_bipush (v := (32 : Int32)) hx hb dX3_sizeByLastByte_8 (by decide) ?_
    refine lv_idiv hx hb dX3_sizeByLastByte_10 (by decide) ?_
    refine lv_iconst (v := (1 : Int32)) hx hb dX3_sizeByLastByte_11 (by decide) ?_
    refine lv_iadd hx hb dX3_sizeByLastByte_12 ?_
    rw [← h]
    exact rd_iret C hr hlocks dX3_sizeByLastByte_13
def fX3_advance (S : XS)  : Bool × XS := (if (fX2_get S (S.1 11)) = 0 then (false, S) else (if (S.1 10) = 0 then (true, (pS (pS (pS (pS S 12 ((fX2_get S (S.1 11)) - (fX2_get S (S.1 11)) / (32 : Int32) * (32 : Int32))) 14 ((S.1 11) + (1 : Int32))) 13 (fX3_sizeByLastByte (pS (pS S 12 ((fX2_get S (S.1 11)) - (fX2_get S (S.1 11)) / (32 : Int32) * (32 : Int32))) 14 ((S.1 11) + (1 : Int32))) (fX2_get S (S.1 11)))) 11 (((S.1 11) + (1 : Int32)) + (fX3_sizeByLastByte (pS (pS S 12 ((fX2_get S (S.1 11)) - (fX2_get S (S.1 11)) / (32 : Int32) * (32 : Int32))) 14 ((S.1 11) + (1 : Int32))) (fX2_get S (S.1 11)))))) else (if (fX2_get S (S.1 11)) < (128 : Int32) then (true, (pS (pS (pS (pS S 12 ((fX2_get S (S.1 11)) - (fX2_get S (S.1 11)) / (64 : Int32) * (64 : Int32))) 14 ((S.1 11) + (1 : Int32))) 13 (fX3_sizeByLastByte (pS (pS S 12 ((fX2_get S (S.1 11)) - (fX2_get S (S.1 11)) / (64 : Int32) * (64 : Int32))) 14 ((S.1 11) + (1 : Int32))) (fX2_get S (S.1 11)))) 11 (((S.1 11) + (1 : Int32)) + (fX3_sizeByLastByte (pS (pS S 12 ((fX2_get S (S.1 11)) - (fX2_get S (S.1 11)) / (64 : Int32) * (64 : Int32))) 14 ((S.1 11) + (1 : Int32))) (fX2_get S (S.1 11)))))) else (true, (pS (pS (pS (pS S 12 ((fX2_get S (S.1 11)) - (fX2_get S (S.1 11)) / (64 : Int32) * (64 : Int32))) 14 ((S.1 11) + (2 : Int32))) 13 (fX3_sizeByLastByte (pS (pS S 12 ((fX2_get S (S.1 11)) - (fX2_get S (S.1 11)) / (64 : Int32) * (64 : Int32))) 14 ((S.1 11) + (2 : Int32))) ((fX2_get (pS (pS S 12 ((fX2_get S (S.1 11)) - (fX2_get S (S.1 11)) / (64 : Int32) * (64 : Int32))) 14 ((S.1 11) + (2 : Int32))) ((S.1 11) + (1 : Int32))) ||| (128 : Int32)))) 11 (((S.1 11) + (2 : Int32)) + (fX3_sizeByLastByte (pS (pS S 12 ((fX2_get S (S.1 11)) - (fX2_get S (S.1 11)) / (64 : Int32) * (64 : Int32))) 14 ((S.1 11) + (2 : Int32))) ((fX2_get (pS (pS S 12 ((fX2_get S (S.1 11)) - (fX2_get S (S.1 11)) / (64 : Int32) * (64 : Int32))) 14 ((S.1 11) + (2 : Int32))) ((S.1 11) + (1 : Int32))) ||| (128 : Int32)))))))))
set_option maxRecDepth 100000 in
set_option maxHeartbeats 4000000 in
theorem c_X3_advance (l : Launch) (D : va_G) (k : Nat → ClassId) (a : Nat → Nat) (S : XS)  : Wr (Ek a) l D (tyk k) (wX k a S) (wX k a (fX3_advance S).2) yX3_advance cX3_advance 3 (some .boolean) (rmm 1 21) [.ref (a 7)] (some (.int (bI (fX3_advance S).1))) := by
  generalize h : fX3_advance S = u
  refine wr_start (by decide) (Nat.le_of_ble_eq_true rfl) ?_
  intro p e s m below meth c A C hr hlocks hP hD0 hA hE0 ls hl
  have hDA : ∀ S, va_D A (wX k a S) := wX_D hD0
  have hS : va_S A s.heap s.heap [] := va_S.rf
  have hl : lv_has ls 3 [(0, .ref (a 7))] := hl
  obtain ⟨⟨hx, hb, hml, hown, hts⟩, hK⟩ := id C
  rw [fX3_advance] at h
  refine lv_aload_n hx hb dX3_advance_0 rfl (lv_at hl 0 rfl) ?_
  refine gX7_memory C hP fl_X3_9 dX3_advance_1 ?_
  refine lv_aload_n hx hb dX3_advance_4 rfl (lv_at hl 0 rfl) ?_
  refine gX7_at C hP fl_X3_25 dX3_advance_5 (v := (S.1 11)) rfl ?_
  refine rdV (Ek_est a) C hP (ef (Ek_est a) hS hE0) (c_X2_get l D k a _ (S.1 11)) my_X2_get ml_X3_19 (rX1 C hP) rfl hl.1 (rest := []) rfl (Nat.le_of_ble_eq_true rfl) ⟨rfl, rfl, Nat.le_of_ble_eq_true rfl, Nat.le_of_ble_eq_true rfl⟩ ⟨Nat.zero_le _, Nat.zero_le _⟩ dX3_advance_8 ?_
  refine lv_istore_n (lv' := [(1, .int (fX2_get S (S.1 11))), (0, .ref (a 7))]) hx hb dX3_advance_11 rfl hl (by decide) rfl (fun ls hl => ?_)
  refine lv_iload_n hx hb dX3_advance_12 rfl (lv_at hl 0 rfl) ?_
  refine lv_if_ne (tgt := 18) hx hb dX3_advance_13 (by decide) (fun c1 => ?_) (fun c1 => ?_)
  · rw [if_neg c1] at h
    refine lv_aload_n hx hb dX3_advance_18 rfl (lv_at hl 1 rfl) ?_
    refine gX7_wide C hP fl_X3_15 dX3_advance_19 (v := (S.1 10)) rfl ?_
    refine lv_if_eq (tgt := 36) hx hb dX3_advance_22 (by decide) (fun c2 => ?_) (fun c2 => ?_)
    · rw [if_pos c2] at h
      refine lv_iconst (v := (0 : Int32)) hx hb dX3_advance_36 (by decide) ?_
      refine lv_istore_n (lv' := [(2, .int (0 : Int32)), (1, .int (fX2_get S (S.1 11))), (0, .ref (a 7))]) hx hb dX3_advance_37 rfl hl (by decide) rfl (fun ls hl => ?_)
      refine lv_aload_n hx hb dX3_advance_38 rfl (lv_at hl 2 rfl) ?_
      refine lv_aload_n hx hb dX3_advance_39 rfl (lv_at hl 2 rfl) ?_
      refine gX7_wide C hP fl_X3_15 dX3_advance_40 (v := (S.1 10)) rfl ?_
      refine lv_if_eq (tgt := 53) hx hb dX3_advance_43 (by decide) (fun c3 => ?_) (fun c3 => ?_)
      · refine lv_iload_n hx hb dX3_advance_53 rfl (lv_at hl 1 rfl) ?_
        refine lv_bipush (v := (32 : Int32)) hx hb dX3_advance_54 (by decide) ?_
        refine lv_irem hx hb dX3_advance_56 (by decide) ?_
        refine pX7_number C hP (hDA _) hS fl_X3_29 dX3_advance_57 (fun H locs hP hS => ?_)
        refine lv_aload_n hx hb dX3_advance_60 rfl (lv_at hl 2 rfl) ?_
        refine lv_iload_n hx hb dX3_advance_61 rfl (lv_at hl 0 rfl) ?_
        refine lv_if_eq (tgt := 74) hx hb dX3_advance_62 (by decide) (fun c4 => ?_) (fun c4 => ?_)
        · refine lv_aload_n hx hb dX3_advance_74 rfl (lv_at hl 2 rfl) ?_
          refine gX7_at C hP fl_X3_25 dX3_advance_75 (v := (S.1 11)) rfl ?_
          refine lv_iconst (v := (1 : Int32)) hx hb dX3_advance_78 (by decide) ?_
          refine lv_iadd hx hb dX3_advance_79 ?_
          refine pX7_data C hP (hDA _) hS fl_X3_32 dX3_advance_80 (fun H locs hP hS => ?_)
          refine lv_aload_n hx hb dX3_advance_83 rfl (lv_at hl 2 rfl) ?_
          refine lv_aload_n hx hb dX3_advance_84 rfl (lv_at hl 2 rfl) ?_
          refine lv_iload_n hx hb dX3_advance_85 rfl (lv_at hl 0 rfl) ?_
          refine lv_if_eq (tgt := 109) hx hb dX3_advance_86 (by decide) (fun c5 => ?_) (fun c5 => ?_)
          · refine lv_iload_n hx hb dX3_advance_109 rfl (lv_at hl 1 rfl) ?_
            refine rdV (Ek_est a) C hP (ef (Ek_est a) hS hE0) (c_X3_sizeByLastByte l D k a _ (fX2_get S (S.1 11))) my_X3_sizeByLastByte ml_X3_35 (rX7 C hP) rfl hl.1 (rest := [.ref (a 7)]) rfl (Nat.le_of_ble_eq_true rfl) ⟨rfl, rfl, Nat.le_of_ble_eq_true rfl, Nat.le_of_ble_eq_true rfl⟩ ⟨Nat.zero_le _, Nat.zero_le _⟩ dX3_advance_110 ?_
            refine pX7_size C hP (hDA _) hS fl_X3_38 dX3_advance_113 (fun H locs hP hS => ?_)
            refine lv_aload_n hx hb dX3_advance_116 rfl (lv_at hl 2 rfl) ?_
            refine lv_aload_n hx hb dX3_advance_117 rfl (lv_at hl 2 rfl) ?_
            refine gX7_data C hP fl_X3_32 dX3_advance_118 (v := ((S.1 11) + (1 : Int32))) rfl ?_
            refine lv_aload_n hx hb dX3_advance_121 rfl (lv_at hl 2 rfl) ?_
            refine gX7_size C hP fl_X3_38 dX3_advance_122 (v := (fX3_sizeByLastByte (pS (pS S 12 ((fX2_get S (S.1 11)) - (fX2_get S (S.1 11)) / (32 : Int32) * (32 : Int32))) 14 ((S.1 11) + (1 : Int32))) (fX2_get S (S.1 11)))) rfl ?_
            refine lv_iadd hx hb dX3_advance_125 ?_
            refine pX7_at C hP (hDA _) hS fl_X3_25 dX3_advance_126 (fun H locs hP hS => ?_)
            refine lv_iconst (v := (1 : Int32)) hx hb dX3_advance_129 (by decide) ?_
            rw [← h]
            exact wrX_zret (v := true) C hr hlocks hP hS dX3_advance_130
          · exact absurd c5 (by decide)
        · exact absurd c4 (by decide)
      · exact absurd c2 c3
    · rw [if_neg c2] at h
      refine lv_iload_n hx hb dX3_advance_25 rfl (lv_at hl 0 rfl) ?_
      refine lv_sipush (v := (128 : Int32)) hx hb dX3_advance_26 (by decide) ?_
      refine lv_icmp_lt (tgt := 36) hx hb dX3_advance_29 (by decide) (fun c6 => ?_) (fun c6 => ?_)
      · rw [if_pos c6] at h
        refine lv_iconst (v := (0 : Int32)) hx hb dX3_advance_36 (by decide) ?_
        refine lv_istore_n (lv' := [(2, .int (0 : Int32)), (1, .int (fX2_get S (S.1 11))), (0, .ref (a 7))]) hx hb dX3_advance_37 rfl hl (by decide) rfl (fun ls hl => ?_)
        refine lv_aload_n hx hb dX3_advance_38 rfl (lv_at hl 2 rfl) ?_
        refine lv_aload_n hx hb dX3_advance_39 rfl (lv_at hl 2 rfl) ?_
        refine gX7_wide C hP fl_X3_15 dX3_advance_40 (v := (S.1 10)) rfl ?_
        refine lv_if_eq (tgt := 53) hx hb dX3_advance_43 (by decide) (fun c7 => ?_) (fun c7 => ?_)
        · exact absurd c7 c2
        · refine lv_iload_n hx hb dX3_advance_46 rfl (lv_at hl 1 rfl) ?_
          refine lv_bipush (v := (64 : Int32)) hx hb dX3_advance_47 (by decide) ?_
          refine lv_irem hx hb dX3_advance_49 (by decide) ?_
          refine lv_goto (tgt := 57) hx hb dX3_advance_50 (by decide) ?_
          refine pX7_number C hP (hDA _) hS fl_X3_29 dX3_advance_57 (fun H locs hP hS => ?_)
          refine lv_aload_n hx hb dX3_advance_60 rfl (lv_at hl 2 rfl) ?_
          refine lv_iload_n hx hb dX3_advance_61 rfl (lv_at hl 0 rfl) ?_
          refine lv_if_eq (tgt := 74) hx hb dX3_advance_62 (by decide) (fun c8 => ?_) (fun c8 => ?_)
          · refine lv_aload_n hx hb dX3_advance_74 rfl (lv_at hl 2 rfl) ?_
            refine gX7_at C hP fl_X3_25 dX3_advance_75 (v := (S.1 11)) rfl ?_
            refine lv_iconst (v := (1 : Int32)) hx hb dX3_advance_78 (by decide) ?_
            refine lv_iadd hx hb dX3_advance_79 ?_
            refine pX7_data C hP (hDA _) hS fl_X3_32 dX3_advance_80 (fun H locs hP hS => ?_)
            refine lv_aload_n hx hb dX3_advance_83 rfl (lv_at hl 2 rfl) ?_
            refine lv_aload_n hx hb dX3_advance_84 rfl (lv_at hl 2 rfl) ?_
            refine lv_iload_n hx hb dX3_advance_85 rfl (lv_at hl 0 rfl) ?_
            refine lv_if_eq (tgt := 109) hx hb dX3_advance_86 (by decide) (fun c9 => ?_) (fun c9 => ?_)
            · refine lv_iload_n hx hb dX3_advance_109 rfl (lv_at hl 1 rfl) ?_
              refine rdV (Ek_est a) C hP (ef (Ek_est a) hS hE0) (c_X3_sizeByLastByte l D k a _ (fX2_get S (S.1 11))) my_X3_sizeByLastByte ml_X3_35 (rX7 C hP) rfl hl.1 (rest := [.ref (a 7)]) rfl (Nat.le_of_ble_eq_true rfl) ⟨rfl, rfl, Nat.le_of_ble_eq_true rfl, Nat.le_of_ble_eq_true rfl⟩ ⟨Nat.zero_le _, Nat.zero_le _⟩ dX3_advance_110 ?_
              refine pX7_size C hP (hDA _) hS fl_X3_38 dX3_advance_113 (fun H locs hP hS => ?_)
              refine lv_aload_n hx hb dX3_advance_116 rfl (lv_at hl 2 rfl) ?_
              refine lv_aload_n hx hb dX3_advance_117 rfl (lv_at hl 2 rfl) ?_
              refine gX7_data C hP fl_X3_32 dX3_advance_118 (v := ((S.1 11) + (1 : Int32))) rfl ?_
              refine lv_aload_n hx hb dX3_advance_121 rfl (lv_at hl 2 rfl) ?_
              refine gX7_size C hP fl_X3_38 dX3_advance_122 (v := (fX3_sizeByLastByte (pS (pS S 12 ((fX2_get S (S.1 11)) - (fX2_get S (S.1 11)) / (64 : Int32) * (64 : Int32))) 14 ((S.1 11) + (1 : Int32))) (fX2_get S (S.1 11)))) rfl ?_
              refine lv_iadd hx hb dX3_advance_125 ?_
              refine pX7_at C hP (hDA _) hS fl_X3_25 dX3_advance_126 (fun H locs hP hS => ?_)
              refine lv_iconst (v := (1 : Int32)) hx hb dX3_advance_129 (by decide) ?_
              rw [← h]
              exact wrX_zret (v := true) C hr hlocks hP hS dX3_advance_130
            · exact absurd c9 (by decide)
          · exact absurd c8 (by decide)
      · rw [if_neg c6] at h
        refine lv_iconst (v := (1 : Int32)) hx hb dX3_advance_32 (by decide) ?_
        refine lv_goto (tgt := 37) hx hb dX3_advance_33 (by decide) ?_
        refine lv_istore_n (lv' := [(2, .int (1 : Int32)), (1, .int (fX2_get S (S.1 11))), (0, .ref (a 7))]) hx hb dX3_advance_37 rfl hl (by decide) rfl (fun ls hl => ?_)
        refine lv_aload_n hx hb dX3_advance_38 rfl (lv_at hl 2 rfl) ?_
        refine lv_aload_n hx hb dX3_advance_39 rfl (lv_at hl 2 rfl) ?_
        refine gX7_wide C hP fl_X3_15 dX3_advance_40 (v := (S.1 10)) rfl ?_
        refine lv_if_eq (tgt := 53) hx hb dX3_advance_43 (by decide) (fun c10 => ?_) (fun c10 => ?_)
        · exact absurd c10 c2
        · refine lv_iload_n hx hb dX3_advance_46 rfl (lv_at hl 1 rfl) ?_
          refine lv_bipush (v := (64 : Int32)) hx hb dX3_advance_47 (by decide) ?_
          refine lv_irem hx hb dX3_advance_49 (by decide) ?_
          refine lv_goto (tgt := 57) hx hb dX3_advance_50 (by decide) ?_
          refine pX7_number C hP (hDA _) hS fl_X3_29 dX3_advance_57 (fun H locs hP hS => ?_)
          refine lv_aload_n hx hb dX3_advance_60 rfl (lv_at hl 2 rfl) ?_
          refine lv_iload_n hx hb dX3_advance_61 rfl (lv_at hl 0 rfl) ?_
          refine lv_if_eq (tgt := 74) hx hb dX3_advance_62 (by decide) (fun c11 => ?_) (fun c11 => ?_)
          · exact absurd c11 (by decide)
          · refine lv_aload_n hx hb dX3_advance_65 rfl (lv_at hl 2 rfl) ?_
            refine gX7_at C hP fl_X3_25 dX3_advance_66 (v := (S.1 11)) rfl ?_
            refine lv_iconst (v := (2 : Int32)) hx hb dX3_advance_69 (by decide) ?_
            refine lv_iadd hx hb dX3_advance_70 ?_
            refine lv_goto (tgt := 80) hx hb dX3_advance_71 (by decide) ?_
            refine pX7_data C hP (hDA _) hS fl_X3_32 dX3_advance_80 (fun H locs hP hS => ?_)
            refine lv_aload_n hx hb dX3_advance_83 rfl (lv_at hl 2 rfl) ?_
            refine lv_aload_n hx hb dX3_advance_84 rfl (lv_at hl 2 rfl) ?_
            refine lv_iload_n hx hb dX3_advance_85 rfl (lv_at hl 0 rfl) ?_
            refine lv_if_eq (tgt := 109) hx hb dX3_advance_86 (by decide) (fun c12 => ?_) (fun c12 => ?_)
            · exact absurd c12 (by decide)
            · refine lv_aload_n hx hb dX3_advance_89 rfl (lv_at hl 2 rfl) ?_
              refine gX7_memory C hP fl_X3_9 dX3_advance_90 ?_
              refine lv_aload_n hx hb dX3_advance_93 rfl (lv_at hl 2 rfl) ?_
              refine gX7_at C hP fl_X3_25 dX3_advance_94 (v := (S.1 11)) rfl ?_
              refine lv_iconst (v := (1 : Int32)) hx hb dX3_advance_97 (by decide) ?_
              refine lv_iadd hx hb dX3_advance_98 ?_
              refine rdV (Ek_est a) C hP (ef (Ek_est a) hS hE0) (c_X2_get l D k a _ ((S.1 11) + (1 : Int32))) my_X2_get ml_X3_19 (rX1 C hP) rfl hl.1 (rest := [.ref (a 7), .ref (a 7)]) rfl (Nat.le_of_ble_eq_true rfl) ⟨rfl, rfl, Nat.le_of_ble_eq_true rfl, Nat.le_of_ble_eq_true rfl⟩ ⟨Nat.zero_le _, Nat.zero_le _⟩ dX3_advance_99 ?_
              refine lv_sipush (v := (128 : Int32)) hx hb dX3_advance_102 (by decide) ?_
              refine lv_ior hx hb dX3_advance_105 ?_
              refine lv_goto (tgt := 110) hx hb dX3_advance_106 (by decide) ?_
              refine rdV (Ek_est a) C hP (ef (Ek_est a) hS hE0) (c_X3_sizeByLastByte l D k a _ ((fX2_get (pS (pS S 12 ((fX2_get S (S.1 11)) - (fX2_get S (S.1 11)) / (64 : Int32) * (64 : Int32))) 14 ((S.1 11) + (2 : Int32))) ((S.1 11) + (1 : Int32))) ||| (128 : Int32))) my_X3_sizeByLastByte ml_X3_35 (rX7 C hP) rfl hl.1 (rest := [.ref (a 7)]) rfl (Nat.le_of_ble_eq_true rfl) ⟨rfl, rfl, Nat.le_of_ble_eq_true rfl, Nat.le_of_ble_eq_true rfl⟩ ⟨Nat.zero_le _, Nat.zero_le _⟩ dX3_advance_110 ?_
              refine pX7_size C hP (hDA _) hS fl_X3_38 dX3_advance_113 (fun H locs hP hS => ?_)
              refine lv_aload_n hx hb dX3_advance_116 rfl (lv_at hl 2 rfl) ?_
              refine lv_aload_n hx hb dX3_advance_117 rfl (lv_at hl 2 rfl) ?_
              refine gX7_data C hP fl_X3_32 dX3_advance_118 (v := ((S.1 11) + (2 : Int32))) rfl ?_
              refine lv_aload_n hx hb dX3_advance_121 rfl (lv_at hl 2 rfl) ?_
              refine gX7_size C hP fl_X3_38 dX3_advance_122 (v := (fX3_sizeByLastByte (pS (pS S 12 ((fX2_get S (S.1 11)) - (fX2_get S (S.1 11)) / (64 : Int32) * (64 : Int32))) 14 ((S.1 11) + (2 : Int32))) ((fX2_get (pS (pS S 12 ((fX2_get S (S.1 11)) - (fX2_get S (S.1 11)) / (64 : Int32) * (64 : Int32))) 14 ((S.1 11) + (2 : Int32))) ((S.1 11) + (1 : Int32))) ||| (128 : Int32)))) rfl ?_
              refine lv_iadd hx hb dX3_advance_125 ?_
              refine pX7_at C hP (hDA _) hS fl_X3_25 dX3_advance_126 (fun H locs hP hS => ?_)
              refine lv_iconst (v := (1 : Int32)) hx hb dX3_advance_129 (by decide) ?_
              rw [← h]
              exact wrX_zret (v := true) C hr hlocks hP hS dX3_advance_130
  · rw [if_pos c1] at h
    refine lv_iconst (v := (0 : Int32)) hx hb dX3_advance_16 (by decide) ?_
    rw [← h]
    exact wrX_zret (v := false) C hr hlocks hP hS dX3_advance_17
def fX3_find_L : Nat → XS → Int32 → Int32 → Option (Bool × XS)
  | 0, _, _, _ => none
  | n + 1, S, y1, y2 => (if (4096 : Int32) ≤ y2 then some (false, S) else (if (bI (fX3_advance S).1) = 0 then some (false, (fX3_advance S).2) else (if ((fX3_advance S).2.1 12) = y1 then some (true, (fX3_advance S).2) else (fX3_find_L n (fX3_advance S).2 y1 (y2 + (1 : Int32))))))
def fX3_find (S : XS) (x1 : Int32) : Option (Bool × XS) := (fX3_find_L 4098 S x1 (0 : Int32))
set_option maxRecDepth 100000 in
set_option maxHeartbeats 4000000 in
theorem c_X3_find (l : Launch) (D : va_G) (k : Nat → ClassId) (a : Nat → Nat) (S : XS) (x1 : Int32) (u : Bool × XS) (h : fX3_find S x1 = some u) : Wr (Ek a) l D (tyk k) (wX k a S) (wX k a u.2) yX3_find cX3_find 3 (some .boolean) (rmm 2 43) [.ref (a 7), .int x1] (some (.int (bI u.1))) := by
  refine wr_start (by decide) (Nat.le_of_ble_eq_true rfl) ?_
  intro p e s m below meth c A C hr hlocks hP hD0 hA hE0 ls hl
  have hDA : ∀ S, va_D A (wX k a S) := wX_D hD0
  have hS : va_S A s.heap s.heap [] := va_S.rf
  have hl : lv_has ls 3 [(0, .ref (a 7)), (1, .int x1)] := hl
  obtain ⟨⟨hx, hb, hml, hown, hts⟩, hK⟩ := id C
  have L : ∀ n : Nat, ∀ (S : XS) (y1 : Int32) (y2 : Int32) (H : Heap) (locs : List Loc) (ls : Array Slot), va_P D vwCl (wX k a S) H → va_S A s.heap H locs → lv_has ls 3 [(0, .ref (a 7)), (1, .int y1), (2, .int y2)] → fX3_find_L n S y1 y2 = some u → W p l e (rmm 2 43) s m ([.ref (a 7), .int x1] : List Value).toArray below meth c H locs 0 0 (MQ below (Qw D (wX k a u.2) (some (.int (bI u.1))) A) ([.ref (a 7), .int x1] : List Value).toArray s 0 0 A) (F0 m 2 ls []) := by
    intro n
    induction n with
    | zero => intro S y1 y2 H locs ls hP hS hl h; cases h
    | succ n ih =>
      intro S y1 y2 H locs ls hP hS hl h
      rw [fX3_find_L] at h
      refine lv_iload_n hx hb dX3_find_2 rfl (lv_at hl 2 rfl) ?_
      refine lv_sipush (v := (4096 : Int32)) hx hb dX3_find_3 (by decide) ?_
      refine lv_icmp_ge (tgt := 32) hx hb dX3_find_6 (by decide) (fun c1 => ?_) (fun c1 => ?_)
      · rw [if_pos c1] at h
        refine lv_iconst (v := (0 : Int32)) hx hb dX3_find_32 (by decide) ?_
        rw [← Option.some.inj h]
        exact wrX_zret (v := false) C hr hlocks hP hS dX3_find_33
      · rw [if_neg c1] at h
        refine lv_aload_n hx hb dX3_find_9 rfl (lv_at hl 0 rfl) ?_
        refine wrV (Ek_est a) C hP (hDA _) hA hS hE0 (c_X3_advance l D k a _ ) my_X3_advance ml_X3_41 (rX7 C hP) rfl hl.1 (rest := []) rfl (Nat.le_of_ble_eq_true rfl) ⟨rfl, rfl, Nat.le_of_ble_eq_true rfl, Nat.le_of_ble_eq_true rfl⟩ ⟨Nat.zero_le _, Nat.zero_le _⟩ dX3_find_10 (fun H locs hP hS _ _ => ?_)
        refine lv_if_eq (tgt := 32) hx hb dX3_find_13 (by decide) (fun c2 => ?_) (fun c2 => ?_)
        · rw [if_pos c2] at h
          refine lv_iconst (v := (0 : Int32)) hx hb dX3_find_32 (by decide) ?_
          rw [← Option.some.inj h]
          exact wrX_zret (v := false) C hr hlocks hP hS dX3_find_33
        · rw [if_neg c2] at h
          refine lv_aload_n hx hb dX3_find_16 rfl (lv_at hl 0 rfl) ?_
          refine gX7_number C hP fl_X3_29 dX3_find_17 (v := ((fX3_advance S).2.1 12)) rfl ?_
          refine lv_iload_n hx hb dX3_find_20 rfl (lv_at hl 1 rfl) ?_
          refine lv_icmp_ne (tgt := 26) hx hb dX3_find_21 (by decide) (fun c3 => ?_) (fun c3 => ?_)
          · rw [if_neg c3] at h
            refine lv_iinc (v := (y2 + (1 : Int32))) (lv' := [(2, .int (y2 + (1 : Int32))), (0, .ref (a 7)), (1, .int y1)]) hx hb dX3_find_26 hl (k := 2) rfl rfl (by decide) rfl (fun ls hl => ?_)
            refine lv_goto (tgt := 2) hx hb dX3_find_29 (by decide) ?_
            exact ih _ _ _ _ _ ls hP hS (lv_sub hl [1, 2, 0] rfl) h
          · rw [if_pos c3] at h
            refine lv_iconst (v := (1 : Int32)) hx hb dX3_find_24 (by decide) ?_
            rw [← Option.some.inj h]
            exact wrX_zret (v := true) C hr hlocks hP hS dX3_find_25
  rw [fX3_find] at h
  refine lv_iconst (v := (0 : Int32)) hx hb dX3_find_0 (by decide) ?_
  refine lv_istore_n (lv' := [(2, .int (0 : Int32)), (0, .ref (a 7)), (1, .int x1)]) hx hb dX3_find_1 rfl hl (by decide) rfl (fun ls hl => ?_)
  exact L 4098 _ _ _ _ _ ls hP hS (lv_sub hl [1, 2, 0] rfl) h
def fX3_number (S : XS)  : Int32 := (S.1 12)
set_option maxRecDepth 100000 in
set_option maxHeartbeats 4000000 in
theorem c_X3_number (l : Launch) (D : va_G) (k : Nat → ClassId) (a : Nat → Nat) (S : XS)  : Rd (Ek a) l D (tyk k) (wX k a S) yX3_number cX3_number 1 (some .int) (rmm 0 0) [.ref (a 7)] (fX3_number S) := by
  generalize h : fX3_number S = u
  refine rd_start (by decide) (Nat.le_of_ble_eq_true rfl) ?_
  intro p e s m below meth c C hr hlocks hP hE0 ls hl
  have hl : lv_has ls 1 [(0, .ref (a 7))] := hl
  obtain ⟨⟨hx, hb, hml, hown, hts⟩, hK⟩ := id C
  rw [fX3_number] at h
  refine lv_aload_n hx hb dX3_number_0 rfl (lv_at hl 0 rfl) ?_
  refine gX7_number C hP fl_X3_29 dX3_number_1 (v := (S.1 12)) rfl ?_
  rw [← h]
  exact rd_iret C hr hlocks dX3_number_4
def fX3_size (S : XS)  : Int32 := (S.1 13)
set_option maxRecDepth 100000 in
set_option maxHeartbeats 4000000 in
theorem c_X3_size (l : Launch) (D : va_G) (k : Nat → ClassId) (a : Nat → Nat) (S : XS)  : Rd (Ek a) l D (tyk k) (wX k a S) yX3_size cX3_size 1 (some .int) (rmm 0 0) [.ref (a 7)] (fX3_size S) := by
  generalize h : fX3_size S = u
  refine rd_start (by decide) (Nat.le_of_ble_eq_true rfl) ?_
  intro p e s m below meth c C hr hlocks hP hE0 ls hl
  have hl : lv_has ls 1 [(0, .ref (a 7))] := hl
  obtain ⟨⟨hx, hb, hml, hown, hts⟩, hK⟩ := id C
  rw [fX3_size] at h
  refine lv_aload_n hx hb dX3_size_0 rfl (lv_at hl 0 rfl) ?_
  refine gX7_size C hP fl_X3_38 dX3_size_1 (v := (S.1 13)) rfl ?_
  rw [← h]
  exact rd_iret C hr hlocks dX3_size_4
def fX3_data (S : XS)  : Int32 := (S.1 14)
set_option maxRecDepth 100000 in
set_option maxHeartbeats 4000000 in
theorem c_X3_data (l : Launch) (D : va_G) (k : Nat → ClassId) (a : Nat → Nat) (S : XS)  : Rd (Ek a) l D (tyk k) (wX k a S) yX3_data cX3_data 1 (some .int) (rmm 0 0) [.ref (a 7)] (fX3_data S) := by
  generalize h : fX3_data S = u
  refine rd_start (by decide) (Nat.le_of_ble_eq_true rfl) ?_
  intro p e s m below meth c C hr hlocks hP hE0 ls hl
  have hl : lv_has ls 1 [(0, .ref (a 7))] := hl
  obtain ⟨⟨hx, hb, hml, hown, hts⟩, hK⟩ := id C
  rw [fX3_data] at h
  refine lv_aload_n hx hb dX3_data_0 rfl (lv_at hl 0 rfl) ?_
  refine gX7_data C hP fl_X3_32 dX3_data_1 (v := (S.1 14)) rfl ?_
  rw [← h]
  exact rd_iret C hr hlocks dX3_data_4
