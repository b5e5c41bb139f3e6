def fX1_code_L : Nat → Int32 → Int32 → Int32 → Int32 → Option Int32
  | 0, _, _, _, _ => none
  | n + 1, y0, y1, y2, y3 => (if (10 : Int32) < y3 then some (0 : Int32) else (if ((y0 >>> (y3 &&& 31)) &&& (1 : Int32)) = 0 then (fX1_code_L n y0 y1 y2 (y3 + (1 : Int32))) else (if y2 = 0 then some (y3) else (fX1_code_L n y0 y1 (y2 + (-1 : Int32)) (y3 + (1 : Int32))))))
def fX1_code (x0 : Int32) (x1 : Int32) : Option Int32 := (fX1_code_L 12 x0 x1 x1 (1 : Int32))
set_option maxRecDepth 100000 in
set_option maxHeartbeats 4000000 in
theorem c_X1_code (l : Launch) (D : va_G) (ty : List (ClassId × FieldType)) (E : Ety) (w : va_W) (x0 : Int32) (x1 : Int32) (u : Int32) (h : fX1_code x0 x1 = some u) : Rd E l D ty w yX1_code cX1_code 4 (some .int) (rmm 0 0) [.int x0, .int x1] u := by
  refine rd_start (by decide) (Nat.le_of_ble_eq_true rfl) ?_
  intro p e s m below meth c C hr hlocks hP hE0 ls hl
  have hl : lv_has ls 4 [(0, .int x0), (1, .int x1)] := hl
  obtain ⟨⟨hx, hb, hml, hown, hts⟩, hK⟩ := id C
  have L : ∀ n : Nat, ∀ (y0 : Int32) (y1 : Int32) (y2 : Int32) (y3 : Int32) (ls : Array Slot), lv_has ls 4 [(0, .int y0), (1, .int y1), (2, .int y2), (3, .int y3)] → fX1_code_L n y0 y1 y2 y3 = some u → W p l e (rmm 0 0) s m ([.int x0, .int x1] : List Value).toArray below meth c s.heap [] 0 0 (MQ below (QcRead u) ([.int x0, .int x1] : List Value).toArray s 0 0 (fun _ => False)) (F0 m 4 ls []) := by
    intro n
    induction n with
    | zero => intro y0 y1 y2 y3 ls hl h; cases h
    | succ n ih =>
      intro y0 y1 y2 y3 ls hl h
      rw [fX1_code_L] at h
      refine lv_iload_n hx hb dX1_code_4 rfl (lv_at hl 3 rfl) ?_
      refine lv_bipush (v := (10 : Int32)) hx hb dX1_code_5 (by decide) ?_
      refine lv_icmp_gt (tgt := 33) hx hb dX1_code_7 (by decide) (fun c1 => ?_) (fun c1 => ?_)
      · rw [if_pos c1] at h
        refine lv_iconst (v := (0 : Int32)) hx hb dX1_code_33 (by decide) ?_
        rw [← Option.some.inj h]
        exact rd_iret C hr hlocks dX1_code_34
      · rw [if_neg c1] at h
        refine lv_iload_n hx hb dX1_code_10 rfl (lv_at hl 0 rfl) ?_
        refine lv_iload_n hx hb dX1_code_11 rfl (lv_at hl 3 rfl) ?_
        refine lv_ishr hx hb dX1_code_12 ?_
        refine lv_iconst (v := (1 : Int32)) hx hb dX1_code_13 (by decide) ?_
        refine lv_iand hx hb dX1_code_14 ?_
        refine lv_if_eq (tgt := 27) hx hb dX1_code_15 (by decide) (fun c2 => ?_) (fun c2 => ?_)
        · rw [if_pos c2] at h
          refine lv_iinc (v := (y3 + (1 : Int32))) (lv' := [(3, .int (y3 + (1 : Int32))), (0, .int y0), (1, .int y1), (2, .int y2)]) hx hb dX1_code_27 hl (k := 3) rfl rfl (by decide) rfl (fun ls hl => ?_)
          refine lv_goto (tgt := 4) hx hb dX1_code_30 (by decide) ?_
          exact ih _ _ _ _ ls (lv_sub hl [1, 2, 3, 0] rfl) h
        · rw [if_neg c2] at h
          refine lv_iload_n hx hb dX1_code_18 rfl (lv_at hl 2 rfl) ?_
          refine lv_if_ne (tgt := 24) hx hb dX1_code_19 (by decide) (fun c3 => ?_) (fun c3 => ?_)
          · rw [if_neg c3] at h
            refine lv_iinc (v := (y2 + (-1 : Int32))) (lv' := [(2, .int (y2 + (-1 : Int32))), (0, .int y0), (1, .int y1), (3, .int y3)]) hx hb dX1_code_24 hl (k := 2) rfl rfl (by decide) rfl (fun ls hl => ?_)
            refine lv_iinc (v := (y3 + (1 : Int32))) (lv' := [(3, .int (y3 + (1 : Int32))), (2, .int (y2 + (-1 : Int32))), (0, .int y0), (1, .int y1)]) hx hb dX1_code_27 hl (k := 3) rfl rfl (by decide) rfl (fun ls hl => ?_)
            refine lv_goto (tgt := 4) hx hb dX1_code_30 (by decide) ?_
            exact ih _ _ _ _ ls (lv_sub hl [2, 3, 1, 0] rfl) h
          · rw [if_pos c3] at h
            refine lv_iload_n hx hb dX1_code_22 rfl (lv_at hl 3 rfl) ?_
            rw [← Option.some.inj h]
            exact rd_iret C hr hlocks dX1_code_23
  rw [fX1_code] at h
  refine lv_iload_n hx hb dX1_code_0 rfl (lv_at hl 1 rfl) ?_
  refine lv_istore_n (lv' := [(2, .int x1), (0, .int x0), (1, .int x1)]) hx hb dX1_code_1 rfl hl (by decide) rfl (fun ls hl => ?_)
  refine lv_iconst (v := (1 : Int32)) hx hb dX1_code_2 (by decide) ?_
  refine lv_istore_n (lv' := [(3, .int (1 : Int32)), (2, .int x1), (0, .int x0), (1, .int x1)]) hx hb dX1_code_3 rfl hl (by decide) rfl (fun ls hl => ?_)
  exact L 12 _ _ _ _ ls (lv_sub hl [2, 3, 1, 0] rfl) h
def fX1_fault (x0 : Int32) (x1 : Bool) : Int32 := (if (bI x1) = 0 then (0 : Int32) else ((1 : Int32) <<< (x0 &&& 31)))
set_option maxRecDepth 100000 in
set_option maxHeartbeats 4000000 in
theorem c_X1_fault (l : Launch) (D : va_G) (ty : List (ClassId × FieldType)) (E : Ety) (w : va_W) (x0 : Int32) (x1 : Bool) : Rd E l D ty w yX1_fault cX1_fault 2 (some .int) (rmm 0 0) [.int x0, .int (bI x1)] (fX1_fault x0 x1) := by
  generalize h : fX1_fault x0 x1 = u
  refine rd_start (by decide) (Nat.le_of_ble_eq_true rfl) ?_
  intro p e s m below meth c C hr hlocks hP hE0 ls hl
  have hl : lv_has ls 2 [(0, .int x0), (1, .int (bI x1))] := hl
  obtain ⟨⟨hx, hb, hml, hown, hts⟩, hK⟩ := id C
  rw [fX1_fault] at h
  refine lv_iload_n hx hb dX1_fault_0 rfl (lv_at hl 1 rfl) ?_
  refine lv_if_eq (tgt := 10) hx hb dX1_fault_1 (by decide) (fun c1 => ?_) (fun c1 => ?_)
  · rw [if_pos c1] at h
    refine lv_iconst (v := (0 : Int32)) hx hb dX1_fault_10 (by decide) ?_
    rw [← h]
    exact rd_iret C hr hlocks dX1_fault_11
  · rw [if_neg c1] at h
    refine lv_iconst (v := (1 : Int32)) hx hb dX1_fault_4 (by decide) ?_
    refine lv_iload_n hx hb dX1_fault_5 rfl (lv_at hl 0 rfl) ?_
    refine lv_ishl hx hb dX1_fault_6 ?_
    refine lv_goto (tgt := 11) hx hb dX1_fault_7 (by decide) ?_
    rw [← h]
    exact rd_iret C hr hlocks dX1_fault_11
def fX1_isStray (S : XS) (x1 : Int32) : Bool := (if x1 = 0 then false else (if (bI (fX0_has S x1)) = 0 then true else false))
set_option maxRecDepth 100000 in
set_option maxHeartbeats 4000000 in
theorem c_X1_isStray (l : Launch) (D : va_G) (k : Nat → ClassId) (a : Nat → Nat) (S : XS) (x1 : Int32) : Rd (Ek a) l D (tyk k) (wX k a S) yX1_isStray cX1_isStray 2 (some .boolean) (rmm 1 21) [.ref (a 12), .int x1] (bI (fX1_isStray S x1)) := by
  generalize h : fX1_isStray S x1 = u
  refine rd_start (by decide) (Nat.le_of_ble_eq_true rfl) ?_
  intro p e s m below meth c C hr hlocks hP hE0 ls hl
  have hl : lv_has ls 2 [(0, .ref (a 12)), (1, .int x1)] := hl
  obtain ⟨⟨hx, hb, hml, hown, hts⟩, hK⟩ := id C
  rw [fX1_isStray] at h
  refine lv_iload_n hx hb dX1_isStray_0 rfl (lv_at hl 1 rfl) ?_
  refine lv_if_eq (tgt := 19) hx hb dX1_isStray_1 (by decide) (fun c1 => ?_) (fun c1 => ?_)
  · rw [if_pos c1] at h
    refine lv_iconst (v := (0 : Int32)) hx hb dX1_isStray_19 (by decide) ?_
    rw [← h]
    exact rd_zret (v := false) C hr hlocks dX1_isStray_20
  · rw [if_neg c1] at h
    refine lv_aload_n hx hb dX1_isStray_4 rfl (lv_at hl 0 rfl) ?_
    refine gX12_entries C hP fl_X1_9 dX1_isStray_5 ?_
    refine lv_iload_n hx hb dX1_isStray_8 rfl (lv_at hl 1 rfl) ?_
    refine rdV (Ek_est a) C hP hE0 (c_X0_has l D k a _ x1) my_X0_has ml_X1_37 (rX3 C hP) rfl hl.1 (rest := []) rfl (Nat.le_of_ble_eq_true rfl) ⟨rfl, rfl, Nat.le_of_ble_eq_true rfl, Nat.le_of_ble_eq_true rfl⟩ ⟨Nat.zero_le _, Nat.zero_le _⟩ dX1_isStray_9 ?_
    refine lv_if_ne (tgt := 19) hx hb dX1_isStray_12 (by decide) (fun c2 => ?_) (fun c2 => ?_)
    · rw [if_neg c2] at h
      refine lv_iconst (v := (0 : Int32)) hx hb dX1_isStray_19 (by decide) ?_
      rw [← h]
      exact rd_zret (v := false) C hr hlocks dX1_isStray_20
    · rw [if_pos c2] at h
      refine lv_iconst (v := (1 : Int32)) hx hb dX1_isStray_15 (by decide) ?_
      refine lv_goto (tgt := 20) hx hb dX1_isStray_16 (by decide) ?_
      rw [← h]
      exact rd_zret (v := true) C hr hlocks dX1_isStray_20
def fX1_isOutOfOrder_L : Nat → XS → Int32 → Int32 → Int32 → Option (Bool × XS)
  | 0, _, _, _, _ => none
  | n + 1, S, y1, y2, y3 => (if (4096 : Int32) ≤ y3 then some (false, S) else (if (bI (fX3_advance S).1) = 0 then some (false, (fX3_advance S).2) else (if (fX3_number (fX3_advance S).2) < y2 then (fX1_isOutOfOrder_L n (fX3_advance S).2 y1 (fX3_number (fX3_advance S).2) (y3 + (1 : Int32))) else some (true, (fX3_advance S).2))))
def fX1_isOutOfOrder (S : XS) (x1 : Int32) : Option (Bool × XS) := (fX1_isOutOfOrder_L 4098 (fX3_begin S x1) x1 (64 : Int32) (0 : Int32))
set_option maxRecDepth 100000 in
set_option maxHeartbeats 4000000 in
theorem c_X1_isOutOfOrder (l : Launch) (D : va_G) (k : Nat → ClassId) (a : Nat → Nat) (S : XS) (x1 : Int32) (u : Bool × XS) (h : fX1_isOutOfOrder S x1 = some u) : Wr (Ek a) l D (tyk k) (wX k a S) (wX k a u.2) yX1_isOutOfOrder cX1_isOutOfOrder 4 (some .boolean) (rmm 2 43) [.ref (a 12), .int x1] (some (.int (bI u.1))) := by
  refine wr_start (by decide) (Nat.le_of_ble_eq_true rfl) ?_
  intro p e s m below meth c A C hr hlocks hP hD0 hA hE0 ls hl
  have hDA : ∀ S, va_D A (wX k a S) := wX_D hD0
  have hS : va_S A s.heap s.heap [] := va_S.rf
  have hl : lv_has ls 4 [(0, .ref (a 12)), (1, .int x1)] := hl
  obtain ⟨⟨hx, hb, hml, hown, hts⟩, hK⟩ := id C
  have L : ∀ n : Nat, ∀ (S : XS) (y1 : Int32) (y2 : Int32) (y3 : Int32) (H : Heap) (locs : List Loc) (ls : Array Slot), va_P D vwCl (wX k a S) H → va_S A s.heap H locs → lv_has ls 4 [(0, .ref (a 12)), (1, .int y1), (2, .int y2), (3, .int y3)] → fX1_isOutOfOrder_L n S y1 y2 y3 = some u → W p l e (rmm 2 43) s m ([.ref (a 12), .int x1] : List Value).toArray below meth c H locs 0 0 (MQ below (Qw D (wX k a u.2) (some (.int (bI u.1))) A) ([.ref (a 12), .int x1] : List Value).toArray s 0 0 A) (F0 m 13 ls []) := by
    intro n
    induction n with
    | zero => intro S y1 y2 y3 H locs ls hP hS hl h; cases h
    | succ n ih =>
      intro S y1 y2 y3 H locs ls hP hS hl h
      rw [fX1_isOutOfOrder_L] at h
      refine lv_iload_n hx hb dX1_isOutOfOrder_13 rfl (lv_at hl 3 rfl) ?_
      refine lv_sipush (v := (4096 : Int32)) hx hb dX1_isOutOfOrder_14 (by decide) ?_
      refine lv_icmp_ge (tgt := 57) hx hb dX1_isOutOfOrder_17 (by decide) (fun c1 => ?_) (fun c1 => ?_)
      · rw [if_pos c1] at h
        refine lv_iconst (v := (0 : Int32)) hx hb dX1_isOutOfOrder_57 (by decide) ?_
        rw [← Option.some.inj h]
        exact wrX_zret (v := false) C hr hlocks hP hS dX1_isOutOfOrder_58
      · rw [if_neg c1] at h
        refine lv_aload_n hx hb dX1_isOutOfOrder_20 rfl (lv_at hl 0 rfl) ?_
        refine gX12_properties C hP fl_X1_15 dX1_isOutOfOrder_21 ?_
        refine wrV (Ek_est a) C hP (hDA _) hA hS hE0 (c_X3_advance l D k a _ ) my_X3_advance ml_X1_60 (rX7 C hP) rfl hl.1 (rest := []) rfl (Nat.le_of_ble_eq_true rfl) ⟨rfl, rfl, Nat.le_of_ble_eq_true rfl, Nat.le_of_ble_eq_true rfl⟩ ⟨Nat.zero_le _, Nat.zero_le _⟩ dX1_isOutOfOrder_24 (fun H locs hP hS _ _ => ?_)
        refine lv_if_eq (tgt := 57) hx hb dX1_isOutOfOrder_27 (by decide) (fun c2 => ?_) (fun c2 => ?_)
        · rw [if_pos c2] at h
          refine lv_iconst (v := (0 : Int32)) hx hb dX1_isOutOfOrder_57 (by decide) ?_
          rw [← Option.some.inj h]
          exact wrX_zret (v := false) C hr hlocks hP hS dX1_isOutOfOrder_58
        · rw [if_neg c2] at h
          refine lv_aload_n hx hb dX1_isOutOfOrder_30 rfl (lv_at hl 0 rfl) ?_
          refine gX12_properties C hP fl_X1_15 dX1_isOutOfOrder_31 ?_
          refine rdV (Ek_est a) C hP (ef (Ek_est a) hS hE0) (c_X3_number l D k a _ ) my_X3_number ml_X1_64 (rX7 C hP) rfl hl.1 (rest := []) rfl (Nat.le_of_ble_eq_true rfl) ⟨rfl, rfl, Nat.le_of_ble_eq_true rfl, Nat.le_of_ble_eq_true rfl⟩ ⟨Nat.zero_le _, Nat.zero_le _⟩ dX1_isOutOfOrder_34 ?_
          refine lv_iload_n hx hb dX1_isOutOfOrder_37 rfl (lv_at hl 2 rfl) ?_
          refine lv_icmp_lt (tgt := 43) hx hb dX1_isOutOfOrder_38 (by decide) (fun c3 => ?_) (fun c3 => ?_)
          · rw [if_pos c3] at h
            refine lv_aload_n hx hb dX1_isOutOfOrder_43 rfl (lv_at hl 0 rfl) ?_
            refine gX12_properties C hP fl_X1_15 dX1_isOutOfOrder_44 ?_
            refine rdV (Ek_est a) C hP (ef (Ek_est a) hS hE0) (c_X3_number l D k a _ ) my_X3_number ml_X1_64 (rX7 C hP) rfl hl.1 (rest := []) rfl (Nat.le_of_ble_eq_true rfl) ⟨rfl, rfl, Nat.le_of_ble_eq_true rfl, Nat.le_of_ble_eq_true rfl⟩ ⟨Nat.zero_le _, Nat.zero_le _⟩ dX1_isOutOfOrder_47 ?_
            refine lv_istore_n (lv' := [(2, .int (fX3_number (fX3_advance S).2)), (0, .ref (a 12)), (1, .int y1), (3, .int y3)]) hx hb dX1_isOutOfOrder_50 rfl hl (by decide) rfl (fun ls hl => ?_)
            refine lv_iinc (v := (y3 + (1 : Int32))) (lv' := [(3, .int (y3 + (1 : Int32))), (2, .int (fX3_number (fX3_advance S).2)), (0, .ref (a 12)), (1, .int y1)]) hx hb dX1_isOutOfOrder_51 hl (k := 3) rfl rfl (by decide) rfl (fun ls hl => ?_)
            refine lv_goto (tgt := 13) hx hb dX1_isOutOfOrder_54 (by decide) ?_
            exact ih _ _ _ _ _ _ ls hP hS (lv_sub hl [2, 3, 1, 0] rfl) h
          · rw [if_neg c3] at h
            refine lv_iconst (v := (1 : Int32)) hx hb dX1_isOutOfOrder_41 (by decide) ?_
            rw [← Option.some.inj h]
            exact wrX_zret (v := true) C hr hlocks hP hS dX1_isOutOfOrder_42
  rw [fX1_isOutOfOrder] at h
  refine lv_aload_n hx hb dX1_isOutOfOrder_0 rfl (lv_at hl 0 rfl) ?_
  refine gX12_properties C hP fl_X1_15 dX1_isOutOfOrder_1 ?_
  refine lv_iload_n hx hb dX1_isOutOfOrder_4 rfl (lv_at hl 1 rfl) ?_
  refine wrV (Ek_est a) C hP (hDA _) hA hS hE0 (c_X3_begin l D k a _ x1) my_X3_begin ml_X1_54 (rX7 C hP) rfl hl.1 (rest := []) rfl (Nat.le_of_ble_eq_true rfl) ⟨rfl, rfl, Nat.le_of_ble_eq_true rfl, Nat.le_of_ble_eq_true rfl⟩ ⟨Nat.zero_le _, Nat.zero_le _⟩ dX1_isOutOfOrder_5 (fun H locs hP hS _ _ => ?_)
  refine lv_bipush (v := (64 : Int32)) hx hb dX1_isOutOfOrder_8 (by decide) ?_
  refine lv_istore_n (lv' := [(2, .int (64 : Int32)), (0, .ref (a 12)), (1, .int x1)]) hx hb dX1_isOutOfOrder_10 rfl hl (by decide) rfl (fun ls hl => ?_)
  refine lv_iconst (v := (0 : Int32)) hx hb dX1_isOutOfOrder_11 (by decide) ?_
  refine lv_istore_n (lv' := [(3, .int (0 : Int32)), (2, .int (64 : Int32)), (0, .ref (a 12)), (1, .int x1)]) hx hb dX1_isOutOfOrder_12 rfl hl (by decide) rfl (fun ls hl => ?_)
  exact L 4098 _ _ _ _ _ _ ls hP hS (lv_sub hl [2, 3, 1, 0] rfl) h
def fX1_sharesTable_L : Nat → XS → Int32 → Int32 → Int32 → Option Bool
  | 0, _, _, _, _ => none
  | n + 1, S, y1, y2, y3 => (if y1 ≤ y3 then some (false) else (if (fX0_table S y3) = y2 then some (true) else (fX1_sharesTable_L n S y1 y2 (y3 + (1 : Int32)))))
def fX1_sharesTable (S : XS) (x1 : Int32) : Option Bool := (fX1_sharesTable_L 102 S x1 (fX0_table S x1) (1 : Int32))
set_option maxRecDepth 100000 in
set_option maxHeartbeats 4000000 in
theorem c_X1_sharesTable (l : Launch) (D : va_G) (k : Nat → ClassId) (a : Nat → Nat) (S : XS) (x1 : Int32) (u : Bool) (h : fX1_sharesTable S x1 = some u) : Rd (Ek a) l D (tyk k) (wX k a S) yX1_sharesTable cX1_sharesTable 4 (some .boolean) (rmm 3 63) [.ref (a 12), .int x1] (bI u) := by
  refine rd_start (by decide) (Nat.le_of_ble_eq_true rfl) ?_
  intro p e s m below meth c C hr hlocks hP hE0 ls hl
  have hl : lv_has ls 4 [(0, .ref (a 12)), (1, .int x1)] := hl
  obtain ⟨⟨hx, hb, hml, hown, hts⟩, hK⟩ := id C
  have L : ∀ n : Nat, ∀ (y1 : Int32) (y2 : Int32) (y3 : Int32) (ls : Array Slot), lv_has ls 4 [(0, .ref (a 12)), (1, .int y1), (2, .int y2), (3, .int y3)] → fX1_sharesTable_L n S y1 y2 y3 = some u → W p l e (rmm 3 63) s m ([.ref (a 12), .int x1] : List Value).toArray below meth c s.heap [] 0 0 (MQ below (QcRead (bI u)) ([.ref (a 12), .int x1] : List Value).toArray s 0 0 (fun _ => False)) (F0 m 11 ls []) := by
    intro n
    induction n with
    | zero => intro y1 y2 y3 ls hl h; cases h
    | succ n ih =>
      intro y1 y2 y3 ls hl h
      rw [fX1_sharesTable_L] at h
      refine lv_iload_n hx hb dX1_sharesTable_11 rfl (lv_at hl 3 rfl) ?_
      refine lv_iload_n hx hb dX1_sharesTable_12 rfl (lv_at hl 1 rfl) ?_
      refine lv_icmp_ge (tgt := 36) hx hb dX1_sharesTable_13 (by decide) (fun c1 => ?_) (fun c1 => ?_)
      · rw [if_pos c1] at h
        refine lv_iconst (v := (0 : Int32)) hx hb dX1_sharesTable_36 (by decide) ?_
        rw [← Option.some.inj h]
        exact rd_zret (v := false) C hr hlocks dX1_sharesTable_37
      · rw [if_neg c1] at h
        refine lv_aload_n hx hb dX1_sharesTable_16 rfl (lv_at hl 0 rfl) ?_
        refine gX12_entries C hP fl_X1_9 dX1_sharesTable_17 ?_
        refine lv_iload_n hx hb dX1_sharesTable_20 rfl (lv_at hl 3 rfl) ?_
        refine rdV (Ek_est a) C hP hE0 (c_X0_table l D k a _ y3) my_X0_table ml_X1_44 (rX3 C hP) rfl hl.1 (rest := []) rfl (Nat.le_of_ble_eq_true rfl) ⟨rfl, rfl, Nat.le_of_ble_eq_true rfl, Nat.le_of_ble_eq_true rfl⟩ ⟨Nat.zero_le _, Nat.zero_le _⟩ dX1_sharesTable_21 ?_
        refine lv_iload_n hx hb dX1_sharesTable_24 rfl (lv_at hl 2 rfl) ?_
        refine lv_icmp_ne (tgt := 30) hx hb dX1_sharesTable_25 (by decide) (fun c2 => ?_) (fun c2 => ?_)
        · rw [if_neg c2] at h
          refine lv_iinc (v := (y3 + (1 : Int32))) (lv' := [(3, .int (y3 + (1 : Int32))), (0, .ref (a 12)), (1, .int y1), (2, .int y2)]) hx hb dX1_sharesTable_30 hl (k := 3) rfl rfl (by decide) rfl (fun ls hl => ?_)
          refine lv_goto (tgt := 11) hx hb dX1_sharesTable_33 (by decide) ?_
          exact ih _ _ _ ls (lv_sub hl [1, 2, 3, 0] rfl) h
        · rw [if_pos c2] at h
          refine lv_iconst (v := (1 : Int32)) hx hb dX1_sharesTable_28 (by decide) ?_
          rw [← Option.some.inj h]
          exact rd_zret (v := true) C hr hlocks dX1_sharesTable_29
  rw [fX1_sharesTable] at h
  refine lv_aload_n hx hb dX1_sharesTable_0 rfl (lv_at hl 0 rfl) ?_
  refine gX12_entries C hP fl_X1_9 dX1_sharesTable_1 ?_
  refine lv_iload_n hx hb dX1_sharesTable_4 rfl (lv_at hl 1 rfl) ?_
  refine rdV (Ek_est a) C hP hE0 (c_X0_table l D k a _ x1) my_X0_table ml_X1_44 (rX3 C hP) rfl hl.1 (rest := []) rfl (Nat.le_of_ble_eq_true rfl) ⟨rfl, rfl, Nat.le_of_ble_eq_true rfl, Nat.le_of_ble_eq_true rfl⟩ ⟨Nat.zero_le _, Nat.zero_le _⟩ dX1_sharesTable_5 ?_
  refine lv_istore_n (lv' := [(2, .int (fX0_table S x1)), (0, .ref (a 12)), (1, .int x1)]) hx hb dX1_sharesTable_8 rfl hl (by decide) rfl (fun ls hl => ?_)
  refine lv_iconst (v := (1 : Int32)) hx hb dX1_sharesTable_9 (by decide) ?_
  refine lv_istore_n (lv' := [(3, .int (1 : Int32)), (2, .int (fX0_table S x1)), (0, .ref (a 12)), (1, .int x1)]) hx hb dX1_sharesTable_10 rfl hl (by decide) rfl (fun ls hl => ?_)
  exact L 102 _ _ _ ls (lv_sub hl [2, 3, 1, 0] rfl) h
def fX1_of_J177 (S : XS) (y1 : Int32) (y2 : Int32) (y3 : Int32) (y4 : Int32) (z0 : Bool) (z1 : Int32) (z2 : Int32) : Option (Int32 × XS) := (ob (fX1_isOutOfOrder S (fX0_table S y1)) (fun u10 => (ob (fX1_sharesTable u10.2 y1) (fun u11 => some ((((z2 ||| (fX1_fault z1 z0)) ||| (fX1_fault (9 : Int32) u10.1)) ||| (fX1_fault (10 : Int32) u11)), u10.2)))))
def fX1_of_J158 (S : XS) (y1 : Int32) (y2 : Int32) (y3 : Int32) (y4 : Int32) (z0 : Bool) (z1 : Int32) (z2 : Int32) : Option (Int32 × XS) := (if y3 = 0 then (fX1_of_J177 S y1 y2 y3 y4 false (8 : Int32) (z2 ||| (fX1_fault z1 z0))) else (if y2 = 0 then (fX1_of_J177 S y1 y2 y3 y4 true (8 : Int32) (z2 ||| (fX1_fault z1 z0))) else (fX1_of_J177 S y1 y2 y3 y4 false (8 : Int32) (z2 ||| (fX1_fault z1 z0)))))
def fX1_of_J121 (S : XS) (y1 : Int32) (y2 : Int32) (y3 : Int32) (y4 : Int32) (z0 : Bool) (z1 : Int32) (z2 : Int32) : Option (Int32 × XS) := (if (bI (fX0_has S y4)) = 0 then (fX1_of_J158 S y1 y2 y3 y4 false (7 : Int32) (z2 ||| (fX1_fault z1 z0))) else (if (fX0_link S y4 (0 : Int32)) = y1 then (fX1_of_J158 S y1 y2 y3 y4 false (7 : Int32) (z2 ||| (fX1_fault z1 z0))) else (fX1_of_J158 S y1 y2 y3 y4 true (7 : Int32) (z2 ||| (fX1_fault z1 z0)))))
def fX1_of (S : XS) (x1 : Int32) : Option (Int32 × XS) := (ob (fX0_comesTo S (fX0_link S x1 (0 : Int32)) (0 : Int32) x1) (fun u1 => (ob (fX0_comesTo S (fX0_link S x1 (1 : Int32)) (1 : Int32) x1) (fun u2 => (if (bI (fX0_has S (fX0_link S x1 (0 : Int32)))) = 0 then (fX1_of_J121 S x1 (fX0_link S x1 (0 : Int32)) (fX0_link S x1 (1 : Int32)) (fX0_link S x1 (2 : Int32)) false (6 : Int32) (((((fX1_fault (1 : Int32) (fX1_isStray S (fX0_link S x1 (0 : Int32)))) ||| (fX1_fault (2 : Int32) (fX1_isStray S (fX0_link S x1 (1 : Int32))))) ||| (fX1_fault (3 : Int32) (fX1_isStray S (fX0_link S x1 (2 : Int32))))) ||| (fX1_fault (4 : Int32) u1)) ||| (fX1_fault (5 : Int32) u2))) else (ob (fX0_isInRowOf S (fX0_link S x1 (0 : Int32)) x1) (fun u4 => (if (bI u4) = 0 then (fX1_of_J121 S x1 (fX0_link S x1 (0 : Int32)) (fX0_link S x1 (1 : Int32)) (fX0_link S x1 (2 : Int32)) true (6 : Int32) (((((fX1_fault (1 : Int32) (fX1_isStray S (fX0_link S x1 (0 : Int32)))) ||| (fX1_fault (2 : Int32) (fX1_isStray S (fX0_link S x1 (1 : Int32))))) ||| (fX1_fault (3 : Int32) (fX1_isStray S (fX0_link S x1 (2 : Int32))))) ||| (fX1_fault (4 : Int32) u1)) ||| (fX1_fault (5 : Int32) u2))) else (fX1_of_J121 S x1 (fX0_link S x1 (0 : Int32)) (fX0_link S x1 (1 : Int32)) (fX0_link S x1 (2 : Int32)) false (6 : Int32) (((((fX1_fault (1 : Int32) (fX1_isStray S (fX0_link S x1 (0 : Int32)))) ||| (fX1_fault (2 : Int32) (fX1_isStray S (fX0_link S x1 (1 : Int32))))) ||| (fX1_fault (3 : Int32) (fX1_isStray S (fX0_link S x1 (2 : Int32))))) ||| (fX1_fault (4 : Int32) u1)) ||| (fX1_fault (5 : Int32) u2)))))))))))
set_option maxRecDepth 100000 in
set_option maxHeartbeats 4000000 in
theorem c_X1_of (l : Launch) (D : va_G) (k : Nat → ClassId) (a : Nat → Nat) (S : XS) (x1 : Int32) (u : Int32 × XS) (h : fX1_of S x1 = some u) : Wr (Ek a) l D (tyk k) (wX k a S) (wX k a u.2) yX1_of cX1_of 5 (some .int) (rmm 5 113) [.ref (a 12), .int x1] (some (.int u.1)) := by
  refine wr_start (by decide) (Nat.le_of_ble_eq_true rfl) ?_
  intro p e s m below meth c A C hr hlocks hP hD0 hA hE0 ls hl
  have hDA : ∀ S, va_D A (wX k a S) := wX_D hD0
  have hS : va_S A s.heap s.heap [] := va_S.rf
  have hl : lv_has ls 5 [(0, .ref (a 12)), (1, .int x1)] := hl
  obtain ⟨⟨hx, hb, hml, hown, hts⟩, hK⟩ := id C
  have J177 : ∀ (S : XS) (y1 : Int32) (y2 : Int32) (y3 : Int32) (y4 : Int32) (z0 : Bool) (z1 : Int32) (z2 : Int32) (H : Heap) (locs : List Loc) (ls : Array Slot), va_P D vwCl (wX k a S) H → va_S A s.heap H locs → lv_has ls 5 [(0, .ref (a 12)), (1, .int y1), (2, .int y2), (3, .int y3), (4, .int y4)] → fX1_of_J177 S y1 y2 y3 y4 z0 z1 z2 = some u → W p l e (rmm 5 113) s m ([.ref (a 12), .int x1] : List Value).toArray below meth c H locs 0 0 (MQ below (Qw D (wX k a u.2) (some (.int u.1)) A) ([.ref (a 12), .int x1] : List Value).toArray s 0 0 A) (F0 m 177 ls [.int (bI z0), .int z1, .int z2]) := by
    intro S y1 y2 y3 y4 z0 z1 z2 H locs ls hP hS hl h
    rw [fX1_of_J177] at h
    refine rdS (Ek_est a) C hP (ef (Ek_est a) hS hE0) (c_X1_fault l D (tyk k) (Ek a) _ z1 z0) my_X1_fault ml_X1_29 rfl hl.1 (rest := [.int z2]) rfl (Nat.le_of_ble_eq_true rfl) ⟨rfl, rfl, Nat.le_of_ble_eq_true rfl, Nat.le_of_ble_eq_true rfl⟩ ⟨Nat.zero_le _, Nat.zero_le _⟩ dX1_of_177 ?_
    refine lv_ior hx hb dX1_of_180 ?_
    refine lv_bipush (v := (9 : Int32)) hx hb dX1_of_181 (by decide) ?_
    refine lv_aload_n hx hb dX1_of_183 rfl (lv_at hl 0 rfl) ?_
    refine lv_aload_n hx hb dX1_of_184 rfl (lv_at hl 0 rfl) ?_
    refine gX12_entries C hP fl_X1_9 dX1_of_185 ?_
    refine lv_iload_n hx hb dX1_of_188 rfl (lv_at hl 1 rfl) ?_
    refine rdV (Ek_est a) C hP (ef (Ek_est a) hS hE0) (c_X0_table l D k a _ y1) my_X0_table ml_X1_44 (rX3 C hP) rfl hl.1 (rest := [.ref (a 12), .int (9 : Int32), .int (z2 ||| (fX1_fault z1 z0))]) rfl (Nat.le_of_ble_eq_true rfl) ⟨rfl, rfl, Nat.le_of_ble_eq_true rfl, Nat.le_of_ble_eq_true rfl⟩ ⟨Nat.zero_le _, Nat.zero_le _⟩ dX1_of_189 ?_
    obtain ⟨u10, hhu10, h⟩ := ob_some h
    refine wrV (Ek_est a) C hP (hDA _) hA hS hE0 (c_X1_isOutOfOrder l D k a _ (fX0_table S y1) u10 hhu10) my_X1_isOutOfOrder ml_X1_48 (rX12 C hP) rfl hl.1 (rest := [.int (9 : Int32), .int (z2 ||| (fX1_fault z1 z0))]) rfl (Nat.le_of_ble_eq_true rfl) ⟨rfl, rfl, Nat.le_of_ble_eq_true rfl, Nat.le_of_ble_eq_true rfl⟩ ⟨Nat.zero_le _, Nat.zero_le _⟩ dX1_of_192 (fun H locs hP hS _ _ => ?_)
    refine rdS (Ek_est a) C hP (ef (Ek_est a) hS hE0) (c_X1_fault l D (tyk k) (Ek a) _ (9 : Int32) u10.1) my_X1_fault ml_X1_29 rfl hl.1 (rest := [.int (z2 ||| (fX1_fault z1 z0))]) rfl (Nat.le_of_ble_eq_true rfl) ⟨rfl, rfl, Nat.le_of_ble_eq_true rfl, Nat.le_of_ble_eq_true rfl⟩ ⟨Nat.zero_le _, Nat.zero_le _⟩ dX1_of_195 ?_
    refine lv_ior hx hb dX1_of_198 ?_
    refine lv_bipush (v := (10 : Int32)) hx hb dX1_of_199 (by decide) ?_
    refine lv_aload_n hx hb dX1_of_201 rfl (lv_at hl 0 rfl) ?_
    refine lv_iload_n hx hb dX1_of_202 rfl (lv_at hl 1 rfl) ?_
    obtain ⟨u11, hhu11, h⟩ := ob_some h
    refine rdV (Ek_est a) C hP (ef (Ek_est a) hS hE0) (c_X1_sharesTable l D k a _ y1 u11 hhu11) my_X1_sharesTable ml_X1_51 (rX12 C hP) rfl hl.1 (rest := [.int (10 : Int32), .int ((z2 ||| (fX1_fault z1 z0)) ||| (fX1_fault (9 : Int32) u10.1))]) rfl (Nat.le_of_ble_eq_true rfl) ⟨rfl, rfl, Nat.le_of_ble_eq_true rfl, Nat.le_of_ble_eq_true rfl⟩ ⟨Nat.zero_le _, Nat.zero_le _⟩ dX1_of_203 ?_
    refine rdS (Ek_est a) C hP (ef (Ek_est a) hS hE0) (c_X1_fault l D (tyk k) (Ek a) _ (10 : Int32) u11) my_X1_fault ml_X1_29 rfl hl.1 (rest := [.int ((z2 ||| (fX1_fault z1 z0)) ||| (fX1_fault (9 : Int32) u10.1))]) rfl (Nat.le_of_ble_eq_true rfl) ⟨rfl, rfl, Nat.le_of_ble_eq_true rfl, Nat.le_of_ble_eq_true rfl⟩ ⟨Nat.zero_le _, Nat.zero_le _⟩ dX1_of_206 ?_
    refine lv_ior hx hb dX1_of_209 ?_
    rw [← Option.some.inj h]
    exact wrX_iret C hr hlocks hP hS dX1_of_210
  have J158 : ∀ (S : XS) (y1 : Int32) (y2 : Int32) (y3 : Int32) (y4 : Int32) (z0 : Bool) (z1 : Int32) (z2 : Int32) (H : Heap) (locs : List Loc) (ls : Array Slot), va_P D vwCl (wX k a S) H → va_S A s.heap H locs → lv_has ls 5 [(0, .ref (a 12)), (1, .int y1), (2, .int y2), (3, .int y3), (4, .int y4)] → fX1_of_J158 S y1 y2 y3 y4 z0 z1 z2 = some u → W p l e (rmm 5 113) s m ([.ref (a 12), .int x1] : List Value).toArray below meth c H locs 0 0 (MQ below (Qw D (wX k a u.2) (some (.int u.1)) A) ([.ref (a 12), .int x1] : List Value).toArray s 0 0 A) (F0 m 158 ls [.int (bI z0), .int z1, .int z2]) := by
    intro S y1 y2 y3 y4 z0 z1 z2 H locs ls hP hS hl h
    rw [fX1_of_J158] at h
    refine rdS (Ek_est a) C hP (ef (Ek_est a) hS hE0) (c_X1_fault l D (tyk k) (Ek a) _ z1 z0) my_X1_fault ml_X1_29 rfl hl.1 (rest := [.int z2]) rfl (Nat.le_of_ble_eq_true rfl) ⟨rfl, rfl, Nat.le_of_ble_eq_true rfl, Nat.le_of_ble_eq_true rfl⟩ ⟨Nat.zero_le _, Nat.zero_le _⟩ dX1_of_158 ?_
    refine lv_ior hx hb dX1_of_161 ?_
    refine lv_bipush (v := (8 : Int32)) hx hb dX1_of_162 (by decide) ?_
    refine lv_iload_n hx hb dX1_of_164 rfl (lv_at hl 3 rfl) ?_
    refine lv_if_eq (tgt := 176) hx hb dX1_of_165 (by decide) (fun c8 => ?_) (fun c8 => ?_)
    · rw [if_pos c8] at h
      refine lv_iconst (v := (0 : Int32)) hx hb dX1_of_176 (by decide) ?_
      exact J177 _ _ _ _ _ _ _ _ _ _ ls hP hS (lv_sub hl [0, 1, 2, 3, 4] rfl) h
    · rw [if_neg c8] at h
      refine lv_iload_n hx hb dX1_of_168 rfl (lv_at hl 2 rfl) ?_
      refine lv_if_ne (tgt := 176) hx hb dX1_of_169 (by decide) (fun c9 => ?_) (fun c9 => ?_)
      · rw [if_neg c9] at h
        refine lv_iconst (v := (0 : Int32)) hx hb dX1_of_176 (by decide) ?_
        exact J177 _ _ _ _ _ _ _ _ _ _ ls hP hS (lv_sub hl [0, 1, 2, 3, 4] rfl) h
      · rw [if_pos c9] at h
        refine lv_iconst (v := (1 : Int32)) hx hb dX1_of_172 (by decide) ?_
        refine lv_goto (tgt := 177) hx hb dX1_of_173 (by decide) ?_
        exact J177 _ _ _ _ _ _ _ _ _ _ ls hP hS (lv_sub hl [0, 1, 2, 3, 4] rfl) h
  have J121 : ∀ (S : XS) (y1 : Int32) (y2 : Int32) (y3 : Int32) (y4 : Int32) (z0 : Bool) (z1 : Int32) (z2 : Int32) (H : Heap) (locs : List Loc) (ls : Array Slot), va_P D vwCl (wX k a S) H → va_S A s.heap H locs → lv_has ls 5 [(0, .ref (a 12)), (1, .int y1), (2, .int y2), (3, .int y3), (4, .int y4)] → fX1_of_J121 S y1 y2 y3 y4 z0 z1 z2 = some u → W p l e (rmm 5 113) s m ([.ref (a 12), .int x1] : List Value).toArray below meth c H locs 0 0 (MQ below (Qw D (wX k a u.2) (some (.int u.1)) A) ([.ref (a 12), .int x1] : List Value).toArray s 0 0 A) (F0 m 121 ls [.int (bI z0), .int z1, .int z2]) := by
    intro S y1 y2 y3 y4 z0 z1 z2 H locs ls hP hS hl h
    rw [fX1_of_J121] at h
    refine rdS (Ek_est a) C hP (ef (Ek_est a) hS hE0) (c_X1_fault l D (tyk k) (Ek a) _ z1 z0) my_X1_fault ml_X1_29 rfl hl.1 (rest := [.int z2]) rfl (Nat.le_of_ble_eq_true rfl) ⟨rfl, rfl, Nat.le_of_ble_eq_true rfl, Nat.le_of_ble_eq_true rfl⟩ ⟨Nat.zero_le _, Nat.zero_le _⟩ dX1_of_121 ?_
    refine lv_ior hx hb dX1_of_124 ?_
    refine lv_bipush (v := (7 : Int32)) hx hb dX1_of_125 (by decide) ?_
    refine lv_aload_n hx hb dX1_of_127 rfl (lv_at hl 0 rfl) ?_
    refine gX12_entries C hP fl_X1_9 dX1_of_128 ?_
    refine lv_iload hx hb dX1_of_131 (lv_at hl 4 rfl) ?_
    refine rdV (Ek_est a) C hP (ef (Ek_est a) hS hE0) (c_X0_has l D k a _ y4) my_X0_has ml_X1_37 (rX3 C hP) rfl hl.1 (rest := [.int (7 : Int32), .int (z2 ||| (fX1_fault z1 z0))]) rfl (Nat.le_of_ble_eq_true rfl) ⟨rfl, rfl, Nat.le_of_ble_eq_true rfl, Nat.le_of_ble_eq_true rfl⟩ ⟨Nat.zero_le _, Nat.zero_le _⟩ dX1_of_133 ?_
    refine lv_if_eq (tgt := 157) hx hb dX1_of_136 (by decide) (fun c6 => ?_) (fun c6 => ?_)
    · rw [if_pos c6] at h
      refine lv_iconst (v := (0 : Int32)) hx hb dX1_of_157 (by decide) ?_
      exact J158 _ _ _ _ _ _ _ _ _ _ ls hP hS (lv_sub hl [0, 1, 2, 3, 4] rfl) h
    · rw [if_neg c6] at h
      refine lv_aload_n hx hb dX1_of_139 rfl (lv_at hl 0 rfl) ?_
      refine gX12_entries C hP fl_X1_9 dX1_of_140 ?_
      refine lv_iload hx hb dX1_of_143 (lv_at hl 4 rfl) ?_
      refine lv_iconst (v := (0 : Int32)) hx hb dX1_of_145 (by decide) ?_
      refine rdV (Ek_est a) C hP (ef (Ek_est a) hS hE0) (c_X0_link l D k a _ y4 (0 : Int32)) my_X0_link ml_X1_19 (rX3 C hP) rfl hl.1 (rest := [.int (7 : Int32), .int (z2 ||| (fX1_fault z1 z0))]) rfl (Nat.le_of_ble_eq_true rfl) ⟨rfl, rfl, Nat.le_of_ble_eq_true rfl, Nat.le_of_ble_eq_true rfl⟩ ⟨Nat.zero_le _, Nat.zero_le _⟩ dX1_of_146 ?_
      refine lv_iload_n hx hb dX1_of_149 rfl (lv_at hl 1 rfl) ?_
      refine lv_icmp_eq (tgt := 157) hx hb dX1_of_150 (by decide) (fun c7 => ?_) (fun c7 => ?_)
      · rw [if_pos c7] at h
        refine lv_iconst (v := (0 : Int32)) hx hb dX1_of_157 (by decide) ?_
        exact J158 _ _ _ _ _ _ _ _ _ _ ls hP hS (lv_sub hl [0, 1, 2, 3, 4] rfl) h
      · rw [if_neg c7] at h
        refine lv_iconst (v := (1 : Int32)) hx hb dX1_of_153 (by decide) ?_
        refine lv_goto (tgt := 158) hx hb dX1_of_154 (by decide) ?_
        exact J158 _ _ _ _ _ _ _ _ _ _ ls hP hS (lv_sub hl [0, 1, 2, 3, 4] rfl) h
  rw [fX1_of] at h
  refine lv_aload_n hx hb dX1_of_0 rfl (lv_at hl 0 rfl) ?_
  refine gX12_entries C hP fl_X1_9 dX1_of_1 ?_
  refine lv_iload_n hx hb dX1_of_4 rfl (lv_at hl 1 rfl) ?_
  refine lv_iconst (v := (0 : Int32)) hx hb dX1_of_5 (by decide) ?_
  refine rdV (Ek_est a) C hP (ef (Ek_est a) hS hE0) (c_X0_link l D k a _ x1 (0 : Int32)) my_X0_link ml_X1_19 (rX3 C hP) rfl hl.1 (rest := []) rfl (Nat.le_of_ble_eq_true rfl) ⟨rfl, rfl, Nat.le_of_ble_eq_true rfl, Nat.le_of_ble_eq_true rfl⟩ ⟨Nat.zero_le _, Nat.zero_le _⟩ dX1_of_6 ?_
  refine lv_istore_n (lv' := [(2, .int (fX0_link S x1 (0 : Int32))), (0, .ref (a 12)), (1, .int x1)]) hx hb dX1_of_9 rfl hl (by decide) rfl (fun ls hl => ?_)
  refine lv_aload_n hx hb dX1_of_10 rfl (lv_at hl 1 rfl) ?_
  refine gX12_entries C hP fl_X1_9 dX1_of_11 ?_
  refine lv_iload_n hx hb dX1_of_14 rfl (lv_at hl 2 rfl) ?_
  refine lv_iconst (v := (1 : Int32)) hx hb dX1_of_15 (by decide) ?_
  refine rdV (Ek_est a) C hP (ef (Ek_est a) hS hE0) (c_X0_link l D k a _ x1 (1 : Int32)) my_X0_link ml_X1_19 (rX3 C hP) rfl hl.1 (rest := []) rfl (Nat.le_of_ble_eq_true rfl) ⟨rfl, rfl, Nat.le_of_ble_eq_true rfl, Nat.le_of_ble_eq_true rfl⟩ ⟨Nat.zero_le _, Nat.zero_le _⟩ dX1_of_16 ?_
  refine lv_istore_n (lv' := [(3, .int (fX0_link S x1 (1 : Int32))), (2, .int (fX0_link S x1 (0 : Int32))), (0, .ref (a 12)), (1, .int x1)]) hx hb dX1_of_19 rfl hl (by decide) rfl (fun ls hl => ?_)
  refine lv_aload_n hx hb dX1_of_20 rfl (lv_at hl 2 rfl) ?_
  refine gX12_entries C hP fl_X1_9 dX1_of_21 ?_
  refine lv_iload_n hx hb dX1_of_24 rfl (lv_at hl 3 rfl) ?_
  refine lv_iconst (v := (2 : Int32)) hx hb dX1_of_25 (by decide) ?_
  refine rdV (Ek_est a) C hP (ef (Ek_est a) hS hE0) (c_X0_link l D k a _ x1 (2 : Int32)) my_X0_link ml_X1_19 (rX3 C hP) rfl hl.1 (rest := []) rfl (Nat.le_of_ble_eq_true rfl) ⟨rfl, rfl, Nat.le_of_ble_eq_true rfl, Nat.le_of_ble_eq_true rfl⟩ ⟨Nat.zero_le _, Nat.zero_le _⟩ dX1_of_26 ?_
  refine lv_istore (lv' := [(4, .int (fX0_link S x1 (2 : Int32))), (3, .int (fX0_link S x1 (1 : Int32))), (2, .int (fX0_link S x1 (0 : Int32))), (0, .ref (a 12)), (1, .int x1)]) hx hb dX1_of_29 hl (by decide) rfl (fun ls hl => ?_)
  refine lv_iconst (v := (1 : Int32)) hx hb dX1_of_31 (by decide) ?_
  refine lv_aload_n hx hb dX1_of_32 rfl (lv_at hl 3 rfl) ?_
  refine lv_iload_n hx hb dX1_of_33 rfl (lv_at hl 2 rfl) ?_
  refine rdV (Ek_est a) C hP (ef (Ek_est a) hS hE0) (c_X1_isStray l D k a _ (fX0_link S x1 (0 : Int32))) my_X1_isStray ml_X1_25 (rX12 C hP) rfl hl.1 (rest := [.int (1 : Int32)]) rfl (Nat.le_of_ble_eq_true rfl) ⟨rfl, rfl, Nat.le_of_ble_eq_true rfl, Nat.le_of_ble_eq_true rfl⟩ ⟨Nat.zero_le _, Nat.zero_le _⟩ dX1_of_34 ?_
  refine rdS (Ek_est a) C hP (ef (Ek_est a) hS hE0) (c_X1_fault l D (tyk k) (Ek a) _ (1 : Int32) (fX1_isStray S (fX0_link S x1 (0 : Int32)))) my_X1_fault ml_X1_29 rfl hl.1 (rest := []) rfl (Nat.le_of_ble_eq_true rfl) ⟨rfl, rfl, Nat.le_of_ble_eq_true rfl, Nat.le_of_ble_eq_true rfl⟩ ⟨Nat.zero_le _, Nat.zero_le _⟩ dX1_of_37 ?_
  refine lv_iconst (v := (2 : Int32)) hx hb dX1_of_40 (by decide) ?_
  refine lv_aload_n hx hb dX1_of_41 rfl (lv_at hl 3 rfl) ?_
  refine lv_iload_n hx hb dX1_of_42 rfl (lv_at hl 1 rfl) ?_
  refine rdV (Ek_est a) C hP (ef (Ek_est a) hS hE0) (c_X1_isStray l D k a _ (fX0_link S x1 (1 : Int32))) my_X1_isStray ml_X1_25 (rX12 C hP) rfl hl.1 (rest := [.int (2 : Int32), .int (fX1_fault (1 : Int32) (fX1_isStray S (fX0_link S x1 (0 : Int32))))]) rfl (Nat.le_of_ble_eq_true rfl) ⟨rfl, rfl, Nat.le_of_ble_eq_true rfl, Nat.le_of_ble_eq_true rfl⟩ ⟨Nat.zero_le _, Nat.zero_le _⟩ dX1_of_43 ?_
  refine rdS (Ek_est a) C hP (ef (Ek_est a) hS hE0) (c_X1_fault l D (tyk k) (Ek a) _ (2 : Int32) (fX1_isStray S (fX0_link S x1 (1 : Int32)))) my_X1_fault ml_X1_29 rfl hl.1 (rest := [.int (fX1_fault (1 : Int32) (fX1_isStray S (fX0_link S x1 (0 : Int32))))]) rfl (Nat.le_of_ble_eq_true rfl) ⟨rfl, rfl, Nat.le_of_ble_eq_true rfl, Nat.le_of_ble_eq_true rfl⟩ ⟨Nat.zero_le _, Nat.zero_le _⟩ dX1_of_46 ?_
  refine lv_ior hx hb dX1_of_49 ?_
  refine lv_iconst (v := (3 : Int32)) hx hb dX1_of_50 (by decide) ?_
  refine lv_aload_n hx hb dX1_of_51 rfl (lv_at hl 3 rfl) ?_
  refine lv_iload hx hb dX1_of_52 (lv_at hl 0 rfl) ?_
  refine rdV (Ek_est a) C hP (ef (Ek_est a) hS hE0) (c_X1_isStray l D k a _ (fX0_link S x1 (2 : Int32))) my_X1_isStray ml_X1_25 (rX12 C hP) rfl hl.1 (rest := [.int (3 : Int32), .int ((fX1_fault (1 : Int32) (fX1_isStray S (fX0_link S x1 (0 : Int32)))) ||| (fX1_fault (2 : Int32) (fX1_isStray S (fX0_link S x1 (1 : Int32)))))]) rfl (Nat.le_of_ble_eq_true rfl) ⟨rfl, rfl, Nat.le_of_ble_eq_true rfl, Nat.le_of_ble_eq_true rfl⟩ ⟨Nat.zero_le _, Nat.zero_le _⟩ dX1_of_54 ?_
  refine rdS (Ek_est a) C hP (ef (Ek_est a) hS hE0) (c_X1_fault l D (tyk k) (Ek a) _ (3 : Int32) (fX1_isStray S (fX0_link S x1 (2 : Int32)))) my_X1_fault ml_X1_29 rfl hl.1 (rest := [.int ((fX1_fault (1 : Int32) (fX1_isStray S (fX0_link S x1 (0 : Int32)))) ||| (fX1_fault (2 : Int32) (fX1_isStray S (fX0_link S x1 (1 : Int32)))))]) rfl (Nat.le_of_ble_eq_true rfl) ⟨rfl, rfl, Nat.le_of_ble_eq_true rfl, Nat.le_of_ble_eq_true rfl⟩ ⟨Nat.zero_le _, Nat.zero_le _⟩ dX1_of_57 ?_
  refine lv_ior hx hb dX1_of_60 ?_
  refine lv_iconst (v := (4 : Int32)) hx hb dX1_of_61 (by decide) ?_
  refine lv_aload_n hx hb dX1_of_62 rfl (lv_at hl 3 rfl) ?_
  refine gX12_entries C hP fl_X1_9 dX1_of_63 ?_
  refine lv_iload_n hx hb dX1_of_66 rfl (lv_at hl 2 rfl) ?_
  refine lv_iconst (v := (0 : Int32)) hx hb dX1_of_67 (by decide) ?_
  refine lv_iload_n hx hb dX1_of_68 rfl (lv_at hl 4 rfl) ?_
  obtain ⟨u1, hhu1, h⟩ := ob_some h
  refine rdV (Ek_est a) C hP (ef (Ek_est a) hS hE0) (c_X0_comesTo l D k a _ (fX0_link S x1 (0 : Int32)) (0 : Int32) x1 u1 hhu1) my_X0_comesTo ml_X1_33 (rX3 C hP) rfl hl.1 (rest := [.int (4 : Int32), .int (((fX1_fault (1 : Int32) (fX1_isStray S (fX0_link S x1 (0 : Int32)))) ||| (fX1_fault (2 : Int32) (fX1_isStray S (fX0_link S x1 (1 : Int32))))) ||| (fX1_fault (3 : Int32) (fX1_isStray S (fX0_link S x1 (2 : Int32)))))]) rfl (Nat.le_of_ble_eq_true rfl) ⟨rfl, rfl, Nat.le_of_ble_eq_true rfl, Nat.le_of_ble_eq_true rfl⟩ ⟨Nat.zero_le _, Nat.zero_le _⟩ dX1_of_69 ?_
  refine rdS (Ek_est a) C hP (ef (Ek_est a) hS hE0) (c_X1_fault l D (tyk k) (Ek a) _ (4 : Int32) u1) my_X1_fault ml_X1_29 rfl hl.1 (rest := [.int (((fX1_fault (1 : Int32) (fX1_isStray S (fX0_link S x1 (0 : Int32)))) ||| (fX1_fault (2 : Int32) (fX1_isStray S (fX0_link S x1 (1 : Int32))))) ||| (fX1_fault (3 : Int32) (fX1_isStray S (fX0_link S x1 (2 : Int32)))))]) rfl (Nat.le_of_ble_eq_true rfl) ⟨rfl, rfl, Nat.le_of_ble_eq_true rfl, Nat.le_of_ble_eq_true rfl⟩ ⟨Nat.zero_le _, Nat.zero_le _⟩ dX1_of_72 ?_
  refine lv_ior hx hb dX1_of_75 ?_
  refine lv_iconst (v := (5 : Int32)) hx hb dX1_of_76 (by decide) ?_
  refine lv_aload_n hx hb dX1_of_77 rfl (lv_at hl 3 rfl) ?_
  refine gX12_entries C hP fl_X1_9 dX1_of_78 ?_
  refine lv_iload_n hx hb dX1_of_81 rfl (lv_at hl 1 rfl) ?_
  refine lv_iconst (v := (1 : Int32)) hx hb dX1_of_82 (by decide) ?_
  refine lv_iload_n hx hb dX1_of_83 rfl (lv_at hl 4 rfl) ?_
  obtain ⟨u2, hhu2, h⟩ := ob_some h
  refine rdV (Ek_est a) C hP (ef (Ek_est a) hS hE0) (c_X0_comesTo l D k a _ (fX0_link S x1 (1 : Int32)) (1 : Int32) x1 u2 hhu2) my_X0_comesTo ml_X1_33 (rX3 C hP) rfl hl.1 (rest := [.int (5 : Int32), .int ((((fX1_fault (1 : Int32) (fX1_isStray S (fX0_link S x1 (0 : Int32)))) ||| (fX1_fault (2 : Int32) (fX1_isStray S (fX0_link S x1 (1 : Int32))))) ||| (fX1_fault (3 : Int32) (fX1_isStray S (fX0_link S x1 (2 : Int32))))) ||| (fX1_fault (4 : Int32) u1))]) rfl (Nat.le_of_ble_eq_true rfl) ⟨rfl, rfl, Nat.le_of_ble_eq_true rfl, Nat.le_of_ble_eq_true rfl⟩ ⟨Nat.zero_le _, Nat.zero_le _⟩ dX1_of_84 ?_
  refine rdS (Ek_est a) C hP (ef (Ek_est a) hS hE0) (c_X1_fault l D (tyk k) (Ek a) _ (5 : Int32) u2) my_X1_fault ml_X1_29 rfl hl.1 (rest := [.int ((((fX1_fault (1 : Int32) (fX1_isStray S (fX0_link S x1 (0 : Int32)))) ||| (fX1_fault (2 : Int32) (fX1_isStray S (fX0_link S x1 (1 : Int32))))) ||| (fX1_fault (3 : Int32) (fX1_isStray S (fX0_link S x1 (2 : Int32))))) ||| (fX1_fault (4 : Int32) u1))]) rfl (Nat.le_of_ble_eq_true rfl) ⟨rfl, rfl, Nat.le_of_ble_eq_true rfl, Nat.le_of_ble_eq_true rfl⟩ ⟨Nat.zero_le _, Nat.zero_le _⟩ dX1_of_87 ?_
  refine lv_ior hx hb dX1_of_90 ?_
  refine lv_bipush (v := (6 : Int32)) hx hb dX1_of_91 (by decide) ?_
  refine lv_aload_n hx hb dX1_of_93 rfl (lv_at hl 3 rfl) ?_
  refine gX12_entries C hP fl_X1_9 dX1_of_94 ?_
  refine lv_iload_n hx hb dX1_of_97 rfl (lv_at hl 2 rfl) ?_
  refine rdV (Ek_est a) C hP (ef (Ek_est a) hS hE0) (c_X0_has l D k a _ (fX0_link S x1 (0 : Int32))) my_X0_has ml_X1_37 (rX3 C hP) rfl hl.1 (rest := [.int (6 : Int32), .int (((((fX1_fault (1 : Int32) (fX1_isStray S (fX0_link S x1 (0 : Int32)))) ||| (fX1_fault (2 : Int32) (fX1_isStray S (fX0_link S x1 (1 : Int32))))) ||| (fX1_fault (3 : Int32) (fX1_isStray S (fX0_link S x1 (2 : Int32))))) ||| (fX1_fault (4 : Int32) u1)) ||| (fX1_fault (5 : Int32) u2))]) rfl (Nat.le_of_ble_eq_true rfl) ⟨rfl, rfl, Nat.le_of_ble_eq_true rfl, Nat.le_of_ble_eq_true rfl⟩ ⟨Nat.zero_le _, Nat.zero_le _⟩ dX1_of_98 ?_
  refine lv_if_eq (tgt := 120) hx hb dX1_of_101 (by decide) (fun c3 => ?_) (fun c3 => ?_)
  · rw [if_pos c3] at h
    refine lv_iconst (v := (0 : Int32)) hx hb dX1_of_120 (by decide) ?_
    exact J121 _ _ _ _ _ _ _ _ _ _ ls hP hS (lv_sub hl [3, 4, 2, 1, 0] rfl) h
  · rw [if_neg c3] at h
    refine lv_aload_n hx hb dX1_of_104 rfl (lv_at hl 3 rfl) ?_
    refine gX12_entries C hP fl_X1_9 dX1_of_105 ?_
    refine lv_iload_n hx hb dX1_of_108 rfl (lv_at hl 2 rfl) ?_
    refine lv_iload_n hx hb dX1_of_109 rfl (lv_at hl 4 rfl) ?_
    obtain ⟨u4, hhu4, h⟩ := ob_some h
    refine rdV (Ek_est a) C hP (ef (Ek_est a) hS hE0) (c_X0_isInRowOf l D k a _ (fX0_link S x1 (0 : Int32)) x1 u4 hhu4) my_X0_isInRowOf ml_X1_40 (rX3 C hP) rfl hl.1 (rest := [.int (6 : Int32), .int (((((fX1_fault (1 : Int32) (fX1_isStray S (fX0_link S x1 (0 : Int32)))) ||| (fX1_fault (2 : Int32) (fX1_isStray S (fX0_link S x1 (1 : Int32))))) ||| (fX1_fault (3 : Int32) (fX1_isStray S (fX0_link S x1 (2 : Int32))))) ||| (fX1_fault (4 : Int32) u1)) ||| (fX1_fault (5 : Int32) u2))]) rfl (Nat.le_of_ble_eq_true rfl) ⟨rfl, rfl, Nat.le_of_ble_eq_true rfl, Nat.le_of_ble_eq_true rfl⟩ ⟨Nat.zero_le _, Nat.zero_le _⟩ dX1_of_110 ?_
    refine lv_if_ne (tgt := 120) hx hb dX1_of_113 (by decide) (fun c5 => ?_) (fun c5 => ?_)
    · rw [if_neg c5] at h
      refine lv_iconst (v := (0 : Int32)) hx hb dX1_of_120 (by decide) ?_
      exact J121 _ _ _ _ _ _ _ _ _ _ ls hP hS (lv_sub hl [3, 4, 2, 1, 0] rfl) h
    · rw [if_pos c5] at h
      refine lv_iconst (v := (1 : Int32)) hx hb dX1_of_116 (by decide) ?_
      refine lv_goto (tgt := 121) hx hb dX1_of_117 (by decide) ?_
      exact J121 _ _ _ _ _ _ _ _ _ _ ls hP hS (lv_sub hl [3, 4, 2, 1, 0] rfl) h
def fJ6_bitCount_0f7a4 (x0 : Int32) : Int32 := ((((((((x0 - (((x0.toUInt32 >>> ((1 : Int32).toUInt32 &&& Int32.toUInt32 31)).toInt32) &&& (1431655765 : Int32))) &&& (858993459 : Int32)) + ((((x0 - (((x0.toUInt32 >>> ((1 : Int32).toUInt32 &&& Int32.toUInt32 31)).toInt32) &&& (1431655765 : Int32))).toUInt32 >>> ((2 : Int32).toUInt32 &&& Int32.toUInt32 31)).toInt32) &&& (858993459 : Int32))) + (((((x0 - (((x0.toUInt32 >>> ((1 : Int32).toUInt32 &&& Int32.toUInt32 31)).toInt32) &&& (1431655765 : Int32))) &&& (858993459 : Int32)) + ((((x0 - (((x0.toUInt32 >>> ((1 : Int32).toUInt32 &&& Int32.toUInt32 31)).toInt32) &&& (1431655765 : Int32))).toUInt32 >>> ((2 : Int32).toUInt32 &&& Int32.toUInt32 31)).toInt32) &&& (858993459 : Int32))).toUInt32 >>> ((4 : Int32).toUInt32 &&& Int32.toUInt32 31)).toInt32)) &&& (252645135 : Int32)) + (((((((x0 - (((x0.toUInt32 >>> ((1 : Int32).toUInt32 &&& Int32.toUInt32 31)).toInt32) &&& (1431655765 : Int32))) &&& (858993459 : Int32)) + ((((x0 - (((x0.toUInt32 >>> ((1 : Int32).toUInt32 &&& Int32.toUInt32 31)).toInt32) &&& (1431655765 : Int32))).toUInt32 >>> ((2 : Int32).toUInt32 &&& Int32.toUInt32 31)).toInt32) &&& (858993459 : Int32))) + (((((x0 - (((x0.toUInt32 >>> ((1 : Int32).toUInt32 &&& Int32.toUInt32 31)).toInt32) &&& (1431655765 : Int32))) &&& (858993459 : Int32)) + ((((x0 - (((x0.toUInt32 >>> ((1 : Int32).toUInt32 &&& Int32.toUInt32 31)).toInt32) &&& (1431655765 : Int32))).toUInt32 >>> ((2 : Int32).toUInt32 &&& Int32.toUInt32 31)).toInt32) &&& (858993459 : Int32))).toUInt32 >>> ((4 : Int32).toUInt32 &&& Int32.toUInt32 31)).toInt32)) &&& (252645135 : Int32)).toUInt32 >>> ((8 : Int32).toUInt32 &&& Int32.toUInt32 31)).toInt32)) + ((((((((x0 - (((x0.toUInt32 >>> ((1 : Int32).toUInt32 &&& Int32.toUInt32 31)).toInt32) &&& (1431655765 : Int32))) &&& (858993459 : Int32)) + ((((x0 - (((x0.toUInt32 >>> ((1 : Int32).toUInt32 &&& Int32.toUInt32 31)).toInt32) &&& (1431655765 : Int32))).toUInt32 >>> ((2 : Int32).toUInt32 &&& Int32.toUInt32 31)).toInt32) &&& (858993459 : Int32))) + (((((x0 - (((x0.toUInt32 >>> ((1 : Int32).toUInt32 &&& Int32.toUInt32 31)).toInt32) &&& (1431655765 : Int32))) &&& (858993459 : Int32)) + ((((x0 - (((x0.toUInt32 >>> ((1 : Int32).toUInt32 &&& Int32.toUInt32 31)).toInt32) &&& (1431655765 : Int32))).toUInt32 >>> ((2 : Int32).toUInt32 &&& Int32.toUInt32 31)).toInt32) &&& (858993459 : Int32))).toUInt32 >>> ((4 : Int32).toUInt32 &&& Int32.toUInt32 31)).toInt32)) &&& (252645135 : Int32)) + (((((((x0 - (((x0.toUInt32 >>> ((1 : Int32).toUInt32 &&& Int32.toUInt32 31)).toInt32) &&& (1431655765 : Int32))) &&& (858993459 : Int32)) + ((((x0 - (((x0.toUInt32 >>> ((1 : Int32).toUInt32 &&& Int32.toUInt32 31)).toInt32) &&& (1431655765 : Int32))).toUInt32 >>> ((2 : Int32).toUInt32 &&& Int32.toUInt32 31)).toInt32) &&& (858993459 : Int32))) + (((((x0 - (((x0.toUInt32 >>> ((1 : Int32).toUInt32 &&& Int32.toUInt32 31)).toInt32) &&& (1431655765 : Int32))) &&& (858993459 : Int32)) + ((((x0 - (((x0.toUInt32 >>> ((1 : Int32).toUInt32 &&& Int32.toUInt32 31)).toInt32) &&& (1431655765 : Int32))).toUInt32 >>> ((2 : Int32).toUInt32 &&& Int32.toUInt32 31)).toInt32) &&& (858993459 : Int32))).toUInt32 >>> ((4 : Int32).toUInt32 &&& Int32.toUInt32 31)).toInt32)) &&& (252645135 : Int32)).toUInt32 >>> ((8 : Int32).toUInt32 &&& Int32.toUInt32 31)).toInt32)).toUInt32 >>> ((16 : Int32).toUInt32 &&& Int32.toUInt32 31)).toInt32)) &&& (63 : Int32))
set_option maxRecDepth 100000 in
set_option maxHeartbeats 4000000 in
theorem c_J6_bitCount_0f7a4 (l : Launch) (D : va_G) (ty : List (ClassId × FieldType)) (E : Ety) (w : va_W) (x0 : Int32) : Rd E l D ty w yJ6_bitCount_0f7a4 cJ6_bitCount_0f7a4 1 (some .int) (rmm 0 0) [.int x0] (fJ6_bitCount_0f7a4 x0) := by
  generalize h : fJ6_bitCount_0f7a4 x0 = u
  refine rd_start (by decide) (Nat.le_of_ble_eq_true rfl) ?_
  intro p e s m below meth c C hr hlocks hP hE0 ls hl
  have hl : lv_has ls 1 [(0, .int x0)] := hl
  obtain ⟨⟨hx, hb, hml, hown, hts⟩, hK⟩ := id C
  rw [fJ6_bitCount_0f7a4] at h
  refine lv_iload_n hx hb dJ6_bitCount_0f7a4_0 rfl (lv_at hl 0 rfl) ?_
  refine lv_iload_n hx hb dJ6_bitCount_0f7a4_1 rfl (lv_at hl 0 rfl) ?_
  refine lv_iconst (v := (1 : Int32)) hx hb dJ6_bitCount_0f7a4_2 (by decide) ?_
  refine lv_iushr hx hb dJ6_bitCount_0f7a4_3 rfl ?_
  refine lv_ldcw (v := (1431655765 : Int32)) hx hb hown (hts _ ct_J6_265) dJ6_bitCount_0f7a4_4 ?_
  refine lv_iand hx hb dJ6_bitCount_0f7a4_7 ?_
  refine lv_isub hx hb dJ6_bitCount_0f7a4_8 ?_
  refine lv_istore_n (lv' := [(0, .int (x0 - (((x0.toUInt32 >>> ((1 : Int32).toUInt32 &&& Int32.toUInt32 31)).toInt32) &&& (1431655765 : Int32))))]) hx hb dJ6_bitCount_0f7a4_9 rfl hl (by decide) rfl (fun ls hl => ?_)
  refine lv_iload_n hx hb dJ6_bitCount_0f7a4_10 rfl (lv_at hl 0 rfl) ?_
  refine lv_ldcw (v := (858993459 : Int32)) hx hb hown (hts _ ct_J6_266) dJ6_bitCount_0f7a4_11 ?_
  refine lv_iand hx hb dJ6_bitCount_0f7a4_14 ?_
  refine lv_iload_n hx hb dJ6_bitCount_0f7a4_15 rfl (lv_at hl 0 rfl) ?_
  refine lv_iconst (v := (2 : Int32)) hx hb dJ6_bitCount_0f7a4_16 (by decide) ?_
  refine lv_iushr hx hb dJ6_bitCount_0f7a4_17 rfl ?_
  refine lv_ldcw (v := (858993459 : Int32)) hx hb hown (hts _ ct_J6_266) dJ6_bitCount_0f7a4_18 ?_
  refine lv_iand hx hb dJ6_bitCount_0f7a4_21 ?_
  refine lv_iadd hx hb dJ6_bitCount_0f7a4_22 ?_
  refine lv_istore_n (lv' := [(0, .int (((x0 - (((x0.toUInt32 >>> ((1 : Int32).toUInt32 &&& Int32.toUInt32 31)).toInt32) &&& (1431655765 : Int32))) &&& (858993459 : Int32)) + ((((x0 - (((x0.toUInt32 >>> ((1 : Int32).toUInt32 &&& Int32.toUInt32 31)).toInt32) &&& (1431655765 : Int32))).toUInt32 >>> ((2 : Int32).toUInt32 &&& Int32.toUInt32 31)).toInt32) &&& (858993459 : Int32))))]) hx hb dJ6_bitCount_0f7a4_23 rfl hl (by decide) rfl (fun ls hl => ?_)
  refine lv_iload_n hx hb dJ6_bitCount_0f7a4_24 rfl (lv_at hl 0 rfl) ?_
  refine lv_iload_n hx hb dJ6_bitCount_0f7a4_25 rfl (lv_at hl 0 rfl) ?_
  refine lv_iconst (v := (4 : Int32)) hx hb dJ6_bitCount_0f7a4_26 (by decide) ?_
  refine lv_iushr hx hb dJ6_bitCount_0f7a4_27 rfl ?_
  refine lv_iadd hx hb dJ6_bitCount_0f7a4_28 ?_
  refine lv_ldcw (v := (252645135 : Int32)) hx hb hown (hts _ ct_J6_267) dJ6_bitCount_0f7a4_29 ?_
  refine lv_iand hx hb dJ6_bitCount_0f7a4_32 ?_
  refine lv_istore_n (lv' := [(0, .int (((((x0 - (((x0.toUInt32 >>> ((1 : Int32).toUInt32 &&& Int32.toUInt32 31)).toInt32) &&& (1431655765 : Int32))) &&& (858993459 : Int32)) + ((((x0 - (((x0.toUInt32 >>> ((1 : Int32).toUInt32 &&& Int32.toUInt32 31)).toInt32) &&& (1431655765 : Int32))).toUInt32 >>> ((2 : Int32).toUInt32 &&& Int32.toUInt32 31)).toInt32) &&& (858993459 : Int32))) + (((((x0 - (((x0.toUInt32 >>> ((1 : Int32).toUInt32 &&& Int32.toUInt32 31)).toInt32) &&& (1431655765 : Int32))) &&& (858993459 : Int32)) + ((((x0 - (((x0.toUInt32 >>> ((1 : Int32).toUInt32 &&& Int32.toUInt32 31)).toInt32) &&& (1431655765 : Int32))).toUInt32 >>> ((2 : Int32).toUInt32 &&& Int32.toUInt32 31)).toInt32) &&& (858993459 : Int32))).toUInt32 >>> ((4 : Int32).toUInt32 &&& Int32.toUInt32 31)).toInt32)) &&& (252645135 : Int32)))]) hx hb dJ6_bitCount_0f7a4_33 rfl hl (by decide) rfl (fun ls hl => ?_)
  refine lv_iload_n hx hb dJ6_bitCount_0f7a4_34 rfl (lv_at hl 0 rfl) ?_
  refine lv_iload_n hx hb dJ6_bitCount_0f7a4_35 rfl (lv_at hl 0 rfl) ?_
  refine lv_bipush (v := (8 : Int32)) hx hb dJ6_bitCount_0f7a4_36 (by decide) ?_
  refine lv_iushr hx hb dJ6_bitCount_0f7a4_38 rfl ?_
  refine lv_iadd hx hb dJ6_bitCount_0f7a4_39 ?_
  refine lv_istore_n (lv' := [(0, .int ((((((x0 - (((x0.toUInt32 >>> ((1 : Int32).toUInt32 &&& Int32.toUInt32 31)).toInt32) &&& (1431655765 : Int32))) &&& (858993459 : Int32)) + ((((x0 - (((x0.toUInt32 >>> ((1 : Int32).toUInt32 &&& Int32.toUInt32 31)).toInt32) &&& (1431655765 : Int32))).toUInt32 >>> ((2 : Int32).toUInt32 &&& Int32.toUInt32 31)).toInt32) &&& (858993459 : Int32))) + (((((x0 - (((x0.toUInt32 >>> ((1 : Int32).toUInt32 &&& Int32.toUInt32 31)).toInt32) &&& (1431655765 : Int32))) &&& (858993459 : Int32)) + ((((x0 - (((x0.toUInt32 >>> ((1 : Int32).toUInt32 &&& Int32.toUInt32 31)).toInt32) &&& (1431655765 : Int32))).toUInt32 >>> ((2 : Int32).toUInt32 &&& Int32.toUInt32 31)).toInt32) &&& (858993459 : Int32))).toUInt32 >>> ((4 : Int32).toUInt32 &&& Int32.toUInt32 31)).toInt32)) &&& (252645135 : Int32)) + (((((((x0 - (((x0.toUInt32 >>> ((1 : Int32).toUInt32 &&& Int32.toUInt32 31)).toInt32) &&& (1431655765 : Int32))) &&& (858993459 : Int32)) + ((((x0 - (((x0.toUInt32 >>> ((1 : Int32).toUInt32 &&& Int32.toUInt32 31)).toInt32) &&& (1431655765 : Int32))).toUInt32 >>> ((2 : Int32).toUInt32 &&& Int32.toUInt32 31)).toInt32) &&& (858993459 : Int32))) + (((((x0 - (((x0.toUInt32 >>> ((1 : Int32).toUInt32 &&& Int32.toUInt32 31)).toInt32) &&& (1431655765 : Int32))) &&& (858993459 : Int32)) + ((((x0 - (((x0.toUInt32 >>> ((1 : Int32).toUInt32 &&& Int32.toUInt32 31)).toInt32) &&& (1431655765 : Int32))).toUInt32 >>> ((2 : Int32).toUInt32 &&& Int32.toUInt32 31)).toInt32) &&& (858993459 : Int32))).toUInt32 >>> ((4 : Int32).toUInt32 &&& Int32.toUInt32 31)).toInt32)) &&& (252645135 : Int32)).toUInt32 >>> ((8 : Int32).toUInt32 &&& Int32.toUInt32 31)).toInt32)))]) hx hb dJ6_bitCount_0f7a4_40 rfl hl (by decide) rfl (fun ls hl => ?_)
  refine lv_iload_n hx hb dJ6_bitCount_0f7a4_41 rfl (lv_at hl 0 rfl) ?_
  refine lv_iload_n hx hb dJ6_bitCount_0f7a4_42 rfl (lv_at hl 0 rfl) ?_
  refine lv_bipush (v := (16 : Int32)) hx hb dJ6_bitCount_0f7a4_43 (by decide) ?_
  refine lv_iushr hx hb dJ6_bitCount_0f7a4_45 rfl ?_
  refine lv_iadd hx hb dJ6_bitCount_0f7a4_46 ?_
  refine lv_istore_n (lv' := [(0, .int (((((((x0 - (((x0.toUInt32 >>> ((1 : Int32).toUInt32 &&& Int32.toUInt32 31)).toInt32) &&& (1431655765 : Int32))) &&& (858993459 : Int32)) + ((((x0 - (((x0.toUInt32 >>> ((1 : Int32).toUInt32 &&& Int32.toUInt32 31)).toInt32) &&& (1431655765 : Int32))).toUInt32 >>> ((2 : Int32).toUInt32 &&& Int32.toUInt32 31)).toInt32) &&& (858993459 : Int32))) + (((((x0 - (((x0.toUInt32 >>> ((1 : Int32).toUInt32 &&& Int32.toUInt32 31)).toInt32) &&& (1431655765 : Int32))) &&& (858993459 : Int32)) + ((((x0 - (((x0.toUInt32 >>> ((1 : Int32).toUInt32 &&& Int32.toUInt32 31)).toInt32) &&& (1431655765 : Int32))).toUInt32 >>> ((2 : Int32).toUInt32 &&& Int32.toUInt32 31)).toInt32) &&& (858993459 : Int32))).toUInt32 >>> ((4 : Int32).toUInt32 &&& Int32.toUInt32 31)).toInt32)) &&& (252645135 : Int32)) + (((((((x0 - (((x0.toUInt32 >>> ((1 : Int32).toUInt32 &&& Int32.toUInt32 31)).toInt32) &&& (1431655765 : Int32))) &&& (858993459 : Int32)) + ((((x0 - (((x0.toUInt32 >>> ((1 : Int32).toUInt32 &&& Int32.toUInt32 31)).toInt32) &&& (1431655765 : Int32))).toUInt32 >>> ((2 : Int32).toUInt32 &&& Int32.toUInt32 31)).toInt32) &&& (858993459 : Int32))) + (((((x0 - (((x0.toUInt32 >>> ((1 : Int32).toUInt32 &&& Int32.toUInt32 31)).toInt32) &&& (1431655765 : Int32))) &&& (858993459 : Int32)) + ((((x0 - (((x0.toUInt32 >>> ((1 : Int32).toUInt32 &&& Int32.toUInt32 31)).toInt32) &&& (1431655765 : Int32))).toUInt32 >>> ((2 : Int32).toUInt32 &&& Int32.toUInt32 31)).toInt32) &&& (858993459 : Int32))).toUInt32 >>> ((4 : Int32).toUInt32 &&& Int32.toUInt32 31)).toInt32)) &&& (252645135 : Int32)).toUInt32 >>> ((8 : Int32).toUInt32 &&& Int32.toUInt32 31)).toInt32)) + ((((((((x0 - (((x0.toUInt32 >>> ((1 : Int32).toUInt32 &&& Int32.toUInt32 31)).toInt32) &&& (1431655765 : Int32))) &&& (858993459 : Int32)) + ((((x0 - (((x0.toUInt32 >>> ((1 : Int32).toUInt32 &&& Int32.toUInt32 31)).toInt32) &&& (1431655765 : Int32))).toUInt32 >>> ((2 : Int32).toUInt32 &&& Int32.toUInt32 31)).toInt32) &&& (858993459 : Int32))) + (((((x0 - (((x0.toUInt32 >>> ((1 : Int32).toUInt32 &&& Int32.toUInt32 31)).toInt32) &&& (1431655765 : Int32))) &&& (858993459 : Int32)) + ((((x0 - (((x0.toUInt32 >>> ((1 : Int32).toUInt32 &&& Int32.toUInt32 31)).toInt32) &&& (1431655765 : Int32))).toUInt32 >>> ((2 : Int32).toUInt32 &&& Int32.toUInt32 31)).toInt32) &&& (858993459 : Int32))).toUInt32 >>> ((4 : Int32).toUInt32 &&& Int32.toUInt32 31)).toInt32)) &&& (252645135 : Int32)) + (((((((x0 - (((x0.toUInt32 >>> ((1 : Int32).toUInt32 &&& Int32.toUInt32 31)).toInt32) &&& (1431655765 : Int32))) &&& (858993459 : Int32)) + ((((x0 - (((x0.toUInt32 >>> ((1 : Int32).toUInt32 &&& Int32.toUInt32 31)).toInt32) &&& (1431655765 : Int32))).toUInt32 >>> ((2 : Int32).toUInt32 &&& Int32.toUInt32 31)).toInt32) &&& (858993459 : Int32))) + (((((x0 - (((x0.toUInt32 >>> ((1 : Int32).toUInt32 &&& Int32.toUInt32 31)).toInt32) &&& (1431655765 : Int32))) &&& (858993459 : Int32)) + ((((x0 - (((x0.toUInt32 >>> ((1 : Int32).toUInt32 &&& Int32.toUInt32 31)).toInt32) &&& (1431655765 : Int32))).toUInt32 >>> ((2 : Int32).toUInt32 &&& Int32.toUInt32 31)).toInt32) &&& (858993459 : Int32))).toUInt32 >>> ((4 : Int32).toUInt32 &&& Int32.toUInt32 31)).toInt32)) &&& (252645135 : Int32)).toUInt32 >>> ((8 : Int32).toUInt32 &&& Int32.toUInt32 31)).toInt32)).toUInt32 >>> ((16 : Int32).toUInt32 &&& Int32.toUInt32 31)).toInt32)))]) hx hb dJ6_bitCount_0f7a4_47 rfl hl (by decide) rfl (fun ls hl => ?_)
  refine lv_iload_n hx hb dJ6_bitCount_0f7a4_48 rfl (lv_at hl 0 rfl) ?_
  refine lv_bipush (v := (63 : Int32)) hx hb dJ6_bitCount_0f7a4_49 (by decide) ?_
  refine lv_iand hx hb dJ6_bitCount_0f7a4_51 ?_
  rw [← h]
  exact rd_iret C hr hlocks dJ6_bitCount_0f7a4_52
