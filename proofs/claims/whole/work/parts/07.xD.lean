def fX7_type_L : Nat → XS → Int64 → Int32 → Int32 → Option (Int32 × XS)
  | 0, _, _, _, _ => none
  | n + 1, S, y1, y3, y4 => (if y4 < 0 then some ((S.1 1), S) else (ob (gd (S.1 1) 250) (fun _ => (fX7_type_L n (pS (pA S 4 (S.1 1) (vp_nar .byte ((((y1.toUInt64 >>> (((8 : Int32) * y4).toInt64.toUInt64 &&& Int64.toUInt64 63)).toInt64).toInt32).toInt8.toInt32))) 1 ((S.1 1) + (1 : Int32))) y1 y3 (y4 + (-1 : Int32))))))
def fX7_type (S : XS) (x1 : Int64) (x3 : Int32) : Option (Int32 × XS) := (if x3 < 0 then some ((-2 : Int32), S) else (if x3 ≤ (8 : Int32) then (if x3 = 0 then some ((0 : Int32), (pS S 1 (0 : Int32))) else (if ((S.1 1) + x3) ≤ (250 : Int32) then (fX7_type_L 10 S x1 x3 (x3 - (1 : Int32))) else some ((-4 : Int32), S))) else some ((-2 : Int32), S)))
set_option maxRecDepth 100000 in
set_option maxHeartbeats 4000000 in
theorem c_X7_type (l : Launch) (D : va_G) (k : Nat → ClassId) (a : Nat → Nat) (S : XS) (x1 : Int64) (x3 : Int32) (u : Int32 × XS) (h : fX7_type S x1 x3 = some u) : Wr (Ek a) l D (tyk k) (wX k a S) (wX k a u.2) yX7_type cX7_type 5 (some .int) (rmm 0 0) [.ref (a 0), .long x1, .int x3] (some (.int u.1)) := by
  refine wr_start (by decide) (Nat.le_of_ble_eq_true rfl) ?_
  intro p e s m below meth c A C hr hlocks hP hD0 hA hE0 ls hl
  have hDA : ∀ S, va_D A (wX k a S) := wX_D hD0
  have hS : va_S A s.heap s.heap [] := va_S.rf
  have hl : lv_has ls 5 [(0, .ref (a 0)), (1, .long x1), (3, .int x3)] := hl
  obtain ⟨⟨hx, hb, hml, hown, hts⟩, hK⟩ := id C
  have L : ∀ n : Nat, ∀ (S : XS) (y1 : Int64) (y3 : Int32) (y4 : Int32) (H : Heap) (locs : List Loc) (ls : Array Slot), va_P D vwCl (wX k a S) H → va_S A s.heap H locs → lv_has ls 5 [(0, .ref (a 0)), (1, .long y1), (3, .int y3), (4, .int y4)] → fX7_type_L n S y1 y3 y4 = some u → W p l e (rmm 0 0) s m ([.ref (a 0), .long x1, .int x3] : List Value).toArray below meth c H locs 0 0 (MQ below (Qw D (wX k a u.2) (some (.int u.1)) A) ([.ref (a 0), .long x1, .int x3] : List Value).toArray s 0 0 A) (F0 m 44 ls []) := by
    intro n
    induction n with
    | zero => intro S y1 y3 y4 H locs ls hP hS hl h; cases h
    | succ n ih =>
      intro S y1 y3 y4 H locs ls hP hS hl h
      rw [fX7_type_L] at h
      refine lv_iload hx hb dX7_type_44 (lv_at hl 3 rfl) ?_
      refine lv_if_lt (tgt := 83) hx hb dX7_type_46 (by decide) (fun c5 => ?_) (fun c5 => ?_)
      · rw [if_pos c5] at h
        refine lv_aload_n hx hb dX7_type_83 rfl (lv_at hl 0 rfl) ?_
        refine gX0_rowSize C hP fl_X7_78 dX7_type_84 (v := (S.1 1)) rfl ?_
        rw [← Option.some.inj h]
        exact wrX_iret C hr hlocks hP hS dX7_type_87
      · rw [if_neg c5] at h
        refine lv_aload_n hx hb dX7_type_49 rfl (lv_at hl 0 rfl) ?_
        refine gX0_row C hP fl_X7_74 dX7_type_50 ?_
        refine lv_aload_n hx hb dX7_type_53 rfl (lv_at hl 0 rfl) ?_
        refine gX0_rowSize C hP fl_X7_78 dX7_type_54 (v := (S.1 1)) rfl ?_
        refine lv_lload_n hx hb dX7_type_57 rfl (lv_at hl 1 rfl) ?_
        refine lv_bipush (v := (8 : Int32)) hx hb dX7_type_58 (by decide) ?_
        refine lv_iload hx hb dX7_type_60 (lv_at hl 3 rfl) ?_
        refine lv_imul hx hb dX7_type_62 ?_
        refine lv_lushr hx hb dX7_type_63 rfl ?_
        refine lv_l2i hx hb dX7_type_64 rfl ?_
        refine lv_i2b hx hb dX7_type_65 rfl ?_
        obtain ⟨_, hg, h⟩ := ob_some h
        refine sX13 C hP (hDA _) hS (gd_in hg) dX7_type_66 (fun H locs hP hS => ?_)
        refine lv_aload_n hx hb dX7_type_67 rfl (lv_at hl 0 rfl) ?_
        refine lv_dup hx hb dX7_type_68 rfl ?_
        refine gX0_rowSize C hP fl_X7_78 dX7_type_69 (v := (S.1 1)) rfl ?_
        refine lv_iconst (v := (1 : Int32)) hx hb dX7_type_72 (by decide) ?_
        refine lv_iadd hx hb dX7_type_73 ?_
        refine pX0_rowSize C hP (hDA _) hS fl_X7_78 dX7_type_74 (fun H locs hP hS => ?_)
        refine lv_iinc (v := (y4 + (-1 : Int32))) (lv' := [(4, .int (y4 + (-1 : Int32))), (0, .ref (a 0)), (1, .long y1), (3, .int y3)]) hx hb dX7_type_77 hl (k := 3) rfl rfl (by decide) rfl (fun ls hl => ?_)
        refine lv_goto (tgt := 44) hx hb dX7_type_80 (by decide) ?_
        exact ih _ _ _ _ _ _ ls hP hS (lv_sub hl [1, 2, 3, 0] rfl) h
  rw [fX7_type] at h
  refine lv_iload_n hx hb dX7_type_0 rfl (lv_at hl 2 rfl) ?_
  refine lv_if_lt (tgt := 10) hx hb dX7_type_1 (by decide) (fun c1 => ?_) (fun c1 => ?_)
  · rw [if_pos c1] at h
    refine lv_bipush (v := (-2 : Int32)) hx hb dX7_type_10 (by decide) ?_
    rw [← Option.some.inj h]
    exact wrX_iret C hr hlocks hP hS dX7_type_12
  · rw [if_neg c1] at h
    refine lv_iload_n hx hb dX7_type_4 rfl (lv_at hl 2 rfl) ?_
    refine lv_bipush (v := (8 : Int32)) hx hb dX7_type_5 (by decide) ?_
    refine lv_icmp_le (tgt := 13) hx hb dX7_type_7 (by decide) (fun c2 => ?_) (fun c2 => ?_)
    · rw [if_pos c2] at h
      refine lv_iload_n hx hb dX7_type_13 rfl (lv_at hl 2 rfl) ?_
      refine lv_if_ne (tgt := 24) hx hb dX7_type_14 (by decide) (fun c3 => ?_) (fun c3 => ?_)
      · rw [if_neg c3] at h
        refine lv_aload_n hx hb dX7_type_24 rfl (lv_at hl 0 rfl) ?_
        refine gX0_rowSize C hP fl_X7_78 dX7_type_25 (v := (S.1 1)) rfl ?_
        refine lv_iload_n hx hb dX7_type_28 rfl (lv_at hl 2 rfl) ?_
        refine lv_iadd hx hb dX7_type_29 ?_
        refine lv_sipush (v := (250 : Int32)) hx hb dX7_type_30 (by decide) ?_
        refine lv_icmp_le (tgt := 39) hx hb dX7_type_33 (by decide) (fun c4 => ?_) (fun c4 => ?_)
        · rw [if_pos c4] at h
          refine lv_iload_n hx hb dX7_type_39 rfl (lv_at hl 2 rfl) ?_
          refine lv_iconst (v := (1 : Int32)) hx hb dX7_type_40 (by decide) ?_
          refine lv_isub hx hb dX7_type_41 ?_
          refine lv_istore (lv' := [(4, .int (x3 - (1 : Int32))), (0, .ref (a 0)), (1, .long x1), (3, .int x3)]) hx hb dX7_type_42 hl (by decide) rfl (fun ls hl => ?_)
          exact L 10 _ _ _ _ _ _ ls hP hS (lv_sub hl [1, 2, 3, 0] rfl) h
        · rw [if_neg c4] at h
          refine lv_bipush (v := (-4 : Int32)) hx hb dX7_type_36 (by decide) ?_
          rw [← Option.some.inj h]
          exact wrX_iret C hr hlocks hP hS dX7_type_38
      · rw [if_pos c3] at h
        refine lv_aload_n hx hb dX7_type_17 rfl (lv_at hl 0 rfl) ?_
        refine lv_iconst (v := (0 : Int32)) hx hb dX7_type_18 (by decide) ?_
        refine pX0_rowSize C hP (hDA _) hS fl_X7_78 dX7_type_19 (fun H locs hP hS => ?_)
        refine lv_iconst (v := (0 : Int32)) hx hb dX7_type_22 (by decide) ?_
        rw [← Option.some.inj h]
        exact wrX_iret C hr hlocks hP hS dX7_type_23
    · rw [if_neg c2] at h
      refine lv_bipush (v := (-2 : Int32)) hx hb dX7_type_10 (by decide) ?_
      rw [← Option.some.inj h]
      exact wrX_iret C hr hlocks hP hS dX7_type_12
def fX7_object_L : Nat → XS → Int32 → Option (Int32 × XS)
  | 0, _, _ => none
  | n + 1, S, y1 => (if (S.1 1) ≤ y1 then (ob (fX0_add S (S.1 2)) (fun u4 => some ((fX0_size (pS (pS u4 2 ((u4.1 2) + (u4.1 1))) 1 (0 : Int32))), (pS (pS u4 2 ((u4.1 2) + (u4.1 1))) 1 (0 : Int32))))) else (ob (gd y1 250) (fun _ => (fX7_object_L n (fX2_set S ((S.1 2) + y1) (S.2 4 y1.toNatClampNeg)) (y1 + (1 : Int32))))))
def fX7_object (S : XS)  : Option (Int32 × XS) := (if (bI (fX0_isFull S)) = 0 then (if ((S.1 2) + (S.1 1)) ≤ (4096 : Int32) then (fX7_object_L 252 S (0 : Int32)) else some ((-4 : Int32), S)) else some ((-4 : Int32), S))
set_option maxRecDepth 100000 in
set_option maxHeartbeats 4000000 in
theorem c_X7_object (l : Launch) (D : va_G) (k : Nat → ClassId) (a : Nat → Nat) (S : XS)  (u : Int32 × XS) (h : fX7_object S = some u) : Wr (Ek a) l D (tyk k) (wX k a S) (wX k a u.2) yX7_object cX7_object 2 (some .int) (rmm 3 67) [.ref (a 0)] (some (.int u.1)) := by
  refine wr_start (by decide) (Nat.le_of_ble_eq_true rfl) ?_
  intro p e s m below meth c A C hr hlocks hP hD0 hA hE0 ls hl
  have hDA : ∀ S, va_D A (wX k a S) := wX_D hD0
  have hS : va_S A s.heap s.heap [] := va_S.rf
  have hl : lv_has ls 2 [(0, .ref (a 0))] := hl
  obtain ⟨⟨hx, hb, hml, hown, hts⟩, hK⟩ := id C
  have L : ∀ n : Nat, ∀ (S : XS) (y1 : Int32) (H : Heap) (locs : List Loc) (ls : Array Slot), va_P D vwCl (wX k a S) H → va_S A s.heap H locs → lv_has ls 2 [(0, .ref (a 0)), (1, .int y1)] → fX7_object_L n S y1 = some u → W p l e (rmm 3 67) s m ([.ref (a 0)] : List Value).toArray below meth c H locs 0 0 (MQ below (Qw D (wX k a u.2) (some (.int u.1)) A) ([.ref (a 0)] : List Value).toArray s 0 0 A) (F0 m 30 ls []) := by
    intro n
    induction n with
    | zero => intro S y1 H locs ls hP hS hl h; cases h
    | succ n ih =>
      intro S y1 H locs ls hP hS hl h
      rw [fX7_object_L] at h
      refine lv_iload_n hx hb dX7_object_30 rfl (lv_at hl 1 rfl) ?_
      refine lv_aload_n hx hb dX7_object_31 rfl (lv_at hl 0 rfl) ?_
      refine gX0_rowSize C hP fl_X7_78 dX7_object_32 (v := (S.1 1)) rfl ?_
      refine lv_icmp_ge (tgt := 63) hx hb dX7_object_35 (by decide) (fun c3 => ?_) (fun c3 => ?_)
      · rw [if_pos c3] at h
        refine lv_aload_n hx hb dX7_object_63 rfl (lv_at hl 0 rfl) ?_
        refine gX0_entries C hP fl_X7_34 dX7_object_64 ?_
        refine lv_aload_n hx hb dX7_object_67 rfl (lv_at hl 0 rfl) ?_
        refine gX0_top C hP fl_X7_81 dX7_object_68 (v := (S.1 2)) rfl ?_
        obtain ⟨u4, hhu4, h⟩ := ob_some h
        refine wrV (Ek_est a) C hP (hDA _) hA hS hE0 (c_X0_add l D k a _ (S.1 2) u4 hhu4) my_X0_add ml_X7_96 (rX3 C hP) rfl hl.1 (rest := []) rfl (Nat.le_of_ble_eq_true rfl) ⟨rfl, rfl, Nat.le_of_ble_eq_true rfl, Nat.le_of_ble_eq_true rfl⟩ ⟨Nat.zero_le _, Nat.zero_le _⟩ dX7_object_71 (fun H locs hP hS _ _ => ?_)
        refine lv_aload_n hx hb dX7_object_74 rfl (lv_at hl 0 rfl) ?_
        refine lv_dup hx hb dX7_object_75 rfl ?_
        refine gX0_top C hP fl_X7_81 dX7_object_76 (v := (u4.1 2)) rfl ?_
        refine lv_aload_n hx hb dX7_object_79 rfl (lv_at hl 0 rfl) ?_
        refine gX0_rowSize C hP fl_X7_78 dX7_object_80 (v := (u4.1 1)) rfl ?_
        refine lv_iadd hx hb dX7_object_83 ?_
        refine pX0_top C hP (hDA _) hS fl_X7_81 dX7_object_84 (fun H locs hP hS => ?_)
        refine lv_aload_n hx hb dX7_object_87 rfl (lv_at hl 0 rfl) ?_
        refine lv_iconst (v := (0 : Int32)) hx hb dX7_object_88 (by decide) ?_
        refine pX0_rowSize C hP (hDA _) hS fl_X7_78 dX7_object_89 (fun H locs hP hS => ?_)
        refine lv_aload_n hx hb dX7_object_92 rfl (lv_at hl 0 rfl) ?_
        refine gX0_entries C hP fl_X7_34 dX7_object_93 ?_
        refine rdV (Ek_est a) C hP (ef (Ek_est a) hS hE0) (c_X0_size l D k a _ ) my_X0_size ml_X7_100 (rX3 C hP) rfl hl.1 (rest := []) rfl (Nat.le_of_ble_eq_true rfl) ⟨rfl, rfl, Nat.le_of_ble_eq_true rfl, Nat.le_of_ble_eq_true rfl⟩ ⟨Nat.zero_le _, Nat.zero_le _⟩ dX7_object_96 ?_
        rw [← Option.some.inj h]
        exact wrX_iret C hr hlocks hP hS dX7_object_99
      · rw [if_neg c3] at h
        refine lv_aload_n hx hb dX7_object_38 rfl (lv_at hl 0 rfl) ?_
        refine gX0_memory C hP fl_X7_19 dX7_object_39 ?_
        refine lv_aload_n hx hb dX7_object_42 rfl (lv_at hl 0 rfl) ?_
        refine gX0_top C hP fl_X7_81 dX7_object_43 (v := (S.1 2)) rfl ?_
        refine lv_iload_n hx hb dX7_object_46 rfl (lv_at hl 1 rfl) ?_
        refine lv_iadd hx hb dX7_object_47 ?_
        refine lv_aload_n hx hb dX7_object_48 rfl (lv_at hl 0 rfl) ?_
        refine gX0_row C hP fl_X7_74 dX7_object_49 ?_
        refine lv_iload_n hx hb dX7_object_52 rfl (lv_at hl 1 rfl) ?_
        obtain ⟨_, hg, h⟩ := ob_some h
        refine aX13 C hP (gd_in hg) dX7_object_53 (v := (S.2 4 y1.toNatClampNeg)) rfl ?_
        refine wrV (Ek_est a) C hP (hDA _) hA hS hE0 (c_X2_set l D k a _ ((S.1 2) + y1) (S.2 4 y1.toNatClampNeg)) my_X2_set ml_X7_92 (rX1 C hP) rfl hl.1 (rest := []) rfl (Nat.le_of_ble_eq_true rfl) ⟨rfl, rfl, Nat.le_of_ble_eq_true rfl, Nat.le_of_ble_eq_true rfl⟩ ⟨Nat.zero_le _, Nat.zero_le _⟩ dX7_object_54 (fun H locs hP hS _ _ => ?_)
        refine lv_iinc (v := (y1 + (1 : Int32))) (lv' := [(1, .int (y1 + (1 : Int32))), (0, .ref (a 0))]) hx hb dX7_object_57 hl (k := 1) rfl rfl (by decide) rfl (fun ls hl => ?_)
        refine lv_goto (tgt := 30) hx hb dX7_object_60 (by decide) ?_
        exact ih _ _ _ _ ls hP hS (lv_sub hl [1, 0] rfl) h
  rw [fX7_object] at h
  refine lv_aload_n hx hb dX7_object_0 rfl (lv_at hl 0 rfl) ?_
  refine gX0_entries C hP fl_X7_34 dX7_object_1 ?_
  refine rdV (Ek_est a) C hP (ef (Ek_est a) hS hE0) (c_X0_isFull l D k a _ ) my_X0_isFull ml_X7_88 (rX3 C hP) rfl hl.1 (rest := []) rfl (Nat.le_of_ble_eq_true rfl) ⟨rfl, rfl, Nat.le_of_ble_eq_true rfl, Nat.le_of_ble_eq_true rfl⟩ ⟨Nat.zero_le _, Nat.zero_le _⟩ dX7_object_4 ?_
  refine lv_if_ne (tgt := 25) hx hb dX7_object_7 (by decide) (fun c1 => ?_) (fun c1 => ?_)
  · rw [if_neg c1] at h
    refine lv_bipush (v := (-4 : Int32)) hx hb dX7_object_25 (by decide) ?_
    rw [← Option.some.inj h]
    exact wrX_iret C hr hlocks hP hS dX7_object_27
  · rw [if_pos c1] at h
    refine lv_aload_n hx hb dX7_object_10 rfl (lv_at hl 0 rfl) ?_
    refine gX0_top C hP fl_X7_81 dX7_object_11 (v := (S.1 2)) rfl ?_
    refine lv_aload_n hx hb dX7_object_14 rfl (lv_at hl 0 rfl) ?_
    refine gX0_rowSize C hP fl_X7_78 dX7_object_15 (v := (S.1 1)) rfl ?_
    refine lv_iadd hx hb dX7_object_18 ?_
    refine lv_sipush (v := (4096 : Int32)) hx hb dX7_object_19 (by decide) ?_
    refine lv_icmp_le (tgt := 28) hx hb dX7_object_22 (by decide) (fun c2 => ?_) (fun c2 => ?_)
    · rw [if_pos c2] at h
      refine lv_iconst (v := (0 : Int32)) hx hb dX7_object_28 (by decide) ?_
      refine lv_istore_n (lv' := [(1, .int (0 : Int32)), (0, .ref (a 0))]) hx hb dX7_object_29 rfl hl (by decide) rfl (fun ls hl => ?_)
      exact L 252 _ _ _ _ ls hP hS (lv_sub hl [1, 0] rfl) h
    · rw [if_neg c2] at h
      refine lv_bipush (v := (-4 : Int32)) hx hb dX7_object_25 (by decide) ?_
      rw [← Option.some.inj h]
      exact wrX_iret C hr hlocks hP hS dX7_object_27
def fX7_count (S : XS)  : Int32 := (fX0_size S)
set_option maxRecDepth 100000 in
set_option maxHeartbeats 4000000 in
theorem c_X7_count (l : Launch) (D : va_G) (k : Nat → ClassId) (a : Nat → Nat) (S : XS)  : Rd (Ek a) l D (tyk k) (wX k a S) yX7_count cX7_count 1 (some .int) (rmm 1 20) [.ref (a 0)] (fX7_count S) := by
  generalize h : fX7_count S = u
  refine rd_start (by decide) (Nat.le_of_ble_eq_true rfl) ?_
  intro p e s m below meth c C hr hlocks hP hE0 ls hl
  have hl : lv_has ls 1 [(0, .ref (a 0))] := hl
  obtain ⟨⟨hx, hb, hml, hown, hts⟩, hK⟩ := id C
  rw [fX7_count] at h
  refine lv_aload_n hx hb dX7_count_0 rfl (lv_at hl 0 rfl) ?_
  refine gX0_entries C hP fl_X7_34 dX7_count_1 ?_
  refine rdV (Ek_est a) C hP hE0 (c_X0_size l D k a _ ) my_X0_size ml_X7_100 (rX3 C hP) rfl hl.1 (rest := []) rfl (Nat.le_of_ble_eq_true rfl) ⟨rfl, rfl, Nat.le_of_ble_eq_true rfl, Nat.le_of_ble_eq_true rfl⟩ ⟨Nat.zero_le _, Nat.zero_le _⟩ dX7_count_4 ?_
  rw [← h]
  exact rd_iret C hr hlocks dX7_count_7
def fX7_peek (S : XS) (x1 : Int32) : Int32 := (if (bI (fX2_has S x1)) = 0 then (-2 : Int32) else (fX2_get S x1))
set_option maxRecDepth 100000 in
set_option maxHeartbeats 4000000 in
theorem c_X7_peek (l : Launch) (D : va_G) (k : Nat → ClassId) (a : Nat → Nat) (S : XS) (x1 : Int32) : Rd (Ek a) l D (tyk k) (wX k a S) yX7_peek cX7_peek 2 (some .int) (rmm 1 21) [.ref (a 0), .int x1] (fX7_peek S x1) := by
  generalize h : fX7_peek S x1 = u
  refine rd_start (by decide) (Nat.le_of_ble_eq_true rfl) ?_
  intro p e s m below meth c C hr hlocks hP hE0 ls hl
  have hl : lv_has ls 2 [(0, .ref (a 0)), (1, .int x1)] := hl
  obtain ⟨⟨hx, hb, hml, hown, hts⟩, hK⟩ := id C
  rw [fX7_peek] at h
  refine lv_aload_n hx hb dX7_peek_0 rfl (lv_at hl 0 rfl) ?_
  refine gX0_memory C hP fl_X7_19 dX7_peek_1 ?_
  refine lv_iload_n hx hb dX7_peek_4 rfl (lv_at hl 1 rfl) ?_
  refine rdV (Ek_est a) C hP hE0 (c_X2_has l D k a _ x1) my_X2_has ml_X7_104 (rX1 C hP) rfl hl.1 (rest := []) rfl (Nat.le_of_ble_eq_true rfl) ⟨rfl, rfl, Nat.le_of_ble_eq_true rfl, Nat.le_of_ble_eq_true rfl⟩ ⟨Nat.zero_le _, Nat.zero_le _⟩ dX7_peek_5 ?_
  refine lv_if_eq (tgt := 22) hx hb dX7_peek_8 (by decide) (fun c1 => ?_) (fun c1 => ?_)
  · rw [if_pos c1] at h
    refine lv_bipush (v := (-2 : Int32)) hx hb dX7_peek_22 (by decide) ?_
    rw [← h]
    exact rd_iret C hr hlocks dX7_peek_24
  · rw [if_neg c1] at h
    refine lv_aload_n hx hb dX7_peek_11 rfl (lv_at hl 0 rfl) ?_
    refine gX0_memory C hP fl_X7_19 dX7_peek_12 ?_
    refine lv_iload_n hx hb dX7_peek_15 rfl (lv_at hl 1 rfl) ?_
    refine rdV (Ek_est a) C hP hE0 (c_X2_get l D k a _ x1) my_X2_get ml_X7_108 (rX1 C hP) rfl hl.1 (rest := []) rfl (Nat.le_of_ble_eq_true rfl) ⟨rfl, rfl, Nat.le_of_ble_eq_true rfl, Nat.le_of_ble_eq_true rfl⟩ ⟨Nat.zero_le _, Nat.zero_le _⟩ dX7_peek_16 ?_
    refine lv_goto (tgt := 24) hx hb dX7_peek_19 (by decide) ?_
    rw [← h]
    exact rd_iret C hr hlocks dX7_peek_24
def fX7_poke (S : XS) (x1 : Int32) (x2 : Int32) : Int32 × XS := (if (bI (fX2_has S x1)) = 0 then ((-2 : Int32), S) else ((fX2_get S x1), (fX2_set S x1 x2)))
set_option maxRecDepth 100000 in
set_option maxHeartbeats 4000000 in
theorem c_X7_poke (l : Launch) (D : va_G) (k : Nat → ClassId) (a : Nat → Nat) (S : XS) (x1 : Int32) (x2 : Int32) : Wr (Ek a) l D (tyk k) (wX k a S) (wX k a (fX7_poke S x1 x2).2) yX7_poke cX7_poke 4 (some .int) (rmm 1 22) [.ref (a 0), .int x1, .int x2] (some (.int (fX7_poke S x1 x2).1)) := by
  generalize h : fX7_poke S x1 x2 = u
  refine wr_start (by decide) (Nat.le_of_ble_eq_true rfl) ?_
  intro p e s m below meth c A C hr hlocks hP hD0 hA hE0 ls hl
  have hDA : ∀ S, va_D A (wX k a S) := wX_D hD0
  have hS : va_S A s.heap s.heap [] := va_S.rf
  have hl : lv_has ls 4 [(0, .ref (a 0)), (1, .int x1), (2, .int x2)] := hl
  obtain ⟨⟨hx, hb, hml, hown, hts⟩, hK⟩ := id C
  rw [fX7_poke] at h
  refine lv_aload_n hx hb dX7_poke_0 rfl (lv_at hl 0 rfl) ?_
  refine gX0_memory C hP fl_X7_19 dX7_poke_1 ?_
  refine lv_iload_n hx hb dX7_poke_4 rfl (lv_at hl 1 rfl) ?_
  refine rdV (Ek_est a) C hP (ef (Ek_est a) hS hE0) (c_X2_has l D k a _ x1) my_X2_has ml_X7_104 (rX1 C hP) rfl hl.1 (rest := []) rfl (Nat.le_of_ble_eq_true rfl) ⟨rfl, rfl, Nat.le_of_ble_eq_true rfl, Nat.le_of_ble_eq_true rfl⟩ ⟨Nat.zero_le _, Nat.zero_le _⟩ dX7_poke_5 ?_
  refine lv_if_ne (tgt := 14) hx hb dX7_poke_8 (by decide) (fun c1 => ?_) (fun c1 => ?_)
  · rw [if_neg c1] at h
    refine lv_aload_n hx hb dX7_poke_14 rfl (lv_at hl 0 rfl) ?_
    refine gX0_memory C hP fl_X7_19 dX7_poke_15 ?_
    refine lv_iload_n hx hb dX7_poke_18 rfl (lv_at hl 1 rfl) ?_
    refine rdV (Ek_est a) C hP (ef (Ek_est a) hS hE0) (c_X2_get l D k a _ x1) my_X2_get ml_X7_108 (rX1 C hP) rfl hl.1 (rest := []) rfl (Nat.le_of_ble_eq_true rfl) ⟨rfl, rfl, Nat.le_of_ble_eq_true rfl, Nat.le_of_ble_eq_true rfl⟩ ⟨Nat.zero_le _, Nat.zero_le _⟩ dX7_poke_19 ?_
    refine lv_istore_n (lv' := [(3, .int (fX2_get S x1)), (0, .ref (a 0)), (1, .int x1), (2, .int x2)]) hx hb dX7_poke_22 rfl hl (by decide) rfl (fun ls hl => ?_)
    refine lv_aload_n hx hb dX7_poke_23 rfl (lv_at hl 1 rfl) ?_
    refine gX0_memory C hP fl_X7_19 dX7_poke_24 ?_
    refine lv_iload_n hx hb dX7_poke_27 rfl (lv_at hl 2 rfl) ?_
    refine lv_iload_n hx hb dX7_poke_28 rfl (lv_at hl 3 rfl) ?_
    refine wrV (Ek_est a) C hP (hDA _) hA hS hE0 (c_X2_set l D k a _ x1 x2) my_X2_set ml_X7_92 (rX1 C hP) rfl hl.1 (rest := []) rfl (Nat.le_of_ble_eq_true rfl) ⟨rfl, rfl, Nat.le_of_ble_eq_true rfl, Nat.le_of_ble_eq_true rfl⟩ ⟨Nat.zero_le _, Nat.zero_le _⟩ dX7_poke_29 (fun H locs hP hS _ _ => ?_)
    refine lv_iload_n hx hb dX7_poke_32 rfl (lv_at hl 0 rfl) ?_
    rw [← h]
    exact wrX_iret C hr hlocks hP hS dX7_poke_33
  · rw [if_pos c1] at h
    refine lv_bipush (v := (-2 : Int32)) hx hb dX7_poke_11 (by decide) ?_
    rw [← h]
    exact wrX_iret C hr hlocks hP hS dX7_poke_13
def fX7_strict (S : XS) (x1 : Bool) : Option (Int32 × XS) := (ob (gz (S.1 3)) (fun _ => some ((S.1 3), (pS S 3 (bI x1)))))
set_option maxRecDepth 100000 in
set_option maxHeartbeats 4000000 in
theorem c_X7_strict (l : Launch) (D : va_G) (k : Nat → ClassId) (a : Nat → Nat) (S : XS) (x1 : Bool) (u : Int32 × XS) (h : fX7_strict S x1 = some u) : Wr (Ek a) l D (tyk k) (wX k a S) (wX k a u.2) yX7_strict cX7_strict 3 (some .boolean) (rmm 0 0) [.ref (a 0), .int (bI x1)] (some (.int u.1)) := by
  refine wr_start (by decide) (Nat.le_of_ble_eq_true rfl) ?_
  intro p e s m below meth c A C hr hlocks hP hD0 hA hE0 ls hl
  have hDA : ∀ S, va_D A (wX k a S) := wX_D hD0
  have hS : va_S A s.heap s.heap [] := va_S.rf
  have hl : lv_has ls 3 [(0, .ref (a 0)), (1, .int (bI x1))] := hl
  obtain ⟨⟨hx, hb, hml, hown, hts⟩, hK⟩ := id C
  rw [fX7_strict] at h
  refine lv_aload_n hx hb dX7_strict_0 rfl (lv_at hl 0 rfl) ?_
  refine gX0_isStrict C hP fl_X7_84 dX7_strict_1 (v := (S.1 3)) rfl ?_
  refine lv_istore_n (lv' := [(2, .int (S.1 3)), (0, .ref (a 0)), (1, .int (bI x1))]) hx hb dX7_strict_4 rfl hl (by decide) rfl (fun ls hl => ?_)
  refine lv_aload_n hx hb dX7_strict_5 rfl (lv_at hl 1 rfl) ?_
  refine lv_iload_n hx hb dX7_strict_6 rfl (lv_at hl 2 rfl) ?_
  refine pX0_isStrict (v := x1) C hP (hDA _) hS fl_X7_84 dX7_strict_7 (fun H locs hP hS => ?_)
  refine lv_iload_n hx hb dX7_strict_10 rfl (lv_at hl 0 rfl) ?_
  obtain ⟨_, hz, h⟩ := ob_some h
  rw [← Option.some.inj h]
  exact wrX_gret hz C hr hlocks hP hS dX7_strict_11
def fX7_linkOf (S : XS) (x1 : Int32) (x2 : Int32) : Int32 := (if x1 = 0 then (0 : Int32) else (if (bI (fX0_has S x1)) = 0 then (-1 : Int32) else (fX0_link S x1 x2)))
set_option maxRecDepth 100000 in
set_option maxHeartbeats 4000000 in
theorem c_X7_linkOf (l : Launch) (D : va_G) (k : Nat → ClassId) (a : Nat → Nat) (S : XS) (x1 : Int32) (x2 : Int32) : Rd (Ek a) l D (tyk k) (wX k a S) yX7_linkOf cX7_linkOf 3 (some .int) (rmm 3 66) [.ref (a 0), .int x1, .int x2] (fX7_linkOf S x1 x2) := by
  generalize h : fX7_linkOf S x1 x2 = u
  refine rd_start (by decide) (Nat.le_of_ble_eq_true rfl) ?_
  intro p e s m below meth c C hr hlocks hP hE0 ls hl
  have hl : lv_has ls 3 [(0, .ref (a 0)), (1, .int x1), (2, .int x2)] := hl
  obtain ⟨⟨hx, hb, hml, hown, hts⟩, hK⟩ := id C
  rw [fX7_linkOf] at h
  refine lv_iload_n hx hb dX7_linkOf_0 rfl (lv_at hl 1 rfl) ?_
  refine lv_if_ne (tgt := 6) hx hb dX7_linkOf_1 (by decide) (fun c1 => ?_) (fun c1 => ?_)
  · rw [if_neg c1] at h
    refine lv_aload_n hx hb dX7_linkOf_6 rfl (lv_at hl 0 rfl) ?_
    refine gX0_entries C hP fl_X7_34 dX7_linkOf_7 ?_
    refine lv_iload_n hx hb dX7_linkOf_10 rfl (lv_at hl 1 rfl) ?_
    refine rdV (Ek_est a) C hP hE0 (c_X0_has l D k a _ x1) my_X0_has ml_X7_115 (rX3 C hP) rfl hl.1 (rest := []) rfl (Nat.le_of_ble_eq_true rfl) ⟨rfl, rfl, Nat.le_of_ble_eq_true rfl, Nat.le_of_ble_eq_true rfl⟩ ⟨Nat.zero_le _, Nat.zero_le _⟩ dX7_linkOf_11 ?_
    refine lv_if_eq (tgt := 29) hx hb dX7_linkOf_14 (by decide) (fun c2 => ?_) (fun c2 => ?_)
    · rw [if_pos c2] at h
      refine lv_iconst (v := (-1 : Int32)) hx hb dX7_linkOf_29 (by decide) ?_
      rw [← h]
      exact rd_iret C hr hlocks dX7_linkOf_30
    · rw [if_neg c2] at h
      refine lv_aload_n hx hb dX7_linkOf_17 rfl (lv_at hl 0 rfl) ?_
      refine gX0_entries C hP fl_X7_34 dX7_linkOf_18 ?_
      refine lv_iload_n hx hb dX7_linkOf_21 rfl (lv_at hl 1 rfl) ?_
      refine lv_iload_n hx hb dX7_linkOf_22 rfl (lv_at hl 2 rfl) ?_
      refine rdV (Ek_est a) C hP hE0 (c_X0_link l D k a _ x1 x2) my_X0_link ml_X7_194 (rX3 C hP) rfl hl.1 (rest := []) rfl (Nat.le_of_ble_eq_true rfl) ⟨rfl, rfl, Nat.le_of_ble_eq_true rfl, Nat.le_of_ble_eq_true rfl⟩ ⟨Nat.zero_le _, Nat.zero_le _⟩ dX7_linkOf_23 ?_
      refine lv_goto (tgt := 30) hx hb dX7_linkOf_26 (by decide) ?_
      rw [← h]
      exact rd_iret C hr hlocks dX7_linkOf_30
  · rw [if_pos c1] at h
    refine lv_iconst (v := (0 : Int32)) hx hb dX7_linkOf_4 (by decide) ?_
    rw [← h]
    exact rd_iret C hr hlocks dX7_linkOf_5
def fX7_parent (S : XS) (x1 : Int32) : Int32 := (fX7_linkOf S x1 (0 : Int32))
set_option maxRecDepth 100000 in
set_option maxHeartbeats 4000000 in
theorem c_X7_parent (l : Launch) (D : va_G) (k : Nat → ClassId) (a : Nat → Nat) (S : XS) (x1 : Int32) : Rd (Ek a) l D (tyk k) (wX k a S) yX7_parent cX7_parent 2 (some .int) (rmm 4 88) [.ref (a 0), .int x1] (fX7_parent S x1) := by
  generalize h : fX7_parent S x1 = u
  refine rd_start (by decide) (Nat.le_of_ble_eq_true rfl) ?_
  intro p e s m below meth c C hr hlocks hP hE0 ls hl
  have hl : lv_has ls 2 [(0, .ref (a 0)), (1, .int x1)] := hl
  obtain ⟨⟨hx, hb, hml, hown, hts⟩, hK⟩ := id C
  rw [fX7_parent] at h
  refine lv_aload_n hx hb dX7_parent_0 rfl (lv_at hl 0 rfl) ?_
  refine lv_iload_n hx hb dX7_parent_1 rfl (lv_at hl 1 rfl) ?_
  refine lv_iconst (v := (0 : Int32)) hx hb dX7_parent_2 (by decide) ?_
  refine rdV (Ek_est a) C hP hE0 (c_X7_linkOf l D k a _ x1 (0 : Int32)) my_X7_linkOf ml_X7_112 (rX0 C hP) rfl hl.1 (rest := []) rfl (Nat.le_of_ble_eq_true rfl) ⟨rfl, rfl, Nat.le_of_ble_eq_true rfl, Nat.le_of_ble_eq_true rfl⟩ ⟨Nat.zero_le _, Nat.zero_le _⟩ dX7_parent_3 ?_
  rw [← h]
  exact rd_iret C hr hlocks dX7_parent_6
def fX7_child (S : XS) (x1 : Int32) : Int32 := (fX7_linkOf S x1 (2 : Int32))
set_option maxRecDepth 100000 in
set_option maxHeartbeats 4000000 in
theorem c_X7_child (l : Launch) (D : va_G) (k : Nat → ClassId) (a : Nat → Nat) (S : XS) (x1 : Int32) : Rd (Ek a) l D (tyk k) (wX k a S) yX7_child cX7_child 2 (some .int) (rmm 4 88) [.ref (a 0), .int x1] (fX7_child S x1) := by
  generalize h : fX7_child S x1 = u
  refine rd_start (by decide) (Nat.le_of_ble_eq_true rfl) ?_
  intro p e s m below meth c C hr hlocks hP hE0 ls hl
  have hl : lv_has ls 2 [(0, .ref (a 0)), (1, .int x1)] := hl
  obtain ⟨⟨hx, hb, hml, hown, hts⟩, hK⟩ := id C
  rw [fX7_child] at h
  refine lv_aload_n hx hb dX7_child_0 rfl (lv_at hl 0 rfl) ?_
  refine lv_iload_n hx hb dX7_child_1 rfl (lv_at hl 1 rfl) ?_
  refine lv_iconst (v := (2 : Int32)) hx hb dX7_child_2 (by decide) ?_
  refine rdV (Ek_est a) C hP hE0 (c_X7_linkOf l D k a _ x1 (2 : Int32)) my_X7_linkOf ml_X7_112 (rX0 C hP) rfl hl.1 (rest := []) rfl (Nat.le_of_ble_eq_true rfl) ⟨rfl, rfl, Nat.le_of_ble_eq_true rfl, Nat.le_of_ble_eq_true rfl⟩ ⟨Nat.zero_le _, Nat.zero_le _⟩ dX7_child_3 ?_
  rw [← h]
  exact rd_iret C hr hlocks dX7_child_6
def fX7_sibling (S : XS) (x1 : Int32) : Int32 := (fX7_linkOf S x1 (1 : Int32))
set_option maxRecDepth 100000 in
set_option maxHeartbeats 4000000 in
theorem c_X7_sibling (l : Launch) (D : va_G) (k : Nat → ClassId) (a : Nat → Nat) (S : XS) (x1 : Int32) : Rd (Ek a) l D (tyk k) (wX k a S) yX7_sibling cX7_sibling 2 (some .int) (rmm 4 88) [.ref (a 0), .int x1] (fX7_sibling S x1) := by
  generalize h : fX7_sibling S x1 = u
  refine rd_start (by decide) (Nat.le_of_ble_eq_true rfl) ?_
  intro p e s m below meth c C hr hlocks hP hE0 ls hl
  have hl : lv_has ls 2 [(0, .ref (a 0)), (1, .int x1)] := hl
  obtain ⟨⟨hx, hb, hml, hown, hts⟩, hK⟩ := id C
  rw [fX7_sibling] at h
  refine lv_aload_n hx hb dX7_sibling_0 rfl (lv_at hl 0 rfl) ?_
  refine lv_iload_n hx hb dX7_sibling_1 rfl (lv_at hl 1 rfl) ?_
  refine lv_iconst (v := (1 : Int32)) hx hb dX7_sibling_2 (by decide) ?_
  refine rdV (Ek_est a) C hP hE0 (c_X7_linkOf l D k a _ x1 (1 : Int32)) my_X7_linkOf ml_X7_112 (rX0 C hP) rfl hl.1 (rest := []) rfl (Nat.le_of_ble_eq_true rfl) ⟨rfl, rfl, Nat.le_of_ble_eq_true rfl, Nat.le_of_ble_eq_true rfl⟩ ⟨Nat.zero_le _, Nat.zero_le _⟩ dX7_sibling_3 ?_
  rw [← h]
  exact rd_iret C hr hlocks dX7_sibling_6
def fX7_move (S : XS) (x1 : Int32) (x2 : Int32) : Option (Int32 × XS) := (if (bI (fX0_has S x1)) = 0 then some ((-1 : Int32), S) else (if (bI (fX0_has S x2)) = 0 then some ((-1 : Int32), S) else (if (S.1 3) = 0 then (ob (fX6_canLeave S x1) (fun u5 => (if (bI u5) = 0 then some ((-3 : Int32), S) else (ob (fX6_leave S x1) (fun u7 => some ((1 : Int32), (fX6_enter u7 x1 x2))))))) else (ob (fX0_comesTo S x2 (0 : Int32) x1) (fun u8 => (if (bI u8) = 0 then (ob (fX6_canLeave S x1) (fun u11 => (if (bI u11) = 0 then some ((-3 : Int32), S) else (ob (fX6_leave S x1) (fun u13 => some ((1 : Int32), (fX6_enter u13 x1 x2))))))) else some ((-3 : Int32), S)))))))
set_option maxRecDepth 100000 in
set_option maxHeartbeats 4000000 in
theorem c_X7_move (l : Launch) (D : va_G) (k : Nat → ClassId) (a : Nat → Nat) (S : XS) (x1 : Int32) (x2 : Int32) (u : Int32 × XS) (h : fX7_move S x1 x2 = some u) : Wr (Ek a) l D (tyk k) (wX k a S) (wX k a u.2) yX7_move cX7_move 4 (some .int) (rmm 6 135) [.ref (a 0), .int x1, .int x2] (some (.int u.1)) := by
  refine wr_start (by decide) (Nat.le_of_ble_eq_true rfl) ?_
  intro p e s m below meth c A C hr hlocks hP hD0 hA hE0 ls hl
  have hDA : ∀ S, va_D A (wX k a S) := wX_D hD0
  have hS : va_S A s.heap s.heap [] := va_S.rf
  have hl : lv_has ls 4 [(0, .ref (a 0)), (1, .int x1), (2, .int x2)] := hl
  obtain ⟨⟨hx, hb, hml, hown, hts⟩, hK⟩ := id C
  rw [fX7_move] at h
  refine lv_aload_n hx hb dX7_move_0 rfl (lv_at hl 0 rfl) ?_
  refine gX0_entries C hP fl_X7_34 dX7_move_1 ?_
  refine lv_iload_n hx hb dX7_move_4 rfl (lv_at hl 1 rfl) ?_
  refine rdV (Ek_est a) C hP (ef (Ek_est a) hS hE0) (c_X0_has l D k a _ x1) my_X0_has ml_X7_115 (rX3 C hP) rfl hl.1 (rest := []) rfl (Nat.le_of_ble_eq_true rfl) ⟨rfl, rfl, Nat.le_of_ble_eq_true rfl, Nat.le_of_ble_eq_true rfl⟩ ⟨Nat.zero_le _, Nat.zero_le _⟩ dX7_move_5 ?_
  refine lv_if_eq (tgt := 22) hx hb dX7_move_8 (by decide) (fun c1 => ?_) (fun c1 => ?_)
  · rw [if_pos c1] at h
    refine lv_iconst (v := (-1 : Int32)) hx hb dX7_move_22 (by decide) ?_
    rw [← Option.some.inj h]
    exact wrX_iret C hr hlocks hP hS dX7_move_23
  · rw [if_neg c1] at h
    refine lv_aload_n hx hb dX7_move_11 rfl (lv_at hl 0 rfl) ?_
    refine gX0_entries C hP fl_X7_34 dX7_move_12 ?_
    refine lv_iload_n hx hb dX7_move_15 rfl (lv_at hl 2 rfl) ?_
    refine rdV (Ek_est a) C hP (ef (Ek_est a) hS hE0) (c_X0_has l D k a _ x2) my_X0_has ml_X7_115 (rX3 C hP) rfl hl.1 (rest := []) rfl (Nat.le_of_ble_eq_true rfl) ⟨rfl, rfl, Nat.le_of_ble_eq_true rfl, Nat.le_of_ble_eq_true rfl⟩ ⟨Nat.zero_le _, Nat.zero_le _⟩ dX7_move_16 ?_
    refine lv_if_ne (tgt := 24) hx hb dX7_move_19 (by decide) (fun c2 => ?_) (fun c2 => ?_)
    · rw [if_neg c2] at h
      refine lv_aload_n hx hb dX7_move_24 rfl (lv_at hl 0 rfl) ?_
      refine gX0_isStrict C hP fl_X7_84 dX7_move_25 (v := (S.1 3)) rfl ?_
      refine lv_if_eq (tgt := 48) hx hb dX7_move_28 (by decide) (fun c3 => ?_) (fun c3 => ?_)
      · rw [if_pos c3] at h
        refine lv_iconst (v := (0 : Int32)) hx hb dX7_move_48 (by decide) ?_
        refine lv_istore_n (lv' := [(3, .int (0 : Int32)), (0, .ref (a 0)), (1, .int x1), (2, .int x2)]) hx hb dX7_move_49 rfl hl (by decide) rfl (fun ls hl => ?_)
        refine lv_iload_n hx hb dX7_move_50 rfl (lv_at hl 0 rfl) ?_
        refine lv_if_ne (tgt := 65) hx hb dX7_move_51 (by decide) (fun c4 => ?_) (fun c4 => ?_)
        · exact absurd c4 (by decide)
        · refine lv_aload_n hx hb dX7_move_54 rfl (lv_at hl 1 rfl) ?_
          refine gX0_tree C hP fl_X7_43 dX7_move_55 ?_
          refine lv_iload_n hx hb dX7_move_58 rfl (lv_at hl 2 rfl) ?_
          obtain ⟨u5, hhu5, h⟩ := ob_some h
          refine rdV (Ek_est a) C hP (ef (Ek_est a) hS hE0) (c_X6_canLeave l D k a _ x1 u5 hhu5) my_X6_canLeave ml_X7_120 (rX4 C hP) rfl hl.1 (rest := []) rfl (Nat.le_of_ble_eq_true rfl) ⟨rfl, rfl, Nat.le_of_ble_eq_true rfl, Nat.le_of_ble_eq_true rfl⟩ ⟨Nat.zero_le _, Nat.zero_le _⟩ dX7_move_59 ?_
          refine lv_if_ne (tgt := 68) hx hb dX7_move_62 (by decide) (fun c6 => ?_) (fun c6 => ?_)
          · rw [if_neg c6] at h
            refine lv_aload_n hx hb dX7_move_68 rfl (lv_at hl 1 rfl) ?_
            refine gX0_tree C hP fl_X7_43 dX7_move_69 ?_
            refine lv_iload_n hx hb dX7_move_72 rfl (lv_at hl 2 rfl) ?_
            obtain ⟨u7, hhu7, h⟩ := ob_some h
            refine wrV (Ek_est a) C hP (hDA _) hA hS hE0 (c_X6_leave l D k a _ x1 u7 hhu7) my_X6_leave ml_X7_123 (rX4 C hP) rfl hl.1 (rest := []) rfl (Nat.le_of_ble_eq_true rfl) ⟨rfl, rfl, Nat.le_of_ble_eq_true rfl, Nat.le_of_ble_eq_true rfl⟩ ⟨Nat.zero_le _, Nat.zero_le _⟩ dX7_move_73 (fun H locs hP hS _ _ => ?_)
            refine lv_aload_n hx hb dX7_move_76 rfl (lv_at hl 1 rfl) ?_
            refine gX0_tree C hP fl_X7_43 dX7_move_77 ?_
            refine lv_iload_n hx hb dX7_move_80 rfl (lv_at hl 2 rfl) ?_
            refine lv_iload_n hx hb dX7_move_81 rfl (lv_at hl 3 rfl) ?_
            refine wrV (Ek_est a) C hP (hDA _) hA hS hE0 (c_X6_enter l D k a _ x1 x2) my_X6_enter ml_X7_126 (rX4 C hP) rfl hl.1 (rest := []) rfl (Nat.le_of_ble_eq_true rfl) ⟨rfl, rfl, Nat.le_of_ble_eq_true rfl, Nat.le_of_ble_eq_true rfl⟩ ⟨Nat.zero_le _, Nat.zero_le _⟩ dX7_move_82 (fun H locs hP hS _ _ => ?_)
            refine lv_iconst (v := (1 : Int32)) hx hb dX7_move_85 (by decide) ?_
            rw [← Option.some.inj h]
            exact wrX_iret C hr hlocks hP hS dX7_move_86
          · rw [if_pos c6] at h
            refine lv_bipush (v := (-3 : Int32)) hx hb dX7_move_65 (by decide) ?_
            rw [← Option.some.inj h]
            exact wrX_iret C hr hlocks hP hS dX7_move_67
      · rw [if_neg c3] at h
        refine lv_aload_n hx hb dX7_move_31 rfl (lv_at hl 0 rfl) ?_
        refine gX0_entries C hP fl_X7_34 dX7_move_32 ?_
        refine lv_iload_n hx hb dX7_move_35 rfl (lv_at hl 2 rfl) ?_
        refine lv_iconst (v := (0 : Int32)) hx hb dX7_move_36 (by decide) ?_
        refine lv_iload_n hx hb dX7_move_37 rfl (lv_at hl 1 rfl) ?_
        obtain ⟨u8, hhu8, h⟩ := ob_some h
        refine rdV (Ek_est a) C hP (ef (Ek_est a) hS hE0) (c_X0_comesTo l D k a _ x2 (0 : Int32) x1 u8 hhu8) my_X0_comesTo ml_X7_116 (rX3 C hP) rfl hl.1 (rest := []) rfl (Nat.le_of_ble_eq_true rfl) ⟨rfl, rfl, Nat.le_of_ble_eq_true rfl, Nat.le_of_ble_eq_true rfl⟩ ⟨Nat.zero_le _, Nat.zero_le _⟩ dX7_move_38 ?_
        refine lv_if_eq (tgt := 48) hx hb dX7_move_41 (by decide) (fun c9 => ?_) (fun c9 => ?_)
        · rw [if_pos c9] at h
          refine lv_iconst (v := (0 : Int32)) hx hb dX7_move_48 (by decide) ?_
          refine lv_istore_n (lv' := [(3, .int (0 : Int32)), (0, .ref (a 0)), (1, .int x1), (2, .int x2)]) hx hb dX7_move_49 rfl hl (by decide) rfl (fun ls hl => ?_)
          refine lv_iload_n hx hb dX7_move_50 rfl (lv_at hl 0 rfl) ?_
          refine lv_if_ne (tgt := 65) hx hb dX7_move_51 (by decide) (fun c10 => ?_) (fun c10 => ?_)
          · exact absurd c10 (by decide)
          · refine lv_aload_n hx hb dX7_move_54 rfl (lv_at hl 1 rfl) ?_
            refine gX0_tree C hP fl_X7_43 dX7_move_55 ?_
            refine lv_iload_n hx hb dX7_move_58 rfl (lv_at hl 2 rfl) ?_
            obtain ⟨u11, hhu11, h⟩ := ob_some h
            refine rdV (Ek_est a) C hP (ef (Ek_est a) hS hE0) (c_X6_canLeave l D k a _ x1 u11 hhu11) my_X6_canLeave ml_X7_120 (rX4 C hP) rfl hl.1 (rest := []) rfl (Nat.le_of_ble_eq_true rfl) ⟨rfl, rfl, Nat.le_of_ble_eq_true rfl, Nat.le_of_ble_eq_true rfl⟩ ⟨Nat.zero_le _, Nat.zero_le _⟩ dX7_move_59 ?_
            refine lv_if_ne (tgt := 68) hx hb dX7_move_62 (by decide) (fun c12 => ?_) (fun c12 => ?_)
            · rw [if_neg c12] at h
              refine lv_aload_n hx hb dX7_move_68 rfl (lv_at hl 1 rfl) ?_
              refine gX0_tree C hP fl_X7_43 dX7_move_69 ?_
              refine lv_iload_n hx hb dX7_move_72 rfl (lv_at hl 2 rfl) ?_
              obtain ⟨u13, hhu13, h⟩ := ob_some h
              refine wrV (Ek_est a) C hP (hDA _) hA hS hE0 (c_X6_leave l D k a _ x1 u13 hhu13) my_X6_leave ml_X7_123 (rX4 C hP) rfl hl.1 (rest := []) rfl (Nat.le_of_ble_eq_true rfl) ⟨rfl, rfl, Nat.le_of_ble_eq_true rfl, Nat.le_of_ble_eq_true rfl⟩ ⟨Nat.zero_le _, Nat.zero_le _⟩ dX7_move_73 (fun H locs hP hS _ _ => ?_)
              refine lv_aload_n hx hb dX7_move_76 rfl (lv_at hl 1 rfl) ?_
              refine gX0_tree C hP fl_X7_43 dX7_move_77 ?_
              refine lv_iload_n hx hb dX7_move_80 rfl (lv_at hl 2 rfl) ?_
              refine lv_iload_n hx hb dX7_move_81 rfl (lv_at hl 3 rfl) ?_
              refine wrV (Ek_est a) C hP (hDA _) hA hS hE0 (c_X6_enter l D k a _ x1 x2) my_X6_enter ml_X7_126 (rX4 C hP) rfl hl.1 (rest := []) rfl (Nat.le_of_ble_eq_true rfl) ⟨rfl, rfl, Nat.le_of_ble_eq_true rfl, Nat.le_of_ble_eq_true rfl⟩ ⟨Nat.zero_le _, Nat.zero_le _⟩ dX7_move_82 (fun H locs hP hS _ _ => ?_)
              refine lv_iconst (v := (1 : Int32)) hx hb dX7_move_85 (by decide) ?_
              rw [← Option.some.inj h]
              exact wrX_iret C hr hlocks hP hS dX7_move_86
            · rw [if_pos c12] at h
              refine lv_bipush (v := (-3 : Int32)) hx hb dX7_move_65 (by decide) ?_
              rw [← Option.some.inj h]
              exact wrX_iret C hr hlocks hP hS dX7_move_67
        · rw [if_neg c9] at h
          refine lv_iconst (v := (1 : Int32)) hx hb dX7_move_44 (by decide) ?_
          refine lv_goto (tgt := 49) hx hb dX7_move_45 (by decide) ?_
          refine lv_istore_n (lv' := [(3, .int (1 : Int32)), (0, .ref (a 0)), (1, .int x1), (2, .int x2)]) hx hb dX7_move_49 rfl hl (by decide) rfl (fun ls hl => ?_)
          refine lv_iload_n hx hb dX7_move_50 rfl (lv_at hl 0 rfl) ?_
          refine lv_if_ne (tgt := 65) hx hb dX7_move_51 (by decide) (fun c14 => ?_) (fun c14 => ?_)
          · refine lv_bipush (v := (-3 : Int32)) hx hb dX7_move_65 (by decide) ?_
            rw [← Option.some.inj h]
            exact wrX_iret C hr hlocks hP hS dX7_move_67
          · exact absurd c14 (by decide)
    · rw [if_pos c2] at h
      refine lv_iconst (v := (-1 : Int32)) hx hb dX7_move_22 (by decide) ?_
      rw [← Option.some.inj h]
      exact wrX_iret C hr hlocks hP hS dX7_move_23
def fX7_remove (S : XS) (x1 : Int32) : Option (Int32 × XS) := (if (bI (fX0_has S x1)) = 0 then some ((-1 : Int32), S) else (ob (fX6_canLeave S x1) (fun u2 => (if (bI u2) = 0 then some ((-3 : Int32), S) else (ob (fX6_leave S x1) (fun u4 => some ((1 : Int32), u4)))))))
set_option maxRecDepth 100000 in
set_option maxHeartbeats 4000000 in
theorem c_X7_remove (l : Launch) (D : va_G) (k : Nat → ClassId) (a : Nat → Nat) (S : XS) (x1 : Int32) (u : Int32 × XS) (h : fX7_remove S x1 = some u) : Wr (Ek a) l D (tyk k) (wX k a S) (wX k a u.2) yX7_remove cX7_remove 2 (some .int) (rmm 6 135) [.ref (a 0), .int x1] (some (.int u.1)) := by
  refine wr_start (by decide) (Nat.le_of_ble_eq_true rfl) ?_
  intro p e s m below meth c A C hr hlocks hP hD0 hA hE0 ls hl
  have hDA : ∀ S, va_D A (wX k a S) := wX_D hD0
  have hS : va_S A s.heap s.heap [] := va_S.rf
  have hl : lv_has ls 2 [(0, .ref (a 0)), (1, .int x1)] := hl
  obtain ⟨⟨hx, hb, hml, hown, hts⟩, hK⟩ := id C
  rw [fX7_remove] at h
  refine lv_aload_n hx hb dX7_remove_0 rfl (lv_at hl 0 rfl) ?_
  refine gX0_entries C hP fl_X7_34 dX7_remove_1 ?_
  refine lv_iload_n hx hb dX7_remove_4 rfl (lv_at hl 1 rfl) ?_
  refine rdV (Ek_est a) C hP (ef (Ek_est a) hS hE0) (c_X0_has l D k a _ x1) my_X0_has ml_X7_115 (rX3 C hP) rfl hl.1 (rest := []) rfl (Nat.le_of_ble_eq_true rfl) ⟨rfl, rfl, Nat.le_of_ble_eq_true rfl, Nat.le_of_ble_eq_true rfl⟩ ⟨Nat.zero_le _, Nat.zero_le _⟩ dX7_remove_5 ?_
  refine lv_if_ne (tgt := 13) hx hb dX7_remove_8 (by decide) (fun c1 => ?_) (fun c1 => ?_)
  · rw [if_neg c1] at h
    refine lv_aload_n hx hb dX7_remove_13 rfl (lv_at hl 0 rfl) ?_
    refine gX0_tree C hP fl_X7_43 dX7_remove_14 ?_
    refine lv_iload_n hx hb dX7_remove_17 rfl (lv_at hl 1 rfl) ?_
    obtain ⟨u2, hhu2, h⟩ := ob_some h
    refine rdV (Ek_est a) C hP (ef (Ek_est a) hS hE0) (c_X6_canLeave l D k a _ x1 u2 hhu2) my_X6_canLeave ml_X7_120 (rX4 C hP) rfl hl.1 (rest := []) rfl (Nat.le_of_ble_eq_true rfl) ⟨rfl, rfl, Nat.le_of_ble_eq_true rfl, Nat.le_of_ble_eq_true rfl⟩ ⟨Nat.zero_le _, Nat.zero_le _⟩ dX7_remove_18 ?_
    refine lv_if_ne (tgt := 27) hx hb dX7_remove_21 (by decide) (fun c3 => ?_) (fun c3 => ?_)
    · rw [if_neg c3] at h
      refine lv_aload_n hx hb dX7_remove_27 rfl (lv_at hl 0 rfl) ?_
      refine gX0_tree C hP fl_X7_43 dX7_remove_28 ?_
      refine lv_iload_n hx hb dX7_remove_31 rfl (lv_at hl 1 rfl) ?_
      obtain ⟨u4, hhu4, h⟩ := ob_some h
      refine wrV (Ek_est a) C hP (hDA _) hA hS hE0 (c_X6_leave l D k a _ x1 u4 hhu4) my_X6_leave ml_X7_123 (rX4 C hP) rfl hl.1 (rest := []) rfl (Nat.le_of_ble_eq_true rfl) ⟨rfl, rfl, Nat.le_of_ble_eq_true rfl, Nat.le_of_ble_eq_true rfl⟩ ⟨Nat.zero_le _, Nat.zero_le _⟩ dX7_remove_32 (fun H locs hP hS _ _ => ?_)
      refine lv_iconst (v := (1 : Int32)) hx hb dX7_remove_35 (by decide) ?_
      rw [← Option.some.inj h]
      exact wrX_iret C hr hlocks hP hS dX7_remove_36
    · rw [if_pos c3] at h
      refine lv_bipush (v := (-3 : Int32)) hx hb dX7_remove_24 (by decide) ?_
      rw [← Option.some.inj h]
      exact wrX_iret C hr hlocks hP hS dX7_remove_26
  · rw [if_pos c1] at h
    refine lv_iconst (v := (-1 : Int32)) hx hb dX7_remove_11 (by decide) ?_
    rw [← Option.some.inj h]
    exact wrX_iret C hr hlocks hP hS dX7_remove_12
def fX7_attribute (S : XS) (x1 : Int32) (x2 : Int32) (x3 : Int32) : Int32 × XS := (if (bI (fX0_has S x1)) = 0 then ((-1 : Int32), S) else (if x2 < 0 then ((-2 : Int32), S) else (if (fX0_attributes S) ≤ x2 then ((-2 : Int32), S) else (if x3 < 0 then ((-2 : Int32), S) else (if x3 ≤ (2 : Int32) then (if x3 = 0 then (if ((fX2_get S ((fX0_start S x1) + (x2 / (8 : Int32)))) &&& ((1 : Int32) <<< (((7 : Int32) - (x2 - x2 / (8 : Int32) * (8 : Int32))) &&& 31))) = 0 then ((0 : Int32), S) else ((1 : Int32), S)) else (if x3 = (1 : Int32) then ((1 : Int32), (fX2_set S ((fX0_start S x1) + (x2 / (8 : Int32))) ((fX2_get S ((fX0_start S x1) + (x2 / (8 : Int32)))) ||| ((1 : Int32) <<< (((7 : Int32) - (x2 - x2 / (8 : Int32) * (8 : Int32))) &&& 31))))) else ((1 : Int32), (fX2_set S ((fX0_start S x1) + (x2 / (8 : Int32))) ((fX2_get S ((fX0_start S x1) + (x2 / (8 : Int32)))) &&& (((1 : Int32) <<< (((7 : Int32) - (x2 - x2 / (8 : Int32) * (8 : Int32))) &&& 31)) ^^^ (-1 : Int32))))))) else ((-2 : Int32), S))))))
set_option maxRecDepth 100000 in
set_option maxHeartbeats 4000000 in
theorem c_X7_attribute (l : Launch) (D : va_G) (k : Nat → ClassId) (a : Nat → Nat) (S : XS) (x1 : Int32) (x2 : Int32) (x3 : Int32) : Wr (Ek a) l D (tyk k) (wX k a S) (wX k a (fX7_attribute S x1 x2 x3).2) yX7_attribute cX7_attribute 7 (some .int) (rmm 1 22) [.ref (a 0), .int x1, .int x2, .int x3] (some (.int (fX7_attribute S x1 x2 x3).1)) := by
  generalize h : fX7_attribute S x1 x2 x3 = u
  refine wr_start (by decide) (Nat.le_of_ble_eq_true rfl) ?_
  intro p e s m below meth c A C hr hlocks hP hD0 hA hE0 ls hl
  have hDA : ∀ S, va_D A (wX k a S) := wX_D hD0
  have hS : va_S A s.heap s.heap [] := va_S.rf
  have hl : lv_has ls 7 [(0, .ref (a 0)), (1, .int x1), (2, .int x2), (3, .int x3)] := hl
  obtain ⟨⟨hx, hb, hml, hown, hts⟩, hK⟩ := id C
  rw [fX7_attribute] at h
  refine lv_aload_n hx hb dX7_attribute_0 rfl (lv_at hl 0 rfl) ?_
  refine gX0_entries C hP fl_X7_34 dX7_attribute_1 ?_
  refine lv_iload_n hx hb dX7_attribute_4 rfl (lv_at hl 1 rfl) ?_
  refine rdV (Ek_est a) C hP (ef (Ek_est a) hS hE0) (c_X0_has l D k a _ x1) my_X0_has ml_X7_115 (rX3 C hP) rfl hl.1 (rest := []) rfl (Nat.le_of_ble_eq_true rfl) ⟨rfl, rfl, Nat.le_of_ble_eq_true rfl, Nat.le_of_ble_eq_true rfl⟩ ⟨Nat.zero_le _, Nat.zero_le _⟩ dX7_attribute_5 ?_
  refine lv_if_ne (tgt := 13) hx hb dX7_attribute_8 (by decide) (fun c1 => ?_) (fun c1 => ?_)
  · rw [if_neg c1] at h
    refine lv_iload_n hx hb dX7_attribute_13 rfl (lv_at hl 2 rfl) ?_
    refine lv_if_lt (tgt := 37) hx hb dX7_attribute_14 (by decide) (fun c2 => ?_) (fun c2 => ?_)
    · rw [if_pos c2] at h
      refine lv_bipush (v := (-2 : Int32)) hx hb dX7_attribute_37 (by decide) ?_
      rw [← h]
      exact wrX_iret C hr hlocks hP hS dX7_attribute_39
    · rw [if_neg c2] at h
      refine lv_iload_n hx hb dX7_attribute_17 rfl (lv_at hl 2 rfl) ?_
      refine lv_aload_n hx hb dX7_attribute_18 rfl (lv_at hl 0 rfl) ?_
      refine gX0_entries C hP fl_X7_34 dX7_attribute_19 ?_
      refine rdV (Ek_est a) C hP (ef (Ek_est a) hS hE0) (c_X0_attributes l D k a _ ) my_X0_attributes ml_X7_129 (rX3 C hP) rfl hl.1 (rest := [.int x2]) rfl (Nat.le_of_ble_eq_true rfl) ⟨rfl, rfl, Nat.le_of_ble_eq_true rfl, Nat.le_of_ble_eq_true rfl⟩ ⟨Nat.zero_le _, Nat.zero_le _⟩ dX7_attribute_22 ?_
      refine lv_icmp_ge (tgt := 37) hx hb dX7_attribute_25 (by decide) (fun c3 => ?_) (fun c3 => ?_)
      · rw [if_pos c3] at h
        refine lv_bipush (v := (-2 : Int32)) hx hb dX7_attribute_37 (by decide) ?_
        rw [← h]
        exact wrX_iret C hr hlocks hP hS dX7_attribute_39
      · rw [if_neg c3] at h
        refine lv_iload_n hx hb dX7_attribute_28 rfl (lv_at hl 3 rfl) ?_
        refine lv_if_lt (tgt := 37) hx hb dX7_attribute_29 (by decide) (fun c4 => ?_) (fun c4 => ?_)
        · rw [if_pos c4] at h
          refine lv_bipush (v := (-2 : Int32)) hx hb dX7_attribute_37 (by decide) ?_
          rw [← h]
          exact wrX_iret C hr hlocks hP hS dX7_attribute_39
        · rw [if_neg c4] at h
          refine lv_iload_n hx hb dX7_attribute_32 rfl (lv_at hl 3 rfl) ?_
          refine lv_iconst (v := (2 : Int32)) hx hb dX7_attribute_33 (by decide) ?_
          refine lv_icmp_le (tgt := 40) hx hb dX7_attribute_34 (by decide) (fun c5 => ?_) (fun c5 => ?_)
          · rw [if_pos c5] at h
            refine lv_aload_n hx hb dX7_attribute_40 rfl (lv_at hl 0 rfl) ?_
            refine gX0_entries C hP fl_X7_34 dX7_attribute_41 ?_
            refine lv_iload_n hx hb dX7_attribute_44 rfl (lv_at hl 1 rfl) ?_
            refine rdV (Ek_est a) C hP (ef (Ek_est a) hS hE0) (c_X0_start l D k a _ x1) my_X0_start ml_X7_132 (rX3 C hP) rfl hl.1 (rest := []) rfl (Nat.le_of_ble_eq_true rfl) ⟨rfl, rfl, Nat.le_of_ble_eq_true rfl, Nat.le_of_ble_eq_true rfl⟩ ⟨Nat.zero_le _, Nat.zero_le _⟩ dX7_attribute_45 ?_
            refine lv_iload_n hx hb dX7_attribute_48 rfl (lv_at hl 2 rfl) ?_
            refine lv_bipush (v := (8 : Int32)) hx hb dX7_attribute_49 (by decide) ?_
            refine lv_idiv hx hb dX7_attribute_51 (by decide) ?_
            refine lv_iadd hx hb dX7_attribute_52 ?_
            refine lv_istore (lv' := [(4, .int ((fX0_start S x1) + (x2 / (8 : Int32)))), (0, .ref (a 0)), (1, .int x1), (2, .int x2), (3, .int x3)]) hx hb dX7_attribute_53 hl (by decide) rfl (fun ls hl => ?_)
            refine lv_iconst (v := (1 : Int32)) hx hb dX7_attribute_55 (by decide) ?_
            refine lv_bipush (v := (7 : Int32)) hx hb dX7_attribute_56 (by decide) ?_
            refine lv_iload_n hx hb dX7_attribute_58 rfl (lv_at hl 3 rfl) ?_
            refine lv_bipush (v := (8 : Int32)) hx hb dX7_attribute_59 (by decide) ?_
            refine lv_irem hx hb dX7_attribute_61 (by decide) ?_
            refine lv_isub hx hb dX7_attribute_62 ?_
            refine lv_ishl hx hb dX7_attribute_63 ?_
            refine lv_istore (lv' := [(5, .int ((1 : Int32) <<< (((7 : Int32) - (x2 - x2 / (8 : Int32) * (8 : Int32))) &&& 31))), (4, .int ((fX0_start S x1) + (x2 / (8 : Int32)))), (0, .ref (a 0)), (1, .int x1), (2, .int x2), (3, .int x3)]) hx hb dX7_attribute_64 hl (by decide) rfl (fun ls hl => ?_)
            refine lv_aload_n hx hb dX7_attribute_66 rfl (lv_at hl 2 rfl) ?_
            refine gX0_memory C hP fl_X7_19 dX7_attribute_67 ?_
            refine lv_iload hx hb dX7_attribute_70 (lv_at hl 1 rfl) ?_
            refine rdV (Ek_est a) C hP (ef (Ek_est a) hS hE0) (c_X2_get l D k a _ ((fX0_start S x1) + (x2 / (8 : Int32)))) my_X2_get ml_X7_108 (rX1 C hP) rfl hl.1 (rest := []) rfl (Nat.le_of_ble_eq_true rfl) ⟨rfl, rfl, Nat.le_of_ble_eq_true rfl, Nat.le_of_ble_eq_true rfl⟩ ⟨Nat.zero_le _, Nat.zero_le _⟩ dX7_attribute_72 ?_
            refine lv_istore (lv' := [(6, .int (fX2_get S ((fX0_start S x1) + (x2 / (8 : Int32))))), (5, .int ((1 : Int32) <<< (((7 : Int32) - (x2 - x2 / (8 : Int32) * (8 : Int32))) &&& 31))), (4, .int ((fX0_start S x1) + (x2 / (8 : Int32)))), (0, .ref (a 0)), (1, .int x1), (2, .int x2), (3, .int x3)]) hx hb dX7_attribute_75 hl (by decide) rfl (fun ls hl => ?_)
            refine lv_iload_n hx hb dX7_attribute_77 rfl (lv_at hl 6 rfl) ?_
            refine lv_if_ne (tgt := 95) hx hb dX7_attribute_78 (by decide) (fun c6 => ?_) (fun c6 => ?_)
            · rw [if_neg c6] at h
              refine lv_aload_n hx hb dX7_attribute_95 rfl (lv_at hl 3 rfl) ?_
              refine gX0_memory C hP fl_X7_19 dX7_attribute_96 ?_
              refine lv_iload hx hb dX7_attribute_99 (lv_at hl 2 rfl) ?_
              refine lv_iload_n hx hb dX7_attribute_101 rfl (lv_at hl 6 rfl) ?_
              refine lv_iconst (v := (1 : Int32)) hx hb dX7_attribute_102 (by decide) ?_
              refine lv_icmp_ne (tgt := 114) hx hb dX7_attribute_103 (by decide) (fun c7 => ?_) (fun c7 => ?_)
              · rw [if_neg c7] at h
                refine lv_iload hx hb dX7_attribute_114 (lv_at hl 0 rfl) ?_
                refine lv_iload hx hb dX7_attribute_116 (lv_at hl 1 rfl) ?_
                refine lv_iconst (v := (-1 : Int32)) hx hb dX7_attribute_118 (by decide) ?_
                refine lv_ixor hx hb dX7_attribute_119 ?_
                refine lv_iand hx hb dX7_attribute_120 ?_
                refine wrV (Ek_est a) C hP (hDA _) hA hS hE0 (c_X2_set l D k a _ ((fX0_start S x1) + (x2 / (8 : Int32))) ((fX2_get S ((fX0_start S x1) + (x2 / (8 : Int32)))) &&& (((1 : Int32) <<< (((7 : Int32) - (x2 - x2 / (8 : Int32) * (8 : Int32))) &&& 31)) ^^^ (-1 : Int32)))) my_X2_set ml_X7_92 (rX1 C hP) rfl hl.1 (rest := []) rfl (Nat.le_of_ble_eq_true rfl) ⟨rfl, rfl, Nat.le_of_ble_eq_true rfl, Nat.le_of_ble_eq_true rfl⟩ ⟨Nat.zero_le _, Nat.zero_le _⟩ dX7_attribute_121 (fun H locs hP hS _ _ => ?_)
                refine lv_iconst (v := (1 : Int32)) hx hb dX7_attribute_124 (by decide) ?_
                rw [← h]
                exact wrX_iret C hr hlocks hP hS dX7_attribute_125
              · rw [if_pos c7] at h
                refine lv_iload hx hb dX7_attribute_106 (lv_at hl 0 rfl) ?_
                refine lv_iload hx hb dX7_attribute_108 (lv_at hl 1 rfl) ?_
                refine lv_ior hx hb dX7_attribute_110 ?_
                refine lv_goto (tgt := 121) hx hb dX7_attribute_111 (by decide) ?_
                refine wrV (Ek_est a) C hP (hDA _) hA hS hE0 (c_X2_set l D k a _ ((fX0_start S x1) + (x2 / (8 : Int32))) ((fX2_get S ((fX0_start S x1) + (x2 / (8 : Int32)))) ||| ((1 : Int32) <<< (((7 : Int32) - (x2 - x2 / (8 : Int32) * (8 : Int32))) &&& 31)))) my_X2_set ml_X7_92 (rX1 C hP) rfl hl.1 (rest := []) rfl (Nat.le_of_ble_eq_true rfl) ⟨rfl, rfl, Nat.le_of_ble_eq_true rfl, Nat.le_of_ble_eq_true rfl⟩ ⟨Nat.zero_le _, Nat.zero_le _⟩ dX7_attribute_121 (fun H locs hP hS _ _ => ?_)
                refine lv_iconst (v := (1 : Int32)) hx hb dX7_attribute_124 (by decide) ?_
                rw [← h]
                exact wrX_iret C hr hlocks hP hS dX7_attribute_125
            · rw [if_pos c6] at h
              refine lv_iload hx hb dX7_attribute_81 (lv_at hl 0 rfl) ?_
              refine lv_iload hx hb dX7_attribute_83 (lv_at hl 1 rfl) ?_
              refine lv_iand hx hb dX7_attribute_85 ?_
              refine lv_if_eq (tgt := 93) hx hb dX7_attribute_86 (by decide) (fun c8 => ?_) (fun c8 => ?_)
              · rw [if_pos c8] at h
                refine lv_iconst (v := (0 : Int32)) hx hb dX7_attribute_93 (by decide) ?_
                rw [← h]
                exact wrX_iret C hr hlocks hP hS dX7_attribute_94
              · rw [if_neg c8] at h
                refine lv_iconst (v := (1 : Int32)) hx hb dX7_attribute_89 (by decide) ?_
                refine lv_goto (tgt := 94) hx hb dX7_attribute_90 (by decide) ?_
                rw [← h]
                exact wrX_iret C hr hlocks hP hS dX7_attribute_94
          · rw [if_neg c5] at h
            refine lv_bipush (v := (-2 : Int32)) hx hb dX7_attribute_37 (by decide) ?_
            rw [← h]
            exact wrX_iret C hr hlocks hP hS dX7_attribute_39
  · rw [if_pos c1] at h
    refine lv_iconst (v := (-1 : Int32)) hx hb dX7_attribute_11 (by decide) ?_
    rw [← h]
    exact wrX_iret C hr hlocks hP hS dX7_attribute_12
def fX7_defaultAt (x0 : Int32) : Int32 := ((256 : Int32) + ((2 : Int32) * (x0 - (1 : Int32))))
set_option maxRecDepth 100000 in
set_option maxHeartbeats 4000000 in
theorem c_X7_defaultAt (l : Launch) (D : va_G) (ty : List (ClassId × FieldType)) (E : Ety) (w : va_W) (x0 : Int32) : Rd E l D ty w yX7_defaultAt cX7_defaultAt 1 (some .int) (rmm 0 0) [.int x0] (fX7_defaultAt x0) := by
  generalize h : fX7_defaultAt x0 = u
  refine rd_start (by decide) (Nat.le_of_ble_eq_true rfl) ?_
  intro p e s m below meth c C hr hlocks hP hE0 ls hl
  have hl : lv_has ls 1 [(0, .int x0)] := hl
  obtain ⟨⟨hx, hb, hml, hown, hts⟩, hK⟩ := id C
  rw [fX7_defaultAt] at h
  refine lv_sipush (v := (256 : Int32)) hx hb dX7_defaultAt_0 (by decide) ?_
  refine lv_iconst (v := (2 : Int32)) hx hb dX7_defaultAt_3 (by decide) ?_
  refine lv_iload_n hx hb dX7_defaultAt_4 rfl (lv_at hl 0 rfl) ?_
  refine lv_iconst (v := (1 : Int32)) hx hb dX7_defaultAt_5 (by decide) ?_
  refine lv_isub hx hb dX7_defaultAt_6 ?_
  refine lv_imul hx hb dX7_defaultAt_7 ?_
  refine lv_iadd hx hb dX7_defaultAt_8 ?_
  rw [← h]
  exact rd_iret C hr hlocks dX7_defaultAt_9
def fX7_refuse (S : XS) (x1 : Int32) (x2 : Int32) (x3 : Int32) : Int32 := (if (bI (fX0_has S x1)) = 0 then (-1 : Int32) else (if x2 < x3 then (-2 : Int32) else (if x2 ≤ (S.1 0) then (0 : Int32) else (-2 : Int32))))
set_option maxRecDepth 100000 in
set_option maxHeartbeats 4000000 in
theorem c_X7_refuse (l : Launch) (D : va_G) (k : Nat → ClassId) (a : Nat → Nat) (S : XS) (x1 : Int32) (x2 : Int32) (x3 : Int32) : Rd (Ek a) l D (tyk k) (wX k a S) yX7_refuse cX7_refuse 4 (some .int) (rmm 1 21) [.ref (a 0), .int x1, .int x2, .int x3] (fX7_refuse S x1 x2 x3) := by
  generalize h : fX7_refuse S x1 x2 x3 = u
  refine rd_start (by decide) (Nat.le_of_ble_eq_true rfl) ?_
  intro p e s m below meth c C hr hlocks hP hE0 ls hl
  have hl : lv_has ls 4 [(0, .ref (a 0)), (1, .int x1), (2, .int x2), (3, .int x3)] := hl
  obtain ⟨⟨hx, hb, hml, hown, hts⟩, hK⟩ := id C
  rw [fX7_refuse] at h
  refine lv_aload_n hx hb dX7_refuse_0 rfl (lv_at hl 0 rfl) ?_
  refine gX0_entries C hP fl_X7_34 dX7_refuse_1 ?_
  refine lv_iload_n hx hb dX7_refuse_4 rfl (lv_at hl 1 rfl) ?_
  refine rdV (Ek_est a) C hP hE0 (c_X0_has l D k a _ x1) my_X0_has ml_X7_115 (rX3 C hP) rfl hl.1 (rest := []) rfl (Nat.le_of_ble_eq_true rfl) ⟨rfl, rfl, Nat.le_of_ble_eq_true rfl, Nat.le_of_ble_eq_true rfl⟩ ⟨Nat.zero_le _, Nat.zero_le _⟩ dX7_refuse_5 ?_
  refine lv_if_ne (tgt := 13) hx hb dX7_refuse_8 (by decide) (fun c1 => ?_) (fun c1 => ?_)
  · rw [if_neg c1] at h
    refine lv_iload_n hx hb dX7_refuse_13 rfl (lv_at hl 2 rfl) ?_
    refine lv_iload_n hx hb dX7_refuse_14 rfl (lv_at hl 3 rfl) ?_
    refine lv_icmp_lt (tgt := 26) hx hb dX7_refuse_15 (by decide) (fun c2 => ?_) (fun c2 => ?_)
    · rw [if_pos c2] at h
      refine lv_bipush (v := (-2 : Int32)) hx hb dX7_refuse_26 (by decide) ?_
      refine lv_goto (tgt := 32) hx hb dX7_refuse_28 (by decide) ?_
      rw [← h]
      exact rd_iret C hr hlocks dX7_refuse_32
    · rw [if_neg c2] at h
      refine lv_iload_n hx hb dX7_refuse_18 rfl (lv_at hl 2 rfl) ?_
      refine lv_aload_n hx hb dX7_refuse_19 rfl (lv_at hl 0 rfl) ?_
      refine gX0_defaults C hP fl_X7_25 dX7_refuse_20 (v := (S.1 0)) rfl ?_
      refine lv_icmp_le (tgt := 31) hx hb dX7_refuse_23 (by decide) (fun c3 => ?_) (fun c3 => ?_)
      · rw [if_pos c3] at h
        refine lv_iconst (v := (0 : Int32)) hx hb dX7_refuse_31 (by decide) ?_
        rw [← h]
        exact rd_iret C hr hlocks dX7_refuse_32
      · rw [if_neg c3] at h
        refine lv_bipush (v := (-2 : Int32)) hx hb dX7_refuse_26 (by decide) ?_
        refine lv_goto (tgt := 32) hx hb dX7_refuse_28 (by decide) ?_
        rw [← h]
        exact rd_iret C hr hlocks dX7_refuse_32
  · rw [if_pos c1] at h
    refine lv_iconst (v := (-1 : Int32)) hx hb dX7_refuse_11 (by decide) ?_
    rw [← h]
    exact rd_iret C hr hlocks dX7_refuse_12
def fX7_findProperty (S : XS) (x1 : Int32) (x2 : Int32) : Option (Bool × XS) := (ob (fX3_find (fX3_begin S (fX0_table S x1)) x2) (fun u1 => some (u1.1, u1.2)))
set_option maxRecDepth 100000 in
set_option maxHeartbeats 4000000 in
theorem c_X7_findProperty (l : Launch) (D : va_G) (k : Nat → ClassId) (a : Nat → Nat) (S : XS) (x1 : Int32) (x2 : Int32) (u : Bool × XS) (h : fX7_findProperty S x1 x2 = some u) : Wr (Ek a) l D (tyk k) (wX k a S) (wX k a u.2) yX7_findProperty cX7_findProperty 3 (some .boolean) (rmm 3 65) [.ref (a 0), .int x1, .int x2] (some (.int (bI u.1))) := by
  refine wr_start (by decide) (Nat.le_of_ble_eq_true rfl) ?_
  intro p e s m below meth c A C hr hlocks hP hD0 hA hE0 ls hl
  have hDA : ∀ S, va_D A (wX k a S) := wX_D hD0
  have hS : va_S A s.heap s.heap [] := va_S.rf
  have hl : lv_has ls 3 [(0, .ref (a 0)), (1, .int x1), (2, .int x2)] := hl
  obtain ⟨⟨hx, hb, hml, hown, hts⟩, hK⟩ := id C
  rw [fX7_findProperty] at h
  refine lv_aload_n hx hb dX7_findProperty_0 rfl (lv_at hl 0 rfl) ?_
  refine gX0_properties C hP fl_X7_52 dX7_findProperty_1 ?_
  refine lv_aload_n hx hb dX7_findProperty_4 rfl (lv_at hl 0 rfl) ?_
  refine gX0_entries C hP fl_X7_34 dX7_findProperty_5 ?_
  refine lv_iload_n hx hb dX7_findProperty_8 rfl (lv_at hl 1 rfl) ?_
  refine rdV (Ek_est a) C hP (ef (Ek_est a) hS hE0) (c_X0_table l D k a _ x1) my_X0_table ml_X7_156 (rX3 C hP) rfl hl.1 (rest := [.ref (a 7)]) rfl (Nat.le_of_ble_eq_true rfl) ⟨rfl, rfl, Nat.le_of_ble_eq_true rfl, Nat.le_of_ble_eq_true rfl⟩ ⟨Nat.zero_le _, Nat.zero_le _⟩ dX7_findProperty_9 ?_
  refine wrV (Ek_est a) C hP (hDA _) hA hS hE0 (c_X3_begin l D k a _ (fX0_table S x1)) my_X3_begin ml_X7_159 (rX7 C hP) rfl hl.1 (rest := []) rfl (Nat.le_of_ble_eq_true rfl) ⟨rfl, rfl, Nat.le_of_ble_eq_true rfl, Nat.le_of_ble_eq_true rfl⟩ ⟨Nat.zero_le _, Nat.zero_le _⟩ dX7_findProperty_12 (fun H locs hP hS _ _ => ?_)
  refine lv_aload_n hx hb dX7_findProperty_15 rfl (lv_at hl 0 rfl) ?_
  refine gX0_properties C hP fl_X7_52 dX7_findProperty_16 ?_
  refine lv_iload_n hx hb dX7_findProperty_19 rfl (lv_at hl 2 rfl) ?_
  obtain ⟨u1, hhu1, h⟩ := ob_some h
  refine wrV (Ek_est a) C hP (hDA _) hA hS hE0 (c_X3_find l D k a _ x2 u1 hhu1) my_X3_find ml_X7_162 (rX7 C hP) rfl hl.1 (rest := []) rfl (Nat.le_of_ble_eq_true rfl) ⟨rfl, rfl, Nat.le_of_ble_eq_true rfl, Nat.le_of_ble_eq_true rfl⟩ ⟨Nat.zero_le _, Nat.zero_le _⟩ dX7_findProperty_20 (fun H locs hP hS _ _ => ?_)
  rw [← Option.some.inj h]
  exact wrX_zret (v := u1.1) C hr hlocks hP hS dX7_findProperty_23
def fX7_property (S : XS) (x1 : Int32) (x2 : Int32) : Option (Int32 × XS) := (if (fX7_refuse S x1 x2 (1 : Int32)) = 0 then (ob (fX7_findProperty S x1 x2) (fun u2 => (if (bI u2.1) = 0 then some ((fX2_word u2.2 (fX7_defaultAt x2)), u2.2) else (if (fX3_size u2.2) = (1 : Int32) then some ((fX2_get u2.2 (fX3_data u2.2)), u2.2) else if (fX3_size u2.2) = (2 : Int32) then some ((fX2_word u2.2 (fX3_data u2.2)), u2.2) else some ((-3 : Int32), u2.2))))) else some ((fX7_refuse S x1 x2 (1 : Int32)), S))
set_option maxRecDepth 100000 in
set_option maxHeartbeats 4000000 in
theorem c_X7_property (l : Launch) (D : va_G) (k : Nat → ClassId) (a : Nat → Nat) (S : XS) (x1 : Int32) (x2 : Int32) (u : Int32 × XS) (h : fX7_property S x1 x2 = some u) : Wr (Ek a) l D (tyk k) (wX k a S) (wX k a u.2) yX7_property cX7_property 4 (some .int) (rmm 4 87) [.ref (a 0), .int x1, .int x2] (some (.int u.1)) := by
  refine wr_start (by decide) (Nat.le_of_ble_eq_true rfl) ?_
  intro p e s m below meth c A C hr hlocks hP hD0 hA hE0 ls hl
  have hDA : ∀ S, va_D A (wX k a S) := wX_D hD0
  have hS : va_S A s.heap s.heap [] := va_S.rf
  have hl : lv_has ls 4 [(0, .ref (a 0)), (1, .int x1), (2, .int x2)] := hl
  obtain ⟨⟨hx, hb, hml, hown, hts⟩, hK⟩ := id C
  rw [fX7_property] at h
  refine lv_aload_n hx hb dX7_property_0 rfl (lv_at hl 0 rfl) ?_
  refine lv_iload_n hx hb dX7_property_1 rfl (lv_at hl 1 rfl) ?_
  refine lv_iload_n hx hb dX7_property_2 rfl (lv_at hl 2 rfl) ?_
  refine lv_iconst (v := (1 : Int32)) hx hb dX7_property_3 (by decide) ?_
  refine rdV (Ek_est a) C hP (ef (Ek_est a) hS hE0) (c_X7_refuse l D k a _ x1 x2 (1 : Int32)) my_X7_refuse ml_X7_135 (rX0 C hP) rfl hl.1 (rest := []) rfl (Nat.le_of_ble_eq_true rfl) ⟨rfl, rfl, Nat.le_of_ble_eq_true rfl, Nat.le_of_ble_eq_true rfl⟩ ⟨Nat.zero_le _, Nat.zero_le _⟩ dX7_property_4 ?_
  refine lv_istore_n (lv' := [(3, .int (fX7_refuse S x1 x2 (1 : Int32))), (0, .ref (a 0)), (1, .int x1), (2, .int x2)]) hx hb dX7_property_7 rfl hl (by decide) rfl (fun ls hl => ?_)
  refine lv_iload_n hx hb dX7_property_8 rfl (lv_at hl 0 rfl) ?_
  refine lv_if_eq (tgt := 14) hx hb dX7_property_9 (by decide) (fun c1 => ?_) (fun c1 => ?_)
  · rw [if_pos c1] at h
    refine lv_aload_n hx hb dX7_property_14 rfl (lv_at hl 1 rfl) ?_
    refine lv_iload_n hx hb dX7_property_15 rfl (lv_at hl 2 rfl) ?_
    refine lv_iload_n hx hb dX7_property_16 rfl (lv_at hl 3 rfl) ?_
    obtain ⟨u2, hhu2, h⟩ := ob_some h
    refine wrV (Ek_est a) C hP (hDA _) hA hS hE0 (c_X7_findProperty l D k a _ x1 x2 u2 hhu2) my_X7_findProperty ml_X7_139 (rX0 C hP) rfl hl.1 (rest := []) rfl (Nat.le_of_ble_eq_true rfl) ⟨rfl, rfl, Nat.le_of_ble_eq_true rfl, Nat.le_of_ble_eq_true rfl⟩ ⟨Nat.zero_le _, Nat.zero_le _⟩ dX7_property_17 (fun H locs hP hS _ _ => ?_)
    refine lv_if_ne (tgt := 35) hx hb dX7_property_20 (by decide) (fun c3 => ?_) (fun c3 => ?_)
    · rw [if_neg c3] at h
      refine lv_aload_n hx hb dX7_property_35 rfl (lv_at hl 1 rfl) ?_
      refine gX0_properties C hP fl_X7_52 dX7_property_36 ?_
      refine rdV (Ek_est a) C hP (ef (Ek_est a) hS hE0) (c_X3_size l D k a _ ) my_X3_size ml_X7_149 (rX7 C hP) rfl hl.1 (rest := []) rfl (Nat.le_of_ble_eq_true rfl) ⟨rfl, rfl, Nat.le_of_ble_eq_true rfl, Nat.le_of_ble_eq_true rfl⟩ ⟨Nat.zero_le _, Nat.zero_le _⟩ dX7_property_39 ?_
      by_cases c4 : (fX3_size u2.2) = (1 : Int32)
      · rw [if_pos c4] at h
        refine lv_lookup (off := 26) (tgt := 68) hx hb dX7_property_42 (by decide) (by rw [c4]; decide +kernel) (by decide) ?_
        refine lv_aload_n hx hb dX7_property_68 rfl (lv_at hl 1 rfl) ?_
        refine gX0_memory C hP fl_X7_19 dX7_property_69 ?_
        refine lv_aload_n hx hb dX7_property_72 rfl (lv_at hl 1 rfl) ?_
        refine gX0_properties C hP fl_X7_52 dX7_property_73 ?_
        refine rdV (Ek_est a) C hP (ef (Ek_est a) hS hE0) (c_X3_data l D k a _ ) my_X3_data ml_X7_150 (rX7 C hP) rfl hl.1 (rest := [.ref (a 1)]) rfl (Nat.le_of_ble_eq_true rfl) ⟨rfl, rfl, Nat.le_of_ble_eq_true rfl, Nat.le_of_ble_eq_true rfl⟩ ⟨Nat.zero_le _, Nat.zero_le _⟩ dX7_property_76 ?_
        refine rdV (Ek_est a) C hP (ef (Ek_est a) hS hE0) (c_X2_get l D k a _ (fX3_data u2.2)) my_X2_get ml_X7_108 (rX1 C hP) rfl hl.1 (rest := []) rfl (Nat.le_of_ble_eq_true rfl) ⟨rfl, rfl, Nat.le_of_ble_eq_true rfl, Nat.le_of_ble_eq_true rfl⟩ ⟨Nat.zero_le _, Nat.zero_le _⟩ dX7_property_79 ?_
        rw [← Option.some.inj h]
        exact wrX_iret C hr hlocks hP hS dX7_property_82
      · rw [if_neg c4] at h
        by_cases c5 : (fX3_size u2.2) = (2 : Int32)
        · rw [if_pos c5] at h
          refine lv_lookup (off := 41) (tgt := 83) hx hb dX7_property_42 (by decide) (by rw [c5]; decide +kernel) (by decide) ?_
          refine lv_aload_n hx hb dX7_property_83 rfl (lv_at hl 1 rfl) ?_
          refine gX0_memory C hP fl_X7_19 dX7_property_84 ?_
          refine lv_aload_n hx hb dX7_property_87 rfl (lv_at hl 1 rfl) ?_
          refine gX0_properties C hP fl_X7_52 dX7_property_88 ?_
          refine rdV (Ek_est a) C hP (ef (Ek_est a) hS hE0) (c_X3_data l D k a _ ) my_X3_data ml_X7_150 (rX7 C hP) rfl hl.1 (rest := [.ref (a 1)]) rfl (Nat.le_of_ble_eq_true rfl) ⟨rfl, rfl, Nat.le_of_ble_eq_true rfl, Nat.le_of_ble_eq_true rfl⟩ ⟨Nat.zero_le _, Nat.zero_le _⟩ dX7_property_91 ?_
          refine rdV (Ek_est a) C hP (ef (Ek_est a) hS hE0) (c_X2_word l D k a _ (fX3_data u2.2)) my_X2_word ml_X7_146 (rX1 C hP) rfl hl.1 (rest := []) rfl (Nat.le_of_ble_eq_true rfl) ⟨rfl, rfl, Nat.le_of_ble_eq_true rfl, Nat.le_of_ble_eq_true rfl⟩ ⟨Nat.zero_le _, Nat.zero_le _⟩ dX7_property_94 ?_
          rw [← Option.some.inj h]
          exact wrX_iret C hr hlocks hP hS dX7_property_97
        · rw [if_neg c5] at h
          refine lv_lookup (off := 56) (tgt := 98) hx hb dX7_property_42 (by decide) (lk12 c4 c5) (by decide) ?_
          refine lv_bipush (v := (-3 : Int32)) hx hb dX7_property_98 (by decide) ?_
          rw [← Option.some.inj h]
          exact wrX_iret C hr hlocks hP hS dX7_property_100
    · rw [if_pos c3] at h
      refine lv_aload_n hx hb dX7_property_23 rfl (lv_at hl 1 rfl) ?_
      refine gX0_memory C hP fl_X7_19 dX7_property_24 ?_
      refine lv_iload_n hx hb dX7_property_27 rfl (lv_at hl 3 rfl) ?_
      refine rdS (Ek_est a) C hP (ef (Ek_est a) hS hE0) (c_X7_defaultAt l D (tyk k) (Ek a) _ x2) my_X7_defaultAt ml_X7_143 rfl hl.1 (rest := [.ref (a 1)]) rfl (Nat.le_of_ble_eq_true rfl) ⟨rfl, rfl, Nat.le_of_ble_eq_true rfl, Nat.le_of_ble_eq_true rfl⟩ ⟨Nat.zero_le _, Nat.zero_le _⟩ dX7_property_28 ?_
      refine rdV (Ek_est a) C hP (ef (Ek_est a) hS hE0) (c_X2_word l D k a _ (fX7_defaultAt x2)) my_X2_word ml_X7_146 (rX1 C hP) rfl hl.1 (rest := []) rfl (Nat.le_of_ble_eq_true rfl) ⟨rfl, rfl, Nat.le_of_ble_eq_true rfl, Nat.le_of_ble_eq_true rfl⟩ ⟨Nat.zero_le _, Nat.zero_le _⟩ dX7_property_31 ?_
      rw [← Option.some.inj h]
      exact wrX_iret C hr hlocks hP hS dX7_property_34
  · rw [if_neg c1] at h
    refine lv_iload_n hx hb dX7_property_12 rfl (lv_at hl 0 rfl) ?_
    rw [← Option.some.inj h]
    exact wrX_iret C hr hlocks hP hS dX7_property_13
def fX7_put (S : XS) (x1 : Int32) (x2 : Int32) (x3 : Int32) : Option (Int32 × XS) := (if (fX7_refuse S x1 x2 (1 : Int32)) = 0 then (ob (fX7_findProperty S x1 x2) (fun u2 => (if (bI u2.1) = 0 then some ((-3 : Int32), u2.2) else (if (fX3_size u2.2) = (1 : Int32) then some ((1 : Int32), (fX2_set u2.2 (fX3_data u2.2) x3)) else if (fX3_size u2.2) = (2 : Int32) then some ((1 : Int32), (fX2_setWord u2.2 (fX3_data u2.2) x3)) else some ((-3 : Int32), u2.2))))) else some ((fX7_refuse S x1 x2 (1 : Int32)), S))
set_option maxRecDepth 100000 in
set_option maxHeartbeats 4000000 in
theorem c_X7_put (l : Launch) (D : va_G) (k : Nat → ClassId) (a : Nat → Nat) (S : XS) (x1 : Int32) (x2 : Int32) (x3 : Int32) (u : Int32 × XS) (h : fX7_put S x1 x2 x3 = some u) : Wr (Ek a) l D (tyk k) (wX k a S) (wX k a u.2) yX7_put cX7_put 5 (some .int) (rmm 4 87) [.ref (a 0), .int x1, .int x2, .int x3] (some (.int u.1)) := by
  refine wr_start (by decide) (Nat.le_of_ble_eq_true rfl) ?_
  intro p e s m below meth c A C hr hlocks hP hD0 hA hE0 ls hl
  have hDA : ∀ S, va_D A (wX k a S) := wX_D hD0
  have hS : va_S A s.heap s.heap [] := va_S.rf
  have hl : lv_has ls 5 [(0, .ref (a 0)), (1, .int x1), (2, .int x2), (3, .int x3)] := hl
  obtain ⟨⟨hx, hb, hml, hown, hts⟩, hK⟩ := id C
  rw [fX7_put] at h
  refine lv_aload_n hx hb dX7_put_0 rfl (lv_at hl 0 rfl) ?_
  refine lv_iload_n hx hb dX7_put_1 rfl (lv_at hl 1 rfl) ?_
  refine lv_iload_n hx hb dX7_put_2 rfl (lv_at hl 2 rfl) ?_
  refine lv_iconst (v := (1 : Int32)) hx hb dX7_put_3 (by decide) ?_
  refine rdV (Ek_est a) C hP (ef (Ek_est a) hS hE0) (c_X7_refuse l D k a _ x1 x2 (1 : Int32)) my_X7_refuse ml_X7_135 (rX0 C hP) rfl hl.1 (rest := []) rfl (Nat.le_of_ble_eq_true rfl) ⟨rfl, rfl, Nat.le_of_ble_eq_true rfl, Nat.le_of_ble_eq_true rfl⟩ ⟨Nat.zero_le _, Nat.zero_le _⟩ dX7_put_4 ?_
  refine lv_istore (lv' := [(4, .int (fX7_refuse S x1 x2 (1 : Int32))), (0, .ref (a 0)), (1, .int x1), (2, .int x2), (3, .int x3)]) hx hb dX7_put_7 hl (by decide) rfl (fun ls hl => ?_)
  refine lv_iload hx hb dX7_put_9 (lv_at hl 0 rfl) ?_
  refine lv_if_eq (tgt := 17) hx hb dX7_put_11 (by decide) (fun c1 => ?_) (fun c1 => ?_)
  · rw [if_pos c1] at h
    refine lv_aload_n hx hb dX7_put_17 rfl (lv_at hl 1 rfl) ?_
    refine lv_iload_n hx hb dX7_put_18 rfl (lv_at hl 2 rfl) ?_
    refine lv_iload_n hx hb dX7_put_19 rfl (lv_at hl 3 rfl) ?_
    obtain ⟨u2, hhu2, h⟩ := ob_some h
    refine wrV (Ek_est a) C hP (hDA _) hA hS hE0 (c_X7_findProperty l D k a _ x1 x2 u2 hhu2) my_X7_findProperty ml_X7_139 (rX0 C hP) rfl hl.1 (rest := []) rfl (Nat.le_of_ble_eq_true rfl) ⟨rfl, rfl, Nat.le_of_ble_eq_true rfl, Nat.le_of_ble_eq_true rfl⟩ ⟨Nat.zero_le _, Nat.zero_le _⟩ dX7_put_20 (fun H locs hP hS _ _ => ?_)
    refine lv_if_ne (tgt := 29) hx hb dX7_put_23 (by decide) (fun c3 => ?_) (fun c3 => ?_)
    · rw [if_neg c3] at h
      refine lv_aload_n hx hb dX7_put_29 rfl (lv_at hl 1 rfl) ?_
      refine gX0_properties C hP fl_X7_52 dX7_put_30 ?_
      refine rdV (Ek_est a) C hP (ef (Ek_est a) hS hE0) (c_X3_size l D k a _ ) my_X3_size ml_X7_149 (rX7 C hP) rfl hl.1 (rest := []) rfl (Nat.le_of_ble_eq_true rfl) ⟨rfl, rfl, Nat.le_of_ble_eq_true rfl, Nat.le_of_ble_eq_true rfl⟩ ⟨Nat.zero_le _, Nat.zero_le _⟩ dX7_put_33 ?_
      by_cases c4 : (fX3_size u2.2) = (1 : Int32)
      · rw [if_pos c4] at h
        refine lv_lookup (off := 28) (tgt := 64) hx hb dX7_put_36 (by decide) (by rw [c4]; decide +kernel) (by decide) ?_
        refine lv_aload_n hx hb dX7_put_64 rfl (lv_at hl 1 rfl) ?_
        refine gX0_memory C hP fl_X7_19 dX7_put_65 ?_
        refine lv_aload_n hx hb dX7_put_68 rfl (lv_at hl 1 rfl) ?_
        refine gX0_properties C hP fl_X7_52 dX7_put_69 ?_
        refine rdV (Ek_est a) C hP (ef (Ek_est a) hS hE0) (c_X3_data l D k a _ ) my_X3_data ml_X7_150 (rX7 C hP) rfl hl.1 (rest := [.ref (a 1)]) rfl (Nat.le_of_ble_eq_true rfl) ⟨rfl, rfl, Nat.le_of_ble_eq_true rfl, Nat.le_of_ble_eq_true rfl⟩ ⟨Nat.zero_le _, Nat.zero_le _⟩ dX7_put_72 ?_
        refine lv_iload_n hx hb dX7_put_75 rfl (lv_at hl 4 rfl) ?_
        refine wrV (Ek_est a) C hP (hDA _) hA hS hE0 (c_X2_set l D k a _ (fX3_data u2.2) x3) my_X2_set ml_X7_92 (rX1 C hP) rfl hl.1 (rest := []) rfl (Nat.le_of_ble_eq_true rfl) ⟨rfl, rfl, Nat.le_of_ble_eq_true rfl, Nat.le_of_ble_eq_true rfl⟩ ⟨Nat.zero_le _, Nat.zero_le _⟩ dX7_put_76 (fun H locs hP hS _ _ => ?_)
        refine lv_iconst (v := (1 : Int32)) hx hb dX7_put_79 (by decide) ?_
        rw [← Option.some.inj h]
        exact wrX_iret C hr hlocks hP hS dX7_put_80
      · rw [if_neg c4] at h
        by_cases c5 : (fX3_size u2.2) = (2 : Int32)
        · rw [if_pos c5] at h
          refine lv_lookup (off := 45) (tgt := 81) hx hb dX7_put_36 (by decide) (by rw [c5]; decide +kernel) (by decide) ?_
          refine lv_aload_n hx hb dX7_put_81 rfl (lv_at hl 1 rfl) ?_
          refine gX0_memory C hP fl_X7_19 dX7_put_82 ?_
          refine lv_aload_n hx hb dX7_put_85 rfl (lv_at hl 1 rfl) ?_
          refine gX0_properties C hP fl_X7_52 dX7_put_86 ?_
          refine rdV (Ek_est a) C hP (ef (Ek_est a) hS hE0) (c_X3_data l D k a _ ) my_X3_data ml_X7_150 (rX7 C hP) rfl hl.1 (rest := [.ref (a 1)]) rfl (Nat.le_of_ble_eq_true rfl) ⟨rfl, rfl, Nat.le_of_ble_eq_true rfl, Nat.le_of_ble_eq_true rfl⟩ ⟨Nat.zero_le _, Nat.zero_le _⟩ dX7_put_89 ?_
          refine lv_iload_n hx hb dX7_put_92 rfl (lv_at hl 4 rfl) ?_
          refine wrV (Ek_est a) C hP (hDA _) hA hS hE0 (c_X2_setWord l D k a _ (fX3_data u2.2) x3) my_X2_setWord ml_X7_153 (rX1 C hP) rfl hl.1 (rest := []) rfl (Nat.le_of_ble_eq_true rfl) ⟨rfl, rfl, Nat.le_of_ble_eq_true rfl, Nat.le_of_ble_eq_true rfl⟩ ⟨Nat.zero_le _, Nat.zero_le _⟩ dX7_put_93 (fun H locs hP hS _ _ => ?_)
          refine lv_iconst (v := (1 : Int32)) hx hb dX7_put_96 (by decide) ?_
          rw [← Option.some.inj h]
          exact wrX_iret C hr hlocks hP hS dX7_put_97
        · rw [if_neg c5] at h
          refine lv_lookup (off := 62) (tgt := 98) hx hb dX7_put_36 (by decide) (lk12 c4 c5) (by decide) ?_
          refine lv_bipush (v := (-3 : Int32)) hx hb dX7_put_98 (by decide) ?_
          rw [← Option.some.inj h]
          exact wrX_iret C hr hlocks hP hS dX7_put_100
    · rw [if_pos c3] at h
      refine lv_bipush (v := (-3 : Int32)) hx hb dX7_put_26 (by decide) ?_
      rw [← Option.some.inj h]
      exact wrX_iret C hr hlocks hP hS dX7_put_28
  · rw [if_neg c1] at h
    refine lv_iload hx hb dX7_put_14 (lv_at hl 0 rfl) ?_
    rw [← Option.some.inj h]
    exact wrX_iret C hr hlocks hP hS dX7_put_16
def fX7_next (S : XS) (x1 : Int32) (x2 : Int32) : Option (Int32 × XS) := (if (fX7_refuse S x1 x2 (0 : Int32)) = 0 then (if x2 = 0 then (if (bI (fX3_advance (fX3_begin S (fX0_table S x1))).1) = 0 then some ((0 : Int32), (fX3_advance (fX3_begin S (fX0_table S x1))).2) else some ((fX3_number (fX3_advance (fX3_begin S (fX0_table S x1))).2), (fX3_advance (fX3_begin S (fX0_table S x1))).2)) else (ob (fX3_find (fX3_begin S (fX0_table S x1)) x2) (fun u4 => (if (bI u4.1) = 0 then some ((-3 : Int32), u4.2) else (if (bI (fX3_advance u4.2).1) = 0 then some ((0 : Int32), (fX3_advance u4.2).2) else some ((fX3_number (fX3_advance u4.2).2), (fX3_advance u4.2).2)))))) else some ((fX7_refuse S x1 x2 (0 : Int32)), S))
set_option maxRecDepth 100000 in
set_option maxHeartbeats 4000000 in
theorem c_X7_next (l : Launch) (D : va_G) (k : Nat → ClassId) (a : Nat → Nat) (S : XS) (x1 : Int32) (x2 : Int32) (u : Int32 × XS) (h : fX7_next S x1 x2 = some u) : Wr (Ek a) l D (tyk k) (wX k a S) (wX k a u.2) yX7_next cX7_next 4 (some .int) (rmm 3 65) [.ref (a 0), .int x1, .int x2] (some (.int u.1)) := by
  refine wr_start (by decide) (Nat.le_of_ble_eq_true rfl) ?_
  intro p e s m below meth c A C hr hlocks hP hD0 hA hE0 ls hl
  have hDA : ∀ S, va_D A (wX k a S) := wX_D hD0
  have hS : va_S A s.heap s.heap [] := va_S.rf
  have hl : lv_has ls 4 [(0, .ref (a 0)), (1, .int x1), (2, .int x2)] := hl
  obtain ⟨⟨hx, hb, hml, hown, hts⟩, hK⟩ := id C
  rw [fX7_next] at h
  refine lv_aload_n hx hb dX7_next_0 rfl (lv_at hl 0 rfl) ?_
  refine lv_iload_n hx hb dX7_next_1 rfl (lv_at hl 1 rfl) ?_
  refine lv_iload_n hx hb dX7_next_2 rfl (lv_at hl 2 rfl) ?_
  refine lv_iconst (v := (0 : Int32)) hx hb dX7_next_3 (by decide) ?_
  refine rdV (Ek_est a) C hP (ef (Ek_est a) hS hE0) (c_X7_refuse l D k a _ x1 x2 (0 : Int32)) my_X7_refuse ml_X7_135 (rX0 C hP) rfl hl.1 (rest := []) rfl (Nat.le_of_ble_eq_true rfl) ⟨rfl, rfl, Nat.le_of_ble_eq_true rfl, Nat.le_of_ble_eq_true rfl⟩ ⟨Nat.zero_le _, Nat.zero_le _⟩ dX7_next_4 ?_
  refine lv_istore_n (lv' := [(3, .int (fX7_refuse S x1 x2 (0 : Int32))), (0, .ref (a 0)), (1, .int x1), (2, .int x2)]) hx hb dX7_next_7 rfl hl (by decide) rfl (fun ls hl => ?_)
  refine lv_iload_n hx hb dX7_next_8 rfl (lv_at hl 0 rfl) ?_
  refine lv_if_eq (tgt := 14) hx hb dX7_next_9 (by decide) (fun c1 => ?_) (fun c1 => ?_)
  · rw [if_pos c1] at h
    refine lv_aload_n hx hb dX7_next_14 rfl (lv_at hl 1 rfl) ?_
    refine gX0_properties C hP fl_X7_52 dX7_next_15 ?_
    refine lv_aload_n hx hb dX7_next_18 rfl (lv_at hl 1 rfl) ?_
    refine gX0_entries C hP fl_X7_34 dX7_next_19 ?_
    refine lv_iload_n hx hb dX7_next_22 rfl (lv_at hl 2 rfl) ?_
    refine rdV (Ek_est a) C hP (ef (Ek_est a) hS hE0) (c_X0_table l D k a _ x1) my_X0_table ml_X7_156 (rX3 C hP) rfl hl.1 (rest := [.ref (a 7)]) rfl (Nat.le_of_ble_eq_true rfl) ⟨rfl, rfl, Nat.le_of_ble_eq_true rfl, Nat.le_of_ble_eq_true rfl⟩ ⟨Nat.zero_le _, Nat.zero_le _⟩ dX7_next_23 ?_
    refine wrV (Ek_est a) C hP (hDA _) hA hS hE0 (c_X3_begin l D k a _ (fX0_table S x1)) my_X3_begin ml_X7_159 (rX7 C hP) rfl hl.1 (rest := []) rfl (Nat.le_of_ble_eq_true rfl) ⟨rfl, rfl, Nat.le_of_ble_eq_true rfl, Nat.le_of_ble_eq_true rfl⟩ ⟨Nat.zero_le _, Nat.zero_le _⟩ dX7_next_26 (fun H locs hP hS _ _ => ?_)
    refine lv_iload_n hx hb dX7_next_29 rfl (lv_at hl 3 rfl) ?_
    refine lv_if_eq (tgt := 47) hx hb dX7_next_30 (by decide) (fun c2 => ?_) (fun c2 => ?_)
    · rw [if_pos c2] at h
      refine lv_aload_n hx hb dX7_next_47 rfl (lv_at hl 1 rfl) ?_
      refine gX0_properties C hP fl_X7_52 dX7_next_48 ?_
      refine wrV (Ek_est a) C hP (hDA _) hA hS hE0 (c_X3_advance l D k a _ ) my_X3_advance ml_X7_165 (rX7 C hP) rfl hl.1 (rest := []) rfl (Nat.le_of_ble_eq_true rfl) ⟨rfl, rfl, Nat.le_of_ble_eq_true rfl, Nat.le_of_ble_eq_true rfl⟩ ⟨Nat.zero_le _, Nat.zero_le _⟩ dX7_next_51 (fun H locs hP hS _ _ => ?_)
      refine lv_if_eq (tgt := 67) hx hb dX7_next_54 (by decide) (fun c3 => ?_) (fun c3 => ?_)
      · rw [if_pos c3] at h
        refine lv_iconst (v := (0 : Int32)) hx hb dX7_next_67 (by decide) ?_
        rw [← Option.some.inj h]
        exact wrX_iret C hr hlocks hP hS dX7_next_68
      · rw [if_neg c3] at h
        refine lv_aload_n hx hb dX7_next_57 rfl (lv_at hl 1 rfl) ?_
        refine gX0_properties C hP fl_X7_52 dX7_next_58 ?_
        refine rdV (Ek_est a) C hP (ef (Ek_est a) hS hE0) (c_X3_number l D k a _ ) my_X3_number ml_X7_168 (rX7 C hP) rfl hl.1 (rest := []) rfl (Nat.le_of_ble_eq_true rfl) ⟨rfl, rfl, Nat.le_of_ble_eq_true rfl, Nat.le_of_ble_eq_true rfl⟩ ⟨Nat.zero_le _, Nat.zero_le _⟩ dX7_next_61 ?_
        refine lv_goto (tgt := 68) hx hb dX7_next_64 (by decide) ?_
        rw [← Option.some.inj h]
        exact wrX_iret C hr hlocks hP hS dX7_next_68
    · rw [if_neg c2] at h
      refine lv_aload_n hx hb dX7_next_33 rfl (lv_at hl 1 rfl) ?_
      refine gX0_properties C hP fl_X7_52 dX7_next_34 ?_
      refine lv_iload_n hx hb dX7_next_37 rfl (lv_at hl 3 rfl) ?_
      obtain ⟨u4, hhu4, h⟩ := ob_some h
      refine wrV (Ek_est a) C hP (hDA _) hA hS hE0 (c_X3_find l D k a _ x2 u4 hhu4) my_X3_find ml_X7_162 (rX7 C hP) rfl hl.1 (rest := []) rfl (Nat.le_of_ble_eq_true rfl) ⟨rfl, rfl, Nat.le_of_ble_eq_true rfl, Nat.le_of_ble_eq_true rfl⟩ ⟨Nat.zero_le _, Nat.zero_le _⟩ dX7_next_38 (fun H locs hP hS _ _ => ?_)
      refine lv_if_ne (tgt := 47) hx hb dX7_next_41 (by decide) (fun c5 => ?_) (fun c5 => ?_)
      · rw [if_neg c5] at h
        refine lv_aload_n hx hb dX7_next_47 rfl (lv_at hl 1 rfl) ?_
        refine gX0_properties C hP fl_X7_52 dX7_next_48 ?_
        refine wrV (Ek_est a) C hP (hDA _) hA hS hE0 (c_X3_advance l D k a _ ) my_X3_advance ml_X7_165 (rX7 C hP) rfl hl.1 (rest := []) rfl (Nat.le_of_ble_eq_true rfl) ⟨rfl, rfl, Nat.le_of_ble_eq_true rfl, Nat.le_of_ble_eq_true rfl⟩ ⟨Nat.zero_le _, Nat.zero_le _⟩ dX7_next_51 (fun H locs hP hS _ _ => ?_)
        refine lv_if_eq (tgt := 67) hx hb dX7_next_54 (by decide) (fun c6 => ?_) (fun c6 => ?_)
        · rw [if_pos c6] at h
          refine lv_iconst (v := (0 : Int32)) hx hb dX7_next_67 (by decide) ?_
          rw [← Option.some.inj h]
          exact wrX_iret C hr hlocks hP hS dX7_next_68
        · rw [if_neg c6] at h
          refine lv_aload_n hx hb dX7_next_57 rfl (lv_at hl 1 rfl) ?_
          refine gX0_properties C hP fl_X7_52 dX7_next_58 ?_
          refine rdV (Ek_est a) C hP (ef (Ek_est a) hS hE0) (c_X3_number l D k a _ ) my_X3_number ml_X7_168 (rX7 C hP) rfl hl.1 (rest := []) rfl (Nat.le_of_ble_eq_true rfl) ⟨rfl, rfl, Nat.le_of_ble_eq_true rfl, Nat.le_of_ble_eq_true rfl⟩ ⟨Nat.zero_le _, Nat.zero_le _⟩ dX7_next_61 ?_
          refine lv_goto (tgt := 68) hx hb dX7_next_64 (by decide) ?_
          rw [← Option.some.inj h]
          exact wrX_iret C hr hlocks hP hS dX7_next_68
      · rw [if_pos c5] at h
        refine lv_bipush (v := (-3 : Int32)) hx hb dX7_next_44 (by decide) ?_
        rw [← Option.some.inj h]
        exact wrX_iret C hr hlocks hP hS dX7_next_46
  · rw [if_neg c1] at h
    refine lv_iload_n hx hb dX7_next_12 rfl (lv_at hl 0 rfl) ?_
    rw [← Option.some.inj h]
    exact wrX_iret C hr hlocks hP hS dX7_next_13
def fX7_address (S : XS) (x1 : Int32) (x2 : Int32) : Option (Int32 × XS) := (if (fX7_refuse S x1 x2 (1 : Int32)) = 0 then (ob (fX7_findProperty S x1 x2) (fun u2 => (if (bI u2.1) = 0 then some ((0 : Int32), u2.2) else some ((fX3_data u2.2), u2.2)))) else some ((fX7_refuse S x1 x2 (1 : Int32)), S))
set_option maxRecDepth 100000 in
set_option maxHeartbeats 4000000 in
theorem c_X7_address (l : Launch) (D : va_G) (k : Nat → ClassId) (a : Nat → Nat) (S : XS) (x1 : Int32) (x2 : Int32) (u : Int32 × XS) (h : fX7_address S x1 x2 = some u) : Wr (Ek a) l D (tyk k) (wX k a S) (wX k a u.2) yX7_address cX7_address 4 (some .int) (rmm 4 87) [.ref (a 0), .int x1, .int x2] (some (.int u.1)) := by
  refine wr_start (by decide) (Nat.le_of_ble_eq_true rfl) ?_
  intro p e s m below meth c A C hr hlocks hP hD0 hA hE0 ls hl
  have hDA : ∀ S, va_D A (wX k a S) := wX_D hD0
  have hS : va_S A s.heap s.heap [] := va_S.rf
  have hl : lv_has ls 4 [(0, .ref (a 0)), (1, .int x1), (2, .int x2)] := hl
  obtain ⟨⟨hx, hb, hml, hown, hts⟩, hK⟩ := id C
  rw [fX7_address] at h
  refine lv_aload_n hx hb dX7_address_0 rfl (lv_at hl 0 rfl) ?_
  refine lv_iload_n hx hb dX7_address_1 rfl (lv_at hl 1 rfl) ?_
  refine lv_iload_n hx hb dX7_address_2 rfl (lv_at hl 2 rfl) ?_
  refine lv_iconst (v := (1 : Int32)) hx hb dX7_address_3 (by decide) ?_
  refine rdV (Ek_est a) C hP (ef (Ek_est a) hS hE0) (c_X7_refuse l D k a _ x1 x2 (1 : Int32)) my_X7_refuse ml_X7_135 (rX0 C hP) rfl hl.1 (rest := []) rfl (Nat.le_of_ble_eq_true rfl) ⟨rfl, rfl, Nat.le_of_ble_eq_true rfl, Nat.le_of_ble_eq_true rfl⟩ ⟨Nat.zero_le _, Nat.zero_le _⟩ dX7_address_4 ?_
  refine lv_istore_n (lv' := [(3, .int (fX7_refuse S x1 x2 (1 : Int32))), (0, .ref (a 0)), (1, .int x1), (2, .int x2)]) hx hb dX7_address_7 rfl hl (by decide) rfl (fun ls hl => ?_)
  refine lv_iload_n hx hb dX7_address_8 rfl (lv_at hl 0 rfl) ?_
  refine lv_if_eq (tgt := 14) hx hb dX7_address_9 (by decide) (fun c1 => ?_) (fun c1 => ?_)
  · rw [if_pos c1] at h
    refine lv_aload_n hx hb dX7_address_14 rfl (lv_at hl 1 rfl) ?_
    refine lv_iload_n hx hb dX7_address_15 rfl (lv_at hl 2 rfl) ?_
    refine lv_iload_n hx hb dX7_address_16 rfl (lv_at hl 3 rfl) ?_
    obtain ⟨u2, hhu2, h⟩ := ob_some h
    refine wrV (Ek_est a) C hP (hDA _) hA hS hE0 (c_X7_findProperty l D k a _ x1 x2 u2 hhu2) my_X7_findProperty ml_X7_139 (rX0 C hP) rfl hl.1 (rest := []) rfl (Nat.le_of_ble_eq_true rfl) ⟨rfl, rfl, Nat.le_of_ble_eq_true rfl, Nat.le_of_ble_eq_true rfl⟩ ⟨Nat.zero_le _, Nat.zero_le _⟩ dX7_address_17 (fun H locs hP hS _ _ => ?_)
    refine lv_if_eq (tgt := 33) hx hb dX7_address_20 (by decide) (fun c3 => ?_) (fun c3 => ?_)
    · rw [if_pos c3] at h
      refine lv_iconst (v := (0 : Int32)) hx hb dX7_address_33 (by decide) ?_
      rw [← Option.some.inj h]
      exact wrX_iret C hr hlocks hP hS dX7_address_34
    · rw [if_neg c3] at h
      refine lv_aload_n hx hb dX7_address_23 rfl (lv_at hl 1 rfl) ?_
      refine gX0_properties C hP fl_X7_52 dX7_address_24 ?_
      refine rdV (Ek_est a) C hP (ef (Ek_est a) hS hE0) (c_X3_data l D k a _ ) my_X3_data ml_X7_150 (rX7 C hP) rfl hl.1 (rest := []) rfl (Nat.le_of_ble_eq_true rfl) ⟨rfl, rfl, Nat.le_of_ble_eq_true rfl, Nat.le_of_ble_eq_true rfl⟩ ⟨Nat.zero_le _, Nat.zero_le _⟩ dX7_address_27 ?_
      refine lv_goto (tgt := 34) hx hb dX7_address_30 (by decide) ?_
      rw [← Option.some.inj h]
      exact wrX_iret C hr hlocks hP hS dX7_address_34
  · rw [if_neg c1] at h
    refine lv_iload_n hx hb dX7_address_12 rfl (lv_at hl 0 rfl) ?_
    rw [← Option.some.inj h]
    exact wrX_iret C hr hlocks hP hS dX7_address_13
def fX7_length (S : XS) (x1 : Int32) : Int32 := (if x1 < 0 then (-2 : Int32) else (if x1 ≤ (4096 : Int32) then (if x1 = 0 then (0 : Int32) else (fX3_sizeByLastByte S (fX2_get S (x1 - (1 : Int32))))) else (-2 : Int32)))
set_option maxRecDepth 100000 in
set_option maxHeartbeats 4000000 in
theorem c_X7_length (l : Launch) (D : va_G) (k : Nat → ClassId) (a : Nat → Nat) (S : XS) (x1 : Int32) : Rd (Ek a) l D (tyk k) (wX k a S) yX7_length cX7_length 2 (some .int) (rmm 1 21) [.ref (a 0), .int x1] (fX7_length S x1) := by
  generalize h : fX7_length S x1 = u
  refine rd_start (by decide) (Nat.le_of_ble_eq_true rfl) ?_
  intro p e s m below meth c C hr hlocks hP hE0 ls hl
  have hl : lv_has ls 2 [(0, .ref (a 0)), (1, .int x1)] := hl
  obtain ⟨⟨hx, hb, hml, hown, hts⟩, hK⟩ := id C
  rw [fX7_length] at h
  refine lv_iload_n hx hb dX7_length_0 rfl (lv_at hl 1 rfl) ?_
  refine lv_if_lt (tgt := 11) hx hb dX7_length_1 (by decide) (fun c1 => ?_) (fun c1 => ?_)
  · rw [if_pos c1] at h
    refine lv_bipush (v := (-2 : Int32)) hx hb dX7_length_11 (by decide) ?_
    rw [← h]
    exact rd_iret C hr hlocks dX7_length_13
  · rw [if_neg c1] at h
    refine lv_iload_n hx hb dX7_length_4 rfl (lv_at hl 1 rfl) ?_
    refine lv_sipush (v := (4096 : Int32)) hx hb dX7_length_5 (by decide) ?_
    refine lv_icmp_le (tgt := 14) hx hb dX7_length_8 (by decide) (fun c2 => ?_) (fun c2 => ?_)
    · rw [if_pos c2] at h
      refine lv_iload_n hx hb dX7_length_14 rfl (lv_at hl 1 rfl) ?_
      refine lv_if_ne (tgt := 22) hx hb dX7_length_15 (by decide) (fun c3 => ?_) (fun c3 => ?_)
      · rw [if_neg c3] at h
        refine lv_aload_n hx hb dX7_length_22 rfl (lv_at hl 0 rfl) ?_
        refine gX0_properties C hP fl_X7_52 dX7_length_23 ?_
        refine lv_aload_n hx hb dX7_length_26 rfl (lv_at hl 0 rfl) ?_
        refine gX0_memory C hP fl_X7_19 dX7_length_27 ?_
        refine lv_iload_n hx hb dX7_length_30 rfl (lv_at hl 1 rfl) ?_
        refine lv_iconst (v := (1 : Int32)) hx hb dX7_length_31 (by decide) ?_
        refine lv_isub hx hb dX7_length_32 ?_
        refine rdV (Ek_est a) C hP hE0 (c_X2_get l D k a _ (x1 - (1 : Int32))) my_X2_get ml_X7_108 (rX1 C hP) rfl hl.1 (rest := [.ref (a 7)]) rfl (Nat.le_of_ble_eq_true rfl) ⟨rfl, rfl, Nat.le_of_ble_eq_true rfl, Nat.le_of_ble_eq_true rfl⟩ ⟨Nat.zero_le _, Nat.zero_le _⟩ dX7_length_33 ?_
        refine rdV (Ek_est a) C hP hE0 (c_X3_sizeByLastByte l D k a _ (fX2_get S (x1 - (1 : Int32)))) my_X3_sizeByLastByte ml_X7_171 (rX7 C hP) rfl hl.1 (rest := []) rfl (Nat.le_of_ble_eq_true rfl) ⟨rfl, rfl, Nat.le_of_ble_eq_true rfl, Nat.le_of_ble_eq_true rfl⟩ ⟨Nat.zero_le _, Nat.zero_le _⟩ dX7_length_36 ?_
        rw [← h]
        exact rd_iret C hr hlocks dX7_length_39
      · rw [if_pos c3] at h
        refine lv_iconst (v := (0 : Int32)) hx hb dX7_length_18 (by decide) ?_
        refine lv_goto (tgt := 39) hx hb dX7_length_19 (by decide) ?_
        rw [← h]
        exact rd_iret C hr hlocks dX7_length_39
    · rw [if_neg c2] at h
      refine lv_bipush (v := (-2 : Int32)) hx hb dX7_length_11 (by decide) ?_
      rw [← h]
      exact rd_iret C hr hlocks dX7_length_13
def fX7_fallback (S : XS) (x1 : Int32) (x2 : Int32) : Int32 × XS := (if x1 < (1 : Int32) then ((-2 : Int32), S) else (if x1 ≤ (S.1 0) then ((fX2_word S (fX7_defaultAt x1)), (fX2_setWord S (fX7_defaultAt x1) x2)) else ((-2 : Int32), S)))
set_option maxRecDepth 100000 in
set_option maxHeartbeats 4000000 in
theorem c_X7_fallback (l : Launch) (D : va_G) (k : Nat → ClassId) (a : Nat → Nat) (S : XS) (x1 : Int32) (x2 : Int32) : Wr (Ek a) l D (tyk k) (wX k a S) (wX k a (fX7_fallback S x1 x2).2) yX7_fallback cX7_fallback 4 (some .int) (rmm 2 44) [.ref (a 0), .int x1, .int x2] (some (.int (fX7_fallback S x1 x2).1)) := by
  generalize h : fX7_fallback S x1 x2 = u
  refine wr_start (by decide) (Nat.le_of_ble_eq_true rfl) ?_
  intro p e s m below meth c A C hr hlocks hP hD0 hA hE0 ls hl
  have hDA : ∀ S, va_D A (wX k a S) := wX_D hD0
  have hS : va_S A s.heap s.heap [] := va_S.rf
  have hl : lv_has ls 4 [(0, .ref (a 0)), (1, .int x1), (2, .int x2)] := hl
  obtain ⟨⟨hx, hb, hml, hown, hts⟩, hK⟩ := id C
  rw [fX7_fallback] at h
  refine lv_iload_n hx hb dX7_fallback_0 rfl (lv_at hl 1 rfl) ?_
  refine lv_iconst (v := (1 : Int32)) hx hb dX7_fallback_1 (by decide) ?_
  refine lv_icmp_lt (tgt := 13) hx hb dX7_fallback_2 (by decide) (fun c1 => ?_) (fun c1 => ?_)
  · rw [if_pos c1] at h
    refine lv_bipush (v := (-2 : Int32)) hx hb dX7_fallback_13 (by decide) ?_
    rw [← h]
    exact wrX_iret C hr hlocks hP hS dX7_fallback_15
  · rw [if_neg c1] at h
    refine lv_iload_n hx hb dX7_fallback_5 rfl (lv_at hl 1 rfl) ?_
    refine lv_aload_n hx hb dX7_fallback_6 rfl (lv_at hl 0 rfl) ?_
    refine gX0_defaults C hP fl_X7_25 dX7_fallback_7 (v := (S.1 0)) rfl ?_
    refine lv_icmp_le (tgt := 16) hx hb dX7_fallback_10 (by decide) (fun c2 => ?_) (fun c2 => ?_)
    · rw [if_pos c2] at h
      refine lv_aload_n hx hb dX7_fallback_16 rfl (lv_at hl 0 rfl) ?_
      refine gX0_memory C hP fl_X7_19 dX7_fallback_17 ?_
      refine lv_iload_n hx hb dX7_fallback_20 rfl (lv_at hl 1 rfl) ?_
      refine rdS (Ek_est a) C hP (ef (Ek_est a) hS hE0) (c_X7_defaultAt l D (tyk k) (Ek a) _ x1) my_X7_defaultAt ml_X7_143 rfl hl.1 (rest := [.ref (a 1)]) rfl (Nat.le_of_ble_eq_true rfl) ⟨rfl, rfl, Nat.le_of_ble_eq_true rfl, Nat.le_of_ble_eq_true rfl⟩ ⟨Nat.zero_le _, Nat.zero_le _⟩ dX7_fallback_21 ?_
      refine rdV (Ek_est a) C hP (ef (Ek_est a) hS hE0) (c_X2_word l D k a _ (fX7_defaultAt x1)) my_X2_word ml_X7_146 (rX1 C hP) rfl hl.1 (rest := []) rfl (Nat.le_of_ble_eq_true rfl) ⟨rfl, rfl, Nat.le_of_ble_eq_true rfl, Nat.le_of_ble_eq_true rfl⟩ ⟨Nat.zero_le _, Nat.zero_le _⟩ dX7_fallback_24 ?_
      refine lv_istore_n (lv' := [(3, .int (fX2_word S (fX7_defaultAt x1))), (0, .ref (a 0)), (1, .int x1), (2, .int x2)]) hx hb dX7_fallback_27 rfl hl (by decide) rfl (fun ls hl => ?_)
      refine lv_aload_n hx hb dX7_fallback_28 rfl (lv_at hl 1 rfl) ?_
      refine gX0_memory C hP fl_X7_19 dX7_fallback_29 ?_
      refine lv_iload_n hx hb dX7_fallback_32 rfl (lv_at hl 2 rfl) ?_
      refine rdS (Ek_est a) C hP (ef (Ek_est a) hS hE0) (c_X7_defaultAt l D (tyk k) (Ek a) _ x1) my_X7_defaultAt ml_X7_143 rfl hl.1 (rest := [.ref (a 1)]) rfl (Nat.le_of_ble_eq_true rfl) ⟨rfl, rfl, Nat.le_of_ble_eq_true rfl, Nat.le_of_ble_eq_true rfl⟩ ⟨Nat.zero_le _, Nat.zero_le _⟩ dX7_fallback_33 ?_
      refine lv_iload_n hx hb dX7_fallback_36 rfl (lv_at hl 3 rfl) ?_
      refine wrV (Ek_est a) C hP (hDA _) hA hS hE0 (c_X2_setWord l D k a _ (fX7_defaultAt x1) x2) my_X2_setWord ml_X7_153 (rX1 C hP) rfl hl.1 (rest := []) rfl (Nat.le_of_ble_eq_true rfl) ⟨rfl, rfl, Nat.le_of_ble_eq_true rfl, Nat.le_of_ble_eq_true rfl⟩ ⟨Nat.zero_le _, Nat.zero_le _⟩ dX7_fallback_37 (fun H locs hP hS _ _ => ?_)
      refine lv_iload_n hx hb dX7_fallback_40 rfl (lv_at hl 0 rfl) ?_
      rw [← h]
      exact wrX_iret C hr hlocks hP hS dX7_fallback_41
    · rw [if_neg c2] at h
      refine lv_bipush (v := (-2 : Int32)) hx hb dX7_fallback_13 (by decide) ?_
      rw [← h]
      exact wrX_iret C hr hlocks hP hS dX7_fallback_15
def fX7_within (S : XS) (x1 : Int32) (x2 : Int32) : Option (Int32 × XS) := (if (bI (fX0_has S x1)) = 0 then some ((-1 : Int32), S) else (if 0 ≤ x2 then (ob (fX6_met S x1 x2) (fun u3 => some (u3.1, u3.2))) else some ((-2 : Int32), S)))
set_option maxRecDepth 100000 in
set_option maxHeartbeats 4000000 in
theorem c_X7_within (l : Launch) (D : va_G) (k : Nat → ClassId) (a : Nat → Nat) (S : XS) (x1 : Int32) (x2 : Int32) (u : Int32 × XS) (h : fX7_within S x1 x2 = some u) : Wr (Ek a) l D (tyk k) (wX k a S) (wX k a u.2) yX7_within cX7_within 3 (some .int) (rmm 4 92) [.ref (a 0), .int x1, .int x2] (some (.int u.1)) := by
  refine wr_start (by decide) (Nat.le_of_ble_eq_true rfl) ?_
  intro p e s m below meth c A C hr hlocks hP hD0 hA hE0 ls hl
  have hDA : ∀ S, va_D A (wX k a S) := wX_D hD0
  have hS : va_S A s.heap s.heap [] := va_S.rf
  have hl : lv_has ls 3 [(0, .ref (a 0)), (1, .int x1), (2, .int x2)] := hl
  obtain ⟨⟨hx, hb, hml, hown, hts⟩, hK⟩ := id C
  rw [fX7_within] at h
  refine lv_aload_n hx hb dX7_within_0 rfl (lv_at hl 0 rfl) ?_
  refine gX0_entries C hP fl_X7_34 dX7_within_1 ?_
  refine lv_iload_n hx hb dX7_within_4 rfl (lv_at hl 1 rfl) ?_
  refine rdV (Ek_est a) C hP (ef (Ek_est a) hS hE0) (c_X0_has l D k a _ x1) my_X0_has ml_X7_115 (rX3 C hP) rfl hl.1 (rest := []) rfl (Nat.le_of_ble_eq_true rfl) ⟨rfl, rfl, Nat.le_of_ble_eq_true rfl, Nat.le_of_ble_eq_true rfl⟩ ⟨Nat.zero_le _, Nat.zero_le _⟩ dX7_within_5 ?_
  refine lv_if_ne (tgt := 13) hx hb dX7_within_8 (by decide) (fun c1 => ?_) (fun c1 => ?_)
  · rw [if_neg c1] at h
    refine lv_iload_n hx hb dX7_within_13 rfl (lv_at hl 2 rfl) ?_
    refine lv_if_ge (tgt := 22) hx hb dX7_within_14 (by decide) (fun c2 => ?_) (fun c2 => ?_)
    · rw [if_pos c2] at h
      refine lv_aload_n hx hb dX7_within_22 rfl (lv_at hl 0 rfl) ?_
      refine gX0_tree C hP fl_X7_43 dX7_within_23 ?_
      refine lv_iload_n hx hb dX7_within_26 rfl (lv_at hl 1 rfl) ?_
      refine lv_iload_n hx hb dX7_within_27 rfl (lv_at hl 2 rfl) ?_
      obtain ⟨u3, hhu3, h⟩ := ob_some h
      refine wrV (Ek_est a) C hP (hDA _) hA hS hE0 (c_X6_met l D k a _ x1 x2 u3 hhu3) my_X6_met ml_X7_180 (rX4 C hP) rfl hl.1 (rest := []) rfl (Nat.le_of_ble_eq_true rfl) ⟨rfl, rfl, Nat.le_of_ble_eq_true rfl, Nat.le_of_ble_eq_true rfl⟩ ⟨Nat.zero_le _, Nat.zero_le _⟩ dX7_within_28 (fun H locs hP hS _ _ => ?_)
      rw [← Option.some.inj h]
      exact wrX_iret C hr hlocks hP hS dX7_within_31
    · rw [if_neg c2] at h
      refine lv_bipush (v := (-2 : Int32)) hx hb dX7_within_17 (by decide) ?_
      refine lv_goto (tgt := 31) hx hb dX7_within_19 (by decide) ?_
      rw [← Option.some.inj h]
      exact wrX_iret C hr hlocks hP hS dX7_within_31
  · rw [if_pos c1] at h
    refine lv_iconst (v := (-1 : Int32)) hx hb dX7_within_11 (by decide) ?_
    rw [← Option.some.inj h]
    exact wrX_iret C hr hlocks hP hS dX7_within_12
def fX7_judge_L : Nat → XS → Int32 → Int32 → Option (Int32 × XS)
  | 0, _, _, _ => none
  | n + 1, S, y1, y2 => (if (fX0_size S) < y2 then some (y1, S) else (ob (fX1_of S y2) (fun u2 => (fX7_judge_L n u2.2 (y1 + (fJ6_bitCount_0f7a4 u2.1)) (y2 + (1 : Int32))))))
def fX7_judge (S : XS)  : Option (Int32 × XS) := (fX7_judge_L 102 S (0 : Int32) (1 : Int32))
set_option maxRecDepth 100000 in
set_option maxHeartbeats 4000000 in
theorem c_X7_judge (l : Launch) (D : va_G) (k : Nat → ClassId) (a : Nat → Nat) (S : XS)  (u : Int32 × XS) (h : fX7_judge S = some u) : Wr (Ek a) l D (tyk k) (wX k a S) (wX k a u.2) yX7_judge cX7_judge 3 (some .int) (rmm 6 137) [.ref (a 0)] (some (.int u.1)) := by
  refine wr_start (by decide) (Nat.le_of_ble_eq_true rfl) ?_
  intro p e s m below meth c A C hr hlocks hP hD0 hA hE0 ls hl
  have hDA : ∀ S, va_D A (wX k a S) := wX_D hD0
  have hS : va_S A s.heap s.heap [] := va_S.rf
  have hl : lv_has ls 3 [(0, .ref (a 0))] := hl
  obtain ⟨⟨hx, hb, hml, hown, hts⟩, hK⟩ := id C
  have L : ∀ n : Nat, ∀ (S : XS) (y1 : Int32) (y2 : Int32) (H : Heap) (locs : List Loc) (ls : Array Slot), va_P D vwCl (wX k a S) H → va_S A s.heap H locs → lv_has ls 3 [(0, .ref (a 0)), (1, .int y1), (2, .int y2)] → fX7_judge_L n S y1 y2 = some u → W p l e (rmm 6 137) s m ([.ref (a 0)] : List Value).toArray below meth c H locs 0 0 (MQ below (Qw D (wX k a u.2) (some (.int u.1)) A) ([.ref (a 0)] : List Value).toArray s 0 0 A) (F0 m 4 ls []) := by
    intro n
    induction n with
    | zero => intro S y1 y2 H locs ls hP hS hl h; cases h
    | succ n ih =>
      intro S y1 y2 H locs ls hP hS hl h
      rw [fX7_judge_L] at h
      refine lv_iload_n hx hb dX7_judge_4 rfl (lv_at hl 2 rfl) ?_
      refine lv_aload_n hx hb dX7_judge_5 rfl (lv_at hl 0 rfl) ?_
      refine gX0_entries C hP fl_X7_34 dX7_judge_6 ?_
      refine rdV (Ek_est a) C hP (ef (Ek_est a) hS hE0) (c_X0_size l D k a _ ) my_X0_size ml_X7_100 (rX3 C hP) rfl hl.1 (rest := [.int y2]) rfl (Nat.le_of_ble_eq_true rfl) ⟨rfl, rfl, Nat.le_of_ble_eq_true rfl, Nat.le_of_ble_eq_true rfl⟩ ⟨Nat.zero_le _, Nat.zero_le _⟩ dX7_judge_9 ?_
      refine lv_icmp_gt (tgt := 35) hx hb dX7_judge_12 (by decide) (fun c1 => ?_) (fun c1 => ?_)
      · rw [if_pos c1] at h
        refine lv_iload_n hx hb dX7_judge_35 rfl (lv_at hl 1 rfl) ?_
        rw [← Option.some.inj h]
        exact wrX_iret C hr hlocks hP hS dX7_judge_36
      · rw [if_neg c1] at h
        refine lv_iload_n hx hb dX7_judge_15 rfl (lv_at hl 1 rfl) ?_
        refine lv_aload_n hx hb dX7_judge_16 rfl (lv_at hl 0 rfl) ?_
        refine gX0_faults C hP fl_X7_70 dX7_judge_17 ?_
        refine lv_iload_n hx hb dX7_judge_20 rfl (lv_at hl 2 rfl) ?_
        obtain ⟨u2, hhu2, h⟩ := ob_some h
        refine wrV (Ek_est a) C hP (hDA _) hA hS hE0 (c_X1_of l D k a _ y2 u2 hhu2) my_X1_of ml_X7_183 (rX12 C hP) rfl hl.1 (rest := [.int y1]) rfl (Nat.le_of_ble_eq_true rfl) ⟨rfl, rfl, Nat.le_of_ble_eq_true rfl, Nat.le_of_ble_eq_true rfl⟩ ⟨Nat.zero_le _, Nat.zero_le _⟩ dX7_judge_21 (fun H locs hP hS _ _ => ?_)
        refine rdS (Ek_est a) C hP (ef (Ek_est a) hS hE0) (c_J6_bitCount_0f7a4 l D (tyk k) (Ek a) _ u2.1) my_J6_bitCount_0f7a4 ml_X7_186 rfl hl.1 (rest := [.int y1]) rfl (Nat.le_of_ble_eq_true rfl) ⟨rfl, rfl, Nat.le_of_ble_eq_true rfl, Nat.le_of_ble_eq_true rfl⟩ ⟨Nat.zero_le _, Nat.zero_le _⟩ dX7_judge_24 ?_
        refine lv_iadd hx hb dX7_judge_27 ?_
        refine lv_istore_n (lv' := [(1, .int (y1 + (fJ6_bitCount_0f7a4 u2.1))), (0, .ref (a 0)), (2, .int y2)]) hx hb dX7_judge_28 rfl hl (by decide) rfl (fun ls hl => ?_)
        refine lv_iinc (v := (y2 + (1 : Int32))) (lv' := [(2, .int (y2 + (1 : Int32))), (1, .int (y1 + (fJ6_bitCount_0f7a4 u2.1))), (0, .ref (a 0))]) hx hb dX7_judge_29 hl (k := 2) rfl rfl (by decide) rfl (fun ls hl => ?_)
        refine lv_goto (tgt := 4) hx hb dX7_judge_32 (by decide) ?_
        exact ih _ _ _ _ _ ls hP hS (lv_sub hl [2, 1, 0] rfl) h
  rw [fX7_judge] at h
  refine lv_iconst (v := (0 : Int32)) hx hb dX7_judge_0 (by decide) ?_
  refine lv_istore_n (lv' := [(1, .int (0 : Int32)), (0, .ref (a 0))]) hx hb dX7_judge_1 rfl hl (by decide) rfl (fun ls hl => ?_)
  refine lv_iconst (v := (1 : Int32)) hx hb dX7_judge_2 (by decide) ?_
  refine lv_istore_n (lv' := [(2, .int (1 : Int32)), (1, .int (0 : Int32)), (0, .ref (a 0))]) hx hb dX7_judge_3 rfl hl (by decide) rfl (fun ls hl => ?_)
  exact L 102 _ _ _ _ _ ls hP hS (lv_sub hl [2, 1, 0] rfl) h
def fX7_ring_L : Nat → XS → Int32 → Int32 → Int32 → Option (Int32 × XS)
  | 0, _, _, _, _ => none
  | n + 1, S, y1, y2, y3 => (if (fX0_size S) < y3 then some ((-2 : Int32), S) else (ob (fX1_of S y3) (fun u3 => (if (fJ6_bitCount_0f7a4 u3.1) ≤ y2 then (fX7_ring_L n u3.2 y1 (y2 - (fJ6_bitCount_0f7a4 u3.1)) (y3 + (1 : Int32))) else (ob (fX1_code u3.1 y2) (fun u5 => some ((((16 : Int32) * y3) + u5), u3.2)))))))
def fX7_ring (S : XS) (x1 : Int32) : Option (Int32 × XS) := (if 0 ≤ x1 then (fX7_ring_L 102 S x1 x1 (1 : Int32)) else some ((-2 : Int32), S))
set_option maxRecDepth 100000 in
set_option maxHeartbeats 4000000 in
theorem c_X7_ring (l : Launch) (D : va_G) (k : Nat → ClassId) (a : Nat → Nat) (S : XS) (x1 : Int32) (u : Int32 × XS) (h : fX7_ring S x1 = some u) : Wr (Ek a) l D (tyk k) (wX k a S) (wX k a u.2) yX7_ring cX7_ring 6 (some .int) (rmm 6 137) [.ref (a 0), .int x1] (some (.int u.1)) := by
  refine wr_start (by decide) (Nat.le_of_ble_eq_true rfl) ?_
  intro p e s m below meth c A C hr hlocks hP hD0 hA hE0 ls hl
  have hDA : ∀ S, va_D A (wX k a S) := wX_D hD0
  have hS : va_S A s.heap s.heap [] := va_S.rf
  have hl : lv_has ls 6 [(0, .ref (a 0)), (1, .int x1)] := hl
  obtain ⟨⟨hx, hb, hml, hown, hts⟩, hK⟩ := id C
  have L : ∀ n : Nat, ∀ (S : XS) (y1 : Int32) (y2 : Int32) (y3 : Int32) (H : Heap) (locs : List Loc) (ls : Array Slot), va_P D vwCl (wX k a S) H → va_S A s.heap H locs → lv_has ls 6 [(0, .ref (a 0)), (1, .int y1), (2, .int y2), (3, .int y3)] → fX7_ring_L n S y1 y2 y3 = some u → W p l e (rmm 6 137) s m ([.ref (a 0), .int x1] : List Value).toArray below meth c H locs 0 0 (MQ below (Qw D (wX k a u.2) (some (.int u.1)) A) ([.ref (a 0), .int x1] : List Value).toArray s 0 0 A) (F0 m 11 ls []) := by
    intro n
    induction n with
    | zero => intro S y1 y2 y3 H locs ls hP hS hl h; cases h
    | succ n ih =>
      intro S y1 y2 y3 H locs ls hP hS hl h
      rw [fX7_ring_L] at h
      refine lv_iload_n hx hb dX7_ring_11 rfl (lv_at hl 3 rfl) ?_
      refine lv_aload_n hx hb dX7_ring_12 rfl (lv_at hl 0 rfl) ?_
      refine gX0_entries C hP fl_X7_34 dX7_ring_13 ?_
      refine rdV (Ek_est a) C hP (ef (Ek_est a) hS hE0) (c_X0_size l D k a _ ) my_X0_size ml_X7_100 (rX3 C hP) rfl hl.1 (rest := [.int y3]) rfl (Nat.le_of_ble_eq_true rfl) ⟨rfl, rfl, Nat.le_of_ble_eq_true rfl, Nat.le_of_ble_eq_true rfl⟩ ⟨Nat.zero_le _, Nat.zero_le _⟩ dX7_ring_16 ?_
      refine lv_icmp_gt (tgt := 68) hx hb dX7_ring_19 (by decide) (fun c2 => ?_) (fun c2 => ?_)
      · rw [if_pos c2] at h
        refine lv_bipush (v := (-2 : Int32)) hx hb dX7_ring_68 (by decide) ?_
        rw [← Option.some.inj h]
        exact wrX_iret C hr hlocks hP hS dX7_ring_70
      · rw [if_neg c2] at h
        refine lv_aload_n hx hb dX7_ring_22 rfl (lv_at hl 0 rfl) ?_
        refine gX0_faults C hP fl_X7_70 dX7_ring_23 ?_
        refine lv_iload_n hx hb dX7_ring_26 rfl (lv_at hl 3 rfl) ?_
        obtain ⟨u3, hhu3, h⟩ := ob_some h
        refine wrV (Ek_est a) C hP (hDA _) hA hS hE0 (c_X1_of l D k a _ y3 u3 hhu3) my_X1_of ml_X7_183 (rX12 C hP) rfl hl.1 (rest := []) rfl (Nat.le_of_ble_eq_true rfl) ⟨rfl, rfl, Nat.le_of_ble_eq_true rfl, Nat.le_of_ble_eq_true rfl⟩ ⟨Nat.zero_le _, Nat.zero_le _⟩ dX7_ring_27 (fun H locs hP hS _ _ => ?_)
        refine lv_istore (lv' := [(4, .int u3.1), (0, .ref (a 0)), (1, .int y1), (2, .int y2), (3, .int y3)]) hx hb dX7_ring_30 hl (by decide) rfl (fun ls hl => ?_)
        refine lv_iload hx hb dX7_ring_32 (lv_at hl 0 rfl) ?_
        refine rdS (Ek_est a) C hP (ef (Ek_est a) hS hE0) (c_J6_bitCount_0f7a4 l D (tyk k) (Ek a) _ u3.1) my_J6_bitCount_0f7a4 ml_X7_186 rfl hl.1 (rest := []) rfl (Nat.le_of_ble_eq_true rfl) ⟨rfl, rfl, Nat.le_of_ble_eq_true rfl, Nat.le_of_ble_eq_true rfl⟩ ⟨Nat.zero_le _, Nat.zero_le _⟩ dX7_ring_34 ?_
        refine lv_istore (lv' := [(5, .int (fJ6_bitCount_0f7a4 u3.1)), (4, .int u3.1), (0, .ref (a 0)), (1, .int y1), (2, .int y2), (3, .int y3)]) hx hb dX7_ring_37 hl (by decide) rfl (fun ls hl => ?_)
        refine lv_iload_n hx hb dX7_ring_39 rfl (lv_at hl 4 rfl) ?_
        refine lv_iload hx hb dX7_ring_40 (lv_at hl 0 rfl) ?_
        refine lv_icmp_ge (tgt := 57) hx hb dX7_ring_42 (by decide) (fun c4 => ?_) (fun c4 => ?_)
        · rw [if_pos c4] at h
          refine lv_iload_n hx hb dX7_ring_57 rfl (lv_at hl 4 rfl) ?_
          refine lv_iload hx hb dX7_ring_58 (lv_at hl 0 rfl) ?_
          refine lv_isub hx hb dX7_ring_60 ?_
          refine lv_istore_n (lv' := [(2, .int (y2 - (fJ6_bitCount_0f7a4 u3.1))), (5, .int (fJ6_bitCount_0f7a4 u3.1)), (4, .int u3.1), (0, .ref (a 0)), (1, .int y1), (3, .int y3)]) hx hb dX7_ring_61 rfl hl (by decide) rfl (fun ls hl => ?_)
          refine lv_iinc (v := (y3 + (1 : Int32))) (lv' := [(3, .int (y3 + (1 : Int32))), (2, .int (y2 - (fJ6_bitCount_0f7a4 u3.1))), (5, .int (fJ6_bitCount_0f7a4 u3.1)), (4, .int u3.1), (0, .ref (a 0)), (1, .int y1)]) hx hb dX7_ring_62 hl (k := 5) rfl rfl (by decide) rfl (fun ls hl => ?_)
          refine lv_goto (tgt := 11) hx hb dX7_ring_65 (by decide) ?_
          exact ih _ _ _ _ _ _ ls hP hS (lv_sub hl [4, 5, 1, 0] rfl) h
        · rw [if_neg c4] at h
          refine lv_bipush (v := (16 : Int32)) hx hb dX7_ring_45 (by decide) ?_
          refine lv_iload_n hx hb dX7_ring_47 rfl (lv_at hl 5 rfl) ?_
          refine lv_imul hx hb dX7_ring_48 ?_
          refine lv_iload hx hb dX7_ring_49 (lv_at hl 1 rfl) ?_
          refine lv_iload_n hx hb dX7_ring_51 rfl (lv_at hl 4 rfl) ?_
          obtain ⟨u5, hhu5, h⟩ := ob_some h
          refine rdS (Ek_est a) C hP (ef (Ek_est a) hS hE0) (c_X1_code l D (tyk k) (Ek a) _ u3.1 y2 u5 hhu5) my_X1_code ml_X7_191 rfl hl.1 (rest := [.int ((16 : Int32) * y3)]) rfl (Nat.le_of_ble_eq_true rfl) ⟨rfl, rfl, Nat.le_of_ble_eq_true rfl, Nat.le_of_ble_eq_true rfl⟩ ⟨Nat.zero_le _, Nat.zero_le _⟩ dX7_ring_52 ?_
          refine lv_iadd hx hb dX7_ring_55 ?_
          rw [← Option.some.inj h]
          exact wrX_iret C hr hlocks hP hS dX7_ring_56
  rw [fX7_ring] at h
  refine lv_iload_n hx hb dX7_ring_0 rfl (lv_at hl 1 rfl) ?_
  refine lv_if_ge (tgt := 7) hx hb dX7_ring_1 (by decide) (fun c1 => ?_) (fun c1 => ?_)
  · rw [if_pos c1] at h
    refine lv_iload_n hx hb dX7_ring_7 rfl (lv_at hl 1 rfl) ?_
    refine lv_istore_n (lv' := [(2, .int x1), (0, .ref (a 0)), (1, .int x1)]) hx hb dX7_ring_8 rfl hl (by decide) rfl (fun ls hl => ?_)
    refine lv_iconst (v := (1 : Int32)) hx hb dX7_ring_9 (by decide) ?_
    refine lv_istore_n (lv' := [(3, .int (1 : Int32)), (2, .int x1), (0, .ref (a 0)), (1, .int x1)]) hx hb dX7_ring_10 rfl hl (by decide) rfl (fun ls hl => ?_)
    exact L 102 _ _ _ _ _ _ ls hP hS (lv_sub hl [2, 3, 1, 0] rfl) h
  · rw [if_neg c1] at h
    refine lv_bipush (v := (-2 : Int32)) hx hb dX7_ring_4 (by decide) ?_
    rw [← Option.some.inj h]
    exact wrX_iret C hr hlocks hP hS dX7_ring_6
