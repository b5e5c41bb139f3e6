def fX8_canLeave (S : XS) (x1 : Int32) : Option Bool := (if (fX8_link S x1 (0 : Int32)) = 0 then some (true) else (if (bI (fX8_isObject S (fX8_link S x1 (0 : Int32)))) = 0 then some (false) else (ob (fX8_comes S (fX8_link S (fX8_link S x1 (0 : Int32)) (2 : Int32)) (1 : Int32) x1) (fun u3 => (if (bI u3) = 0 then some (false) else some (true))))))
set_option maxRecDepth 100000 in
set_option maxHeartbeats 4000000 in
theorem c_X8_canLeave (l : Launch) (D : va_G) (k : Nat → ClassId) (a : Nat → Nat) (S : XS) (x1 : Int32) (u : Bool) (h : fX8_canLeave S x1 = some u) : Rd noE l D (tyk k) (wM k a S) yX8_canLeave cX8_canLeave 3 (some .boolean) (rmm 4 89) [.ref (a 0), .int x1] (bI u) := by
  refine rd_start (by decide) (Nat.le_of_ble_eq_true rfl) ?_
  intro p e s m below meth c C hr hlocks hP hE0 ls hl
  have hl : lv_has ls 3 [(0, .ref (a 0)), (1, .int x1)] := hl
  obtain ⟨⟨hx, hb, hml, hown, hts⟩, hK⟩ := id C
  rw [fX8_canLeave] at h
  refine lv_aload_n hx hb dX8_canLeave_0 rfl (lv_at hl 0 rfl) ?_
  refine lv_iload_n hx hb dX8_canLeave_1 rfl (lv_at hl 1 rfl) ?_
  refine lv_iconst (v := (0 : Int32)) hx hb dX8_canLeave_2 (by decide) ?_
  refine rdV noE_est C hP hE0 (c_X8_link l D k a _ x1 (0 : Int32)) my_X8_link ml_X8_70 (rM0 C hP) rfl hl.1 (rest := []) rfl (Nat.le_of_ble_eq_true rfl) ⟨rfl, rfl, Nat.le_of_ble_eq_true rfl, Nat.le_of_ble_eq_true rfl⟩ ⟨Nat.zero_le _, Nat.zero_le _⟩ dX8_canLeave_3 ?_
  refine lv_istore_n (lv' := [(2, .int (fX8_link S x1 (0 : Int32))), (0, .ref (a 0)), (1, .int x1)]) hx hb dX8_canLeave_6 rfl hl (by decide) rfl (fun ls hl => ?_)
  refine lv_iload_n hx hb dX8_canLeave_7 rfl (lv_at hl 0 rfl) ?_
  refine lv_if_eq (tgt := 34) hx hb dX8_canLeave_8 (by decide) (fun c1 => ?_) (fun c1 => ?_)
  · rw [if_pos c1] at h
    refine lv_iconst (v := (1 : Int32)) hx hb dX8_canLeave_34 (by decide) ?_
    refine lv_goto (tgt := 39) hx hb dX8_canLeave_35 (by decide) ?_
    rw [← Option.some.inj h]
    exact rd_zret (v := true) C hr hlocks dX8_canLeave_39
  · rw [if_neg c1] at h
    refine lv_aload_n hx hb dX8_canLeave_11 rfl (lv_at hl 1 rfl) ?_
    refine lv_iload_n hx hb dX8_canLeave_12 rfl (lv_at hl 0 rfl) ?_
    refine rdV noE_est C hP hE0 (c_X8_isObject l D k a _ (fX8_link S x1 (0 : Int32))) my_X8_isObject ml_X8_66 (rM0 C hP) rfl hl.1 (rest := []) rfl (Nat.le_of_ble_eq_true rfl) ⟨rfl, rfl, Nat.le_of_ble_eq_true rfl, Nat.le_of_ble_eq_true rfl⟩ ⟨Nat.zero_le _, Nat.zero_le _⟩ dX8_canLeave_13 ?_
    refine lv_if_eq (tgt := 38) hx hb dX8_canLeave_16 (by decide) (fun c2 => ?_) (fun c2 => ?_)
    · rw [if_pos c2] at h
      refine lv_iconst (v := (0 : Int32)) hx hb dX8_canLeave_38 (by decide) ?_
      rw [← Option.some.inj h]
      exact rd_zret (v := false) C hr hlocks dX8_canLeave_39
    · rw [if_neg c2] at h
      refine lv_aload_n hx hb dX8_canLeave_19 rfl (lv_at hl 1 rfl) ?_
      refine lv_aload_n hx hb dX8_canLeave_20 rfl (lv_at hl 1 rfl) ?_
      refine lv_iload_n hx hb dX8_canLeave_21 rfl (lv_at hl 0 rfl) ?_
      refine lv_iconst (v := (2 : Int32)) hx hb dX8_canLeave_22 (by decide) ?_
      refine rdV noE_est C hP hE0 (c_X8_link l D k a _ (fX8_link S x1 (0 : Int32)) (2 : Int32)) my_X8_link ml_X8_70 (rM0 C hP) rfl hl.1 (rest := [.ref (a 0)]) rfl (Nat.le_of_ble_eq_true rfl) ⟨rfl, rfl, Nat.le_of_ble_eq_true rfl, Nat.le_of_ble_eq_true rfl⟩ ⟨Nat.zero_le _, Nat.zero_le _⟩ dX8_canLeave_23 ?_
      refine lv_iconst (v := (1 : Int32)) hx hb dX8_canLeave_26 (by decide) ?_
      refine lv_iload_n hx hb dX8_canLeave_27 rfl (lv_at hl 2 rfl) ?_
      obtain ⟨u3, hhu3, h⟩ := ob_some h
      refine rdV noE_est C hP hE0 (c_X8_comes l D k a _ (fX8_link S (fX8_link S x1 (0 : Int32)) (2 : Int32)) (1 : Int32) x1 u3 hhu3) my_X8_comes ml_X8_86 (rM0 C hP) rfl hl.1 (rest := []) rfl (Nat.le_of_ble_eq_true rfl) ⟨rfl, rfl, Nat.le_of_ble_eq_true rfl, Nat.le_of_ble_eq_true rfl⟩ ⟨Nat.zero_le _, Nat.zero_le _⟩ dX8_canLeave_28 ?_
      refine lv_if_eq (tgt := 38) hx hb dX8_canLeave_31 (by decide) (fun c4 => ?_) (fun c4 => ?_)
      · rw [if_pos c4] at h
        refine lv_iconst (v := (0 : Int32)) hx hb dX8_canLeave_38 (by decide) ?_
        rw [← Option.some.inj h]
        exact rd_zret (v := false) C hr hlocks dX8_canLeave_39
      · rw [if_neg c4] at h
        refine lv_iconst (v := (1 : Int32)) hx hb dX8_canLeave_34 (by decide) ?_
        refine lv_goto (tgt := 39) hx hb dX8_canLeave_35 (by decide) ?_
        rw [← Option.some.inj h]
        exact rd_zret (v := true) C hr hlocks dX8_canLeave_39
def fX8_leave_L : Nat → XS → Int32 → Int32 → Int32 → Int32 → Option XS
  | 0, _, _, _, _, _ => none
  | n + 1, S, y1, y2, y3, y4 => (if (100 : Int32) ≤ y4 then some (fX8_setLink (fX8_setLink (fX8_setLink S y3 (1 : Int32) (fX8_link S y1 (1 : Int32))) y1 (0 : Int32) (0 : Int32)) y1 (1 : Int32) (0 : Int32)) else (if (fX8_link S y3 (1 : Int32)) = y1 then some (fX8_setLink (fX8_setLink (fX8_setLink S y3 (1 : Int32) (fX8_link S y1 (1 : Int32))) y1 (0 : Int32) (0 : Int32)) y1 (1 : Int32) (0 : Int32)) else (fX8_leave_L n S y1 y2 (fX8_link S y3 (1 : Int32)) (y4 + (1 : Int32)))))
def fX8_leave (S : XS) (x1 : Int32) : Option XS := (if (fX8_link S x1 (0 : Int32)) = 0 then some (fX8_setLink (fX8_setLink S x1 (0 : Int32) (0 : Int32)) x1 (1 : Int32) (0 : Int32)) else (if (fX8_link S (fX8_link S x1 (0 : Int32)) (2 : Int32)) = x1 then some (fX8_setLink (fX8_setLink (fX8_setLink S (fX8_link S x1 (0 : Int32)) (2 : Int32) (fX8_link S x1 (1 : Int32))) x1 (0 : Int32) (0 : Int32)) x1 (1 : Int32) (0 : Int32)) else (fX8_leave_L 102 S x1 (fX8_link S x1 (0 : Int32)) (fX8_link S (fX8_link S x1 (0 : Int32)) (2 : Int32)) (0 : Int32))))
set_option maxRecDepth 100000 in
set_option maxHeartbeats 4000000 in
theorem c_X8_leave (l : Launch) (D : va_G) (k : Nat → ClassId) (a : Nat → Nat) (S : XS) (x1 : Int32) (u : XS) (h : fX8_leave S x1 = some u) : Wr noE l D (tyk k) (wM k a S) (wM k a u) yX8_leave cX8_leave 5 none (rmm 3 67) [.ref (a 0), .int x1] none := by
  refine wr_start (by decide) (Nat.le_of_ble_eq_true rfl) ?_
  intro p e s m below meth c A C hr hlocks hP hD0 hA hE0 ls hl
  have hDA : ∀ S, va_D A (wM k a S) := wM_D hD0
  have hS : va_S A s.heap s.heap [] := va_S.rf
  have hl : lv_has ls 5 [(0, .ref (a 0)), (1, .int x1)] := hl
  obtain ⟨⟨hx, hb, hml, hown, hts⟩, hK⟩ := id C
  have L : ∀ n : Nat, ∀ (S : XS) (y1 : Int32) (y2 : Int32) (y3 : Int32) (y4 : Int32) (H : Heap) (locs : List Loc) (ls : Array Slot), va_P D vwCl (wM k a S) H → va_S A s.heap H locs → lv_has ls 5 [(0, .ref (a 0)), (1, .int y1), (2, .int y2), (3, .int y3), (4, .int y4)] → fX8_leave_L n S y1 y2 y3 y4 = some u → W p l e (rmm 3 67) s m ([.ref (a 0), .int x1] : List Value).toArray below meth c H locs 0 0 (MQ below (Qw D (wM k a u) none A) ([.ref (a 0), .int x1] : List Value).toArray s 0 0 A) (F0 m 41 ls []) := by
    intro n
    induction n with
    | zero => intro S y1 y2 y3 y4 H locs ls hP hS hl h; cases h
    | succ n ih =>
      intro S y1 y2 y3 y4 H locs ls hP hS hl h
      rw [fX8_leave_L] at h
      refine lv_iload hx hb dX8_leave_41 (lv_at hl 4 rfl) ?_
      refine lv_bipush (v := (100 : Int32)) hx hb dX8_leave_43 (by decide) ?_
      refine lv_icmp_ge (tgt := 71) hx hb dX8_leave_45 (by decide) (fun c3 => ?_) (fun c3 => ?_)
      · rw [if_pos c3] at h
        refine lv_aload_n hx hb dX8_leave_71 rfl (lv_at hl 0 rfl) ?_
        refine lv_iload_n hx hb dX8_leave_72 rfl (lv_at hl 3 rfl) ?_
        refine lv_iconst (v := (1 : Int32)) hx hb dX8_leave_73 (by decide) ?_
        refine lv_aload_n hx hb dX8_leave_74 rfl (lv_at hl 0 rfl) ?_
        refine lv_iload_n hx hb dX8_leave_75 rfl (lv_at hl 1 rfl) ?_
        refine lv_iconst (v := (1 : Int32)) hx hb dX8_leave_76 (by decide) ?_
        refine rdV noE_est C hP (ef noE_est hS hE0) (c_X8_link l D k a _ y1 (1 : Int32)) my_X8_link ml_X8_70 (rM0 C hP) rfl hl.1 (rest := [.int (1 : Int32), .int y3, .ref (a 0)]) rfl (Nat.le_of_ble_eq_true rfl) ⟨rfl, rfl, Nat.le_of_ble_eq_true rfl, Nat.le_of_ble_eq_true rfl⟩ ⟨Nat.zero_le _, Nat.zero_le _⟩ dX8_leave_77 ?_
        refine wrV noE_est C hP (hDA _) hA hS hE0 (c_X8_setLink l D k a _ y3 (1 : Int32) (fX8_link S y1 (1 : Int32))) my_X8_setLink ml_X8_90 (rM0 C hP) rfl hl.1 (rest := []) rfl (Nat.le_of_ble_eq_true rfl) ⟨rfl, rfl, Nat.le_of_ble_eq_true rfl, Nat.le_of_ble_eq_true rfl⟩ ⟨Nat.zero_le _, Nat.zero_le _⟩ dX8_leave_80 (fun H locs hP hS _ _ => ?_)
        refine lv_aload_n hx hb dX8_leave_83 rfl (lv_at hl 0 rfl) ?_
        refine lv_iload_n hx hb dX8_leave_84 rfl (lv_at hl 1 rfl) ?_
        refine lv_iconst (v := (0 : Int32)) hx hb dX8_leave_85 (by decide) ?_
        refine lv_iconst (v := (0 : Int32)) hx hb dX8_leave_86 (by decide) ?_
        refine wrV noE_est C hP (hDA _) hA hS hE0 (c_X8_setLink l D k a _ y1 (0 : Int32) (0 : Int32)) my_X8_setLink ml_X8_90 (rM0 C hP) rfl hl.1 (rest := []) rfl (Nat.le_of_ble_eq_true rfl) ⟨rfl, rfl, Nat.le_of_ble_eq_true rfl, Nat.le_of_ble_eq_true rfl⟩ ⟨Nat.zero_le _, Nat.zero_le _⟩ dX8_leave_87 (fun H locs hP hS _ _ => ?_)
        refine lv_aload_n hx hb dX8_leave_90 rfl (lv_at hl 0 rfl) ?_
        refine lv_iload_n hx hb dX8_leave_91 rfl (lv_at hl 1 rfl) ?_
        refine lv_iconst (v := (1 : Int32)) hx hb dX8_leave_92 (by decide) ?_
        refine lv_iconst (v := (0 : Int32)) hx hb dX8_leave_93 (by decide) ?_
        refine wrV noE_est C hP (hDA _) hA hS hE0 (c_X8_setLink l D k a _ y1 (1 : Int32) (0 : Int32)) my_X8_setLink ml_X8_90 (rM0 C hP) rfl hl.1 (rest := []) rfl (Nat.le_of_ble_eq_true rfl) ⟨rfl, rfl, Nat.le_of_ble_eq_true rfl, Nat.le_of_ble_eq_true rfl⟩ ⟨Nat.zero_le _, Nat.zero_le _⟩ dX8_leave_94 (fun H locs hP hS _ _ => ?_)
        rw [← Option.some.inj h]
        exact wr_vret C hr hlocks hP hS dX8_leave_97
      · rw [if_neg c3] at h
        refine lv_aload_n hx hb dX8_leave_48 rfl (lv_at hl 0 rfl) ?_
        refine lv_iload_n hx hb dX8_leave_49 rfl (lv_at hl 3 rfl) ?_
        refine lv_iconst (v := (1 : Int32)) hx hb dX8_leave_50 (by decide) ?_
        refine rdV noE_est C hP (ef noE_est hS hE0) (c_X8_link l D k a _ y3 (1 : Int32)) my_X8_link ml_X8_70 (rM0 C hP) rfl hl.1 (rest := []) rfl (Nat.le_of_ble_eq_true rfl) ⟨rfl, rfl, Nat.le_of_ble_eq_true rfl, Nat.le_of_ble_eq_true rfl⟩ ⟨Nat.zero_le _, Nat.zero_le _⟩ dX8_leave_51 ?_
        refine lv_iload_n hx hb dX8_leave_54 rfl (lv_at hl 1 rfl) ?_
        refine lv_icmp_eq (tgt := 71) hx hb dX8_leave_55 (by decide) (fun c4 => ?_) (fun c4 => ?_)
        · rw [if_pos c4] at h
          refine lv_aload_n hx hb dX8_leave_71 rfl (lv_at hl 0 rfl) ?_
          refine lv_iload_n hx hb dX8_leave_72 rfl (lv_at hl 3 rfl) ?_
          refine lv_iconst (v := (1 : Int32)) hx hb dX8_leave_73 (by decide) ?_
          refine lv_aload_n hx hb dX8_leave_74 rfl (lv_at hl 0 rfl) ?_
          refine lv_iload_n hx hb dX8_leave_75 rfl (lv_at hl 1 rfl) ?_
          refine lv_iconst (v := (1 : Int32)) hx hb dX8_leave_76 (by decide) ?_
          refine rdV noE_est C hP (ef noE_est hS hE0) (c_X8_link l D k a _ y1 (1 : Int32)) my_X8_link ml_X8_70 (rM0 C hP) rfl hl.1 (rest := [.int (1 : Int32), .int y3, .ref (a 0)]) rfl (Nat.le_of_ble_eq_true rfl) ⟨rfl, rfl, Nat.le_of_ble_eq_true rfl, Nat.le_of_ble_eq_true rfl⟩ ⟨Nat.zero_le _, Nat.zero_le _⟩ dX8_leave_77 ?_
          refine wrV noE_est C hP (hDA _) hA hS hE0 (c_X8_setLink l D k a _ y3 (1 : Int32) (fX8_link S y1 (1 : Int32))) my_X8_setLink ml_X8_90 (rM0 C hP) rfl hl.1 (rest := []) rfl (Nat.le_of_ble_eq_true rfl) ⟨rfl, rfl, Nat.le_of_ble_eq_true rfl, Nat.le_of_ble_eq_true rfl⟩ ⟨Nat.zero_le _, Nat.zero_le _⟩ dX8_leave_80 (fun H locs hP hS _ _ => ?_)
          refine lv_aload_n hx hb dX8_leave_83 rfl (lv_at hl 0 rfl) ?_
          refine lv_iload_n hx hb dX8_leave_84 rfl (lv_at hl 1 rfl) ?_
          refine lv_iconst (v := (0 : Int32)) hx hb dX8_leave_85 (by decide) ?_
          refine lv_iconst (v := (0 : Int32)) hx hb dX8_leave_86 (by decide) ?_
          refine wrV noE_est C hP (hDA _) hA hS hE0 (c_X8_setLink l D k a _ y1 (0 : Int32) (0 : Int32)) my_X8_setLink ml_X8_90 (rM0 C hP) rfl hl.1 (rest := []) rfl (Nat.le_of_ble_eq_true rfl) ⟨rfl, rfl, Nat.le_of_ble_eq_true rfl, Nat.le_of_ble_eq_true rfl⟩ ⟨Nat.zero_le _, Nat.zero_le _⟩ dX8_leave_87 (fun H locs hP hS _ _ => ?_)
          refine lv_aload_n hx hb dX8_leave_90 rfl (lv_at hl 0 rfl) ?_
          refine lv_iload_n hx hb dX8_leave_91 rfl (lv_at hl 1 rfl) ?_
          refine lv_iconst (v := (1 : Int32)) hx hb dX8_leave_92 (by decide) ?_
          refine lv_iconst (v := (0 : Int32)) hx hb dX8_leave_93 (by decide) ?_
          refine wrV noE_est C hP (hDA _) hA hS hE0 (c_X8_setLink l D k a _ y1 (1 : Int32) (0 : Int32)) my_X8_setLink ml_X8_90 (rM0 C hP) rfl hl.1 (rest := []) rfl (Nat.le_of_ble_eq_true rfl) ⟨rfl, rfl, Nat.le_of_ble_eq_true rfl, Nat.le_of_ble_eq_true rfl⟩ ⟨Nat.zero_le _, Nat.zero_le _⟩ dX8_leave_94 (fun H locs hP hS _ _ => ?_)
          rw [← Option.some.inj h]
          exact wr_vret C hr hlocks hP hS dX8_leave_97
        · rw [if_neg c4] at h
          refine lv_aload_n hx hb dX8_leave_58 rfl (lv_at hl 0 rfl) ?_
          refine lv_iload_n hx hb dX8_leave_59 rfl (lv_at hl 3 rfl) ?_
          refine lv_iconst (v := (1 : Int32)) hx hb dX8_leave_60 (by decide) ?_
          refine rdV noE_est C hP (ef noE_est hS hE0) (c_X8_link l D k a _ y3 (1 : Int32)) my_X8_link ml_X8_70 (rM0 C hP) rfl hl.1 (rest := []) rfl (Nat.le_of_ble_eq_true rfl) ⟨rfl, rfl, Nat.le_of_ble_eq_true rfl, Nat.le_of_ble_eq_true rfl⟩ ⟨Nat.zero_le _, Nat.zero_le _⟩ dX8_leave_61 ?_
          refine lv_istore_n (lv' := [(3, .int (fX8_link S y3 (1 : Int32))), (0, .ref (a 0)), (1, .int y1), (2, .int y2), (4, .int y4)]) hx hb dX8_leave_64 rfl hl (by decide) rfl (fun ls hl => ?_)
          refine lv_iinc (v := (y4 + (1 : Int32))) (lv' := [(4, .int (y4 + (1 : Int32))), (3, .int (fX8_link S y3 (1 : Int32))), (0, .ref (a 0)), (1, .int y1), (2, .int y2)]) hx hb dX8_leave_65 hl (k := 4) rfl rfl (by decide) rfl (fun ls hl => ?_)
          refine lv_goto (tgt := 41) hx hb dX8_leave_68 (by decide) ?_
          exact ih _ _ _ _ _ _ _ ls hP hS (lv_sub hl [2, 3, 4, 1, 0] rfl) h
  rw [fX8_leave] at h
  refine lv_aload_n hx hb dX8_leave_0 rfl (lv_at hl 0 rfl) ?_
  refine lv_iload_n hx hb dX8_leave_1 rfl (lv_at hl 1 rfl) ?_
  refine lv_iconst (v := (0 : Int32)) hx hb dX8_leave_2 (by decide) ?_
  refine rdV noE_est C hP (ef noE_est hS hE0) (c_X8_link l D k a _ x1 (0 : Int32)) my_X8_link ml_X8_70 (rM0 C hP) rfl hl.1 (rest := []) rfl (Nat.le_of_ble_eq_true rfl) ⟨rfl, rfl, Nat.le_of_ble_eq_true rfl, Nat.le_of_ble_eq_true rfl⟩ ⟨Nat.zero_le _, Nat.zero_le _⟩ dX8_leave_3 ?_
  refine lv_istore_n (lv' := [(2, .int (fX8_link S x1 (0 : Int32))), (0, .ref (a 0)), (1, .int x1)]) hx hb dX8_leave_6 rfl hl (by decide) rfl (fun ls hl => ?_)
  refine lv_iload_n hx hb dX8_leave_7 rfl (lv_at hl 0 rfl) ?_
  refine lv_if_eq (tgt := 83) hx hb dX8_leave_8 (by decide) (fun c1 => ?_) (fun c1 => ?_)
  · rw [if_pos c1] at h
    refine lv_aload_n hx hb dX8_leave_83 rfl (lv_at hl 1 rfl) ?_
    refine lv_iload_n hx hb dX8_leave_84 rfl (lv_at hl 2 rfl) ?_
    refine lv_iconst (v := (0 : Int32)) hx hb dX8_leave_85 (by decide) ?_
    refine lv_iconst (v := (0 : Int32)) hx hb dX8_leave_86 (by decide) ?_
    refine wrV noE_est C hP (hDA _) hA hS hE0 (c_X8_setLink l D k a _ x1 (0 : Int32) (0 : Int32)) my_X8_setLink ml_X8_90 (rM0 C hP) rfl hl.1 (rest := []) rfl (Nat.le_of_ble_eq_true rfl) ⟨rfl, rfl, Nat.le_of_ble_eq_true rfl, Nat.le_of_ble_eq_true rfl⟩ ⟨Nat.zero_le _, Nat.zero_le _⟩ dX8_leave_87 (fun H locs hP hS _ _ => ?_)
    refine lv_aload_n hx hb dX8_leave_90 rfl (lv_at hl 1 rfl) ?_
    refine lv_iload_n hx hb dX8_leave_91 rfl (lv_at hl 2 rfl) ?_
    refine lv_iconst (v := (1 : Int32)) hx hb dX8_leave_92 (by decide) ?_
    refine lv_iconst (v := (0 : Int32)) hx hb dX8_leave_93 (by decide) ?_
    refine wrV noE_est C hP (hDA _) hA hS hE0 (c_X8_setLink l D k a _ x1 (1 : Int32) (0 : Int32)) my_X8_setLink ml_X8_90 (rM0 C hP) rfl hl.1 (rest := []) rfl (Nat.le_of_ble_eq_true rfl) ⟨rfl, rfl, Nat.le_of_ble_eq_true rfl, Nat.le_of_ble_eq_true rfl⟩ ⟨Nat.zero_le _, Nat.zero_le _⟩ dX8_leave_94 (fun H locs hP hS _ _ => ?_)
    rw [← Option.some.inj h]
    exact wr_vret C hr hlocks hP hS dX8_leave_97
  · rw [if_neg c1] at h
    refine lv_aload_n hx hb dX8_leave_11 rfl (lv_at hl 1 rfl) ?_
    refine lv_iload_n hx hb dX8_leave_12 rfl (lv_at hl 0 rfl) ?_
    refine lv_iconst (v := (2 : Int32)) hx hb dX8_leave_13 (by decide) ?_
    refine rdV noE_est C hP (ef noE_est hS hE0) (c_X8_link l D k a _ (fX8_link S x1 (0 : Int32)) (2 : Int32)) my_X8_link ml_X8_70 (rM0 C hP) rfl hl.1 (rest := []) rfl (Nat.le_of_ble_eq_true rfl) ⟨rfl, rfl, Nat.le_of_ble_eq_true rfl, Nat.le_of_ble_eq_true rfl⟩ ⟨Nat.zero_le _, Nat.zero_le _⟩ dX8_leave_14 ?_
    refine lv_istore_n (lv' := [(3, .int (fX8_link S (fX8_link S x1 (0 : Int32)) (2 : Int32))), (2, .int (fX8_link S x1 (0 : Int32))), (0, .ref (a 0)), (1, .int x1)]) hx hb dX8_leave_17 rfl hl (by decide) rfl (fun ls hl => ?_)
    refine lv_iload_n hx hb dX8_leave_18 rfl (lv_at hl 0 rfl) ?_
    refine lv_iload_n hx hb dX8_leave_19 rfl (lv_at hl 3 rfl) ?_
    refine lv_icmp_ne (tgt := 38) hx hb dX8_leave_20 (by decide) (fun c2 => ?_) (fun c2 => ?_)
    · rw [if_neg c2] at h
      refine lv_iconst (v := (0 : Int32)) hx hb dX8_leave_38 (by decide) ?_
      refine lv_istore (lv' := [(4, .int (0 : Int32)), (3, .int (fX8_link S (fX8_link S x1 (0 : Int32)) (2 : Int32))), (2, .int (fX8_link S x1 (0 : Int32))), (0, .ref (a 0)), (1, .int x1)]) hx hb dX8_leave_39 hl (by decide) rfl (fun ls hl => ?_)
      exact L 102 _ _ _ _ _ _ _ ls hP hS (lv_sub hl [3, 4, 2, 1, 0] rfl) h
    · rw [if_pos c2] at h
      refine lv_aload_n hx hb dX8_leave_23 rfl (lv_at hl 2 rfl) ?_
      refine lv_iload_n hx hb dX8_leave_24 rfl (lv_at hl 1 rfl) ?_
      refine lv_iconst (v := (2 : Int32)) hx hb dX8_leave_25 (by decide) ?_
      refine lv_aload_n hx hb dX8_leave_26 rfl (lv_at hl 2 rfl) ?_
      refine lv_iload_n hx hb dX8_leave_27 rfl (lv_at hl 3 rfl) ?_
      refine lv_iconst (v := (1 : Int32)) hx hb dX8_leave_28 (by decide) ?_
      refine rdV noE_est C hP (ef noE_est hS hE0) (c_X8_link l D k a _ x1 (1 : Int32)) my_X8_link ml_X8_70 (rM0 C hP) rfl hl.1 (rest := [.int (2 : Int32), .int (fX8_link S x1 (0 : Int32)), .ref (a 0)]) rfl (Nat.le_of_ble_eq_true rfl) ⟨rfl, rfl, Nat.le_of_ble_eq_true rfl, Nat.le_of_ble_eq_true rfl⟩ ⟨Nat.zero_le _, Nat.zero_le _⟩ dX8_leave_29 ?_
      refine wrV noE_est C hP (hDA _) hA hS hE0 (c_X8_setLink l D k a _ (fX8_link S x1 (0 : Int32)) (2 : Int32) (fX8_link S x1 (1 : Int32))) my_X8_setLink ml_X8_90 (rM0 C hP) rfl hl.1 (rest := []) rfl (Nat.le_of_ble_eq_true rfl) ⟨rfl, rfl, Nat.le_of_ble_eq_true rfl, Nat.le_of_ble_eq_true rfl⟩ ⟨Nat.zero_le _, Nat.zero_le _⟩ dX8_leave_32 (fun H locs hP hS _ _ => ?_)
      refine lv_goto (tgt := 83) hx hb dX8_leave_35 (by decide) ?_
      refine lv_aload_n hx hb dX8_leave_83 rfl (lv_at hl 2 rfl) ?_
      refine lv_iload_n hx hb dX8_leave_84 rfl (lv_at hl 3 rfl) ?_
      refine lv_iconst (v := (0 : Int32)) hx hb dX8_leave_85 (by decide) ?_
      refine lv_iconst (v := (0 : Int32)) hx hb dX8_leave_86 (by decide) ?_
      refine wrV noE_est C hP (hDA _) hA hS hE0 (c_X8_setLink l D k a _ x1 (0 : Int32) (0 : Int32)) my_X8_setLink ml_X8_90 (rM0 C hP) rfl hl.1 (rest := []) rfl (Nat.le_of_ble_eq_true rfl) ⟨rfl, rfl, Nat.le_of_ble_eq_true rfl, Nat.le_of_ble_eq_true rfl⟩ ⟨Nat.zero_le _, Nat.zero_le _⟩ dX8_leave_87 (fun H locs hP hS _ _ => ?_)
      refine lv_aload_n hx hb dX8_leave_90 rfl (lv_at hl 2 rfl) ?_
      refine lv_iload_n hx hb dX8_leave_91 rfl (lv_at hl 3 rfl) ?_
      refine lv_iconst (v := (1 : Int32)) hx hb dX8_leave_92 (by decide) ?_
      refine lv_iconst (v := (0 : Int32)) hx hb dX8_leave_93 (by decide) ?_
      refine wrV noE_est C hP (hDA _) hA hS hE0 (c_X8_setLink l D k a _ x1 (1 : Int32) (0 : Int32)) my_X8_setLink ml_X8_90 (rM0 C hP) rfl hl.1 (rest := []) rfl (Nat.le_of_ble_eq_true rfl) ⟨rfl, rfl, Nat.le_of_ble_eq_true rfl, Nat.le_of_ble_eq_true rfl⟩ ⟨Nat.zero_le _, Nat.zero_le _⟩ dX8_leave_94 (fun H locs hP hS _ _ => ?_)
      rw [← Option.some.inj h]
      exact wr_vret C hr hlocks hP hS dX8_leave_97
def fX8_remove (S : XS) (x1 : Int32) : Option (Int32 × XS) := (if (bI (fX8_isObject S x1)) = 0 then some ((-1 : Int32), S) else (ob (fX8_canLeave S x1) (fun u2 => (if (bI u2) = 0 then some ((-3 : Int32), S) else (ob (fX8_leave S x1) (fun u4 => some ((1 : Int32), u4)))))))
set_option maxRecDepth 100000 in
set_option maxHeartbeats 4000000 in
theorem c_X8_remove (l : Launch) (D : va_G) (k : Nat → ClassId) (a : Nat → Nat) (S : XS) (x1 : Int32) (u : Int32 × XS) (h : fX8_remove S x1 = some u) : Wr noE l D (tyk k) (wM k a S) (wM k a u.2) yX8_remove cX8_remove 2 (some .int) (rmm 5 111) [.ref (a 0), .int x1] (some (.int u.1)) := by
  refine wr_start (by decide) (Nat.le_of_ble_eq_true rfl) ?_
  intro p e s m below meth c A C hr hlocks hP hD0 hA hE0 ls hl
  have hDA : ∀ S, va_D A (wM k a S) := wM_D hD0
  have hS : va_S A s.heap s.heap [] := va_S.rf
  have hl : lv_has ls 2 [(0, .ref (a 0)), (1, .int x1)] := hl
  obtain ⟨⟨hx, hb, hml, hown, hts⟩, hK⟩ := id C
  rw [fX8_remove] at h
  refine lv_aload_n hx hb dX8_remove_0 rfl (lv_at hl 0 rfl) ?_
  refine lv_iload_n hx hb dX8_remove_1 rfl (lv_at hl 1 rfl) ?_
  refine rdV noE_est C hP (ef noE_est hS hE0) (c_X8_isObject l D k a _ x1) my_X8_isObject ml_X8_66 (rM0 C hP) rfl hl.1 (rest := []) rfl (Nat.le_of_ble_eq_true rfl) ⟨rfl, rfl, Nat.le_of_ble_eq_true rfl, Nat.le_of_ble_eq_true rfl⟩ ⟨Nat.zero_le _, Nat.zero_le _⟩ dX8_remove_2 ?_
  refine lv_if_ne (tgt := 10) hx hb dX8_remove_5 (by decide) (fun c1 => ?_) (fun c1 => ?_)
  · rw [if_neg c1] at h
    refine lv_aload_n hx hb dX8_remove_10 rfl (lv_at hl 0 rfl) ?_
    refine lv_iload_n hx hb dX8_remove_11 rfl (lv_at hl 1 rfl) ?_
    obtain ⟨u2, hhu2, h⟩ := ob_some h
    refine rdV noE_est C hP (ef noE_est hS hE0) (c_X8_canLeave l D k a _ x1 u2 hhu2) my_X8_canLeave ml_X8_94 (rM0 C hP) rfl hl.1 (rest := []) rfl (Nat.le_of_ble_eq_true rfl) ⟨rfl, rfl, Nat.le_of_ble_eq_true rfl, Nat.le_of_ble_eq_true rfl⟩ ⟨Nat.zero_le _, Nat.zero_le _⟩ dX8_remove_12 ?_
    refine lv_if_ne (tgt := 21) hx hb dX8_remove_15 (by decide) (fun c3 => ?_) (fun c3 => ?_)
    · rw [if_neg c3] at h
      refine lv_aload_n hx hb dX8_remove_21 rfl (lv_at hl 0 rfl) ?_
      refine lv_iload_n hx hb dX8_remove_22 rfl (lv_at hl 1 rfl) ?_
      obtain ⟨u4, hhu4, h⟩ := ob_some h
      refine wrV noE_est C hP (hDA _) hA hS hE0 (c_X8_leave l D k a _ x1 u4 hhu4) my_X8_leave ml_X8_97 (rM0 C hP) rfl hl.1 (rest := []) rfl (Nat.le_of_ble_eq_true rfl) ⟨rfl, rfl, Nat.le_of_ble_eq_true rfl, Nat.le_of_ble_eq_true rfl⟩ ⟨Nat.zero_le _, Nat.zero_le _⟩ dX8_remove_23 (fun H locs hP hS _ _ => ?_)
      refine lv_iconst (v := (1 : Int32)) hx hb dX8_remove_26 (by decide) ?_
      rw [← Option.some.inj h]
      exact wrM_iret C hr hlocks hP hS dX8_remove_27
    · rw [if_pos c3] at h
      refine lv_bipush (v := (-3 : Int32)) hx hb dX8_remove_18 (by decide) ?_
      rw [← Option.some.inj h]
      exact wrM_iret C hr hlocks hP hS dX8_remove_20
  · rw [if_pos c1] at h
    refine lv_iconst (v := (-1 : Int32)) hx hb dX8_remove_8 (by decide) ?_
    rw [← Option.some.inj h]
    exact wrM_iret C hr hlocks hP hS dX8_remove_9
def fX8_move (S : XS) (x1 : Int32) (x2 : Int32) : Option (Int32 × XS) := (if (bI (fX8_isObject S x1)) = 0 then some ((-1 : Int32), S) else (if (bI (fX8_isObject S x2)) = 0 then some ((-1 : Int32), S) else (ob (fX8_canLeave S x1) (fun u3 => (if (bI u3) = 0 then some ((-3 : Int32), S) else (if (S.1 8) = 0 then (ob (fX8_leave S x1) (fun u6 => some ((1 : Int32), (fX8_setLink (fX8_setLink (fX8_setLink u6 x1 (1 : Int32) (fX8_link u6 x2 (2 : Int32))) x1 (0 : Int32) x2) x2 (2 : Int32) x1)))) else (ob (fX8_comes S x2 (0 : Int32) x1) (fun u7 => (if (bI u7) = 0 then (ob (fX8_leave S x1) (fun u9 => some ((1 : Int32), (fX8_setLink (fX8_setLink (fX8_setLink u9 x1 (1 : Int32) (fX8_link u9 x2 (2 : Int32))) x1 (0 : Int32) x2) x2 (2 : Int32) x1)))) else some ((-3 : Int32), S))))))))))
set_option maxRecDepth 100000 in
set_option maxHeartbeats 4000000 in
theorem c_X8_move (l : Launch) (D : va_G) (k : Nat → ClassId) (a : Nat → Nat) (S : XS) (x1 : Int32) (x2 : Int32) (u : Int32 × XS) (h : fX8_move S x1 x2 = some u) : Wr noE l D (tyk k) (wM k a S) (wM k a u.2) yX8_move cX8_move 3 (some .int) (rmm 5 111) [.ref (a 0), .int x1, .int x2] (some (.int u.1)) := by
  refine wr_start (by decide) (Nat.le_of_ble_eq_true rfl) ?_
  intro p e s m below meth c A C hr hlocks hP hD0 hA hE0 ls hl
  have hDA : ∀ S, va_D A (wM k a S) := wM_D hD0
  have hS : va_S A s.heap s.heap [] := va_S.rf
  have hl : lv_has ls 3 [(0, .ref (a 0)), (1, .int x1), (2, .int x2)] := hl
  obtain ⟨⟨hx, hb, hml, hown, hts⟩, hK⟩ := id C
  rw [fX8_move] at h
  refine lv_aload_n hx hb dX8_move_0 rfl (lv_at hl 0 rfl) ?_
  refine lv_iload_n hx hb dX8_move_1 rfl (lv_at hl 1 rfl) ?_
  refine rdV noE_est C hP (ef noE_est hS hE0) (c_X8_isObject l D k a _ x1) my_X8_isObject ml_X8_66 (rM0 C hP) rfl hl.1 (rest := []) rfl (Nat.le_of_ble_eq_true rfl) ⟨rfl, rfl, Nat.le_of_ble_eq_true rfl, Nat.le_of_ble_eq_true rfl⟩ ⟨Nat.zero_le _, Nat.zero_le _⟩ dX8_move_2 ?_
  refine lv_if_eq (tgt := 16) hx hb dX8_move_5 (by decide) (fun c1 => ?_) (fun c1 => ?_)
  · rw [if_pos c1] at h
    refine lv_iconst (v := (-1 : Int32)) hx hb dX8_move_16 (by decide) ?_
    rw [← Option.some.inj h]
    exact wrM_iret C hr hlocks hP hS dX8_move_17
  · rw [if_neg c1] at h
    refine lv_aload_n hx hb dX8_move_8 rfl (lv_at hl 0 rfl) ?_
    refine lv_iload_n hx hb dX8_move_9 rfl (lv_at hl 2 rfl) ?_
    refine rdV noE_est C hP (ef noE_est hS hE0) (c_X8_isObject l D k a _ x2) my_X8_isObject ml_X8_66 (rM0 C hP) rfl hl.1 (rest := []) rfl (Nat.le_of_ble_eq_true rfl) ⟨rfl, rfl, Nat.le_of_ble_eq_true rfl, Nat.le_of_ble_eq_true rfl⟩ ⟨Nat.zero_le _, Nat.zero_le _⟩ dX8_move_10 ?_
    refine lv_if_ne (tgt := 18) hx hb dX8_move_13 (by decide) (fun c2 => ?_) (fun c2 => ?_)
    · rw [if_neg c2] at h
      refine lv_aload_n hx hb dX8_move_18 rfl (lv_at hl 0 rfl) ?_
      refine lv_iload_n hx hb dX8_move_19 rfl (lv_at hl 1 rfl) ?_
      obtain ⟨u3, hhu3, h⟩ := ob_some h
      refine rdV noE_est C hP (ef noE_est hS hE0) (c_X8_canLeave l D k a _ x1 u3 hhu3) my_X8_canLeave ml_X8_94 (rM0 C hP) rfl hl.1 (rest := []) rfl (Nat.le_of_ble_eq_true rfl) ⟨rfl, rfl, Nat.le_of_ble_eq_true rfl, Nat.le_of_ble_eq_true rfl⟩ ⟨Nat.zero_le _, Nat.zero_le _⟩ dX8_move_20 ?_
      refine lv_if_eq (tgt := 43) hx hb dX8_move_23 (by decide) (fun c4 => ?_) (fun c4 => ?_)
      · rw [if_pos c4] at h
        refine lv_bipush (v := (-3 : Int32)) hx hb dX8_move_43 (by decide) ?_
        rw [← Option.some.inj h]
        exact wrM_iret C hr hlocks hP hS dX8_move_45
      · rw [if_neg c4] at h
        refine lv_aload_n hx hb dX8_move_26 rfl (lv_at hl 0 rfl) ?_
        refine gM0_strict C hP fl_X8_80 dX8_move_27 (v := (S.1 8)) rfl ?_
        refine lv_if_eq (tgt := 46) hx hb dX8_move_30 (by decide) (fun c5 => ?_) (fun c5 => ?_)
        · rw [if_pos c5] at h
          refine lv_aload_n hx hb dX8_move_46 rfl (lv_at hl 0 rfl) ?_
          refine lv_iload_n hx hb dX8_move_47 rfl (lv_at hl 1 rfl) ?_
          obtain ⟨u6, hhu6, h⟩ := ob_some h
          refine wrV noE_est C hP (hDA _) hA hS hE0 (c_X8_leave l D k a _ x1 u6 hhu6) my_X8_leave ml_X8_97 (rM0 C hP) rfl hl.1 (rest := []) rfl (Nat.le_of_ble_eq_true rfl) ⟨rfl, rfl, Nat.le_of_ble_eq_true rfl, Nat.le_of_ble_eq_true rfl⟩ ⟨Nat.zero_le _, Nat.zero_le _⟩ dX8_move_48 (fun H locs hP hS _ _ => ?_)
          refine lv_aload_n hx hb dX8_move_51 rfl (lv_at hl 0 rfl) ?_
          refine lv_iload_n hx hb dX8_move_52 rfl (lv_at hl 1 rfl) ?_
          refine lv_iconst (v := (1 : Int32)) hx hb dX8_move_53 (by decide) ?_
          refine lv_aload_n hx hb dX8_move_54 rfl (lv_at hl 0 rfl) ?_
          refine lv_iload_n hx hb dX8_move_55 rfl (lv_at hl 2 rfl) ?_
          refine lv_iconst (v := (2 : Int32)) hx hb dX8_move_56 (by decide) ?_
          refine rdV noE_est C hP (ef noE_est hS hE0) (c_X8_link l D k a _ x2 (2 : Int32)) my_X8_link ml_X8_70 (rM0 C hP) rfl hl.1 (rest := [.int (1 : Int32), .int x1, .ref (a 0)]) rfl (Nat.le_of_ble_eq_true rfl) ⟨rfl, rfl, Nat.le_of_ble_eq_true rfl, Nat.le_of_ble_eq_true rfl⟩ ⟨Nat.zero_le _, Nat.zero_le _⟩ dX8_move_57 ?_
          refine wrV noE_est C hP (hDA _) hA hS hE0 (c_X8_setLink l D k a _ x1 (1 : Int32) (fX8_link u6 x2 (2 : Int32))) my_X8_setLink ml_X8_90 (rM0 C hP) rfl hl.1 (rest := []) rfl (Nat.le_of_ble_eq_true rfl) ⟨rfl, rfl, Nat.le_of_ble_eq_true rfl, Nat.le_of_ble_eq_true rfl⟩ ⟨Nat.zero_le _, Nat.zero_le _⟩ dX8_move_60 (fun H locs hP hS _ _ => ?_)
          refine lv_aload_n hx hb dX8_move_63 rfl (lv_at hl 0 rfl) ?_
          refine lv_iload_n hx hb dX8_move_64 rfl (lv_at hl 1 rfl) ?_
          refine lv_iconst (v := (0 : Int32)) hx hb dX8_move_65 (by decide) ?_
          refine lv_iload_n hx hb dX8_move_66 rfl (lv_at hl 2 rfl) ?_
          refine wrV noE_est C hP (hDA _) hA hS hE0 (c_X8_setLink l D k a _ x1 (0 : Int32) x2) my_X8_setLink ml_X8_90 (rM0 C hP) rfl hl.1 (rest := []) rfl (Nat.le_of_ble_eq_true rfl) ⟨rfl, rfl, Nat.le_of_ble_eq_true rfl, Nat.le_of_ble_eq_true rfl⟩ ⟨Nat.zero_le _, Nat.zero_le _⟩ dX8_move_67 (fun H locs hP hS _ _ => ?_)
          refine lv_aload_n hx hb dX8_move_70 rfl (lv_at hl 0 rfl) ?_
          refine lv_iload_n hx hb dX8_move_71 rfl (lv_at hl 2 rfl) ?_
          refine lv_iconst (v := (2 : Int32)) hx hb dX8_move_72 (by decide) ?_
          refine lv_iload_n hx hb dX8_move_73 rfl (lv_at hl 1 rfl) ?_
          refine wrV noE_est C hP (hDA _) hA hS hE0 (c_X8_setLink l D k a _ x2 (2 : Int32) x1) my_X8_setLink ml_X8_90 (rM0 C hP) rfl hl.1 (rest := []) rfl (Nat.le_of_ble_eq_true rfl) ⟨rfl, rfl, Nat.le_of_ble_eq_true rfl, Nat.le_of_ble_eq_true rfl⟩ ⟨Nat.zero_le _, Nat.zero_le _⟩ dX8_move_74 (fun H locs hP hS _ _ => ?_)
          refine lv_iconst (v := (1 : Int32)) hx hb dX8_move_77 (by decide) ?_
          rw [← Option.some.inj h]
          exact wrM_iret C hr hlocks hP hS dX8_move_78
        · rw [if_neg c5] at h
          refine lv_aload_n hx hb dX8_move_33 rfl (lv_at hl 0 rfl) ?_
          refine lv_iload_n hx hb dX8_move_34 rfl (lv_at hl 2 rfl) ?_
          refine lv_iconst (v := (0 : Int32)) hx hb dX8_move_35 (by decide) ?_
          refine lv_iload_n hx hb dX8_move_36 rfl (lv_at hl 1 rfl) ?_
          obtain ⟨u7, hhu7, h⟩ := ob_some h
          refine rdV noE_est C hP (ef noE_est hS hE0) (c_X8_comes l D k a _ x2 (0 : Int32) x1 u7 hhu7) my_X8_comes ml_X8_86 (rM0 C hP) rfl hl.1 (rest := []) rfl (Nat.le_of_ble_eq_true rfl) ⟨rfl, rfl, Nat.le_of_ble_eq_true rfl, Nat.le_of_ble_eq_true rfl⟩ ⟨Nat.zero_le _, Nat.zero_le _⟩ dX8_move_37 ?_
          refine lv_if_eq (tgt := 46) hx hb dX8_move_40 (by decide) (fun c8 => ?_) (fun c8 => ?_)
          · rw [if_pos c8] at h
            refine lv_aload_n hx hb dX8_move_46 rfl (lv_at hl 0 rfl) ?_
            refine lv_iload_n hx hb dX8_move_47 rfl (lv_at hl 1 rfl) ?_
            obtain ⟨u9, hhu9, h⟩ := ob_some h
            refine wrV noE_est C hP (hDA _) hA hS hE0 (c_X8_leave l D k a _ x1 u9 hhu9) my_X8_leave ml_X8_97 (rM0 C hP) rfl hl.1 (rest := []) rfl (Nat.le_of_ble_eq_true rfl) ⟨rfl, rfl, Nat.le_of_ble_eq_true rfl, Nat.le_of_ble_eq_true rfl⟩ ⟨Nat.zero_le _, Nat.zero_le _⟩ dX8_move_48 (fun H locs hP hS _ _ => ?_)
            refine lv_aload_n hx hb dX8_move_51 rfl (lv_at hl 0 rfl) ?_
            refine lv_iload_n hx hb dX8_move_52 rfl (lv_at hl 1 rfl) ?_
            refine lv_iconst (v := (1 : Int32)) hx hb dX8_move_53 (by decide) ?_
            refine lv_aload_n hx hb dX8_move_54 rfl (lv_at hl 0 rfl) ?_
            refine lv_iload_n hx hb dX8_move_55 rfl (lv_at hl 2 rfl) ?_
            refine lv_iconst (v := (2 : Int32)) hx hb dX8_move_56 (by decide) ?_
            refine rdV noE_est C hP (ef noE_est hS hE0) (c_X8_link l D k a _ x2 (2 : Int32)) my_X8_link ml_X8_70 (rM0 C hP) rfl hl.1 (rest := [.int (1 : Int32), .int x1, .ref (a 0)]) rfl (Nat.le_of_ble_eq_true rfl) ⟨rfl, rfl, Nat.le_of_ble_eq_true rfl, Nat.le_of_ble_eq_true rfl⟩ ⟨Nat.zero_le _, Nat.zero_le _⟩ dX8_move_57 ?_
            refine wrV noE_est C hP (hDA _) hA hS hE0 (c_X8_setLink l D k a _ x1 (1 : Int32) (fX8_link u9 x2 (2 : Int32))) my_X8_setLink ml_X8_90 (rM0 C hP) rfl hl.1 (rest := []) rfl (Nat.le_of_ble_eq_true rfl) ⟨rfl, rfl, Nat.le_of_ble_eq_true rfl, Nat.le_of_ble_eq_true rfl⟩ ⟨Nat.zero_le _, Nat.zero_le _⟩ dX8_move_60 (fun H locs hP hS _ _ => ?_)
            refine lv_aload_n hx hb dX8_move_63 rfl (lv_at hl 0 rfl) ?_
            refine lv_iload_n hx hb dX8_move_64 rfl (lv_at hl 1 rfl) ?_
            refine lv_iconst (v := (0 : Int32)) hx hb dX8_move_65 (by decide) ?_
            refine lv_iload_n hx hb dX8_move_66 rfl (lv_at hl 2 rfl) ?_
            refine wrV noE_est C hP (hDA _) hA hS hE0 (c_X8_setLink l D k a _ x1 (0 : Int32) x2) my_X8_setLink ml_X8_90 (rM0 C hP) rfl hl.1 (rest := []) rfl (Nat.le_of_ble_eq_true rfl) ⟨rfl, rfl, Nat.le_of_ble_eq_true rfl, Nat.le_of_ble_eq_true rfl⟩ ⟨Nat.zero_le _, Nat.zero_le _⟩ dX8_move_67 (fun H locs hP hS _ _ => ?_)
            refine lv_aload_n hx hb dX8_move_70 rfl (lv_at hl 0 rfl) ?_
            refine lv_iload_n hx hb dX8_move_71 rfl (lv_at hl 2 rfl) ?_
            refine lv_iconst (v := (2 : Int32)) hx hb dX8_move_72 (by decide) ?_
            refine lv_iload_n hx hb dX8_move_73 rfl (lv_at hl 1 rfl) ?_
            refine wrV noE_est C hP (hDA _) hA hS hE0 (c_X8_setLink l D k a _ x2 (2 : Int32) x1) my_X8_setLink ml_X8_90 (rM0 C hP) rfl hl.1 (rest := []) rfl (Nat.le_of_ble_eq_true rfl) ⟨rfl, rfl, Nat.le_of_ble_eq_true rfl, Nat.le_of_ble_eq_true rfl⟩ ⟨Nat.zero_le _, Nat.zero_le _⟩ dX8_move_74 (fun H locs hP hS _ _ => ?_)
            refine lv_iconst (v := (1 : Int32)) hx hb dX8_move_77 (by decide) ?_
            rw [← Option.some.inj h]
            exact wrM_iret C hr hlocks hP hS dX8_move_78
          · rw [if_neg c8] at h
            refine lv_bipush (v := (-3 : Int32)) hx hb dX8_move_43 (by decide) ?_
            rw [← Option.some.inj h]
            exact wrM_iret C hr hlocks hP hS dX8_move_45
    · rw [if_pos c2] at h
      refine lv_iconst (v := (-1 : Int32)) hx hb dX8_move_16 (by decide) ?_
      rw [← Option.some.inj h]
      exact wrM_iret C hr hlocks hP hS dX8_move_17
def fX8_attribute (S : XS) (x1 : Int32) (x2 : Int32) (x3 : Int32) : Int32 × XS := (if (bI (fX8_isObject S x1)) = 0 then ((-1 : Int32), S) else (if x2 < 0 then ((-2 : Int32), S) else (if (S.1 2) = 0 then (if (32 : Int32) ≤ x2 then ((-2 : Int32), S) else (if x3 < 0 then ((-2 : Int32), S) else (if x3 ≤ (2 : Int32) then (if x3 = 0 then (if ((fX8_at S ((fX8_entry S x1) + (x2 / (8 : Int32)))) &&& ((128 : Int32) >>> ((x2 - x2 / (8 : Int32) * (8 : Int32)) &&& 31))) = 0 then ((0 : Int32), S) else ((1 : Int32), S)) else (if x3 = (1 : Int32) then ((1 : Int32), (fX8_set S ((fX8_entry S x1) + (x2 / (8 : Int32))) ((fX8_at S ((fX8_entry S x1) + (x2 / (8 : Int32)))) ||| ((128 : Int32) >>> ((x2 - x2 / (8 : Int32) * (8 : Int32)) &&& 31))))) else ((1 : Int32), (fX8_set S ((fX8_entry S x1) + (x2 / (8 : Int32))) ((fX8_at S ((fX8_entry S x1) + (x2 / (8 : Int32)))) &&& (((128 : Int32) >>> ((x2 - x2 / (8 : Int32) * (8 : Int32)) &&& 31)) ^^^ (-1 : Int32))))))) else ((-2 : Int32), S)))) else (if (48 : Int32) ≤ x2 then ((-2 : Int32), S) else (if x3 < 0 then ((-2 : Int32), S) else (if x3 ≤ (2 : Int32) then (if x3 = 0 then (if ((fX8_at S ((fX8_entry S x1) + (x2 / (8 : Int32)))) &&& ((128 : Int32) >>> ((x2 - x2 / (8 : Int32) * (8 : Int32)) &&& 31))) = 0 then ((0 : Int32), S) else ((1 : Int32), S)) else (if x3 = (1 : Int32) then ((1 : Int32), (fX8_set S ((fX8_entry S x1) + (x2 / (8 : Int32))) ((fX8_at S ((fX8_entry S x1) + (x2 / (8 : Int32)))) ||| ((128 : Int32) >>> ((x2 - x2 / (8 : Int32) * (8 : Int32)) &&& 31))))) else ((1 : Int32), (fX8_set S ((fX8_entry S x1) + (x2 / (8 : Int32))) ((fX8_at S ((fX8_entry S x1) + (x2 / (8 : Int32)))) &&& (((128 : Int32) >>> ((x2 - x2 / (8 : Int32) * (8 : Int32)) &&& 31)) ^^^ (-1 : Int32))))))) else ((-2 : Int32), S)))))))
set_option maxRecDepth 100000 in
set_option maxHeartbeats 4000000 in
theorem c_X8_attribute (l : Launch) (D : va_G) (k : Nat → ClassId) (a : Nat → Nat) (S : XS) (x1 : Int32) (x2 : Int32) (x3 : Int32) : Wr noE l D (tyk k) (wM k a S) (wM k a (fX8_attribute S x1 x2 x3).2) yX8_attribute cX8_attribute 6 (some .int) (rmm 1 22) [.ref (a 0), .int x1, .int x2, .int x3] (some (.int (fX8_attribute S x1 x2 x3).1)) := by
  generalize h : fX8_attribute S x1 x2 x3 = u
  refine wr_start (by decide) (Nat.le_of_ble_eq_true rfl) ?_
  intro p e s m below meth c A C hr hlocks hP hD0 hA hE0 ls hl
  have hDA : ∀ S, va_D A (wM k a S) := wM_D hD0
  have hS : va_S A s.heap s.heap [] := va_S.rf
  have hl : lv_has ls 6 [(0, .ref (a 0)), (1, .int x1), (2, .int x2), (3, .int x3)] := hl
  obtain ⟨⟨hx, hb, hml, hown, hts⟩, hK⟩ := id C
  rw [fX8_attribute] at h
  refine lv_aload_n hx hb dX8_attribute_0 rfl (lv_at hl 0 rfl) ?_
  refine lv_iload_n hx hb dX8_attribute_1 rfl (lv_at hl 1 rfl) ?_
  refine rdV noE_est C hP (ef noE_est hS hE0) (c_X8_isObject l D k a _ x1) my_X8_isObject ml_X8_66 (rM0 C hP) rfl hl.1 (rest := []) rfl (Nat.le_of_ble_eq_true rfl) ⟨rfl, rfl, Nat.le_of_ble_eq_true rfl, Nat.le_of_ble_eq_true rfl⟩ ⟨Nat.zero_le _, Nat.zero_le _⟩ dX8_attribute_2 ?_
  refine lv_if_ne (tgt := 10) hx hb dX8_attribute_5 (by decide) (fun c1 => ?_) (fun c1 => ?_)
  · rw [if_neg c1] at h
    refine lv_iload_n hx hb dX8_attribute_10 rfl (lv_at hl 2 rfl) ?_
    refine lv_if_lt (tgt := 41) hx hb dX8_attribute_11 (by decide) (fun c2 => ?_) (fun c2 => ?_)
    · rw [if_pos c2] at h
      refine lv_bipush (v := (-2 : Int32)) hx hb dX8_attribute_41 (by decide) ?_
      rw [← h]
      exact wrM_iret C hr hlocks hP hS dX8_attribute_43
    · rw [if_neg c2] at h
      refine lv_iload_n hx hb dX8_attribute_14 rfl (lv_at hl 2 rfl) ?_
      refine lv_aload_n hx hb dX8_attribute_15 rfl (lv_at hl 0 rfl) ?_
      refine gM0_wide C hP fl_X8_39 dX8_attribute_16 (v := (S.1 2)) rfl ?_
      refine lv_if_eq (tgt := 27) hx hb dX8_attribute_19 (by decide) (fun c3 => ?_) (fun c3 => ?_)
      · rw [if_pos c3] at h
        refine lv_bipush (v := (32 : Int32)) hx hb dX8_attribute_27 (by decide) ?_
        refine lv_icmp_ge (tgt := 41) hx hb dX8_attribute_29 (by decide) (fun c4 => ?_) (fun c4 => ?_)
        · rw [if_pos c4] at h
          refine lv_bipush (v := (-2 : Int32)) hx hb dX8_attribute_41 (by decide) ?_
          rw [← h]
          exact wrM_iret C hr hlocks hP hS dX8_attribute_43
        · rw [if_neg c4] at h
          refine lv_iload_n hx hb dX8_attribute_32 rfl (lv_at hl 3 rfl) ?_
          refine lv_if_lt (tgt := 41) hx hb dX8_attribute_33 (by decide) (fun c5 => ?_) (fun c5 => ?_)
          · rw [if_pos c5] at h
            refine lv_bipush (v := (-2 : Int32)) hx hb dX8_attribute_41 (by decide) ?_
            rw [← h]
            exact wrM_iret C hr hlocks hP hS dX8_attribute_43
          · rw [if_neg c5] at h
            refine lv_iload_n hx hb dX8_attribute_36 rfl (lv_at hl 3 rfl) ?_
            refine lv_iconst (v := (2 : Int32)) hx hb dX8_attribute_37 (by decide) ?_
            refine lv_icmp_le (tgt := 44) hx hb dX8_attribute_38 (by decide) (fun c6 => ?_) (fun c6 => ?_)
            · rw [if_pos c6] at h
              refine lv_aload_n hx hb dX8_attribute_44 rfl (lv_at hl 0 rfl) ?_
              refine lv_iload_n hx hb dX8_attribute_45 rfl (lv_at hl 1 rfl) ?_
              refine rdV noE_est C hP (ef noE_est hS hE0) (c_X8_entry l D k a _ x1) my_X8_entry ml_X8_54 (rM0 C hP) rfl hl.1 (rest := []) rfl (Nat.le_of_ble_eq_true rfl) ⟨rfl, rfl, Nat.le_of_ble_eq_true rfl, Nat.le_of_ble_eq_true rfl⟩ ⟨Nat.zero_le _, Nat.zero_le _⟩ dX8_attribute_46 ?_
              refine lv_iload_n hx hb dX8_attribute_49 rfl (lv_at hl 2 rfl) ?_
              refine lv_bipush (v := (8 : Int32)) hx hb dX8_attribute_50 (by decide) ?_
              refine lv_idiv hx hb dX8_attribute_52 (by decide) ?_
              refine lv_iadd hx hb dX8_attribute_53 ?_
              refine lv_istore (lv' := [(4, .int ((fX8_entry S x1) + (x2 / (8 : Int32)))), (0, .ref (a 0)), (1, .int x1), (2, .int x2), (3, .int x3)]) hx hb dX8_attribute_54 hl (by decide) rfl (fun ls hl => ?_)
              refine lv_sipush (v := (128 : Int32)) hx hb dX8_attribute_56 (by decide) ?_
              refine lv_iload_n hx hb dX8_attribute_59 rfl (lv_at hl 3 rfl) ?_
              refine lv_bipush (v := (8 : Int32)) hx hb dX8_attribute_60 (by decide) ?_
              refine lv_irem hx hb dX8_attribute_62 (by decide) ?_
              refine lv_ishr hx hb dX8_attribute_63 ?_
              refine lv_istore (lv' := [(5, .int ((128 : Int32) >>> ((x2 - x2 / (8 : Int32) * (8 : Int32)) &&& 31))), (4, .int ((fX8_entry S x1) + (x2 / (8 : Int32)))), (0, .ref (a 0)), (1, .int x1), (2, .int x2), (3, .int x3)]) hx hb dX8_attribute_64 hl (by decide) rfl (fun ls hl => ?_)
              refine lv_iload_n hx hb dX8_attribute_66 rfl (lv_at hl 5 rfl) ?_
              refine lv_if_ne (tgt := 88) hx hb dX8_attribute_67 (by decide) (fun c7 => ?_) (fun c7 => ?_)
              · rw [if_neg c7] at h
                refine lv_aload_n hx hb dX8_attribute_88 rfl (lv_at hl 2 rfl) ?_
                refine lv_iload hx hb dX8_attribute_89 (lv_at hl 1 rfl) ?_
                refine lv_iload_n hx hb dX8_attribute_91 rfl (lv_at hl 5 rfl) ?_
                refine lv_iconst (v := (1 : Int32)) hx hb dX8_attribute_92 (by decide) ?_
                refine lv_icmp_ne (tgt := 108) hx hb dX8_attribute_93 (by decide) (fun c8 => ?_) (fun c8 => ?_)
                · rw [if_neg c8] at h
                  refine lv_aload_n hx hb dX8_attribute_108 rfl (lv_at hl 2 rfl) ?_
                  refine lv_iload hx hb dX8_attribute_109 (lv_at hl 1 rfl) ?_
                  refine rdV noE_est C hP (ef noE_est hS hE0) (c_X8_at l D k a _ ((fX8_entry S x1) + (x2 / (8 : Int32)))) my_X8_at ml_X8_46 (rM0 C hP) rfl hl.1 (rest := [.int ((fX8_entry S x1) + (x2 / (8 : Int32))), .ref (a 0)]) rfl (Nat.le_of_ble_eq_true rfl) ⟨rfl, rfl, Nat.le_of_ble_eq_true rfl, Nat.le_of_ble_eq_true rfl⟩ ⟨Nat.zero_le _, Nat.zero_le _⟩ dX8_attribute_111 ?_
                  refine lv_iload hx hb dX8_attribute_114 (lv_at hl 0 rfl) ?_
                  refine lv_iconst (v := (-1 : Int32)) hx hb dX8_attribute_116 (by decide) ?_
                  refine lv_ixor hx hb dX8_attribute_117 ?_
                  refine lv_iand hx hb dX8_attribute_118 ?_
                  refine wrV noE_est C hP (hDA _) hA hS hE0 (c_X8_set l D k a _ ((fX8_entry S x1) + (x2 / (8 : Int32))) ((fX8_at S ((fX8_entry S x1) + (x2 / (8 : Int32)))) &&& (((128 : Int32) >>> ((x2 - x2 / (8 : Int32) * (8 : Int32)) &&& 31)) ^^^ (-1 : Int32)))) my_X8_set ml_X8_50 (rM0 C hP) rfl hl.1 (rest := []) rfl (Nat.le_of_ble_eq_true rfl) ⟨rfl, rfl, Nat.le_of_ble_eq_true rfl, Nat.le_of_ble_eq_true rfl⟩ ⟨Nat.zero_le _, Nat.zero_le _⟩ dX8_attribute_119 (fun H locs hP hS _ _ => ?_)
                  refine lv_iconst (v := (1 : Int32)) hx hb dX8_attribute_122 (by decide) ?_
                  rw [← h]
                  exact wrM_iret C hr hlocks hP hS dX8_attribute_123
                · rw [if_pos c8] at h
                  refine lv_aload_n hx hb dX8_attribute_96 rfl (lv_at hl 2 rfl) ?_
                  refine lv_iload hx hb dX8_attribute_97 (lv_at hl 1 rfl) ?_
                  refine rdV noE_est C hP (ef noE_est hS hE0) (c_X8_at l D k a _ ((fX8_entry S x1) + (x2 / (8 : Int32)))) my_X8_at ml_X8_46 (rM0 C hP) rfl hl.1 (rest := [.int ((fX8_entry S x1) + (x2 / (8 : Int32))), .ref (a 0)]) rfl (Nat.le_of_ble_eq_true rfl) ⟨rfl, rfl, Nat.le_of_ble_eq_true rfl, Nat.le_of_ble_eq_true rfl⟩ ⟨Nat.zero_le _, Nat.zero_le _⟩ dX8_attribute_99 ?_
                  refine lv_iload hx hb dX8_attribute_102 (lv_at hl 0 rfl) ?_
                  refine lv_ior hx hb dX8_attribute_104 ?_
                  refine lv_goto (tgt := 119) hx hb dX8_attribute_105 (by decide) ?_
                  refine wrV noE_est C hP (hDA _) hA hS hE0 (c_X8_set l D k a _ ((fX8_entry S x1) + (x2 / (8 : Int32))) ((fX8_at S ((fX8_entry S x1) + (x2 / (8 : Int32)))) ||| ((128 : Int32) >>> ((x2 - x2 / (8 : Int32) * (8 : Int32)) &&& 31)))) my_X8_set ml_X8_50 (rM0 C hP) rfl hl.1 (rest := []) rfl (Nat.le_of_ble_eq_true rfl) ⟨rfl, rfl, Nat.le_of_ble_eq_true rfl, Nat.le_of_ble_eq_true rfl⟩ ⟨Nat.zero_le _, Nat.zero_le _⟩ dX8_attribute_119 (fun H locs hP hS _ _ => ?_)
                  refine lv_iconst (v := (1 : Int32)) hx hb dX8_attribute_122 (by decide) ?_
                  rw [← h]
                  exact wrM_iret C hr hlocks hP hS dX8_attribute_123
              · rw [if_pos c7] at h
                refine lv_aload_n hx hb dX8_attribute_70 rfl (lv_at hl 2 rfl) ?_
                refine lv_iload hx hb dX8_attribute_71 (lv_at hl 1 rfl) ?_
                refine rdV noE_est C hP (ef noE_est hS hE0) (c_X8_at l D k a _ ((fX8_entry S x1) + (x2 / (8 : Int32)))) my_X8_at ml_X8_46 (rM0 C hP) rfl hl.1 (rest := []) rfl (Nat.le_of_ble_eq_true rfl) ⟨rfl, rfl, Nat.le_of_ble_eq_true rfl, Nat.le_of_ble_eq_true rfl⟩ ⟨Nat.zero_le _, Nat.zero_le _⟩ dX8_attribute_73 ?_
                refine lv_iload hx hb dX8_attribute_76 (lv_at hl 0 rfl) ?_
                refine lv_iand hx hb dX8_attribute_78 ?_
                refine lv_if_eq (tgt := 86) hx hb dX8_attribute_79 (by decide) (fun c9 => ?_) (fun c9 => ?_)
                · rw [if_pos c9] at h
                  refine lv_iconst (v := (0 : Int32)) hx hb dX8_attribute_86 (by decide) ?_
                  rw [← h]
                  exact wrM_iret C hr hlocks hP hS dX8_attribute_87
                · rw [if_neg c9] at h
                  refine lv_iconst (v := (1 : Int32)) hx hb dX8_attribute_82 (by decide) ?_
                  refine lv_goto (tgt := 87) hx hb dX8_attribute_83 (by decide) ?_
                  rw [← h]
                  exact wrM_iret C hr hlocks hP hS dX8_attribute_87
            · rw [if_neg c6] at h
              refine lv_bipush (v := (-2 : Int32)) hx hb dX8_attribute_41 (by decide) ?_
              rw [← h]
              exact wrM_iret C hr hlocks hP hS dX8_attribute_43
      · rw [if_neg c3] at h
        refine lv_bipush (v := (48 : Int32)) hx hb dX8_attribute_22 (by decide) ?_
        refine lv_goto (tgt := 29) hx hb dX8_attribute_24 (by decide) ?_
        refine lv_icmp_ge (tgt := 41) hx hb dX8_attribute_29 (by decide) (fun c10 => ?_) (fun c10 => ?_)
        · rw [if_pos c10] at h
          refine lv_bipush (v := (-2 : Int32)) hx hb dX8_attribute_41 (by decide) ?_
          rw [← h]
          exact wrM_iret C hr hlocks hP hS dX8_attribute_43
        · rw [if_neg c10] at h
          refine lv_iload_n hx hb dX8_attribute_32 rfl (lv_at hl 3 rfl) ?_
          refine lv_if_lt (tgt := 41) hx hb dX8_attribute_33 (by decide) (fun c11 => ?_) (fun c11 => ?_)
          · rw [if_pos c11] at h
            refine lv_bipush (v := (-2 : Int32)) hx hb dX8_attribute_41 (by decide) ?_
            rw [← h]
            exact wrM_iret C hr hlocks hP hS dX8_attribute_43
          · rw [if_neg c11] at h
            refine lv_iload_n hx hb dX8_attribute_36 rfl (lv_at hl 3 rfl) ?_
            refine lv_iconst (v := (2 : Int32)) hx hb dX8_attribute_37 (by decide) ?_
            refine lv_icmp_le (tgt := 44) hx hb dX8_attribute_38 (by decide) (fun c12 => ?_) (fun c12 => ?_)
            · rw [if_pos c12] at h
              refine lv_aload_n hx hb dX8_attribute_44 rfl (lv_at hl 0 rfl) ?_
              refine lv_iload_n hx hb dX8_attribute_45 rfl (lv_at hl 1 rfl) ?_
              refine rdV noE_est C hP (ef noE_est hS hE0) (c_X8_entry l D k a _ x1) my_X8_entry ml_X8_54 (rM0 C hP) rfl hl.1 (rest := []) rfl (Nat.le_of_ble_eq_true rfl) ⟨rfl, rfl, Nat.le_of_ble_eq_true rfl, Nat.le_of_ble_eq_true rfl⟩ ⟨Nat.zero_le _, Nat.zero_le _⟩ dX8_attribute_46 ?_
              refine lv_iload_n hx hb dX8_attribute_49 rfl (lv_at hl 2 rfl) ?_
              refine lv_bipush (v := (8 : Int32)) hx hb dX8_attribute_50 (by decide) ?_
              refine lv_idiv hx hb dX8_attribute_52 (by decide) ?_
              refine lv_iadd hx hb dX8_attribute_53 ?_
              refine lv_istore (lv' := [(4, .int ((fX8_entry S x1) + (x2 / (8 : Int32)))), (0, .ref (a 0)), (1, .int x1), (2, .int x2), (3, .int x3)]) hx hb dX8_attribute_54 hl (by decide) rfl (fun ls hl => ?_)
              refine lv_sipush (v := (128 : Int32)) hx hb dX8_attribute_56 (by decide) ?_
              refine lv_iload_n hx hb dX8_attribute_59 rfl (lv_at hl 3 rfl) ?_
              refine lv_bipush (v := (8 : Int32)) hx hb dX8_attribute_60 (by decide) ?_
              refine lv_irem hx hb dX8_attribute_62 (by decide) ?_
              refine lv_ishr hx hb dX8_attribute_63 ?_
              refine lv_istore (lv' := [(5, .int ((128 : Int32) >>> ((x2 - x2 / (8 : Int32) * (8 : Int32)) &&& 31))), (4, .int ((fX8_entry S x1) + (x2 / (8 : Int32)))), (0, .ref (a 0)), (1, .int x1), (2, .int x2), (3, .int x3)]) hx hb dX8_attribute_64 hl (by decide) rfl (fun ls hl => ?_)
              refine lv_iload_n hx hb dX8_attribute_66 rfl (lv_at hl 5 rfl) ?_
              refine lv_if_ne (tgt := 88) hx hb dX8_attribute_67 (by decide) (fun c13 => ?_) (fun c13 => ?_)
              · rw [if_neg c13] at h
                refine lv_aload_n hx hb dX8_attribute_88 rfl (lv_at hl 2 rfl) ?_
                refine lv_iload hx hb dX8_attribute_89 (lv_at hl 1 rfl) ?_
                refine lv_iload_n hx hb dX8_attribute_91 rfl (lv_at hl 5 rfl) ?_
                refine lv_iconst (v := (1 : Int32)) hx hb dX8_attribute_92 (by decide) ?_
                refine lv_icmp_ne (tgt := 108) hx hb dX8_attribute_93 (by decide) (fun c14 => ?_) (fun c14 => ?_)
                · rw [if_neg c14] at h
                  refine lv_aload_n hx hb dX8_attribute_108 rfl (lv_at hl 2 rfl) ?_
                  refine lv_iload hx hb dX8_attribute_109 (lv_at hl 1 rfl) ?_
                  refine rdV noE_est C hP (ef noE_est hS hE0) (c_X8_at l D k a _ ((fX8_entry S x1) + (x2 / (8 : Int32)))) my_X8_at ml_X8_46 (rM0 C hP) rfl hl.1 (rest := [.int ((fX8_entry S x1) + (x2 / (8 : Int32))), .ref (a 0)]) rfl (Nat.le_of_ble_eq_true rfl) ⟨rfl, rfl, Nat.le_of_ble_eq_true rfl, Nat.le_of_ble_eq_true rfl⟩ ⟨Nat.zero_le _, Nat.zero_le _⟩ dX8_attribute_111 ?_
                  refine lv_iload hx hb dX8_attribute_114 (lv_at hl 0 rfl) ?_
                  refine lv_iconst (v := (-1 : Int32)) hx hb dX8_attribute_116 (by decide) ?_
                  refine lv_ixor hx hb dX8_attribute_117 ?_
                  refine lv_iand hx hb dX8_attribute_118 ?_
                  refine wrV noE_est C hP (hDA _) hA hS hE0 (c_X8_set l D k a _ ((fX8_entry S x1) + (x2 / (8 : Int32))) ((fX8_at S ((fX8_entry S x1) + (x2 / (8 : Int32)))) &&& (((128 : Int32) >>> ((x2 - x2 / (8 : Int32) * (8 : Int32)) &&& 31)) ^^^ (-1 : Int32)))) my_X8_set ml_X8_50 (rM0 C hP) rfl hl.1 (rest := []) rfl (Nat.le_of_ble_eq_true rfl) ⟨rfl, rfl, Nat.le_of_ble_eq_true rfl, Nat.le_of_ble_eq_true rfl⟩ ⟨Nat.zero_le _, Nat.zero_le _⟩ dX8_attribute_119 (fun H locs hP hS _ _ => ?_)
                  refine lv_iconst (v := (1 : Int32)) hx hb dX8_attribute_122 (by decide) ?_
                  rw [← h]
                  exact wrM_iret C hr hlocks hP hS dX8_attribute_123
                · rw [if_pos c14] at h
                  refine lv_aload_n hx hb dX8_attribute_96 rfl (lv_at hl 2 rfl) ?_
                  refine lv_iload hx hb dX8_attribute_97 (lv_at hl 1 rfl) ?_
                  refine rdV noE_est C hP (ef noE_est hS hE0) (c_X8_at l D k a _ ((fX8_entry S x1) + (x2 / (8 : Int32)))) my_X8_at ml_X8_46 (rM0 C hP) rfl hl.1 (rest := [.int ((fX8_entry S x1) + (x2 / (8 : Int32))), .ref (a 0)]) rfl (Nat.le_of_ble_eq_true rfl) ⟨rfl, rfl, Nat.le_of_ble_eq_true rfl, Nat.le_of_ble_eq_true rfl⟩ ⟨Nat.zero_le _, Nat.zero_le _⟩ dX8_attribute_99 ?_
                  refine lv_iload hx hb dX8_attribute_102 (lv_at hl 0 rfl) ?_
                  refine lv_ior hx hb dX8_attribute_104 ?_
                  refine lv_goto (tgt := 119) hx hb dX8_attribute_105 (by decide) ?_
                  refine wrV noE_est C hP (hDA _) hA hS hE0 (c_X8_set l D k a _ ((fX8_entry S x1) + (x2 / (8 : Int32))) ((fX8_at S ((fX8_entry S x1) + (x2 / (8 : Int32)))) ||| ((128 : Int32) >>> ((x2 - x2 / (8 : Int32) * (8 : Int32)) &&& 31)))) my_X8_set ml_X8_50 (rM0 C hP) rfl hl.1 (rest := []) rfl (Nat.le_of_ble_eq_true rfl) ⟨rfl, rfl, Nat.le_of_ble_eq_true rfl, Nat.le_of_ble_eq_true rfl⟩ ⟨Nat.zero_le _, Nat.zero_le _⟩ dX8_attribute_119 (fun H locs hP hS _ _ => ?_)
                  refine lv_iconst (v := (1 : Int32)) hx hb dX8_attribute_122 (by decide) ?_
                  rw [← h]
                  exact wrM_iret C hr hlocks hP hS dX8_attribute_123
              · rw [if_pos c13] at h
                refine lv_aload_n hx hb dX8_attribute_70 rfl (lv_at hl 2 rfl) ?_
                refine lv_iload hx hb dX8_attribute_71 (lv_at hl 1 rfl) ?_
                refine rdV noE_est C hP (ef noE_est hS hE0) (c_X8_at l D k a _ ((fX8_entry S x1) + (x2 / (8 : Int32)))) my_X8_at ml_X8_46 (rM0 C hP) rfl hl.1 (rest := []) rfl (Nat.le_of_ble_eq_true rfl) ⟨rfl, rfl, Nat.le_of_ble_eq_true rfl, Nat.le_of_ble_eq_true rfl⟩ ⟨Nat.zero_le _, Nat.zero_le _⟩ dX8_attribute_73 ?_
                refine lv_iload hx hb dX8_attribute_76 (lv_at hl 0 rfl) ?_
                refine lv_iand hx hb dX8_attribute_78 ?_
                refine lv_if_eq (tgt := 86) hx hb dX8_attribute_79 (by decide) (fun c15 => ?_) (fun c15 => ?_)
                · rw [if_pos c15] at h
                  refine lv_iconst (v := (0 : Int32)) hx hb dX8_attribute_86 (by decide) ?_
                  rw [← h]
                  exact wrM_iret C hr hlocks hP hS dX8_attribute_87
                · rw [if_neg c15] at h
                  refine lv_iconst (v := (1 : Int32)) hx hb dX8_attribute_82 (by decide) ?_
                  refine lv_goto (tgt := 87) hx hb dX8_attribute_83 (by decide) ?_
                  rw [← h]
                  exact wrM_iret C hr hlocks hP hS dX8_attribute_87
            · rw [if_neg c12] at h
              refine lv_bipush (v := (-2 : Int32)) hx hb dX8_attribute_41 (by decide) ?_
              rw [← h]
              exact wrM_iret C hr hlocks hP hS dX8_attribute_43
  · rw [if_pos c1] at h
    refine lv_iconst (v := (-1 : Int32)) hx hb dX8_attribute_8 (by decide) ?_
    rw [← h]
    exact wrM_iret C hr hlocks hP hS dX8_attribute_9
def fX8_firstOf (S : XS) (x1 : Int32) : Int32 := (((fX8_word S (fX8_tableAt S x1)) + (1 : Int32)) + ((2 : Int32) * (fX8_at S (fX8_word S (fX8_tableAt S x1)))))
set_option maxRecDepth 100000 in
set_option maxHeartbeats 4000000 in
theorem c_X8_firstOf (l : Launch) (D : va_G) (k : Nat → ClassId) (a : Nat → Nat) (S : XS) (x1 : Int32) : Rd noE l D (tyk k) (wM k a S) yX8_firstOf cX8_firstOf 3 (some .int) (rmm 2 42) [.ref (a 0), .int x1] (fX8_firstOf S x1) := by
  generalize h : fX8_firstOf S x1 = u
  refine rd_start (by decide) (Nat.le_of_ble_eq_true rfl) ?_
  intro p e s m below meth c C hr hlocks hP hE0 ls hl
  have hl : lv_has ls 3 [(0, .ref (a 0)), (1, .int x1)] := hl
  obtain ⟨⟨hx, hb, hml, hown, hts⟩, hK⟩ := id C
  rw [fX8_firstOf] at h
  refine lv_aload_n hx hb dX8_firstOf_0 rfl (lv_at hl 0 rfl) ?_
  refine lv_aload_n hx hb dX8_firstOf_1 rfl (lv_at hl 0 rfl) ?_
  refine lv_iload_n hx hb dX8_firstOf_2 rfl (lv_at hl 1 rfl) ?_
  refine rdV noE_est C hP hE0 (c_X8_tableAt l D k a _ x1) my_X8_tableAt ml_X8_77 (rM0 C hP) rfl hl.1 (rest := [.ref (a 0)]) rfl (Nat.le_of_ble_eq_true rfl) ⟨rfl, rfl, Nat.le_of_ble_eq_true rfl, Nat.le_of_ble_eq_true rfl⟩ ⟨Nat.zero_le _, Nat.zero_le _⟩ dX8_firstOf_3 ?_
  refine rdV noE_est C hP hE0 (c_X8_word l D k a _ (fX8_tableAt S x1)) my_X8_word ml_X8_57 (rM0 C hP) rfl hl.1 (rest := []) rfl (Nat.le_of_ble_eq_true rfl) ⟨rfl, rfl, Nat.le_of_ble_eq_true rfl, Nat.le_of_ble_eq_true rfl⟩ ⟨Nat.zero_le _, Nat.zero_le _⟩ dX8_firstOf_6 ?_
  refine lv_istore_n (lv' := [(2, .int (fX8_word S (fX8_tableAt S x1))), (0, .ref (a 0)), (1, .int x1)]) hx hb dX8_firstOf_9 rfl hl (by decide) rfl (fun ls hl => ?_)
  refine lv_iload_n hx hb dX8_firstOf_10 rfl (lv_at hl 0 rfl) ?_
  refine lv_iconst (v := (1 : Int32)) hx hb dX8_firstOf_11 (by decide) ?_
  refine lv_iadd hx hb dX8_firstOf_12 ?_
  refine lv_iconst (v := (2 : Int32)) hx hb dX8_firstOf_13 (by decide) ?_
  refine lv_aload_n hx hb dX8_firstOf_14 rfl (lv_at hl 1 rfl) ?_
  refine lv_iload_n hx hb dX8_firstOf_15 rfl (lv_at hl 0 rfl) ?_
  refine rdV noE_est C hP hE0 (c_X8_at l D k a _ (fX8_word S (fX8_tableAt S x1))) my_X8_at ml_X8_46 (rM0 C hP) rfl hl.1 (rest := [.int (2 : Int32), .int ((fX8_word S (fX8_tableAt S x1)) + (1 : Int32))]) rfl (Nat.le_of_ble_eq_true rfl) ⟨rfl, rfl, Nat.le_of_ble_eq_true rfl, Nat.le_of_ble_eq_true rfl⟩ ⟨Nat.zero_le _, Nat.zero_le _⟩ dX8_firstOf_16 ?_
  refine lv_imul hx hb dX8_firstOf_19 ?_
  refine lv_iadd hx hb dX8_firstOf_20 ?_
  rw [← h]
  exact rd_iret C hr hlocks dX8_firstOf_21
def fX8_look (S : XS) (x1 : Int32) : Bool × XS := (if (4096 : Int32) ≤ x1 then (false, S) else (if (fX8_at S x1) = 0 then (false, S) else (if (S.1 2) = 0 then (true, (pS (pS (pS S 9 ((fX8_at S x1) - (fX8_at S x1) / (32 : Int32) * (32 : Int32))) 10 (((fX8_at S x1) / (32 : Int32)) + (1 : Int32))) 11 (x1 + (1 : Int32)))) else (if (128 : Int32) ≤ (fX8_at S x1) then (if ((fX8_at S (x1 + (1 : Int32))) - (fX8_at S (x1 + (1 : Int32))) / (64 : Int32) * (64 : Int32)) = 0 then (true, (pS (pS (pS S 9 ((fX8_at S x1) - (fX8_at S x1) / (64 : Int32) * (64 : Int32))) 10 (64 : Int32)) 11 (x1 + (2 : Int32)))) else (true, (pS (pS (pS S 9 ((fX8_at S x1) - (fX8_at S x1) / (64 : Int32) * (64 : Int32))) 10 ((fX8_at S (x1 + (1 : Int32))) - (fX8_at S (x1 + (1 : Int32))) / (64 : Int32) * (64 : Int32))) 11 (x1 + (2 : Int32))))) else (true, (pS (pS (pS S 9 ((fX8_at S x1) - (fX8_at S x1) / (64 : Int32) * (64 : Int32))) 10 (((fX8_at S x1) / (64 : Int32)) + (1 : Int32))) 11 (x1 + (1 : Int32))))))))
set_option maxRecDepth 100000 in
set_option maxHeartbeats 4000000 in
theorem c_X8_look (l : Launch) (D : va_G) (k : Nat → ClassId) (a : Nat → Nat) (S : XS) (x1 : Int32) : Wr noE l D (tyk k) (wM k a S) (wM k a (fX8_look S x1).2) yX8_look cX8_look 4 (some .boolean) (rmm 1 21) [.ref (a 0), .int x1] (some (.int (bI (fX8_look S x1).1))) := by
  generalize h : fX8_look S x1 = u
  refine wr_start (by decide) (Nat.le_of_ble_eq_true rfl) ?_
  intro p e s m below meth c A C hr hlocks hP hD0 hA hE0 ls hl
  have hDA : ∀ S, va_D A (wM k a S) := wM_D hD0
  have hS : va_S A s.heap s.heap [] := va_S.rf
  have hl : lv_has ls 4 [(0, .ref (a 0)), (1, .int x1)] := hl
  obtain ⟨⟨hx, hb, hml, hown, hts⟩, hK⟩ := id C
  rw [fX8_look] at h
  refine lv_aload_n hx hb dX8_look_0 rfl (lv_at hl 0 rfl) ?_
  refine lv_iload_n hx hb dX8_look_1 rfl (lv_at hl 1 rfl) ?_
  refine rdV noE_est C hP (ef noE_est hS hE0) (c_X8_at l D k a _ x1) my_X8_at ml_X8_46 (rM0 C hP) rfl hl.1 (rest := []) rfl (Nat.le_of_ble_eq_true rfl) ⟨rfl, rfl, Nat.le_of_ble_eq_true rfl, Nat.le_of_ble_eq_true rfl⟩ ⟨Nat.zero_le _, Nat.zero_le _⟩ dX8_look_2 ?_
  refine lv_istore_n (lv' := [(2, .int (fX8_at S x1)), (0, .ref (a 0)), (1, .int x1)]) hx hb dX8_look_5 rfl hl (by decide) rfl (fun ls hl => ?_)
  refine lv_iload_n hx hb dX8_look_6 rfl (lv_at hl 2 rfl) ?_
  refine lv_sipush (v := (4096 : Int32)) hx hb dX8_look_7 (by decide) ?_
  refine lv_icmp_ge (tgt := 17) hx hb dX8_look_10 (by decide) (fun c1 => ?_) (fun c1 => ?_)
  · rw [if_pos c1] at h
    refine lv_iconst (v := (0 : Int32)) hx hb dX8_look_17 (by decide) ?_
    rw [← h]
    exact wrM_zret (v := false) C hr hlocks hP hS dX8_look_18
  · rw [if_neg c1] at h
    refine lv_iload_n hx hb dX8_look_13 rfl (lv_at hl 0 rfl) ?_
    refine lv_if_ne (tgt := 19) hx hb dX8_look_14 (by decide) (fun c2 => ?_) (fun c2 => ?_)
    · rw [if_neg c2] at h
      refine lv_aload_n hx hb dX8_look_19 rfl (lv_at hl 1 rfl) ?_
      refine gM0_wide C hP fl_X8_39 dX8_look_20 (v := (S.1 2)) rfl ?_
      refine lv_if_ne (tgt := 54) hx hb dX8_look_23 (by decide) (fun c3 => ?_) (fun c3 => ?_)
      · rw [if_neg c3] at h
        refine lv_iload_n hx hb dX8_look_54 rfl (lv_at hl 0 rfl) ?_
        refine lv_sipush (v := (128 : Int32)) hx hb dX8_look_55 (by decide) ?_
        refine lv_icmp_ge (tgt := 89) hx hb dX8_look_58 (by decide) (fun c4 => ?_) (fun c4 => ?_)
        · rw [if_pos c4] at h
          refine lv_aload_n hx hb dX8_look_89 rfl (lv_at hl 1 rfl) ?_
          refine lv_iload_n hx hb dX8_look_90 rfl (lv_at hl 2 rfl) ?_
          refine lv_iconst (v := (1 : Int32)) hx hb dX8_look_91 (by decide) ?_
          refine lv_iadd hx hb dX8_look_92 ?_
          refine rdV noE_est C hP (ef noE_est hS hE0) (c_X8_at l D k a _ (x1 + (1 : Int32))) my_X8_at ml_X8_46 (rM0 C hP) rfl hl.1 (rest := []) rfl (Nat.le_of_ble_eq_true rfl) ⟨rfl, rfl, Nat.le_of_ble_eq_true rfl, Nat.le_of_ble_eq_true rfl⟩ ⟨Nat.zero_le _, Nat.zero_le _⟩ dX8_look_93 ?_
          refine lv_bipush (v := (64 : Int32)) hx hb dX8_look_96 (by decide) ?_
          refine lv_irem hx hb dX8_look_98 (by decide) ?_
          refine lv_istore_n (lv' := [(3, .int ((fX8_at S (x1 + (1 : Int32))) - (fX8_at S (x1 + (1 : Int32))) / (64 : Int32) * (64 : Int32))), (2, .int (fX8_at S x1)), (0, .ref (a 0)), (1, .int x1)]) hx hb dX8_look_99 rfl hl (by decide) rfl (fun ls hl => ?_)
          refine lv_aload_n hx hb dX8_look_100 rfl (lv_at hl 2 rfl) ?_
          refine lv_iload_n hx hb dX8_look_101 rfl (lv_at hl 1 rfl) ?_
          refine lv_bipush (v := (64 : Int32)) hx hb dX8_look_102 (by decide) ?_
          refine lv_irem hx hb dX8_look_104 (by decide) ?_
          refine pM0_number C hP (hDA _) hS fl_X8_101 dX8_look_105 (fun H locs hP hS => ?_)
          refine lv_aload_n hx hb dX8_look_108 rfl (lv_at hl 2 rfl) ?_
          refine lv_iload_n hx hb dX8_look_109 rfl (lv_at hl 0 rfl) ?_
          refine lv_if_ne (tgt := 118) hx hb dX8_look_110 (by decide) (fun c5 => ?_) (fun c5 => ?_)
          · rw [if_neg c5] at h
            refine lv_iload_n hx hb dX8_look_118 rfl (lv_at hl 0 rfl) ?_
            refine pM0_size C hP (hDA _) hS fl_X8_104 dX8_look_119 (fun H locs hP hS => ?_)
            refine lv_aload_n hx hb dX8_look_122 rfl (lv_at hl 2 rfl) ?_
            refine lv_iload_n hx hb dX8_look_123 rfl (lv_at hl 3 rfl) ?_
            refine lv_iconst (v := (2 : Int32)) hx hb dX8_look_124 (by decide) ?_
            refine lv_iadd hx hb dX8_look_125 ?_
            refine pM0_data C hP (hDA _) hS fl_X8_107 dX8_look_126 (fun H locs hP hS => ?_)
            refine lv_iconst (v := (1 : Int32)) hx hb dX8_look_129 (by decide) ?_
            rw [← h]
            exact wrM_zret (v := true) C hr hlocks hP hS dX8_look_130
          · rw [if_pos c5] at h
            refine lv_bipush (v := (64 : Int32)) hx hb dX8_look_113 (by decide) ?_
            refine lv_goto (tgt := 119) hx hb dX8_look_115 (by decide) ?_
            refine pM0_size C hP (hDA _) hS fl_X8_104 dX8_look_119 (fun H locs hP hS => ?_)
            refine lv_aload_n hx hb dX8_look_122 rfl (lv_at hl 2 rfl) ?_
            refine lv_iload_n hx hb dX8_look_123 rfl (lv_at hl 3 rfl) ?_
            refine lv_iconst (v := (2 : Int32)) hx hb dX8_look_124 (by decide) ?_
            refine lv_iadd hx hb dX8_look_125 ?_
            refine pM0_data C hP (hDA _) hS fl_X8_107 dX8_look_126 (fun H locs hP hS => ?_)
            refine lv_iconst (v := (1 : Int32)) hx hb dX8_look_129 (by decide) ?_
            rw [← h]
            exact wrM_zret (v := true) C hr hlocks hP hS dX8_look_130
        · rw [if_neg c4] at h
          refine lv_aload_n hx hb dX8_look_61 rfl (lv_at hl 1 rfl) ?_
          refine lv_iload_n hx hb dX8_look_62 rfl (lv_at hl 0 rfl) ?_
          refine lv_bipush (v := (64 : Int32)) hx hb dX8_look_63 (by decide) ?_
          refine lv_irem hx hb dX8_look_65 (by decide) ?_
          refine pM0_number C hP (hDA _) hS fl_X8_101 dX8_look_66 (fun H locs hP hS => ?_)
          refine lv_aload_n hx hb dX8_look_69 rfl (lv_at hl 1 rfl) ?_
          refine lv_iload_n hx hb dX8_look_70 rfl (lv_at hl 0 rfl) ?_
          refine lv_bipush (v := (64 : Int32)) hx hb dX8_look_71 (by decide) ?_
          refine lv_idiv hx hb dX8_look_73 (by decide) ?_
          refine lv_iconst (v := (1 : Int32)) hx hb dX8_look_74 (by decide) ?_
          refine lv_iadd hx hb dX8_look_75 ?_
          refine pM0_size C hP (hDA _) hS fl_X8_104 dX8_look_76 (fun H locs hP hS => ?_)
          refine lv_aload_n hx hb dX8_look_79 rfl (lv_at hl 1 rfl) ?_
          refine lv_iload_n hx hb dX8_look_80 rfl (lv_at hl 2 rfl) ?_
          refine lv_iconst (v := (1 : Int32)) hx hb dX8_look_81 (by decide) ?_
          refine lv_iadd hx hb dX8_look_82 ?_
          refine pM0_data C hP (hDA _) hS fl_X8_107 dX8_look_83 (fun H locs hP hS => ?_)
          refine lv_goto (tgt := 129) hx hb dX8_look_86 (by decide) ?_
          refine lv_iconst (v := (1 : Int32)) hx hb dX8_look_129 (by decide) ?_
          rw [← h]
          exact wrM_zret (v := true) C hr hlocks hP hS dX8_look_130
      · rw [if_pos c3] at h
        refine lv_aload_n hx hb dX8_look_26 rfl (lv_at hl 1 rfl) ?_
        refine lv_iload_n hx hb dX8_look_27 rfl (lv_at hl 0 rfl) ?_
        refine lv_bipush (v := (32 : Int32)) hx hb dX8_look_28 (by decide) ?_
        refine lv_irem hx hb dX8_look_30 (by decide) ?_
        refine pM0_number C hP (hDA _) hS fl_X8_101 dX8_look_31 (fun H locs hP hS => ?_)
        refine lv_aload_n hx hb dX8_look_34 rfl (lv_at hl 1 rfl) ?_
        refine lv_iload_n hx hb dX8_look_35 rfl (lv_at hl 0 rfl) ?_
        refine lv_bipush (v := (32 : Int32)) hx hb dX8_look_36 (by decide) ?_
        refine lv_idiv hx hb dX8_look_38 (by decide) ?_
        refine lv_iconst (v := (1 : Int32)) hx hb dX8_look_39 (by decide) ?_
        refine lv_iadd hx hb dX8_look_40 ?_
        refine pM0_size C hP (hDA _) hS fl_X8_104 dX8_look_41 (fun H locs hP hS => ?_)
        refine lv_aload_n hx hb dX8_look_44 rfl (lv_at hl 1 rfl) ?_
        refine lv_iload_n hx hb dX8_look_45 rfl (lv_at hl 2 rfl) ?_
        refine lv_iconst (v := (1 : Int32)) hx hb dX8_look_46 (by decide) ?_
        refine lv_iadd hx hb dX8_look_47 ?_
        refine pM0_data C hP (hDA _) hS fl_X8_107 dX8_look_48 (fun H locs hP hS => ?_)
        refine lv_goto (tgt := 129) hx hb dX8_look_51 (by decide) ?_
        refine lv_iconst (v := (1 : Int32)) hx hb dX8_look_129 (by decide) ?_
        rw [← h]
        exact wrM_zret (v := true) C hr hlocks hP hS dX8_look_130
    · rw [if_pos c2] at h
      refine lv_iconst (v := (0 : Int32)) hx hb dX8_look_17 (by decide) ?_
      rw [← h]
      exact wrM_zret (v := false) C hr hlocks hP hS dX8_look_18
def fX8_find_L : Nat → XS → Int32 → Int32 → Int32 → Option (Bool × XS)
  | 0, _, _, _, _ => none
  | n + 1, S, y1, y2, y3 => (if (bI (fX8_look S y3).1) = 0 then some (false, (fX8_look S y3).2) else (if ((fX8_look S y3).2.1 9) = y2 then some (true, (fX8_look S y3).2) else (fX8_find_L n (fX8_look S y3).2 y1 y2 (((fX8_look S y3).2.1 11) + ((fX8_look S y3).2.1 10)))))
def fX8_find (S : XS) (x1 : Int32) (x2 : Int32) : Option (Bool × XS) := (fX8_find_L 5000 S x1 x2 (fX8_firstOf S x1))
set_option maxRecDepth 100000 in
set_option maxHeartbeats 4000000 in
theorem c_X8_find (l : Launch) (D : va_G) (k : Nat → ClassId) (a : Nat → Nat) (S : XS) (x1 : Int32) (x2 : Int32) (u : Bool × XS) (h : fX8_find S x1 x2 = some u) : Wr noE l D (tyk k) (wM k a S) (wM k a u.2) yX8_find cX8_find 4 (some .boolean) (rmm 3 64) [.ref (a 0), .int x1, .int x2] (some (.int (bI u.1))) := by
  refine wr_start (by decide) (Nat.le_of_ble_eq_true rfl) ?_
  intro p e s m below meth c A C hr hlocks hP hD0 hA hE0 ls hl
  have hDA : ∀ S, va_D A (wM k a S) := wM_D hD0
  have hS : va_S A s.heap s.heap [] := va_S.rf
  have hl : lv_has ls 4 [(0, .ref (a 0)), (1, .int x1), (2, .int x2)] := hl
  obtain ⟨⟨hx, hb, hml, hown, hts⟩, hK⟩ := id C
  have L : ∀ n : Nat, ∀ (S : XS) (y1 : Int32) (y2 : Int32) (y3 : Int32) (H : Heap) (locs : List Loc) (ls : Array Slot), va_P D vwCl (wM k a S) H → va_S A s.heap H locs → lv_has ls 4 [(0, .ref (a 0)), (1, .int y1), (2, .int y2), (3, .int y3)] → fX8_find_L n S y1 y2 y3 = some u → W p l e (rmm 3 64) s m ([.ref (a 0), .int x1, .int x2] : List Value).toArray below meth c H locs 0 0 (MQ below (Qw D (wM k a u.2) (some (.int (bI u.1))) A) ([.ref (a 0), .int x1, .int x2] : List Value).toArray s 0 0 A) (F0 m 6 ls []) := by
    intro n
    induction n with
    | zero => intro S y1 y2 y3 H locs ls hP hS hl h; cases h
    | succ n ih =>
      intro S y1 y2 y3 H locs ls hP hS hl h
      rw [fX8_find_L] at h
      refine lv_aload_n hx hb dX8_find_6 rfl (lv_at hl 0 rfl) ?_
      refine lv_iload_n hx hb dX8_find_7 rfl (lv_at hl 3 rfl) ?_
      refine wrV noE_est C hP (hDA _) hA hS hE0 (c_X8_look l D k a _ y3) my_X8_look ml_X8_113 (rM0 C hP) rfl hl.1 (rest := []) rfl (Nat.le_of_ble_eq_true rfl) ⟨rfl, rfl, Nat.le_of_ble_eq_true rfl, Nat.le_of_ble_eq_true rfl⟩ ⟨Nat.zero_le _, Nat.zero_le _⟩ dX8_find_8 (fun H locs hP hS _ _ => ?_)
      refine lv_if_eq (tgt := 37) hx hb dX8_find_11 (by decide) (fun c1 => ?_) (fun c1 => ?_)
      · rw [if_pos c1] at h
        refine lv_iconst (v := (0 : Int32)) hx hb dX8_find_37 (by decide) ?_
        rw [← Option.some.inj h]
        exact wrM_zret (v := false) C hr hlocks hP hS dX8_find_38
      · rw [if_neg c1] at h
        refine lv_aload_n hx hb dX8_find_14 rfl (lv_at hl 0 rfl) ?_
        refine gM0_number C hP fl_X8_101 dX8_find_15 (v := ((fX8_look S y3).2.1 9)) rfl ?_
        refine lv_iload_n hx hb dX8_find_18 rfl (lv_at hl 2 rfl) ?_
        refine lv_icmp_ne (tgt := 24) hx hb dX8_find_19 (by decide) (fun c2 => ?_) (fun c2 => ?_)
        · rw [if_neg c2] at h
          refine lv_aload_n hx hb dX8_find_24 rfl (lv_at hl 0 rfl) ?_
          refine gM0_data C hP fl_X8_107 dX8_find_25 (v := ((fX8_look S y3).2.1 11)) rfl ?_
          refine lv_aload_n hx hb dX8_find_28 rfl (lv_at hl 0 rfl) ?_
          refine gM0_size C hP fl_X8_104 dX8_find_29 (v := ((fX8_look S y3).2.1 10)) rfl ?_
          refine lv_iadd hx hb dX8_find_32 ?_
          refine lv_istore_n (lv' := [(3, .int (((fX8_look S y3).2.1 11) + ((fX8_look S y3).2.1 10))), (0, .ref (a 0)), (1, .int y1), (2, .int y2)]) hx hb dX8_find_33 rfl hl (by decide) rfl (fun ls hl => ?_)
          refine lv_goto (tgt := 6) hx hb dX8_find_34 (by decide) ?_
          exact ih _ _ _ _ _ _ ls hP hS (lv_sub hl [1, 2, 3, 0] rfl) h
        · rw [if_pos c2] at h
          refine lv_iconst (v := (1 : Int32)) hx hb dX8_find_22 (by decide) ?_
          rw [← Option.some.inj h]
          exact wrM_zret (v := true) C hr hlocks hP hS dX8_find_23
  rw [fX8_find] at h
  refine lv_aload_n hx hb dX8_find_0 rfl (lv_at hl 0 rfl) ?_
  refine lv_iload_n hx hb dX8_find_1 rfl (lv_at hl 1 rfl) ?_
  refine rdV noE_est C hP (ef noE_est hS hE0) (c_X8_firstOf l D k a _ x1) my_X8_firstOf ml_X8_110 (rM0 C hP) rfl hl.1 (rest := []) rfl (Nat.le_of_ble_eq_true rfl) ⟨rfl, rfl, Nat.le_of_ble_eq_true rfl, Nat.le_of_ble_eq_true rfl⟩ ⟨Nat.zero_le _, Nat.zero_le _⟩ dX8_find_2 ?_
  refine lv_istore_n (lv' := [(3, .int (fX8_firstOf S x1)), (0, .ref (a 0)), (1, .int x1), (2, .int x2)]) hx hb dX8_find_5 rfl hl (by decide) rfl (fun ls hl => ?_)
  exact L 5000 _ _ _ _ _ _ ls hP hS (lv_sub hl [1, 2, 3, 0] rfl) h
def fX8_property (S : XS) (x1 : Int32) (x2 : Int32) : Option (Int32 × XS) := (if (bI (fX8_isObject S x1)) = 0 then some ((-1 : Int32), S) else (if x2 < (1 : Int32) then some ((-2 : Int32), S) else (if x2 ≤ (S.1 3) then (ob (fX8_find S x1 x2) (fun u4 => (if (bI u4.1) = 0 then some ((fX8_word u4.2 ((254 : Int32) + ((2 : Int32) * x2))), u4.2) else (if (u4.2.1 10) = (1 : Int32) then some ((fX8_at u4.2 (u4.2.1 11)), u4.2) else (if (u4.2.1 10) = (2 : Int32) then some ((fX8_word u4.2 (u4.2.1 11)), u4.2) else some ((-3 : Int32), u4.2)))))) else some ((-2 : Int32), S))))
set_option maxRecDepth 100000 in
set_option maxHeartbeats 4000000 in
theorem c_X8_property (l : Launch) (D : va_G) (k : Nat → ClassId) (a : Nat → Nat) (S : XS) (x1 : Int32) (x2 : Int32) (u : Int32 × XS) (h : fX8_property S x1 x2 = some u) : Wr noE l D (tyk k) (wM k a S) (wM k a u.2) yX8_property cX8_property 3 (some .int) (rmm 4 87) [.ref (a 0), .int x1, .int x2] (some (.int u.1)) := by
  refine wr_start (by decide) (Nat.le_of_ble_eq_true rfl) ?_
  intro p e s m below meth c A C hr hlocks hP hD0 hA hE0 ls hl
  have hDA : ∀ S, va_D A (wM k a S) := wM_D hD0
  have hS : va_S A s.heap s.heap [] := va_S.rf
  have hl : lv_has ls 3 [(0, .ref (a 0)), (1, .int x1), (2, .int x2)] := hl
  obtain ⟨⟨hx, hb, hml, hown, hts⟩, hK⟩ := id C
  rw [fX8_property] at h
  refine lv_aload_n hx hb dX8_property_0 rfl (lv_at hl 0 rfl) ?_
  refine lv_iload_n hx hb dX8_property_1 rfl (lv_at hl 1 rfl) ?_
  refine rdV noE_est C hP (ef noE_est hS hE0) (c_X8_isObject l D k a _ x1) my_X8_isObject ml_X8_66 (rM0 C hP) rfl hl.1 (rest := []) rfl (Nat.le_of_ble_eq_true rfl) ⟨rfl, rfl, Nat.le_of_ble_eq_true rfl, Nat.le_of_ble_eq_true rfl⟩ ⟨Nat.zero_le _, Nat.zero_le _⟩ dX8_property_2 ?_
  refine lv_if_ne (tgt := 10) hx hb dX8_property_5 (by decide) (fun c1 => ?_) (fun c1 => ?_)
  · rw [if_neg c1] at h
    refine lv_iload_n hx hb dX8_property_10 rfl (lv_at hl 2 rfl) ?_
    refine lv_iconst (v := (1 : Int32)) hx hb dX8_property_11 (by decide) ?_
    refine lv_icmp_lt (tgt := 23) hx hb dX8_property_12 (by decide) (fun c2 => ?_) (fun c2 => ?_)
    · rw [if_pos c2] at h
      refine lv_bipush (v := (-2 : Int32)) hx hb dX8_property_23 (by decide) ?_
      rw [← Option.some.inj h]
      exact wrM_iret C hr hlocks hP hS dX8_property_25
    · rw [if_neg c2] at h
      refine lv_iload_n hx hb dX8_property_15 rfl (lv_at hl 2 rfl) ?_
      refine lv_aload_n hx hb dX8_property_16 rfl (lv_at hl 0 rfl) ?_
      refine gM0_defaults C hP fl_X8_43 dX8_property_17 (v := (S.1 3)) rfl ?_
      refine lv_icmp_le (tgt := 26) hx hb dX8_property_20 (by decide) (fun c3 => ?_) (fun c3 => ?_)
      · rw [if_pos c3] at h
        refine lv_aload_n hx hb dX8_property_26 rfl (lv_at hl 0 rfl) ?_
        refine lv_iload_n hx hb dX8_property_27 rfl (lv_at hl 1 rfl) ?_
        refine lv_iload_n hx hb dX8_property_28 rfl (lv_at hl 2 rfl) ?_
        obtain ⟨u4, hhu4, h⟩ := ob_some h
        refine wrV noE_est C hP (hDA _) hA hS hE0 (c_X8_find l D k a _ x1 x2 u4 hhu4) my_X8_find ml_X8_116 (rM0 C hP) rfl hl.1 (rest := []) rfl (Nat.le_of_ble_eq_true rfl) ⟨rfl, rfl, Nat.le_of_ble_eq_true rfl, Nat.le_of_ble_eq_true rfl⟩ ⟨Nat.zero_le _, Nat.zero_le _⟩ dX8_property_29 (fun H locs hP hS _ _ => ?_)
        refine lv_if_ne (tgt := 47) hx hb dX8_property_32 (by decide) (fun c5 => ?_) (fun c5 => ?_)
        · rw [if_neg c5] at h
          refine lv_aload_n hx hb dX8_property_47 rfl (lv_at hl 0 rfl) ?_
          refine gM0_size C hP fl_X8_104 dX8_property_48 (v := (u4.2.1 10)) rfl ?_
          refine lv_iconst (v := (1 : Int32)) hx hb dX8_property_51 (by decide) ?_
          refine lv_icmp_ne (tgt := 66) hx hb dX8_property_52 (by decide) (fun c6 => ?_) (fun c6 => ?_)
          · rw [if_neg c6] at h
            refine lv_aload_n hx hb dX8_property_66 rfl (lv_at hl 0 rfl) ?_
            refine gM0_size C hP fl_X8_104 dX8_property_67 (v := (u4.2.1 10)) rfl ?_
            refine lv_iconst (v := (2 : Int32)) hx hb dX8_property_70 (by decide) ?_
            refine lv_icmp_ne (tgt := 85) hx hb dX8_property_71 (by decide) (fun c7 => ?_) (fun c7 => ?_)
            · rw [if_neg c7] at h
              refine lv_bipush (v := (-3 : Int32)) hx hb dX8_property_85 (by decide) ?_
              rw [← Option.some.inj h]
              exact wrM_iret C hr hlocks hP hS dX8_property_87
            · rw [if_pos c7] at h
              refine lv_aload_n hx hb dX8_property_74 rfl (lv_at hl 0 rfl) ?_
              refine lv_aload_n hx hb dX8_property_75 rfl (lv_at hl 0 rfl) ?_
              refine gM0_data C hP fl_X8_107 dX8_property_76 (v := (u4.2.1 11)) rfl ?_
              refine rdV noE_est C hP (ef noE_est hS hE0) (c_X8_word l D k a _ (u4.2.1 11)) my_X8_word ml_X8_57 (rM0 C hP) rfl hl.1 (rest := []) rfl (Nat.le_of_ble_eq_true rfl) ⟨rfl, rfl, Nat.le_of_ble_eq_true rfl, Nat.le_of_ble_eq_true rfl⟩ ⟨Nat.zero_le _, Nat.zero_le _⟩ dX8_property_79 ?_
              refine lv_goto (tgt := 87) hx hb dX8_property_82 (by decide) ?_
              rw [← Option.some.inj h]
              exact wrM_iret C hr hlocks hP hS dX8_property_87
          · rw [if_pos c6] at h
            refine lv_aload_n hx hb dX8_property_55 rfl (lv_at hl 0 rfl) ?_
            refine lv_aload_n hx hb dX8_property_56 rfl (lv_at hl 0 rfl) ?_
            refine gM0_data C hP fl_X8_107 dX8_property_57 (v := (u4.2.1 11)) rfl ?_
            refine rdV noE_est C hP (ef noE_est hS hE0) (c_X8_at l D k a _ (u4.2.1 11)) my_X8_at ml_X8_46 (rM0 C hP) rfl hl.1 (rest := []) rfl (Nat.le_of_ble_eq_true rfl) ⟨rfl, rfl, Nat.le_of_ble_eq_true rfl, Nat.le_of_ble_eq_true rfl⟩ ⟨Nat.zero_le _, Nat.zero_le _⟩ dX8_property_60 ?_
            refine lv_goto (tgt := 87) hx hb dX8_property_63 (by decide) ?_
            rw [← Option.some.inj h]
            exact wrM_iret C hr hlocks hP hS dX8_property_87
        · rw [if_pos c5] at h
          refine lv_aload_n hx hb dX8_property_35 rfl (lv_at hl 0 rfl) ?_
          refine lv_sipush (v := (254 : Int32)) hx hb dX8_property_36 (by decide) ?_
          refine lv_iconst (v := (2 : Int32)) hx hb dX8_property_39 (by decide) ?_
          refine lv_iload_n hx hb dX8_property_40 rfl (lv_at hl 2 rfl) ?_
          refine lv_imul hx hb dX8_property_41 ?_
          refine lv_iadd hx hb dX8_property_42 ?_
          refine rdV noE_est C hP (ef noE_est hS hE0) (c_X8_word l D k a _ ((254 : Int32) + ((2 : Int32) * x2))) my_X8_word ml_X8_57 (rM0 C hP) rfl hl.1 (rest := []) rfl (Nat.le_of_ble_eq_true rfl) ⟨rfl, rfl, Nat.le_of_ble_eq_true rfl, Nat.le_of_ble_eq_true rfl⟩ ⟨Nat.zero_le _, Nat.zero_le _⟩ dX8_property_43 ?_
          rw [← Option.some.inj h]
          exact wrM_iret C hr hlocks hP hS dX8_property_46
      · rw [if_neg c3] at h
        refine lv_bipush (v := (-2 : Int32)) hx hb dX8_property_23 (by decide) ?_
        rw [← Option.some.inj h]
        exact wrM_iret C hr hlocks hP hS dX8_property_25
  · rw [if_pos c1] at h
    refine lv_iconst (v := (-1 : Int32)) hx hb dX8_property_8 (by decide) ?_
    rw [← Option.some.inj h]
    exact wrM_iret C hr hlocks hP hS dX8_property_9
def fX8_put (S : XS) (x1 : Int32) (x2 : Int32) (x3 : Int32) : Option (Int32 × XS) := (if (bI (fX8_isObject S x1)) = 0 then some ((-1 : Int32), S) else (if x2 < (1 : Int32) then some ((-2 : Int32), S) else (if x2 ≤ (S.1 3) then (ob (fX8_find S x1 x2) (fun u4 => (if (bI u4.1) = 0 then some ((-3 : Int32), u4.2) else (if (u4.2.1 10) ≤ (2 : Int32) then (if (u4.2.1 10) = (1 : Int32) then some ((1 : Int32), (fX8_set u4.2 (u4.2.1 11) x3)) else some ((1 : Int32), (fX8_setWord u4.2 (u4.2.1 11) x3))) else some ((-3 : Int32), u4.2))))) else some ((-2 : Int32), S))))
set_option maxRecDepth 100000 in
set_option maxHeartbeats 4000000 in
theorem c_X8_put (l : Launch) (D : va_G) (k : Nat → ClassId) (a : Nat → Nat) (S : XS) (x1 : Int32) (x2 : Int32) (x3 : Int32) (u : Int32 × XS) (h : fX8_put S x1 x2 x3 = some u) : Wr noE l D (tyk k) (wM k a S) (wM k a u.2) yX8_put cX8_put 4 (some .int) (rmm 4 87) [.ref (a 0), .int x1, .int x2, .int x3] (some (.int u.1)) := by
  refine wr_start (by decide) (Nat.le_of_ble_eq_true rfl) ?_
  intro p e s m below meth c A C hr hlocks hP hD0 hA hE0 ls hl
  have hDA : ∀ S, va_D A (wM k a S) := wM_D hD0
  have hS : va_S A s.heap s.heap [] := va_S.rf
  have hl : lv_has ls 4 [(0, .ref (a 0)), (1, .int x1), (2, .int x2), (3, .int x3)] := hl
  obtain ⟨⟨hx, hb, hml, hown, hts⟩, hK⟩ := id C
  rw [fX8_put] at h
  refine lv_aload_n hx hb dX8_put_0 rfl (lv_at hl 0 rfl) ?_
  refine lv_iload_n hx hb dX8_put_1 rfl (lv_at hl 1 rfl) ?_
  refine rdV noE_est C hP (ef noE_est hS hE0) (c_X8_isObject l D k a _ x1) my_X8_isObject ml_X8_66 (rM0 C hP) rfl hl.1 (rest := []) rfl (Nat.le_of_ble_eq_true rfl) ⟨rfl, rfl, Nat.le_of_ble_eq_true rfl, Nat.le_of_ble_eq_true rfl⟩ ⟨Nat.zero_le _, Nat.zero_le _⟩ dX8_put_2 ?_
  refine lv_if_ne (tgt := 10) hx hb dX8_put_5 (by decide) (fun c1 => ?_) (fun c1 => ?_)
  · rw [if_neg c1] at h
    refine lv_iload_n hx hb dX8_put_10 rfl (lv_at hl 2 rfl) ?_
    refine lv_iconst (v := (1 : Int32)) hx hb dX8_put_11 (by decide) ?_
    refine lv_icmp_lt (tgt := 23) hx hb dX8_put_12 (by decide) (fun c2 => ?_) (fun c2 => ?_)
    · rw [if_pos c2] at h
      refine lv_bipush (v := (-2 : Int32)) hx hb dX8_put_23 (by decide) ?_
      rw [← Option.some.inj h]
      exact wrM_iret C hr hlocks hP hS dX8_put_25
    · rw [if_neg c2] at h
      refine lv_iload_n hx hb dX8_put_15 rfl (lv_at hl 2 rfl) ?_
      refine lv_aload_n hx hb dX8_put_16 rfl (lv_at hl 0 rfl) ?_
      refine gM0_defaults C hP fl_X8_43 dX8_put_17 (v := (S.1 3)) rfl ?_
      refine lv_icmp_le (tgt := 26) hx hb dX8_put_20 (by decide) (fun c3 => ?_) (fun c3 => ?_)
      · rw [if_pos c3] at h
        refine lv_aload_n hx hb dX8_put_26 rfl (lv_at hl 0 rfl) ?_
        refine lv_iload_n hx hb dX8_put_27 rfl (lv_at hl 1 rfl) ?_
        refine lv_iload_n hx hb dX8_put_28 rfl (lv_at hl 2 rfl) ?_
        obtain ⟨u4, hhu4, h⟩ := ob_some h
        refine wrV noE_est C hP (hDA _) hA hS hE0 (c_X8_find l D k a _ x1 x2 u4 hhu4) my_X8_find ml_X8_116 (rM0 C hP) rfl hl.1 (rest := []) rfl (Nat.le_of_ble_eq_true rfl) ⟨rfl, rfl, Nat.le_of_ble_eq_true rfl, Nat.le_of_ble_eq_true rfl⟩ ⟨Nat.zero_le _, Nat.zero_le _⟩ dX8_put_29 (fun H locs hP hS _ _ => ?_)
        refine lv_if_eq (tgt := 43) hx hb dX8_put_32 (by decide) (fun c5 => ?_) (fun c5 => ?_)
        · rw [if_pos c5] at h
          refine lv_bipush (v := (-3 : Int32)) hx hb dX8_put_43 (by decide) ?_
          rw [← Option.some.inj h]
          exact wrM_iret C hr hlocks hP hS dX8_put_45
        · rw [if_neg c5] at h
          refine lv_aload_n hx hb dX8_put_35 rfl (lv_at hl 0 rfl) ?_
          refine gM0_size C hP fl_X8_104 dX8_put_36 (v := (u4.2.1 10)) rfl ?_
          refine lv_iconst (v := (2 : Int32)) hx hb dX8_put_39 (by decide) ?_
          refine lv_icmp_le (tgt := 46) hx hb dX8_put_40 (by decide) (fun c6 => ?_) (fun c6 => ?_)
          · rw [if_pos c6] at h
            refine lv_aload_n hx hb dX8_put_46 rfl (lv_at hl 0 rfl) ?_
            refine gM0_size C hP fl_X8_104 dX8_put_47 (v := (u4.2.1 10)) rfl ?_
            refine lv_iconst (v := (1 : Int32)) hx hb dX8_put_50 (by decide) ?_
            refine lv_icmp_ne (tgt := 66) hx hb dX8_put_51 (by decide) (fun c7 => ?_) (fun c7 => ?_)
            · rw [if_neg c7] at h
              refine lv_aload_n hx hb dX8_put_66 rfl (lv_at hl 0 rfl) ?_
              refine lv_aload_n hx hb dX8_put_67 rfl (lv_at hl 0 rfl) ?_
              refine gM0_data C hP fl_X8_107 dX8_put_68 (v := (u4.2.1 11)) rfl ?_
              refine lv_iload_n hx hb dX8_put_71 rfl (lv_at hl 3 rfl) ?_
              refine wrV noE_est C hP (hDA _) hA hS hE0 (c_X8_setWord l D k a _ (u4.2.1 11) x3) my_X8_setWord ml_X8_60 (rM0 C hP) rfl hl.1 (rest := []) rfl (Nat.le_of_ble_eq_true rfl) ⟨rfl, rfl, Nat.le_of_ble_eq_true rfl, Nat.le_of_ble_eq_true rfl⟩ ⟨Nat.zero_le _, Nat.zero_le _⟩ dX8_put_72 (fun H locs hP hS _ _ => ?_)
              refine lv_iconst (v := (1 : Int32)) hx hb dX8_put_75 (by decide) ?_
              rw [← Option.some.inj h]
              exact wrM_iret C hr hlocks hP hS dX8_put_76
            · rw [if_pos c7] at h
              refine lv_aload_n hx hb dX8_put_54 rfl (lv_at hl 0 rfl) ?_
              refine lv_aload_n hx hb dX8_put_55 rfl (lv_at hl 0 rfl) ?_
              refine gM0_data C hP fl_X8_107 dX8_put_56 (v := (u4.2.1 11)) rfl ?_
              refine lv_iload_n hx hb dX8_put_59 rfl (lv_at hl 3 rfl) ?_
              refine wrV noE_est C hP (hDA _) hA hS hE0 (c_X8_set l D k a _ (u4.2.1 11) x3) my_X8_set ml_X8_50 (rM0 C hP) rfl hl.1 (rest := []) rfl (Nat.le_of_ble_eq_true rfl) ⟨rfl, rfl, Nat.le_of_ble_eq_true rfl, Nat.le_of_ble_eq_true rfl⟩ ⟨Nat.zero_le _, Nat.zero_le _⟩ dX8_put_60 (fun H locs hP hS _ _ => ?_)
              refine lv_goto (tgt := 75) hx hb dX8_put_63 (by decide) ?_
              refine lv_iconst (v := (1 : Int32)) hx hb dX8_put_75 (by decide) ?_
              rw [← Option.some.inj h]
              exact wrM_iret C hr hlocks hP hS dX8_put_76
          · rw [if_neg c6] at h
            refine lv_bipush (v := (-3 : Int32)) hx hb dX8_put_43 (by decide) ?_
            rw [← Option.some.inj h]
            exact wrM_iret C hr hlocks hP hS dX8_put_45
      · rw [if_neg c3] at h
        refine lv_bipush (v := (-2 : Int32)) hx hb dX8_put_23 (by decide) ?_
        rw [← Option.some.inj h]
        exact wrM_iret C hr hlocks hP hS dX8_put_25
  · rw [if_pos c1] at h
    refine lv_iconst (v := (-1 : Int32)) hx hb dX8_put_8 (by decide) ?_
    rw [← Option.some.inj h]
    exact wrM_iret C hr hlocks hP hS dX8_put_9
def fX8_next (S : XS) (x1 : Int32) (x2 : Int32) : Option (Int32 × XS) := (if (bI (fX8_isObject S x1)) = 0 then some ((-1 : Int32), S) else (if x2 < 0 then some ((-2 : Int32), S) else (if x2 ≤ (S.1 3) then (if x2 ≤ 0 then (if x2 = 0 then (if (bI (fX8_look S (fX8_firstOf S x1)).1) = 0 then some ((0 : Int32), (fX8_look S (fX8_firstOf S x1)).2) else some (((fX8_look S (fX8_firstOf S x1)).2.1 9), (fX8_look S (fX8_firstOf S x1)).2)) else (if (bI (fX8_look S ((S.1 11) + (S.1 10))).1) = 0 then some ((0 : Int32), (fX8_look S ((S.1 11) + (S.1 10))).2) else some (((fX8_look S ((S.1 11) + (S.1 10))).2.1 9), (fX8_look S ((S.1 11) + (S.1 10))).2))) else (ob (fX8_find S x1 x2) (fun u8 => (if (bI u8.1) = 0 then some ((-3 : Int32), u8.2) else (if x2 = 0 then (if (bI (fX8_look u8.2 (fX8_firstOf u8.2 x1)).1) = 0 then some ((0 : Int32), (fX8_look u8.2 (fX8_firstOf u8.2 x1)).2) else some (((fX8_look u8.2 (fX8_firstOf u8.2 x1)).2.1 9), (fX8_look u8.2 (fX8_firstOf u8.2 x1)).2)) else (if (bI (fX8_look u8.2 ((u8.2.1 11) + (u8.2.1 10))).1) = 0 then some ((0 : Int32), (fX8_look u8.2 ((u8.2.1 11) + (u8.2.1 10))).2) else some (((fX8_look u8.2 ((u8.2.1 11) + (u8.2.1 10))).2.1 9), (fX8_look u8.2 ((u8.2.1 11) + (u8.2.1 10))).2))))))) else some ((-2 : Int32), S))))
set_option maxRecDepth 100000 in
set_option maxHeartbeats 4000000 in
theorem c_X8_next (l : Launch) (D : va_G) (k : Nat → ClassId) (a : Nat → Nat) (S : XS) (x1 : Int32) (x2 : Int32) (u : Int32 × XS) (h : fX8_next S x1 x2 = some u) : Wr noE l D (tyk k) (wM k a S) (wM k a u.2) yX8_next cX8_next 3 (some .int) (rmm 4 87) [.ref (a 0), .int x1, .int x2] (some (.int u.1)) := by
  refine wr_start (by decide) (Nat.le_of_ble_eq_true rfl) ?_
  intro p e s m below meth c A C hr hlocks hP hD0 hA hE0 ls hl
  have hDA : ∀ S, va_D A (wM k a S) := wM_D hD0
  have hS : va_S A s.heap s.heap [] := va_S.rf
  have hl : lv_has ls 3 [(0, .ref (a 0)), (1, .int x1), (2, .int x2)] := hl
  obtain ⟨⟨hx, hb, hml, hown, hts⟩, hK⟩ := id C
  rw [fX8_next] at h
  refine lv_aload_n hx hb dX8_next_0 rfl (lv_at hl 0 rfl) ?_
  refine lv_iload_n hx hb dX8_next_1 rfl (lv_at hl 1 rfl) ?_
  refine rdV noE_est C hP (ef noE_est hS hE0) (c_X8_isObject l D k a _ x1) my_X8_isObject ml_X8_66 (rM0 C hP) rfl hl.1 (rest := []) rfl (Nat.le_of_ble_eq_true rfl) ⟨rfl, rfl, Nat.le_of_ble_eq_true rfl, Nat.le_of_ble_eq_true rfl⟩ ⟨Nat.zero_le _, Nat.zero_le _⟩ dX8_next_2 ?_
  refine lv_if_ne (tgt := 10) hx hb dX8_next_5 (by decide) (fun c1 => ?_) (fun c1 => ?_)
  · rw [if_neg c1] at h
    refine lv_iload_n hx hb dX8_next_10 rfl (lv_at hl 2 rfl) ?_
    refine lv_if_lt (tgt := 22) hx hb dX8_next_11 (by decide) (fun c2 => ?_) (fun c2 => ?_)
    · rw [if_pos c2] at h
      refine lv_bipush (v := (-2 : Int32)) hx hb dX8_next_22 (by decide) ?_
      rw [← Option.some.inj h]
      exact wrM_iret C hr hlocks hP hS dX8_next_24
    · rw [if_neg c2] at h
      refine lv_iload_n hx hb dX8_next_14 rfl (lv_at hl 2 rfl) ?_
      refine lv_aload_n hx hb dX8_next_15 rfl (lv_at hl 0 rfl) ?_
      refine gM0_defaults C hP fl_X8_43 dX8_next_16 (v := (S.1 3)) rfl ?_
      refine lv_icmp_le (tgt := 25) hx hb dX8_next_19 (by decide) (fun c3 => ?_) (fun c3 => ?_)
      · rw [if_pos c3] at h
        refine lv_iload_n hx hb dX8_next_25 rfl (lv_at hl 2 rfl) ?_
        refine lv_if_le (tgt := 41) hx hb dX8_next_26 (by decide) (fun c4 => ?_) (fun c4 => ?_)
        · rw [if_pos c4] at h
          refine lv_aload_n hx hb dX8_next_41 rfl (lv_at hl 0 rfl) ?_
          refine lv_iload_n hx hb dX8_next_42 rfl (lv_at hl 2 rfl) ?_
          refine lv_if_ne (tgt := 54) hx hb dX8_next_43 (by decide) (fun c5 => ?_) (fun c5 => ?_)
          · rw [if_neg c5] at h
            refine lv_aload_n hx hb dX8_next_54 rfl (lv_at hl 0 rfl) ?_
            refine gM0_data C hP fl_X8_107 dX8_next_55 (v := (S.1 11)) rfl ?_
            refine lv_aload_n hx hb dX8_next_58 rfl (lv_at hl 0 rfl) ?_
            refine gM0_size C hP fl_X8_104 dX8_next_59 (v := (S.1 10)) rfl ?_
            refine lv_iadd hx hb dX8_next_62 ?_
            refine wrV noE_est C hP (hDA _) hA hS hE0 (c_X8_look l D k a _ ((S.1 11) + (S.1 10))) my_X8_look ml_X8_113 (rM0 C hP) rfl hl.1 (rest := []) rfl (Nat.le_of_ble_eq_true rfl) ⟨rfl, rfl, Nat.le_of_ble_eq_true rfl, Nat.le_of_ble_eq_true rfl⟩ ⟨Nat.zero_le _, Nat.zero_le _⟩ dX8_next_63 (fun H locs hP hS _ _ => ?_)
            refine lv_if_eq (tgt := 76) hx hb dX8_next_66 (by decide) (fun c6 => ?_) (fun c6 => ?_)
            · rw [if_pos c6] at h
              refine lv_iconst (v := (0 : Int32)) hx hb dX8_next_76 (by decide) ?_
              rw [← Option.some.inj h]
              exact wrM_iret C hr hlocks hP hS dX8_next_77
            · rw [if_neg c6] at h
              refine lv_aload_n hx hb dX8_next_69 rfl (lv_at hl 0 rfl) ?_
              refine gM0_number C hP fl_X8_101 dX8_next_70 (v := ((fX8_look S ((S.1 11) + (S.1 10))).2.1 9)) rfl ?_
              refine lv_goto (tgt := 77) hx hb dX8_next_73 (by decide) ?_
              rw [← Option.some.inj h]
              exact wrM_iret C hr hlocks hP hS dX8_next_77
          · rw [if_pos c5] at h
            refine lv_aload_n hx hb dX8_next_46 rfl (lv_at hl 0 rfl) ?_
            refine lv_iload_n hx hb dX8_next_47 rfl (lv_at hl 1 rfl) ?_
            refine rdV noE_est C hP (ef noE_est hS hE0) (c_X8_firstOf l D k a _ x1) my_X8_firstOf ml_X8_110 (rM0 C hP) rfl hl.1 (rest := [.ref (a 0)]) rfl (Nat.le_of_ble_eq_true rfl) ⟨rfl, rfl, Nat.le_of_ble_eq_true rfl, Nat.le_of_ble_eq_true rfl⟩ ⟨Nat.zero_le _, Nat.zero_le _⟩ dX8_next_48 ?_
            refine lv_goto (tgt := 63) hx hb dX8_next_51 (by decide) ?_
            refine wrV noE_est C hP (hDA _) hA hS hE0 (c_X8_look l D k a _ (fX8_firstOf S x1)) my_X8_look ml_X8_113 (rM0 C hP) rfl hl.1 (rest := []) rfl (Nat.le_of_ble_eq_true rfl) ⟨rfl, rfl, Nat.le_of_ble_eq_true rfl, Nat.le_of_ble_eq_true rfl⟩ ⟨Nat.zero_le _, Nat.zero_le _⟩ dX8_next_63 (fun H locs hP hS _ _ => ?_)
            refine lv_if_eq (tgt := 76) hx hb dX8_next_66 (by decide) (fun c7 => ?_) (fun c7 => ?_)
            · rw [if_pos c7] at h
              refine lv_iconst (v := (0 : Int32)) hx hb dX8_next_76 (by decide) ?_
              rw [← Option.some.inj h]
              exact wrM_iret C hr hlocks hP hS dX8_next_77
            · rw [if_neg c7] at h
              refine lv_aload_n hx hb dX8_next_69 rfl (lv_at hl 0 rfl) ?_
              refine gM0_number C hP fl_X8_101 dX8_next_70 (v := ((fX8_look S (fX8_firstOf S x1)).2.1 9)) rfl ?_
              refine lv_goto (tgt := 77) hx hb dX8_next_73 (by decide) ?_
              rw [← Option.some.inj h]
              exact wrM_iret C hr hlocks hP hS dX8_next_77
        · rw [if_neg c4] at h
          refine lv_aload_n hx hb dX8_next_29 rfl (lv_at hl 0 rfl) ?_
          refine lv_iload_n hx hb dX8_next_30 rfl (lv_at hl 1 rfl) ?_
          refine lv_iload_n hx hb dX8_next_31 rfl (lv_at hl 2 rfl) ?_
          obtain ⟨u8, hhu8, h⟩ := ob_some h
          refine wrV noE_est C hP (hDA _) hA hS hE0 (c_X8_find l D k a _ x1 x2 u8 hhu8) my_X8_find ml_X8_116 (rM0 C hP) rfl hl.1 (rest := []) rfl (Nat.le_of_ble_eq_true rfl) ⟨rfl, rfl, Nat.le_of_ble_eq_true rfl, Nat.le_of_ble_eq_true rfl⟩ ⟨Nat.zero_le _, Nat.zero_le _⟩ dX8_next_32 (fun H locs hP hS _ _ => ?_)
          refine lv_if_ne (tgt := 41) hx hb dX8_next_35 (by decide) (fun c9 => ?_) (fun c9 => ?_)
          · rw [if_neg c9] at h
            refine lv_aload_n hx hb dX8_next_41 rfl (lv_at hl 0 rfl) ?_
            refine lv_iload_n hx hb dX8_next_42 rfl (lv_at hl 2 rfl) ?_
            refine lv_if_ne (tgt := 54) hx hb dX8_next_43 (by decide) (fun c10 => ?_) (fun c10 => ?_)
            · rw [if_neg c10] at h
              refine lv_aload_n hx hb dX8_next_54 rfl (lv_at hl 0 rfl) ?_
              refine gM0_data C hP fl_X8_107 dX8_next_55 (v := (u8.2.1 11)) rfl ?_
              refine lv_aload_n hx hb dX8_next_58 rfl (lv_at hl 0 rfl) ?_
              refine gM0_size C hP fl_X8_104 dX8_next_59 (v := (u8.2.1 10)) rfl ?_
              refine lv_iadd hx hb dX8_next_62 ?_
              refine wrV noE_est C hP (hDA _) hA hS hE0 (c_X8_look l D k a _ ((u8.2.1 11) + (u8.2.1 10))) my_X8_look ml_X8_113 (rM0 C hP) rfl hl.1 (rest := []) rfl (Nat.le_of_ble_eq_true rfl) ⟨rfl, rfl, Nat.le_of_ble_eq_true rfl, Nat.le_of_ble_eq_true rfl⟩ ⟨Nat.zero_le _, Nat.zero_le _⟩ dX8_next_63 (fun H locs hP hS _ _ => ?_)
              refine lv_if_eq (tgt := 76) hx hb dX8_next_66 (by decide) (fun c11 => ?_) (fun c11 => ?_)
              · rw [if_pos c11] at h
                refine lv_iconst (v := (0 : Int32)) hx hb dX8_next_76 (by decide) ?_
                rw [← Option.some.inj h]
                exact wrM_iret C hr hlocks hP hS dX8_next_77
              · rw [if_neg c11] at h
                refine lv_aload_n hx hb dX8_next_69 rfl (lv_at hl 0 rfl) ?_
                refine gM0_number C hP fl_X8_101 dX8_next_70 (v := ((fX8_look u8.2 ((u8.2.1 11) + (u8.2.1 10))).2.1 9)) rfl ?_
                refine lv_goto (tgt := 77) hx hb dX8_next_73 (by decide) ?_
                rw [← Option.some.inj h]
                exact wrM_iret C hr hlocks hP hS dX8_next_77
            · rw [if_pos c10] at h
              refine lv_aload_n hx hb dX8_next_46 rfl (lv_at hl 0 rfl) ?_
              refine lv_iload_n hx hb dX8_next_47 rfl (lv_at hl 1 rfl) ?_
              refine rdV noE_est C hP (ef noE_est hS hE0) (c_X8_firstOf l D k a _ x1) my_X8_firstOf ml_X8_110 (rM0 C hP) rfl hl.1 (rest := [.ref (a 0)]) rfl (Nat.le_of_ble_eq_true rfl) ⟨rfl, rfl, Nat.le_of_ble_eq_true rfl, Nat.le_of_ble_eq_true rfl⟩ ⟨Nat.zero_le _, Nat.zero_le _⟩ dX8_next_48 ?_
              refine lv_goto (tgt := 63) hx hb dX8_next_51 (by decide) ?_
              refine wrV noE_est C hP (hDA _) hA hS hE0 (c_X8_look l D k a _ (fX8_firstOf u8.2 x1)) my_X8_look ml_X8_113 (rM0 C hP) rfl hl.1 (rest := []) rfl (Nat.le_of_ble_eq_true rfl) ⟨rfl, rfl, Nat.le_of_ble_eq_true rfl, Nat.le_of_ble_eq_true rfl⟩ ⟨Nat.zero_le _, Nat.zero_le _⟩ dX8_next_63 (fun H locs hP hS _ _ => ?_)
              refine lv_if_eq (tgt := 76) hx hb dX8_next_66 (by decide) (fun c12 => ?_) (fun c12 => ?_)
              · rw [if_pos c12] at h
                refine lv_iconst (v := (0 : Int32)) hx hb dX8_next_76 (by decide) ?_
                rw [← Option.some.inj h]
                exact wrM_iret C hr hlocks hP hS dX8_next_77
              · rw [if_neg c12] at h
                refine lv_aload_n hx hb dX8_next_69 rfl (lv_at hl 0 rfl) ?_
                refine gM0_number C hP fl_X8_101 dX8_next_70 (v := ((fX8_look u8.2 (fX8_firstOf u8.2 x1)).2.1 9)) rfl ?_
                refine lv_goto (tgt := 77) hx hb dX8_next_73 (by decide) ?_
                rw [← Option.some.inj h]
                exact wrM_iret C hr hlocks hP hS dX8_next_77
          · rw [if_pos c9] at h
            refine lv_bipush (v := (-3 : Int32)) hx hb dX8_next_38 (by decide) ?_
            rw [← Option.some.inj h]
            exact wrM_iret C hr hlocks hP hS dX8_next_40
      · rw [if_neg c3] at h
        refine lv_bipush (v := (-2 : Int32)) hx hb dX8_next_22 (by decide) ?_
        rw [← Option.some.inj h]
        exact wrM_iret C hr hlocks hP hS dX8_next_24
  · rw [if_pos c1] at h
    refine lv_iconst (v := (-1 : Int32)) hx hb dX8_next_8 (by decide) ?_
    rw [← Option.some.inj h]
    exact wrM_iret C hr hlocks hP hS dX8_next_9
def fX8_address (S : XS) (x1 : Int32) (x2 : Int32) : Option (Int32 × XS) := (if (bI (fX8_isObject S x1)) = 0 then some ((-1 : Int32), S) else (if x2 < (1 : Int32) then some ((-2 : Int32), S) else (if x2 ≤ (S.1 3) then (ob (fX8_find S x1 x2) (fun u4 => (if (bI u4.1) = 0 then some ((0 : Int32), u4.2) else some ((u4.2.1 11), u4.2)))) else some ((-2 : Int32), S))))
set_option maxRecDepth 100000 in
set_option maxHeartbeats 4000000 in
theorem c_X8_address (l : Launch) (D : va_G) (k : Nat → ClassId) (a : Nat → Nat) (S : XS) (x1 : Int32) (x2 : Int32) (u : Int32 × XS) (h : fX8_address S x1 x2 = some u) : Wr noE l D (tyk k) (wM k a S) (wM k a u.2) yX8_address cX8_address 3 (some .int) (rmm 4 87) [.ref (a 0), .int x1, .int x2] (some (.int u.1)) := by
  refine wr_start (by decide) (Nat.le_of_ble_eq_true rfl) ?_
  intro p e s m below meth c A C hr hlocks hP hD0 hA hE0 ls hl
  have hDA : ∀ S, va_D A (wM k a S) := wM_D hD0
  have hS : va_S A s.heap s.heap [] := va_S.rf
  have hl : lv_has ls 3 [(0, .ref (a 0)), (1, .int x1), (2, .int x2)] := hl
  obtain ⟨⟨hx, hb, hml, hown, hts⟩, hK⟩ := id C
  rw [fX8_address] at h
  refine lv_aload_n hx hb dX8_address_0 rfl (lv_at hl 0 rfl) ?_
  refine lv_iload_n hx hb dX8_address_1 rfl (lv_at hl 1 rfl) ?_
  refine rdV noE_est C hP (ef noE_est hS hE0) (c_X8_isObject l D k a _ x1) my_X8_isObject ml_X8_66 (rM0 C hP) rfl hl.1 (rest := []) rfl (Nat.le_of_ble_eq_true rfl) ⟨rfl, rfl, Nat.le_of_ble_eq_true rfl, Nat.le_of_ble_eq_true rfl⟩ ⟨Nat.zero_le _, Nat.zero_le _⟩ dX8_address_2 ?_
  refine lv_if_ne (tgt := 10) hx hb dX8_address_5 (by decide) (fun c1 => ?_) (fun c1 => ?_)
  · rw [if_neg c1] at h
    refine lv_iload_n hx hb dX8_address_10 rfl (lv_at hl 2 rfl) ?_
    refine lv_iconst (v := (1 : Int32)) hx hb dX8_address_11 (by decide) ?_
    refine lv_icmp_lt (tgt := 23) hx hb dX8_address_12 (by decide) (fun c2 => ?_) (fun c2 => ?_)
    · rw [if_pos c2] at h
      refine lv_bipush (v := (-2 : Int32)) hx hb dX8_address_23 (by decide) ?_
      rw [← Option.some.inj h]
      exact wrM_iret C hr hlocks hP hS dX8_address_25
    · rw [if_neg c2] at h
      refine lv_iload_n hx hb dX8_address_15 rfl (lv_at hl 2 rfl) ?_
      refine lv_aload_n hx hb dX8_address_16 rfl (lv_at hl 0 rfl) ?_
      refine gM0_defaults C hP fl_X8_43 dX8_address_17 (v := (S.1 3)) rfl ?_
      refine lv_icmp_le (tgt := 26) hx hb dX8_address_20 (by decide) (fun c3 => ?_) (fun c3 => ?_)
      · rw [if_pos c3] at h
        refine lv_aload_n hx hb dX8_address_26 rfl (lv_at hl 0 rfl) ?_
        refine lv_iload_n hx hb dX8_address_27 rfl (lv_at hl 1 rfl) ?_
        refine lv_iload_n hx hb dX8_address_28 rfl (lv_at hl 2 rfl) ?_
        obtain ⟨u4, hhu4, h⟩ := ob_some h
        refine wrV noE_est C hP (hDA _) hA hS hE0 (c_X8_find l D k a _ x1 x2 u4 hhu4) my_X8_find ml_X8_116 (rM0 C hP) rfl hl.1 (rest := []) rfl (Nat.le_of_ble_eq_true rfl) ⟨rfl, rfl, Nat.le_of_ble_eq_true rfl, Nat.le_of_ble_eq_true rfl⟩ ⟨Nat.zero_le _, Nat.zero_le _⟩ dX8_address_29 (fun H locs hP hS _ _ => ?_)
        refine lv_if_eq (tgt := 42) hx hb dX8_address_32 (by decide) (fun c5 => ?_) (fun c5 => ?_)
        · rw [if_pos c5] at h
          refine lv_iconst (v := (0 : Int32)) hx hb dX8_address_42 (by decide) ?_
          rw [← Option.some.inj h]
          exact wrM_iret C hr hlocks hP hS dX8_address_43
        · rw [if_neg c5] at h
          refine lv_aload_n hx hb dX8_address_35 rfl (lv_at hl 0 rfl) ?_
          refine gM0_data C hP fl_X8_107 dX8_address_36 (v := (u4.2.1 11)) rfl ?_
          refine lv_goto (tgt := 43) hx hb dX8_address_39 (by decide) ?_
          rw [← Option.some.inj h]
          exact wrM_iret C hr hlocks hP hS dX8_address_43
      · rw [if_neg c3] at h
        refine lv_bipush (v := (-2 : Int32)) hx hb dX8_address_23 (by decide) ?_
        rw [← Option.some.inj h]
        exact wrM_iret C hr hlocks hP hS dX8_address_25
  · rw [if_pos c1] at h
    refine lv_iconst (v := (-1 : Int32)) hx hb dX8_address_8 (by decide) ?_
    rw [← Option.some.inj h]
    exact wrM_iret C hr hlocks hP hS dX8_address_9
def fX8_length (S : XS) (x1 : Int32) : Int32 := (if x1 < 0 then (-2 : Int32) else (if x1 ≤ (4096 : Int32) then (if x1 = 0 then (0 : Int32) else (if (S.1 2) = 0 then (((fX8_at S (x1 - (1 : Int32))) / (32 : Int32)) + (1 : Int32)) else (if (fX8_at S (x1 - (1 : Int32))) < (128 : Int32) then (((fX8_at S (x1 - (1 : Int32))) / (64 : Int32)) + (1 : Int32)) else (if ((fX8_at S (x1 - (1 : Int32))) - (fX8_at S (x1 - (1 : Int32))) / (64 : Int32) * (64 : Int32)) = 0 then (64 : Int32) else ((fX8_at S (x1 - (1 : Int32))) - (fX8_at S (x1 - (1 : Int32))) / (64 : Int32) * (64 : Int32)))))) else (-2 : Int32)))
set_option maxRecDepth 100000 in
set_option maxHeartbeats 4000000 in
theorem c_X8_length (l : Launch) (D : va_G) (k : Nat → ClassId) (a : Nat → Nat) (S : XS) (x1 : Int32) : Rd noE l D (tyk k) (wM k a S) yX8_length cX8_length 3 (some .int) (rmm 1 21) [.ref (a 0), .int x1] (fX8_length S x1) := by
  generalize h : fX8_length S x1 = u
  refine rd_start (by decide) (Nat.le_of_ble_eq_true rfl) ?_
  intro p e s m below meth c C hr hlocks hP hE0 ls hl
  have hl : lv_has ls 3 [(0, .ref (a 0)), (1, .int x1)] := hl
  obtain ⟨⟨hx, hb, hml, hown, hts⟩, hK⟩ := id C
  rw [fX8_length] at h
  refine lv_iload_n hx hb dX8_length_0 rfl (lv_at hl 1 rfl) ?_
  refine lv_if_lt (tgt := 11) hx hb dX8_length_1 (by decide) (fun c1 => ?_) (fun c1 => ?_)
  · rw [if_pos c1] at h
    refine lv_bipush (v := (-2 : Int32)) hx hb dX8_length_11 (by decide) ?_
    rw [← h]
    exact rd_iret C hr hlocks dX8_length_13
  · rw [if_neg c1] at h
    refine lv_iload_n hx hb dX8_length_4 rfl (lv_at hl 1 rfl) ?_
    refine lv_sipush (v := (4096 : Int32)) hx hb dX8_length_5 (by decide) ?_
    refine lv_icmp_le (tgt := 14) hx hb dX8_length_8 (by decide) (fun c2 => ?_) (fun c2 => ?_)
    · rw [if_pos c2] at h
      refine lv_iload_n hx hb dX8_length_14 rfl (lv_at hl 1 rfl) ?_
      refine lv_if_ne (tgt := 20) hx hb dX8_length_15 (by decide) (fun c3 => ?_) (fun c3 => ?_)
      · rw [if_neg c3] at h
        refine lv_aload_n hx hb dX8_length_20 rfl (lv_at hl 0 rfl) ?_
        refine lv_iload_n hx hb dX8_length_21 rfl (lv_at hl 1 rfl) ?_
        refine lv_iconst (v := (1 : Int32)) hx hb dX8_length_22 (by decide) ?_
        refine lv_isub hx hb dX8_length_23 ?_
        refine rdV noE_est C hP hE0 (c_X8_at l D k a _ (x1 - (1 : Int32))) my_X8_at ml_X8_46 (rM0 C hP) rfl hl.1 (rest := []) rfl (Nat.le_of_ble_eq_true rfl) ⟨rfl, rfl, Nat.le_of_ble_eq_true rfl, Nat.le_of_ble_eq_true rfl⟩ ⟨Nat.zero_le _, Nat.zero_le _⟩ dX8_length_24 ?_
        refine lv_istore_n (lv' := [(2, .int (fX8_at S (x1 - (1 : Int32)))), (0, .ref (a 0)), (1, .int x1)]) hx hb dX8_length_27 rfl hl (by decide) rfl (fun ls hl => ?_)
        refine lv_aload_n hx hb dX8_length_28 rfl (lv_at hl 1 rfl) ?_
        refine gM0_wide C hP fl_X8_39 dX8_length_29 (v := (S.1 2)) rfl ?_
        refine lv_if_ne (tgt := 42) hx hb dX8_length_32 (by decide) (fun c4 => ?_) (fun c4 => ?_)
        · rw [if_neg c4] at h
          refine lv_iload_n hx hb dX8_length_42 rfl (lv_at hl 0 rfl) ?_
          refine lv_sipush (v := (128 : Int32)) hx hb dX8_length_43 (by decide) ?_
          refine lv_icmp_lt (tgt := 68) hx hb dX8_length_46 (by decide) (fun c5 => ?_) (fun c5 => ?_)
          · rw [if_pos c5] at h
            refine lv_iload_n hx hb dX8_length_68 rfl (lv_at hl 0 rfl) ?_
            refine lv_bipush (v := (64 : Int32)) hx hb dX8_length_69 (by decide) ?_
            refine lv_idiv hx hb dX8_length_71 (by decide) ?_
            refine lv_iconst (v := (1 : Int32)) hx hb dX8_length_72 (by decide) ?_
            refine lv_iadd hx hb dX8_length_73 ?_
            rw [← h]
            exact rd_iret C hr hlocks dX8_length_74
          · rw [if_neg c5] at h
            refine lv_iload_n hx hb dX8_length_49 rfl (lv_at hl 0 rfl) ?_
            refine lv_bipush (v := (64 : Int32)) hx hb dX8_length_50 (by decide) ?_
            refine lv_irem hx hb dX8_length_52 (by decide) ?_
            refine lv_if_ne (tgt := 61) hx hb dX8_length_53 (by decide) (fun c6 => ?_) (fun c6 => ?_)
            · rw [if_neg c6] at h
              refine lv_iload_n hx hb dX8_length_61 rfl (lv_at hl 0 rfl) ?_
              refine lv_bipush (v := (64 : Int32)) hx hb dX8_length_62 (by decide) ?_
              refine lv_irem hx hb dX8_length_64 (by decide) ?_
              refine lv_goto (tgt := 74) hx hb dX8_length_65 (by decide) ?_
              rw [← h]
              exact rd_iret C hr hlocks dX8_length_74
            · rw [if_pos c6] at h
              refine lv_bipush (v := (64 : Int32)) hx hb dX8_length_56 (by decide) ?_
              refine lv_goto (tgt := 74) hx hb dX8_length_58 (by decide) ?_
              rw [← h]
              exact rd_iret C hr hlocks dX8_length_74
        · rw [if_pos c4] at h
          refine lv_iload_n hx hb dX8_length_35 rfl (lv_at hl 0 rfl) ?_
          refine lv_bipush (v := (32 : Int32)) hx hb dX8_length_36 (by decide) ?_
          refine lv_idiv hx hb dX8_length_38 (by decide) ?_
          refine lv_iconst (v := (1 : Int32)) hx hb dX8_length_39 (by decide) ?_
          refine lv_iadd hx hb dX8_length_40 ?_
          rw [← h]
          exact rd_iret C hr hlocks dX8_length_41
      · rw [if_pos c3] at h
        refine lv_iconst (v := (0 : Int32)) hx hb dX8_length_18 (by decide) ?_
        rw [← h]
        exact rd_iret C hr hlocks dX8_length_19
    · rw [if_neg c2] at h
      refine lv_bipush (v := (-2 : Int32)) hx hb dX8_length_11 (by decide) ?_
      rw [← h]
      exact rd_iret C hr hlocks dX8_length_13
def fX8_fallback (S : XS) (x1 : Int32) (x2 : Int32) : Int32 × XS := (if x1 < (1 : Int32) then ((-2 : Int32), S) else (if x1 ≤ (S.1 3) then ((fX8_word S ((254 : Int32) + ((2 : Int32) * x1))), (fX8_setWord S ((254 : Int32) + ((2 : Int32) * x1)) x2)) else ((-2 : Int32), S)))
set_option maxRecDepth 100000 in
set_option maxHeartbeats 4000000 in
theorem c_X8_fallback (l : Launch) (D : va_G) (k : Nat → ClassId) (a : Nat → Nat) (S : XS) (x1 : Int32) (x2 : Int32) : Wr noE l D (tyk k) (wM k a S) (wM k a (fX8_fallback S x1 x2).2) yX8_fallback cX8_fallback 4 (some .int) (rmm 2 44) [.ref (a 0), .int x1, .int x2] (some (.int (fX8_fallback S x1 x2).1)) := by
  generalize h : fX8_fallback S x1 x2 = u
  refine wr_start (by decide) (Nat.le_of_ble_eq_true rfl) ?_
  intro p e s m below meth c A C hr hlocks hP hD0 hA hE0 ls hl
  have hDA : ∀ S, va_D A (wM k a S) := wM_D hD0
  have hS : va_S A s.heap s.heap [] := va_S.rf
  have hl : lv_has ls 4 [(0, .ref (a 0)), (1, .int x1), (2, .int x2)] := hl
  obtain ⟨⟨hx, hb, hml, hown, hts⟩, hK⟩ := id C
  rw [fX8_fallback] at h
  refine lv_iload_n hx hb dX8_fallback_0 rfl (lv_at hl 1 rfl) ?_
  refine lv_iconst (v := (1 : Int32)) hx hb dX8_fallback_1 (by decide) ?_
  refine lv_icmp_lt (tgt := 13) hx hb dX8_fallback_2 (by decide) (fun c1 => ?_) (fun c1 => ?_)
  · rw [if_pos c1] at h
    refine lv_bipush (v := (-2 : Int32)) hx hb dX8_fallback_13 (by decide) ?_
    rw [← h]
    exact wrM_iret C hr hlocks hP hS dX8_fallback_15
  · rw [if_neg c1] at h
    refine lv_iload_n hx hb dX8_fallback_5 rfl (lv_at hl 1 rfl) ?_
    refine lv_aload_n hx hb dX8_fallback_6 rfl (lv_at hl 0 rfl) ?_
    refine gM0_defaults C hP fl_X8_43 dX8_fallback_7 (v := (S.1 3)) rfl ?_
    refine lv_icmp_le (tgt := 16) hx hb dX8_fallback_10 (by decide) (fun c2 => ?_) (fun c2 => ?_)
    · rw [if_pos c2] at h
      refine lv_aload_n hx hb dX8_fallback_16 rfl (lv_at hl 0 rfl) ?_
      refine lv_sipush (v := (254 : Int32)) hx hb dX8_fallback_17 (by decide) ?_
      refine lv_iconst (v := (2 : Int32)) hx hb dX8_fallback_20 (by decide) ?_
      refine lv_iload_n hx hb dX8_fallback_21 rfl (lv_at hl 1 rfl) ?_
      refine lv_imul hx hb dX8_fallback_22 ?_
      refine lv_iadd hx hb dX8_fallback_23 ?_
      refine rdV noE_est C hP (ef noE_est hS hE0) (c_X8_word l D k a _ ((254 : Int32) + ((2 : Int32) * x1))) my_X8_word ml_X8_57 (rM0 C hP) rfl hl.1 (rest := []) rfl (Nat.le_of_ble_eq_true rfl) ⟨rfl, rfl, Nat.le_of_ble_eq_true rfl, Nat.le_of_ble_eq_true rfl⟩ ⟨Nat.zero_le _, Nat.zero_le _⟩ dX8_fallback_24 ?_
      refine lv_istore_n (lv' := [(3, .int (fX8_word S ((254 : Int32) + ((2 : Int32) * x1)))), (0, .ref (a 0)), (1, .int x1), (2, .int x2)]) hx hb dX8_fallback_27 rfl hl (by decide) rfl (fun ls hl => ?_)
      refine lv_aload_n hx hb dX8_fallback_28 rfl (lv_at hl 1 rfl) ?_
      refine lv_sipush (v := (254 : Int32)) hx hb dX8_fallback_29 (by decide) ?_
      refine lv_iconst (v := (2 : Int32)) hx hb dX8_fallback_32 (by decide) ?_
      refine lv_iload_n hx hb dX8_fallback_33 rfl (lv_at hl 2 rfl) ?_
      refine lv_imul hx hb dX8_fallback_34 ?_
      refine lv_iadd hx hb dX8_fallback_35 ?_
      refine lv_iload_n hx hb dX8_fallback_36 rfl (lv_at hl 3 rfl) ?_
      refine wrV noE_est C hP (hDA _) hA hS hE0 (c_X8_setWord l D k a _ ((254 : Int32) + ((2 : Int32) * x1)) x2) my_X8_setWord ml_X8_60 (rM0 C hP) rfl hl.1 (rest := []) rfl (Nat.le_of_ble_eq_true rfl) ⟨rfl, rfl, Nat.le_of_ble_eq_true rfl, Nat.le_of_ble_eq_true rfl⟩ ⟨Nat.zero_le _, Nat.zero_le _⟩ dX8_fallback_37 (fun H locs hP hS _ _ => ?_)
      refine lv_iload_n hx hb dX8_fallback_40 rfl (lv_at hl 0 rfl) ?_
      rw [← h]
      exact wrM_iret C hr hlocks hP hS dX8_fallback_41
    · rw [if_neg c2] at h
      refine lv_bipush (v := (-2 : Int32)) hx hb dX8_fallback_13 (by decide) ?_
      rw [← h]
      exact wrM_iret C hr hlocks hP hS dX8_fallback_15
