set_option maxRecDepth 100000 in
set_option maxHeartbeats 4000000 in
theorem c_X2_init (l : Launch) (D : va_G) (k : Nat → ClassId) (h0 : Nat)  : Ic (fun _ => True) l D (tyk k) [(h0, .inr (2, [.null]))] (fun q => [(h0, .inr (2, [.ref (q 0)])), (q 0, .inl (k 0, 4096, .inl (fun _ => 0)))]) yX2_init cX2_init 1 { frames := 1, cells := 1, slots := 4096, locals := 12 } [.ref h0] 1 4096 := by
  refine ic_start (by decide) (Nat.le_of_ble_eq_true rfl) rfl ?_
  intro p e s m below meth c A C hr hlocks hin hP hD hA hN ls hl
  have hl : lv_has ls 1 [(0, .ref h0)] := hl
  obtain ⟨⟨hx, hb, hml, hown, hts⟩, hK⟩ := id C
  have hS : va_S A s.heap s.heap [] := va_S.rf
  refine lv_aload_n hx hb dX2_init_0 rfl (lv_at hl 0 rfl) ?_
  refine xobj (cls := "") C mo_X2_3 hl.1 dX2_init_1 (Nat.le_of_ble_eq_true rfl) (Nat.le_of_ble_eq_true rfl) ?_
  refine lv_aload_n hx hb dX2_init_4 rfl (lv_at hl 0 rfl) ?_
  refine lv_sipush (v := (4096 : Int32)) hx hb dX2_init_5 (by decide) ?_
  refine xnewa (t := .byte) (t0 := 0) (cK := k 0) (N' := 4096) C hP hD hA hS ar_byte rfl rfl (fun _ h => h) (fun _ => rfl) (by decide) (by decide) (by decide) (Nat.le_of_ble_eq_true rfl) (Nat.le_of_ble_eq_true rfl) dX2_init_8 (fun q1 H hP hD hS => ?_)
  have hP : va_P D vwCl [(h0, .inr (2, [.null])), (q1, .inl (k 0, 4096, .inl (fun _ => 0)))] H := hP
  have hD : va_D A [(h0, .inr (2, [.null])), (q1, .inl (k 0, 4096, .inl (fun _ => 0)))] := hD
  refine W.widen (k := 1) (n := 4096) (Nat.le_refl _) (Nat.le_refl _) ?_
  refine va_putF (D := D) (ci := 2) (v := .ref q1) (ty := (.array .byte)) (C := RX2) (T := TX2) (N := 1) hx hb hts iX2 tyX2 tyX2_ok nmX2 hown hK hP hD hS 0 rfl rfl 0 (by decide) (hts _ fl_X2_9) (fun _ h9 => h9) rfl hin rfl (by decide +kernel) rfl rfl (Nat.le_of_ble_eq_true rfl) dX2_init_10 (fun H locs hP hD hS => ?_)
  have hP : va_P D vwCl [(h0, .inr (2, [.ref q1])), (q1, .inl (k 0, 4096, .inl (fun _ => 0)))] H := hP
  have hD : va_D A [(h0, .inr (2, [.ref q1])), (q1, .inl (k 0, 4096, .inl (fun _ => 0)))] := hD
  exact ic_vret (q := fun i => match i with | 0 => q1 | _ => 0) C hr hlocks (hP.sub [0, 1] rfl) (hD.sub [0, 1] (by decide) rfl) hS dX2_init_13
set_option maxRecDepth 100000 in
set_option maxHeartbeats 4000000 in
theorem c_X0_init_f (l : Launch) (D : va_G) (k : Nat → ClassId) (h0 : Nat) (x1 : Nat) (x3 : Int32) : Ic (fun _ => True) l D (tyk k) [(h0, .inr (0, [.null, .int 0, .int 0, .int 0, .int 0, .int 0, .int 0]))] (fun _ => [(h0, .inr (0, [.ref x1, .int (0 : Int32), .int x3, .int (4 : Int32), .int (1 : Int32), .int (9 : Int32), .int (0 : Int32)]))]) yX0_init cX0_init 4 { frames := 1, cells := 0, slots := 0, locals := 12 } [.ref h0, .ref x1, .int (0 : Int32), .int x3] 0 0 := by
  refine ic_start (by decide) (Nat.le_of_ble_eq_true rfl) rfl ?_
  intro p e s m below meth c A C hr hlocks hin hP hD hA hN ls hl
  have hl : lv_has ls 4 [(0, .ref h0), (1, .ref x1), (2, .int (0 : Int32)), (3, .int x3)] := hl
  obtain ⟨⟨hx, hb, hml, hown, hts⟩, hK⟩ := id C
  have hS : va_S A s.heap s.heap [] := va_S.rf
  refine lv_aload_n hx hb dX0_init_0 rfl (lv_at hl 0 rfl) ?_
  refine xobj (cls := "") C mo_X0_3 hl.1 dX0_init_1 (Nat.le_of_ble_eq_true rfl) (Nat.le_of_ble_eq_true rfl) ?_
  refine lv_aload_n hx hb dX0_init_4 rfl (lv_at hl 0 rfl) ?_
  refine lv_aload_n hx hb dX0_init_5 rfl (lv_at hl 1 rfl) ?_
  refine va_putF (D := D) (ci := 0) (v := .ref x1) (ty := (.object "ZObjects$Memory")) (C := RX0) (T := TX0) (N := 7) hx hb hts iX0 tyX0 tyX0_ok nmX0 hown hK hP hD hS 0 rfl rfl 0 (by decide) (hts _ fl_X0_9) (fun _ h9 => h9) rfl hin rfl (by decide +kernel) rfl rfl (Nat.le_of_ble_eq_true rfl) dX0_init_6 (fun H locs hP hD hS => ?_)
  have hP : va_P D vwCl [(h0, .inr (0, [.ref x1, .int 0, .int 0, .int 0, .int 0, .int 0, .int 0]))] H := hP
  have hD : va_D A [(h0, .inr (0, [.ref x1, .int 0, .int 0, .int 0, .int 0, .int 0, .int 0]))] := hD
  refine lv_aload_n hx hb dX0_init_9 rfl (lv_at hl 0 rfl) ?_
  refine lv_iload_n hx hb dX0_init_10 rfl (lv_at hl 2 rfl) ?_
  refine va_putF (D := D) (ci := 0) (v := .int (0 : Int32)) (ty := .boolean) (C := RX0) (T := TX0) (N := 7) hx hb hts iX0 tyX0 tyX0_ok nmX0 hown hK hP hD hS 0 rfl rfl 1 (by decide) (hts _ fl_X0_15) (fun _ h9 => h9) rfl hin rfl (by decide +kernel) rfl rfl (Nat.le_of_ble_eq_true rfl) dX0_init_11 (fun H locs hP hD hS => ?_)
  have hP : va_P D vwCl [(h0, .inr (0, [.ref x1, .int (0 : Int32), .int 0, .int 0, .int 0, .int 0, .int 0]))] H := hP
  have hD : va_D A [(h0, .inr (0, [.ref x1, .int (0 : Int32), .int 0, .int 0, .int 0, .int 0, .int 0]))] := hD
  refine lv_aload_n hx hb dX0_init_14 rfl (lv_at hl 0 rfl) ?_
  refine lv_iload_n hx hb dX0_init_15 rfl (lv_at hl 3 rfl) ?_
  refine va_putF (D := D) (ci := 0) (v := .int x3) (ty := .int) (C := RX0) (T := TX0) (N := 7) hx hb hts iX0 tyX0 tyX0_ok nmX0 hown hK hP hD hS 0 rfl rfl 2 (by decide) (hts _ fl_X0_19) (fun _ h9 => h9) rfl hin rfl (by decide +kernel) rfl rfl (Nat.le_of_ble_eq_true rfl) dX0_init_16 (fun H locs hP hD hS => ?_)
  have hP : va_P D vwCl [(h0, .inr (0, [.ref x1, .int (0 : Int32), .int x3, .int 0, .int 0, .int 0, .int 0]))] H := hP
  have hD : va_D A [(h0, .inr (0, [.ref x1, .int (0 : Int32), .int x3, .int 0, .int 0, .int 0, .int 0]))] := hD
  refine lv_aload_n hx hb dX0_init_19 rfl (lv_at hl 0 rfl) ?_
  refine lv_iload_n hx hb dX0_init_20 rfl (lv_at hl 2 rfl) ?_
  refine lv_if_eq (tgt := 29) hx hb dX0_init_21 (by decide) (fun c1 => ?_) (fun c1 => absurd c1 (by decide))
  refine lv_iconst (v := (4 : Int32)) hx hb dX0_init_29 (by decide) ?_
  refine va_putF (D := D) (ci := 0) (v := .int (4 : Int32)) (ty := .int) (C := RX0) (T := TX0) (N := 7) hx hb hts iX0 tyX0 tyX0_ok nmX0 hown hK hP hD hS 0 rfl rfl 3 (by decide) (hts _ fl_X0_23) (fun _ h9 => h9) rfl hin rfl (by decide +kernel) rfl rfl (Nat.le_of_ble_eq_true rfl) dX0_init_30 (fun H locs hP hD hS => ?_)
  have hP : va_P D vwCl [(h0, .inr (0, [.ref x1, .int (0 : Int32), .int x3, .int (4 : Int32), .int 0, .int 0, .int 0]))] H := hP
  have hD : va_D A [(h0, .inr (0, [.ref x1, .int (0 : Int32), .int x3, .int (4 : Int32), .int 0, .int 0, .int 0]))] := hD
  refine lv_aload_n hx hb dX0_init_33 rfl (lv_at hl 0 rfl) ?_
  refine lv_iload_n hx hb dX0_init_34 rfl (lv_at hl 2 rfl) ?_
  refine lv_if_eq (tgt := 42) hx hb dX0_init_35 (by decide) (fun c1 => ?_) (fun c1 => absurd c1 (by decide))
  refine lv_iconst (v := (1 : Int32)) hx hb dX0_init_42 (by decide) ?_
  refine va_putF (D := D) (ci := 0) (v := .int (1 : Int32)) (ty := .int) (C := RX0) (T := TX0) (N := 7) hx hb hts iX0 tyX0 tyX0_ok nmX0 hown hK hP hD hS 0 rfl rfl 4 (by decide) (hts _ fl_X0_26) (fun _ h9 => h9) rfl hin rfl (by decide +kernel) rfl rfl (Nat.le_of_ble_eq_true rfl) dX0_init_43 (fun H locs hP hD hS => ?_)
  have hP : va_P D vwCl [(h0, .inr (0, [.ref x1, .int (0 : Int32), .int x3, .int (4 : Int32), .int (1 : Int32), .int 0, .int 0]))] H := hP
  have hD : va_D A [(h0, .inr (0, [.ref x1, .int (0 : Int32), .int x3, .int (4 : Int32), .int (1 : Int32), .int 0, .int 0]))] := hD
  refine lv_aload_n hx hb dX0_init_46 rfl (lv_at hl 0 rfl) ?_
  refine lv_aload_n hx hb dX0_init_47 rfl (lv_at hl 0 rfl) ?_
  refine va_get (D := D) (ci := 0) (v := .int (4 : Int32)) (C := RX0) (T := TX0) (N := 7) hx hb hts iX0 hown hK hP 0 rfl rfl 3 (by decide) (hts _ fl_X0_23) (fun _ h9 => h9) rfl dX0_init_48 ?_
  refine lv_iconst (v := (3 : Int32)) hx hb dX0_init_51 (by decide) ?_
  refine lv_aload_n hx hb dX0_init_52 rfl (lv_at hl 0 rfl) ?_
  refine va_get (D := D) (ci := 0) (v := .int (1 : Int32)) (C := RX0) (T := TX0) (N := 7) hx hb hts iX0 hown hK hP 0 rfl rfl 4 (by decide) (hts _ fl_X0_26) (fun _ h9 => h9) rfl dX0_init_53 ?_
  refine lv_imul hx hb dX0_init_56 ?_
  refine lv_topi (fun z1 ez1 => ?_)
  obtain rfl : z1 = (3 : Int32) := ez1.trans (by decide)
  refine lv_iadd hx hb dX0_init_57 ?_
  refine lv_topi (fun z2 ez2 => ?_)
  obtain rfl : z2 = (7 : Int32) := ez2.trans (by decide)
  refine lv_iconst (v := (2 : Int32)) hx hb dX0_init_58 (by decide) ?_
  refine lv_iadd hx hb dX0_init_59 ?_
  refine lv_topi (fun z3 ez3 => ?_)
  obtain rfl : z3 = (9 : Int32) := ez3.trans (by decide)
  refine va_putF (D := D) (ci := 0) (v := .int (9 : Int32)) (ty := .int) (C := RX0) (T := TX0) (N := 7) hx hb hts iX0 tyX0 tyX0_ok nmX0 hown hK hP hD hS 0 rfl rfl 5 (by decide) (hts _ fl_X0_29) (fun _ h9 => h9) rfl hin rfl (by decide +kernel) rfl rfl (Nat.le_of_ble_eq_true rfl) dX0_init_60 (fun H locs hP hD hS => ?_)
  have hP : va_P D vwCl [(h0, .inr (0, [.ref x1, .int (0 : Int32), .int x3, .int (4 : Int32), .int (1 : Int32), .int (9 : Int32), .int 0]))] H := hP
  have hD : va_D A [(h0, .inr (0, [.ref x1, .int (0 : Int32), .int x3, .int (4 : Int32), .int (1 : Int32), .int (9 : Int32), .int 0]))] := hD
  refine lv_aload_n hx hb dX0_init_63 rfl (lv_at hl 0 rfl) ?_
  refine lv_iconst (v := (0 : Int32)) hx hb dX0_init_64 (by decide) ?_
  refine va_put (D := D) (ci := 0) (v := .int (0 : Int32)) (ty := .int) (C := RX0) (T := TX0) (N := 7) hx hb hts iX0 tyX0 tyX0_ok nmX0 hown hK hP hD hS 0 rfl rfl 6 (by decide) (hts _ fl_X0_32) (fun _ h9 => h9) rfl (by decide +kernel) rfl rfl (Nat.le_of_ble_eq_true rfl) dX0_init_65 (fun H locs hP hD hS => ?_)
  have hP : va_P D vwCl [(h0, .inr (0, [.ref x1, .int (0 : Int32), .int x3, .int (4 : Int32), .int (1 : Int32), .int (9 : Int32), .int (0 : Int32)]))] H := hP
  have hD : va_D A [(h0, .inr (0, [.ref x1, .int (0 : Int32), .int x3, .int (4 : Int32), .int (1 : Int32), .int (9 : Int32), .int (0 : Int32)]))] := hD
  exact ic_vret (q := fun _ => 0) C hr hlocks (hP.sub [0] rfl) (hD.sub [0] (by decide) rfl) hS dX0_init_68
set_option maxRecDepth 100000 in
set_option maxHeartbeats 4000000 in
theorem c_X3_init_f (l : Launch) (D : va_G) (k : Nat → ClassId) (h0 : Nat) (x1 : Nat) : Ic (fun _ => True) l D (tyk k) [(h0, .inr (3, [.null, .int 0, .int 0, .int 0, .int 0, .int 0]))] (fun _ => [(h0, .inr (3, [.ref x1, .int (0 : Int32), .int 0, .int 0, .int 0, .int 0]))]) yX3_init cX3_init 3 { frames := 1, cells := 0, slots := 0, locals := 12 } [.ref h0, .ref x1, .int (0 : Int32)] 0 0 := by
  refine ic_start (by decide) (Nat.le_of_ble_eq_true rfl) rfl ?_
  intro p e s m below meth c A C hr hlocks hin hP hD hA hN ls hl
  have hl : lv_has ls 3 [(0, .ref h0), (1, .ref x1), (2, .int (0 : Int32))] := hl
  obtain ⟨⟨hx, hb, hml, hown, hts⟩, hK⟩ := id C
  have hS : va_S A s.heap s.heap [] := va_S.rf
  refine lv_aload_n hx hb dX3_init_0 rfl (lv_at hl 0 rfl) ?_
  refine xobj (cls := "") C mo_X3_3 hl.1 dX3_init_1 (Nat.le_of_ble_eq_true rfl) (Nat.le_of_ble_eq_true rfl) ?_
  refine lv_aload_n hx hb dX3_init_4 rfl (lv_at hl 0 rfl) ?_
  refine lv_aload_n hx hb dX3_init_5 rfl (lv_at hl 1 rfl) ?_
  refine va_putF (D := D) (ci := 3) (v := .ref x1) (ty := (.object "ZObjects$Memory")) (C := RX3) (T := TX3) (N := 6) hx hb hts iX3 tyX3 tyX3_ok nmX3 hown hK hP hD hS 0 rfl rfl 0 (by decide) (hts _ fl_X3_9) (fun _ h9 => h9) rfl hin rfl (by decide +kernel) rfl rfl (Nat.le_of_ble_eq_true rfl) dX3_init_6 (fun H locs hP hD hS => ?_)
  have hP : va_P D vwCl [(h0, .inr (3, [.ref x1, .int 0, .int 0, .int 0, .int 0, .int 0]))] H := hP
  have hD : va_D A [(h0, .inr (3, [.ref x1, .int 0, .int 0, .int 0, .int 0, .int 0]))] := hD
  refine lv_aload_n hx hb dX3_init_9 rfl (lv_at hl 0 rfl) ?_
  refine lv_iload_n hx hb dX3_init_10 rfl (lv_at hl 2 rfl) ?_
  refine va_putF (D := D) (ci := 3) (v := .int (0 : Int32)) (ty := .boolean) (C := RX3) (T := TX3) (N := 6) hx hb hts iX3 tyX3 tyX3_ok nmX3 hown hK hP hD hS 0 rfl rfl 1 (by decide) (hts _ fl_X3_15) (fun _ h9 => h9) rfl hin rfl (by decide +kernel) rfl rfl (Nat.le_of_ble_eq_true rfl) dX3_init_11 (fun H locs hP hD hS => ?_)
  have hP : va_P D vwCl [(h0, .inr (3, [.ref x1, .int (0 : Int32), .int 0, .int 0, .int 0, .int 0]))] H := hP
  have hD : va_D A [(h0, .inr (3, [.ref x1, .int (0 : Int32), .int 0, .int 0, .int 0, .int 0]))] := hD
  exact ic_vret (q := fun _ => 0) C hr hlocks (hP.sub [0] rfl) (hD.sub [0] (by decide) rfl) hS dX3_init_14
set_option maxRecDepth 100000 in
set_option maxHeartbeats 4000000 in
theorem c_X0_init_t (l : Launch) (D : va_G) (k : Nat → ClassId) (h0 : Nat) (x1 : Nat) (x3 : Int32) : Ic (fun _ => True) l D (tyk k) [(h0, .inr (0, [.null, .int 0, .int 0, .int 0, .int 0, .int 0, .int 0]))] (fun _ => [(h0, .inr (0, [.ref x1, .int (1 : Int32), .int x3, .int (6 : Int32), .int (2 : Int32), .int (14 : Int32), .int (0 : Int32)]))]) yX0_init cX0_init 4 { frames := 1, cells := 0, slots := 0, locals := 12 } [.ref h0, .ref x1, .int (1 : Int32), .int x3] 0 0 := by
  refine ic_start (by decide) (Nat.le_of_ble_eq_true rfl) rfl ?_
  intro p e s m below meth c A C hr hlocks hin hP hD hA hN ls hl
  have hl : lv_has ls 4 [(0, .ref h0), (1, .ref x1), (2, .int (1 : Int32)), (3, .int x3)] := hl
  obtain ⟨⟨hx, hb, hml, hown, hts⟩, hK⟩ := id C
  have hS : va_S A s.heap s.heap [] := va_S.rf
  refine lv_aload_n hx hb dX0_init_0 rfl (lv_at hl 0 rfl) ?_
  refine xobj (cls := "") C mo_X0_3 hl.1 dX0_init_1 (Nat.le_of_ble_eq_true rfl) (Nat.le_of_ble_eq_true rfl) ?_
  refine lv_aload_n hx hb dX0_init_4 rfl (lv_at hl 0 rfl) ?_
  refine lv_aload_n hx hb dX0_init_5 rfl (lv_at hl 1 rfl) ?_
  refine va_putF (D := D) (ci := 0) (v := .ref x1) (ty := (.object "ZObjects$Memory")) (C := RX0) (T := TX0) (N := 7) hx hb hts iX0 tyX0 tyX0_ok nmX0 hown hK hP hD hS 0 rfl rfl 0 (by decide) (hts _ fl_X0_9) (fun _ h9 => h9) rfl hin rfl (by decide +kernel) rfl rfl (Nat.le_of_ble_eq_true rfl) dX0_init_6 (fun H locs hP hD hS => ?_)
  have hP : va_P D vwCl [(h0, .inr (0, [.ref x1, .int 0, .int 0, .int 0, .int 0, .int 0, .int 0]))] H := hP
  have hD : va_D A [(h0, .inr (0, [.ref x1, .int 0, .int 0, .int 0, .int 0, .int 0, .int 0]))] := hD
  refine lv_aload_n hx hb dX0_init_9 rfl (lv_at hl 0 rfl) ?_
  refine lv_iload_n hx hb dX0_init_10 rfl (lv_at hl 2 rfl) ?_
  refine va_putF (D := D) (ci := 0) (v := .int (1 : Int32)) (ty := .boolean) (C := RX0) (T := TX0) (N := 7) hx hb hts iX0 tyX0 tyX0_ok nmX0 hown hK hP hD hS 0 rfl rfl 1 (by decide) (hts _ fl_X0_15) (fun _ h9 => h9) rfl hin rfl (by decide +kernel) rfl rfl (Nat.le_of_ble_eq_true rfl) dX0_init_11 (fun H locs hP hD hS => ?_)
  have hP : va_P D vwCl [(h0, .inr (0, [.ref x1, .int (1 : Int32), .int 0, .int 0, .int 0, .int 0, .int 0]))] H := hP
  have hD : va_D A [(h0, .inr (0, [.ref x1, .int (1 : Int32), .int 0, .int 0, .int 0, .int 0, .int 0]))] := hD
  refine lv_aload_n hx hb dX0_init_14 rfl (lv_at hl 0 rfl) ?_
  refine lv_iload_n hx hb dX0_init_15 rfl (lv_at hl 3 rfl) ?_
  refine va_putF (D := D) (ci := 0) (v := .int x3) (ty := .int) (C := RX0) (T := TX0) (N := 7) hx hb hts iX0 tyX0 tyX0_ok nmX0 hown hK hP hD hS 0 rfl rfl 2 (by decide) (hts _ fl_X0_19) (fun _ h9 => h9) rfl hin rfl (by decide +kernel) rfl rfl (Nat.le_of_ble_eq_true rfl) dX0_init_16 (fun H locs hP hD hS => ?_)
  have hP : va_P D vwCl [(h0, .inr (0, [.ref x1, .int (1 : Int32), .int x3, .int 0, .int 0, .int 0, .int 0]))] H := hP
  have hD : va_D A [(h0, .inr (0, [.ref x1, .int (1 : Int32), .int x3, .int 0, .int 0, .int 0, .int 0]))] := hD
  refine lv_aload_n hx hb dX0_init_19 rfl (lv_at hl 0 rfl) ?_
  refine lv_iload_n hx hb dX0_init_20 rfl (lv_at hl 2 rfl) ?_
  refine lv_if_eq (tgt := 29) hx hb dX0_init_21 (by decide) (fun c1 => absurd c1 (by decide)) (fun c1 => ?_)
  refine lv_bipush (v := (6 : Int32)) hx hb dX0_init_24 (by decide) ?_
  refine lv_goto (tgt := 30) hx hb dX0_init_26 (by decide) ?_
  refine va_putF (D := D) (ci := 0) (v := .int (6 : Int32)) (ty := .int) (C := RX0) (T := TX0) (N := 7) hx hb hts iX0 tyX0 tyX0_ok nmX0 hown hK hP hD hS 0 rfl rfl 3 (by decide) (hts _ fl_X0_23) (fun _ h9 => h9) rfl hin rfl (by decide +kernel) rfl rfl (Nat.le_of_ble_eq_true rfl) dX0_init_30 (fun H locs hP hD hS => ?_)
  have hP : va_P D vwCl [(h0, .inr (0, [.ref x1, .int (1 : Int32), .int x3, .int (6 : Int32), .int 0, .int 0, .int 0]))] H := hP
  have hD : va_D A [(h0, .inr (0, [.ref x1, .int (1 : Int32), .int x3, .int (6 : Int32), .int 0, .int 0, .int 0]))] := hD
  refine lv_aload_n hx hb dX0_init_33 rfl (lv_at hl 0 rfl) ?_
  refine lv_iload_n hx hb dX0_init_34 rfl (lv_at hl 2 rfl) ?_
  refine lv_if_eq (tgt := 42) hx hb dX0_init_35 (by decide) (fun c1 => absurd c1 (by decide)) (fun c1 => ?_)
  refine lv_iconst (v := (2 : Int32)) hx hb dX0_init_38 (by decide) ?_
  refine lv_goto (tgt := 43) hx hb dX0_init_39 (by decide) ?_
  refine va_putF (D := D) (ci := 0) (v := .int (2 : Int32)) (ty := .int) (C := RX0) (T := TX0) (N := 7) hx hb hts iX0 tyX0 tyX0_ok nmX0 hown hK hP hD hS 0 rfl rfl 4 (by decide) (hts _ fl_X0_26) (fun _ h9 => h9) rfl hin rfl (by decide +kernel) rfl rfl (Nat.le_of_ble_eq_true rfl) dX0_init_43 (fun H locs hP hD hS => ?_)
  have hP : va_P D vwCl [(h0, .inr (0, [.ref x1, .int (1 : Int32), .int x3, .int (6 : Int32), .int (2 : Int32), .int 0, .int 0]))] H := hP
  have hD : va_D A [(h0, .inr (0, [.ref x1, .int (1 : Int32), .int x3, .int (6 : Int32), .int (2 : Int32), .int 0, .int 0]))] := hD
  refine lv_aload_n hx hb dX0_init_46 rfl (lv_at hl 0 rfl) ?_
  refine lv_aload_n hx hb dX0_init_47 rfl (lv_at hl 0 rfl) ?_
  refine va_get (D := D) (ci := 0) (v := .int (6 : Int32)) (C := RX0) (T := TX0) (N := 7) hx hb hts iX0 hown hK hP 0 rfl rfl 3 (by decide) (hts _ fl_X0_23) (fun _ h9 => h9) rfl dX0_init_48 ?_
  refine lv_iconst (v := (3 : Int32)) hx hb dX0_init_51 (by decide) ?_
  refine lv_aload_n hx hb dX0_init_52 rfl (lv_at hl 0 rfl) ?_
  refine va_get (D := D) (ci := 0) (v := .int (2 : Int32)) (C := RX0) (T := TX0) (N := 7) hx hb hts iX0 hown hK hP 0 rfl rfl 4 (by decide) (hts _ fl_X0_26) (fun _ h9 => h9) rfl dX0_init_53 ?_
  refine lv_imul hx hb dX0_init_56 ?_
  refine lv_topi (fun z1 ez1 => ?_)
  obtain rfl : z1 = (6 : Int32) := ez1.trans (by decide)
  refine lv_iadd hx hb dX0_init_57 ?_
  refine lv_topi (fun z2 ez2 => ?_)
  obtain rfl : z2 = (12 : Int32) := ez2.trans (by decide)
  refine lv_iconst (v := (2 : Int32)) hx hb dX0_init_58 (by decide) ?_
  refine lv_iadd hx hb dX0_init_59 ?_
  refine lv_topi (fun z3 ez3 => ?_)
  obtain rfl : z3 = (14 : Int32) := ez3.trans (by decide)
  refine va_putF (D := D) (ci := 0) (v := .int (14 : Int32)) (ty := .int) (C := RX0) (T := TX0) (N := 7) hx hb hts iX0 tyX0 tyX0_ok nmX0 hown hK hP hD hS 0 rfl rfl 5 (by decide) (hts _ fl_X0_29) (fun _ h9 => h9) rfl hin rfl (by decide +kernel) rfl rfl (Nat.le_of_ble_eq_true rfl) dX0_init_60 (fun H locs hP hD hS => ?_)
  have hP : va_P D vwCl [(h0, .inr (0, [.ref x1, .int (1 : Int32), .int x3, .int (6 : Int32), .int (2 : Int32), .int (14 : Int32), .int 0]))] H := hP
  have hD : va_D A [(h0, .inr (0, [.ref x1, .int (1 : Int32), .int x3, .int (6 : Int32), .int (2 : Int32), .int (14 : Int32), .int 0]))] := hD
  refine lv_aload_n hx hb dX0_init_63 rfl (lv_at hl 0 rfl) ?_
  refine lv_iconst (v := (0 : Int32)) hx hb dX0_init_64 (by decide) ?_
  refine va_put (D := D) (ci := 0) (v := .int (0 : Int32)) (ty := .int) (C := RX0) (T := TX0) (N := 7) hx hb hts iX0 tyX0 tyX0_ok nmX0 hown hK hP hD hS 0 rfl rfl 6 (by decide) (hts _ fl_X0_32) (fun _ h9 => h9) rfl (by decide +kernel) rfl rfl (Nat.le_of_ble_eq_true rfl) dX0_init_65 (fun H locs hP hD hS => ?_)
  have hP : va_P D vwCl [(h0, .inr (0, [.ref x1, .int (1 : Int32), .int x3, .int (6 : Int32), .int (2 : Int32), .int (14 : Int32), .int (0 : Int32)]))] H := hP
  have hD : va_D A [(h0, .inr (0, [.ref x1, .int (1 : Int32), .int x3, .int (6 : Int32), .int (2 : Int32), .int (14 : Int32), .int (0 : Int32)]))] := hD
  exact ic_vret (q := fun _ => 0) C hr hlocks (hP.sub [0] rfl) (hD.sub [0] (by decide) rfl) hS dX0_init_68
set_option maxRecDepth 100000 in
set_option maxHeartbeats 4000000 in
theorem c_X3_init_t (l : Launch) (D : va_G) (k : Nat → ClassId) (h0 : Nat) (x1 : Nat) : Ic (fun _ => True) l D (tyk k) [(h0, .inr (3, [.null, .int 0, .int 0, .int 0, .int 0, .int 0]))] (fun _ => [(h0, .inr (3, [.ref x1, .int (1 : Int32), .int 0, .int 0, .int 0, .int 0]))]) yX3_init cX3_init 3 { frames := 1, cells := 0, slots := 0, locals := 12 } [.ref h0, .ref x1, .int (1 : Int32)] 0 0 := by
  refine ic_start (by decide) (Nat.le_of_ble_eq_true rfl) rfl ?_
  intro p e s m below meth c A C hr hlocks hin hP hD hA hN ls hl
  have hl : lv_has ls 3 [(0, .ref h0), (1, .ref x1), (2, .int (1 : Int32))] := hl
  obtain ⟨⟨hx, hb, hml, hown, hts⟩, hK⟩ := id C
  have hS : va_S A s.heap s.heap [] := va_S.rf
  refine lv_aload_n hx hb dX3_init_0 rfl (lv_at hl 0 rfl) ?_
  refine xobj (cls := "") C mo_X3_3 hl.1 dX3_init_1 (Nat.le_of_ble_eq_true rfl) (Nat.le_of_ble_eq_true rfl) ?_
  refine lv_aload_n hx hb dX3_init_4 rfl (lv_at hl 0 rfl) ?_
  refine lv_aload_n hx hb dX3_init_5 rfl (lv_at hl 1 rfl) ?_
  refine va_putF (D := D) (ci := 3) (v := .ref x1) (ty := (.object "ZObjects$Memory")) (C := RX3) (T := TX3) (N := 6) hx hb hts iX3 tyX3 tyX3_ok nmX3 hown hK hP hD hS 0 rfl rfl 0 (by decide) (hts _ fl_X3_9) (fun _ h9 => h9) rfl hin rfl (by decide +kernel) rfl rfl (Nat.le_of_ble_eq_true rfl) dX3_init_6 (fun H locs hP hD hS => ?_)
  have hP : va_P D vwCl [(h0, .inr (3, [.ref x1, .int 0, .int 0, .int 0, .int 0, .int 0]))] H := hP
  have hD : va_D A [(h0, .inr (3, [.ref x1, .int 0, .int 0, .int 0, .int 0, .int 0]))] := hD
  refine lv_aload_n hx hb dX3_init_9 rfl (lv_at hl 0 rfl) ?_
  refine lv_iload_n hx hb dX3_init_10 rfl (lv_at hl 2 rfl) ?_
  refine va_putF (D := D) (ci := 3) (v := .int (1 : Int32)) (ty := .boolean) (C := RX3) (T := TX3) (N := 6) hx hb hts iX3 tyX3 tyX3_ok nmX3 hown hK hP hD hS 0 rfl rfl 1 (by decide) (hts _ fl_X3_15) (fun _ h9 => h9) rfl hin rfl (by decide +kernel) rfl rfl (Nat.le_of_ble_eq_true rfl) dX3_init_11 (fun H locs hP hD hS => ?_)
  have hP : va_P D vwCl [(h0, .inr (3, [.ref x1, .int (1 : Int32), .int 0, .int 0, .int 0, .int 0]))] H := hP
  have hD : va_D A [(h0, .inr (3, [.ref x1, .int (1 : Int32), .int 0, .int 0, .int 0, .int 0]))] := hD
  exact ic_vret (q := fun _ => 0) C hr hlocks (hP.sub [0] rfl) (hD.sub [0] (by decide) rfl) hS dX3_init_14
set_option maxRecDepth 100000 in
set_option maxHeartbeats 4000000 in
theorem c_X6_init (l : Launch) (D : va_G) (k : Nat → ClassId) (h0 : Nat) (x1 : Nat) : Ic (fun _ => True) l D (tyk k) [(h0, .inr (6, [.null, .null, .null]))] (fun q => [(h0, .inr (6, [.ref x1, .ref (q 0), .ref (q 1)])), (q 0, .inl (k 1, 100, .inl (fun _ => 0))), (q 1, .inl (k 2, 101, .inl (fun _ => 0)))]) yX6_init cX6_init 2 { frames := 1, cells := 2, slots := 201, locals := 12 } [.ref h0, .ref x1] 2 201 := by
  refine ic_start (by decide) (Nat.le_of_ble_eq_true rfl) rfl ?_
  intro p e s m below meth c A C hr hlocks hin hP hD hA hN ls hl
  have hl : lv_has ls 2 [(0, .ref h0), (1, .ref x1)] := hl
  obtain ⟨⟨hx, hb, hml, hown, hts⟩, hK⟩ := id C
  have hS : va_S A s.heap s.heap [] := va_S.rf
  refine lv_aload_n hx hb dX6_init_0 rfl (lv_at hl 0 rfl) ?_
  refine xobj (cls := "") C mo_X6_3 hl.1 dX6_init_1 (Nat.le_of_ble_eq_true rfl) (Nat.le_of_ble_eq_true rfl) ?_
  refine lv_aload_n hx hb dX6_init_4 rfl (lv_at hl 0 rfl) ?_
  refine lv_aload_n hx hb dX6_init_5 rfl (lv_at hl 1 rfl) ?_
  refine va_putF (D := D) (ci := 6) (v := .ref x1) (ty := (.object "ZObjects$Entries")) (C := RX6) (T := TX6) (N := 3) hx hb hts iX6 tyX6 tyX6_ok nmX6 hown hK hP hD hS 0 rfl rfl 0 (by decide) (hts _ fl_X6_9) (fun _ h9 => h9) rfl hin rfl (by decide +kernel) rfl rfl (Nat.le_of_ble_eq_true rfl) dX6_init_6 (fun H locs hP hD hS => ?_)
  have hP : va_P D vwCl [(h0, .inr (6, [.ref x1, .null, .null]))] H := hP
  have hD : va_D A [(h0, .inr (6, [.ref x1, .null, .null]))] := hD
  refine lv_aload_n hx hb dX6_init_9 rfl (lv_at hl 0 rfl) ?_
  refine lv_bipush (v := (100 : Int32)) hx hb dX6_init_10 (by decide) ?_
  refine xnewa (t := .int) (t0 := 1) (cK := k 1) (N' := 100) C hP hD hA hS ar_int rfl rfl (fun _ h => h) (fun _ => rfl) (by decide) (by decide) (by decide) (Nat.le_of_ble_eq_true rfl) (Nat.le_of_ble_eq_true rfl) dX6_init_12 (fun q1 H hP hD hS => ?_)
  have hP : va_P D vwCl [(h0, .inr (6, [.ref x1, .null, .null])), (q1, .inl (k 1, 100, .inl (fun _ => 0)))] H := hP
  have hD : va_D A [(h0, .inr (6, [.ref x1, .null, .null])), (q1, .inl (k 1, 100, .inl (fun _ => 0)))] := hD
  refine W.widen (k := 1) (n := 100) (Nat.le_refl _) (Nat.le_refl _) ?_
  refine va_putF (D := D) (ci := 6) (v := .ref q1) (ty := (.array .int)) (C := RX6) (T := TX6) (N := 3) hx hb hts iX6 tyX6 tyX6_ok nmX6 hown hK hP hD hS 0 rfl rfl 1 (by decide) (hts _ fl_X6_15) (fun _ h9 => h9) rfl hin rfl (by decide +kernel) rfl rfl (Nat.le_of_ble_eq_true rfl) dX6_init_14 (fun H locs hP hD hS => ?_)
  have hP : va_P D vwCl [(h0, .inr (6, [.ref x1, .ref q1, .null])), (q1, .inl (k 1, 100, .inl (fun _ => 0)))] H := hP
  have hD : va_D A [(h0, .inr (6, [.ref x1, .ref q1, .null])), (q1, .inl (k 1, 100, .inl (fun _ => 0)))] := hD
  refine lv_aload_n hx hb dX6_init_17 rfl (lv_at hl 0 rfl) ?_
  refine lv_bipush (v := (101 : Int32)) hx hb dX6_init_18 (by decide) ?_
  refine xnewa (t := .boolean) (t0 := 2) (cK := k 2) (N' := 101) C hP hD hA hS ar_boolean rfl rfl (fun _ h => h) (fun _ => rfl) (by decide) (by decide) (by decide) (Nat.le_of_ble_eq_true rfl) (Nat.le_of_ble_eq_true rfl) dX6_init_20 (fun q2 H hP hD hS => ?_)
  have hP : va_P D vwCl [(h0, .inr (6, [.ref x1, .ref q1, .null])), (q1, .inl (k 1, 100, .inl (fun _ => 0))), (q2, .inl (k 2, 101, .inl (fun _ => 0)))] H := hP
  have hD : va_D A [(h0, .inr (6, [.ref x1, .ref q1, .null])), (q1, .inl (k 1, 100, .inl (fun _ => 0))), (q2, .inl (k 2, 101, .inl (fun _ => 0)))] := hD
  refine W.widen (k := 2) (n := 201) (Nat.le_refl _) (Nat.le_refl _) ?_
  refine va_putF (D := D) (ci := 6) (v := .ref q2) (ty := (.array .boolean)) (C := RX6) (T := TX6) (N := 3) hx hb hts iX6 tyX6 tyX6_ok nmX6 hown hK hP hD hS 0 rfl rfl 2 (by decide) (hts _ fl_X6_19) (fun _ h9 => h9) rfl hin rfl (by decide +kernel) rfl rfl (Nat.le_of_ble_eq_true rfl) dX6_init_22 (fun H locs hP hD hS => ?_)
  have hP : va_P D vwCl [(h0, .inr (6, [.ref x1, .ref q1, .ref q2])), (q1, .inl (k 1, 100, .inl (fun _ => 0))), (q2, .inl (k 2, 101, .inl (fun _ => 0)))] H := hP
  have hD : va_D A [(h0, .inr (6, [.ref x1, .ref q1, .ref q2])), (q1, .inl (k 1, 100, .inl (fun _ => 0))), (q2, .inl (k 2, 101, .inl (fun _ => 0)))] := hD
  exact ic_vret (q := fun i => match i with | 0 => q1 | 1 => q2 | _ => 0) C hr hlocks (hP.sub [0, 1, 2] rfl) (hD.sub [0, 1, 2] (by decide) rfl) hS dX6_init_25
set_option maxRecDepth 100000 in
set_option maxHeartbeats 4000000 in
theorem c_X4_init (l : Launch) (D : va_G) (k : Nat → ClassId) (h0 : Nat) (x1 : Nat) : Ic (fun _ => True) l D (tyk k) [(h0, .inr (4, [.null, .int 0, .int 0, .int 0, .int 0]))] (fun _ => [(h0, .inr (4, [.ref x1, .int 0, .int 0, .int 0, .int 0]))]) yX4_init cX4_init 2 { frames := 1, cells := 0, slots := 0, locals := 12 } [.ref h0, .ref x1] 0 0 := by
  refine ic_start (by decide) (Nat.le_of_ble_eq_true rfl) rfl ?_
  intro p e s m below meth c A C hr hlocks hin hP hD hA hN ls hl
  have hl : lv_has ls 2 [(0, .ref h0), (1, .ref x1)] := hl
  obtain ⟨⟨hx, hb, hml, hown, hts⟩, hK⟩ := id C
  have hS : va_S A s.heap s.heap [] := va_S.rf
  refine lv_aload_n hx hb dX4_init_0 rfl (lv_at hl 0 rfl) ?_
  refine xobj (cls := "") C mo_X4_1 hl.1 dX4_init_1 (Nat.le_of_ble_eq_true rfl) (Nat.le_of_ble_eq_true rfl) ?_
  refine lv_aload_n hx hb dX4_init_4 rfl (lv_at hl 0 rfl) ?_
  refine lv_aload_n hx hb dX4_init_5 rfl (lv_at hl 1 rfl) ?_
  refine va_putF (D := D) (ci := 4) (v := .ref x1) (ty := (.object "ZObjects$Memory")) (C := RX4) (T := TX4) (N := 5) hx hb hts iX4 tyX4 tyX4_ok nmX4 hown hK hP hD hS 0 rfl rfl 0 (by decide) (hts _ fl_X4_7) (fun _ h9 => h9) rfl hin rfl (by decide +kernel) rfl rfl (Nat.le_of_ble_eq_true rfl) dX4_init_6 (fun H locs hP hD hS => ?_)
  have hP : va_P D vwCl [(h0, .inr (4, [.ref x1, .int 0, .int 0, .int 0, .int 0]))] H := hP
  have hD : va_D A [(h0, .inr (4, [.ref x1, .int 0, .int 0, .int 0, .int 0]))] := hD
  exact ic_vret (q := fun _ => 0) C hr hlocks (hP.sub [0] rfl) (hD.sub [0] (by decide) rfl) hS dX4_init_9
set_option maxRecDepth 100000 in
set_option maxHeartbeats 4000000 in
theorem c_X1_init (l : Launch) (D : va_G) (k : Nat → ClassId) (h0 : Nat) (x1 x2 : Nat) : Ic (fun _ => True) l D (tyk k) [(h0, .inr (1, [.null, .null]))] (fun _ => [(h0, .inr (1, [.ref x1, .ref x2]))]) yX1_init cX1_init 3 { frames := 1, cells := 0, slots := 0, locals := 12 } [.ref h0, .ref x1, .ref x2] 0 0 := by
  refine ic_start (by decide) (Nat.le_of_ble_eq_true rfl) rfl ?_
  intro p e s m below meth c A C hr hlocks hin hP hD hA hN ls hl
  have hl : lv_has ls 3 [(0, .ref h0), (1, .ref x1), (2, .ref x2)] := hl
  obtain ⟨⟨hx, hb, hml, hown, hts⟩, hK⟩ := id C
  have hS : va_S A s.heap s.heap [] := va_S.rf
  refine lv_aload_n hx hb dX1_init_0 rfl (lv_at hl 0 rfl) ?_
  refine xobj (cls := "") C mo_X1_3 hl.1 dX1_init_1 (Nat.le_of_ble_eq_true rfl) (Nat.le_of_ble_eq_true rfl) ?_
  refine lv_aload_n hx hb dX1_init_4 rfl (lv_at hl 0 rfl) ?_
  refine lv_aload_n hx hb dX1_init_5 rfl (lv_at hl 1 rfl) ?_
  refine va_putF (D := D) (ci := 1) (v := .ref x1) (ty := (.object "ZObjects$Entries")) (C := RX1) (T := TX1) (N := 2) hx hb hts iX1 tyX1 tyX1_ok nmX1 hown hK hP hD hS 0 rfl rfl 0 (by decide) (hts _ fl_X1_9) (fun _ h9 => h9) rfl hin rfl (by decide +kernel) rfl rfl (Nat.le_of_ble_eq_true rfl) dX1_init_6 (fun H locs hP hD hS => ?_)
  have hP : va_P D vwCl [(h0, .inr (1, [.ref x1, .null]))] H := hP
  have hD : va_D A [(h0, .inr (1, [.ref x1, .null]))] := hD
  refine lv_aload_n hx hb dX1_init_9 rfl (lv_at hl 0 rfl) ?_
  refine lv_aload_n hx hb dX1_init_10 rfl (lv_at hl 2 rfl) ?_
  refine va_putF (D := D) (ci := 1) (v := .ref x2) (ty := (.object "ZObjects$PropertyRow")) (C := RX1) (T := TX1) (N := 2) hx hb hts iX1 tyX1 tyX1_ok nmX1 hown hK hP hD hS 0 rfl rfl 1 (by decide) (hts _ fl_X1_15) (fun _ h9 => h9) rfl hin rfl (by decide +kernel) rfl rfl (Nat.le_of_ble_eq_true rfl) dX1_init_11 (fun H locs hP hD hS => ?_)
  have hP : va_P D vwCl [(h0, .inr (1, [.ref x1, .ref x2]))] H := hP
  have hD : va_D A [(h0, .inr (1, [.ref x1, .ref x2]))] := hD
  exact ic_vret (q := fun _ => 0) C hr hlocks (hP.sub [0] rfl) (hD.sub [0] (by decide) rfl) hS dX1_init_14
set_option maxRecDepth 100000 in
set_option maxHeartbeats 4000000 in
theorem c_X5_init (l : Launch) (D : va_G) (k : Nat → ClassId) (h0 : Nat) (x1 : Nat) (x2 : Int32) : Ic (fun _ => True) l D (tyk k) [(h0, .inr (5, [.null, .int 0, .null, .null, .null, .int 0, .null, .int 0, .int 0, .int 0]))] (fun q => [(h0, .inr (5, [.ref x1, .int x2, .ref (q 0), .ref (q 1), .ref (q 2), .int 0, .ref (q 0), .int 0, .int 0, .int 0])), (q 0, .inr (4, [.ref x1, .int 0, .int 0, .int 0, .int 0])), (q 1, .inr (4, [.ref x1, .int 0, .int 0, .int 0, .int 0])), (q 2, .inl (k 0, 250, .inl (fun _ => 0)))]) yX5_init cX5_init 3 { frames := 2, cells := 3, slots := 260, locals := 33 } [.ref h0, .ref x1, .int x2] 3 260 := by
  refine ic_start (by decide) (Nat.le_of_ble_eq_true rfl) rfl ?_
  intro p e s m below meth c A C hr hlocks hin hP hD hA hN ls hl
  have hl : lv_has ls 3 [(0, .ref h0), (1, .ref x1), (2, .int x2)] := hl
  obtain ⟨⟨hx, hb, hml, hown, hts⟩, hK⟩ := id C
  have hS : va_S A s.heap s.heap [] := va_S.rf
  refine lv_aload_n hx hb dX5_init_0 rfl (lv_at hl 0 rfl) ?_
  refine xobj (cls := "") C mo_X5_3 hl.1 dX5_init_1 (Nat.le_of_ble_eq_true rfl) (Nat.le_of_ble_eq_true rfl) ?_
  refine lv_aload_n hx hb dX5_init_4 rfl (lv_at hl 0 rfl) ?_
  refine lv_aload_n hx hb dX5_init_5 rfl (lv_at hl 1 rfl) ?_
  refine va_putF (D := D) (ci := 5) (v := .ref x1) (ty := (.object "ZObjects$Memory")) (C := RX5) (T := TX5) (N := 10) hx hb hts iX5 tyX5 tyX5_ok nmX5 hown hK hP hD hS 0 rfl rfl 0 (by decide) (hts _ fl_X5_9) (fun _ h9 => h9) rfl hin rfl (by decide +kernel) rfl rfl (Nat.le_of_ble_eq_true rfl) dX5_init_6 (fun H locs hP hD hS => ?_)
  have hP : va_P D vwCl [(h0, .inr (5, [.ref x1, .int 0, .null, .null, .null, .int 0, .null, .int 0, .int 0, .int 0]))] H := hP
  have hD : va_D A [(h0, .inr (5, [.ref x1, .int 0, .null, .null, .null, .int 0, .null, .int 0, .int 0, .int 0]))] := hD
  refine lv_aload_n hx hb dX5_init_9 rfl (lv_at hl 0 rfl) ?_
  refine lv_iload_n hx hb dX5_init_10 rfl (lv_at hl 2 rfl) ?_
  refine va_putF (D := D) (ci := 5) (v := .int x2) (ty := .int) (C := RX5) (T := TX5) (N := 10) hx hb hts iX5 tyX5 tyX5_ok nmX5 hown hK hP hD hS 0 rfl rfl 1 (by decide) (hts _ fl_X5_15) (fun _ h9 => h9) rfl hin rfl (by decide +kernel) rfl rfl (Nat.le_of_ble_eq_true rfl) dX5_init_11 (fun H locs hP hD hS => ?_)
  have hP : va_P D vwCl [(h0, .inr (5, [.ref x1, .int x2, .null, .null, .null, .int 0, .null, .int 0, .int 0, .int 0]))] H := hP
  have hD : va_D A [(h0, .inr (5, [.ref x1, .int x2, .null, .null, .null, .int 0, .null, .int 0, .int 0, .int 0]))] := hD
  refine lv_aload_n hx hb dX5_init_14 rfl (lv_at hl 0 rfl) ?_
  refine va_new (ci := 4) (fs := [.null, .int 0, .int 0, .int 0, .int 0]) (C := RX4) (T := TX4) (N := 5) hx hb hts iX4 tyX4 tyX4_ok hown (hts _ cl_X5_19) (hts _ in_X4) (hts _ ini_X4) hK hP hD hS hA rfl (fun j hj => by rcases (show j = 0 ∨ j = 1 ∨ j = 2 ∨ j = 3 ∨ j = 4 by omega) with rfl | rfl | rfl | rfl | rfl <;> rfl) (Nat.le_of_ble_eq_true rfl) (Nat.le_of_ble_eq_true rfl) dX5_init_15 (fun q1 H hP hD hS => ?_)
  have hP : va_P D vwCl [(h0, .inr (5, [.ref x1, .int x2, .null, .null, .null, .int 0, .null, .int 0, .int 0, .int 0])), (q1, .inr (4, [.null, .int 0, .int 0, .int 0, .int 0]))] H := hP
  have hD : va_D A [(h0, .inr (5, [.ref x1, .int x2, .null, .null, .null, .int 0, .null, .int 0, .int 0, .int 0])), (q1, .inr (4, [.null, .int 0, .int 0, .int 0, .int 0]))] := hD
  refine W.widen (k := 1) (n := 5) (Nat.le_refl _) (Nat.le_refl _) ?_
  refine lv_dup hx hb dX5_init_18 rfl ?_
  refine lv_aload_n hx hb dX5_init_19 rfl (lv_at hl 1 rfl) ?_
  refine icI (fun _ _ _ _ => trivial) (fun _ _ => trivial) C hP hD hA hS (c_X4_init l D k q1 x1) mc_X4_init ml_X5_21 [1] [0] (wr := [(h0, .inr (5, [.ref x1, .int x2, .null, .null, .null, .int 0, .null, .int 0, .int 0, .int 0]))]) rfl rfl rfl rfl rfl (by decide) rfl hl.1 (rest := [.ref q1, .ref h0]) rfl (Nat.le_of_ble_eq_true rfl) ⟨rfl, rfl, (Nat.le_of_ble_eq_true rfl), (Nat.le_of_ble_eq_true rfl)⟩ ⟨(Nat.le_of_ble_eq_true rfl), (Nat.le_of_ble_eq_true rfl)⟩ dX5_init_20 (fun q2 H locs hP hD hS => ?_)
  have hP : va_P D vwCl [(h0, .inr (5, [.ref x1, .int x2, .null, .null, .null, .int 0, .null, .int 0, .int 0, .int 0])), (q1, .inr (4, [.ref x1, .int 0, .int 0, .int 0, .int 0]))] H := hP
  have hD : va_D A [(h0, .inr (5, [.ref x1, .int x2, .null, .null, .null, .int 0, .null, .int 0, .int 0, .int 0])), (q1, .inr (4, [.ref x1, .int 0, .int 0, .int 0, .int 0]))] := hD
  refine W.widen (k := 1) (n := 5) (Nat.le_refl _) (Nat.le_refl _) ?_
  refine va_putF (D := D) (ci := 5) (v := .ref q1) (ty := (.object "ZObjects$Signs")) (C := RX5) (T := TX5) (N := 10) hx hb hts iX5 tyX5 tyX5_ok nmX5 hown hK hP hD hS 0 rfl rfl 2 (by decide) (hts _ fl_X5_24) (fun _ h9 => h9) rfl hin rfl (by decide +kernel) rfl rfl (Nat.le_of_ble_eq_true rfl) dX5_init_23 (fun H locs hP hD hS => ?_)
  have hP : va_P D vwCl [(h0, .inr (5, [.ref x1, .int x2, .ref q1, .null, .null, .int 0, .null, .int 0, .int 0, .int 0])), (q1, .inr (4, [.ref x1, .int 0, .int 0, .int 0, .int 0]))] H := hP
  have hD : va_D A [(h0, .inr (5, [.ref x1, .int x2, .ref q1, .null, .null, .int 0, .null, .int 0, .int 0, .int 0])), (q1, .inr (4, [.ref x1, .int 0, .int 0, .int 0, .int 0]))] := hD
  refine lv_aload_n hx hb dX5_init_26 rfl (lv_at hl 0 rfl) ?_
  refine va_new (ci := 4) (fs := [.null, .int 0, .int 0, .int 0, .int 0]) (C := RX4) (T := TX4) (N := 5) hx hb hts iX4 tyX4 tyX4_ok hown (hts _ cl_X5_19) (hts _ in_X4) (hts _ ini_X4) hK hP hD hS hA rfl (fun j hj => by rcases (show j = 0 ∨ j = 1 ∨ j = 2 ∨ j = 3 ∨ j = 4 by omega) with rfl | rfl | rfl | rfl | rfl <;> rfl) (Nat.le_of_ble_eq_true rfl) (Nat.le_of_ble_eq_true rfl) dX5_init_27 (fun q3 H hP hD hS => ?_)
  have hP : va_P D vwCl [(h0, .inr (5, [.ref x1, .int x2, .ref q1, .null, .null, .int 0, .null, .int 0, .int 0, .int 0])), (q1, .inr (4, [.ref x1, .int 0, .int 0, .int 0, .int 0])), (q3, .inr (4, [.null, .int 0, .int 0, .int 0, .int 0]))] H := hP
  have hD : va_D A [(h0, .inr (5, [.ref x1, .int x2, .ref q1, .null, .null, .int 0, .null, .int 0, .int 0, .int 0])), (q1, .inr (4, [.ref x1, .int 0, .int 0, .int 0, .int 0])), (q3, .inr (4, [.null, .int 0, .int 0, .int 0, .int 0]))] := hD
  refine W.widen (k := 2) (n := 10) (Nat.le_refl _) (Nat.le_refl _) ?_
  refine lv_dup hx hb dX5_init_30 rfl ?_
  refine lv_aload_n hx hb dX5_init_31 rfl (lv_at hl 1 rfl) ?_
  refine icI (fun _ _ _ _ => trivial) (fun _ _ => trivial) C hP hD hA hS (c_X4_init l D k q3 x1) mc_X4_init ml_X5_21 [2] [0, 1] (wr := [(h0, .inr (5, [.ref x1, .int x2, .ref q1, .null, .null, .int 0, .null, .int 0, .int 0, .int 0])), (q1, .inr (4, [.ref x1, .int 0, .int 0, .int 0, .int 0]))]) rfl rfl rfl rfl rfl (by decide) rfl hl.1 (rest := [.ref q3, .ref h0]) rfl (Nat.le_of_ble_eq_true rfl) ⟨rfl, rfl, (Nat.le_of_ble_eq_true rfl), (Nat.le_of_ble_eq_true rfl)⟩ ⟨(Nat.le_of_ble_eq_true rfl), (Nat.le_of_ble_eq_true rfl)⟩ dX5_init_32 (fun q4 H locs hP hD hS => ?_)
  have hP : va_P D vwCl [(h0, .inr (5, [.ref x1, .int x2, .ref q1, .null, .null, .int 0, .null, .int 0, .int 0, .int 0])), (q1, .inr (4, [.ref x1, .int 0, .int 0, .int 0, .int 0])), (q3, .inr (4, [.ref x1, .int 0, .int 0, .int 0, .int 0]))] H := hP
  have hD : va_D A [(h0, .inr (5, [.ref x1, .int x2, .ref q1, .null, .null, .int 0, .null, .int 0, .int 0, .int 0])), (q1, .inr (4, [.ref x1, .int 0, .int 0, .int 0, .int 0])), (q3, .inr (4, [.ref x1, .int 0, .int 0, .int 0, .int 0]))] := hD
  refine W.widen (k := 2) (n := 10) (Nat.le_refl _) (Nat.le_refl _) ?_
  refine va_putF (D := D) (ci := 5) (v := .ref q3) (ty := (.object "ZObjects$Signs")) (C := RX5) (T := TX5) (N := 10) hx hb hts iX5 tyX5 tyX5_ok nmX5 hown hK hP hD hS 0 rfl rfl 3 (by decide) (hts _ fl_X5_28) (fun _ h9 => h9) rfl hin rfl (by decide +kernel) rfl rfl (Nat.le_of_ble_eq_true rfl) dX5_init_35 (fun H locs hP hD hS => ?_)
  have hP : va_P D vwCl [(h0, .inr (5, [.ref x1, .int x2, .ref q1, .ref q3, .null, .int 0, .null, .int 0, .int 0, .int 0])), (q1, .inr (4, [.ref x1, .int 0, .int 0, .int 0, .int 0])), (q3, .inr (4, [.ref x1, .int 0, .int 0, .int 0, .int 0]))] H := hP
  have hD : va_D A [(h0, .inr (5, [.ref x1, .int x2, .ref q1, .ref q3, .null, .int 0, .null, .int 0, .int 0, .int 0])), (q1, .inr (4, [.ref x1, .int 0, .int 0, .int 0, .int 0])), (q3, .inr (4, [.ref x1, .int 0, .int 0, .int 0, .int 0]))] := hD
  refine lv_aload_n hx hb dX5_init_38 rfl (lv_at hl 0 rfl) ?_
  refine lv_aload_n hx hb dX5_init_39 rfl (lv_at hl 0 rfl) ?_
  refine va_get (D := D) (ci := 5) (v := .ref q1) (C := RX5) (T := TX5) (N := 10) hx hb hts iX5 hown hK hP 0 rfl rfl 2 (by decide) (hts _ fl_X5_24) (fun _ h9 => h9) rfl dX5_init_40 ?_
  refine va_put (D := D) (ci := 5) (v := .ref q1) (ty := (.object "ZObjects$Signs")) (C := RX5) (T := TX5) (N := 10) hx hb hts iX5 tyX5 tyX5_ok nmX5 hown hK hP hD hS 0 rfl rfl 6 (by decide) (hts _ fl_X5_31) (fun _ h9 => h9) rfl (by decide +kernel) rfl rfl (Nat.le_of_ble_eq_true rfl) dX5_init_43 (fun H locs hP hD hS => ?_)
  have hP : va_P D vwCl [(h0, .inr (5, [.ref x1, .int x2, .ref q1, .ref q3, .null, .int 0, .ref q1, .int 0, .int 0, .int 0])), (q1, .inr (4, [.ref x1, .int 0, .int 0, .int 0, .int 0])), (q3, .inr (4, [.ref x1, .int 0, .int 0, .int 0, .int 0]))] H := hP
  have hD : va_D A [(h0, .inr (5, [.ref x1, .int x2, .ref q1, .ref q3, .null, .int 0, .ref q1, .int 0, .int 0, .int 0])), (q1, .inr (4, [.ref x1, .int 0, .int 0, .int 0, .int 0])), (q3, .inr (4, [.ref x1, .int 0, .int 0, .int 0, .int 0]))] := hD
  refine lv_aload_n hx hb dX5_init_46 rfl (lv_at hl 0 rfl) ?_
  refine lv_sipush (v := (250 : Int32)) hx hb dX5_init_47 (by decide) ?_
  refine xnewa (t := .byte) (t0 := 0) (cK := k 0) (N' := 250) C hP hD hA hS ar_byte rfl rfl (fun _ h => h) (fun _ => rfl) (by decide) (by decide) (by decide) (Nat.le_of_ble_eq_true rfl) (Nat.le_of_ble_eq_true rfl) dX5_init_50 (fun q5 H hP hD hS => ?_)
  have hP : va_P D vwCl [(h0, .inr (5, [.ref x1, .int x2, .ref q1, .ref q3, .null, .int 0, .ref q1, .int 0, .int 0, .int 0])), (q1, .inr (4, [.ref x1, .int 0, .int 0, .int 0, .int 0])), (q3, .inr (4, [.ref x1, .int 0, .int 0, .int 0, .int 0])), (q5, .inl (k 0, 250, .inl (fun _ => 0)))] H := hP
  have hD : va_D A [(h0, .inr (5, [.ref x1, .int x2, .ref q1, .ref q3, .null, .int 0, .ref q1, .int 0, .int 0, .int 0])), (q1, .inr (4, [.ref x1, .int 0, .int 0, .int 0, .int 0])), (q3, .inr (4, [.ref x1, .int 0, .int 0, .int 0, .int 0])), (q5, .inl (k 0, 250, .inl (fun _ => 0)))] := hD
  refine W.widen (k := 3) (n := 260) (Nat.le_refl _) (Nat.le_refl _) ?_
  refine va_putF (D := D) (ci := 5) (v := .ref q5) (ty := (.array .byte)) (C := RX5) (T := TX5) (N := 10) hx hb hts iX5 tyX5 tyX5_ok nmX5 hown hK hP hD hS 0 rfl rfl 4 (by decide) (hts _ fl_X5_34) (fun _ h9 => h9) rfl hin rfl (by decide +kernel) rfl rfl (Nat.le_of_ble_eq_true rfl) dX5_init_52 (fun H locs hP hD hS => ?_)
  have hP : va_P D vwCl [(h0, .inr (5, [.ref x1, .int x2, .ref q1, .ref q3, .ref q5, .int 0, .ref q1, .int 0, .int 0, .int 0])), (q1, .inr (4, [.ref x1, .int 0, .int 0, .int 0, .int 0])), (q3, .inr (4, [.ref x1, .int 0, .int 0, .int 0, .int 0])), (q5, .inl (k 0, 250, .inl (fun _ => 0)))] H := hP
  have hD : va_D A [(h0, .inr (5, [.ref x1, .int x2, .ref q1, .ref q3, .ref q5, .int 0, .ref q1, .int 0, .int 0, .int 0])), (q1, .inr (4, [.ref x1, .int 0, .int 0, .int 0, .int 0])), (q3, .inr (4, [.ref x1, .int 0, .int 0, .int 0, .int 0])), (q5, .inl (k 0, 250, .inl (fun _ => 0)))] := hD
  exact ic_vret (q := fun i => match i with | 0 => q1 | 1 => q3 | 2 => q5 | _ => 0) C hr hlocks (hP.sub [0, 1, 2, 3] rfl) (hD.sub [0, 1, 2, 3] (by decide) rfl) hS dX5_init_55
