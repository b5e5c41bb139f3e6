def fX8_read_L : Nat → XS → Int32 → Int32 → Int32 → Int32 → Int32 → Int32 → Option (Int32 × XS)
  | 0, _, _, _, _, _, _, _ => none
  | n + 1, S, y1, y2, y3, y4, y5, y6 => (if y5 = 0 then some (y4, S) else (if y3 ≤ y6 then some (y4, S) else (ob (gd y4 9000) (fun _ => (ob (gd (y4 + (1 : Int32)) 9000) (fun _ => (ob (gd (y4 + (2 : Int32)) 9000) (fun _ => (if (32768 : Int32) ≤ (fX8_word S (y2 + ((2 : Int32) * y6))) then (fX8_read_L n (pA (pA (pA S 3 y4 (((fX8_word S (y2 + ((2 : Int32) * y6))) >>> ((10 : Int32) &&& 31)) &&& (31 : Int32))) 3 (y4 + (1 : Int32)) (((fX8_word S (y2 + ((2 : Int32) * y6))) >>> ((5 : Int32) &&& 31)) &&& (31 : Int32))) 3 (y4 + (2 : Int32)) ((fX8_word S (y2 + ((2 : Int32) * y6))) &&& (31 : Int32))) y1 y2 y3 (y4 + (3 : Int32)) (0 : Int32) (y6 + (1 : Int32))) else (fX8_read_L n (pA (pA (pA S 3 y4 (((fX8_word S (y2 + ((2 : Int32) * y6))) >>> ((10 : Int32) &&& 31)) &&& (31 : Int32))) 3 (y4 + (1 : Int32)) (((fX8_word S (y2 + ((2 : Int32) * y6))) >>> ((5 : Int32) &&& 31)) &&& (31 : Int32))) 3 (y4 + (2 : Int32)) ((fX8_word S (y2 + ((2 : Int32) * y6))) &&& (31 : Int32))) y1 y2 y3 (y4 + (3 : Int32)) (1 : Int32) (y6 + (1 : Int32))))))))))))
def fX8_read (S : XS) (x1 : Int32) (x2 : Int32) (x3 : Int32) : Option (Int32 × XS) := (fX8_read_L 2050 S x1 x2 x3 x1 (1 : Int32) (0 : Int32))
set_option maxRecDepth 100000 in
set_option maxHeartbeats 4000000 in
theorem c_X8_read (l : Launch) (D : va_G) (k : Nat → ClassId) (a : Nat → Nat) (S : XS) (x1 : Int32) (x2 : Int32) (x3 : Int32) (u : Int32 × XS) (h : fX8_read S x1 x2 x3 = some u) : Wr noE l D (tyk k) (wM k a S) (wM k a u.2) yX8_read cX8_read 8 (some .int) (rmm 2 42) [.ref (a 0), .int x1, .int x2, .int x3] (some (.int u.1)) := by
  refine wr_start (by decide) (Nat.le_of_ble_eq_true rfl) ?_
  intro p e s m below meth c A C hr hlocks hP hD0 hA hE0 ls hl
  have hDA : ∀ S, va_D A (wM k a S) := wM_D hD0
  have hS : va_S A s.heap s.heap [] := va_S.rf
  have hl : lv_has ls 8 [(0, .ref (a 0)), (1, .int x1), (2, .int x2), (3, .int x3)] := hl
  obtain ⟨⟨hx, hb, hml, hown, hts⟩, hK⟩ := id C
  have L : ∀ n : Nat, ∀ (S : XS) (y1 : Int32) (y2 : Int32) (y3 : Int32) (y4 : Int32) (y5 : Int32) (y6 : Int32) (H : Heap) (locs : List Loc) (ls : Array Slot), va_P D vwCl (wM k a S) H → va_S A s.heap H locs → lv_has ls 8 [(0, .ref (a 0)), (1, .int y1), (2, .int y2), (3, .int y3), (4, .int y4), (5, .int y5), (6, .int y6)] → fX8_read_L n S y1 y2 y3 y4 y5 y6 = some u → W p l e (rmm 2 42) s m ([.ref (a 0), .int x1, .int x2, .int x3] : List Value).toArray below meth c H locs 0 0 (MQ below (Qw D (wM k a u.2) (some (.int u.1)) A) ([.ref (a 0), .int x1, .int x2, .int x3] : List Value).toArray s 0 0 A) (F0 m 9 ls []) := by
    intro n
    induction n with
    | zero => intro S y1 y2 y3 y4 y5 y6 H locs ls hP hS hl h; cases h
    | succ n ih =>
      intro S y1 y2 y3 y4 y5 y6 H locs ls hP hS hl h
      rw [fX8_read_L] at h
      refine lv_iload hx hb dX8_read_9 (lv_at hl 5 rfl) ?_
      refine lv_if_eq (tgt := 100) hx hb dX8_read_11 (by decide) (fun c1 => ?_) (fun c1 => ?_)
      · rw [if_pos c1] at h
        refine lv_iload hx hb dX8_read_100 (lv_at hl 4 rfl) ?_
        rw [← Option.some.inj h]
        exact wrM_iret C hr hlocks hP hS dX8_read_102
      · rw [if_neg c1] at h
        refine lv_iload hx hb dX8_read_14 (lv_at hl 6 rfl) ?_
        refine lv_iload_n hx hb dX8_read_16 rfl (lv_at hl 3 rfl) ?_
        refine lv_icmp_ge (tgt := 100) hx hb dX8_read_17 (by decide) (fun c2 => ?_) (fun c2 => ?_)
        · rw [if_pos c2] at h
          refine lv_iload hx hb dX8_read_100 (lv_at hl 4 rfl) ?_
          rw [← Option.some.inj h]
          exact wrM_iret C hr hlocks hP hS dX8_read_102
        · rw [if_neg c2] at h
          refine lv_aload_n hx hb dX8_read_20 rfl (lv_at hl 0 rfl) ?_
          refine lv_iload_n hx hb dX8_read_21 rfl (lv_at hl 2 rfl) ?_
          refine lv_iconst (v := (2 : Int32)) hx hb dX8_read_22 (by decide) ?_
          refine lv_iload hx hb dX8_read_23 (lv_at hl 6 rfl) ?_
          refine lv_imul hx hb dX8_read_25 ?_
          refine lv_iadd hx hb dX8_read_26 ?_
          refine rdV noE_est C hP (ef noE_est hS hE0) (c_X8_word l D k a _ (y2 + ((2 : Int32) * y6))) my_X8_word ml_X8_57 (rM0 C hP) rfl hl.1 (rest := []) rfl (Nat.le_of_ble_eq_true rfl) ⟨rfl, rfl, Nat.le_of_ble_eq_true rfl, Nat.le_of_ble_eq_true rfl⟩ ⟨Nat.zero_le _, Nat.zero_le _⟩ dX8_read_27 ?_
          refine lv_istore (lv' := [(7, .int (fX8_word S (y2 + ((2 : Int32) * y6)))), (0, .ref (a 0)), (1, .int y1), (2, .int y2), (3, .int y3), (4, .int y4), (5, .int y5), (6, .int y6)]) hx hb dX8_read_30 hl (by decide) rfl (fun ls hl => ?_)
          refine lv_aload_n hx hb dX8_read_32 rfl (lv_at hl 1 rfl) ?_
          refine gM0_signs C hP fl_X8_23 dX8_read_33 ?_
          refine lv_iload hx hb dX8_read_36 (lv_at hl 5 rfl) ?_
          refine lv_iload hx hb dX8_read_38 (lv_at hl 0 rfl) ?_
          refine lv_bipush (v := (10 : Int32)) hx hb dX8_read_40 (by decide) ?_
          refine lv_ishr hx hb dX8_read_42 ?_
          refine lv_bipush (v := (31 : Int32)) hx hb dX8_read_43 (by decide) ?_
          refine lv_iand hx hb dX8_read_45 ?_
          obtain ⟨_, hg, h⟩ := ob_some h
          refine sM4 C hP (hDA _) hS (gd_in hg) dX8_read_46 (fun H locs hP hS => ?_)
          refine lv_aload_n hx hb dX8_read_47 rfl (lv_at hl 1 rfl) ?_
          refine gM0_signs C hP fl_X8_23 dX8_read_48 ?_
          refine lv_iload hx hb dX8_read_51 (lv_at hl 5 rfl) ?_
          refine lv_iconst (v := (1 : Int32)) hx hb dX8_read_53 (by decide) ?_
          refine lv_iadd hx hb dX8_read_54 ?_
          refine lv_iload hx hb dX8_read_55 (lv_at hl 0 rfl) ?_
          refine lv_iconst (v := (5 : Int32)) hx hb dX8_read_57 (by decide) ?_
          refine lv_ishr hx hb dX8_read_58 ?_
          refine lv_bipush (v := (31 : Int32)) hx hb dX8_read_59 (by decide) ?_
          refine lv_iand hx hb dX8_read_61 ?_
          obtain ⟨_, hg, h⟩ := ob_some h
          refine sM4 C hP (hDA _) hS (gd_in hg) dX8_read_62 (fun H locs hP hS => ?_)
          refine lv_aload_n hx hb dX8_read_63 rfl (lv_at hl 1 rfl) ?_
          refine gM0_signs C hP fl_X8_23 dX8_read_64 ?_
          refine lv_iload hx hb dX8_read_67 (lv_at hl 5 rfl) ?_
          refine lv_iconst (v := (2 : Int32)) hx hb dX8_read_69 (by decide) ?_
          refine lv_iadd hx hb dX8_read_70 ?_
          refine lv_iload hx hb dX8_read_71 (lv_at hl 0 rfl) ?_
          refine lv_bipush (v := (31 : Int32)) hx hb dX8_read_73 (by decide) ?_
          refine lv_iand hx hb dX8_read_75 ?_
          obtain ⟨_, hg, h⟩ := ob_some h
          refine sM4 C hP (hDA _) hS (gd_in hg) dX8_read_76 (fun H locs hP hS => ?_)
          refine lv_iinc (v := (y4 + (3 : Int32))) (lv' := [(4, .int (y4 + (3 : Int32))), (7, .int (fX8_word S (y2 + ((2 : Int32) * y6)))), (0, .ref (a 0)), (1, .int y1), (2, .int y2), (3, .int y3), (5, .int y5), (6, .int y6)]) hx hb dX8_read_77 hl (k := 5) rfl rfl (by decide) rfl (fun ls hl => ?_)
          refine lv_iload hx hb dX8_read_80 (lv_at hl 1 rfl) ?_
          refine lv_ldc (v := (32768 : Int32)) hx hb hown (hts _ ct_X8_120) dX8_read_82 ?_
          refine lv_icmp_ge (tgt := 91) hx hb dX8_read_84 (by decide) (fun c3 => ?_) (fun c3 => ?_)
          · rw [if_pos c3] at h
            refine lv_iconst (v := (0 : Int32)) hx hb dX8_read_91 (by decide) ?_
            refine lv_istore (lv' := [(5, .int (0 : Int32)), (4, .int (y4 + (3 : Int32))), (7, .int (fX8_word S (y2 + ((2 : Int32) * y6)))), (0, .ref (a 0)), (1, .int y1), (2, .int y2), (3, .int y3), (6, .int y6)]) hx hb dX8_read_92 hl (by decide) rfl (fun ls hl => ?_)
            refine lv_iinc (v := (y6 + (1 : Int32))) (lv' := [(6, .int (y6 + (1 : Int32))), (5, .int (0 : Int32)), (4, .int (y4 + (3 : Int32))), (7, .int (fX8_word S (y2 + ((2 : Int32) * y6)))), (0, .ref (a 0)), (1, .int y1), (2, .int y2), (3, .int y3)]) hx hb dX8_read_94 hl (k := 7) rfl rfl (by decide) rfl (fun ls hl => ?_)
            refine lv_goto (tgt := 9) hx hb dX8_read_97 (by decide) ?_
            exact ih _ _ _ _ _ _ _ _ _ ls hP hS (lv_sub hl [4, 5, 6, 7, 2, 1, 0] rfl) h
          · rw [if_neg c3] at h
            refine lv_iconst (v := (1 : Int32)) hx hb dX8_read_87 (by decide) ?_
            refine lv_goto (tgt := 92) hx hb dX8_read_88 (by decide) ?_
            refine lv_istore (lv' := [(5, .int (1 : Int32)), (4, .int (y4 + (3 : Int32))), (7, .int (fX8_word S (y2 + ((2 : Int32) * y6)))), (0, .ref (a 0)), (1, .int y1), (2, .int y2), (3, .int y3), (6, .int y6)]) hx hb dX8_read_92 hl (by decide) rfl (fun ls hl => ?_)
            refine lv_iinc (v := (y6 + (1 : Int32))) (lv' := [(6, .int (y6 + (1 : Int32))), (5, .int (1 : Int32)), (4, .int (y4 + (3 : Int32))), (7, .int (fX8_word S (y2 + ((2 : Int32) * y6)))), (0, .ref (a 0)), (1, .int y1), (2, .int y2), (3, .int y3)]) hx hb dX8_read_94 hl (k := 7) rfl rfl (by decide) rfl (fun ls hl => ?_)
            refine lv_goto (tgt := 9) hx hb dX8_read_97 (by decide) ?_
            exact ih _ _ _ _ _ _ _ _ _ ls hP hS (lv_sub hl [4, 5, 6, 7, 2, 1, 0] rfl) h
  rw [fX8_read] at h
  refine lv_iload_n hx hb dX8_read_0 rfl (lv_at hl 1 rfl) ?_
  refine lv_istore (lv' := [(4, .int x1), (0, .ref (a 0)), (1, .int x1), (2, .int x2), (3, .int x3)]) hx hb dX8_read_1 hl (by decide) rfl (fun ls hl => ?_)
  refine lv_iconst (v := (1 : Int32)) hx hb dX8_read_3 (by decide) ?_
  refine lv_istore (lv' := [(5, .int (1 : Int32)), (4, .int x1), (0, .ref (a 0)), (1, .int x1), (2, .int x2), (3, .int x3)]) hx hb dX8_read_4 hl (by decide) rfl (fun ls hl => ?_)
  refine lv_iconst (v := (0 : Int32)) hx hb dX8_read_6 (by decide) ?_
  refine lv_istore (lv' := [(6, .int (0 : Int32)), (5, .int (1 : Int32)), (4, .int x1), (0, .ref (a 0)), (1, .int x1), (2, .int x2), (3, .int x3)]) hx hb dX8_read_7 hl (by decide) rfl (fun ls hl => ?_)
  exact L 2050 _ _ _ _ _ _ _ _ _ ls hP hS (lv_sub hl [3, 4, 5, 6, 2, 1, 0] rfl) h
def fX8_say (S : XS) (x1 : Int32) : Option XS := (if (250 : Int32) ≤ (S.1 13) then some (S) else (ob (gd (S.1 13) 250) (fun _ => some (pS (pA S 2 (S.1 13) (x1 &&& (255 : Int32))) 13 ((S.1 13) + (1 : Int32))))))
set_option maxRecDepth 100000 in
set_option maxHeartbeats 4000000 in
theorem c_X8_say (l : Launch) (D : va_G) (k : Nat → ClassId) (a : Nat → Nat) (S : XS) (x1 : Int32) (u : XS) (h : fX8_say S x1 = some u) : Wr noE l D (tyk k) (wM k a S) (wM k a u) yX8_say cX8_say 2 none (rmm 0 0) [.ref (a 0), .int x1] none := by
  refine wr_start (by decide) (Nat.le_of_ble_eq_true rfl) ?_
  intro p e s m below meth c A C hr hlocks hP hD0 hA hE0 ls hl
  have hDA : ∀ S, va_D A (wM k a S) := wM_D hD0
  have hS : va_S A s.heap s.heap [] := va_S.rf
  have hl : lv_has ls 2 [(0, .ref (a 0)), (1, .int x1)] := hl
  obtain ⟨⟨hx, hb, hml, hown, hts⟩, hK⟩ := id C
  rw [fX8_say] at h
  refine lv_aload_n hx hb dX8_say_0 rfl (lv_at hl 0 rfl) ?_
  refine gM0_bytes C hP fl_X8_121 dX8_say_1 (v := (S.1 13)) rfl ?_
  refine lv_sipush (v := (250 : Int32)) hx hb dX8_say_4 (by decide) ?_
  refine lv_icmp_ge (tgt := 34) hx hb dX8_say_7 (by decide) (fun c1 => ?_) (fun c1 => ?_)
  · rw [if_pos c1] at h
    rw [← Option.some.inj h]
    exact wr_vret C hr hlocks hP hS dX8_say_34
  · rw [if_neg c1] at h
    refine lv_aload_n hx hb dX8_say_10 rfl (lv_at hl 0 rfl) ?_
    refine gM0_out C hP fl_X8_20 dX8_say_11 ?_
    refine lv_aload_n hx hb dX8_say_14 rfl (lv_at hl 0 rfl) ?_
    refine gM0_bytes C hP fl_X8_121 dX8_say_15 (v := (S.1 13)) rfl ?_
    refine lv_iload_n hx hb dX8_say_18 rfl (lv_at hl 1 rfl) ?_
    refine lv_sipush (v := (255 : Int32)) hx hb dX8_say_19 (by decide) ?_
    refine lv_iand hx hb dX8_say_22 ?_
    obtain ⟨_, hg, h⟩ := ob_some h
    refine sM3 C hP (hDA _) hS (gd_in hg) dX8_say_23 (fun H locs hP hS => ?_)
    refine lv_aload_n hx hb dX8_say_24 rfl (lv_at hl 0 rfl) ?_
    refine lv_dup hx hb dX8_say_25 rfl ?_
    refine gM0_bytes C hP fl_X8_121 dX8_say_26 (v := (S.1 13)) rfl ?_
    refine lv_iconst (v := (1 : Int32)) hx hb dX8_say_29 (by decide) ?_
    refine lv_iadd hx hb dX8_say_30 ?_
    refine pM0_bytes C hP (hDA _) hS fl_X8_121 dX8_say_31 (fun H locs hP hS => ?_)
    rw [← Option.some.inj h]
    exact wr_vret C hr hlocks hP hS dX8_say_34
def fX8_third (x0 : Int32) (x1 : Bool) : Int32 := (if (10 : Int32) ≤ x0 then (if (bI x1) = 0 then (if (20 : Int32) ≤ x0 then (if (x0 + (1 : Int32)) = (10 : Int32) then (46 : Int32) else if (x0 + (1 : Int32)) = (11 : Int32) then (44 : Int32) else if (x0 + (1 : Int32)) = (12 : Int32) then (33 : Int32) else if (x0 + (1 : Int32)) = (13 : Int32) then (63 : Int32) else if (x0 + (1 : Int32)) = (14 : Int32) then (95 : Int32) else if (x0 + (1 : Int32)) = (15 : Int32) then (35 : Int32) else if (x0 + (1 : Int32)) = (16 : Int32) then (39 : Int32) else if (x0 + (1 : Int32)) = (17 : Int32) then (34 : Int32) else if (x0 + (1 : Int32)) = (18 : Int32) then (47 : Int32) else if (x0 + (1 : Int32)) = (19 : Int32) then (92 : Int32) else if (x0 + (1 : Int32)) = (20 : Int32) then (60 : Int32) else if (x0 + (1 : Int32)) = (21 : Int32) then (45 : Int32) else if (x0 + (1 : Int32)) = (22 : Int32) then (58 : Int32) else if (x0 + (1 : Int32)) = (23 : Int32) then (40 : Int32) else (41 : Int32)) else (if x0 = (10 : Int32) then (46 : Int32) else if x0 = (11 : Int32) then (44 : Int32) else if x0 = (12 : Int32) then (33 : Int32) else if x0 = (13 : Int32) then (63 : Int32) else if x0 = (14 : Int32) then (95 : Int32) else if x0 = (15 : Int32) then (35 : Int32) else if x0 = (16 : Int32) then (39 : Int32) else if x0 = (17 : Int32) then (34 : Int32) else if x0 = (18 : Int32) then (47 : Int32) else if x0 = (19 : Int32) then (92 : Int32) else if x0 = (20 : Int32) then (60 : Int32) else if x0 = (21 : Int32) then (45 : Int32) else if x0 = (22 : Int32) then (58 : Int32) else if x0 = (23 : Int32) then (40 : Int32) else (41 : Int32))) else (if x0 = (10 : Int32) then (46 : Int32) else if x0 = (11 : Int32) then (44 : Int32) else if x0 = (12 : Int32) then (33 : Int32) else if x0 = (13 : Int32) then (63 : Int32) else if x0 = (14 : Int32) then (95 : Int32) else if x0 = (15 : Int32) then (35 : Int32) else if x0 = (16 : Int32) then (39 : Int32) else if x0 = (17 : Int32) then (34 : Int32) else if x0 = (18 : Int32) then (47 : Int32) else if x0 = (19 : Int32) then (92 : Int32) else if x0 = (20 : Int32) then (60 : Int32) else if x0 = (21 : Int32) then (45 : Int32) else if x0 = (22 : Int32) then (58 : Int32) else if x0 = (23 : Int32) then (40 : Int32) else (41 : Int32))) else ((48 : Int32) + x0))
set_option maxRecDepth 100000 in
set_option maxHeartbeats 4000000 in
theorem c_X8_third (l : Launch) (D : va_G) (ty : List (ClassId × FieldType)) (E : Ety) (w : va_W) (x0 : Int32) (x1 : Bool) : Rd E l D ty w yX8_third cX8_third 3 (some .int) (rmm 0 0) [.int x0, .int (bI x1)] (fX8_third x0 x1) := by
  generalize h : fX8_third x0 x1 = u
  refine rd_start (by decide) (Nat.le_of_ble_eq_true rfl) ?_
  intro p e s m below meth c C hr hlocks hP hE0 ls hl
  have hl : lv_has ls 3 [(0, .int x0), (1, .int (bI x1))] := hl
  obtain ⟨⟨hx, hb, hml, hown, hts⟩, hK⟩ := id C
  rw [fX8_third] at h
  refine lv_iload_n hx hb dX8_third_0 rfl (lv_at hl 0 rfl) ?_
  refine lv_bipush (v := (10 : Int32)) hx hb dX8_third_1 (by decide) ?_
  refine lv_icmp_ge (tgt := 11) hx hb dX8_third_3 (by decide) (fun c1 => ?_) (fun c1 => ?_)
  · rw [if_pos c1] at h
    refine lv_iload_n hx hb dX8_third_11 rfl (lv_at hl 1 rfl) ?_
    refine lv_if_ne (tgt := 21) hx hb dX8_third_12 (by decide) (fun c2 => ?_) (fun c2 => ?_)
    · rw [if_neg c2] at h
      refine lv_iload_n hx hb dX8_third_21 rfl (lv_at hl 0 rfl) ?_
      refine lv_goto (tgt := 28) hx hb dX8_third_22 (by decide) ?_
      refine lv_istore_n (lv' := [(2, .int x0), (0, .int x0), (1, .int (bI x1))]) hx hb dX8_third_28 rfl hl (by decide) rfl (fun ls hl => ?_)
      refine lv_iload_n hx hb dX8_third_29 rfl (lv_at hl 0 rfl) ?_
      by_cases c3 : x0 = (10 : Int32)
      · rw [if_pos c3] at h
        refine lv_tableIn (off := 70) (tgt := 100) hx hb dX8_third_30 (by rw [c3]; decide) (by rw [c3]; decide) (by rw [c3]; rfl) (by decide) ?_
        refine lv_bipush (v := (46 : Int32)) hx hb dX8_third_100 (by decide) ?_
        rw [← h]
        exact rd_iret C hr hlocks dX8_third_102
      · rw [if_neg c3] at h
        by_cases c4 : x0 = (11 : Int32)
        · rw [if_pos c4] at h
          refine lv_tableIn (off := 73) (tgt := 103) hx hb dX8_third_30 (by rw [c4]; decide) (by rw [c4]; decide) (by rw [c4]; rfl) (by decide) ?_
          refine lv_bipush (v := (44 : Int32)) hx hb dX8_third_103 (by decide) ?_
          rw [← h]
          exact rd_iret C hr hlocks dX8_third_105
        · rw [if_neg c4] at h
          by_cases c5 : x0 = (12 : Int32)
          · rw [if_pos c5] at h
            refine lv_tableIn (off := 76) (tgt := 106) hx hb dX8_third_30 (by rw [c5]; decide) (by rw [c5]; decide) (by rw [c5]; rfl) (by decide) ?_
            refine lv_bipush (v := (33 : Int32)) hx hb dX8_third_106 (by decide) ?_
            rw [← h]
            exact rd_iret C hr hlocks dX8_third_108
          · rw [if_neg c5] at h
            by_cases c6 : x0 = (13 : Int32)
            · rw [if_pos c6] at h
              refine lv_tableIn (off := 79) (tgt := 109) hx hb dX8_third_30 (by rw [c6]; decide) (by rw [c6]; decide) (by rw [c6]; rfl) (by decide) ?_
              refine lv_bipush (v := (63 : Int32)) hx hb dX8_third_109 (by decide) ?_
              rw [← h]
              exact rd_iret C hr hlocks dX8_third_111
            · rw [if_neg c6] at h
              by_cases c7 : x0 = (14 : Int32)
              · rw [if_pos c7] at h
                refine lv_tableIn (off := 82) (tgt := 112) hx hb dX8_third_30 (by rw [c7]; decide) (by rw [c7]; decide) (by rw [c7]; rfl) (by decide) ?_
                refine lv_bipush (v := (95 : Int32)) hx hb dX8_third_112 (by decide) ?_
                rw [← h]
                exact rd_iret C hr hlocks dX8_third_114
              · rw [if_neg c7] at h
                by_cases c8 : x0 = (15 : Int32)
                · rw [if_pos c8] at h
                  refine lv_tableIn (off := 85) (tgt := 115) hx hb dX8_third_30 (by rw [c8]; decide) (by rw [c8]; decide) (by rw [c8]; rfl) (by decide) ?_
                  refine lv_bipush (v := (35 : Int32)) hx hb dX8_third_115 (by decide) ?_
                  rw [← h]
                  exact rd_iret C hr hlocks dX8_third_117
                · rw [if_neg c8] at h
                  by_cases c9 : x0 = (16 : Int32)
                  · rw [if_pos c9] at h
                    refine lv_tableIn (off := 88) (tgt := 118) hx hb dX8_third_30 (by rw [c9]; decide) (by rw [c9]; decide) (by rw [c9]; rfl) (by decide) ?_
                    refine lv_bipush (v := (39 : Int32)) hx hb dX8_third_118 (by decide) ?_
                    rw [← h]
                    exact rd_iret C hr hlocks dX8_third_120
                  · rw [if_neg c9] at h
                    by_cases c10 : x0 = (17 : Int32)
                    · rw [if_pos c10] at h
                      refine lv_tableIn (off := 91) (tgt := 121) hx hb dX8_third_30 (by rw [c10]; decide) (by rw [c10]; decide) (by rw [c10]; rfl) (by decide) ?_
                      refine lv_bipush (v := (34 : Int32)) hx hb dX8_third_121 (by decide) ?_
                      rw [← h]
                      exact rd_iret C hr hlocks dX8_third_123
                    · rw [if_neg c10] at h
                      by_cases c11 : x0 = (18 : Int32)
                      · rw [if_pos c11] at h
                        refine lv_tableIn (off := 94) (tgt := 124) hx hb dX8_third_30 (by rw [c11]; decide) (by rw [c11]; decide) (by rw [c11]; rfl) (by decide) ?_
                        refine lv_bipush (v := (47 : Int32)) hx hb dX8_third_124 (by decide) ?_
                        rw [← h]
                        exact rd_iret C hr hlocks dX8_third_126
                      · rw [if_neg c11] at h
                        by_cases c12 : x0 = (19 : Int32)
                        · rw [if_pos c12] at h
                          refine lv_tableIn (off := 97) (tgt := 127) hx hb dX8_third_30 (by rw [c12]; decide) (by rw [c12]; decide) (by rw [c12]; rfl) (by decide) ?_
                          refine lv_bipush (v := (92 : Int32)) hx hb dX8_third_127 (by decide) ?_
                          rw [← h]
                          exact rd_iret C hr hlocks dX8_third_129
                        · rw [if_neg c12] at h
                          by_cases c13 : x0 = (20 : Int32)
                          · rw [if_pos c13] at h
                            refine lv_tableIn (off := 100) (tgt := 130) hx hb dX8_third_30 (by rw [c13]; decide) (by rw [c13]; decide) (by rw [c13]; rfl) (by decide) ?_
                            refine lv_bipush (v := (60 : Int32)) hx hb dX8_third_130 (by decide) ?_
                            rw [← h]
                            exact rd_iret C hr hlocks dX8_third_132
                          · rw [if_neg c13] at h
                            by_cases c14 : x0 = (21 : Int32)
                            · rw [if_pos c14] at h
                              refine lv_tableIn (off := 103) (tgt := 133) hx hb dX8_third_30 (by rw [c14]; decide) (by rw [c14]; decide) (by rw [c14]; rfl) (by decide) ?_
                              refine lv_bipush (v := (45 : Int32)) hx hb dX8_third_133 (by decide) ?_
                              rw [← h]
                              exact rd_iret C hr hlocks dX8_third_135
                            · rw [if_neg c14] at h
                              by_cases c15 : x0 = (22 : Int32)
                              · rw [if_pos c15] at h
                                refine lv_tableIn (off := 106) (tgt := 136) hx hb dX8_third_30 (by rw [c15]; decide) (by rw [c15]; decide) (by rw [c15]; rfl) (by decide) ?_
                                refine lv_bipush (v := (58 : Int32)) hx hb dX8_third_136 (by decide) ?_
                                rw [← h]
                                exact rd_iret C hr hlocks dX8_third_138
                              · rw [if_neg c15] at h
                                by_cases c16 : x0 = (23 : Int32)
                                · rw [if_pos c16] at h
                                  refine lv_tableIn (off := 109) (tgt := 139) hx hb dX8_third_30 (by rw [c16]; decide) (by rw [c16]; decide) (by rw [c16]; rfl) (by decide) ?_
                                  refine lv_bipush (v := (40 : Int32)) hx hb dX8_third_139 (by decide) ?_
                                  rw [← h]
                                  exact rd_iret C hr hlocks dX8_third_141
                                · rw [if_neg c16] at h
                                  refine lv_tableOut (tgt := 142) hx hb dX8_third_30 (ts_10_23 c3 c4 c5 c6 c7 c8 c9 c10 c11 c12 c13 c14 c15 c16) (by decide) ?_
                                  refine lv_bipush (v := (41 : Int32)) hx hb dX8_third_142 (by decide) ?_
                                  rw [← h]
                                  exact rd_iret C hr hlocks dX8_third_144
    · rw [if_pos c2] at h
      refine lv_iload_n hx hb dX8_third_15 rfl (lv_at hl 0 rfl) ?_
      refine lv_bipush (v := (20 : Int32)) hx hb dX8_third_16 (by decide) ?_
      refine lv_icmp_ge (tgt := 25) hx hb dX8_third_18 (by decide) (fun c17 => ?_) (fun c17 => ?_)
      · rw [if_pos c17] at h
        refine lv_iload_n hx hb dX8_third_25 rfl (lv_at hl 0 rfl) ?_
        refine lv_iconst (v := (1 : Int32)) hx hb dX8_third_26 (by decide) ?_
        refine lv_iadd hx hb dX8_third_27 ?_
        refine lv_istore_n (lv' := [(2, .int (x0 + (1 : Int32))), (0, .int x0), (1, .int (bI x1))]) hx hb dX8_third_28 rfl hl (by decide) rfl (fun ls hl => ?_)
        refine lv_iload_n hx hb dX8_third_29 rfl (lv_at hl 0 rfl) ?_
        by_cases c18 : (x0 + (1 : Int32)) = (10 : Int32)
        · rw [if_pos c18] at h
          refine lv_tableIn (off := 70) (tgt := 100) hx hb dX8_third_30 (by rw [c18]; decide) (by rw [c18]; decide) (by rw [c18]; rfl) (by decide) ?_
          refine lv_bipush (v := (46 : Int32)) hx hb dX8_third_100 (by decide) ?_
          rw [← h]
          exact rd_iret C hr hlocks dX8_third_102
        · rw [if_neg c18] at h
          by_cases c19 : (x0 + (1 : Int32)) = (11 : Int32)
          · rw [if_pos c19] at h
            refine lv_tableIn (off := 73) (tgt := 103) hx hb dX8_third_30 (by rw [c19]; decide) (by rw [c19]; decide) (by rw [c19]; rfl) (by decide) ?_
            refine lv_bipush (v := (44 : Int32)) hx hb dX8_third_103 (by decide) ?_
            rw [← h]
            exact rd_iret C hr hlocks dX8_third_105
          · rw [if_neg c19] at h
            by_cases c20 : (x0 + (1 : Int32)) = (12 : Int32)
            · rw [if_pos c20] at h
              refine lv_tableIn (off := 76) (tgt := 106) hx hb dX8_third_30 (by rw [c20]; decide) (by rw [c20]; decide) (by rw [c20]; rfl) (by decide) ?_
              refine lv_bipush (v := (33 : Int32)) hx hb dX8_third_106 (by decide) ?_
              rw [← h]
              exact rd_iret C hr hlocks dX8_third_108
            · rw [if_neg c20] at h
              by_cases c21 : (x0 + (1 : Int32)) = (13 : Int32)
              · rw [if_pos c21] at h
                refine lv_tableIn (off := 79) (tgt := 109) hx hb dX8_third_30 (by rw [c21]; decide) (by rw [c21]; decide) (by rw [c21]; rfl) (by decide) ?_
                refine lv_bipush (v := (63 : Int32)) hx hb dX8_third_109 (by decide) ?_
                rw [← h]
                exact rd_iret C hr hlocks dX8_third_111
              · rw [if_neg c21] at h
                by_cases c22 : (x0 + (1 : Int32)) = (14 : Int32)
                · rw [if_pos c22] at h
                  refine lv_tableIn (off := 82) (tgt := 112) hx hb dX8_third_30 (by rw [c22]; decide) (by rw [c22]; decide) (by rw [c22]; rfl) (by decide) ?_
                  refine lv_bipush (v := (95 : Int32)) hx hb dX8_third_112 (by decide) ?_
                  rw [← h]
                  exact rd_iret C hr hlocks dX8_third_114
                · rw [if_neg c22] at h
                  by_cases c23 : (x0 + (1 : Int32)) = (15 : Int32)
                  · rw [if_pos c23] at h
                    refine lv_tableIn (off := 85) (tgt := 115) hx hb dX8_third_30 (by rw [c23]; decide) (by rw [c23]; decide) (by rw [c23]; rfl) (by decide) ?_
                    refine lv_bipush (v := (35 : Int32)) hx hb dX8_third_115 (by decide) ?_
                    rw [← h]
                    exact rd_iret C hr hlocks dX8_third_117
                  · rw [if_neg c23] at h
                    by_cases c24 : (x0 + (1 : Int32)) = (16 : Int32)
                    · rw [if_pos c24] at h
                      refine lv_tableIn (off := 88) (tgt := 118) hx hb dX8_third_30 (by rw [c24]; decide) (by rw [c24]; decide) (by rw [c24]; rfl) (by decide) ?_
                      refine lv_bipush (v := (39 : Int32)) hx hb dX8_third_118 (by decide) ?_
                      rw [← h]
                      exact rd_iret C hr hlocks dX8_third_120
                    · rw [if_neg c24] at h
                      by_cases c25 : (x0 + (1 : Int32)) = (17 : Int32)
                      · rw [if_pos c25] at h
                        refine lv_tableIn (off := 91) (tgt := 121) hx hb dX8_third_30 (by rw [c25]; decide) (by rw [c25]; decide) (by rw [c25]; rfl) (by decide) ?_
                        refine lv_bipush (v := (34 : Int32)) hx hb dX8_third_121 (by decide) ?_
                        rw [← h]
                        exact rd_iret C hr hlocks dX8_third_123
                      · rw [if_neg c25] at h
                        by_cases c26 : (x0 + (1 : Int32)) = (18 : Int32)
                        · rw [if_pos c26] at h
                          refine lv_tableIn (off := 94) (tgt := 124) hx hb dX8_third_30 (by rw [c26]; decide) (by rw [c26]; decide) (by rw [c26]; rfl) (by decide) ?_
                          refine lv_bipush (v := (47 : Int32)) hx hb dX8_third_124 (by decide) ?_
                          rw [← h]
                          exact rd_iret C hr hlocks dX8_third_126
                        · rw [if_neg c26] at h
                          by_cases c27 : (x0 + (1 : Int32)) = (19 : Int32)
                          · rw [if_pos c27] at h
                            refine lv_tableIn (off := 97) (tgt := 127) hx hb dX8_third_30 (by rw [c27]; decide) (by rw [c27]; decide) (by rw [c27]; rfl) (by decide) ?_
                            refine lv_bipush (v := (92 : Int32)) hx hb dX8_third_127 (by decide) ?_
                            rw [← h]
                            exact rd_iret C hr hlocks dX8_third_129
                          · rw [if_neg c27] at h
                            by_cases c28 : (x0 + (1 : Int32)) = (20 : Int32)
                            · rw [if_pos c28] at h
                              refine lv_tableIn (off := 100) (tgt := 130) hx hb dX8_third_30 (by rw [c28]; decide) (by rw [c28]; decide) (by rw [c28]; rfl) (by decide) ?_
                              refine lv_bipush (v := (60 : Int32)) hx hb dX8_third_130 (by decide) ?_
                              rw [← h]
                              exact rd_iret C hr hlocks dX8_third_132
                            · rw [if_neg c28] at h
                              by_cases c29 : (x0 + (1 : Int32)) = (21 : Int32)
                              · rw [if_pos c29] at h
                                refine lv_tableIn (off := 103) (tgt := 133) hx hb dX8_third_30 (by rw [c29]; decide) (by rw [c29]; decide) (by rw [c29]; rfl) (by decide) ?_
                                refine lv_bipush (v := (45 : Int32)) hx hb dX8_third_133 (by decide) ?_
                                rw [← h]
                                exact rd_iret C hr hlocks dX8_third_135
                              · rw [if_neg c29] at h
                                by_cases c30 : (x0 + (1 : Int32)) = (22 : Int32)
                                · rw [if_pos c30] at h
                                  refine lv_tableIn (off := 106) (tgt := 136) hx hb dX8_third_30 (by rw [c30]; decide) (by rw [c30]; decide) (by rw [c30]; rfl) (by decide) ?_
                                  refine lv_bipush (v := (58 : Int32)) hx hb dX8_third_136 (by decide) ?_
                                  rw [← h]
                                  exact rd_iret C hr hlocks dX8_third_138
                                · rw [if_neg c30] at h
                                  by_cases c31 : (x0 + (1 : Int32)) = (23 : Int32)
                                  · rw [if_pos c31] at h
                                    refine lv_tableIn (off := 109) (tgt := 139) hx hb dX8_third_30 (by rw [c31]; decide) (by rw [c31]; decide) (by rw [c31]; rfl) (by decide) ?_
                                    refine lv_bipush (v := (40 : Int32)) hx hb dX8_third_139 (by decide) ?_
                                    rw [← h]
                                    exact rd_iret C hr hlocks dX8_third_141
                                  · rw [if_neg c31] at h
                                    refine lv_tableOut (tgt := 142) hx hb dX8_third_30 (ts_10_23 c18 c19 c20 c21 c22 c23 c24 c25 c26 c27 c28 c29 c30 c31) (by decide) ?_
                                    refine lv_bipush (v := (41 : Int32)) hx hb dX8_third_142 (by decide) ?_
                                    rw [← h]
                                    exact rd_iret C hr hlocks dX8_third_144
      · rw [if_neg c17] at h
        refine lv_iload_n hx hb dX8_third_21 rfl (lv_at hl 0 rfl) ?_
        refine lv_goto (tgt := 28) hx hb dX8_third_22 (by decide) ?_
        refine lv_istore_n (lv' := [(2, .int x0), (0, .int x0), (1, .int (bI x1))]) hx hb dX8_third_28 rfl hl (by decide) rfl (fun ls hl => ?_)
        refine lv_iload_n hx hb dX8_third_29 rfl (lv_at hl 0 rfl) ?_
        by_cases c32 : x0 = (10 : Int32)
        · rw [if_pos c32] at h
          refine lv_tableIn (off := 70) (tgt := 100) hx hb dX8_third_30 (by rw [c32]; decide) (by rw [c32]; decide) (by rw [c32]; rfl) (by decide) ?_
          refine lv_bipush (v := (46 : Int32)) hx hb dX8_third_100 (by decide) ?_
          rw [← h]
          exact rd_iret C hr hlocks dX8_third_102
        · rw [if_neg c32] at h
          by_cases c33 : x0 = (11 : Int32)
          · rw [if_pos c33] at h
            refine lv_tableIn (off := 73) (tgt := 103) hx hb dX8_third_30 (by rw [c33]; decide) (by rw [c33]; decide) (by rw [c33]; rfl) (by decide) ?_
            refine lv_bipush (v := (44 : Int32)) hx hb dX8_third_103 (by decide) ?_
            rw [← h]
            exact rd_iret C hr hlocks dX8_third_105
          · rw [if_neg c33] at h
            by_cases c34 : x0 = (12 : Int32)
            · rw [if_pos c34] at h
              refine lv_tableIn (off := 76) (tgt := 106) hx hb dX8_third_30 (by rw [c34]; decide) (by rw [c34]; decide) (by rw [c34]; rfl) (by decide) ?_
              refine lv_bipush (v := (33 : Int32)) hx hb dX8_third_106 (by decide) ?_
              rw [← h]
              exact rd_iret C hr hlocks dX8_third_108
            · rw [if_neg c34] at h
              by_cases c35 : x0 = (13 : Int32)
              · rw [if_pos c35] at h
                refine lv_tableIn (off := 79) (tgt := 109) hx hb dX8_third_30 (by rw [c35]; decide) (by rw [c35]; decide) (by rw [c35]; rfl) (by decide) ?_
                refine lv_bipush (v := (63 : Int32)) hx hb dX8_third_109 (by decide) ?_
                rw [← h]
                exact rd_iret C hr hlocks dX8_third_111
              · rw [if_neg c35] at h
                by_cases c36 : x0 = (14 : Int32)
                · rw [if_pos c36] at h
                  refine lv_tableIn (off := 82) (tgt := 112) hx hb dX8_third_30 (by rw [c36]; decide) (by rw [c36]; decide) (by rw [c36]; rfl) (by decide) ?_
                  refine lv_bipush (v := (95 : Int32)) hx hb dX8_third_112 (by decide) ?_
                  rw [← h]
                  exact rd_iret C hr hlocks dX8_third_114
                · rw [if_neg c36] at h
                  by_cases c37 : x0 = (15 : Int32)
                  · rw [if_pos c37] at h
                    refine lv_tableIn (off := 85) (tgt := 115) hx hb dX8_third_30 (by rw [c37]; decide) (by rw [c37]; decide) (by rw [c37]; rfl) (by decide) ?_
                    refine lv_bipush (v := (35 : Int32)) hx hb dX8_third_115 (by decide) ?_
                    rw [← h]
                    exact rd_iret C hr hlocks dX8_third_117
                  · rw [if_neg c37] at h
                    by_cases c38 : x0 = (16 : Int32)
                    · rw [if_pos c38] at h
                      refine lv_tableIn (off := 88) (tgt := 118) hx hb dX8_third_30 (by rw [c38]; decide) (by rw [c38]; decide) (by rw [c38]; rfl) (by decide) ?_
                      refine lv_bipush (v := (39 : Int32)) hx hb dX8_third_118 (by decide) ?_
                      rw [← h]
                      exact rd_iret C hr hlocks dX8_third_120
                    · rw [if_neg c38] at h
                      by_cases c39 : x0 = (17 : Int32)
                      · rw [if_pos c39] at h
                        refine lv_tableIn (off := 91) (tgt := 121) hx hb dX8_third_30 (by rw [c39]; decide) (by rw [c39]; decide) (by rw [c39]; rfl) (by decide) ?_
                        refine lv_bipush (v := (34 : Int32)) hx hb dX8_third_121 (by decide) ?_
                        rw [← h]
                        exact rd_iret C hr hlocks dX8_third_123
                      · rw [if_neg c39] at h
                        by_cases c40 : x0 = (18 : Int32)
                        · rw [if_pos c40] at h
                          refine lv_tableIn (off := 94) (tgt := 124) hx hb dX8_third_30 (by rw [c40]; decide) (by rw [c40]; decide) (by rw [c40]; rfl) (by decide) ?_
                          refine lv_bipush (v := (47 : Int32)) hx hb dX8_third_124 (by decide) ?_
                          rw [← h]
                          exact rd_iret C hr hlocks dX8_third_126
                        · rw [if_neg c40] at h
                          by_cases c41 : x0 = (19 : Int32)
                          · rw [if_pos c41] at h
                            refine lv_tableIn (off := 97) (tgt := 127) hx hb dX8_third_30 (by rw [c41]; decide) (by rw [c41]; decide) (by rw [c41]; rfl) (by decide) ?_
                            refine lv_bipush (v := (92 : Int32)) hx hb dX8_third_127 (by decide) ?_
                            rw [← h]
                            exact rd_iret C hr hlocks dX8_third_129
                          · rw [if_neg c41] at h
                            by_cases c42 : x0 = (20 : Int32)
                            · rw [if_pos c42] at h
                              refine lv_tableIn (off := 100) (tgt := 130) hx hb dX8_third_30 (by rw [c42]; decide) (by rw [c42]; decide) (by rw [c42]; rfl) (by decide) ?_
                              refine lv_bipush (v := (60 : Int32)) hx hb dX8_third_130 (by decide) ?_
                              rw [← h]
                              exact rd_iret C hr hlocks dX8_third_132
                            · rw [if_neg c42] at h
                              by_cases c43 : x0 = (21 : Int32)
                              · rw [if_pos c43] at h
                                refine lv_tableIn (off := 103) (tgt := 133) hx hb dX8_third_30 (by rw [c43]; decide) (by rw [c43]; decide) (by rw [c43]; rfl) (by decide) ?_
                                refine lv_bipush (v := (45 : Int32)) hx hb dX8_third_133 (by decide) ?_
                                rw [← h]
                                exact rd_iret C hr hlocks dX8_third_135
                              · rw [if_neg c43] at h
                                by_cases c44 : x0 = (22 : Int32)
                                · rw [if_pos c44] at h
                                  refine lv_tableIn (off := 106) (tgt := 136) hx hb dX8_third_30 (by rw [c44]; decide) (by rw [c44]; decide) (by rw [c44]; rfl) (by decide) ?_
                                  refine lv_bipush (v := (58 : Int32)) hx hb dX8_third_136 (by decide) ?_
                                  rw [← h]
                                  exact rd_iret C hr hlocks dX8_third_138
                                · rw [if_neg c44] at h
                                  by_cases c45 : x0 = (23 : Int32)
                                  · rw [if_pos c45] at h
                                    refine lv_tableIn (off := 109) (tgt := 139) hx hb dX8_third_30 (by rw [c45]; decide) (by rw [c45]; decide) (by rw [c45]; rfl) (by decide) ?_
                                    refine lv_bipush (v := (40 : Int32)) hx hb dX8_third_139 (by decide) ?_
                                    rw [← h]
                                    exact rd_iret C hr hlocks dX8_third_141
                                  · rw [if_neg c45] at h
                                    refine lv_tableOut (tgt := 142) hx hb dX8_third_30 (ts_10_23 c32 c33 c34 c35 c36 c37 c38 c39 c40 c41 c42 c43 c44 c45) (by decide) ?_
                                    refine lv_bipush (v := (41 : Int32)) hx hb dX8_third_142 (by decide) ?_
                                    rw [← h]
                                    exact rd_iret C hr hlocks dX8_third_144
  · rw [if_neg c1] at h
    refine lv_bipush (v := (48 : Int32)) hx hb dX8_third_6 (by decide) ?_
    refine lv_iload_n hx hb dX8_third_8 rfl (lv_at hl 0 rfl) ?_
    refine lv_iadd hx hb dX8_third_9 ?_
    rw [← h]
    exact rd_iret C hr hlocks dX8_third_10
def fX8_letter (S : XS) (x1 : Int32) (x2 : Int32) : Option XS := (if (2 : Int32) ≤ x2 then (if x1 = (6 : Int32) then (if (S.1 16) ≤ ((S.1 15) + (1 : Int32)) then some (pS S 15 (S.1 16)) else (ob (gd (S.1 15) 9000) (fun _ => (ob (gd ((S.1 15) + (1 : Int32)) 9000) (fun _ => (ob (fX8_say S (((32 : Int32) * (S.2 3 (S.1 15).toNatClampNeg)) + (S.2 3 ((S.1 15) + (1 : Int32)).toNatClampNeg))) (fun u9 => some (pS u9 15 ((u9.1 15) + (2 : Int32)))))))))) else (if (S.1 1) = (1 : Int32) then (ob (fX8_say S (fX8_third (x1 - (7 : Int32)) true)) (fun u7 => some (u7))) else (if x1 = (7 : Int32) then (ob (fX8_say S (13 : Int32)) (fun u6 => some (u6))) else (ob (fX8_say S (fX8_third (x1 - (8 : Int32)) false)) (fun u5 => some (u5)))))) else (if x2 = 0 then (ob (fX8_say S (((97 : Int32) + x1) - (6 : Int32))) (fun u12 => some (u12))) else (ob (fX8_say S (((65 : Int32) + x1) - (6 : Int32))) (fun u11 => some (u11)))))
set_option maxRecDepth 100000 in
set_option maxHeartbeats 4000000 in
theorem c_X8_letter (l : Launch) (D : va_G) (k : Nat → ClassId) (a : Nat → Nat) (S : XS) (x1 : Int32) (x2 : Int32) (u : XS) (h : fX8_letter S x1 x2 = some u) : Wr noE l D (tyk k) (wM k a S) (wM k a u) yX8_letter cX8_letter 3 none (rmm 1 22) [.ref (a 0), .int x1, .int x2] none := by
  refine wr_start (by decide) (Nat.le_of_ble_eq_true rfl) ?_
  intro p e s m below meth c A C hr hlocks hP hD0 hA hE0 ls hl
  have hDA : ∀ S, va_D A (wM k a S) := wM_D hD0
  have hS : va_S A s.heap s.heap [] := va_S.rf
  have hl : lv_has ls 3 [(0, .ref (a 0)), (1, .int x1), (2, .int x2)] := hl
  obtain ⟨⟨hx, hb, hml, hown, hts⟩, hK⟩ := id C
  rw [fX8_letter] at h
  refine lv_iload_n hx hb dX8_letter_0 rfl (lv_at hl 2 rfl) ?_
  refine lv_iconst (v := (2 : Int32)) hx hb dX8_letter_1 (by decide) ?_
  refine lv_icmp_ge (tgt := 28) hx hb dX8_letter_2 (by decide) (fun c1 => ?_) (fun c1 => ?_)
  · rw [if_pos c1] at h
    refine lv_iload_n hx hb dX8_letter_28 rfl (lv_at hl 1 rfl) ?_
    refine lv_bipush (v := (6 : Int32)) hx hb dX8_letter_29 (by decide) ?_
    refine lv_icmp_ne (tgt := 99) hx hb dX8_letter_31 (by decide) (fun c2 => ?_) (fun c2 => ?_)
    · rw [if_neg c2] at h
      refine lv_aload_n hx hb dX8_letter_99 rfl (lv_at hl 0 rfl) ?_
      refine gM0_version C hP fl_X8_36 dX8_letter_100 (v := (S.1 1)) rfl ?_
      refine lv_iconst (v := (1 : Int32)) hx hb dX8_letter_103 (by decide) ?_
      refine lv_icmp_ne (tgt := 122) hx hb dX8_letter_104 (by decide) (fun c3 => ?_) (fun c3 => ?_)
      · rw [if_neg c3] at h
        refine lv_aload_n hx hb dX8_letter_122 rfl (lv_at hl 0 rfl) ?_
        refine lv_iload_n hx hb dX8_letter_123 rfl (lv_at hl 1 rfl) ?_
        refine lv_bipush (v := (7 : Int32)) hx hb dX8_letter_124 (by decide) ?_
        refine lv_icmp_ne (tgt := 134) hx hb dX8_letter_126 (by decide) (fun c4 => ?_) (fun c4 => ?_)
        · rw [if_neg c4] at h
          refine lv_iload_n hx hb dX8_letter_134 rfl (lv_at hl 1 rfl) ?_
          refine lv_bipush (v := (8 : Int32)) hx hb dX8_letter_135 (by decide) ?_
          refine lv_isub hx hb dX8_letter_137 ?_
          refine lv_iconst (v := (0 : Int32)) hx hb dX8_letter_138 (by decide) ?_
          refine rdS noE_est C hP (ef noE_est hS hE0) (c_X8_third l D (tyk k) noE _ (x1 - (8 : Int32)) false) my_X8_third ml_X8_168 rfl hl.1 (rest := [.ref (a 0)]) rfl (Nat.le_of_ble_eq_true rfl) ⟨rfl, rfl, Nat.le_of_ble_eq_true rfl, Nat.le_of_ble_eq_true rfl⟩ ⟨Nat.zero_le _, Nat.zero_le _⟩ dX8_letter_139 ?_
          obtain ⟨u5, hhu5, h⟩ := ob_some h
          refine wrV noE_est C hP (hDA _) hA hS hE0 (c_X8_say l D k a _ (fX8_third (x1 - (8 : Int32)) false) u5 hhu5) my_X8_say ml_X8_127 (rM0 C hP) rfl hl.1 (rest := []) rfl (Nat.le_of_ble_eq_true rfl) ⟨rfl, rfl, Nat.le_of_ble_eq_true rfl, Nat.le_of_ble_eq_true rfl⟩ ⟨Nat.zero_le _, Nat.zero_le _⟩ dX8_letter_142 (fun H locs hP hS _ _ => ?_)
          rw [← Option.some.inj h]
          exact wr_vret C hr hlocks hP hS dX8_letter_145
        · rw [if_pos c4] at h
          refine lv_bipush (v := (13 : Int32)) hx hb dX8_letter_129 (by decide) ?_
          refine lv_goto (tgt := 142) hx hb dX8_letter_131 (by decide) ?_
          obtain ⟨u6, hhu6, h⟩ := ob_some h
          refine wrV noE_est C hP (hDA _) hA hS hE0 (c_X8_say l D k a _ (13 : Int32) u6 hhu6) my_X8_say ml_X8_127 (rM0 C hP) rfl hl.1 (rest := []) rfl (Nat.le_of_ble_eq_true rfl) ⟨rfl, rfl, Nat.le_of_ble_eq_true rfl, Nat.le_of_ble_eq_true rfl⟩ ⟨Nat.zero_le _, Nat.zero_le _⟩ dX8_letter_142 (fun H locs hP hS _ _ => ?_)
          rw [← Option.some.inj h]
          exact wr_vret C hr hlocks hP hS dX8_letter_145
      · rw [if_pos c3] at h
        refine lv_aload_n hx hb dX8_letter_107 rfl (lv_at hl 0 rfl) ?_
        refine lv_iload_n hx hb dX8_letter_108 rfl (lv_at hl 1 rfl) ?_
        refine lv_bipush (v := (7 : Int32)) hx hb dX8_letter_109 (by decide) ?_
        refine lv_isub hx hb dX8_letter_111 ?_
        refine lv_iconst (v := (1 : Int32)) hx hb dX8_letter_112 (by decide) ?_
        refine rdS noE_est C hP (ef noE_est hS hE0) (c_X8_third l D (tyk k) noE _ (x1 - (7 : Int32)) true) my_X8_third ml_X8_168 rfl hl.1 (rest := [.ref (a 0)]) rfl (Nat.le_of_ble_eq_true rfl) ⟨rfl, rfl, Nat.le_of_ble_eq_true rfl, Nat.le_of_ble_eq_true rfl⟩ ⟨Nat.zero_le _, Nat.zero_le _⟩ dX8_letter_113 ?_
        obtain ⟨u7, hhu7, h⟩ := ob_some h
        refine wrV noE_est C hP (hDA _) hA hS hE0 (c_X8_say l D k a _ (fX8_third (x1 - (7 : Int32)) true) u7 hhu7) my_X8_say ml_X8_127 (rM0 C hP) rfl hl.1 (rest := []) rfl (Nat.le_of_ble_eq_true rfl) ⟨rfl, rfl, Nat.le_of_ble_eq_true rfl, Nat.le_of_ble_eq_true rfl⟩ ⟨Nat.zero_le _, Nat.zero_le _⟩ dX8_letter_116 (fun H locs hP hS _ _ => ?_)
        refine lv_goto (tgt := 145) hx hb dX8_letter_119 (by decide) ?_
        rw [← Option.some.inj h]
        exact wr_vret C hr hlocks hP hS dX8_letter_145
    · rw [if_pos c2] at h
      refine lv_aload_n hx hb dX8_letter_34 rfl (lv_at hl 0 rfl) ?_
      refine gM0_place C hP fl_X8_131 dX8_letter_35 (v := (S.1 15)) rfl ?_
      refine lv_iconst (v := (1 : Int32)) hx hb dX8_letter_38 (by decide) ?_
      refine lv_iadd hx hb dX8_letter_39 ?_
      refine lv_aload_n hx hb dX8_letter_40 rfl (lv_at hl 0 rfl) ?_
      refine gM0_end C hP fl_X8_137 dX8_letter_41 (v := (S.1 16)) rfl ?_
      refine lv_icmp_ge (tgt := 88) hx hb dX8_letter_44 (by decide) (fun c8 => ?_) (fun c8 => ?_)
      · rw [if_pos c8] at h
        refine lv_aload_n hx hb dX8_letter_88 rfl (lv_at hl 0 rfl) ?_
        refine lv_aload_n hx hb dX8_letter_89 rfl (lv_at hl 0 rfl) ?_
        refine gM0_end C hP fl_X8_137 dX8_letter_90 (v := (S.1 16)) rfl ?_
        refine pM0_place C hP (hDA _) hS fl_X8_131 dX8_letter_93 (fun H locs hP hS => ?_)
        refine lv_goto (tgt := 145) hx hb dX8_letter_96 (by decide) ?_
        rw [← Option.some.inj h]
        exact wr_vret C hr hlocks hP hS dX8_letter_145
      · rw [if_neg c8] at h
        refine lv_aload_n hx hb dX8_letter_47 rfl (lv_at hl 0 rfl) ?_
        refine lv_bipush (v := (32 : Int32)) hx hb dX8_letter_48 (by decide) ?_
        refine lv_aload_n hx hb dX8_letter_50 rfl (lv_at hl 0 rfl) ?_
        refine gM0_signs C hP fl_X8_23 dX8_letter_51 ?_
        refine lv_aload_n hx hb dX8_letter_54 rfl (lv_at hl 0 rfl) ?_
        refine gM0_place C hP fl_X8_131 dX8_letter_55 (v := (S.1 15)) rfl ?_
        obtain ⟨_, hg, h⟩ := ob_some h
        refine aM4 C hP (gd_in hg) dX8_letter_58 (v := (S.2 3 (S.1 15).toNatClampNeg)) rfl ?_
        refine lv_imul hx hb dX8_letter_59 ?_
        refine lv_aload_n hx hb dX8_letter_60 rfl (lv_at hl 0 rfl) ?_
        refine gM0_signs C hP fl_X8_23 dX8_letter_61 ?_
        refine lv_aload_n hx hb dX8_letter_64 rfl (lv_at hl 0 rfl) ?_
        refine gM0_place C hP fl_X8_131 dX8_letter_65 (v := (S.1 15)) rfl ?_
        refine lv_iconst (v := (1 : Int32)) hx hb dX8_letter_68 (by decide) ?_
        refine lv_iadd hx hb dX8_letter_69 ?_
        obtain ⟨_, hg, h⟩ := ob_some h
        refine aM4 C hP (gd_in hg) dX8_letter_70 (v := (S.2 3 ((S.1 15) + (1 : Int32)).toNatClampNeg)) rfl ?_
        refine lv_iadd hx hb dX8_letter_71 ?_
        obtain ⟨u9, hhu9, h⟩ := ob_some h
        refine wrV noE_est C hP (hDA _) hA hS hE0 (c_X8_say l D k a _ (((32 : Int32) * (S.2 3 (S.1 15).toNatClampNeg)) + (S.2 3 ((S.1 15) + (1 : Int32)).toNatClampNeg)) u9 hhu9) my_X8_say ml_X8_127 (rM0 C hP) rfl hl.1 (rest := []) rfl (Nat.le_of_ble_eq_true rfl) ⟨rfl, rfl, Nat.le_of_ble_eq_true rfl, Nat.le_of_ble_eq_true rfl⟩ ⟨Nat.zero_le _, Nat.zero_le _⟩ dX8_letter_72 (fun H locs hP hS _ _ => ?_)
        refine lv_aload_n hx hb dX8_letter_75 rfl (lv_at hl 0 rfl) ?_
        refine lv_dup hx hb dX8_letter_76 rfl ?_
        refine gM0_place C hP fl_X8_131 dX8_letter_77 (v := (u9.1 15)) rfl ?_
        refine lv_iconst (v := (2 : Int32)) hx hb dX8_letter_80 (by decide) ?_
        refine lv_iadd hx hb dX8_letter_81 ?_
        refine pM0_place C hP (hDA _) hS fl_X8_131 dX8_letter_82 (fun H locs hP hS => ?_)
        refine lv_goto (tgt := 145) hx hb dX8_letter_85 (by decide) ?_
        rw [← Option.some.inj h]
        exact wr_vret C hr hlocks hP hS dX8_letter_145
  · rw [if_neg c1] at h
    refine lv_aload_n hx hb dX8_letter_5 rfl (lv_at hl 0 rfl) ?_
    refine lv_iload_n hx hb dX8_letter_6 rfl (lv_at hl 2 rfl) ?_
    refine lv_if_ne (tgt := 15) hx hb dX8_letter_7 (by decide) (fun c10 => ?_) (fun c10 => ?_)
    · rw [if_neg c10] at h
      refine lv_bipush (v := (65 : Int32)) hx hb dX8_letter_15 (by decide) ?_
      refine lv_iload_n hx hb dX8_letter_17 rfl (lv_at hl 1 rfl) ?_
      refine lv_iadd hx hb dX8_letter_18 ?_
      refine lv_bipush (v := (6 : Int32)) hx hb dX8_letter_19 (by decide) ?_
      refine lv_isub hx hb dX8_letter_21 ?_
      obtain ⟨u11, hhu11, h⟩ := ob_some h
      refine wrV noE_est C hP (hDA _) hA hS hE0 (c_X8_say l D k a _ (((65 : Int32) + x1) - (6 : Int32)) u11 hhu11) my_X8_say ml_X8_127 (rM0 C hP) rfl hl.1 (rest := []) rfl (Nat.le_of_ble_eq_true rfl) ⟨rfl, rfl, Nat.le_of_ble_eq_true rfl, Nat.le_of_ble_eq_true rfl⟩ ⟨Nat.zero_le _, Nat.zero_le _⟩ dX8_letter_22 (fun H locs hP hS _ _ => ?_)
      refine lv_goto (tgt := 145) hx hb dX8_letter_25 (by decide) ?_
      rw [← Option.some.inj h]
      exact wr_vret C hr hlocks hP hS dX8_letter_145
    · rw [if_pos c10] at h
      refine lv_bipush (v := (97 : Int32)) hx hb dX8_letter_10 (by decide) ?_
      refine lv_goto (tgt := 17) hx hb dX8_letter_12 (by decide) ?_
      refine lv_iload_n hx hb dX8_letter_17 rfl (lv_at hl 1 rfl) ?_
      refine lv_iadd hx hb dX8_letter_18 ?_
      refine lv_bipush (v := (6 : Int32)) hx hb dX8_letter_19 (by decide) ?_
      refine lv_isub hx hb dX8_letter_21 ?_
      obtain ⟨u12, hhu12, h⟩ := ob_some h
      refine wrV noE_est C hP (hDA _) hA hS hE0 (c_X8_say l D k a _ (((97 : Int32) + x1) - (6 : Int32)) u12 hhu12) my_X8_say ml_X8_127 (rM0 C hP) rfl hl.1 (rest := []) rfl (Nat.le_of_ble_eq_true rfl) ⟨rfl, rfl, Nat.le_of_ble_eq_true rfl, Nat.le_of_ble_eq_true rfl⟩ ⟨Nat.zero_le _, Nat.zero_le _⟩ dX8_letter_22 (fun H locs hP hS _ _ => ?_)
      refine lv_goto (tgt := 145) hx hb dX8_letter_25 (by decide) ?_
      rw [← Option.some.inj h]
      exact wr_vret C hr hlocks hP hS dX8_letter_145
def fX8_abbreviation (S : XS) (x1 : Int32) : Option XS := (if (S.1 19) = 0 then (if (4096 : Int32) ≤ (((2 : Int32) * (fX8_word S ((64 : Int32) + ((2 : Int32) * x1)))) - ((2 : Int32) * (fX8_word S ((64 : Int32) + ((2 : Int32) * x1)))) / (65536 : Int32) * (65536 : Int32)) then (ob (fX8_read (pS (pS (pS (pS (pS S 19 (bI true)) 20 (S.1 15)) 21 (S.1 16)) 22 (S.1 17)) 15 (S.1 16)) (S.1 16) (((2 : Int32) * (fX8_word S ((64 : Int32) + ((2 : Int32) * x1)))) - ((2 : Int32) * (fX8_word S ((64 : Int32) + ((2 : Int32) * x1)))) / (65536 : Int32) * (65536 : Int32)) (0 : Int32)) (fun u3 => some (pS (pS (pS u3.2 16 u3.1) 17 (0 : Int32)) 18 (0 : Int32)))) else (ob (fX8_read (pS (pS (pS (pS (pS S 19 (bI true)) 20 (S.1 15)) 21 (S.1 16)) 22 (S.1 17)) 15 (S.1 16)) (S.1 16) (((2 : Int32) * (fX8_word S ((64 : Int32) + ((2 : Int32) * x1)))) - ((2 : Int32) * (fX8_word S ((64 : Int32) + ((2 : Int32) * x1)))) / (65536 : Int32) * (65536 : Int32)) ((((4096 : Int32) - (((2 : Int32) * (fX8_word S ((64 : Int32) + ((2 : Int32) * x1)))) - ((2 : Int32) * (fX8_word S ((64 : Int32) + ((2 : Int32) * x1)))) / (65536 : Int32) * (65536 : Int32))) + (1 : Int32)) / (2 : Int32))) (fun u4 => some (pS (pS (pS u4.2 16 u4.1) 17 (0 : Int32)) 18 (0 : Int32))))) else (ob (fX8_say S (63 : Int32)) (fun u5 => some (u5))))
set_option maxRecDepth 100000 in
set_option maxHeartbeats 4000000 in
theorem c_X8_abbreviation (l : Launch) (D : va_G) (k : Nat → ClassId) (a : Nat → Nat) (S : XS) (x1 : Int32) (u : XS) (h : fX8_abbreviation S x1 = some u) : Wr noE l D (tyk k) (wM k a S) (wM k a u) yX8_abbreviation cX8_abbreviation 3 none (rmm 3 69) [.ref (a 0), .int x1] none := by
  refine wr_start (by decide) (Nat.le_of_ble_eq_true rfl) ?_
  intro p e s m below meth c A C hr hlocks hP hD0 hA hE0 ls hl
  have hDA : ∀ S, va_D A (wM k a S) := wM_D hD0
  have hS : va_S A s.heap s.heap [] := va_S.rf
  have hl : lv_has ls 3 [(0, .ref (a 0)), (1, .int x1)] := hl
  obtain ⟨⟨hx, hb, hml, hown, hts⟩, hK⟩ := id C
  rw [fX8_abbreviation] at h
  refine lv_aload_n hx hb dX8_abbreviation_0 rfl (lv_at hl 0 rfl) ?_
  refine gM0_within C hP fl_X8_124 dX8_abbreviation_1 (v := (S.1 19)) rfl ?_
  refine lv_if_eq (tgt := 14) hx hb dX8_abbreviation_4 (by decide) (fun c1 => ?_) (fun c1 => ?_)
  · rw [if_pos c1] at h
    refine lv_iconst (v := (2 : Int32)) hx hb dX8_abbreviation_14 (by decide) ?_
    refine lv_aload_n hx hb dX8_abbreviation_15 rfl (lv_at hl 0 rfl) ?_
    refine lv_bipush (v := (64 : Int32)) hx hb dX8_abbreviation_16 (by decide) ?_
    refine lv_iconst (v := (2 : Int32)) hx hb dX8_abbreviation_18 (by decide) ?_
    refine lv_iload_n hx hb dX8_abbreviation_19 rfl (lv_at hl 1 rfl) ?_
    refine lv_imul hx hb dX8_abbreviation_20 ?_
    refine lv_iadd hx hb dX8_abbreviation_21 ?_
    refine rdV noE_est C hP (ef noE_est hS hE0) (c_X8_word l D k a _ ((64 : Int32) + ((2 : Int32) * x1))) my_X8_word ml_X8_57 (rM0 C hP) rfl hl.1 (rest := [.int (2 : Int32)]) rfl (Nat.le_of_ble_eq_true rfl) ⟨rfl, rfl, Nat.le_of_ble_eq_true rfl, Nat.le_of_ble_eq_true rfl⟩ ⟨Nat.zero_le _, Nat.zero_le _⟩ dX8_abbreviation_22 ?_
    refine lv_imul hx hb dX8_abbreviation_25 ?_
    refine lv_ldc (v := (65536 : Int32)) hx hb hown (hts _ ct_X8_130) dX8_abbreviation_26 ?_
    refine lv_irem hx hb dX8_abbreviation_28 (by decide) ?_
    refine lv_istore_n (lv' := [(2, .int (((2 : Int32) * (fX8_word S ((64 : Int32) + ((2 : Int32) * x1)))) - ((2 : Int32) * (fX8_word S ((64 : Int32) + ((2 : Int32) * x1)))) / (65536 : Int32) * (65536 : Int32))), (0, .ref (a 0)), (1, .int x1)]) hx hb dX8_abbreviation_29 rfl hl (by decide) rfl (fun ls hl => ?_)
    refine lv_aload_n hx hb dX8_abbreviation_30 rfl (lv_at hl 1 rfl) ?_
    refine lv_iconst (v := (1 : Int32)) hx hb dX8_abbreviation_31 (by decide) ?_
    refine pM0_within (v := true) C hP (hDA _) hS fl_X8_124 dX8_abbreviation_32 (fun H locs hP hS => ?_)
    refine lv_aload_n hx hb dX8_abbreviation_35 rfl (lv_at hl 1 rfl) ?_
    refine lv_aload_n hx hb dX8_abbreviation_36 rfl (lv_at hl 1 rfl) ?_
    refine gM0_place C hP fl_X8_131 dX8_abbreviation_37 (v := (S.1 15)) rfl ?_
    refine pM0_backPlace C hP (hDA _) hS fl_X8_134 dX8_abbreviation_40 (fun H locs hP hS => ?_)
    refine lv_aload_n hx hb dX8_abbreviation_43 rfl (lv_at hl 1 rfl) ?_
    refine lv_aload_n hx hb dX8_abbreviation_44 rfl (lv_at hl 1 rfl) ?_
    refine gM0_end C hP fl_X8_137 dX8_abbreviation_45 (v := (S.1 16)) rfl ?_
    refine pM0_backEnd C hP (hDA _) hS fl_X8_140 dX8_abbreviation_48 (fun H locs hP hS => ?_)
    refine lv_aload_n hx hb dX8_abbreviation_51 rfl (lv_at hl 1 rfl) ?_
    refine lv_aload_n hx hb dX8_abbreviation_52 rfl (lv_at hl 1 rfl) ?_
    refine gM0_hand C hP fl_X8_143 dX8_abbreviation_53 (v := (S.1 17)) rfl ?_
    refine pM0_backHand C hP (hDA _) hS fl_X8_146 dX8_abbreviation_56 (fun H locs hP hS => ?_)
    refine lv_aload_n hx hb dX8_abbreviation_59 rfl (lv_at hl 1 rfl) ?_
    refine lv_aload_n hx hb dX8_abbreviation_60 rfl (lv_at hl 1 rfl) ?_
    refine gM0_end C hP fl_X8_137 dX8_abbreviation_61 (v := (S.1 16)) rfl ?_
    refine pM0_place C hP (hDA _) hS fl_X8_131 dX8_abbreviation_64 (fun H locs hP hS => ?_)
    refine lv_aload_n hx hb dX8_abbreviation_67 rfl (lv_at hl 1 rfl) ?_
    refine lv_aload_n hx hb dX8_abbreviation_68 rfl (lv_at hl 1 rfl) ?_
    refine lv_aload_n hx hb dX8_abbreviation_69 rfl (lv_at hl 1 rfl) ?_
    refine gM0_end C hP fl_X8_137 dX8_abbreviation_70 (v := (S.1 16)) rfl ?_
    refine lv_iload_n hx hb dX8_abbreviation_73 rfl (lv_at hl 0 rfl) ?_
    refine lv_iload_n hx hb dX8_abbreviation_74 rfl (lv_at hl 0 rfl) ?_
    refine lv_sipush (v := (4096 : Int32)) hx hb dX8_abbreviation_75 (by decide) ?_
    refine lv_icmp_ge (tgt := 93) hx hb dX8_abbreviation_78 (by decide) (fun c2 => ?_) (fun c2 => ?_)
    · rw [if_pos c2] at h
      refine lv_iconst (v := (0 : Int32)) hx hb dX8_abbreviation_93 (by decide) ?_
      obtain ⟨u3, hhu3, h⟩ := ob_some h
      refine wrV noE_est C hP (hDA _) hA hS hE0 (c_X8_read l D k a _ (S.1 16) (((2 : Int32) * (fX8_word S ((64 : Int32) + ((2 : Int32) * x1)))) - ((2 : Int32) * (fX8_word S ((64 : Int32) + ((2 : Int32) * x1)))) / (65536 : Int32) * (65536 : Int32)) (0 : Int32) u3 hhu3) my_X8_read ml_X8_149 (rM0 C hP) rfl hl.1 (rest := [.ref (a 0)]) rfl (Nat.le_of_ble_eq_true rfl) ⟨rfl, rfl, Nat.le_of_ble_eq_true rfl, Nat.le_of_ble_eq_true rfl⟩ ⟨Nat.zero_le _, Nat.zero_le _⟩ dX8_abbreviation_94 (fun H locs hP hS _ _ => ?_)
      refine pM0_end C hP (hDA _) hS fl_X8_137 dX8_abbreviation_97 (fun H locs hP hS => ?_)
      refine lv_aload_n hx hb dX8_abbreviation_100 rfl (lv_at hl 1 rfl) ?_
      refine lv_iconst (v := (0 : Int32)) hx hb dX8_abbreviation_101 (by decide) ?_
      refine pM0_hand C hP (hDA _) hS fl_X8_143 dX8_abbreviation_102 (fun H locs hP hS => ?_)
      refine lv_aload_n hx hb dX8_abbreviation_105 rfl (lv_at hl 1 rfl) ?_
      refine lv_iconst (v := (0 : Int32)) hx hb dX8_abbreviation_106 (by decide) ?_
      refine pM0_shift C hP (hDA _) hS fl_X8_153 dX8_abbreviation_107 (fun H locs hP hS => ?_)
      rw [← Option.some.inj h]
      exact wr_vret C hr hlocks hP hS dX8_abbreviation_110
    · rw [if_neg c2] at h
      refine lv_sipush (v := (4096 : Int32)) hx hb dX8_abbreviation_81 (by decide) ?_
      refine lv_iload_n hx hb dX8_abbreviation_84 rfl (lv_at hl 0 rfl) ?_
      refine lv_isub hx hb dX8_abbreviation_85 ?_
      refine lv_iconst (v := (1 : Int32)) hx hb dX8_abbreviation_86 (by decide) ?_
      refine lv_iadd hx hb dX8_abbreviation_87 ?_
      refine lv_iconst (v := (2 : Int32)) hx hb dX8_abbreviation_88 (by decide) ?_
      refine lv_idiv hx hb dX8_abbreviation_89 (by decide) ?_
      refine lv_goto (tgt := 94) hx hb dX8_abbreviation_90 (by decide) ?_
      obtain ⟨u4, hhu4, h⟩ := ob_some h
      refine wrV noE_est C hP (hDA _) hA hS hE0 (c_X8_read l D k a _ (S.1 16) (((2 : Int32) * (fX8_word S ((64 : Int32) + ((2 : Int32) * x1)))) - ((2 : Int32) * (fX8_word S ((64 : Int32) + ((2 : Int32) * x1)))) / (65536 : Int32) * (65536 : Int32)) ((((4096 : Int32) - (((2 : Int32) * (fX8_word S ((64 : Int32) + ((2 : Int32) * x1)))) - ((2 : Int32) * (fX8_word S ((64 : Int32) + ((2 : Int32) * x1)))) / (65536 : Int32) * (65536 : Int32))) + (1 : Int32)) / (2 : Int32)) u4 hhu4) my_X8_read ml_X8_149 (rM0 C hP) rfl hl.1 (rest := [.ref (a 0)]) rfl (Nat.le_of_ble_eq_true rfl) ⟨rfl, rfl, Nat.le_of_ble_eq_true rfl, Nat.le_of_ble_eq_true rfl⟩ ⟨Nat.zero_le _, Nat.zero_le _⟩ dX8_abbreviation_94 (fun H locs hP hS _ _ => ?_)
      refine pM0_end C hP (hDA _) hS fl_X8_137 dX8_abbreviation_97 (fun H locs hP hS => ?_)
      refine lv_aload_n hx hb dX8_abbreviation_100 rfl (lv_at hl 1 rfl) ?_
      refine lv_iconst (v := (0 : Int32)) hx hb dX8_abbreviation_101 (by decide) ?_
      refine pM0_hand C hP (hDA _) hS fl_X8_143 dX8_abbreviation_102 (fun H locs hP hS => ?_)
      refine lv_aload_n hx hb dX8_abbreviation_105 rfl (lv_at hl 1 rfl) ?_
      refine lv_iconst (v := (0 : Int32)) hx hb dX8_abbreviation_106 (by decide) ?_
      refine pM0_shift C hP (hDA _) hS fl_X8_153 dX8_abbreviation_107 (fun H locs hP hS => ?_)
      rw [← Option.some.inj h]
      exact wr_vret C hr hlocks hP hS dX8_abbreviation_110
  · rw [if_neg c1] at h
    refine lv_aload_n hx hb dX8_abbreviation_7 rfl (lv_at hl 0 rfl) ?_
    refine lv_bipush (v := (63 : Int32)) hx hb dX8_abbreviation_8 (by decide) ?_
    obtain ⟨u5, hhu5, h⟩ := ob_some h
    refine wrV noE_est C hP (hDA _) hA hS hE0 (c_X8_say l D k a _ (63 : Int32) u5 hhu5) my_X8_say ml_X8_127 (rM0 C hP) rfl hl.1 (rest := []) rfl (Nat.le_of_ble_eq_true rfl) ⟨rfl, rfl, Nat.le_of_ble_eq_true rfl, Nat.le_of_ble_eq_true rfl⟩ ⟨Nat.zero_le _, Nat.zero_le _⟩ dX8_abbreviation_10 (fun H locs hP hS _ _ => ?_)
    rw [← Option.some.inj h]
    exact wr_vret C hr hlocks hP hS dX8_abbreviation_13
def fX8_sign (S : XS) (x1 : Int32) : Option XS := (if x1 = 0 then (ob (fX8_say (pS S 18 (0 : Int32)) (32 : Int32)) (fun u7 => some (u7))) else (if (4 : Int32) ≤ x1 then (if (6 : Int32) ≤ x1 then (ob (fX8_letter (pS S 18 (0 : Int32)) x1 (S.1 18)) (fun u4 => some (u4))) else some (pS (pS S 18 (0 : Int32)) 18 (x1 - (3 : Int32)))) else (if (S.1 16) ≤ (S.1 15) then some (pS S 18 (0 : Int32)) else (ob (gd (S.1 15) 9000) (fun _ => (ob (fX8_abbreviation (pS (pS S 18 (0 : Int32)) 15 ((S.1 15) + (1 : Int32))) (((32 : Int32) * (x1 - (1 : Int32))) + (S.2 3 (S.1 15).toNatClampNeg))) (fun u6 => some (u6))))))))
set_option maxRecDepth 100000 in
set_option maxHeartbeats 4000000 in
theorem c_X8_sign (l : Launch) (D : va_G) (k : Nat → ClassId) (a : Nat → Nat) (S : XS) (x1 : Int32) (u : XS) (h : fX8_sign S x1 = some u) : Wr noE l D (tyk k) (wM k a S) (wM k a u) yX8_sign cX8_sign 4 none (rmm 4 91) [.ref (a 0), .int x1] none := by
  refine wr_start (by decide) (Nat.le_of_ble_eq_true rfl) ?_
  intro p e s m below meth c A C hr hlocks hP hD0 hA hE0 ls hl
  have hDA : ∀ S, va_D A (wM k a S) := wM_D hD0
  have hS : va_S A s.heap s.heap [] := va_S.rf
  have hl : lv_has ls 4 [(0, .ref (a 0)), (1, .int x1)] := hl
  obtain ⟨⟨hx, hb, hml, hown, hts⟩, hK⟩ := id C
  rw [fX8_sign] at h
  refine lv_aload_n hx hb dX8_sign_0 rfl (lv_at hl 0 rfl) ?_
  refine gM0_shift C hP fl_X8_153 dX8_sign_1 (v := (S.1 18)) rfl ?_
  refine lv_istore_n (lv' := [(2, .int (S.1 18)), (0, .ref (a 0)), (1, .int x1)]) hx hb dX8_sign_4 rfl hl (by decide) rfl (fun ls hl => ?_)
  refine lv_aload_n hx hb dX8_sign_5 rfl (lv_at hl 1 rfl) ?_
  refine lv_iconst (v := (0 : Int32)) hx hb dX8_sign_6 (by decide) ?_
  refine pM0_shift C hP (hDA _) hS fl_X8_153 dX8_sign_7 (fun H locs hP hS => ?_)
  refine lv_iload_n hx hb dX8_sign_10 rfl (lv_at hl 2 rfl) ?_
  refine lv_if_ne (tgt := 23) hx hb dX8_sign_11 (by decide) (fun c1 => ?_) (fun c1 => ?_)
  · rw [if_neg c1] at h
    refine lv_iload_n hx hb dX8_sign_23 rfl (lv_at hl 2 rfl) ?_
    refine lv_iconst (v := (4 : Int32)) hx hb dX8_sign_24 (by decide) ?_
    refine lv_icmp_ge (tgt := 74) hx hb dX8_sign_25 (by decide) (fun c2 => ?_) (fun c2 => ?_)
    · rw [if_pos c2] at h
      refine lv_iload_n hx hb dX8_sign_74 rfl (lv_at hl 2 rfl) ?_
      refine lv_bipush (v := (6 : Int32)) hx hb dX8_sign_75 (by decide) ?_
      refine lv_icmp_ge (tgt := 90) hx hb dX8_sign_77 (by decide) (fun c3 => ?_) (fun c3 => ?_)
      · rw [if_pos c3] at h
        refine lv_aload_n hx hb dX8_sign_90 rfl (lv_at hl 1 rfl) ?_
        refine lv_iload_n hx hb dX8_sign_91 rfl (lv_at hl 2 rfl) ?_
        refine lv_iload_n hx hb dX8_sign_92 rfl (lv_at hl 0 rfl) ?_
        obtain ⟨u4, hhu4, h⟩ := ob_some h
        refine wrV noE_est C hP (hDA _) hA hS hE0 (c_X8_letter l D k a _ x1 (S.1 18) u4 hhu4) my_X8_letter ml_X8_165 (rM0 C hP) rfl hl.1 (rest := []) rfl (Nat.le_of_ble_eq_true rfl) ⟨rfl, rfl, Nat.le_of_ble_eq_true rfl, Nat.le_of_ble_eq_true rfl⟩ ⟨Nat.zero_le _, Nat.zero_le _⟩ dX8_sign_93 (fun H locs hP hS _ _ => ?_)
        rw [← Option.some.inj h]
        exact wr_vret C hr hlocks hP hS dX8_sign_96
      · rw [if_neg c3] at h
        refine lv_aload_n hx hb dX8_sign_80 rfl (lv_at hl 1 rfl) ?_
        refine lv_iload_n hx hb dX8_sign_81 rfl (lv_at hl 2 rfl) ?_
        refine lv_iconst (v := (3 : Int32)) hx hb dX8_sign_82 (by decide) ?_
        refine lv_isub hx hb dX8_sign_83 ?_
        refine pM0_shift C hP (hDA _) hS fl_X8_153 dX8_sign_84 (fun H locs hP hS => ?_)
        refine lv_goto (tgt := 96) hx hb dX8_sign_87 (by decide) ?_
        rw [← Option.some.inj h]
        exact wr_vret C hr hlocks hP hS dX8_sign_96
    · rw [if_neg c2] at h
      refine lv_aload_n hx hb dX8_sign_28 rfl (lv_at hl 1 rfl) ?_
      refine gM0_place C hP fl_X8_131 dX8_sign_29 (v := (S.1 15)) rfl ?_
      refine lv_aload_n hx hb dX8_sign_32 rfl (lv_at hl 1 rfl) ?_
      refine gM0_end C hP fl_X8_137 dX8_sign_33 (v := (S.1 16)) rfl ?_
      refine lv_icmp_ge (tgt := 96) hx hb dX8_sign_36 (by decide) (fun c5 => ?_) (fun c5 => ?_)
      · rw [if_pos c5] at h
        rw [← Option.some.inj h]
        exact wr_vret C hr hlocks hP hS dX8_sign_96
      · rw [if_neg c5] at h
        refine lv_aload_n hx hb dX8_sign_39 rfl (lv_at hl 1 rfl) ?_
        refine gM0_signs C hP fl_X8_23 dX8_sign_40 ?_
        refine lv_aload_n hx hb dX8_sign_43 rfl (lv_at hl 1 rfl) ?_
        refine gM0_place C hP fl_X8_131 dX8_sign_44 (v := (S.1 15)) rfl ?_
        obtain ⟨_, hg, h⟩ := ob_some h
        refine aM4 C hP (gd_in hg) dX8_sign_47 (v := (S.2 3 (S.1 15).toNatClampNeg)) rfl ?_
        refine lv_istore_n (lv' := [(3, .int (S.2 3 (S.1 15).toNatClampNeg)), (2, .int (S.1 18)), (0, .ref (a 0)), (1, .int x1)]) hx hb dX8_sign_48 rfl hl (by decide) rfl (fun ls hl => ?_)
        refine lv_aload_n hx hb dX8_sign_49 rfl (lv_at hl 2 rfl) ?_
        refine lv_dup hx hb dX8_sign_50 rfl ?_
        refine gM0_place C hP fl_X8_131 dX8_sign_51 (v := (S.1 15)) rfl ?_
        refine lv_iconst (v := (1 : Int32)) hx hb dX8_sign_54 (by decide) ?_
        refine lv_iadd hx hb dX8_sign_55 ?_
        refine pM0_place C hP (hDA _) hS fl_X8_131 dX8_sign_56 (fun H locs hP hS => ?_)
        refine lv_aload_n hx hb dX8_sign_59 rfl (lv_at hl 2 rfl) ?_
        refine lv_bipush (v := (32 : Int32)) hx hb dX8_sign_60 (by decide) ?_
        refine lv_iload_n hx hb dX8_sign_62 rfl (lv_at hl 3 rfl) ?_
        refine lv_iconst (v := (1 : Int32)) hx hb dX8_sign_63 (by decide) ?_
        refine lv_isub hx hb dX8_sign_64 ?_
        refine lv_imul hx hb dX8_sign_65 ?_
        refine lv_iload_n hx hb dX8_sign_66 rfl (lv_at hl 0 rfl) ?_
        refine lv_iadd hx hb dX8_sign_67 ?_
        obtain ⟨u6, hhu6, h⟩ := ob_some h
        refine wrV noE_est C hP (hDA _) hA hS hE0 (c_X8_abbreviation l D k a _ (((32 : Int32) * (x1 - (1 : Int32))) + (S.2 3 (S.1 15).toNatClampNeg)) u6 hhu6) my_X8_abbreviation ml_X8_162 (rM0 C hP) rfl hl.1 (rest := []) rfl (Nat.le_of_ble_eq_true rfl) ⟨rfl, rfl, Nat.le_of_ble_eq_true rfl, Nat.le_of_ble_eq_true rfl⟩ ⟨Nat.zero_le _, Nat.zero_le _⟩ dX8_sign_68 (fun H locs hP hS _ _ => ?_)
        refine lv_goto (tgt := 96) hx hb dX8_sign_71 (by decide) ?_
        rw [← Option.some.inj h]
        exact wr_vret C hr hlocks hP hS dX8_sign_96
  · rw [if_pos c1] at h
    refine lv_aload_n hx hb dX8_sign_14 rfl (lv_at hl 1 rfl) ?_
    refine lv_bipush (v := (32 : Int32)) hx hb dX8_sign_15 (by decide) ?_
    obtain ⟨u7, hhu7, h⟩ := ob_some h
    refine wrV noE_est C hP (hDA _) hA hS hE0 (c_X8_say l D k a _ (32 : Int32) u7 hhu7) my_X8_say ml_X8_127 (rM0 C hP) rfl hl.1 (rest := []) rfl (Nat.le_of_ble_eq_true rfl) ⟨rfl, rfl, Nat.le_of_ble_eq_true rfl, Nat.le_of_ble_eq_true rfl⟩ ⟨Nat.zero_le _, Nat.zero_le _⟩ dX8_sign_17 (fun H locs hP hS _ _ => ?_)
    refine lv_goto (tgt := 96) hx hb dX8_sign_20 (by decide) ?_
    rw [← Option.some.inj h]
    exact wr_vret C hr hlocks hP hS dX8_sign_96
def fX8_elderSign (S : XS) (x1 : Int32) : Option XS := (if x1 = 0 then (ob (fX8_say (pS S 18 (0 : Int32)) (32 : Int32)) (fun u12 => some (u12))) else (if x1 = (1 : Int32) then (if (S.1 1) = (1 : Int32) then (ob (fX8_say (pS S 18 (0 : Int32)) (13 : Int32)) (fun u11 => some (u11))) else (if (S.1 16) ≤ (S.1 15) then some (pS S 18 (0 : Int32)) else (ob (gd (S.1 15) 9000) (fun _ => (ob (fX8_abbreviation (pS (pS S 18 (0 : Int32)) 15 ((S.1 15) + (1 : Int32))) (S.2 3 (S.1 15).toNatClampNeg)) (fun u10 => some (u10))))))) else (if (4 : Int32) ≤ x1 then (if (6 : Int32) ≤ x1 then (ob (fX8_letter (pS S 18 (0 : Int32)) x1 (((S.1 17) + (S.1 18)) - ((S.1 17) + (S.1 18)) / (3 : Int32) * (3 : Int32))) (fun u6 => some (u6))) else some (pS (pS S 18 (0 : Int32)) 17 ((((S.1 17) + x1) - (3 : Int32)) - (((S.1 17) + x1) - (3 : Int32)) / (3 : Int32) * (3 : Int32)))) else some (pS (pS S 18 (0 : Int32)) 18 (x1 - (1 : Int32))))))
set_option maxRecDepth 100000 in
set_option maxHeartbeats 4000000 in
theorem c_X8_elderSign (l : Launch) (D : va_G) (k : Nat → ClassId) (a : Nat → Nat) (S : XS) (x1 : Int32) (u : XS) (h : fX8_elderSign S x1 = some u) : Wr noE l D (tyk k) (wM k a S) (wM k a u) yX8_elderSign cX8_elderSign 4 none (rmm 4 91) [.ref (a 0), .int x1] none := by
  refine wr_start (by decide) (Nat.le_of_ble_eq_true rfl) ?_
  intro p e s m below meth c A C hr hlocks hP hD0 hA hE0 ls hl
  have hDA : ∀ S, va_D A (wM k a S) := wM_D hD0
  have hS : va_S A s.heap s.heap [] := va_S.rf
  have hl : lv_has ls 4 [(0, .ref (a 0)), (1, .int x1)] := hl
  obtain ⟨⟨hx, hb, hml, hown, hts⟩, hK⟩ := id C
  rw [fX8_elderSign] at h
  refine lv_aload_n hx hb dX8_elderSign_0 rfl (lv_at hl 0 rfl) ?_
  refine gM0_hand C hP fl_X8_143 dX8_elderSign_1 (v := (S.1 17)) rfl ?_
  refine lv_aload_n hx hb dX8_elderSign_4 rfl (lv_at hl 0 rfl) ?_
  refine gM0_shift C hP fl_X8_153 dX8_elderSign_5 (v := (S.1 18)) rfl ?_
  refine lv_iadd hx hb dX8_elderSign_8 ?_
  refine lv_iconst (v := (3 : Int32)) hx hb dX8_elderSign_9 (by decide) ?_
  refine lv_irem hx hb dX8_elderSign_10 (by decide) ?_
  refine lv_istore_n (lv' := [(2, .int (((S.1 17) + (S.1 18)) - ((S.1 17) + (S.1 18)) / (3 : Int32) * (3 : Int32))), (0, .ref (a 0)), (1, .int x1)]) hx hb dX8_elderSign_11 rfl hl (by decide) rfl (fun ls hl => ?_)
  refine lv_aload_n hx hb dX8_elderSign_12 rfl (lv_at hl 1 rfl) ?_
  refine lv_iconst (v := (0 : Int32)) hx hb dX8_elderSign_13 (by decide) ?_
  refine pM0_shift C hP (hDA _) hS fl_X8_153 dX8_elderSign_14 (fun H locs hP hS => ?_)
  refine lv_iload_n hx hb dX8_elderSign_17 rfl (lv_at hl 2 rfl) ?_
  refine lv_if_ne (tgt := 30) hx hb dX8_elderSign_18 (by decide) (fun c1 => ?_) (fun c1 => ?_)
  · rw [if_neg c1] at h
    refine lv_iload_n hx hb dX8_elderSign_30 rfl (lv_at hl 2 rfl) ?_
    refine lv_iconst (v := (1 : Int32)) hx hb dX8_elderSign_31 (by decide) ?_
    refine lv_icmp_ne (tgt := 52) hx hb dX8_elderSign_32 (by decide) (fun c2 => ?_) (fun c2 => ?_)
    · rw [if_neg c2] at h
      refine lv_iload_n hx hb dX8_elderSign_52 rfl (lv_at hl 2 rfl) ?_
      refine lv_iconst (v := (1 : Int32)) hx hb dX8_elderSign_53 (by decide) ?_
      refine lv_icmp_ne (tgt := 96) hx hb dX8_elderSign_54 (by decide) (fun c3 => ?_) (fun c3 => ?_)
      · refine lv_iload_n hx hb dX8_elderSign_96 rfl (lv_at hl 2 rfl) ?_
        refine lv_iconst (v := (4 : Int32)) hx hb dX8_elderSign_97 (by decide) ?_
        refine lv_icmp_ge (tgt := 111) hx hb dX8_elderSign_98 (by decide) (fun c4 => ?_) (fun c4 => ?_)
        · rw [if_pos c4] at h
          refine lv_iload_n hx hb dX8_elderSign_111 rfl (lv_at hl 2 rfl) ?_
          refine lv_bipush (v := (6 : Int32)) hx hb dX8_elderSign_112 (by decide) ?_
          refine lv_icmp_ge (tgt := 134) hx hb dX8_elderSign_114 (by decide) (fun c5 => ?_) (fun c5 => ?_)
          · rw [if_pos c5] at h
            refine lv_aload_n hx hb dX8_elderSign_134 rfl (lv_at hl 1 rfl) ?_
            refine lv_iload_n hx hb dX8_elderSign_135 rfl (lv_at hl 2 rfl) ?_
            refine lv_iload_n hx hb dX8_elderSign_136 rfl (lv_at hl 0 rfl) ?_
            obtain ⟨u6, hhu6, h⟩ := ob_some h
            refine wrV noE_est C hP (hDA _) hA hS hE0 (c_X8_letter l D k a _ x1 (((S.1 17) + (S.1 18)) - ((S.1 17) + (S.1 18)) / (3 : Int32) * (3 : Int32)) u6 hhu6) my_X8_letter ml_X8_165 (rM0 C hP) rfl hl.1 (rest := []) rfl (Nat.le_of_ble_eq_true rfl) ⟨rfl, rfl, Nat.le_of_ble_eq_true rfl, Nat.le_of_ble_eq_true rfl⟩ ⟨Nat.zero_le _, Nat.zero_le _⟩ dX8_elderSign_137 (fun H locs hP hS _ _ => ?_)
            rw [← Option.some.inj h]
            exact wr_vret C hr hlocks hP hS dX8_elderSign_140
          · rw [if_neg c5] at h
            refine lv_aload_n hx hb dX8_elderSign_117 rfl (lv_at hl 1 rfl) ?_
            refine lv_aload_n hx hb dX8_elderSign_118 rfl (lv_at hl 1 rfl) ?_
            refine gM0_hand C hP fl_X8_143 dX8_elderSign_119 (v := (S.1 17)) rfl ?_
            refine lv_iload_n hx hb dX8_elderSign_122 rfl (lv_at hl 2 rfl) ?_
            refine lv_iadd hx hb dX8_elderSign_123 ?_
            refine lv_iconst (v := (3 : Int32)) hx hb dX8_elderSign_124 (by decide) ?_
            refine lv_isub hx hb dX8_elderSign_125 ?_
            refine lv_iconst (v := (3 : Int32)) hx hb dX8_elderSign_126 (by decide) ?_
            refine lv_irem hx hb dX8_elderSign_127 (by decide) ?_
            refine pM0_hand C hP (hDA _) hS fl_X8_143 dX8_elderSign_128 (fun H locs hP hS => ?_)
            refine lv_goto (tgt := 140) hx hb dX8_elderSign_131 (by decide) ?_
            rw [← Option.some.inj h]
            exact wr_vret C hr hlocks hP hS dX8_elderSign_140
        · rw [if_neg c4] at h
          refine lv_aload_n hx hb dX8_elderSign_101 rfl (lv_at hl 1 rfl) ?_
          refine lv_iload_n hx hb dX8_elderSign_102 rfl (lv_at hl 2 rfl) ?_
          refine lv_iconst (v := (1 : Int32)) hx hb dX8_elderSign_103 (by decide) ?_
          refine lv_isub hx hb dX8_elderSign_104 ?_
          refine pM0_shift C hP (hDA _) hS fl_X8_153 dX8_elderSign_105 (fun H locs hP hS => ?_)
          refine lv_goto (tgt := 140) hx hb dX8_elderSign_108 (by decide) ?_
          rw [← Option.some.inj h]
          exact wr_vret C hr hlocks hP hS dX8_elderSign_140
      · exact absurd c3 c2
    · rw [if_pos c2] at h
      refine lv_aload_n hx hb dX8_elderSign_35 rfl (lv_at hl 1 rfl) ?_
      refine gM0_version C hP fl_X8_36 dX8_elderSign_36 (v := (S.1 1)) rfl ?_
      refine lv_iconst (v := (1 : Int32)) hx hb dX8_elderSign_39 (by decide) ?_
      refine lv_icmp_ne (tgt := 52) hx hb dX8_elderSign_40 (by decide) (fun c7 => ?_) (fun c7 => ?_)
      · rw [if_neg c7] at h
        refine lv_iload_n hx hb dX8_elderSign_52 rfl (lv_at hl 2 rfl) ?_
        refine lv_iconst (v := (1 : Int32)) hx hb dX8_elderSign_53 (by decide) ?_
        refine lv_icmp_ne (tgt := 96) hx hb dX8_elderSign_54 (by decide) (fun c8 => ?_) (fun c8 => ?_)
        · exact absurd c2 c8
        · refine lv_aload_n hx hb dX8_elderSign_57 rfl (lv_at hl 1 rfl) ?_
          refine gM0_place C hP fl_X8_131 dX8_elderSign_58 (v := (S.1 15)) rfl ?_
          refine lv_aload_n hx hb dX8_elderSign_61 rfl (lv_at hl 1 rfl) ?_
          refine gM0_end C hP fl_X8_137 dX8_elderSign_62 (v := (S.1 16)) rfl ?_
          refine lv_icmp_ge (tgt := 140) hx hb dX8_elderSign_65 (by decide) (fun c9 => ?_) (fun c9 => ?_)
          · rw [if_pos c9] at h
            rw [← Option.some.inj h]
            exact wr_vret C hr hlocks hP hS dX8_elderSign_140
          · rw [if_neg c9] at h
            refine lv_aload_n hx hb dX8_elderSign_68 rfl (lv_at hl 1 rfl) ?_
            refine gM0_signs C hP fl_X8_23 dX8_elderSign_69 ?_
            refine lv_aload_n hx hb dX8_elderSign_72 rfl (lv_at hl 1 rfl) ?_
            refine gM0_place C hP fl_X8_131 dX8_elderSign_73 (v := (S.1 15)) rfl ?_
            obtain ⟨_, hg, h⟩ := ob_some h
            refine aM4 C hP (gd_in hg) dX8_elderSign_76 (v := (S.2 3 (S.1 15).toNatClampNeg)) rfl ?_
            refine lv_istore_n (lv' := [(3, .int (S.2 3 (S.1 15).toNatClampNeg)), (2, .int (((S.1 17) + (S.1 18)) - ((S.1 17) + (S.1 18)) / (3 : Int32) * (3 : Int32))), (0, .ref (a 0)), (1, .int x1)]) hx hb dX8_elderSign_77 rfl hl (by decide) rfl (fun ls hl => ?_)
            refine lv_aload_n hx hb dX8_elderSign_78 rfl (lv_at hl 2 rfl) ?_
            refine lv_dup hx hb dX8_elderSign_79 rfl ?_
            refine gM0_place C hP fl_X8_131 dX8_elderSign_80 (v := (S.1 15)) rfl ?_
            refine lv_iconst (v := (1 : Int32)) hx hb dX8_elderSign_83 (by decide) ?_
            refine lv_iadd hx hb dX8_elderSign_84 ?_
            refine pM0_place C hP (hDA _) hS fl_X8_131 dX8_elderSign_85 (fun H locs hP hS => ?_)
            refine lv_aload_n hx hb dX8_elderSign_88 rfl (lv_at hl 2 rfl) ?_
            refine lv_iload_n hx hb dX8_elderSign_89 rfl (lv_at hl 0 rfl) ?_
            obtain ⟨u10, hhu10, h⟩ := ob_some h
            refine wrV noE_est C hP (hDA _) hA hS hE0 (c_X8_abbreviation l D k a _ (S.2 3 (S.1 15).toNatClampNeg) u10 hhu10) my_X8_abbreviation ml_X8_162 (rM0 C hP) rfl hl.1 (rest := []) rfl (Nat.le_of_ble_eq_true rfl) ⟨rfl, rfl, Nat.le_of_ble_eq_true rfl, Nat.le_of_ble_eq_true rfl⟩ ⟨Nat.zero_le _, Nat.zero_le _⟩ dX8_elderSign_90 (fun H locs hP hS _ _ => ?_)
            refine lv_goto (tgt := 140) hx hb dX8_elderSign_93 (by decide) ?_
            rw [← Option.some.inj h]
            exact wr_vret C hr hlocks hP hS dX8_elderSign_140
      · rw [if_pos c7] at h
        refine lv_aload_n hx hb dX8_elderSign_43 rfl (lv_at hl 1 rfl) ?_
        refine lv_bipush (v := (13 : Int32)) hx hb dX8_elderSign_44 (by decide) ?_
        obtain ⟨u11, hhu11, h⟩ := ob_some h
        refine wrV noE_est C hP (hDA _) hA hS hE0 (c_X8_say l D k a _ (13 : Int32) u11 hhu11) my_X8_say ml_X8_127 (rM0 C hP) rfl hl.1 (rest := []) rfl (Nat.le_of_ble_eq_true rfl) ⟨rfl, rfl, Nat.le_of_ble_eq_true rfl, Nat.le_of_ble_eq_true rfl⟩ ⟨Nat.zero_le _, Nat.zero_le _⟩ dX8_elderSign_46 (fun H locs hP hS _ _ => ?_)
        refine lv_goto (tgt := 140) hx hb dX8_elderSign_49 (by decide) ?_
        rw [← Option.some.inj h]
        exact wr_vret C hr hlocks hP hS dX8_elderSign_140
  · rw [if_pos c1] at h
    refine lv_aload_n hx hb dX8_elderSign_21 rfl (lv_at hl 1 rfl) ?_
    refine lv_bipush (v := (32 : Int32)) hx hb dX8_elderSign_22 (by decide) ?_
    obtain ⟨u12, hhu12, h⟩ := ob_some h
    refine wrV noE_est C hP (hDA _) hA hS hE0 (c_X8_say l D k a _ (32 : Int32) u12 hhu12) my_X8_say ml_X8_127 (rM0 C hP) rfl hl.1 (rest := []) rfl (Nat.le_of_ble_eq_true rfl) ⟨rfl, rfl, Nat.le_of_ble_eq_true rfl, Nat.le_of_ble_eq_true rfl⟩ ⟨Nat.zero_le _, Nat.zero_le _⟩ dX8_elderSign_24 (fun H locs hP hS _ _ => ?_)
    refine lv_goto (tgt := 140) hx hb dX8_elderSign_27 (by decide) ?_
    rw [← Option.some.inj h]
    exact wr_vret C hr hlocks hP hS dX8_elderSign_140
def fX8_decode_L : Nat → XS → Int32 → Int32 → Option XS
  | 0, _, _, _ => none
  | n + 1, S, y1, y2 => (if (S.1 15) < (S.1 16) then (ob (gd (S.1 15) 9000) (fun _ => (if (S.1 1) ≤ (2 : Int32) then (ob (fX8_elderSign (pS S 15 ((S.1 15) + (1 : Int32))) (S.2 3 (S.1 15).toNatClampNeg)) (fun u5 => (fX8_decode_L n u5 y1 y2))) else (ob (fX8_sign (pS S 15 ((S.1 15) + (1 : Int32))) (S.2 3 (S.1 15).toNatClampNeg)) (fun u6 => (fX8_decode_L n u6 y1 y2)))))) else (if (S.1 19) = 0 then some (S) else (fX8_decode_L n (pS (pS (pS (pS (pS S 19 (bI false)) 15 (S.1 20)) 16 (S.1 21)) 17 (S.1 22)) 18 (0 : Int32)) y1 y2)))
def fX8_decode (S : XS) (x1 : Int32) : Option XS := (ob (fX8_read (pS (pS S 13 (0 : Int32)) 15 (0 : Int32)) (0 : Int32) ((fX8_word S (fX8_tableAt S x1)) + (1 : Int32)) (fX8_at (pS (pS S 13 (0 : Int32)) 15 (0 : Int32)) (fX8_word S (fX8_tableAt S x1)))) (fun u1 => (fX8_decode_L 3000000 (pS (pS (pS (pS u1.2 16 u1.1) 17 (0 : Int32)) 18 (0 : Int32)) 19 (bI false)) x1 (fX8_word S (fX8_tableAt S x1)))))
set_option maxRecDepth 100000 in
set_option maxHeartbeats 4000000 in
theorem c_X8_decode (l : Launch) (D : va_G) (k : Nat → ClassId) (a : Nat → Nat) (S : XS) (x1 : Int32) (u : XS) (h : fX8_decode S x1 = some u) : Wr noE l D (tyk k) (wM k a S) (wM k a u) yX8_decode cX8_decode 4 none (rmm 5 114) [.ref (a 0), .int x1] none := by
  refine wr_start (by decide) (Nat.le_of_ble_eq_true rfl) ?_
  intro p e s m below meth c A C hr hlocks hP hD0 hA hE0 ls hl
  have hDA : ∀ S, va_D A (wM k a S) := wM_D hD0
  have hS : va_S A s.heap s.heap [] := va_S.rf
  have hl : lv_has ls 4 [(0, .ref (a 0)), (1, .int x1)] := hl
  obtain ⟨⟨hx, hb, hml, hown, hts⟩, hK⟩ := id C
  have L : ∀ n : Nat, ∀ (S : XS) (y1 : Int32) (y2 : Int32) (H : Heap) (locs : List Loc) (ls : Array Slot), va_P D vwCl (wM k a S) H → va_S A s.heap H locs → lv_has ls 4 [(0, .ref (a 0)), (1, .int y1), (2, .int y2)] → fX8_decode_L n S y1 y2 = some u → W p l e (rmm 5 114) s m ([.ref (a 0), .int x1] : List Value).toArray below meth c H locs 0 0 (MQ below (Qw D (wM k a u) none A) ([.ref (a 0), .int x1] : List Value).toArray s 0 0 A) (F0 m 52 ls []) := by
    intro n
    induction n with
    | zero => intro S y1 y2 H locs ls hP hS hl h; cases h
    | succ n ih =>
      intro S y1 y2 H locs ls hP hS hl h
      rw [fX8_decode_L] at h
      refine lv_aload_n hx hb dX8_decode_52 rfl (lv_at hl 0 rfl) ?_
      refine gM0_place C hP fl_X8_131 dX8_decode_53 (v := (S.1 15)) rfl ?_
      refine lv_aload_n hx hb dX8_decode_56 rfl (lv_at hl 0 rfl) ?_
      refine gM0_end C hP fl_X8_137 dX8_decode_57 (v := (S.1 16)) rfl ?_
      refine lv_icmp_lt (tgt := 70) hx hb dX8_decode_60 (by decide) (fun c2 => ?_) (fun c2 => ?_)
      · rw [if_pos c2] at h
        refine lv_aload_n hx hb dX8_decode_70 rfl (lv_at hl 0 rfl) ?_
        refine gM0_place C hP fl_X8_131 dX8_decode_71 (v := (S.1 15)) rfl ?_
        refine lv_aload_n hx hb dX8_decode_74 rfl (lv_at hl 0 rfl) ?_
        refine gM0_end C hP fl_X8_137 dX8_decode_75 (v := (S.1 16)) rfl ?_
        refine lv_icmp_lt (tgt := 118) hx hb dX8_decode_78 (by decide) (fun c3 => ?_) (fun c3 => ?_)
        · refine lv_aload_n hx hb dX8_decode_118 rfl (lv_at hl 0 rfl) ?_
          refine gM0_signs C hP fl_X8_23 dX8_decode_119 ?_
          refine lv_aload_n hx hb dX8_decode_122 rfl (lv_at hl 0 rfl) ?_
          refine gM0_place C hP fl_X8_131 dX8_decode_123 (v := (S.1 15)) rfl ?_
          obtain ⟨_, hg, h⟩ := ob_some h
          refine aM4 C hP (gd_in hg) dX8_decode_126 (v := (S.2 3 (S.1 15).toNatClampNeg)) rfl ?_
          refine lv_istore_n (lv' := [(3, .int (S.2 3 (S.1 15).toNatClampNeg)), (0, .ref (a 0)), (1, .int y1), (2, .int y2)]) hx hb dX8_decode_127 rfl hl (by decide) rfl (fun ls hl => ?_)
          refine lv_aload_n hx hb dX8_decode_128 rfl (lv_at hl 1 rfl) ?_
          refine lv_dup hx hb dX8_decode_129 rfl ?_
          refine gM0_place C hP fl_X8_131 dX8_decode_130 (v := (S.1 15)) rfl ?_
          refine lv_iconst (v := (1 : Int32)) hx hb dX8_decode_133 (by decide) ?_
          refine lv_iadd hx hb dX8_decode_134 ?_
          refine pM0_place C hP (hDA _) hS fl_X8_131 dX8_decode_135 (fun H locs hP hS => ?_)
          refine lv_aload_n hx hb dX8_decode_138 rfl (lv_at hl 1 rfl) ?_
          refine gM0_version C hP fl_X8_36 dX8_decode_139 (v := (S.1 1)) rfl ?_
          refine lv_iconst (v := (2 : Int32)) hx hb dX8_decode_142 (by decide) ?_
          refine lv_icmp_le (tgt := 154) hx hb dX8_decode_143 (by decide) (fun c4 => ?_) (fun c4 => ?_)
          · rw [if_pos c4] at h
            refine lv_aload_n hx hb dX8_decode_154 rfl (lv_at hl 1 rfl) ?_
            refine lv_iload_n hx hb dX8_decode_155 rfl (lv_at hl 0 rfl) ?_
            obtain ⟨u5, hhu5, h⟩ := ob_some h
            refine wrV noE_est C hP (hDA _) hA hS hE0 (c_X8_elderSign l D k a _ (S.2 3 (S.1 15).toNatClampNeg) u5 hhu5) my_X8_elderSign ml_X8_159 (rM0 C hP) rfl hl.1 (rest := []) rfl (Nat.le_of_ble_eq_true rfl) ⟨rfl, rfl, Nat.le_of_ble_eq_true rfl, Nat.le_of_ble_eq_true rfl⟩ ⟨Nat.zero_le _, Nat.zero_le _⟩ dX8_decode_156 (fun H locs hP hS _ _ => ?_)
            refine lv_goto (tgt := 52) hx hb dX8_decode_159 (by decide) ?_
            exact ih _ _ _ _ _ ls hP hS (lv_sub hl [1, 2, 3] rfl) h
          · rw [if_neg c4] at h
            refine lv_aload_n hx hb dX8_decode_146 rfl (lv_at hl 1 rfl) ?_
            refine lv_iload_n hx hb dX8_decode_147 rfl (lv_at hl 0 rfl) ?_
            obtain ⟨u6, hhu6, h⟩ := ob_some h
            refine wrV noE_est C hP (hDA _) hA hS hE0 (c_X8_sign l D k a _ (S.2 3 (S.1 15).toNatClampNeg) u6 hhu6) my_X8_sign ml_X8_156 (rM0 C hP) rfl hl.1 (rest := []) rfl (Nat.le_of_ble_eq_true rfl) ⟨rfl, rfl, Nat.le_of_ble_eq_true rfl, Nat.le_of_ble_eq_true rfl⟩ ⟨Nat.zero_le _, Nat.zero_le _⟩ dX8_decode_148 (fun H locs hP hS _ _ => ?_)
            refine lv_goto (tgt := 159) hx hb dX8_decode_151 (by decide) ?_
            refine lv_goto (tgt := 52) hx hb dX8_decode_159 (by decide) ?_
            exact ih _ _ _ _ _ ls hP hS (lv_sub hl [1, 2, 3] rfl) h
        · exact absurd c2 c3
      · rw [if_neg c2] at h
        refine lv_aload_n hx hb dX8_decode_63 rfl (lv_at hl 0 rfl) ?_
        refine gM0_within C hP fl_X8_124 dX8_decode_64 (v := (S.1 19)) rfl ?_
        refine lv_if_eq (tgt := 162) hx hb dX8_decode_67 (by decide) (fun c7 => ?_) (fun c7 => ?_)
        · rw [if_pos c7] at h
          rw [← Option.some.inj h]
          exact wr_vret C hr hlocks hP hS dX8_decode_162
        · rw [if_neg c7] at h
          refine lv_aload_n hx hb dX8_decode_70 rfl (lv_at hl 0 rfl) ?_
          refine gM0_place C hP fl_X8_131 dX8_decode_71 (v := (S.1 15)) rfl ?_
          refine lv_aload_n hx hb dX8_decode_74 rfl (lv_at hl 0 rfl) ?_
          refine gM0_end C hP fl_X8_137 dX8_decode_75 (v := (S.1 16)) rfl ?_
          refine lv_icmp_lt (tgt := 118) hx hb dX8_decode_78 (by decide) (fun c8 => ?_) (fun c8 => ?_)
          · exact absurd c8 c2
          · refine lv_aload_n hx hb dX8_decode_81 rfl (lv_at hl 0 rfl) ?_
            refine lv_iconst (v := (0 : Int32)) hx hb dX8_decode_82 (by decide) ?_
            refine pM0_within (v := false) C hP (hDA _) hS fl_X8_124 dX8_decode_83 (fun H locs hP hS => ?_)
            refine lv_aload_n hx hb dX8_decode_86 rfl (lv_at hl 0 rfl) ?_
            refine lv_aload_n hx hb dX8_decode_87 rfl (lv_at hl 0 rfl) ?_
            refine gM0_backPlace C hP fl_X8_134 dX8_decode_88 (v := (S.1 20)) rfl ?_
            refine pM0_place C hP (hDA _) hS fl_X8_131 dX8_decode_91 (fun H locs hP hS => ?_)
            refine lv_aload_n hx hb dX8_decode_94 rfl (lv_at hl 0 rfl) ?_
            refine lv_aload_n hx hb dX8_decode_95 rfl (lv_at hl 0 rfl) ?_
            refine gM0_backEnd C hP fl_X8_140 dX8_decode_96 (v := (S.1 21)) rfl ?_
            refine pM0_end C hP (hDA _) hS fl_X8_137 dX8_decode_99 (fun H locs hP hS => ?_)
            refine lv_aload_n hx hb dX8_decode_102 rfl (lv_at hl 0 rfl) ?_
            refine lv_aload_n hx hb dX8_decode_103 rfl (lv_at hl 0 rfl) ?_
            refine gM0_backHand C hP fl_X8_146 dX8_decode_104 (v := (S.1 22)) rfl ?_
            refine pM0_hand C hP (hDA _) hS fl_X8_143 dX8_decode_107 (fun H locs hP hS => ?_)
            refine lv_aload_n hx hb dX8_decode_110 rfl (lv_at hl 0 rfl) ?_
            refine lv_iconst (v := (0 : Int32)) hx hb dX8_decode_111 (by decide) ?_
            refine pM0_shift C hP (hDA _) hS fl_X8_153 dX8_decode_112 (fun H locs hP hS => ?_)
            refine lv_goto (tgt := 52) hx hb dX8_decode_115 (by decide) ?_
            exact ih _ _ _ _ _ ls hP hS (lv_sub hl [0, 1, 2] rfl) h
  rw [fX8_decode] at h
  refine lv_aload_n hx hb dX8_decode_0 rfl (lv_at hl 0 rfl) ?_
  refine lv_aload_n hx hb dX8_decode_1 rfl (lv_at hl 0 rfl) ?_
  refine lv_iload_n hx hb dX8_decode_2 rfl (lv_at hl 1 rfl) ?_
  refine rdV noE_est C hP (ef noE_est hS hE0) (c_X8_tableAt l D k a _ x1) my_X8_tableAt ml_X8_77 (rM0 C hP) rfl hl.1 (rest := [.ref (a 0)]) rfl (Nat.le_of_ble_eq_true rfl) ⟨rfl, rfl, Nat.le_of_ble_eq_true rfl, Nat.le_of_ble_eq_true rfl⟩ ⟨Nat.zero_le _, Nat.zero_le _⟩ dX8_decode_3 ?_
  refine rdV noE_est C hP (ef noE_est hS hE0) (c_X8_word l D k a _ (fX8_tableAt S x1)) my_X8_word ml_X8_57 (rM0 C hP) rfl hl.1 (rest := []) rfl (Nat.le_of_ble_eq_true rfl) ⟨rfl, rfl, Nat.le_of_ble_eq_true rfl, Nat.le_of_ble_eq_true rfl⟩ ⟨Nat.zero_le _, Nat.zero_le _⟩ dX8_decode_6 ?_
  refine lv_istore_n (lv' := [(2, .int (fX8_word S (fX8_tableAt S x1))), (0, .ref (a 0)), (1, .int x1)]) hx hb dX8_decode_9 rfl hl (by decide) rfl (fun ls hl => ?_)
  refine lv_aload_n hx hb dX8_decode_10 rfl (lv_at hl 1 rfl) ?_
  refine lv_iconst (v := (0 : Int32)) hx hb dX8_decode_11 (by decide) ?_
  refine pM0_bytes C hP (hDA _) hS fl_X8_121 dX8_decode_12 (fun H locs hP hS => ?_)
  refine lv_aload_n hx hb dX8_decode_15 rfl (lv_at hl 1 rfl) ?_
  refine lv_iconst (v := (0 : Int32)) hx hb dX8_decode_16 (by decide) ?_
  refine pM0_place C hP (hDA _) hS fl_X8_131 dX8_decode_17 (fun H locs hP hS => ?_)
  refine lv_aload_n hx hb dX8_decode_20 rfl (lv_at hl 1 rfl) ?_
  refine lv_aload_n hx hb dX8_decode_21 rfl (lv_at hl 1 rfl) ?_
  refine lv_iconst (v := (0 : Int32)) hx hb dX8_decode_22 (by decide) ?_
  refine lv_iload_n hx hb dX8_decode_23 rfl (lv_at hl 0 rfl) ?_
  refine lv_iconst (v := (1 : Int32)) hx hb dX8_decode_24 (by decide) ?_
  refine lv_iadd hx hb dX8_decode_25 ?_
  refine lv_aload_n hx hb dX8_decode_26 rfl (lv_at hl 1 rfl) ?_
  refine lv_iload_n hx hb dX8_decode_27 rfl (lv_at hl 0 rfl) ?_
  refine rdV noE_est C hP (ef noE_est hS hE0) (c_X8_at l D k a _ (fX8_word S (fX8_tableAt S x1))) my_X8_at ml_X8_46 (rM0 C hP) rfl hl.1 (rest := [.int ((fX8_word S (fX8_tableAt S x1)) + (1 : Int32)), .int (0 : Int32), .ref (a 0), .ref (a 0)]) rfl (Nat.le_of_ble_eq_true rfl) ⟨rfl, rfl, Nat.le_of_ble_eq_true rfl, Nat.le_of_ble_eq_true rfl⟩ ⟨Nat.zero_le _, Nat.zero_le _⟩ dX8_decode_28 ?_
  obtain ⟨u1, hhu1, h⟩ := ob_some h
  refine wrV noE_est C hP (hDA _) hA hS hE0 (c_X8_read l D k a _ (0 : Int32) ((fX8_word S (fX8_tableAt S x1)) + (1 : Int32)) (fX8_at (pS (pS S 13 (0 : Int32)) 15 (0 : Int32)) (fX8_word S (fX8_tableAt S x1))) u1 hhu1) my_X8_read ml_X8_149 (rM0 C hP) rfl hl.1 (rest := [.ref (a 0)]) rfl (Nat.le_of_ble_eq_true rfl) ⟨rfl, rfl, Nat.le_of_ble_eq_true rfl, Nat.le_of_ble_eq_true rfl⟩ ⟨Nat.zero_le _, Nat.zero_le _⟩ dX8_decode_31 (fun H locs hP hS _ _ => ?_)
  refine pM0_end C hP (hDA _) hS fl_X8_137 dX8_decode_34 (fun H locs hP hS => ?_)
  refine lv_aload_n hx hb dX8_decode_37 rfl (lv_at hl 1 rfl) ?_
  refine lv_iconst (v := (0 : Int32)) hx hb dX8_decode_38 (by decide) ?_
  refine pM0_hand C hP (hDA _) hS fl_X8_143 dX8_decode_39 (fun H locs hP hS => ?_)
  refine lv_aload_n hx hb dX8_decode_42 rfl (lv_at hl 1 rfl) ?_
  refine lv_iconst (v := (0 : Int32)) hx hb dX8_decode_43 (by decide) ?_
  refine pM0_shift C hP (hDA _) hS fl_X8_153 dX8_decode_44 (fun H locs hP hS => ?_)
  refine lv_aload_n hx hb dX8_decode_47 rfl (lv_at hl 1 rfl) ?_
  refine lv_iconst (v := (0 : Int32)) hx hb dX8_decode_48 (by decide) ?_
  refine pM0_within (v := false) C hP (hDA _) hS fl_X8_124 dX8_decode_49 (fun H locs hP hS => ?_)
  exact L 3000000 _ _ _ _ _ ls hP hS (lv_sub hl [1, 2, 0] rfl) h
def fX8_name (S : XS) (x1 : Int32) (x2 : Int32) : Option (Int32 × XS) := (if (bI (fX8_isObject S x1)) = 0 then some ((-1 : Int32), S) else (ob (fX8_decode S x1) (fun u2 => (if x2 < 0 then some ((-2 : Int32), u2) else (if x2 < (u2.1 13) then (ob (gd x2 250) (fun _ => some ((u2.2 2 x2.toNatClampNeg), u2))) else some ((-2 : Int32), u2))))))
set_option maxRecDepth 100000 in
set_option maxHeartbeats 4000000 in
theorem c_X8_name (l : Launch) (D : va_G) (k : Nat → ClassId) (a : Nat → Nat) (S : XS) (x1 : Int32) (x2 : Int32) (u : Int32 × XS) (h : fX8_name S x1 x2 = some u) : Wr noE l D (tyk k) (wM k a S) (wM k a u.2) yX8_name cX8_name 3 (some .int) (rmm 6 137) [.ref (a 0), .int x1, .int x2] (some (.int u.1)) := by
  refine wr_start (by decide) (Nat.le_of_ble_eq_true rfl) ?_
  intro p e s m below meth c A C hr hlocks hP hD0 hA hE0 ls hl
  have hDA : ∀ S, va_D A (wM k a S) := wM_D hD0
  have hS : va_S A s.heap s.heap [] := va_S.rf
  have hl : lv_has ls 3 [(0, .ref (a 0)), (1, .int x1), (2, .int x2)] := hl
  obtain ⟨⟨hx, hb, hml, hown, hts⟩, hK⟩ := id C
  rw [fX8_name] at h
  refine lv_aload_n hx hb dX8_name_0 rfl (lv_at hl 0 rfl) ?_
  refine lv_iload_n hx hb dX8_name_1 rfl (lv_at hl 1 rfl) ?_
  refine rdV noE_est C hP (ef noE_est hS hE0) (c_X8_isObject l D k a _ x1) my_X8_isObject ml_X8_66 (rM0 C hP) rfl hl.1 (rest := []) rfl (Nat.le_of_ble_eq_true rfl) ⟨rfl, rfl, Nat.le_of_ble_eq_true rfl, Nat.le_of_ble_eq_true rfl⟩ ⟨Nat.zero_le _, Nat.zero_le _⟩ dX8_name_2 ?_
  refine lv_if_ne (tgt := 10) hx hb dX8_name_5 (by decide) (fun c1 => ?_) (fun c1 => ?_)
  · rw [if_neg c1] at h
    refine lv_aload_n hx hb dX8_name_10 rfl (lv_at hl 0 rfl) ?_
    refine lv_iload_n hx hb dX8_name_11 rfl (lv_at hl 1 rfl) ?_
    obtain ⟨u2, hhu2, h⟩ := ob_some h
    refine wrV noE_est C hP (hDA _) hA hS hE0 (c_X8_decode l D k a _ x1 u2 hhu2) my_X8_decode ml_X8_172 (rM0 C hP) rfl hl.1 (rest := []) rfl (Nat.le_of_ble_eq_true rfl) ⟨rfl, rfl, Nat.le_of_ble_eq_true rfl, Nat.le_of_ble_eq_true rfl⟩ ⟨Nat.zero_le _, Nat.zero_le _⟩ dX8_name_12 (fun H locs hP hS _ _ => ?_)
    refine lv_iload_n hx hb dX8_name_15 rfl (lv_at hl 2 rfl) ?_
    refine lv_if_lt (tgt := 27) hx hb dX8_name_16 (by decide) (fun c3 => ?_) (fun c3 => ?_)
    · rw [if_pos c3] at h
      refine lv_bipush (v := (-2 : Int32)) hx hb dX8_name_27 (by decide) ?_
      refine lv_goto (tgt := 38) hx hb dX8_name_29 (by decide) ?_
      rw [← Option.some.inj h]
      exact wrM_iret C hr hlocks hP hS dX8_name_38
    · rw [if_neg c3] at h
      refine lv_iload_n hx hb dX8_name_19 rfl (lv_at hl 2 rfl) ?_
      refine lv_aload_n hx hb dX8_name_20 rfl (lv_at hl 0 rfl) ?_
      refine gM0_bytes C hP fl_X8_121 dX8_name_21 (v := (u2.1 13)) rfl ?_
      refine lv_icmp_lt (tgt := 32) hx hb dX8_name_24 (by decide) (fun c4 => ?_) (fun c4 => ?_)
      · rw [if_pos c4] at h
        refine lv_aload_n hx hb dX8_name_32 rfl (lv_at hl 0 rfl) ?_
        refine gM0_out C hP fl_X8_20 dX8_name_33 ?_
        refine lv_iload_n hx hb dX8_name_36 rfl (lv_at hl 2 rfl) ?_
        obtain ⟨_, hg, h⟩ := ob_some h
        refine aM3 C hP (gd_in hg) dX8_name_37 (v := (u2.2 2 x2.toNatClampNeg)) rfl ?_
        rw [← Option.some.inj h]
        exact wrM_iret C hr hlocks hP hS dX8_name_38
      · rw [if_neg c4] at h
        refine lv_bipush (v := (-2 : Int32)) hx hb dX8_name_27 (by decide) ?_
        refine lv_goto (tgt := 38) hx hb dX8_name_29 (by decide) ?_
        rw [← Option.some.inj h]
        exact wrM_iret C hr hlocks hP hS dX8_name_38
  · rw [if_pos c1] at h
    refine lv_iconst (v := (-1 : Int32)) hx hb dX8_name_8 (by decide) ?_
    rw [← Option.some.inj h]
    exact wrM_iret C hr hlocks hP hS dX8_name_9
def fX8_named (S : XS) (x1 : Int32) : Option (Int32 × XS) := (if (bI (fX8_isObject S x1)) = 0 then some ((-1 : Int32), S) else (ob (fX8_decode S x1) (fun u2 => some ((u2.1 13), u2))))
set_option maxRecDepth 100000 in
set_option maxHeartbeats 4000000 in
theorem c_X8_named (l : Launch) (D : va_G) (k : Nat → ClassId) (a : Nat → Nat) (S : XS) (x1 : Int32) (u : Int32 × XS) (h : fX8_named S x1 = some u) : Wr noE l D (tyk k) (wM k a S) (wM k a u.2) yX8_named cX8_named 2 (some .int) (rmm 6 137) [.ref (a 0), .int x1] (some (.int u.1)) := by
  refine wr_start (by decide) (Nat.le_of_ble_eq_true rfl) ?_
  intro p e s m below meth c A C hr hlocks hP hD0 hA hE0 ls hl
  have hDA : ∀ S, va_D A (wM k a S) := wM_D hD0
  have hS : va_S A s.heap s.heap [] := va_S.rf
  have hl : lv_has ls 2 [(0, .ref (a 0)), (1, .int x1)] := hl
  obtain ⟨⟨hx, hb, hml, hown, hts⟩, hK⟩ := id C
  rw [fX8_named] at h
  refine lv_aload_n hx hb dX8_named_0 rfl (lv_at hl 0 rfl) ?_
  refine lv_iload_n hx hb dX8_named_1 rfl (lv_at hl 1 rfl) ?_
  refine rdV noE_est C hP (ef noE_est hS hE0) (c_X8_isObject l D k a _ x1) my_X8_isObject ml_X8_66 (rM0 C hP) rfl hl.1 (rest := []) rfl (Nat.le_of_ble_eq_true rfl) ⟨rfl, rfl, Nat.le_of_ble_eq_true rfl, Nat.le_of_ble_eq_true rfl⟩ ⟨Nat.zero_le _, Nat.zero_le _⟩ dX8_named_2 ?_
  refine lv_if_ne (tgt := 10) hx hb dX8_named_5 (by decide) (fun c1 => ?_) (fun c1 => ?_)
  · rw [if_neg c1] at h
    refine lv_aload_n hx hb dX8_named_10 rfl (lv_at hl 0 rfl) ?_
    refine lv_iload_n hx hb dX8_named_11 rfl (lv_at hl 1 rfl) ?_
    obtain ⟨u2, hhu2, h⟩ := ob_some h
    refine wrV noE_est C hP (hDA _) hA hS hE0 (c_X8_decode l D k a _ x1 u2 hhu2) my_X8_decode ml_X8_172 (rM0 C hP) rfl hl.1 (rest := []) rfl (Nat.le_of_ble_eq_true rfl) ⟨rfl, rfl, Nat.le_of_ble_eq_true rfl, Nat.le_of_ble_eq_true rfl⟩ ⟨Nat.zero_le _, Nat.zero_le _⟩ dX8_named_12 (fun H locs hP hS _ _ => ?_)
    refine lv_aload_n hx hb dX8_named_15 rfl (lv_at hl 0 rfl) ?_
    refine gM0_bytes C hP fl_X8_121 dX8_named_16 (v := (u2.1 13)) rfl ?_
    rw [← Option.some.inj h]
    exact wrM_iret C hr hlocks hP hS dX8_named_19
  · rw [if_pos c1] at h
    refine lv_iconst (v := (-1 : Int32)) hx hb dX8_named_8 (by decide) ?_
    rw [← Option.some.inj h]
    exact wrM_iret C hr hlocks hP hS dX8_named_9
