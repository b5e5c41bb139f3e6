def fX4_begin9 (S : XS) (x1 : Int32) (x2 : Int32) : XS := (pS (pS (pS (pS S 21 x1) 22 x2) 23 (0 : Int32)) 24 (0 : Int32))
set_option maxRecDepth 100000 in
set_option maxHeartbeats 4000000 in
theorem c_X4_begin9 (l : Launch) (D : va_G) (k : Nat → ClassId) (a : Nat → Nat) (S : XS) (x1 : Int32) (x2 : Int32) : Wr (Ek a) l D (tyk k) (wX k a S) (wX k a (fX4_begin9 S x1 x2)) yX4_begin cX4_begin 3 none (rmm 0 0) [.ref (a 9), .int x1, .int x2] none := by
  generalize h : fX4_begin9 S x1 x2 = u
  refine wr_start (by decide) (Nat.le_of_ble_eq_true rfl) ?_
  intro p e s m below meth c A C hr hlocks hP hD0 hA hE0 ls hl
  have hDA : ∀ S, va_D A (wX k a S) := wX_D hD0
  have hS : va_S A s.heap s.heap [] := va_S.rf
  have hl : lv_has ls 3 [(0, .ref (a 9)), (1, .int x1), (2, .int x2)] := hl
  obtain ⟨⟨hx, hb, hml, hown, hts⟩, hK⟩ := id C
  rw [fX4_begin9] at h
  refine lv_aload_n hx hb dX4_begin_0 rfl (lv_at hl 0 rfl) ?_
  refine lv_iload_n hx hb dX4_begin_1 rfl (lv_at hl 1 rfl) ?_
  refine pX9_at C hP (hDA _) hS fl_X4_13 dX4_begin_2 (fun H locs hP hS => ?_)
  refine lv_aload_n hx hb dX4_begin_5 rfl (lv_at hl 0 rfl) ?_
  refine lv_iload_n hx hb dX4_begin_6 rfl (lv_at hl 2 rfl) ?_
  refine pX9_wordsLeft C hP (hDA _) hS fl_X4_17 dX4_begin_7 (fun H locs hP hS => ?_)
  refine lv_aload_n hx hb dX4_begin_10 rfl (lv_at hl 0 rfl) ?_
  refine lv_iconst (v := (0 : Int32)) hx hb dX4_begin_11 (by decide) ?_
  refine pX9_word C hP (hDA _) hS fl_X4_20 dX4_begin_12 (fun H locs hP hS => ?_)
  refine lv_aload_n hx hb dX4_begin_15 rfl (lv_at hl 0 rfl) ?_
  refine lv_iconst (v := (0 : Int32)) hx hb dX4_begin_16 (by decide) ?_
  refine pX9_signsLeft C hP (hDA _) hS fl_X4_23 dX4_begin_17 (fun H locs hP hS => ?_)
  rw [← h]
  exact wr_vret C hr hlocks hP hS dX4_begin_20
def fX4_begin10 (S : XS) (x1 : Int32) (x2 : Int32) : XS := (pS (pS (pS (pS S 25 x1) 26 x2) 27 (0 : Int32)) 28 (0 : Int32))
set_option maxRecDepth 100000 in
set_option maxHeartbeats 4000000 in
theorem c_X4_begin10 (l : Launch) (D : va_G) (k : Nat → ClassId) (a : Nat → Nat) (S : XS) (x1 : Int32) (x2 : Int32) : Wr (Ek a) l D (tyk k) (wX k a S) (wX k a (fX4_begin10 S x1 x2)) yX4_begin cX4_begin 3 none (rmm 0 0) [.ref (a 10), .int x1, .int x2] none := by
  generalize h : fX4_begin10 S x1 x2 = u
  refine wr_start (by decide) (Nat.le_of_ble_eq_true rfl) ?_
  intro p e s m below meth c A C hr hlocks hP hD0 hA hE0 ls hl
  have hDA : ∀ S, va_D A (wX k a S) := wX_D hD0
  have hS : va_S A s.heap s.heap [] := va_S.rf
  have hl : lv_has ls 3 [(0, .ref (a 10)), (1, .int x1), (2, .int x2)] := hl
  obtain ⟨⟨hx, hb, hml, hown, hts⟩, hK⟩ := id C
  rw [fX4_begin10] at h
  refine lv_aload_n hx hb dX4_begin_0 rfl (lv_at hl 0 rfl) ?_
  refine lv_iload_n hx hb dX4_begin_1 rfl (lv_at hl 1 rfl) ?_
  refine pX10_at C hP (hDA _) hS fl_X4_13 dX4_begin_2 (fun H locs hP hS => ?_)
  refine lv_aload_n hx hb dX4_begin_5 rfl (lv_at hl 0 rfl) ?_
  refine lv_iload_n hx hb dX4_begin_6 rfl (lv_at hl 2 rfl) ?_
  refine pX10_wordsLeft C hP (hDA _) hS fl_X4_17 dX4_begin_7 (fun H locs hP hS => ?_)
  refine lv_aload_n hx hb dX4_begin_10 rfl (lv_at hl 0 rfl) ?_
  refine lv_iconst (v := (0 : Int32)) hx hb dX4_begin_11 (by decide) ?_
  refine pX10_word C hP (hDA _) hS fl_X4_20 dX4_begin_12 (fun H locs hP hS => ?_)
  refine lv_aload_n hx hb dX4_begin_15 rfl (lv_at hl 0 rfl) ?_
  refine lv_iconst (v := (0 : Int32)) hx hb dX4_begin_16 (by decide) ?_
  refine pX10_signsLeft C hP (hDA _) hS fl_X4_23 dX4_begin_17 (fun H locs hP hS => ?_)
  rw [← h]
  exact wr_vret C hr hlocks hP hS dX4_begin_20
def fX4_take9 (S : XS)  : Int32 × XS := (if (S.1 24) = 0 then (if 0 < (S.1 22) then (if (fX2_word S (S.1 21)) < (32768 : Int32) then ((((fX2_word S (S.1 21)) >>> (((5 : Int32) * ((3 : Int32) - (1 : Int32))) &&& 31)) &&& (31 : Int32)), (pS (pS (pS (pS (pS S 23 (fX2_word S (S.1 21))) 21 ((S.1 21) + (2 : Int32))) 22 ((S.1 22) - (1 : Int32))) 24 (3 : Int32)) 24 ((3 : Int32) - (1 : Int32)))) else ((((fX2_word S (S.1 21)) >>> (((5 : Int32) * ((3 : Int32) - (1 : Int32))) &&& 31)) &&& (31 : Int32)), (pS (pS (pS (pS (pS S 23 (fX2_word S (S.1 21))) 21 ((S.1 21) + (2 : Int32))) 22 (0 : Int32)) 24 (3 : Int32)) 24 ((3 : Int32) - (1 : Int32))))) else ((-1 : Int32), S)) else ((((S.1 23) >>> (((5 : Int32) * ((S.1 24) - (1 : Int32))) &&& 31)) &&& (31 : Int32)), (pS S 24 ((S.1 24) - (1 : Int32)))))
set_option maxRecDepth 100000 in
set_option maxHeartbeats 4000000 in
theorem c_X4_take9 (l : Launch) (D : va_G) (k : Nat → ClassId) (a : Nat → Nat) (S : XS)  : Wr (Ek a) l D (tyk k) (wX k a S) (wX k a (fX4_take9 S).2) yX4_take cX4_take 2 (some .int) (rmm 2 42) [.ref (a 9)] (some (.int (fX4_take9 S).1)) := by
  generalize h : fX4_take9 S = u
  refine wr_start (by decide) (Nat.le_of_ble_eq_true rfl) ?_
  intro p e s m below meth c A C hr hlocks hP hD0 hA hE0 ls hl
  have hDA : ∀ S, va_D A (wX k a S) := wX_D hD0
  have hS : va_S A s.heap s.heap [] := va_S.rf
  have hl : lv_has ls 2 [(0, .ref (a 9))] := hl
  obtain ⟨⟨hx, hb, hml, hown, hts⟩, hK⟩ := id C
  rw [fX4_take9] at h
  refine lv_aload_n hx hb dX4_take_0 rfl (lv_at hl 0 rfl) ?_
  refine gX9_signsLeft C hP fl_X4_23 dX4_take_1 (v := (S.1 24)) rfl ?_
  refine lv_if_ne (tgt := 16) hx hb dX4_take_4 (by decide) (fun c1 => ?_) (fun c1 => ?_)
  · rw [if_neg c1] at h
    refine lv_aload_n hx hb dX4_take_16 rfl (lv_at hl 0 rfl) ?_
    refine gX9_signsLeft C hP fl_X4_23 dX4_take_17 (v := (S.1 24)) rfl ?_
    refine lv_if_ne (tgt := 86) hx hb dX4_take_20 (by decide) (fun c2 => ?_) (fun c2 => ?_)
    · refine lv_aload_n hx hb dX4_take_86 rfl (lv_at hl 0 rfl) ?_
      refine lv_dup hx hb dX4_take_87 rfl ?_
      refine gX9_signsLeft C hP fl_X4_23 dX4_take_88 (v := (S.1 24)) rfl ?_
      refine lv_iconst (v := (1 : Int32)) hx hb dX4_take_91 (by decide) ?_
      refine lv_isub hx hb dX4_take_92 ?_
      refine pX9_signsLeft C hP (hDA _) hS fl_X4_23 dX4_take_93 (fun H locs hP hS => ?_)
      refine lv_aload_n hx hb dX4_take_96 rfl (lv_at hl 0 rfl) ?_
      refine gX9_word C hP fl_X4_20 dX4_take_97 (v := (S.1 23)) rfl ?_
      refine lv_iconst (v := (5 : Int32)) hx hb dX4_take_100 (by decide) ?_
      refine lv_aload_n hx hb dX4_take_101 rfl (lv_at hl 0 rfl) ?_
      refine gX9_signsLeft C hP fl_X4_23 dX4_take_102 (v := ((S.1 24) - (1 : Int32))) rfl ?_
      refine lv_imul hx hb dX4_take_105 ?_
      refine lv_ishr hx hb dX4_take_106 ?_
      refine lv_bipush (v := (31 : Int32)) hx hb dX4_take_107 (by decide) ?_
      refine lv_iand hx hb dX4_take_109 ?_
      rw [← h]
      exact wrX_iret C hr hlocks hP hS dX4_take_110
    · exact absurd c2 c1
  · rw [if_pos c1] at h
    refine lv_aload_n hx hb dX4_take_7 rfl (lv_at hl 0 rfl) ?_
    refine gX9_wordsLeft C hP fl_X4_17 dX4_take_8 (v := (S.1 22)) rfl ?_
    refine lv_if_gt (tgt := 16) hx hb dX4_take_11 (by decide) (fun c3 => ?_) (fun c3 => ?_)
    · rw [if_pos c3] at h
      refine lv_aload_n hx hb dX4_take_16 rfl (lv_at hl 0 rfl) ?_
      refine gX9_signsLeft C hP fl_X4_23 dX4_take_17 (v := (S.1 24)) rfl ?_
      refine lv_if_ne (tgt := 86) hx hb dX4_take_20 (by decide) (fun c4 => ?_) (fun c4 => ?_)
      · exact absurd c1 c4
      · refine lv_aload_n hx hb dX4_take_23 rfl (lv_at hl 0 rfl) ?_
        refine lv_aload_n hx hb dX4_take_24 rfl (lv_at hl 0 rfl) ?_
        refine gX9_memory C hP fl_X4_7 dX4_take_25 ?_
        refine lv_aload_n hx hb dX4_take_28 rfl (lv_at hl 0 rfl) ?_
        refine gX9_at C hP fl_X4_13 dX4_take_29 (v := (S.1 21)) rfl ?_
        refine rdV (Ek_est a) C hP (ef (Ek_est a) hS hE0) (c_X2_word l D k a _ (S.1 21)) my_X2_word ml_X4_26 (rX1 C hP) rfl hl.1 (rest := [.ref (a 9)]) rfl (Nat.le_of_ble_eq_true rfl) ⟨rfl, rfl, Nat.le_of_ble_eq_true rfl, Nat.le_of_ble_eq_true rfl⟩ ⟨Nat.zero_le _, Nat.zero_le _⟩ dX4_take_32 ?_
        refine pX9_word C hP (hDA _) hS fl_X4_20 dX4_take_35 (fun H locs hP hS => ?_)
        refine lv_aload_n hx hb dX4_take_38 rfl (lv_at hl 0 rfl) ?_
        refine lv_dup hx hb dX4_take_39 rfl ?_
        refine gX9_at C hP fl_X4_13 dX4_take_40 (v := (S.1 21)) rfl ?_
        refine lv_iconst (v := (2 : Int32)) hx hb dX4_take_43 (by decide) ?_
        refine lv_iadd hx hb dX4_take_44 ?_
        refine pX9_at C hP (hDA _) hS fl_X4_13 dX4_take_45 (fun H locs hP hS => ?_)
        refine lv_aload_n hx hb dX4_take_48 rfl (lv_at hl 0 rfl) ?_
        refine gX9_word C hP fl_X4_20 dX4_take_49 (v := (fX2_word S (S.1 21))) rfl ?_
        refine lv_ldc (v := (32768 : Int32)) hx hb hown (hts _ ct_X4_31) dX4_take_52 ?_
        refine lv_icmp_lt (tgt := 61) hx hb dX4_take_54 (by decide) (fun c5 => ?_) (fun c5 => ?_)
        · rw [if_pos c5] at h
          refine lv_iconst (v := (0 : Int32)) hx hb dX4_take_61 (by decide) ?_
          refine lv_istore_n (lv' := [(1, .int (0 : Int32)), (0, .ref (a 9))]) hx hb dX4_take_62 rfl hl (by decide) rfl (fun ls hl => ?_)
          refine lv_aload_n hx hb dX4_take_63 rfl (lv_at hl 1 rfl) ?_
          refine lv_iload_n hx hb dX4_take_64 rfl (lv_at hl 0 rfl) ?_
          refine lv_if_eq (tgt := 72) hx hb dX4_take_65 (by decide) (fun c6 => ?_) (fun c6 => ?_)
          · refine lv_aload_n hx hb dX4_take_72 rfl (lv_at hl 1 rfl) ?_
            refine gX9_wordsLeft C hP fl_X4_17 dX4_take_73 (v := (S.1 22)) rfl ?_
            refine lv_iconst (v := (1 : Int32)) hx hb dX4_take_76 (by decide) ?_
            refine lv_isub hx hb dX4_take_77 ?_
            refine pX9_wordsLeft C hP (hDA _) hS fl_X4_17 dX4_take_78 (fun H locs hP hS => ?_)
            refine lv_aload_n hx hb dX4_take_81 rfl (lv_at hl 1 rfl) ?_
            refine lv_iconst (v := (3 : Int32)) hx hb dX4_take_82 (by decide) ?_
            refine pX9_signsLeft C hP (hDA _) hS fl_X4_23 dX4_take_83 (fun H locs hP hS => ?_)
            refine lv_aload_n hx hb dX4_take_86 rfl (lv_at hl 1 rfl) ?_
            refine lv_dup hx hb dX4_take_87 rfl ?_
            refine gX9_signsLeft C hP fl_X4_23 dX4_take_88 (v := (3 : Int32)) rfl ?_
            refine lv_iconst (v := (1 : Int32)) hx hb dX4_take_91 (by decide) ?_
            refine lv_isub hx hb dX4_take_92 ?_
            refine pX9_signsLeft C hP (hDA _) hS fl_X4_23 dX4_take_93 (fun H locs hP hS => ?_)
            refine lv_aload_n hx hb dX4_take_96 rfl (lv_at hl 1 rfl) ?_
            refine gX9_word C hP fl_X4_20 dX4_take_97 (v := (fX2_word S (S.1 21))) rfl ?_
            refine lv_iconst (v := (5 : Int32)) hx hb dX4_take_100 (by decide) ?_
            refine lv_aload_n hx hb dX4_take_101 rfl (lv_at hl 1 rfl) ?_
            refine gX9_signsLeft C hP fl_X4_23 dX4_take_102 (v := ((3 : Int32) - (1 : Int32))) rfl ?_
            refine lv_imul hx hb dX4_take_105 ?_
            refine lv_ishr hx hb dX4_take_106 ?_
            refine lv_bipush (v := (31 : Int32)) hx hb dX4_take_107 (by decide) ?_
            refine lv_iand hx hb dX4_take_109 ?_
            rw [← h]
            exact wrX_iret C hr hlocks hP hS dX4_take_110
          · exact absurd c6 (by decide)
        · rw [if_neg c5] at h
          refine lv_iconst (v := (1 : Int32)) hx hb dX4_take_57 (by decide) ?_
          refine lv_goto (tgt := 62) hx hb dX4_take_58 (by decide) ?_
          refine lv_istore_n (lv' := [(1, .int (1 : Int32)), (0, .ref (a 9))]) hx hb dX4_take_62 rfl hl (by decide) rfl (fun ls hl => ?_)
          refine lv_aload_n hx hb dX4_take_63 rfl (lv_at hl 1 rfl) ?_
          refine lv_iload_n hx hb dX4_take_64 rfl (lv_at hl 0 rfl) ?_
          refine lv_if_eq (tgt := 72) hx hb dX4_take_65 (by decide) (fun c7 => ?_) (fun c7 => ?_)
          · exact absurd c7 (by decide)
          · refine lv_iconst (v := (0 : Int32)) hx hb dX4_take_68 (by decide) ?_
            refine lv_goto (tgt := 78) hx hb dX4_take_69 (by decide) ?_
            refine pX9_wordsLeft C hP (hDA _) hS fl_X4_17 dX4_take_78 (fun H locs hP hS => ?_)
            refine lv_aload_n hx hb dX4_take_81 rfl (lv_at hl 1 rfl) ?_
            refine lv_iconst (v := (3 : Int32)) hx hb dX4_take_82 (by decide) ?_
            refine pX9_signsLeft C hP (hDA _) hS fl_X4_23 dX4_take_83 (fun H locs hP hS => ?_)
            refine lv_aload_n hx hb dX4_take_86 rfl (lv_at hl 1 rfl) ?_
            refine lv_dup hx hb dX4_take_87 rfl ?_
            refine gX9_signsLeft C hP fl_X4_23 dX4_take_88 (v := (3 : Int32)) rfl ?_
            refine lv_iconst (v := (1 : Int32)) hx hb dX4_take_91 (by decide) ?_
            refine lv_isub hx hb dX4_take_92 ?_
            refine pX9_signsLeft C hP (hDA _) hS fl_X4_23 dX4_take_93 (fun H locs hP hS => ?_)
            refine lv_aload_n hx hb dX4_take_96 rfl (lv_at hl 1 rfl) ?_
            refine gX9_word C hP fl_X4_20 dX4_take_97 (v := (fX2_word S (S.1 21))) rfl ?_
            refine lv_iconst (v := (5 : Int32)) hx hb dX4_take_100 (by decide) ?_
            refine lv_aload_n hx hb dX4_take_101 rfl (lv_at hl 1 rfl) ?_
            refine gX9_signsLeft C hP fl_X4_23 dX4_take_102 (v := ((3 : Int32) - (1 : Int32))) rfl ?_
            refine lv_imul hx hb dX4_take_105 ?_
            refine lv_ishr hx hb dX4_take_106 ?_
            refine lv_bipush (v := (31 : Int32)) hx hb dX4_take_107 (by decide) ?_
            refine lv_iand hx hb dX4_take_109 ?_
            rw [← h]
            exact wrX_iret C hr hlocks hP hS dX4_take_110
    · rw [if_neg c3] at h
      refine lv_iconst (v := (-1 : Int32)) hx hb dX4_take_14 (by decide) ?_
      rw [← h]
      exact wrX_iret C hr hlocks hP hS dX4_take_15
def fX4_take10 (S : XS)  : Int32 × XS := (if (S.1 28) = 0 then (if 0 < (S.1 26) then (if (fX2_word S (S.1 25)) < (32768 : Int32) then ((((fX2_word S (S.1 25)) >>> (((5 : Int32) * ((3 : Int32) - (1 : Int32))) &&& 31)) &&& (31 : Int32)), (pS (pS (pS (pS (pS S 27 (fX2_word S (S.1 25))) 25 ((S.1 25) + (2 : Int32))) 26 ((S.1 26) - (1 : Int32))) 28 (3 : Int32)) 28 ((3 : Int32) - (1 : Int32)))) else ((((fX2_word S (S.1 25)) >>> (((5 : Int32) * ((3 : Int32) - (1 : Int32))) &&& 31)) &&& (31 : Int32)), (pS (pS (pS (pS (pS S 27 (fX2_word S (S.1 25))) 25 ((S.1 25) + (2 : Int32))) 26 (0 : Int32)) 28 (3 : Int32)) 28 ((3 : Int32) - (1 : Int32))))) else ((-1 : Int32), S)) else ((((S.1 27) >>> (((5 : Int32) * ((S.1 28) - (1 : Int32))) &&& 31)) &&& (31 : Int32)), (pS S 28 ((S.1 28) - (1 : Int32)))))
set_option maxRecDepth 100000 in
set_option maxHeartbeats 4000000 in
theorem c_X4_take10 (l : Launch) (D : va_G) (k : Nat → ClassId) (a : Nat → Nat) (S : XS)  : Wr (Ek a) l D (tyk k) (wX k a S) (wX k a (fX4_take10 S).2) yX4_take cX4_take 2 (some .int) (rmm 2 42) [.ref (a 10)] (some (.int (fX4_take10 S).1)) := by
  generalize h : fX4_take10 S = u
  refine wr_start (by decide) (Nat.le_of_ble_eq_true rfl) ?_
  intro p e s m below meth c A C hr hlocks hP hD0 hA hE0 ls hl
  have hDA : ∀ S, va_D A (wX k a S) := wX_D hD0
  have hS : va_S A s.heap s.heap [] := va_S.rf
  have hl : lv_has ls 2 [(0, .ref (a 10))] := hl
  obtain ⟨⟨hx, hb, hml, hown, hts⟩, hK⟩ := id C
  rw [fX4_take10] at h
  refine lv_aload_n hx hb dX4_take_0 rfl (lv_at hl 0 rfl) ?_
  refine gX10_signsLeft C hP fl_X4_23 dX4_take_1 (v := (S.1 28)) rfl ?_
  refine lv_if_ne (tgt := 16) hx hb dX4_take_4 (by decide) (fun c1 => ?_) (fun c1 => ?_)
  · rw [if_neg c1] at h
    refine lv_aload_n hx hb dX4_take_16 rfl (lv_at hl 0 rfl) ?_
    refine gX10_signsLeft C hP fl_X4_23 dX4_take_17 (v := (S.1 28)) rfl ?_
    refine lv_if_ne (tgt := 86) hx hb dX4_take_20 (by decide) (fun c2 => ?_) (fun c2 => ?_)
    · refine lv_aload_n hx hb dX4_take_86 rfl (lv_at hl 0 rfl) ?_
      refine lv_dup hx hb dX4_take_87 rfl ?_
      refine gX10_signsLeft C hP fl_X4_23 dX4_take_88 (v := (S.1 28)) rfl ?_
      refine lv_iconst (v := (1 : Int32)) hx hb dX4_take_91 (by decide) ?_
      refine lv_isub hx hb dX4_take_92 ?_
      refine pX10_signsLeft C hP (hDA _) hS fl_X4_23 dX4_take_93 (fun H locs hP hS => ?_)
      refine lv_aload_n hx hb dX4_take_96 rfl (lv_at hl 0 rfl) ?_
      refine gX10_word C hP fl_X4_20 dX4_take_97 (v := (S.1 27)) rfl ?_
      refine lv_iconst (v := (5 : Int32)) hx hb dX4_take_100 (by decide) ?_
      refine lv_aload_n hx hb dX4_take_101 rfl (lv_at hl 0 rfl) ?_
      refine gX10_signsLeft C hP fl_X4_23 dX4_take_102 (v := ((S.1 28) - (1 : Int32))) rfl ?_
      refine lv_imul hx hb dX4_take_105 ?_
      refine lv_ishr hx hb dX4_take_106 ?_
      refine lv_bipush (v := (31 : Int32)) hx hb dX4_take_107 (by decide) ?_
      refine lv_iand hx hb dX4_take_109 ?_
      rw [← h]
      exact wrX_iret C hr hlocks hP hS dX4_take_110
    · exact absurd c2 c1
  · rw [if_pos c1] at h
    refine lv_aload_n hx hb dX4_take_7 rfl (lv_at hl 0 rfl) ?_
    refine gX10_wordsLeft C hP fl_X4_17 dX4_take_8 (v := (S.1 26)) rfl ?_
    refine lv_if_gt (tgt := 16) hx hb dX4_take_11 (by decide) (fun c3 => ?_) (fun c3 => ?_)
    · rw [if_pos c3] at h
      refine lv_aload_n hx hb dX4_take_16 rfl (lv_at hl 0 rfl) ?_
      refine gX10_signsLeft C hP fl_X4_23 dX4_take_17 (v := (S.1 28)) rfl ?_
      refine lv_if_ne (tgt := 86) hx hb dX4_take_20 (by decide) (fun c4 => ?_) (fun c4 => ?_)
      · exact absurd c1 c4
      · refine lv_aload_n hx hb dX4_take_23 rfl (lv_at hl 0 rfl) ?_
        refine lv_aload_n hx hb dX4_take_24 rfl (lv_at hl 0 rfl) ?_
        refine gX10_memory C hP fl_X4_7 dX4_take_25 ?_
        refine lv_aload_n hx hb dX4_take_28 rfl (lv_at hl 0 rfl) ?_
        refine gX10_at C hP fl_X4_13 dX4_take_29 (v := (S.1 25)) rfl ?_
        refine rdV (Ek_est a) C hP (ef (Ek_est a) hS hE0) (c_X2_word l D k a _ (S.1 25)) my_X2_word ml_X4_26 (rX1 C hP) rfl hl.1 (rest := [.ref (a 10)]) rfl (Nat.le_of_ble_eq_true rfl) ⟨rfl, rfl, Nat.le_of_ble_eq_true rfl, Nat.le_of_ble_eq_true rfl⟩ ⟨Nat.zero_le _, Nat.zero_le _⟩ dX4_take_32 ?_
        refine pX10_word C hP (hDA _) hS fl_X4_20 dX4_take_35 (fun H locs hP hS => ?_)
        refine lv_aload_n hx hb dX4_take_38 rfl (lv_at hl 0 rfl) ?_
        refine lv_dup hx hb dX4_take_39 rfl ?_
        refine gX10_at C hP fl_X4_13 dX4_take_40 (v := (S.1 25)) rfl ?_
        refine lv_iconst (v := (2 : Int32)) hx hb dX4_take_43 (by decide) ?_
        refine lv_iadd hx hb dX4_take_44 ?_
        refine pX10_at C hP (hDA _) hS fl_X4_13 dX4_take_45 (fun H locs hP hS => ?_)
        refine lv_aload_n hx hb dX4_take_48 rfl (lv_at hl 0 rfl) ?_
        refine gX10_word C hP fl_X4_20 dX4_take_49 (v := (fX2_word S (S.1 25))) rfl ?_
        refine lv_ldc (v := (32768 : Int32)) hx hb hown (hts _ ct_X4_31) dX4_take_52 ?_
        refine lv_icmp_lt (tgt := 61) hx hb dX4_take_54 (by decide) (fun c5 => ?_) (fun c5 => ?_)
        · rw [if_pos c5] at h
          refine lv_iconst (v := (0 : Int32)) hx hb dX4_take_61 (by decide) ?_
          refine lv_istore_n (lv' := [(1, .int (0 : Int32)), (0, .ref (a 10))]) hx hb dX4_take_62 rfl hl (by decide) rfl (fun ls hl => ?_)
          refine lv_aload_n hx hb dX4_take_63 rfl (lv_at hl 1 rfl) ?_
          refine lv_iload_n hx hb dX4_take_64 rfl (lv_at hl 0 rfl) ?_
          refine lv_if_eq (tgt := 72) hx hb dX4_take_65 (by decide) (fun c6 => ?_) (fun c6 => ?_)
          · refine lv_aload_n hx hb dX4_take_72 rfl (lv_at hl 1 rfl) ?_
            refine gX10_wordsLeft C hP fl_X4_17 dX4_take_73 (v := (S.1 26)) rfl ?_
            refine lv_iconst (v := (1 : Int32)) hx hb dX4_take_76 (by decide) ?_
            refine lv_isub hx hb dX4_take_77 ?_
            refine pX10_wordsLeft C hP (hDA _) hS fl_X4_17 dX4_take_78 (fun H locs hP hS => ?_)
            refine lv_aload_n hx hb dX4_take_81 rfl (lv_at hl 1 rfl) ?_
            refine lv_iconst (v := (3 : Int32)) hx hb dX4_take_82 (by decide) ?_
            refine pX10_signsLeft C hP (hDA _) hS fl_X4_23 dX4_take_83 (fun H locs hP hS => ?_)
            refine lv_aload_n hx hb dX4_take_86 rfl (lv_at hl 1 rfl) ?_
            refine lv_dup hx hb dX4_take_87 rfl ?_
            refine gX10_signsLeft C hP fl_X4_23 dX4_take_88 (v := (3 : Int32)) rfl ?_
            refine lv_iconst (v := (1 : Int32)) hx hb dX4_take_91 (by decide) ?_
            refine lv_isub hx hb dX4_take_92 ?_
            refine pX10_signsLeft C hP (hDA _) hS fl_X4_23 dX4_take_93 (fun H locs hP hS => ?_)
            refine lv_aload_n hx hb dX4_take_96 rfl (lv_at hl 1 rfl) ?_
            refine gX10_word C hP fl_X4_20 dX4_take_97 (v := (fX2_word S (S.1 25))) rfl ?_
            refine lv_iconst (v := (5 : Int32)) hx hb dX4_take_100 (by decide) ?_
            refine lv_aload_n hx hb dX4_take_101 rfl (lv_at hl 1 rfl) ?_
            refine gX10_signsLeft C hP fl_X4_23 dX4_take_102 (v := ((3 : Int32) - (1 : Int32))) rfl ?_
            refine lv_imul hx hb dX4_take_105 ?_
            refine lv_ishr hx hb dX4_take_106 ?_
            refine lv_bipush (v := (31 : Int32)) hx hb dX4_take_107 (by decide) ?_
            refine lv_iand hx hb dX4_take_109 ?_
            rw [← h]
            exact wrX_iret C hr hlocks hP hS dX4_take_110
          · exact absurd c6 (by decide)
        · rw [if_neg c5] at h
          refine lv_iconst (v := (1 : Int32)) hx hb dX4_take_57 (by decide) ?_
          refine lv_goto (tgt := 62) hx hb dX4_take_58 (by decide) ?_
          refine lv_istore_n (lv' := [(1, .int (1 : Int32)), (0, .ref (a 10))]) hx hb dX4_take_62 rfl hl (by decide) rfl (fun ls hl => ?_)
          refine lv_aload_n hx hb dX4_take_63 rfl (lv_at hl 1 rfl) ?_
          refine lv_iload_n hx hb dX4_take_64 rfl (lv_at hl 0 rfl) ?_
          refine lv_if_eq (tgt := 72) hx hb dX4_take_65 (by decide) (fun c7 => ?_) (fun c7 => ?_)
          · exact absurd c7 (by decide)
          · refine lv_iconst (v := (0 : Int32)) hx hb dX4_take_68 (by decide) ?_
            refine lv_goto (tgt := 78) hx hb dX4_take_69 (by decide) ?_
            refine pX10_wordsLeft C hP (hDA _) hS fl_X4_17 dX4_take_78 (fun H locs hP hS => ?_)
            refine lv_aload_n hx hb dX4_take_81 rfl (lv_at hl 1 rfl) ?_
            refine lv_iconst (v := (3 : Int32)) hx hb dX4_take_82 (by decide) ?_
            refine pX10_signsLeft C hP (hDA _) hS fl_X4_23 dX4_take_83 (fun H locs hP hS => ?_)
            refine lv_aload_n hx hb dX4_take_86 rfl (lv_at hl 1 rfl) ?_
            refine lv_dup hx hb dX4_take_87 rfl ?_
            refine gX10_signsLeft C hP fl_X4_23 dX4_take_88 (v := (3 : Int32)) rfl ?_
            refine lv_iconst (v := (1 : Int32)) hx hb dX4_take_91 (by decide) ?_
            refine lv_isub hx hb dX4_take_92 ?_
            refine pX10_signsLeft C hP (hDA _) hS fl_X4_23 dX4_take_93 (fun H locs hP hS => ?_)
            refine lv_aload_n hx hb dX4_take_96 rfl (lv_at hl 1 rfl) ?_
            refine gX10_word C hP fl_X4_20 dX4_take_97 (v := (fX2_word S (S.1 25))) rfl ?_
            refine lv_iconst (v := (5 : Int32)) hx hb dX4_take_100 (by decide) ?_
            refine lv_aload_n hx hb dX4_take_101 rfl (lv_at hl 1 rfl) ?_
            refine gX10_signsLeft C hP fl_X4_23 dX4_take_102 (v := ((3 : Int32) - (1 : Int32))) rfl ?_
            refine lv_imul hx hb dX4_take_105 ?_
            refine lv_ishr hx hb dX4_take_106 ?_
            refine lv_bipush (v := (31 : Int32)) hx hb dX4_take_107 (by decide) ?_
            refine lv_iand hx hb dX4_take_109 ?_
            rw [← h]
            exact wrX_iret C hr hlocks hP hS dX4_take_110
    · rw [if_neg c3] at h
      refine lv_iconst (v := (-1 : Int32)) hx hb dX4_take_14 (by decide) ?_
      rw [← h]
      exact wrX_iret C hr hlocks hP hS dX4_take_15
