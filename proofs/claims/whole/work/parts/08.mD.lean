def fX8_within_L : Nat → Nat → XS → Int32 → Int32 → Int32 → Int32 → Option (Int32 × XS)
  | 0, _, _, _, _, _, _ => none
  | n + 1, b, S, y1, y2, y3, y4 => if b = 19 then (if (100 : Int32) < y3 then (ob (gd y1 101) (fun _ => (ob (gd (0 : Int32) 101) (fun _ => (ob (gd (0 : Int32) 102) (fun _ => (fX8_within_L n 69 (pA (pA (pA S 4 y1 (vp_nar .boolean (1 : Int32))) 5 (0 : Int32) y1) 6 (0 : Int32) (fX8_link (pA (pA S 4 y1 (vp_nar .boolean (1 : Int32))) 5 (0 : Int32) y1) y1 (2 : Int32))) y1 y2 (1 : Int32) (1 : Int32)))))))) else (ob (gd y3 101) (fun _ => (fX8_within_L n 19 (pA S 4 y3 (vp_nar .boolean (0 : Int32))) y1 y2 (y3 + (1 : Int32)) 0)))) else (if y4 ≤ 0 then (if y3 ≤ y2 then some ((0 : Int32), S) else (ob (gd y2 101) (fun _ => some ((S.2 5 y2.toNatClampNeg), S)))) else (ob (gd (y4 - (1 : Int32)) 102) (fun _ => (if (bI (fX8_isObject S (S.2 6 (y4 - (1 : Int32)).toNatClampNeg))) = 0 then (fX8_within_L n 69 S y1 y2 y3 (y4 + (-1 : Int32))) else (ob (gd (S.2 6 (y4 - (1 : Int32)).toNatClampNeg) 101) (fun _ => (if (S.2 4 (S.2 6 (y4 - (1 : Int32)).toNatClampNeg).toNatClampNeg) = 0 then (ob (gd (S.2 6 (y4 - (1 : Int32)).toNatClampNeg) 101) (fun _ => (ob (gd y3 101) (fun _ => (ob (gd (y4 - (1 : Int32)) 102) (fun _ => (ob (gd y4 102) (fun _ => (fX8_within_L n 69 (pA (pA (pA (pA S 4 (S.2 6 (y4 - (1 : Int32)).toNatClampNeg) (vp_nar .boolean (1 : Int32))) 5 y3 (S.2 6 (y4 - (1 : Int32)).toNatClampNeg)) 6 (y4 - (1 : Int32)) (fX8_link (pA (pA S 4 (S.2 6 (y4 - (1 : Int32)).toNatClampNeg) (vp_nar .boolean (1 : Int32))) 5 y3 (S.2 6 (y4 - (1 : Int32)).toNatClampNeg)) (S.2 6 (y4 - (1 : Int32)).toNatClampNeg) (1 : Int32))) 6 y4 (fX8_link (pA (pA (pA S 4 (S.2 6 (y4 - (1 : Int32)).toNatClampNeg) (vp_nar .boolean (1 : Int32))) 5 y3 (S.2 6 (y4 - (1 : Int32)).toNatClampNeg)) 6 (y4 - (1 : Int32)) (fX8_link (pA (pA S 4 (S.2 6 (y4 - (1 : Int32)).toNatClampNeg) (vp_nar .boolean (1 : Int32))) 5 y3 (S.2 6 (y4 - (1 : Int32)).toNatClampNeg)) (S.2 6 (y4 - (1 : Int32)).toNatClampNeg) (1 : Int32))) (S.2 6 (y4 - (1 : Int32)).toNatClampNeg) (2 : Int32))) y1 y2 (y3 + (1 : Int32)) (y4 + (1 : Int32))))))))))) else (fX8_within_L n 69 S y1 y2 y3 (y4 + (-1 : Int32))))))))))
def fX8_within (S : XS) (x1 : Int32) (x2 : Int32) : Option (Int32 × XS) := (if (bI (fX8_isObject S x1)) = 0 then some ((-1 : Int32), S) else (if 0 ≤ x2 then (fX8_within_L 400 19 S x1 x2 (0 : Int32) 0) else some ((-2 : Int32), S)))
set_option maxRecDepth 100000 in
set_option maxHeartbeats 4000000 in
theorem c_X8_within (l : Launch) (D : va_G) (k : Nat → ClassId) (a : Nat → Nat) (S : XS) (x1 : Int32) (x2 : Int32) (u : Int32 × XS) (h : fX8_within S x1 x2 = some u) : Wr noE l D (tyk k) (wM k a S) (wM k a u.2) yX8_within cX8_within 6 (some .int) (rmm 3 64) [.ref (a 0), .int x1, .int x2] (some (.int u.1)) := by
  refine wr_start (by decide) (Nat.le_of_ble_eq_true rfl) ?_
  intro p e s m below meth c A C hr hlocks hP hD0 hA hE0 ls hl
  have hDA : ∀ S, va_D A (wM k a S) := wM_D hD0
  have hS : va_S A s.heap s.heap [] := va_S.rf
  have hl : lv_has ls 6 [(0, .ref (a 0)), (1, .int x1), (2, .int x2)] := hl
  obtain ⟨⟨hx, hb, hml, hown, hts⟩, hK⟩ := id C
  have L : ∀ n : Nat, (∀ (S : XS) (y1 : Int32) (y2 : Int32) (y3 : Int32) (H : Heap) (locs : List Loc) (ls : Array Slot), va_P D vwCl (wM k a S) H → va_S A s.heap H locs → lv_has ls 6 [(0, .ref (a 0)), (1, .int y1), (2, .int y2), (3, .int y3)] → fX8_within_L n 19 S y1 y2 y3 0 = some u → W p l e (rmm 3 64) s m ([.ref (a 0), .int x1, .int x2] : List Value).toArray below meth c H locs 0 0 (MQ below (Qw D (wM k a u.2) (some (.int u.1)) A) ([.ref (a 0), .int x1, .int x2] : List Value).toArray s 0 0 A) (F0 m 19 ls [])) ∧ (∀ (S : XS) (y1 : Int32) (y2 : Int32) (y3 : Int32) (y4 : Int32) (H : Heap) (locs : List Loc) (ls : Array Slot), va_P D vwCl (wM k a S) H → va_S A s.heap H locs → lv_has ls 6 [(0, .ref (a 0)), (1, .int y1), (2, .int y2), (3, .int y3), (4, .int y4)] → fX8_within_L n 69 S y1 y2 y3 y4 = some u → W p l e (rmm 3 64) s m ([.ref (a 0), .int x1, .int x2] : List Value).toArray below meth c H locs 0 0 (MQ below (Qw D (wM k a u.2) (some (.int u.1)) A) ([.ref (a 0), .int x1, .int x2] : List Value).toArray s 0 0 A) (F0 m 69 ls [])) := by
    intro n
    induction n with
    | zero => exact ⟨(by intro S y1 y2 y3 H locs ls hP hS hl h; cases h), (by intro S y1 y2 y3 y4 H locs ls hP hS hl h; cases h)⟩
    | succ n ih =>
      refine ⟨?_, ?_⟩
      · intro S y1 y2 y3 H locs ls hP hS hl h
        rw [fX8_within_L] at h
        rw [if_pos rfl] at h
        refine lv_iload_n hx hb dX8_within_19 rfl (lv_at hl 3 rfl) ?_
        refine lv_bipush (v := (100 : Int32)) hx hb dX8_within_20 (by decide) ?_
        refine lv_icmp_gt (tgt := 38) hx hb dX8_within_22 (by decide) (fun c3 => ?_) (fun c3 => ?_)
        · rw [if_pos c3] at h
          refine lv_aload_n hx hb dX8_within_38 rfl (lv_at hl 0 rfl) ?_
          refine gM0_met C hP fl_X8_26 dX8_within_39 ?_
          refine lv_iload_n hx hb dX8_within_42 rfl (lv_at hl 1 rfl) ?_
          refine lv_iconst (v := (1 : Int32)) hx hb dX8_within_43 (by decide) ?_
          obtain ⟨_, hg, h⟩ := ob_some h
          refine sM5 C hP (hDA _) hS (gd_in hg) dX8_within_44 (fun H locs hP hS => ?_)
          refine lv_aload_n hx hb dX8_within_45 rfl (lv_at hl 0 rfl) ?_
          refine gM0_listed C hP fl_X8_30 dX8_within_46 ?_
          refine lv_iconst (v := (0 : Int32)) hx hb dX8_within_49 (by decide) ?_
          refine lv_iload_n hx hb dX8_within_50 rfl (lv_at hl 1 rfl) ?_
          obtain ⟨_, hg, h⟩ := ob_some h
          refine sM6 C hP (hDA _) hS (gd_in hg) dX8_within_51 (fun H locs hP hS => ?_)
          refine lv_iconst (v := (1 : Int32)) hx hb dX8_within_52 (by decide) ?_
          refine lv_istore_n (lv' := [(3, .int (1 : Int32)), (0, .ref (a 0)), (1, .int y1), (2, .int y2)]) hx hb dX8_within_53 rfl hl (by decide) rfl (fun ls hl => ?_)
          refine lv_iconst (v := (1 : Int32)) hx hb dX8_within_54 (by decide) ?_
          refine lv_istore (lv' := [(4, .int (1 : Int32)), (3, .int (1 : Int32)), (0, .ref (a 0)), (1, .int y1), (2, .int y2)]) hx hb dX8_within_55 hl (by decide) rfl (fun ls hl => ?_)
          refine lv_aload_n hx hb dX8_within_57 rfl (lv_at hl 2 rfl) ?_
          refine gM0_pile C hP fl_X8_33 dX8_within_58 ?_
          refine lv_iconst (v := (0 : Int32)) hx hb dX8_within_61 (by decide) ?_
          refine lv_aload_n hx hb dX8_within_62 rfl (lv_at hl 2 rfl) ?_
          refine lv_iload_n hx hb dX8_within_63 rfl (lv_at hl 3 rfl) ?_
          refine lv_iconst (v := (2 : Int32)) hx hb dX8_within_64 (by decide) ?_
          refine rdV noE_est C hP (ef noE_est hS hE0) (c_X8_link l D k a _ y1 (2 : Int32)) my_X8_link ml_X8_70 (rM0 C hP) rfl hl.1 (rest := [.int (0 : Int32), .ref (a 7)]) rfl (Nat.le_of_ble_eq_true rfl) ⟨rfl, rfl, Nat.le_of_ble_eq_true rfl, Nat.le_of_ble_eq_true rfl⟩ ⟨Nat.zero_le _, Nat.zero_le _⟩ dX8_within_65 ?_
          obtain ⟨_, hg, h⟩ := ob_some h
          refine sM7 C hP (hDA _) hS (gd_in hg) dX8_within_68 (fun H locs hP hS => ?_)
          exact (ih).2 _ _ _ _ _ _ _ ls hP hS (lv_sub hl [2, 3, 4, 1, 0] rfl) h
        · rw [if_neg c3] at h
          refine lv_aload_n hx hb dX8_within_25 rfl (lv_at hl 0 rfl) ?_
          refine gM0_met C hP fl_X8_26 dX8_within_26 ?_
          refine lv_iload_n hx hb dX8_within_29 rfl (lv_at hl 3 rfl) ?_
          refine lv_iconst (v := (0 : Int32)) hx hb dX8_within_30 (by decide) ?_
          obtain ⟨_, hg, h⟩ := ob_some h
          refine sM5 C hP (hDA _) hS (gd_in hg) dX8_within_31 (fun H locs hP hS => ?_)
          refine lv_iinc (v := (y3 + (1 : Int32))) (lv' := [(3, .int (y3 + (1 : Int32))), (0, .ref (a 0)), (1, .int y1), (2, .int y2)]) hx hb dX8_within_32 hl (k := 3) rfl rfl (by decide) rfl (fun ls hl => ?_)
          refine lv_goto (tgt := 19) hx hb dX8_within_35 (by decide) ?_
          exact (ih).1 _ _ _ _ _ _ ls hP hS (lv_sub hl [1, 2, 3, 0] rfl) h
      · intro S y1 y2 y3 y4 H locs ls hP hS hl h
        rw [fX8_within_L] at h
        rw [if_neg (by decide)] at h
        refine lv_iload hx hb dX8_within_69 (lv_at hl 4 rfl) ?_
        refine lv_if_le (tgt := 165) hx hb dX8_within_71 (by decide) (fun c4 => ?_) (fun c4 => ?_)
        · rw [if_pos c4] at h
          refine lv_iload_n hx hb dX8_within_165 rfl (lv_at hl 2 rfl) ?_
          refine lv_iload_n hx hb dX8_within_166 rfl (lv_at hl 3 rfl) ?_
          refine lv_icmp_ge (tgt := 179) hx hb dX8_within_167 (by decide) (fun c5 => ?_) (fun c5 => ?_)
          · rw [if_pos c5] at h
            refine lv_iconst (v := (0 : Int32)) hx hb dX8_within_179 (by decide) ?_
            rw [← Option.some.inj h]
            exact wrM_iret C hr hlocks hP hS dX8_within_180
          · rw [if_neg c5] at h
            refine lv_aload_n hx hb dX8_within_170 rfl (lv_at hl 0 rfl) ?_
            refine gM0_listed C hP fl_X8_30 dX8_within_171 ?_
            refine lv_iload_n hx hb dX8_within_174 rfl (lv_at hl 2 rfl) ?_
            obtain ⟨_, hg, h⟩ := ob_some h
            refine aM6 C hP (gd_in hg) dX8_within_175 (v := (S.2 5 y2.toNatClampNeg)) rfl ?_
            refine lv_goto (tgt := 180) hx hb dX8_within_176 (by decide) ?_
            rw [← Option.some.inj h]
            exact wrM_iret C hr hlocks hP hS dX8_within_180
        · rw [if_neg c4] at h
          refine lv_aload_n hx hb dX8_within_74 rfl (lv_at hl 0 rfl) ?_
          refine gM0_pile C hP fl_X8_33 dX8_within_75 ?_
          refine lv_iload hx hb dX8_within_78 (lv_at hl 4 rfl) ?_
          refine lv_iconst (v := (1 : Int32)) hx hb dX8_within_80 (by decide) ?_
          refine lv_isub hx hb dX8_within_81 ?_
          obtain ⟨_, hg, h⟩ := ob_some h
          refine aM7 C hP (gd_in hg) dX8_within_82 (v := (S.2 6 (y4 - (1 : Int32)).toNatClampNeg)) rfl ?_
          refine lv_istore (lv' := [(5, .int (S.2 6 (y4 - (1 : Int32)).toNatClampNeg)), (0, .ref (a 0)), (1, .int y1), (2, .int y2), (3, .int y3), (4, .int y4)]) hx hb dX8_within_83 hl (by decide) rfl (fun ls hl => ?_)
          refine lv_aload_n hx hb dX8_within_85 rfl (lv_at hl 1 rfl) ?_
          refine lv_iload hx hb dX8_within_86 (lv_at hl 0 rfl) ?_
          refine rdV noE_est C hP (ef noE_est hS hE0) (c_X8_isObject l D k a _ (S.2 6 (y4 - (1 : Int32)).toNatClampNeg)) my_X8_isObject ml_X8_66 (rM0 C hP) rfl hl.1 (rest := []) rfl (Nat.le_of_ble_eq_true rfl) ⟨rfl, rfl, Nat.le_of_ble_eq_true rfl, Nat.le_of_ble_eq_true rfl⟩ ⟨Nat.zero_le _, Nat.zero_le _⟩ dX8_within_88 ?_
          refine lv_if_eq (tgt := 104) hx hb dX8_within_91 (by decide) (fun c6 => ?_) (fun c6 => ?_)
          · rw [if_pos c6] at h
            refine lv_iinc (v := (y4 + (-1 : Int32))) (lv' := [(4, .int (y4 + (-1 : Int32))), (5, .int (S.2 6 (y4 - (1 : Int32)).toNatClampNeg)), (0, .ref (a 0)), (1, .int y1), (2, .int y2), (3, .int y3)]) hx hb dX8_within_104 hl (k := 5) rfl rfl (by decide) rfl (fun ls hl => ?_)
            refine lv_goto (tgt := 162) hx hb dX8_within_107 (by decide) ?_
            refine lv_goto (tgt := 69) hx hb dX8_within_162 (by decide) ?_
            exact (ih).2 _ _ _ _ _ _ _ ls hP hS (lv_sub hl [2, 3, 4, 5, 0] rfl) h
          · rw [if_neg c6] at h
            refine lv_aload_n hx hb dX8_within_94 rfl (lv_at hl 1 rfl) ?_
            refine gM0_met C hP fl_X8_26 dX8_within_95 ?_
            refine lv_iload hx hb dX8_within_98 (lv_at hl 0 rfl) ?_
            obtain ⟨_, hg, h⟩ := ob_some h
            refine aM5 C hP (gd_in hg) dX8_within_100 (v := (S.2 4 (S.2 6 (y4 - (1 : Int32)).toNatClampNeg).toNatClampNeg)) rfl ?_
            refine lv_if_eq (tgt := 110) hx hb dX8_within_101 (by decide) (fun c7 => ?_) (fun c7 => ?_)
            · rw [if_pos c7] at h
              refine lv_aload_n hx hb dX8_within_110 rfl (lv_at hl 1 rfl) ?_
              refine gM0_met C hP fl_X8_26 dX8_within_111 ?_
              refine lv_iload hx hb dX8_within_114 (lv_at hl 0 rfl) ?_
              refine lv_iconst (v := (1 : Int32)) hx hb dX8_within_116 (by decide) ?_
              obtain ⟨_, hg, h⟩ := ob_some h
              refine sM5 C hP (hDA _) hS (gd_in hg) dX8_within_117 (fun H locs hP hS => ?_)
              refine lv_aload_n hx hb dX8_within_118 rfl (lv_at hl 1 rfl) ?_
              refine gM0_listed C hP fl_X8_30 dX8_within_119 ?_
              refine lv_iload_n hx hb dX8_within_122 rfl (lv_at hl 4 rfl) ?_
              refine lv_iload hx hb dX8_within_123 (lv_at hl 0 rfl) ?_
              obtain ⟨_, hg, h⟩ := ob_some h
              refine sM6 C hP (hDA _) hS (gd_in hg) dX8_within_125 (fun H locs hP hS => ?_)
              refine lv_iinc (v := (y3 + (1 : Int32))) (lv' := [(3, .int (y3 + (1 : Int32))), (5, .int (S.2 6 (y4 - (1 : Int32)).toNatClampNeg)), (0, .ref (a 0)), (1, .int y1), (2, .int y2), (4, .int y4)]) hx hb dX8_within_126 hl (k := 4) rfl rfl (by decide) rfl (fun ls hl => ?_)
              refine lv_aload_n hx hb dX8_within_129 rfl (lv_at hl 2 rfl) ?_
              refine gM0_pile C hP fl_X8_33 dX8_within_130 ?_
              refine lv_iload hx hb dX8_within_133 (lv_at hl 5 rfl) ?_
              refine lv_iconst (v := (1 : Int32)) hx hb dX8_within_135 (by decide) ?_
              refine lv_isub hx hb dX8_within_136 ?_
              refine lv_aload_n hx hb dX8_within_137 rfl (lv_at hl 2 rfl) ?_
              refine lv_iload hx hb dX8_within_138 (lv_at hl 1 rfl) ?_
              refine lv_iconst (v := (1 : Int32)) hx hb dX8_within_140 (by decide) ?_
              refine rdV noE_est C hP (ef noE_est hS hE0) (c_X8_link l D k a _ (S.2 6 (y4 - (1 : Int32)).toNatClampNeg) (1 : Int32)) my_X8_link ml_X8_70 (rM0 C hP) rfl hl.1 (rest := [.int (y4 - (1 : Int32)), .ref (a 7)]) rfl (Nat.le_of_ble_eq_true rfl) ⟨rfl, rfl, Nat.le_of_ble_eq_true rfl, Nat.le_of_ble_eq_true rfl⟩ ⟨Nat.zero_le _, Nat.zero_le _⟩ dX8_within_141 ?_
              obtain ⟨_, hg, h⟩ := ob_some h
              refine sM7 C hP (hDA _) hS (gd_in hg) dX8_within_144 (fun H locs hP hS => ?_)
              refine lv_aload_n hx hb dX8_within_145 rfl (lv_at hl 2 rfl) ?_
              refine gM0_pile C hP fl_X8_33 dX8_within_146 ?_
              refine lv_iload hx hb dX8_within_149 (lv_at hl 5 rfl) ?_
              refine lv_aload_n hx hb dX8_within_151 rfl (lv_at hl 2 rfl) ?_
              refine lv_iload hx hb dX8_within_152 (lv_at hl 1 rfl) ?_
              refine lv_iconst (v := (2 : Int32)) hx hb dX8_within_154 (by decide) ?_
              refine rdV noE_est C hP (ef noE_est hS hE0) (c_X8_link l D k a _ (S.2 6 (y4 - (1 : Int32)).toNatClampNeg) (2 : Int32)) my_X8_link ml_X8_70 (rM0 C hP) rfl hl.1 (rest := [.int y4, .ref (a 7)]) rfl (Nat.le_of_ble_eq_true rfl) ⟨rfl, rfl, Nat.le_of_ble_eq_true rfl, Nat.le_of_ble_eq_true rfl⟩ ⟨Nat.zero_le _, Nat.zero_le _⟩ dX8_within_155 ?_
              obtain ⟨_, hg, h⟩ := ob_some h
              refine sM7 C hP (hDA _) hS (gd_in hg) dX8_within_158 (fun H locs hP hS => ?_)
              refine lv_iinc (v := (y4 + (1 : Int32))) (lv' := [(4, .int (y4 + (1 : Int32))), (3, .int (y3 + (1 : Int32))), (5, .int (S.2 6 (y4 - (1 : Int32)).toNatClampNeg)), (0, .ref (a 0)), (1, .int y1), (2, .int y2)]) hx hb dX8_within_159 hl (k := 5) rfl rfl (by decide) rfl (fun ls hl => ?_)
              refine lv_goto (tgt := 69) hx hb dX8_within_162 (by decide) ?_
              exact (ih).2 _ _ _ _ _ _ _ ls hP hS (lv_sub hl [3, 4, 5, 1, 0] rfl) h
            · rw [if_neg c7] at h
              refine lv_iinc (v := (y4 + (-1 : Int32))) (lv' := [(4, .int (y4 + (-1 : Int32))), (5, .int (S.2 6 (y4 - (1 : Int32)).toNatClampNeg)), (0, .ref (a 0)), (1, .int y1), (2, .int y2), (3, .int y3)]) hx hb dX8_within_104 hl (k := 5) rfl rfl (by decide) rfl (fun ls hl => ?_)
              refine lv_goto (tgt := 162) hx hb dX8_within_107 (by decide) ?_
              refine lv_goto (tgt := 69) hx hb dX8_within_162 (by decide) ?_
              exact (ih).2 _ _ _ _ _ _ _ ls hP hS (lv_sub hl [2, 3, 4, 5, 0] rfl) h
  rw [fX8_within] at h
  refine lv_aload_n hx hb dX8_within_0 rfl (lv_at hl 0 rfl) ?_
  refine lv_iload_n hx hb dX8_within_1 rfl (lv_at hl 1 rfl) ?_
  refine rdV noE_est C hP (ef noE_est hS hE0) (c_X8_isObject l D k a _ x1) my_X8_isObject ml_X8_66 (rM0 C hP) rfl hl.1 (rest := []) rfl (Nat.le_of_ble_eq_true rfl) ⟨rfl, rfl, Nat.le_of_ble_eq_true rfl, Nat.le_of_ble_eq_true rfl⟩ ⟨Nat.zero_le _, Nat.zero_le _⟩ dX8_within_2 ?_
  refine lv_if_ne (tgt := 10) hx hb dX8_within_5 (by decide) (fun c1 => ?_) (fun c1 => ?_)
  · rw [if_neg c1] at h
    refine lv_iload_n hx hb dX8_within_10 rfl (lv_at hl 2 rfl) ?_
    refine lv_if_ge (tgt := 17) hx hb dX8_within_11 (by decide) (fun c2 => ?_) (fun c2 => ?_)
    · rw [if_pos c2] at h
      refine lv_iconst (v := (0 : Int32)) hx hb dX8_within_17 (by decide) ?_
      refine lv_istore_n (lv' := [(3, .int (0 : Int32)), (0, .ref (a 0)), (1, .int x1), (2, .int x2)]) hx hb dX8_within_18 rfl hl (by decide) rfl (fun ls hl => ?_)
      exact (L 400).1 _ _ _ _ _ _ ls hP hS (lv_sub hl [1, 2, 3, 0] rfl) h
    · rw [if_neg c2] at h
      refine lv_bipush (v := (-2 : Int32)) hx hb dX8_within_14 (by decide) ?_
      rw [← Option.some.inj h]
      exact wrM_iret C hr hlocks hP hS dX8_within_16
  · rw [if_pos c1] at h
    refine lv_iconst (v := (-1 : Int32)) hx hb dX8_within_8 (by decide) ?_
    rw [← Option.some.inj h]
    exact wrM_iret C hr hlocks hP hS dX8_within_9
def fX8_rises_L : Nat → XS → Int32 → Int32 → Int32 → Option (Bool × XS)
  | 0, _, _, _, _ => none
  | n + 1, S, y1, y2, y3 => (if (bI (fX8_look S y2).1) = 0 then some (false, (fX8_look S y2).2) else (if ((fX8_look S y2).2.1 9) < y3 then (fX8_rises_L n (fX8_look S y2).2 y1 (((fX8_look S y2).2.1 11) + ((fX8_look S y2).2.1 10)) ((fX8_look S y2).2.1 9)) else some (true, (fX8_look S y2).2)))
def fX8_rises (S : XS) (x1 : Int32) : Option (Bool × XS) := (fX8_rises_L 5000 S x1 (fX8_firstOf S x1) (64 : Int32))
set_option maxRecDepth 100000 in
set_option maxHeartbeats 4000000 in
theorem c_X8_rises (l : Launch) (D : va_G) (k : Nat → ClassId) (a : Nat → Nat) (S : XS) (x1 : Int32) (u : Bool × XS) (h : fX8_rises S x1 = some u) : Wr noE l D (tyk k) (wM k a S) (wM k a u.2) yX8_rises cX8_rises 4 (some .boolean) (rmm 3 64) [.ref (a 0), .int x1] (some (.int (bI u.1))) := by
  refine wr_start (by decide) (Nat.le_of_ble_eq_true rfl) ?_
  intro p e s m below meth c A C hr hlocks hP hD0 hA hE0 ls hl
  have hDA : ∀ S, va_D A (wM k a S) := wM_D hD0
  have hS : va_S A s.heap s.heap [] := va_S.rf
  have hl : lv_has ls 4 [(0, .ref (a 0)), (1, .int x1)] := hl
  obtain ⟨⟨hx, hb, hml, hown, hts⟩, hK⟩ := id C
  have L : ∀ n : Nat, ∀ (S : XS) (y1 : Int32) (y2 : Int32) (y3 : Int32) (H : Heap) (locs : List Loc) (ls : Array Slot), va_P D vwCl (wM k a S) H → va_S A s.heap H locs → lv_has ls 4 [(0, .ref (a 0)), (1, .int y1), (2, .int y2), (3, .int y3)] → fX8_rises_L n S y1 y2 y3 = some u → W p l e (rmm 3 64) s m ([.ref (a 0), .int x1] : List Value).toArray below meth c H locs 0 0 (MQ below (Qw D (wM k a u.2) (some (.int (bI u.1))) A) ([.ref (a 0), .int x1] : List Value).toArray s 0 0 A) (F0 m 9 ls []) := by
    intro n
    induction n with
    | zero => intro S y1 y2 y3 H locs ls hP hS hl h; cases h
    | succ n ih =>
      intro S y1 y2 y3 H locs ls hP hS hl h
      rw [fX8_rises_L] at h
      refine lv_aload_n hx hb dX8_rises_9 rfl (lv_at hl 0 rfl) ?_
      refine lv_iload_n hx hb dX8_rises_10 rfl (lv_at hl 2 rfl) ?_
      refine wrV noE_est C hP (hDA _) hA hS hE0 (c_X8_look l D k a _ y2) my_X8_look ml_X8_113 (rM0 C hP) rfl hl.1 (rest := []) rfl (Nat.le_of_ble_eq_true rfl) ⟨rfl, rfl, Nat.le_of_ble_eq_true rfl, Nat.le_of_ble_eq_true rfl⟩ ⟨Nat.zero_le _, Nat.zero_le _⟩ dX8_rises_11 (fun H locs hP hS _ _ => ?_)
      refine lv_if_eq (tgt := 45) hx hb dX8_rises_14 (by decide) (fun c1 => ?_) (fun c1 => ?_)
      · rw [if_pos c1] at h
        refine lv_iconst (v := (0 : Int32)) hx hb dX8_rises_45 (by decide) ?_
        rw [← Option.some.inj h]
        exact wrM_zret (v := false) C hr hlocks hP hS dX8_rises_46
      · rw [if_neg c1] at h
        refine lv_aload_n hx hb dX8_rises_17 rfl (lv_at hl 0 rfl) ?_
        refine gM0_number C hP fl_X8_101 dX8_rises_18 (v := ((fX8_look S y2).2.1 9)) rfl ?_
        refine lv_iload_n hx hb dX8_rises_21 rfl (lv_at hl 3 rfl) ?_
        refine lv_icmp_lt (tgt := 27) hx hb dX8_rises_22 (by decide) (fun c2 => ?_) (fun c2 => ?_)
        · rw [if_pos c2] at h
          refine lv_aload_n hx hb dX8_rises_27 rfl (lv_at hl 0 rfl) ?_
          refine gM0_number C hP fl_X8_101 dX8_rises_28 (v := ((fX8_look S y2).2.1 9)) rfl ?_
          refine lv_istore_n (lv' := [(3, .int ((fX8_look S y2).2.1 9)), (0, .ref (a 0)), (1, .int y1), (2, .int y2)]) hx hb dX8_rises_31 rfl hl (by decide) rfl (fun ls hl => ?_)
          refine lv_aload_n hx hb dX8_rises_32 rfl (lv_at hl 1 rfl) ?_
          refine gM0_data C hP fl_X8_107 dX8_rises_33 (v := ((fX8_look S y2).2.1 11)) rfl ?_
          refine lv_aload_n hx hb dX8_rises_36 rfl (lv_at hl 1 rfl) ?_
          refine gM0_size C hP fl_X8_104 dX8_rises_37 (v := ((fX8_look S y2).2.1 10)) rfl ?_
          refine lv_iadd hx hb dX8_rises_40 ?_
          refine lv_istore_n (lv' := [(2, .int (((fX8_look S y2).2.1 11) + ((fX8_look S y2).2.1 10))), (3, .int ((fX8_look S y2).2.1 9)), (0, .ref (a 0)), (1, .int y1)]) hx hb dX8_rises_41 rfl hl (by decide) rfl (fun ls hl => ?_)
          refine lv_goto (tgt := 9) hx hb dX8_rises_42 (by decide) ?_
          exact ih _ _ _ _ _ _ ls hP hS (lv_sub hl [2, 3, 0, 1] rfl) h
        · rw [if_neg c2] at h
          refine lv_iconst (v := (1 : Int32)) hx hb dX8_rises_25 (by decide) ?_
          rw [← Option.some.inj h]
          exact wrM_zret (v := true) C hr hlocks hP hS dX8_rises_26
  rw [fX8_rises] at h
  refine lv_aload_n hx hb dX8_rises_0 rfl (lv_at hl 0 rfl) ?_
  refine lv_iload_n hx hb dX8_rises_1 rfl (lv_at hl 1 rfl) ?_
  refine rdV noE_est C hP (ef noE_est hS hE0) (c_X8_firstOf l D k a _ x1) my_X8_firstOf ml_X8_110 (rM0 C hP) rfl hl.1 (rest := []) rfl (Nat.le_of_ble_eq_true rfl) ⟨rfl, rfl, Nat.le_of_ble_eq_true rfl, Nat.le_of_ble_eq_true rfl⟩ ⟨Nat.zero_le _, Nat.zero_le _⟩ dX8_rises_2 ?_
  refine lv_istore_n (lv' := [(2, .int (fX8_firstOf S x1)), (0, .ref (a 0)), (1, .int x1)]) hx hb dX8_rises_5 rfl hl (by decide) rfl (fun ls hl => ?_)
  refine lv_bipush (v := (64 : Int32)) hx hb dX8_rises_6 (by decide) ?_
  refine lv_istore_n (lv' := [(3, .int (64 : Int32)), (2, .int (fX8_firstOf S x1)), (0, .ref (a 0)), (1, .int x1)]) hx hb dX8_rises_8 rfl hl (by decide) rfl (fun ls hl => ?_)
  exact L 5000 _ _ _ _ _ _ ls hP hS (lv_sub hl [2, 3, 1, 0] rfl) h
def fX8_sharesTable_L : Nat → XS → Int32 → Int32 → Option Bool
  | 0, _, _, _ => none
  | n + 1, S, y1, y2 => (if y1 ≤ y2 then some (false) else (if (fX8_word S (fX8_tableAt S y2)) = (fX8_word S (fX8_tableAt S y1)) then some (true) else (fX8_sharesTable_L n S y1 (y2 + (1 : Int32)))))
def fX8_sharesTable (S : XS) (x1 : Int32) : Option Bool := (fX8_sharesTable_L 102 S x1 (1 : Int32))
set_option maxRecDepth 100000 in
set_option maxHeartbeats 4000000 in
theorem c_X8_sharesTable (l : Launch) (D : va_G) (k : Nat → ClassId) (a : Nat → Nat) (S : XS) (x1 : Int32) (u : Bool) (h : fX8_sharesTable S x1 = some u) : Rd noE l D (tyk k) (wM k a S) yX8_sharesTable cX8_sharesTable 3 (some .boolean) (rmm 2 42) [.ref (a 0), .int x1] (bI u) := by
  refine rd_start (by decide) (Nat.le_of_ble_eq_true rfl) ?_
  intro p e s m below meth c C hr hlocks hP hE0 ls hl
  have hl : lv_has ls 3 [(0, .ref (a 0)), (1, .int x1)] := hl
  obtain ⟨⟨hx, hb, hml, hown, hts⟩, hK⟩ := id C
  have L : ∀ n : Nat, ∀ (y1 : Int32) (y2 : Int32) (ls : Array Slot), lv_has ls 3 [(0, .ref (a 0)), (1, .int y1), (2, .int y2)] → fX8_sharesTable_L n S y1 y2 = some u → W p l e (rmm 2 42) s m ([.ref (a 0), .int x1] : List Value).toArray below meth c s.heap [] 0 0 (MQ below (QcRead (bI u)) ([.ref (a 0), .int x1] : List Value).toArray s 0 0 (fun _ => False)) (F0 m 2 ls []) := by
    intro n
    induction n with
    | zero => intro y1 y2 ls hl h; cases h
    | succ n ih =>
      intro y1 y2 ls hl h
      rw [fX8_sharesTable_L] at h
      refine lv_iload_n hx hb dX8_sharesTable_2 rfl (lv_at hl 2 rfl) ?_
      refine lv_iload_n hx hb dX8_sharesTable_3 rfl (lv_at hl 1 rfl) ?_
      refine lv_icmp_ge (tgt := 36) hx hb dX8_sharesTable_4 (by decide) (fun c1 => ?_) (fun c1 => ?_)
      · rw [if_pos c1] at h
        refine lv_iconst (v := (0 : Int32)) hx hb dX8_sharesTable_36 (by decide) ?_
        rw [← Option.some.inj h]
        exact rd_zret (v := false) C hr hlocks dX8_sharesTable_37
      · rw [if_neg c1] at h
        refine lv_aload_n hx hb dX8_sharesTable_7 rfl (lv_at hl 0 rfl) ?_
        refine lv_aload_n hx hb dX8_sharesTable_8 rfl (lv_at hl 0 rfl) ?_
        refine lv_iload_n hx hb dX8_sharesTable_9 rfl (lv_at hl 2 rfl) ?_
        refine rdV noE_est C hP hE0 (c_X8_tableAt l D k a _ y2) my_X8_tableAt ml_X8_77 (rM0 C hP) rfl hl.1 (rest := [.ref (a 0)]) rfl (Nat.le_of_ble_eq_true rfl) ⟨rfl, rfl, Nat.le_of_ble_eq_true rfl, Nat.le_of_ble_eq_true rfl⟩ ⟨Nat.zero_le _, Nat.zero_le _⟩ dX8_sharesTable_10 ?_
        refine rdV noE_est C hP hE0 (c_X8_word l D k a _ (fX8_tableAt S y2)) my_X8_word ml_X8_57 (rM0 C hP) rfl hl.1 (rest := []) rfl (Nat.le_of_ble_eq_true rfl) ⟨rfl, rfl, Nat.le_of_ble_eq_true rfl, Nat.le_of_ble_eq_true rfl⟩ ⟨Nat.zero_le _, Nat.zero_le _⟩ dX8_sharesTable_13 ?_
        refine lv_aload_n hx hb dX8_sharesTable_16 rfl (lv_at hl 0 rfl) ?_
        refine lv_aload_n hx hb dX8_sharesTable_17 rfl (lv_at hl 0 rfl) ?_
        refine lv_iload_n hx hb dX8_sharesTable_18 rfl (lv_at hl 1 rfl) ?_
        refine rdV noE_est C hP hE0 (c_X8_tableAt l D k a _ y1) my_X8_tableAt ml_X8_77 (rM0 C hP) rfl hl.1 (rest := [.ref (a 0), .int (fX8_word S (fX8_tableAt S y2))]) rfl (Nat.le_of_ble_eq_true rfl) ⟨rfl, rfl, Nat.le_of_ble_eq_true rfl, Nat.le_of_ble_eq_true rfl⟩ ⟨Nat.zero_le _, Nat.zero_le _⟩ dX8_sharesTable_19 ?_
        refine rdV noE_est C hP hE0 (c_X8_word l D k a _ (fX8_tableAt S y1)) my_X8_word ml_X8_57 (rM0 C hP) rfl hl.1 (rest := [.int (fX8_word S (fX8_tableAt S y2))]) rfl (Nat.le_of_ble_eq_true rfl) ⟨rfl, rfl, Nat.le_of_ble_eq_true rfl, Nat.le_of_ble_eq_true rfl⟩ ⟨Nat.zero_le _, Nat.zero_le _⟩ dX8_sharesTable_22 ?_
        refine lv_icmp_ne (tgt := 30) hx hb dX8_sharesTable_25 (by decide) (fun c2 => ?_) (fun c2 => ?_)
        · rw [if_neg c2] at h
          refine lv_iinc (v := (y2 + (1 : Int32))) (lv' := [(2, .int (y2 + (1 : Int32))), (0, .ref (a 0)), (1, .int y1)]) hx hb dX8_sharesTable_30 hl (k := 2) rfl rfl (by decide) rfl (fun ls hl => ?_)
          refine lv_goto (tgt := 2) hx hb dX8_sharesTable_33 (by decide) ?_
          exact ih _ _ ls (lv_sub hl [1, 2, 0] rfl) h
        · rw [if_pos c2] at h
          refine lv_iconst (v := (1 : Int32)) hx hb dX8_sharesTable_28 (by decide) ?_
          rw [← Option.some.inj h]
          exact rd_zret (v := true) C hr hlocks dX8_sharesTable_29
  rw [fX8_sharesTable] at h
  refine lv_iconst (v := (1 : Int32)) hx hb dX8_sharesTable_0 (by decide) ?_
  refine lv_istore_n (lv' := [(2, .int (1 : Int32)), (0, .ref (a 0)), (1, .int x1)]) hx hb dX8_sharesTable_1 rfl hl (by decide) rfl (fun ls hl => ?_)
  exact L 102 _ _ ls (lv_sub hl [1, 2, 0] rfl) h
def fX8_has (S : XS) (x1 : Int32) (x2 : Int32) : Option (Bool × XS) := (if x2 = (1 : Int32) then (if (fX8_link S x1 (0 : Int32)) = 0 then some (false, S) else (if (bI (fX8_isObject S (fX8_link S x1 (0 : Int32)))) = 0 then some (true, S) else some (false, S))) else if x2 = (2 : Int32) then (if (fX8_link S x1 (1 : Int32)) = 0 then some (false, S) else (if (bI (fX8_isObject S (fX8_link S x1 (1 : Int32)))) = 0 then some (true, S) else some (false, S))) else if x2 = (3 : Int32) then (if (fX8_link S x1 (2 : Int32)) = 0 then some (false, S) else (if (bI (fX8_isObject S (fX8_link S x1 (2 : Int32)))) = 0 then some (true, S) else some (false, S))) else if x2 = (4 : Int32) then (ob (fX8_comesBack S x1 (0 : Int32)) (fun u11 => some (u11, S))) else if x2 = (5 : Int32) then (ob (fX8_comesBack S x1 (1 : Int32)) (fun u13 => some (u13, S))) else if x2 = (6 : Int32) then (if (bI (fX8_isObject S (fX8_link S x1 (0 : Int32)))) = 0 then some (false, S) else (ob (fX8_comes S (fX8_link S (fX8_link S x1 (0 : Int32)) (2 : Int32)) (1 : Int32) x1) (fun u16 => (if (bI u16) = 0 then some (true, S) else some (false, S))))) else if x2 = (7 : Int32) then (if (bI (fX8_isObject S (fX8_link S x1 (2 : Int32)))) = 0 then some (false, S) else (if (fX8_link S (fX8_link S x1 (2 : Int32)) (0 : Int32)) = x1 then some (false, S) else some (true, S))) else if x2 = (8 : Int32) then (if (fX8_link S x1 (1 : Int32)) = 0 then some (false, S) else (if (fX8_link S x1 (0 : Int32)) = 0 then some (true, S) else some (false, S))) else if x2 = (9 : Int32) then (ob (fX8_rises S x1) (fun u25 => some (u25.1, u25.2))) else (ob (fX8_sharesTable S x1) (fun u26 => some (u26, S))))
set_option maxRecDepth 100000 in
set_option maxHeartbeats 4000000 in
theorem c_X8_has (l : Launch) (D : va_G) (k : Nat → ClassId) (a : Nat → Nat) (S : XS) (x1 : Int32) (x2 : Int32) (u : Bool × XS) (h : fX8_has S x1 x2 = some u) : Wr noE l D (tyk k) (wM k a S) (wM k a u.2) yX8_has cX8_has 6 (some .boolean) (rmm 4 89) [.ref (a 0), .int x1, .int x2] (some (.int (bI u.1))) := by
  refine wr_start (by decide) (Nat.le_of_ble_eq_true rfl) ?_
  intro p e s m below meth c A C hr hlocks hP hD0 hA hE0 ls hl
  have hDA : ∀ S, va_D A (wM k a S) := wM_D hD0
  have hS : va_S A s.heap s.heap [] := va_S.rf
  have hl : lv_has ls 6 [(0, .ref (a 0)), (1, .int x1), (2, .int x2)] := hl
  obtain ⟨⟨hx, hb, hml, hown, hts⟩, hK⟩ := id C
  rw [fX8_has] at h
  refine lv_aload_n hx hb dX8_has_0 rfl (lv_at hl 0 rfl) ?_
  refine lv_iload_n hx hb dX8_has_1 rfl (lv_at hl 1 rfl) ?_
  refine lv_iconst (v := (0 : Int32)) hx hb dX8_has_2 (by decide) ?_
  refine rdV noE_est C hP (ef noE_est hS hE0) (c_X8_link l D k a _ x1 (0 : Int32)) my_X8_link ml_X8_70 (rM0 C hP) rfl hl.1 (rest := []) rfl (Nat.le_of_ble_eq_true rfl) ⟨rfl, rfl, Nat.le_of_ble_eq_true rfl, Nat.le_of_ble_eq_true rfl⟩ ⟨Nat.zero_le _, Nat.zero_le _⟩ dX8_has_3 ?_
  refine lv_istore_n (lv' := [(3, .int (fX8_link S x1 (0 : Int32))), (0, .ref (a 0)), (1, .int x1), (2, .int x2)]) hx hb dX8_has_6 rfl hl (by decide) rfl (fun ls hl => ?_)
  refine lv_aload_n hx hb dX8_has_7 rfl (lv_at hl 1 rfl) ?_
  refine lv_iload_n hx hb dX8_has_8 rfl (lv_at hl 2 rfl) ?_
  refine lv_iconst (v := (1 : Int32)) hx hb dX8_has_9 (by decide) ?_
  refine rdV noE_est C hP (ef noE_est hS hE0) (c_X8_link l D k a _ x1 (1 : Int32)) my_X8_link ml_X8_70 (rM0 C hP) rfl hl.1 (rest := []) rfl (Nat.le_of_ble_eq_true rfl) ⟨rfl, rfl, Nat.le_of_ble_eq_true rfl, Nat.le_of_ble_eq_true rfl⟩ ⟨Nat.zero_le _, Nat.zero_le _⟩ dX8_has_10 ?_
  refine lv_istore (lv' := [(4, .int (fX8_link S x1 (1 : Int32))), (3, .int (fX8_link S x1 (0 : Int32))), (0, .ref (a 0)), (1, .int x1), (2, .int x2)]) hx hb dX8_has_13 hl (by decide) rfl (fun ls hl => ?_)
  refine lv_aload_n hx hb dX8_has_15 rfl (lv_at hl 2 rfl) ?_
  refine lv_iload_n hx hb dX8_has_16 rfl (lv_at hl 3 rfl) ?_
  refine lv_iconst (v := (2 : Int32)) hx hb dX8_has_17 (by decide) ?_
  refine rdV noE_est C hP (ef noE_est hS hE0) (c_X8_link l D k a _ x1 (2 : Int32)) my_X8_link ml_X8_70 (rM0 C hP) rfl hl.1 (rest := []) rfl (Nat.le_of_ble_eq_true rfl) ⟨rfl, rfl, Nat.le_of_ble_eq_true rfl, Nat.le_of_ble_eq_true rfl⟩ ⟨Nat.zero_le _, Nat.zero_le _⟩ dX8_has_18 ?_
  refine lv_istore (lv' := [(5, .int (fX8_link S x1 (2 : Int32))), (4, .int (fX8_link S x1 (1 : Int32))), (3, .int (fX8_link S x1 (0 : Int32))), (0, .ref (a 0)), (1, .int x1), (2, .int x2)]) hx hb dX8_has_21 hl (by decide) rfl (fun ls hl => ?_)
  refine lv_iload_n hx hb dX8_has_23 rfl (lv_at hl 5 rfl) ?_
  by_cases c1 : x2 = (1 : Int32)
  · rw [if_pos c1] at h
    refine lv_tableIn (off := 52) (tgt := 76) hx hb dX8_has_24 (by rw [c1]; decide) (by rw [c1]; decide) (by rw [c1]; rfl) (by decide) ?_
    refine lv_iload_n hx hb dX8_has_76 rfl (lv_at hl 2 rfl) ?_
    refine lv_if_eq (tgt := 92) hx hb dX8_has_77 (by decide) (fun c2 => ?_) (fun c2 => ?_)
    · rw [if_pos c2] at h
      refine lv_iconst (v := (0 : Int32)) hx hb dX8_has_92 (by decide) ?_
      rw [← Option.some.inj h]
      exact wrM_zret (v := false) C hr hlocks hP hS dX8_has_93
    · rw [if_neg c2] at h
      refine lv_aload_n hx hb dX8_has_80 rfl (lv_at hl 3 rfl) ?_
      refine lv_iload_n hx hb dX8_has_81 rfl (lv_at hl 2 rfl) ?_
      refine rdV noE_est C hP (ef noE_est hS hE0) (c_X8_isObject l D k a _ (fX8_link S x1 (0 : Int32))) my_X8_isObject ml_X8_66 (rM0 C hP) rfl hl.1 (rest := []) rfl (Nat.le_of_ble_eq_true rfl) ⟨rfl, rfl, Nat.le_of_ble_eq_true rfl, Nat.le_of_ble_eq_true rfl⟩ ⟨Nat.zero_le _, Nat.zero_le _⟩ dX8_has_82 ?_
      refine lv_if_ne (tgt := 92) hx hb dX8_has_85 (by decide) (fun c3 => ?_) (fun c3 => ?_)
      · rw [if_neg c3] at h
        refine lv_iconst (v := (0 : Int32)) hx hb dX8_has_92 (by decide) ?_
        rw [← Option.some.inj h]
        exact wrM_zret (v := false) C hr hlocks hP hS dX8_has_93
      · rw [if_pos c3] at h
        refine lv_iconst (v := (1 : Int32)) hx hb dX8_has_88 (by decide) ?_
        refine lv_goto (tgt := 93) hx hb dX8_has_89 (by decide) ?_
        rw [← Option.some.inj h]
        exact wrM_zret (v := true) C hr hlocks hP hS dX8_has_93
  · rw [if_neg c1] at h
    by_cases c4 : x2 = (2 : Int32)
    · rw [if_pos c4] at h
      refine lv_tableIn (off := 70) (tgt := 94) hx hb dX8_has_24 (by rw [c4]; decide) (by rw [c4]; decide) (by rw [c4]; rfl) (by decide) ?_
      refine lv_iload hx hb dX8_has_94 (lv_at hl 1 rfl) ?_
      refine lv_if_eq (tgt := 112) hx hb dX8_has_96 (by decide) (fun c5 => ?_) (fun c5 => ?_)
      · rw [if_pos c5] at h
        refine lv_iconst (v := (0 : Int32)) hx hb dX8_has_112 (by decide) ?_
        rw [← Option.some.inj h]
        exact wrM_zret (v := false) C hr hlocks hP hS dX8_has_113
      · rw [if_neg c5] at h
        refine lv_aload_n hx hb dX8_has_99 rfl (lv_at hl 3 rfl) ?_
        refine lv_iload hx hb dX8_has_100 (lv_at hl 1 rfl) ?_
        refine rdV noE_est C hP (ef noE_est hS hE0) (c_X8_isObject l D k a _ (fX8_link S x1 (1 : Int32))) my_X8_isObject ml_X8_66 (rM0 C hP) rfl hl.1 (rest := []) rfl (Nat.le_of_ble_eq_true rfl) ⟨rfl, rfl, Nat.le_of_ble_eq_true rfl, Nat.le_of_ble_eq_true rfl⟩ ⟨Nat.zero_le _, Nat.zero_le _⟩ dX8_has_102 ?_
        refine lv_if_ne (tgt := 112) hx hb dX8_has_105 (by decide) (fun c6 => ?_) (fun c6 => ?_)
        · rw [if_neg c6] at h
          refine lv_iconst (v := (0 : Int32)) hx hb dX8_has_112 (by decide) ?_
          rw [← Option.some.inj h]
          exact wrM_zret (v := false) C hr hlocks hP hS dX8_has_113
        · rw [if_pos c6] at h
          refine lv_iconst (v := (1 : Int32)) hx hb dX8_has_108 (by decide) ?_
          refine lv_goto (tgt := 113) hx hb dX8_has_109 (by decide) ?_
          rw [← Option.some.inj h]
          exact wrM_zret (v := true) C hr hlocks hP hS dX8_has_113
    · rw [if_neg c4] at h
      by_cases c7 : x2 = (3 : Int32)
      · rw [if_pos c7] at h
        refine lv_tableIn (off := 90) (tgt := 114) hx hb dX8_has_24 (by rw [c7]; decide) (by rw [c7]; decide) (by rw [c7]; rfl) (by decide) ?_
        refine lv_iload hx hb dX8_has_114 (lv_at hl 0 rfl) ?_
        refine lv_if_eq (tgt := 132) hx hb dX8_has_116 (by decide) (fun c8 => ?_) (fun c8 => ?_)
        · rw [if_pos c8] at h
          refine lv_iconst (v := (0 : Int32)) hx hb dX8_has_132 (by decide) ?_
          rw [← Option.some.inj h]
          exact wrM_zret (v := false) C hr hlocks hP hS dX8_has_133
        · rw [if_neg c8] at h
          refine lv_aload_n hx hb dX8_has_119 rfl (lv_at hl 3 rfl) ?_
          refine lv_iload hx hb dX8_has_120 (lv_at hl 0 rfl) ?_
          refine rdV noE_est C hP (ef noE_est hS hE0) (c_X8_isObject l D k a _ (fX8_link S x1 (2 : Int32))) my_X8_isObject ml_X8_66 (rM0 C hP) rfl hl.1 (rest := []) rfl (Nat.le_of_ble_eq_true rfl) ⟨rfl, rfl, Nat.le_of_ble_eq_true rfl, Nat.le_of_ble_eq_true rfl⟩ ⟨Nat.zero_le _, Nat.zero_le _⟩ dX8_has_122 ?_
          refine lv_if_ne (tgt := 132) hx hb dX8_has_125 (by decide) (fun c9 => ?_) (fun c9 => ?_)
          · rw [if_neg c9] at h
            refine lv_iconst (v := (0 : Int32)) hx hb dX8_has_132 (by decide) ?_
            rw [← Option.some.inj h]
            exact wrM_zret (v := false) C hr hlocks hP hS dX8_has_133
          · rw [if_pos c9] at h
            refine lv_iconst (v := (1 : Int32)) hx hb dX8_has_128 (by decide) ?_
            refine lv_goto (tgt := 133) hx hb dX8_has_129 (by decide) ?_
            rw [← Option.some.inj h]
            exact wrM_zret (v := true) C hr hlocks hP hS dX8_has_133
      · rw [if_neg c7] at h
        by_cases c10 : x2 = (4 : Int32)
        · rw [if_pos c10] at h
          refine lv_tableIn (off := 110) (tgt := 134) hx hb dX8_has_24 (by rw [c10]; decide) (by rw [c10]; decide) (by rw [c10]; rfl) (by decide) ?_
          refine lv_aload_n hx hb dX8_has_134 rfl (lv_at hl 3 rfl) ?_
          refine lv_iload_n hx hb dX8_has_135 rfl (lv_at hl 4 rfl) ?_
          refine lv_iconst (v := (0 : Int32)) hx hb dX8_has_136 (by decide) ?_
          obtain ⟨u11, hhu11, h⟩ := ob_some h
          refine rdV noE_est C hP (ef noE_est hS hE0) (c_X8_comesBack l D k a _ x1 (0 : Int32) u11 hhu11) my_X8_comesBack ml_X8_175 (rM0 C hP) rfl hl.1 (rest := []) rfl (Nat.le_of_ble_eq_true rfl) ⟨rfl, rfl, Nat.le_of_ble_eq_true rfl, Nat.le_of_ble_eq_true rfl⟩ ⟨Nat.zero_le _, Nat.zero_le _⟩ dX8_has_137 ?_
          rw [← Option.some.inj h]
          exact wrM_zret (v := u11) C hr hlocks hP hS dX8_has_140
        · rw [if_neg c10] at h
          by_cases c12 : x2 = (5 : Int32)
          · rw [if_pos c12] at h
            refine lv_tableIn (off := 117) (tgt := 141) hx hb dX8_has_24 (by rw [c12]; decide) (by rw [c12]; decide) (by rw [c12]; rfl) (by decide) ?_
            refine lv_aload_n hx hb dX8_has_141 rfl (lv_at hl 3 rfl) ?_
            refine lv_iload_n hx hb dX8_has_142 rfl (lv_at hl 4 rfl) ?_
            refine lv_iconst (v := (1 : Int32)) hx hb dX8_has_143 (by decide) ?_
            obtain ⟨u13, hhu13, h⟩ := ob_some h
            refine rdV noE_est C hP (ef noE_est hS hE0) (c_X8_comesBack l D k a _ x1 (1 : Int32) u13 hhu13) my_X8_comesBack ml_X8_175 (rM0 C hP) rfl hl.1 (rest := []) rfl (Nat.le_of_ble_eq_true rfl) ⟨rfl, rfl, Nat.le_of_ble_eq_true rfl, Nat.le_of_ble_eq_true rfl⟩ ⟨Nat.zero_le _, Nat.zero_le _⟩ dX8_has_144 ?_
            rw [← Option.some.inj h]
            exact wrM_zret (v := u13) C hr hlocks hP hS dX8_has_147
          · rw [if_neg c12] at h
            by_cases c14 : x2 = (6 : Int32)
            · rw [if_pos c14] at h
              refine lv_tableIn (off := 124) (tgt := 148) hx hb dX8_has_24 (by rw [c14]; decide) (by rw [c14]; decide) (by rw [c14]; rfl) (by decide) ?_
              refine lv_aload_n hx hb dX8_has_148 rfl (lv_at hl 3 rfl) ?_
              refine lv_iload_n hx hb dX8_has_149 rfl (lv_at hl 2 rfl) ?_
              refine rdV noE_est C hP (ef noE_est hS hE0) (c_X8_isObject l D k a _ (fX8_link S x1 (0 : Int32))) my_X8_isObject ml_X8_66 (rM0 C hP) rfl hl.1 (rest := []) rfl (Nat.le_of_ble_eq_true rfl) ⟨rfl, rfl, Nat.le_of_ble_eq_true rfl, Nat.le_of_ble_eq_true rfl⟩ ⟨Nat.zero_le _, Nat.zero_le _⟩ dX8_has_150 ?_
              refine lv_if_eq (tgt := 175) hx hb dX8_has_153 (by decide) (fun c15 => ?_) (fun c15 => ?_)
              · rw [if_pos c15] at h
                refine lv_iconst (v := (0 : Int32)) hx hb dX8_has_175 (by decide) ?_
                rw [← Option.some.inj h]
                exact wrM_zret (v := false) C hr hlocks hP hS dX8_has_176
              · rw [if_neg c15] at h
                refine lv_aload_n hx hb dX8_has_156 rfl (lv_at hl 3 rfl) ?_
                refine lv_aload_n hx hb dX8_has_157 rfl (lv_at hl 3 rfl) ?_
                refine lv_iload_n hx hb dX8_has_158 rfl (lv_at hl 2 rfl) ?_
                refine lv_iconst (v := (2 : Int32)) hx hb dX8_has_159 (by decide) ?_
                refine rdV noE_est C hP (ef noE_est hS hE0) (c_X8_link l D k a _ (fX8_link S x1 (0 : Int32)) (2 : Int32)) my_X8_link ml_X8_70 (rM0 C hP) rfl hl.1 (rest := [.ref (a 0)]) rfl (Nat.le_of_ble_eq_true rfl) ⟨rfl, rfl, Nat.le_of_ble_eq_true rfl, Nat.le_of_ble_eq_true rfl⟩ ⟨Nat.zero_le _, Nat.zero_le _⟩ dX8_has_160 ?_
                refine lv_iconst (v := (1 : Int32)) hx hb dX8_has_163 (by decide) ?_
                refine lv_iload_n hx hb dX8_has_164 rfl (lv_at hl 4 rfl) ?_
                obtain ⟨u16, hhu16, h⟩ := ob_some h
                refine rdV noE_est C hP (ef noE_est hS hE0) (c_X8_comes l D k a _ (fX8_link S (fX8_link S x1 (0 : Int32)) (2 : Int32)) (1 : Int32) x1 u16 hhu16) my_X8_comes ml_X8_86 (rM0 C hP) rfl hl.1 (rest := []) rfl (Nat.le_of_ble_eq_true rfl) ⟨rfl, rfl, Nat.le_of_ble_eq_true rfl, Nat.le_of_ble_eq_true rfl⟩ ⟨Nat.zero_le _, Nat.zero_le _⟩ dX8_has_165 ?_
                refine lv_if_ne (tgt := 175) hx hb dX8_has_168 (by decide) (fun c17 => ?_) (fun c17 => ?_)
                · rw [if_neg c17] at h
                  refine lv_iconst (v := (0 : Int32)) hx hb dX8_has_175 (by decide) ?_
                  rw [← Option.some.inj h]
                  exact wrM_zret (v := false) C hr hlocks hP hS dX8_has_176
                · rw [if_pos c17] at h
                  refine lv_iconst (v := (1 : Int32)) hx hb dX8_has_171 (by decide) ?_
                  refine lv_goto (tgt := 176) hx hb dX8_has_172 (by decide) ?_
                  rw [← Option.some.inj h]
                  exact wrM_zret (v := true) C hr hlocks hP hS dX8_has_176
            · rw [if_neg c14] at h
              by_cases c18 : x2 = (7 : Int32)
              · rw [if_pos c18] at h
                refine lv_tableIn (off := 153) (tgt := 177) hx hb dX8_has_24 (by rw [c18]; decide) (by rw [c18]; decide) (by rw [c18]; rfl) (by decide) ?_
                refine lv_aload_n hx hb dX8_has_177 rfl (lv_at hl 3 rfl) ?_
                refine lv_iload hx hb dX8_has_178 (lv_at hl 0 rfl) ?_
                refine rdV noE_est C hP (ef noE_est hS hE0) (c_X8_isObject l D k a _ (fX8_link S x1 (2 : Int32))) my_X8_isObject ml_X8_66 (rM0 C hP) rfl hl.1 (rest := []) rfl (Nat.le_of_ble_eq_true rfl) ⟨rfl, rfl, Nat.le_of_ble_eq_true rfl, Nat.le_of_ble_eq_true rfl⟩ ⟨Nat.zero_le _, Nat.zero_le _⟩ dX8_has_180 ?_
                refine lv_if_eq (tgt := 201) hx hb dX8_has_183 (by decide) (fun c19 => ?_) (fun c19 => ?_)
                · rw [if_pos c19] at h
                  refine lv_iconst (v := (0 : Int32)) hx hb dX8_has_201 (by decide) ?_
                  rw [← Option.some.inj h]
                  exact wrM_zret (v := false) C hr hlocks hP hS dX8_has_202
                · rw [if_neg c19] at h
                  refine lv_aload_n hx hb dX8_has_186 rfl (lv_at hl 3 rfl) ?_
                  refine lv_iload hx hb dX8_has_187 (lv_at hl 0 rfl) ?_
                  refine lv_iconst (v := (0 : Int32)) hx hb dX8_has_189 (by decide) ?_
                  refine rdV noE_est C hP (ef noE_est hS hE0) (c_X8_link l D k a _ (fX8_link S x1 (2 : Int32)) (0 : Int32)) my_X8_link ml_X8_70 (rM0 C hP) rfl hl.1 (rest := []) rfl (Nat.le_of_ble_eq_true rfl) ⟨rfl, rfl, Nat.le_of_ble_eq_true rfl, Nat.le_of_ble_eq_true rfl⟩ ⟨Nat.zero_le _, Nat.zero_le _⟩ dX8_has_190 ?_
                  refine lv_iload_n hx hb dX8_has_193 rfl (lv_at hl 4 rfl) ?_
                  refine lv_icmp_eq (tgt := 201) hx hb dX8_has_194 (by decide) (fun c20 => ?_) (fun c20 => ?_)
                  · rw [if_pos c20] at h
                    refine lv_iconst (v := (0 : Int32)) hx hb dX8_has_201 (by decide) ?_
                    rw [← Option.some.inj h]
                    exact wrM_zret (v := false) C hr hlocks hP hS dX8_has_202
                  · rw [if_neg c20] at h
                    refine lv_iconst (v := (1 : Int32)) hx hb dX8_has_197 (by decide) ?_
                    refine lv_goto (tgt := 202) hx hb dX8_has_198 (by decide) ?_
                    rw [← Option.some.inj h]
                    exact wrM_zret (v := true) C hr hlocks hP hS dX8_has_202
              · rw [if_neg c18] at h
                by_cases c21 : x2 = (8 : Int32)
                · rw [if_pos c21] at h
                  refine lv_tableIn (off := 179) (tgt := 203) hx hb dX8_has_24 (by rw [c21]; decide) (by rw [c21]; decide) (by rw [c21]; rfl) (by decide) ?_
                  refine lv_iload hx hb dX8_has_203 (lv_at hl 1 rfl) ?_
                  refine lv_if_eq (tgt := 216) hx hb dX8_has_205 (by decide) (fun c22 => ?_) (fun c22 => ?_)
                  · rw [if_pos c22] at h
                    refine lv_iconst (v := (0 : Int32)) hx hb dX8_has_216 (by decide) ?_
                    rw [← Option.some.inj h]
                    exact wrM_zret (v := false) C hr hlocks hP hS dX8_has_217
                  · rw [if_neg c22] at h
                    refine lv_iload_n hx hb dX8_has_208 rfl (lv_at hl 2 rfl) ?_
                    refine lv_if_ne (tgt := 216) hx hb dX8_has_209 (by decide) (fun c23 => ?_) (fun c23 => ?_)
                    · rw [if_neg c23] at h
                      refine lv_iconst (v := (0 : Int32)) hx hb dX8_has_216 (by decide) ?_
                      rw [← Option.some.inj h]
                      exact wrM_zret (v := false) C hr hlocks hP hS dX8_has_217
                    · rw [if_pos c23] at h
                      refine lv_iconst (v := (1 : Int32)) hx hb dX8_has_212 (by decide) ?_
                      refine lv_goto (tgt := 217) hx hb dX8_has_213 (by decide) ?_
                      rw [← Option.some.inj h]
                      exact wrM_zret (v := true) C hr hlocks hP hS dX8_has_217
                · rw [if_neg c21] at h
                  by_cases c24 : x2 = (9 : Int32)
                  · rw [if_pos c24] at h
                    refine lv_tableIn (off := 194) (tgt := 218) hx hb dX8_has_24 (by rw [c24]; decide) (by rw [c24]; decide) (by rw [c24]; rfl) (by decide) ?_
                    refine lv_aload_n hx hb dX8_has_218 rfl (lv_at hl 3 rfl) ?_
                    refine lv_iload_n hx hb dX8_has_219 rfl (lv_at hl 4 rfl) ?_
                    obtain ⟨u25, hhu25, h⟩ := ob_some h
                    refine wrV noE_est C hP (hDA _) hA hS hE0 (c_X8_rises l D k a _ x1 u25 hhu25) my_X8_rises ml_X8_178 (rM0 C hP) rfl hl.1 (rest := []) rfl (Nat.le_of_ble_eq_true rfl) ⟨rfl, rfl, Nat.le_of_ble_eq_true rfl, Nat.le_of_ble_eq_true rfl⟩ ⟨Nat.zero_le _, Nat.zero_le _⟩ dX8_has_220 (fun H locs hP hS _ _ => ?_)
                    rw [← Option.some.inj h]
                    exact wrM_zret (v := u25.1) C hr hlocks hP hS dX8_has_223
                  · rw [if_neg c24] at h
                    refine lv_tableOut (tgt := 224) hx hb dX8_has_24 (ts_1_9 c1 c4 c7 c10 c12 c14 c18 c21 c24) (by decide) ?_
                    refine lv_aload_n hx hb dX8_has_224 rfl (lv_at hl 3 rfl) ?_
                    refine lv_iload_n hx hb dX8_has_225 rfl (lv_at hl 4 rfl) ?_
                    obtain ⟨u26, hhu26, h⟩ := ob_some h
                    refine rdV noE_est C hP (ef noE_est hS hE0) (c_X8_sharesTable l D k a _ x1 u26 hhu26) my_X8_sharesTable ml_X8_181 (rM0 C hP) rfl hl.1 (rest := []) rfl (Nat.le_of_ble_eq_true rfl) ⟨rfl, rfl, Nat.le_of_ble_eq_true rfl, Nat.le_of_ble_eq_true rfl⟩ ⟨Nat.zero_le _, Nat.zero_le _⟩ dX8_has_226 ?_
                    rw [← Option.some.inj h]
                    exact wrM_zret (v := u26) C hr hlocks hP hS dX8_has_229
def fX8_fault_L : Nat → Nat → XS → Int32 → Int32 → Int32 → Int32 → Option (Int32 × XS)
  | 0, _, _, _, _, _, _ => none
  | n + 1, b, S, y1, y2, y3, y4 => if b = 4 then (if (S.1 7) < y3 then some (((-1 : Int32) - y2), S) else (fX8_fault_L n 15 S y1 y2 y3 (1 : Int32))) else (if (10 : Int32) < y4 then (fX8_fault_L n 4 S y1 y2 (y3 + (1 : Int32)) 0) else (ob (fX8_has S y3 y4) (fun u3 => (if (bI u3.1) = 0 then (fX8_fault_L n 15 u3.2 y1 y2 y3 (y4 + (1 : Int32))) else (if y2 = y1 then some ((((16 : Int32) * y3) + y4), u3.2) else (fX8_fault_L n 15 u3.2 y1 (y2 + (1 : Int32)) y3 (y4 + (1 : Int32))))))))
def fX8_fault (S : XS) (x1 : Int32) : Option (Int32 × XS) := (fX8_fault_L 1300 4 S x1 (0 : Int32) (1 : Int32) 0)
set_option maxRecDepth 100000 in
set_option maxHeartbeats 4000000 in
theorem c_X8_fault (l : Launch) (D : va_G) (k : Nat → ClassId) (a : Nat → Nat) (S : XS) (x1 : Int32) (u : Int32 × XS) (h : fX8_fault S x1 = some u) : Wr noE l D (tyk k) (wM k a S) (wM k a u.2) yX8_fault cX8_fault 5 (some .int) (rmm 5 114) [.ref (a 0), .int x1] (some (.int u.1)) := by
  refine wr_start (by decide) (Nat.le_of_ble_eq_true rfl) ?_
  intro p e s m below meth c A C hr hlocks hP hD0 hA hE0 ls hl
  have hDA : ∀ S, va_D A (wM k a S) := wM_D hD0
  have hS : va_S A s.heap s.heap [] := va_S.rf
  have hl : lv_has ls 5 [(0, .ref (a 0)), (1, .int x1)] := hl
  obtain ⟨⟨hx, hb, hml, hown, hts⟩, hK⟩ := id C
  have L : ∀ n : Nat, (∀ (S : XS) (y1 : Int32) (y2 : Int32) (y3 : Int32) (H : Heap) (locs : List Loc) (ls : Array Slot), va_P D vwCl (wM k a S) H → va_S A s.heap H locs → lv_has ls 5 [(0, .ref (a 0)), (1, .int y1), (2, .int y2), (3, .int y3)] → fX8_fault_L n 4 S y1 y2 y3 0 = some u → W p l e (rmm 5 114) s m ([.ref (a 0), .int x1] : List Value).toArray below meth c H locs 0 0 (MQ below (Qw D (wM k a u.2) (some (.int u.1)) A) ([.ref (a 0), .int x1] : List Value).toArray s 0 0 A) (F0 m 4 ls [])) ∧ (∀ (S : XS) (y1 : Int32) (y2 : Int32) (y3 : Int32) (y4 : Int32) (H : Heap) (locs : List Loc) (ls : Array Slot), va_P D vwCl (wM k a S) H → va_S A s.heap H locs → lv_has ls 5 [(0, .ref (a 0)), (1, .int y1), (2, .int y2), (3, .int y3), (4, .int y4)] → fX8_fault_L n 15 S y1 y2 y3 y4 = some u → W p l e (rmm 5 114) s m ([.ref (a 0), .int x1] : List Value).toArray below meth c H locs 0 0 (MQ below (Qw D (wM k a u.2) (some (.int u.1)) A) ([.ref (a 0), .int x1] : List Value).toArray s 0 0 A) (F0 m 15 ls [])) := by
    intro n
    induction n with
    | zero => exact ⟨(by intro S y1 y2 y3 H locs ls hP hS hl h; cases h), (by intro S y1 y2 y3 y4 H locs ls hP hS hl h; cases h)⟩
    | succ n ih =>
      refine ⟨?_, ?_⟩
      · intro S y1 y2 y3 H locs ls hP hS hl h
        rw [fX8_fault_L] at h
        rw [if_pos rfl] at h
        refine lv_iload_n hx hb dX8_fault_4 rfl (lv_at hl 3 rfl) ?_
        refine lv_aload_n hx hb dX8_fault_5 rfl (lv_at hl 0 rfl) ?_
        refine gM0_objects C hP fl_X8_63 dX8_fault_6 (v := (S.1 7)) rfl ?_
        refine lv_icmp_gt (tgt := 60) hx hb dX8_fault_9 (by decide) (fun c1 => ?_) (fun c1 => ?_)
        · rw [if_pos c1] at h
          refine lv_iconst (v := (-1 : Int32)) hx hb dX8_fault_60 (by decide) ?_
          refine lv_iload_n hx hb dX8_fault_61 rfl (lv_at hl 2 rfl) ?_
          refine lv_isub hx hb dX8_fault_62 ?_
          rw [← Option.some.inj h]
          exact wrM_iret C hr hlocks hP hS dX8_fault_63
        · rw [if_neg c1] at h
          refine lv_iconst (v := (1 : Int32)) hx hb dX8_fault_12 (by decide) ?_
          refine lv_istore (lv' := [(4, .int (1 : Int32)), (0, .ref (a 0)), (1, .int y1), (2, .int y2), (3, .int y3)]) hx hb dX8_fault_13 hl (by decide) rfl (fun ls hl => ?_)
          exact (ih).2 _ _ _ _ _ _ _ ls hP hS (lv_sub hl [1, 2, 3, 4, 0] rfl) h
      · intro S y1 y2 y3 y4 H locs ls hP hS hl h
        rw [fX8_fault_L] at h
        rw [if_neg (by decide)] at h
        refine lv_iload hx hb dX8_fault_15 (lv_at hl 4 rfl) ?_
        refine lv_bipush (v := (10 : Int32)) hx hb dX8_fault_17 (by decide) ?_
        refine lv_icmp_gt (tgt := 54) hx hb dX8_fault_19 (by decide) (fun c2 => ?_) (fun c2 => ?_)
        · rw [if_pos c2] at h
          refine lv_iinc (v := (y3 + (1 : Int32))) (lv' := [(3, .int (y3 + (1 : Int32))), (0, .ref (a 0)), (1, .int y1), (2, .int y2), (4, .int y4)]) hx hb dX8_fault_54 hl (k := 3) rfl rfl (by decide) rfl (fun ls hl => ?_)
          refine lv_goto (tgt := 4) hx hb dX8_fault_57 (by decide) ?_
          exact (ih).1 _ _ _ _ _ _ ls hP hS (lv_sub hl [1, 2, 3, 0] rfl) h
        · rw [if_neg c2] at h
          refine lv_aload_n hx hb dX8_fault_22 rfl (lv_at hl 0 rfl) ?_
          refine lv_iload_n hx hb dX8_fault_23 rfl (lv_at hl 3 rfl) ?_
          refine lv_iload hx hb dX8_fault_24 (lv_at hl 4 rfl) ?_
          obtain ⟨u3, hhu3, h⟩ := ob_some h
          refine wrV noE_est C hP (hDA _) hA hS hE0 (c_X8_has l D k a _ y3 y4 u3 hhu3) my_X8_has ml_X8_184 (rM0 C hP) rfl hl.1 (rest := []) rfl (Nat.le_of_ble_eq_true rfl) ⟨rfl, rfl, Nat.le_of_ble_eq_true rfl, Nat.le_of_ble_eq_true rfl⟩ ⟨Nat.zero_le _, Nat.zero_le _⟩ dX8_fault_26 (fun H locs hP hS _ _ => ?_)
          refine lv_if_eq (tgt := 48) hx hb dX8_fault_29 (by decide) (fun c4 => ?_) (fun c4 => ?_)
          · rw [if_pos c4] at h
            refine lv_iinc (v := (y4 + (1 : Int32))) (lv' := [(4, .int (y4 + (1 : Int32))), (0, .ref (a 0)), (1, .int y1), (2, .int y2), (3, .int y3)]) hx hb dX8_fault_48 hl (k := 4) rfl rfl (by decide) rfl (fun ls hl => ?_)
            refine lv_goto (tgt := 15) hx hb dX8_fault_51 (by decide) ?_
            exact (ih).2 _ _ _ _ _ _ _ ls hP hS (lv_sub hl [1, 2, 3, 4, 0] rfl) h
          · rw [if_neg c4] at h
            refine lv_iload_n hx hb dX8_fault_32 rfl (lv_at hl 2 rfl) ?_
            refine lv_iload_n hx hb dX8_fault_33 rfl (lv_at hl 1 rfl) ?_
            refine lv_icmp_ne (tgt := 45) hx hb dX8_fault_34 (by decide) (fun c5 => ?_) (fun c5 => ?_)
            · rw [if_neg c5] at h
              refine lv_iinc (v := (y2 + (1 : Int32))) (lv' := [(2, .int (y2 + (1 : Int32))), (0, .ref (a 0)), (1, .int y1), (3, .int y3), (4, .int y4)]) hx hb dX8_fault_45 hl (k := 2) rfl rfl (by decide) rfl (fun ls hl => ?_)
              refine lv_iinc (v := (y4 + (1 : Int32))) (lv' := [(4, .int (y4 + (1 : Int32))), (2, .int (y2 + (1 : Int32))), (0, .ref (a 0)), (1, .int y1), (3, .int y3)]) hx hb dX8_fault_48 hl (k := 4) rfl rfl (by decide) rfl (fun ls hl => ?_)
              refine lv_goto (tgt := 15) hx hb dX8_fault_51 (by decide) ?_
              exact (ih).2 _ _ _ _ _ _ _ ls hP hS (lv_sub hl [2, 3, 1, 4, 0] rfl) h
            · rw [if_pos c5] at h
              refine lv_bipush (v := (16 : Int32)) hx hb dX8_fault_37 (by decide) ?_
              refine lv_iload_n hx hb dX8_fault_39 rfl (lv_at hl 3 rfl) ?_
              refine lv_imul hx hb dX8_fault_40 ?_
              refine lv_iload hx hb dX8_fault_41 (lv_at hl 4 rfl) ?_
              refine lv_iadd hx hb dX8_fault_43 ?_
              rw [← Option.some.inj h]
              exact wrM_iret C hr hlocks hP hS dX8_fault_44
  rw [fX8_fault] at h
  refine lv_iconst (v := (0 : Int32)) hx hb dX8_fault_0 (by decide) ?_
  refine lv_istore_n (lv' := [(2, .int (0 : Int32)), (0, .ref (a 0)), (1, .int x1)]) hx hb dX8_fault_1 rfl hl (by decide) rfl (fun ls hl => ?_)
  refine lv_iconst (v := (1 : Int32)) hx hb dX8_fault_2 (by decide) ?_
  refine lv_istore_n (lv' := [(3, .int (1 : Int32)), (2, .int (0 : Int32)), (0, .ref (a 0)), (1, .int x1)]) hx hb dX8_fault_3 rfl hl (by decide) rfl (fun ls hl => ?_)
  exact (L 1300).1 _ _ _ _ _ _ ls hP hS (lv_sub hl [2, 3, 1, 0] rfl) h
def fX8_judge (S : XS)  : Option (Int32 × XS) := (ob (fX8_fault S (-1 : Int32)) (fun u1 => some (((-1 : Int32) - u1.1), u1.2)))
set_option maxRecDepth 100000 in
set_option maxHeartbeats 4000000 in
theorem c_X8_judge (l : Launch) (D : va_G) (k : Nat → ClassId) (a : Nat → Nat) (S : XS)  (u : Int32 × XS) (h : fX8_judge S = some u) : Wr noE l D (tyk k) (wM k a S) (wM k a u.2) yX8_judge cX8_judge 1 (some .int) (rmm 6 138) [.ref (a 0)] (some (.int u.1)) := by
  refine wr_start (by decide) (Nat.le_of_ble_eq_true rfl) ?_
  intro p e s m below meth c A C hr hlocks hP hD0 hA hE0 ls hl
  have hDA : ∀ S, va_D A (wM k a S) := wM_D hD0
  have hS : va_S A s.heap s.heap [] := va_S.rf
  have hl : lv_has ls 1 [(0, .ref (a 0))] := hl
  obtain ⟨⟨hx, hb, hml, hown, hts⟩, hK⟩ := id C
  rw [fX8_judge] at h
  refine lv_iconst (v := (-1 : Int32)) hx hb dX8_judge_0 (by decide) ?_
  refine lv_aload_n hx hb dX8_judge_1 rfl (lv_at hl 0 rfl) ?_
  refine lv_iconst (v := (-1 : Int32)) hx hb dX8_judge_2 (by decide) ?_
  obtain ⟨u1, hhu1, h⟩ := ob_some h
  refine wrV noE_est C hP (hDA _) hA hS hE0 (c_X8_fault l D k a _ (-1 : Int32) u1 hhu1) my_X8_fault ml_X8_187 (rM0 C hP) rfl hl.1 (rest := [.int (-1 : Int32)]) rfl (Nat.le_of_ble_eq_true rfl) ⟨rfl, rfl, Nat.le_of_ble_eq_true rfl, Nat.le_of_ble_eq_true rfl⟩ ⟨Nat.zero_le _, Nat.zero_le _⟩ dX8_judge_3 (fun H locs hP hS _ _ => ?_)
  refine lv_isub hx hb dX8_judge_6 ?_
  rw [← Option.some.inj h]
  exact wrM_iret C hr hlocks hP hS dX8_judge_7
def fX8_ring (S : XS) (x1 : Int32) : Option (Int32 × XS) := (if 0 ≤ x1 then (ob (fX8_fault S x1) (fun u2 => (if 0 ≤ u2.1 then some (u2.1, u2.2) else some ((-2 : Int32), u2.2)))) else some ((-2 : Int32), S))
set_option maxRecDepth 100000 in
set_option maxHeartbeats 4000000 in
theorem c_X8_ring (l : Launch) (D : va_G) (k : Nat → ClassId) (a : Nat → Nat) (S : XS) (x1 : Int32) (u : Int32 × XS) (h : fX8_ring S x1 = some u) : Wr noE l D (tyk k) (wM k a S) (wM k a u.2) yX8_ring cX8_ring 3 (some .int) (rmm 6 138) [.ref (a 0), .int x1] (some (.int u.1)) := by
  refine wr_start (by decide) (Nat.le_of_ble_eq_true rfl) ?_
  intro p e s m below meth c A C hr hlocks hP hD0 hA hE0 ls hl
  have hDA : ∀ S, va_D A (wM k a S) := wM_D hD0
  have hS : va_S A s.heap s.heap [] := va_S.rf
  have hl : lv_has ls 3 [(0, .ref (a 0)), (1, .int x1)] := hl
  obtain ⟨⟨hx, hb, hml, hown, hts⟩, hK⟩ := id C
  rw [fX8_ring] at h
  refine lv_iload_n hx hb dX8_ring_0 rfl (lv_at hl 1 rfl) ?_
  refine lv_if_ge (tgt := 8) hx hb dX8_ring_1 (by decide) (fun c1 => ?_) (fun c1 => ?_)
  · rw [if_pos c1] at h
    refine lv_aload_n hx hb dX8_ring_8 rfl (lv_at hl 0 rfl) ?_
    refine lv_iload_n hx hb dX8_ring_9 rfl (lv_at hl 1 rfl) ?_
    obtain ⟨u2, hhu2, h⟩ := ob_some h
    refine wrV noE_est C hP (hDA _) hA hS hE0 (c_X8_fault l D k a _ x1 u2 hhu2) my_X8_fault ml_X8_187 (rM0 C hP) rfl hl.1 (rest := []) rfl (Nat.le_of_ble_eq_true rfl) ⟨rfl, rfl, Nat.le_of_ble_eq_true rfl, Nat.le_of_ble_eq_true rfl⟩ ⟨Nat.zero_le _, Nat.zero_le _⟩ dX8_ring_10 (fun H locs hP hS _ _ => ?_)
    refine lv_istore_n (lv' := [(2, .int u2.1), (0, .ref (a 0)), (1, .int x1)]) hx hb dX8_ring_13 rfl hl (by decide) rfl (fun ls hl => ?_)
    refine lv_iload_n hx hb dX8_ring_14 rfl (lv_at hl 0 rfl) ?_
    refine lv_if_ge (tgt := 23) hx hb dX8_ring_15 (by decide) (fun c3 => ?_) (fun c3 => ?_)
    · rw [if_pos c3] at h
      refine lv_iload_n hx hb dX8_ring_23 rfl (lv_at hl 0 rfl) ?_
      rw [← Option.some.inj h]
      exact wrM_iret C hr hlocks hP hS dX8_ring_24
    · rw [if_neg c3] at h
      refine lv_bipush (v := (-2 : Int32)) hx hb dX8_ring_18 (by decide) ?_
      refine lv_goto (tgt := 24) hx hb dX8_ring_20 (by decide) ?_
      rw [← Option.some.inj h]
      exact wrM_iret C hr hlocks hP hS dX8_ring_24
  · rw [if_neg c1] at h
    refine lv_iconst (v := (-1 : Int32)) hx hb dX8_ring_4 (by decide) ?_
    refine lv_goto (tgt := 13) hx hb dX8_ring_5 (by decide) ?_
    refine lv_istore_n (lv' := [(2, .int (-1 : Int32)), (0, .ref (a 0)), (1, .int x1)]) hx hb dX8_ring_13 rfl hl (by decide) rfl (fun ls hl => ?_)
    refine lv_iload_n hx hb dX8_ring_14 rfl (lv_at hl 0 rfl) ?_
    refine lv_if_ge (tgt := 23) hx hb dX8_ring_15 (by decide) (fun c4 => ?_) (fun c4 => ?_)
    · exact absurd c4 (by decide)
    · refine lv_bipush (v := (-2 : Int32)) hx hb dX8_ring_18 (by decide) ?_
      refine lv_goto (tgt := 24) hx hb dX8_ring_20 (by decide) ?_
      rw [← Option.some.inj h]
      exact wrM_iret C hr hlocks hP hS dX8_ring_24
