/-- the script as a fact that no method changes -/
def Eb (b L : Nat) (xs : Nat → Int32) : Ety := fun A U H => va_X b L xs U H ∧ ¬ A b
theorem Eb_est (b L : Nat) (xs : Nat → Int32) : Est (Eb b L xs) := ⟨fun _ _ _ _ h z => ⟨z.1, fun q => z.2 (h b q)⟩, fun _ _ _ _ h z => ⟨z.1.kept (by obtain ⟨scr, h1, -⟩ := z.1; exact h b (Array.getElem?_eq_some_iff.mp h1).1 z.2), z.2⟩, fun _ _ _ _ h z => ⟨z.1.moved h.alike, z.2⟩, fun _ u U _ h z => ⟨z.1.moved (u := u) (U := U) (by rw [h]; exact Vm.Alike.refl u.vm), z.2⟩⟩
def z0 (L : Nat) (xs : Nat → Int32) : Int32 := if Int32.ofNat L ≤ (0 : Int32) then 0 else xs (0 : Int32).toNatClampNeg
set_option maxRecDepth 100000 in
set_option maxHeartbeats 4000000 in
theorem c_L_cell (l : Launch) (D : va_G) (ty : List (ClassId × FieldType)) (w : va_W) (b L : Nat) (xs : Nat → Int32) (hL : L ≤ 2049) : Rd (Eb b L xs) l D ty w yL_cell cL_cell 2 (some .int) (rmm 0 0) [.ref b, .int 0] (z0 L xs) := by
  generalize h : z0 L xs = u
  refine rd_start (by decide) (Nat.le_of_ble_eq_true rfl) ?_
  intro p e s m below meth c C hr hlocks hP hE0 ls hl
  have hl : lv_has ls 2 [(0, .ref b), (1, .int 0)] := hl
  obtain ⟨⟨hx, hb, hml, hown, hts⟩, hK⟩ := id C
  have hS : va_S (fun _ => False) s.heap s.heap [] := va_S.rf
  have hbl : b < s.heap.size := by obtain ⟨scr, h1, -⟩ := hE0.1; exact (Array.getElem?_eq_some_iff.mp h1).1
  rw [z0] at h
  refine lv_iload_n hx hb dL_cell_0 rfl (lv_at hl 1 rfl) ?_
  refine lv_aload_n hx hb dL_cell_1 rfl (lv_at hl 0 rfl) ?_
  refine va_slen hx hb hE0.1 hbl (fun q => q) hS dL_cell_2 ?_
  refine lv_icmp_ge (tgt := 12) hx hb dL_cell_3 (by decide) (fun c1 => ?_) (fun c1 => ?_)
  · rw [if_pos c1] at h
    refine lv_iconst (v := 0) hx hb dL_cell_12 (by decide) ?_
    rw [← h]
    exact rd_iret C hr hlocks dL_cell_13
  · rw [if_neg c1] at h
    have hpos : 0 < L := by
      rcases Nat.eq_zero_or_pos L with q | q
      · subst q; exact absurd (by decide) c1
      · exact q
    refine lv_aload_n hx hb dL_cell_6 rfl (lv_at hl 0 rfl) ?_
    refine lv_iload_n hx hb dL_cell_7 rfl (lv_at hl 1 rfl) ?_
    refine va_sld hx hb hE0.1 hbl (fun q => q) hS (vp_in_nI (n := 0) hpos (by omega)) dL_cell_8 ?_
    refine lv_goto (tgt := 13) hx hb dL_cell_9 (by decide) ?_
    rw [← h]
    exact rd_iret C hr hlocks dL_cell_13
def tmK (i : Nat) : Term := if i = 0 then .string "ZObjects$Speller" 96 else .string "ZObjects$Speller" 102
theorem fK_ex : ∀ i, i < 2 → Cond.exactly (tmK i) "java/lang/String" ∈ flatC (Jvm.Cond.and given_1 narrow_1) := by decide +kernel
theorem fK_co : ∀ i, i < 2 → Cond.eq (.field (tmK i) "java/lang/String" "coder" "B") (.int 0) ∈ flatC (Jvm.Cond.and given_1 narrow_1) := by decide +kernel
theorem fK_ar : ∀ i, i < 2 → Cond.arrayOf (.field (tmK i) "java/lang/String" "value" "[B") .byte ∈ flatC (Jvm.Cond.and given_1 narrow_1) := by decide +kernel
theorem fK_le : ∀ i, i < 2 → Cond.eq (.length (.field (tmK i) "java/lang/String" "value" "[B")) (.int (Int32.ofNat (ln_K.getD i 0))) ∈ flatC (Jvm.Cond.and given_1 narrow_1) := by decide +kernel
theorem fK_el : ∀ i, i < 2 → ∀ j, j < ln_K.getD i 0 → Cond.eq (.elem (.field (tmK i) "java/lang/String" "value" "[B") (.int (Int32.ofNat j))) (.int ((by_K.getD i []).getD j 0)) ∈ flatC (Jvm.Cond.and given_1 narrow_1) := by decide +kernel
theorem fK_ne : ∀ i, i < 2 → ∀ j, j < 2 → i ≠ j → Cond.not (Cond.eq (tmK i) (tmK j)) ∈ flatC (Jvm.Cond.and given_1 narrow_1) ∨ Cond.not (Cond.eq (tmK j) (tmK i)) ∈ flatC (Jvm.Cond.and given_1 narrow_1) := by decide +kernel
theorem fK_cs : Cond.eq (.static "java/lang/String" "COMPACT_STRINGS" "Z") (.int 1) ∈ flatC (Jvm.Cond.and given_1 narrow_1) := by decide +kernel
theorem fK_si : Cond.isRef (.static "jdk/internal/util/Preconditions" "SIOOBE_FORMATTER" "Ljava/util/function/BiFunction;") ∈ flatC (Jvm.Cond.and given_1 narrow_1) := by decide +kernel
theorem tK_96 : Cond.stringRef RX5 96 "0123456789.,!?_#'\"/\\<-:()" ∈ tables_1 := by decide +kernel
theorem tK_102 : Cond.stringRef RX5 102 "0123456789.,!?_#'\"/\\-:()" ∈ tables_1 := by decide +kernel
theorem tK_nest : Cond.methodLinkNest RX7 18 yX2_init "ZObjects" ∈ tables_1 := List.mem_of_getElem? (i := 32) (by decide +kernel)
theorem tK_lc : Cond.laysStatic "java/lang/String" "COMPACT_STRINGS" "Z" ∈ tables_1 := by decide +kernel
theorem tK_ls : Cond.laysStatic "jdk/internal/util/Preconditions" "SIOOBE_FORMATTER" "Ljava/util/function/BiFunction;" ∈ tables_1 := by decide +kernel
theorem tK_is : Cond.initialized "java/lang/String" ∈ tables_1 := by decide +kernel
theorem tK_ip : Cond.initialized "jdk/internal/util/Preconditions" ∈ tables_1 := by decide +kernel
/-- the texts and switches at the start, at any addresses that name them so from 20 on -/
theorem Ek_of {s : State} {args : Array Value} (hgv : (Jvm.Cond.and given_1 narrow_1).before args s = true) (hts0 : ∀ w ∈ lw_tbl, w.before args s = true) : ∃ str : Nat → Nat, ∀ ax : Nat → Nat, (∀ i, 14 ≤ i → ax i = str i) → Ek ax (fun q : Nat => s.heap.size ≤ q) s s.heap := by
  have hs := flat_of_before _ hgv
  have ht : ∀ w ∈ tables_1, w.before args s = true := fun w h => hts0 w (List.mem_append_right _ h)
  have hA : ∀ a : Nat, a < s.heap.size → ¬ (fun q : Nat => s.heap.size ≤ q) a := fun a h q => absurd h (Nat.not_lt.mpr q)
  obtain ⟨adK, adV, hV, hT⟩ := vk_Sof (args := args) (s := s) (N := 2) (tm := tmK) (len := ln_K) (byt := by_K) (A := (fun q : Nat => s.heap.size ≤ q)) (by decide +kernel) (fun i hi => hs _ (fK_ex i hi)) (fun i hi => hs _ (fK_co i hi)) (fun i hi => hs _ (fK_ar i hi)) (fun i hi => hs _ (fK_le i hi)) (fun i hi j hj => hs _ (fK_el i hi j hj)) (fun i j hi hj hij => (fK_ne i hi j hj hij).elim (fun h => Or.inl (hs _ h)) (fun h => Or.inr (hs _ h))) hA
  refine ⟨fun i => if i < 22 then adK (i - 20) else adV (i - 22), fun ax hax => ?_⟩
  have e1 : ∀ i, i < 2 → ax (20 + i) = adK i := by
    intro i hi
    rw [hax _ (by omega)]
    show (if 20 + i < 22 then adK (20 + i - 20) else _) = _
    rw [if_pos (by omega), show 20 + i - 20 = i by omega]
  have e2 : ∀ i, i < 2 → ax (22 + i) = adV i := by
    intro i hi
    rw [hax _ (by omega)]
    show (if 22 + i < 22 then _ else adV (22 + i - 22)) = _
    rw [if_neg (by omega), show 22 + i - 22 = i by omega]
  refine ⟨⟨fun i hi => ?_, fun i j hi hj hij => ?_⟩, va_Zof (ht _ tK_lc) (ht _ tK_is) (va_eqi (hs _ fK_cs)) hA, ?_, ?_, va_Zqof (ht _ tK_ls) (ht _ tK_ip) (hs _ fK_si) hA⟩
  · have h1 := hV.1 i hi
    show va_O "java/lang/String" (ax (20 + i)) _ s s.heap ∧ va_OF "java/lang/String" "coder" "B" (.int 0) (ax (20 + i)) _ s s.heap ∧ va_OF "java/lang/String" "value" "[B" (.ref (ax (22 + i))) (ax (20 + i)) _ s s.heap ∧ va_T .byte (ax (22 + i)) (ln_K.getD i 0) (fun j => .int ((by_K.getD i []).getD j 0)) _ s s.heap
    rw [e1 i hi, e2 i hi]
    exact h1
  · exact hV.2 i j hi hj (by have h1 : ax (20 + i) = ax (20 + j) := hij; rw [e1 i hi, e1 j hj] at h1; exact h1)
  · rw [show ax 20 = adK 0 from e1 0 (by decide)]
    exact vk_R.of (A := args) (ht _ tK_96) (hT 0 (by decide))
  · rw [show ax 21 = adK 1 from e1 1 (by decide)]
    exact vk_R.of (A := args) (ht _ tK_102) (hT 1 (by decide))
