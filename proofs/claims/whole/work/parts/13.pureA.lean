/-! the pure side, first: bytes, words, links -/
section PA
variable {w : Bool} {v : Int32} {S T : XS}
theorem and255 (x : Int32) : (x &&& 255) &&& 255 = x &&& 255 := by
  rw [Int32.and_assoc]
  rfl
theorem nar8 (x : Int32) : vp_nar .byte (x.toInt8.toInt32) &&& 255 = x &&& 255 := by rw [pk_vb, bp_b]
theorem nar8' (x : Int32) : vp_nar .byte x &&& 255 = x &&& 255 := by rw [vp_nar_byte, bp_b]
theorem bI0 {b : Bool} : bI b = 0 ↔ b = false := by cases b <;> decide
theorem bI1 {b : Bool} : ¬ bI b = 0 ↔ b = true := by cases b <;> decide
theorem Rel.mem {S' T' : XS} (h : Rel w v S T) (hx : S'.1 = S.1) (hx4 : S'.2 4 = S.2 4) (hm : T'.1 = T.1) (hm1 : T'.2 1 = T.2 1) (hmem : ∀ j, T'.2 0 j = S'.2 0 j &&& 255) : Rel w v S' T' := by
  obtain ⟨h1, h2, h3, l1, l2, l3, l4, l5, l6, l7, l8, l9, l10⟩ := h
  refine ⟨h1, ?_, ?_, ?_⟩
  · unfold CX; rw [hx]; exact h2
  · unfold CM; rw [hm]; exact h3
  · unfold Lnk; rw [hx, hm, hm1, hx4]; exact ⟨l1, l2, l3, l4, l5, l6, l7, l8, hmem, l10⟩
theorem get_eq (h : Rel w v S T) (a : Int32) : fX2_get S a = fX8_at T a := by
  rw [fX2_get, fX8_at]
  rw [h.2.2.2.2.2.2.2.2.2.2.2.1]
theorem word_eq (h : Rel w v S T) (a : Int32) : fX2_word S a = fX8_word T a := by
  rw [fX2_word, fX8_word, get_eq h, get_eq h]
theorem set_rel (h : Rel w v S T) (a x : Int32) : Rel w v (fX2_set S a x) (fX8_set T a x) := by
  rw [fX2_set, fX8_set]
  by_cases c1 : a < 0
  · rw [if_pos c1, if_pos c1]; exact h
  rw [if_neg c1, if_neg c1]
  by_cases c2 : (4096 : Int32) ≤ a
  · rw [if_pos c2, if_pos c2]; exact h
  rw [if_neg c2, if_neg c2]
  refine h.mem rfl rfl rfl rfl (fun j => ?_)
  show upd (T.2 0) _ _ j = upd (S.2 0) _ _ j &&& 255
  unfold upd
  by_cases hj : j = a.toNatClampNeg
  · rw [if_pos hj, if_pos hj, nar8]
  · rw [if_neg hj, if_neg hj]; exact h.2.2.2.2.2.2.2.2.2.2.2.1 j
theorem setWord_rel (h : Rel w v S T) (a x : Int32) : Rel w v (fX2_setWord S a x) (fX8_setWord T a x) := by
  rw [fX2_setWord, fX8_setWord]
  exact set_rel (set_rel h _ _) _ _
theorem start_eq (h : Rel w v S T) (o : Int32) : fX0_start S o = fX8_entry T o := by
  obtain ⟨-, ⟨a0, a4, a5, a6, a7, a8, a10, a15⟩, ⟨b1, b2, b3⟩, -⟩ := id h
  cases w with
  | false =>
    have b2 : T.1 2 = 0 := b2
    have b3 : T.1 3 = 31 := b3
    have a5 : S.1 5 = 318 := a5
    have a8 : S.1 8 = 9 := a8
    rw [fX0_start, fX8_entry, if_pos b2, a5, a8, b3]
    grind
  | true =>
    have b2 : T.1 2 = 1 := b2
    have b3 : T.1 3 = 63 := b3
    have a5 : S.1 5 = 382 := a5
    have a8 : S.1 8 = 14 := a8
    rw [fX0_start, fX8_entry, if_neg (by rw [b2]; decide), a5, a8, b3]
    grind
theorem link_eq (h : Rel w v S T) (o q : Int32) : fX0_link S o q = fX8_link T o q := by
  obtain ⟨-, ⟨a0, a4, a5, a6, a7, a8, a10, a15⟩, ⟨b1, b2, b3⟩, -⟩ := id h
  cases w with
  | false =>
    have b2 : T.1 2 = 0 := b2
    have a4 : S.1 4 = 0 := a4
    have a6 : S.1 6 = 4 := a6
    have a7 : S.1 7 = 1 := a7
    rw [fX0_link, fX8_link, if_pos a4, if_pos b2, get_eq h, fX0_linkAt, start_eq h, a6, a7, Int32.mul_one]
  | true =>
    have b2 : T.1 2 = 1 := b2
    have a4 : S.1 4 = 1 := a4
    have a6 : S.1 6 = 6 := a6
    have a7 : S.1 7 = 2 := a7
    rw [fX0_link, fX8_link, if_neg (by rw [a4]; decide), if_neg (by rw [b2]; decide), word_eq h, fX0_linkAt, start_eq h, a6, a7, Int32.mul_comm q 2]
theorem setLink_rel (h : Rel w v S T) (o q x : Int32) : Rel w v (fX0_setLink S o q x) (fX8_setLink T o q x) := by
  obtain ⟨-, ⟨a0, a4, a5, a6, a7, a8, a10, a15⟩, ⟨b1, b2, b3⟩, -⟩ := id h
  cases w with
  | false =>
    have b2 : T.1 2 = 0 := b2
    have a4 : S.1 4 = 0 := a4
    have a6 : S.1 6 = 4 := a6
    have a7 : S.1 7 = 1 := a7
    rw [fX0_setLink, fX8_setLink, if_pos a4, if_pos b2, fX0_linkAt, start_eq h, a6, a7, Int32.mul_one]
    exact set_rel h _ _
  | true =>
    have b2 : T.1 2 = 1 := b2
    have a4 : S.1 4 = 1 := a4
    have a6 : S.1 6 = 6 := a6
    have a7 : S.1 7 = 2 := a7
    rw [fX0_setLink, fX8_setLink, if_neg (by rw [a4]; decide), if_neg (by rw [b2]; decide), fX0_linkAt, start_eq h, a6, a7, Int32.mul_comm q 2]
    exact setWord_rel h _ _
theorem tableAt_eq (h : Rel w v S T) (o : Int32) : fX0_tableAt S o = fX8_tableAt T o := by
  obtain ⟨-, ⟨a0, a4, a5, a6, a7, a8, a10, a15⟩, ⟨b1, b2, b3⟩, -⟩ := id h
  cases w with
  | false =>
    have b2 : T.1 2 = 0 := b2
    have a8 : S.1 8 = 9 := a8
    rw [fX0_tableAt, fX8_tableAt, if_pos b2, start_eq h, a8]
    grind
  | true =>
    have b2 : T.1 2 = 1 := b2
    have a8 : S.1 8 = 14 := a8
    rw [fX0_tableAt, fX8_tableAt, if_neg (by rw [b2]; decide), start_eq h, a8]
    grind
theorem table_eq (h : Rel w v S T) (o : Int32) : fX0_table S o = fX8_word T (fX8_tableAt T o) := by
  rw [fX0_table, tableAt_eq h, word_eq h]
theorem has_eq (h : Rel w v S T) (x : Int32) : fX0_has S x = fX8_isObject T x := by
  rw [fX0_has, fX8_isObject, h.2.2.2.1]
theorem comesL_eq (h : Rel w v S T) : ∀ (n : Nat) (y1 y2 y3 y4 y5 : Int32), fX0_comesTo_L n S y1 y2 y3 y4 y5 = fX8_comes_L n T y1 y2 y3 y4 y5 := by
  intro n
  induction n with
  | zero => intros; rfl
  | succ n ih =>
    intro y1 y2 y3 y4 y5
    rw [fX0_comesTo_L, fX8_comes_L, has_eq h, link_eq h, ih]
theorem comes_eq (h : Rel w v S T) (x y z : Int32) : fX0_comesTo S x y z = fX8_comes T x y z := by
  rw [fX0_comesTo, fX8_comes, comesL_eq h]
theorem comesL_some (T : XS) (y1 y2 y3 : Int32) : ∀ (n i : Nat) (y4 : Int32), i ≤ 101 → 102 ≤ i + n → ∃ b, fX8_comes_L n T y1 y2 y3 y4 (nI i) = some b := by
  intro n
  induction n with
  | zero => intro i y4 h1 h2; omega
  | succ n ih =>
    intro i y4 h1 h2
    rw [fX8_comes_L]
    by_cases c1 : (100 : Int32) < nI i
    · rw [if_pos c1]; exact ⟨_, rfl⟩
    rw [if_neg c1]
    have hi : i ≤ 100 := by
      rcases Nat.lt_or_ge 100 i with q | q
      · exact absurd (nI_lt (a := 100) (b := i) q (by omega)) c1
      · exact q
    by_cases c2 : bI (fX8_isObject T y4) = 0
    · rw [if_pos c2]; exact ⟨_, rfl⟩
    rw [if_neg c2]
    by_cases c3 : y4 = y3
    · rw [if_pos c3]; exact ⟨_, rfl⟩
    rw [if_neg c3, show nI i + (1 : Int32) = nI (i + 1) from nI_1 i]
    exact ih (i + 1) _ (by omega) (by omega)
theorem comes_some (T : XS) (x y z : Int32) : ∃ b, fX8_comes T x y z = some b := comesL_some T x y z 102 0 x (by omega) (by omega)
theorem ob_id {α : Type} (x : Option α) : ob x (fun u => some u) = x := by cases x <;> rfl
theorem inRow_eq (h : Rel w v S T) (x z : Int32) : fX0_isInRowOf S x z = fX8_comes T (fX8_link T x 2) 1 z := by
  rw [fX0_isInRowOf, ob_id, comes_eq h, link_eq h]
theorem canLeave_eq (h : Rel w v S T) (x : Int32) : fX6_canLeave S x = fX8_canLeave T x := by
  rw [fX6_canLeave, fX8_canLeave, has_eq h, link_eq h, inRow_eq h]
theorem canLeave_some (T : XS) (x : Int32) : ∃ b, fX8_canLeave T x = some b := by
  rw [fX8_canLeave]
  by_cases c1 : fX8_link T x 0 = 0
  · rw [if_pos c1]; exact ⟨_, rfl⟩
  rw [if_neg c1]
  by_cases c2 : bI (fX8_isObject T (fX8_link T x 0)) = 0
  · rw [if_pos c2]; exact ⟨_, rfl⟩
  rw [if_neg c2]
  obtain ⟨b, hb⟩ := comes_some T (fX8_link T (fX8_link T x 0) 2) 1 x
  rw [hb]
  show ∃ b_1, (if bI b = 0 then some false else some true) = some b_1
  by_cases c3 : bI b = 0
  · rw [if_pos c3]; exact ⟨_, rfl⟩
  · rw [if_neg c3]; exact ⟨_, rfl⟩
end PA
theorem op_count {w : Bool} {v : Int32} {S T : XS} (h : Rel w v S T) : fX7_count S = fX8_count T := by
  rw [fX7_count, fX8_count, fX0_size]
  exact h.2.2.2.1
theorem op_peek {w : Bool} {v : Int32} {S T : XS} (h : Rel w v S T) (x1 : Int32) : fX7_peek S x1 = fX8_peek T x1 := by
  rw [fX7_peek, fX8_peek, get_eq h, fX2_has, fX8_at]
  by_cases c1 : x1 < 0
  · rw [if_pos c1, if_pos c1, if_pos c1]; rfl
  rw [if_neg c1, if_neg c1, if_neg c1]
  by_cases c2 : (4096 : Int32) ≤ x1
  · rw [if_pos c2, if_neg (Int32.not_lt.mpr c2)]; rfl
  · rw [if_neg c2, if_neg c2, if_pos (Int32.not_le.mp c2)]; rfl
theorem op_poke {w : Bool} {v : Int32} {S T : XS} (h : Rel w v S T) (x1 : Int32) (x2 : Int32) : ∃ (u t : Int32 × XS), fX7_poke S x1 x2 = u ∧ fX8_poke T x1 x2 = t ∧ u.1 = t.1 ∧ Rel w v u.2 t.2 := by
  refine ⟨_, _, rfl, rfl, ?_⟩
  have hs := set_rel h x1 x2
  rw [fX8_set] at hs
  rw [fX7_poke, fX8_poke, get_eq h, fX2_has, fX8_at]
  by_cases c1 : x1 < 0
  · rw [if_pos c1, if_pos c1, if_pos c1, if_pos (show bI false = 0 from rfl)]; exact ⟨rfl, h⟩
  rw [if_neg c1] at hs
  rw [if_neg c1, if_neg c1, if_neg c1]
  by_cases c2 : (4096 : Int32) ≤ x1
  · rw [if_pos c2, if_neg (Int32.not_lt.mpr c2), if_pos (show bI false = 0 from rfl)]; exact ⟨rfl, h⟩
  · rw [if_neg c2] at hs
    rw [if_neg c2, if_neg c2, if_pos (Int32.not_le.mp c2), if_neg (show ¬ bI true = 0 by decide)]
    exact ⟨rfl, hs⟩
theorem op_strict {w : Bool} {v : Int32} {S T : XS} (h : Rel w v S T) (x1 : Bool) : ∃ (u t : Int32 × XS), fX7_strict S x1 = some u ∧ fX8_strict T x1 = some t ∧ u.1 = t.1 ∧ Rel w v u.2 t.2 := by
  obtain ⟨h1, ⟨a0, a4, a5, a6, a7, a8, a10, a15⟩, ⟨b1, b2, b3⟩, l1, l2, l3, l4, ⟨b, l5⟩, l6, l7, l8, l9, l10⟩ := id h
  have hg : gz (bI b) = some () := by cases b <;> rfl
  refine ⟨(T.1 8, pS S 3 (bI x1)), (T.1 8, pS T 8 (bI x1)), ?_, ?_, rfl, ?_⟩
  · rw [fX7_strict, l4, l5, hg]; rfl
  · rw [fX8_strict, l5, hg]; rfl
  · exact ⟨h1, ⟨a0, a4, a5, a6, a7, a8, a10, a15⟩, ⟨b1, b2, b3⟩, l1, l2, l3, rfl, ⟨x1, rfl⟩, l6, l7, l8, l9, l10⟩
theorem linkOf_eq {w : Bool} {v : Int32} {S T : XS} (h : Rel w v S T) (x y : Int32) : fX7_linkOf S x y = fX8_linked T x y := by
  rw [fX7_linkOf, fX8_linked, has_eq h, link_eq h]
theorem op_parent {w : Bool} {v : Int32} {S T : XS} (h : Rel w v S T) (x1 : Int32) : fX7_parent S x1 = fX8_parent T x1 := by
  rw [fX7_parent, fX8_parent, linkOf_eq h]
theorem op_child {w : Bool} {v : Int32} {S T : XS} (h : Rel w v S T) (x1 : Int32) : fX7_child S x1 = fX8_child T x1 := by
  rw [fX7_child, fX8_child, linkOf_eq h]
theorem op_sibling {w : Bool} {v : Int32} {S T : XS} (h : Rel w v S T) (x1 : Int32) : fX7_sibling S x1 = fX8_sibling T x1 := by
  rw [fX7_sibling, fX8_sibling, linkOf_eq h]
theorem op_fallback {w : Bool} {v : Int32} {S T : XS} (h : Rel w v S T) (x1 : Int32) (x2 : Int32) : ∃ (u t : Int32 × XS), fX7_fallback S x1 x2 = u ∧ fX8_fallback T x1 x2 = t ∧ u.1 = t.1 ∧ Rel w v u.2 t.2 := by
  refine ⟨_, _, rfl, rfl, ?_⟩
  have e : fX7_defaultAt x1 = (254 : Int32) + (2 : Int32) * x1 := by rw [fX7_defaultAt]; grind
  rw [fX7_fallback, fX8_fallback, e, word_eq h, h.2.1.1, h.2.2.1.2.2]
  by_cases c1 : x1 < 1
  · rw [if_pos c1, if_pos c1]; exact ⟨rfl, h⟩
  rw [if_neg c1, if_neg c1]
  by_cases c2 : x1 ≤ cond w 63 31
  · rw [if_pos c2, if_pos c2]; exact ⟨rfl, setWord_rel h _ _⟩
  · rw [if_neg c2, if_neg c2]; exact ⟨rfl, h⟩
