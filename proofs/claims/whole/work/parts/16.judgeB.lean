/-! the judge, second: an object's faults on both sides -/
def stray (T : XS) (x : Int32) : Bool := if x = 0 then false else if bI (fX8_isObject T x) = 0 then true else false
def FF (T : XS) (o : Int32) (c : Nat) : Bool := match c with
  | 1 => stray T (fX8_link T o 0)
  | 2 => stray T (fX8_link T o 1)
  | 3 => stray T (fX8_link T o 2)
  | 4 => (fX8_comesBack T o 0).getD false
  | 5 => (fX8_comesBack T o 1).getD false
  | 6 => if bI (fX8_isObject T (fX8_link T o 0)) = 0 then false else !(fX8_comes T (fX8_link T (fX8_link T o 0) 2) 1 o).getD false
  | 7 => if bI (fX8_isObject T (fX8_link T o 2)) = 0 then false else if fX8_link T (fX8_link T o 2) 0 = o then false else true
  | 8 => if fX8_link T o 1 = 0 then false else if fX8_link T o 0 = 0 then true else false
  | 9 => ((fX8_rises T o).getD (false, T)).1
  | _ => (fX8_sharesTable T o).getD false
def mk10 (b1 b2 b3 b4 b5 b6 b7 b8 b9 b10 : Bool) : Int32 := (((((((((fX1_fault 1 b1 ||| fX1_fault 2 b2) ||| fX1_fault 3 b3) ||| fX1_fault 4 b4) ||| fX1_fault 5 b5) ||| fX1_fault 6 b6) ||| fX1_fault 7 b7) ||| fX1_fault 8 b8) ||| fX1_fault 9 b9) ||| fX1_fault 10 b10)
def mkF (F : Nat → Bool) : Int32 := mk10 (F 1) (F 2) (F 3) (F 4) (F 5) (F 6) (F 7) (F 8) (F 9) (F 10)
theorem stray_eq {w : Bool} {v : Int32} {S T : XS} (h : Rel w v S T) (x : Int32) : fX1_isStray S x = stray T x := by
  rw [fX1_isStray, stray, has_eq h]
theorem of_eq {w : Bool} {v : Int32} {S T : XS} (h : Rel w v S T) (o : Int32) (ho : fX8_isObject T o = true) : ∃ S', fX1_of S o = some (mkF (FF T o), S') ∧ eqX S S' := by
  obtain ⟨b4, e4, g4⟩ := back_eq h o 0 ho
  obtain ⟨b5, e5, g5⟩ := back_eq h o 1 ho
  obtain ⟨b9, U, V, e9, g9, hU, -⟩ := rise_eq h o
  have hUT : Rel w v U T := h.keep hU (eqM_rf T)
  obtain ⟨b10, g10⟩ := share_some h o ho
  have f4 : FF T o 4 = b4 := by show (fX8_comesBack T o 0).getD false = b4; rw [g4]; rfl
  have f5 : FF T o 5 = b5 := by show (fX8_comesBack T o 1).getD false = b5; rw [g5]; rfl
  have f9 : FF T o 9 = b9 := by show ((fX8_rises T o).getD (false, T)).1 = b9; rw [g9]; rfl
  have f10 : FF T o 10 = b10 := by show (fX8_sharesTable T o).getD false = b10; rw [g10]; rfl
  have J177 : ∀ (y2 y3 y4 : Int32) (z0 : Bool) (z1 z2 : Int32), fX1_of_J177 S o y2 y3 y4 z0 z1 z2 = some ((((z2 ||| fX1_fault z1 z0) ||| fX1_fault 9 (FF T o 9)) ||| fX1_fault 10 (FF T o 10)), U) := by
    intro y2 y3 y4 z0 z1 z2
    rw [fX1_of_J177, e9]
    show ob (fX1_sharesTable U o) _ = _
    rw [share_eq hUT, g10, f9, f10]
    rfl
  have J158 : ∀ (y4 : Int32) (z0 : Bool) (z1 z2 : Int32), fX1_of_J158 S o (fX8_link T o 0) (fX8_link T o 1) y4 z0 z1 z2 = some (((((z2 ||| fX1_fault z1 z0) ||| fX1_fault 8 (FF T o 8)) ||| fX1_fault 9 (FF T o 9)) ||| fX1_fault 10 (FF T o 10)), U) := by
    intro y4 z0 z1 z2
    rw [fX1_of_J158, J177, J177]
    show _ = some (((((z2 ||| fX1_fault z1 z0) ||| fX1_fault 8 (if fX8_link T o 1 = 0 then false else if fX8_link T o 0 = 0 then true else false)) ||| fX1_fault 9 (FF T o 9)) ||| fX1_fault 10 (FF T o 10)), U)
    by_cases c1 : fX8_link T o 1 = 0
    · rw [if_pos c1, if_pos c1]
    rw [if_neg c1, if_neg c1]
    by_cases c2 : fX8_link T o 0 = 0
    · rw [if_pos c2, if_pos c2]
    · rw [if_neg c2, if_neg c2]
  have J121 : ∀ (z0 : Bool) (z1 z2 : Int32), fX1_of_J121 S o (fX8_link T o 0) (fX8_link T o 1) (fX8_link T o 2) z0 z1 z2 = some ((((((z2 ||| fX1_fault z1 z0) ||| fX1_fault 7 (FF T o 7)) ||| fX1_fault 8 (FF T o 8)) ||| fX1_fault 9 (FF T o 9)) ||| fX1_fault 10 (FF T o 10)), U) := by
    intro z0 z1 z2
    rw [fX1_of_J121, J158, J158, has_eq h, link_eq h]
    show _ = some ((((((z2 ||| fX1_fault z1 z0) ||| fX1_fault 7 (if bI (fX8_isObject T (fX8_link T o 2)) = 0 then false else if fX8_link T (fX8_link T o 2) 0 = o then false else true)) ||| fX1_fault 8 (FF T o 8)) ||| fX1_fault 9 (FF T o 9)) ||| fX1_fault 10 (FF T o 10)), U)
    by_cases c1 : bI (fX8_isObject T (fX8_link T o 2)) = 0
    · rw [if_pos c1, if_pos c1]
    rw [if_neg c1, if_neg c1]
    by_cases c2 : fX8_link T (fX8_link T o 2) 0 = o
    · rw [if_pos c2, if_pos c2]
    · rw [if_neg c2, if_neg c2]
  refine ⟨U, ?_, hU⟩
  rw [fX1_of, link_eq h o 0, link_eq h o 1, link_eq h o 2, comes_eq h, e4, comes_eq h, e5]
  show (if bI (fX0_has S (fX8_link T o 0)) = 0 then _ else _) = _
  simp only [J121, has_eq h, inRow_eq h, stray_eq h]
  show _ = some (mk10 (stray T (fX8_link T o 0)) (stray T (fX8_link T o 1)) (stray T (fX8_link T o 2)) (FF T o 4) (FF T o 5) (if bI (fX8_isObject T (fX8_link T o 0)) = 0 then false else !(fX8_comes T (fX8_link T (fX8_link T o 0) 2) 1 o).getD false) (FF T o 7) (FF T o 8) (FF T o 9) (FF T o 10), U)
  rw [f4, f5]
  by_cases c1 : bI (fX8_isObject T (fX8_link T o 0)) = 0
  · rw [if_pos c1, if_pos c1]; rfl
  rw [if_neg c1, if_neg c1]
  obtain ⟨b6, e6⟩ := comes_some T (fX8_link T (fX8_link T o 0) 2) 1 o
  rw [e6]
  cases b6 <;> rfl
/-- one question of the reference -/
theorem has8 {w : Bool} {v : Int32} {S T T0 : XS} (h0 : Rel w v S T0) (h : Rel w v S T) (o : Int32) (ho : fX8_isObject T0 o = true) (c : Nat) (h1 : 1 ≤ c) (h2 : c ≤ 10) : ∃ T', fX8_has T o (nI c) = some (FF T0 o c, T') ∧ Rel w v S T' := by
  have el : ∀ x y, fX8_link T x y = fX8_link T0 x y := fun x y => (link_eq h x y).symm.trans (link_eq h0 x y)
  have eo : ∀ x, fX8_isObject T x = fX8_isObject T0 x := fun x => (has_eq h x).symm.trans (has_eq h0 x)
  have ec : ∀ x y z, fX8_comes T x y z = fX8_comes T0 x y z := fun x y z => (comes_eq h x y z).symm.trans (comes_eq h0 x y z)
  have ho' : fX8_isObject T o = true := by rw [eo]; exact ho
  have eb : ∀ q, ∃ b, fX8_comesBack T o q = some b ∧ fX8_comesBack T0 o q = some b := fun q => by
    obtain ⟨b, e1, e2⟩ := back_eq h o q ho'
    obtain ⟨b', e3, e4⟩ := back_eq h0 o q ho
    rw [el, ec, e3] at e1
    cases e1
    exact ⟨b, e2, e4⟩
  have es : fX8_sharesTable T o = fX8_sharesTable T0 o := (share_eq h o).symm.trans (share_eq h0 o)
  rw [fX8_has]
  rcases (show c = 1 ∨ c = 2 ∨ c = 3 ∨ c = 4 ∨ c = 5 ∨ c = 6 ∨ c = 7 ∨ c = 8 ∨ c = 9 ∨ c = 10 by omega) with rfl | rfl | rfl | rfl | rfl | rfl | rfl | rfl | rfl | rfl
  · refine ⟨T, ?_, h⟩
    rw [if_pos (by decide), el, eo]
    show _ = some (stray T0 (fX8_link T0 o 0), T)
    unfold stray
    split <;> (try rfl)
    split <;> rfl
  · refine ⟨T, ?_, h⟩
    rw [if_neg (by decide), if_pos (by decide), el, eo]
    show _ = some (stray T0 (fX8_link T0 o 1), T)
    unfold stray
    split <;> (try rfl)
    split <;> rfl
  · refine ⟨T, ?_, h⟩
    rw [if_neg (by decide), if_neg (by decide), if_pos (by decide), el, eo]
    show _ = some (stray T0 (fX8_link T0 o 2), T)
    unfold stray
    split <;> (try rfl)
    split <;> rfl
  · refine ⟨T, ?_, h⟩
    obtain ⟨b, e1, e2⟩ := eb 0
    rw [if_neg (by decide), if_neg (by decide), if_neg (by decide), if_pos (by decide), e1]
    show _ = some ((fX8_comesBack T0 o 0).getD false, T)
    rw [e2]; rfl
  · refine ⟨T, ?_, h⟩
    obtain ⟨b, e1, e2⟩ := eb 1
    rw [if_neg (by decide), if_neg (by decide), if_neg (by decide), if_neg (by decide), if_pos (by decide), e1]
    show _ = some ((fX8_comesBack T0 o 1).getD false, T)
    rw [e2]; rfl
  · refine ⟨T, ?_, h⟩
    obtain ⟨b, e1⟩ := comes_some T0 (fX8_link T0 (fX8_link T0 o 0) 2) 1 o
    rw [if_neg (by decide), if_neg (by decide), if_neg (by decide), if_neg (by decide), if_neg (by decide), if_pos (by decide), el, el, eo, ec, e1]
    show _ = some (if bI (fX8_isObject T0 (fX8_link T0 o 0)) = 0 then false else !(fX8_comes T0 (fX8_link T0 (fX8_link T0 o 0) 2) 1 o).getD false, T)
    rw [e1]
    by_cases c1 : bI (fX8_isObject T0 (fX8_link T0 o 0)) = 0
    · rw [if_pos c1, if_pos c1]
    · rw [if_neg c1, if_neg c1]; cases b <;> rfl
  · refine ⟨T, ?_, h⟩
    rw [if_neg (by decide), if_neg (by decide), if_neg (by decide), if_neg (by decide), if_neg (by decide), if_neg (by decide), if_pos (by decide), el, el, eo]
    show _ = some (if bI (fX8_isObject T0 (fX8_link T0 o 2)) = 0 then false else if fX8_link T0 (fX8_link T0 o 2) 0 = o then false else true, T)
    split
    · rfl
    · split <;> rfl
  · refine ⟨T, ?_, h⟩
    rw [if_neg (by decide), if_neg (by decide), if_neg (by decide), if_neg (by decide), if_neg (by decide), if_neg (by decide), if_neg (by decide), if_pos (by decide), el, el]
    show _ = some (if fX8_link T0 o 1 = 0 then false else if fX8_link T0 o 0 = 0 then true else false, T)
    split
    · rfl
    · split <;> rfl
  · obtain ⟨b, U, V, g1, g2, g3, g4⟩ := rise_eq h o
    obtain ⟨b', U', V', k1, k2, k3, k4⟩ := rise_eq h0 o
    rw [g1] at k1
    cases k1
    refine ⟨V, ?_, h.keep (eqX_rf S) g4⟩
    rw [if_neg (by decide), if_neg (by decide), if_neg (by decide), if_neg (by decide), if_neg (by decide), if_neg (by decide), if_neg (by decide), if_neg (by decide), if_pos (by decide), g2]
    show _ = some (((fX8_rises T0 o).getD (false, T0)).1, V)
    rw [k2]; rfl
  · refine ⟨T, ?_, h⟩
    obtain ⟨b, e1⟩ := share_some h0 o ho
    rw [if_neg (by decide), if_neg (by decide), if_neg (by decide), if_neg (by decide), if_neg (by decide), if_neg (by decide), if_neg (by decide), if_neg (by decide), if_neg (by decide), es, e1]
    show _ = some ((fX8_sharesTable T0 o).getD false, T)
    rw [e1]; rfl
