theorem op_name {w : Bool} {v : Int32} {S T : XS} (h : Rel w v S T) (x1 : Int32) (x2 : Int32) : ∃ (u t : Int32 × XS), fX7_name S x1 x2 = some u ∧ fX8_name T x1 x2 = some t ∧ u.1 = t.1 ∧ Rel w v u.2 t.2 := by
  sorry
theorem op_named {w : Bool} {v : Int32} {S T : XS} (h : Rel w v S T) (x1 : Int32) : ∃ (u t : Int32 × XS), fX7_named S x1 = some u ∧ fX8_named T x1 = some t ∧ u.1 = t.1 ∧ Rel w v u.2 t.2 := by
  sorry
