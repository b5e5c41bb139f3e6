/-! taking out of a row, moving -/
theorem cmp_i {i : Nat} (hi : i < 2 ^ 30) (k : Nat) (hk : k < 2 ^ 30) : ((Int32.ofNat k) < nI i ↔ k < i) ∧ ((Int32.ofNat k) ≤ nI i ↔ k ≤ i) := ⟨nI_ltI (a := k) (b := i) (by omega) (by omega), nI_leI (a := k) (b := i) (by omega) (by omega)⟩
theorem leaveL {w : Bool} {v : Int32} {S T : XS} (h : Rel w v S T) (p x y1 : Int32) : ∀ (n i : Nat) (at' : Int32), fX8_comes_L n T y1 1 x at' (nI i) = some true → ¬ at' = x → i ≤ 101 → ∃ U V, fX6_takeOut_L n S p x (fX0_link S x 1) at' (nI i) = some U ∧ fX8_leave_L n T x p at' (nI i) = some V ∧ Rel w v (fX0_setLink (fX0_setLink U x 0 0) x 1 0) V := by
  intro n
  induction n with
  | zero => intro i at' hc; cases hc
  | succ n ih =>
    intro i at' hc hne hi
    rw [fX8_comes_L] at hc
    have k1 := cmp_i (i := i) (by omega) 100 (by omega)
    by_cases c1 : (100 : Int32) < nI i
    · rw [if_pos c1] at hc; cases hc
    rw [if_neg c1] at hc
    by_cases c2 : bI (fX8_isObject T at') = 0
    · rw [if_pos c2] at hc; cases hc
    rw [if_neg c2, if_neg hne, show nI i + (1 : Int32) = nI (i + 1) from nI_1 i] at hc
    -- the next one is looked at, so i is below 100
    have hi99 : i < 100 := by
      rcases Nat.lt_or_ge i 100 with q | q
      · exact q
      · exfalso
        have : ¬ 100 < i := fun z => c1 (k1.1.mpr z)
        have e : i = 100 := by omega
        subst e
        cases n with
        | zero => cases hc
        | succ n =>
          rw [fX8_comes_L, if_pos (by decide)] at hc
          cases hc
    have c3 : ¬ (100 : Int32) ≤ nI i := fun q => by have := k1.2.mp q; omega
    rw [fX6_takeOut_L, fX8_leave_L, if_neg c3, if_neg c3, has_eq h, if_neg c2, link_eq h]
    by_cases c4 : fX8_link T at' 1 = x
    · rw [if_pos c4, if_pos c4]
      refine ⟨_, _, rfl, rfl, ?_⟩
      rw [link_eq h]
      exact setLink_rel (setLink_rel (setLink_rel h _ _ _) _ _ _) _ _ _
    · rw [if_neg c4, if_neg c4, show nI i + (1 : Int32) = nI (i + 1) from nI_1 i]
      exact ih (i + 1) _ hc c4 (by omega)
theorem isObj0 (T : XS) : fX8_isObject T 0 = false := by rw [fX8_isObject, if_pos (by decide)]
theorem leave_rel {w : Bool} {v : Int32} {S T : XS} (h : Rel w v S T) (x : Int32) (hc : fX8_canLeave T x = some true) : ∃ U V, fX6_leave S x = some U ∧ fX8_leave T x = some V ∧ Rel w v U V := by
  rw [fX8_canLeave] at hc
  rw [fX6_leave, fX8_leave, has_eq h, link_eq h x 0]
  by_cases c1 : fX8_link T x 0 = 0
  · rw [if_pos c1, c1, isObj0, if_pos (show bI false = 0 from rfl)]
    exact ⟨_, _, rfl, rfl, setLink_rel (setLink_rel h _ _ _) _ _ _⟩
  rw [if_neg c1] at hc
  rw [if_neg c1]
  by_cases c2 : bI (fX8_isObject T (fX8_link T x 0)) = 0
  · rw [if_pos c2] at hc; cases hc
  rw [if_neg c2] at hc
  rw [if_neg c2]
  obtain ⟨u, hu, hc⟩ := ob_some hc
  have hu' : u = true := by
    cases u with
    | true => rfl
    | false => rw [if_pos (show bI false = 0 from rfl)] at hc; cases hc
  subst hu'
  rw [fX6_takeOut, link_eq h (fX8_link T x 0) 2]
  by_cases c3 : fX8_link T (fX8_link T x 0) 2 = x
  · rw [if_pos c3, if_pos c3]
    refine ⟨_, _, rfl, rfl, ?_⟩
    rw [link_eq h]
    exact setLink_rel (setLink_rel (setLink_rel h _ _ _) _ _ _) _ _ _
  · rw [if_neg c3, if_neg c3]
    rw [fX8_comes] at hu
    obtain ⟨U, V, h1, h2, h3⟩ := leaveL h (fX8_link T x 0) x _ 102 0 _ hu c3 (by omega)
    have h1 : fX6_takeOut_L 102 S (fX8_link T x 0) x (fX0_link S x 1) (fX8_link T (fX8_link T x 0) 2) (0 : Int32) = some U := h1
    have h2 : fX8_leave_L 102 T x (fX8_link T x 0) (fX8_link T (fX8_link T x 0) 2) (0 : Int32) = some V := h2
    rw [h1, h2]
    exact ⟨_, _, rfl, rfl, h3⟩
theorem op_remove {w : Bool} {v : Int32} {S T : XS} (h : Rel w v S T) (x1 : Int32) : ∃ (u t : Int32 × XS), fX7_remove S x1 = some u ∧ fX8_remove T x1 = some t ∧ u.1 = t.1 ∧ Rel w v u.2 t.2 := by
  rw [fX7_remove, fX8_remove, has_eq h, canLeave_eq h]
  by_cases c1 : bI (fX8_isObject T x1) = 0
  · rw [if_pos c1, if_pos c1]; exact ⟨_, _, rfl, rfl, rfl, h⟩
  rw [if_neg c1, if_neg c1]
  obtain ⟨b, hb⟩ := canLeave_some T x1
  rw [hb]
  cases b with
  | false => exact ⟨_, _, rfl, rfl, rfl, h⟩
  | true =>
    obtain ⟨U, V, h1, h2, h3⟩ := leave_rel h x1 hb
    show ∃ u t, (ob (fX6_leave S x1) _) = some u ∧ (ob (fX8_leave T x1) _) = some t ∧ _
    rw [h1, h2]
    exact ⟨_, _, rfl, rfl, rfl, h3⟩
theorem enter_rel {w : Bool} {v : Int32} {S T : XS} (h : Rel w v S T) (x1 x2 : Int32) : Rel w v (fX6_enter S x1 x2) (fX8_setLink (fX8_setLink (fX8_setLink T x1 (1 : Int32) (fX8_link T x2 (2 : Int32))) x1 (0 : Int32) x2) x2 (2 : Int32) x1) := by
  rw [fX6_enter, link_eq h]
  exact setLink_rel (setLink_rel (setLink_rel h _ _ _) _ _ _) _ _ _
theorem op_move {w : Bool} {v : Int32} {S T : XS} (h : Rel w v S T) (x1 : Int32) (x2 : Int32) : ∃ (u t : Int32 × XS), fX7_move S x1 x2 = some u ∧ fX8_move T x1 x2 = some t ∧ u.1 = t.1 ∧ Rel w v u.2 t.2 := by
  rw [fX7_move, fX8_move, has_eq h, has_eq h, canLeave_eq h, comes_eq h, h.2.2.2.2.2.2.1]
  by_cases c1 : bI (fX8_isObject T x1) = 0
  · rw [if_pos c1, if_pos c1]; exact ⟨_, _, rfl, rfl, rfl, h⟩
  rw [if_neg c1, if_neg c1]
  by_cases c2 : bI (fX8_isObject T x2) = 0
  · rw [if_pos c2, if_pos c2]; exact ⟨_, _, rfl, rfl, rfl, h⟩
  rw [if_neg c2, if_neg c2]
  obtain ⟨b, hb⟩ := canLeave_some T x1
  obtain ⟨d, hd⟩ := comes_some T x2 0 x1
  rw [hb, hd]
  cases b with
  | false =>
    by_cases c3 : T.1 8 = 0
    · rw [if_pos c3]; exact ⟨_, _, rfl, rfl, rfl, h⟩
    · rw [if_neg c3]
      cases d with
      | false => exact ⟨_, _, rfl, rfl, rfl, h⟩
      | true => exact ⟨_, _, rfl, rfl, rfl, h⟩
  | true =>
    obtain ⟨U, V, h1, h2, h3⟩ := leave_rel h x1 hb
    rw [h1, h2]
    have h4 := enter_rel h3 x1 x2
    by_cases c3 : T.1 8 = 0
    · rw [if_pos c3]
      show ∃ u t, _ ∧ (if bI true = 0 then some ((-3 : Int32), T) else if T.1 8 = 0 then _ else _) = some t ∧ _
      rw [if_neg (show ¬ bI true = 0 by decide), if_pos c3]
      exact ⟨_, _, rfl, rfl, rfl, h4⟩
    · rw [if_neg c3]
      show ∃ u t, _ ∧ (if bI true = 0 then some ((-3 : Int32), T) else if T.1 8 = 0 then _ else _) = some t ∧ _
      rw [if_neg (show ¬ bI true = 0 by decide), if_neg c3]
      cases d with
      | false => exact ⟨_, _, rfl, rfl, rfl, h4⟩
      | true => exact ⟨_, _, rfl, rfl, rfl, h⟩
