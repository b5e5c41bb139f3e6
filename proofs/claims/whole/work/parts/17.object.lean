/-! a new object: the same bytes in another order -/
theorem cl_nI {a : Nat} (h : a < 2 ^ 31) : (nI a).toNatClampNeg = a := nI_clamp h
theorem setX {S : XS} {a : Nat} (ha : a < 4096) (x : Int32) : (fX2_set S (nI a) x).1 = S.1 ∧ (∀ q, q ≠ 0 → (fX2_set S (nI a) x).2 q = S.2 q) ∧ ∀ j, (fX2_set S (nI a) x).2 0 j &&& 255 = if j = a then x &&& 255 else S.2 0 j &&& 255 := by
  have c1 : ¬ nI a < 0 := nI_pos (by omega)
  have c2 : ¬ (4096 : Int32) ≤ nI a := nI_ge (a := a) (b := 4096) ha (by omega)
  rw [fX2_set, if_neg c1, if_neg c2]
  refine ⟨rfl, fun q hq => ?_, fun j => ?_⟩
  · show (if q = 0 then _ else S.2 q) = S.2 q
    rw [if_neg hq]
  · show upd (S.2 0) _ _ j &&& 255 = _
    unfold upd
    rw [cl_nI (by omega)]
    by_cases hj : j = a
    · rw [if_pos hj, if_pos hj, nar8]
    · rw [if_neg hj, if_neg hj]
theorem setM {T : XS} {a : Nat} (ha : a < 4096) (x : Int32) : (fX8_set T (nI a) x).1 = T.1 ∧ (∀ q, q ≠ 0 → (fX8_set T (nI a) x).2 q = T.2 q) ∧ ∀ j, (fX8_set T (nI a) x).2 0 j = if j = a then x &&& 255 else T.2 0 j := by
  have c1 : ¬ nI a < 0 := nI_pos (by omega)
  have c2 : ¬ (4096 : Int32) ≤ nI a := nI_ge (a := a) (b := 4096) ha (by omega)
  rw [fX8_set, if_neg c1, if_neg c2]
  refine ⟨rfl, fun q hq => ?_, fun j => ?_⟩
  · show (if q = 0 then _ else T.2 q) = T.2 q
    rw [if_neg hq]
  · show upd (T.2 0) _ _ j = _
    unfold upd
    rw [cl_nI (by omega)]
theorem setWX {S : XS} {a : Nat} (ha : a + 1 < 4096) (x : Int32) : (fX2_setWord S (nI a) x).1 = S.1 ∧ (∀ q, q ≠ 0 → (fX2_setWord S (nI a) x).2 q = S.2 q) ∧ ∀ j, (fX2_setWord S (nI a) x).2 0 j &&& 255 = if j = a + 1 then x &&& 255 else if j = a then (x >>> ((8 : Int32) &&& 31)) &&& 255 else S.2 0 j &&& 255 := by
  rw [fX2_setWord, show nI a + (1 : Int32) = nI (a + 1) from nI_1 a]
  obtain ⟨a1, a2, a3⟩ := setX (S := S) (a := a) (by omega) (x >>> ((8 : Int32) &&& 31))
  obtain ⟨b1, b2, b3⟩ := setX (S := fX2_set S (nI a) (x >>> ((8 : Int32) &&& 31))) (a := a + 1) (by omega) x
  exact ⟨b1.trans a1, fun q hq => (b2 q hq).trans (a2 q hq), fun j => by rw [b3, a3]⟩
theorem setWM {T : XS} {a : Nat} (ha : a + 1 < 4096) (x : Int32) : (fX8_setWord T (nI a) x).1 = T.1 ∧ (∀ q, q ≠ 0 → (fX8_setWord T (nI a) x).2 q = T.2 q) ∧ ∀ j, (fX8_setWord T (nI a) x).2 0 j = if j = a + 1 then x &&& 255 else if j = a then (x >>> ((8 : Int32) &&& 31)) &&& 255 else T.2 0 j := by
  rw [fX8_setWord, show nI a + (1 : Int32) = nI (a + 1) from nI_1 a]
  obtain ⟨a1, a2, a3⟩ := setM (T := T) (a := a) (by omega) (x >>> ((8 : Int32) &&& 31))
  obtain ⟨b1, b2, b3⟩ := setM (T := fX8_set T (nI a) (x >>> ((8 : Int32) &&& 31))) (a := a + 1) (by omega) x
  exact ⟨b1.trans a1, fun q hq => (b2 q hq).trans (a2 q hq), fun j => by rw [b3, a3]⟩
theorem rowsX (t top : Nat) (ht : t ≤ 250) (htop : top + t ≤ 4096) : ∀ (k i f : Nat) (S : XS), S.1 1 = nI t → S.1 2 = nI top → i + k = t → ∃ S1, fX7_object_L (f + k) S (nI i) = fX7_object_L f S1 (nI t) ∧ S1.1 = S.1 ∧ (∀ q, q ≠ 0 → S1.2 q = S.2 q) ∧ ∀ j, S1.2 0 j &&& 255 = if top + i ≤ j ∧ j < top + t then S.2 4 (j - top) &&& 255 else S.2 0 j &&& 255 := by
  intro k
  induction k with
  | zero =>
    intro i f S h1 h2 hi
    obtain rfl : i = t := by omega
    exact ⟨S, rfl, rfl, fun _ _ => rfl, fun j => by rw [if_neg (by omega)]⟩
  | succ k ih =>
    intro i f S h1 h2 hi
    have c : ¬ nI t ≤ nI i := nI_ge (by omega) (by omega)
    have hg : gd (nI i) 250 = some () := by rw [gd, if_neg (nI_in (by omega) (by omega))]
    show ∃ S1, fX7_object_L (f + k + 1) S (nI i) = _ ∧ _
    rw [fX7_object_L, h1, if_neg c, hg, h2, nI_add, show nI i + (1 : Int32) = nI (i + 1) from nI_1 i]
    obtain ⟨a1, a2, a3⟩ := setX (S := S) (a := top + i) (by omega) (S.2 4 (nI i).toNatClampNeg)
    obtain ⟨S1, e1, e2, e3, e4⟩ := ih (i + 1) f (fX2_set S (nI (top + i)) (S.2 4 (nI i).toNatClampNeg)) (by rw [a1]; exact h1) (by rw [a1]; exact h2) (by omega)
    refine ⟨S1, e1, e2.trans a1, fun q hq => (e3 q hq).trans (a2 q hq), fun j => ?_⟩
    rw [e4, a3, a2 4 (by omega), cl_nI (by omega)]
    by_cases q1 : top + (i + 1) ≤ j ∧ j < top + t
    · rw [if_pos q1, if_pos ⟨by omega, by omega⟩]
    · rw [if_neg q1]
      by_cases q2 : j = top + i
      · rw [if_pos q2, if_pos ⟨by omega, by omega⟩, show j - top = i by omega]
      · rw [if_neg q2, if_neg (by omega)]
theorem zeroX (E st : Nat) (hst : st + E ≤ 4096) (y1 : Int32) : ∀ (k i f : Nat) (S : XS), S.1 8 = nI E → i + k = E → ∃ S1, fX0_add_L (f + k + 1) S y1 (nI st) (nI i) = some (fX2_setWord S1 (fX0_tableAt S1 (S1.1 9)) y1) ∧ S1.1 = S.1 ∧ (∀ q, q ≠ 0 → S1.2 q = S.2 q) ∧ ∀ j, S1.2 0 j &&& 255 = if st + i ≤ j ∧ j < st + E then 0 else S.2 0 j &&& 255 := by
  intro k
  induction k with
  | zero =>
    intro i f S h8 hi
    obtain rfl : i = E := by omega
    rw [fX0_add_L, h8, if_pos (nI_le (Nat.le_refl _) (by omega))]
    exact ⟨S, rfl, rfl, fun _ _ => rfl, fun j => by rw [if_neg (by omega)]⟩
  | succ k ih =>
    intro i f S h8 hi
    have c : ¬ nI E ≤ nI i := nI_ge (by omega) (by omega)
    rw [fX0_add_L, h8, if_neg c, nI_add, show nI i + (1 : Int32) = nI (i + 1) from nI_1 i]
    obtain ⟨a1, a2, a3⟩ := setX (S := S) (a := st + i) (by omega) 0
    obtain ⟨S1, e1, e2, e3, e4⟩ := ih (i + 1) f (fX2_set S (nI (st + i)) 0) (by rw [a1]; exact h8) (by omega)
    refine ⟨S1, e1, e2.trans a1, fun q hq => (e3 q hq).trans (a2 q hq), fun j => ?_⟩
    rw [e4, a3]
    by_cases q1 : st + (i + 1) ≤ j ∧ j < st + E
    · rw [if_pos q1, if_pos ⟨by omega, by omega⟩]
    · rw [if_neg q1]
      by_cases q2 : j = st + i
      · rw [if_pos q2, if_pos ⟨by omega, by omega⟩]; decide
      · rw [if_neg q2, if_neg (by omega)]
theorem objM48 {w : Bool} {T : XS} (h2 : T.1 2 = cond w 1 0) (n : Nat) (y1 y2 : Int32) : fX8_object_L (n + 1) 48 T y1 y2 = if nI (cond w 14 9) ≤ y2 then fX8_object_L n 98 (fX8_setWord T (fX8_tableAt T (T.1 7)) (T.1 6)) y1 (0 : Int32) else fX8_object_L n 48 (fX8_set T (y1 + y2) (0 : Int32)) y1 (y2 + (1 : Int32)) := by
  rw [fX8_object_L, if_pos rfl]
  cases w with
  | false =>
    have h2 : T.1 2 = 0 := h2
    rw [if_pos h2]; rfl
  | true =>
    have h2 : T.1 2 = 1 := h2
    rw [if_neg (by rw [h2]; decide)]; rfl
theorem zeroM {w : Bool} (st : Nat) (hst : st + cond w 14 9 ≤ 4096) : ∀ (k i f : Nat) (T : XS), T.1 2 = cond w 1 0 → i + k = cond w 14 9 → ∃ T1, fX8_object_L (f + k + 1) 48 T (nI st) (nI i) = fX8_object_L f 98 (fX8_setWord T1 (fX8_tableAt T1 (T1.1 7)) (T1.1 6)) (nI st) (0 : Int32) ∧ T1.1 = T.1 ∧ (∀ q, q ≠ 0 → T1.2 q = T.2 q) ∧ ∀ j, T1.2 0 j = if st + i ≤ j ∧ j < st + cond w 14 9 then 0 else T.2 0 j := by
  have hE : cond w 14 9 ≤ 14 := by cases w <;> decide
  intro k
  induction k with
  | zero =>
    intro i f T h2 hi
    obtain rfl : i = cond w 14 9 := by omega
    rw [objM48 h2, if_pos (nI_le (Nat.le_refl _) (by omega))]
    exact ⟨T, rfl, rfl, fun _ _ => rfl, fun j => by rw [if_neg (by omega)]⟩
  | succ k ih =>
    intro i f T h2 hi
    have c : ¬ nI (cond w 14 9) ≤ nI i := nI_ge (by omega) (by omega)
    rw [objM48 h2, if_neg c, nI_add, show nI i + (1 : Int32) = nI (i + 1) from nI_1 i]
    obtain ⟨a1, a2, a3⟩ := setM (T := T) (a := st + i) (by omega) 0
    obtain ⟨T1, e1, e2, e3, e4⟩ := ih (i + 1) f (fX8_set T (nI (st + i)) 0) (by rw [a1]; exact h2) (by omega)
    refine ⟨T1, e1, e2.trans a1, fun q hq => (e3 q hq).trans (a2 q hq), fun j => ?_⟩
    rw [e4, a3]
    by_cases q1 : st + (i + 1) ≤ j ∧ j < st + cond w 14 9
    · rw [if_pos q1, if_pos ⟨by omega, by omega⟩]
    · rw [if_neg q1]
      by_cases q2 : j = st + i
      · rw [if_pos q2, if_pos ⟨by omega, by omega⟩]; decide
      · rw [if_neg q2, if_neg (by omega)]
theorem rowsM (t top : Nat) (ht : t ≤ 250) (htop : top + t ≤ 4096) (y1 : Int32) : ∀ (k i f : Nat) (T : XS), T.1 5 = nI t → T.1 6 = nI top → i + k = t → ∃ T1, fX8_object_L (f + k + 1) 98 T y1 (nI i) = some (T1.1 7, pS (pS T1 6 (T1.1 6 + T1.1 5)) 5 (0 : Int32)) ∧ T1.1 = T.1 ∧ (∀ q, q ≠ 0 → T1.2 q = T.2 q) ∧ ∀ j, T1.2 0 j = if top + i ≤ j ∧ j < top + t then T.2 1 (j - top) &&& 255 else T.2 0 j := by
  intro k
  induction k with
  | zero =>
    intro i f T h5 h6 hi
    obtain rfl : i = t := by omega
    rw [fX8_object_L, if_neg (by decide), h5, if_pos (nI_le (Nat.le_refl _) (by omega)), ← h5]
    exact ⟨T, rfl, rfl, fun _ _ => rfl, fun j => by rw [if_neg (by omega)]⟩
  | succ k ih =>
    intro i f T h5 h6 hi
    have c : ¬ nI t ≤ nI i := nI_ge (by omega) (by omega)
    have hg : gd (nI i) 250 = some () := by rw [gd, if_neg (nI_in (by omega) (by omega))]
    rw [fX8_object_L, if_neg (by decide), h5, if_neg c, hg, h6, nI_add, show nI i + (1 : Int32) = nI (i + 1) from nI_1 i]
    obtain ⟨a1, a2, a3⟩ := setM (T := T) (a := top + i) (by omega) (T.2 1 (nI i).toNatClampNeg)
    obtain ⟨T1, e1, e2, e3, e4⟩ := ih (i + 1) f (fX8_set T (nI (top + i)) (T.2 1 (nI i).toNatClampNeg)) (by rw [a1]; exact h5) (by rw [a1]; exact h6) (by omega)
    refine ⟨T1, e1, e2.trans a1, fun q hq => (e3 q hq).trans (a2 q hq), fun j => ?_⟩
    rw [e4, a3, a2 1 (by omega), cl_nI (by omega)]
    by_cases q1 : top + (i + 1) ≤ j ∧ j < top + t
    · rw [if_pos q1, if_pos ⟨by omega, by omega⟩]
    · rw [if_neg q1]
      by_cases q2 : j = top + i
      · rw [if_pos q2, if_pos ⟨by omega, by omega⟩, show j - top = i by omega]
      · rw [if_neg q2, if_neg (by omega)]
theorem entry_nI {w : Bool} {T : XS} (h2 : T.1 2 = cond w 1 0) (h3 : T.1 3 = cond w 63 31) (n : Nat) (hn : n ≤ 100) : fX8_entry T (nI (n + 1)) = nI (cond w 382 318 + cond w 14 9 * n) ∧ fX8_tableAt T (nI (n + 1)) = nI (cond w 382 318 + cond w 14 9 * n + cond w 12 7) := by
  have e1 : nI (n + 1) - (1 : Int32) = nI n := nI_pred n
  cases w with
  | false =>
    have h2 : T.1 2 = 0 := h2
    have h3 : T.1 3 = 31 := h3
    have q : fX8_entry T (nI (n + 1)) = nI (318 + 9 * n) := by
      rw [fX8_entry, if_pos h2, h3, e1, show (256 : Int32) + 2 * 31 = nI 318 from by decide, show (9 : Int32) = nI 9 from rfl, pk_mul, nI_add, Nat.mul_comm]
    refine ⟨q, ?_⟩
    rw [fX8_tableAt, if_pos h2, q]
    exact nI_add _ 7
  | true =>
    have h2 : T.1 2 = 1 := h2
    have h3 : T.1 3 = 63 := h3
    have n2 : ¬ T.1 2 = 0 := by rw [h2]; decide
    have q : fX8_entry T (nI (n + 1)) = nI (382 + 14 * n) := by
      rw [fX8_entry, if_neg n2, h3, e1, show (256 : Int32) + 2 * 63 = nI 382 from by decide, show (14 : Int32) = nI 14 from rfl, pk_mul, nI_add, Nat.mul_comm]
    refine ⟨q, ?_⟩
    rw [fX8_tableAt, if_neg n2, q]
    exact nI_add _ 12
theorem op_object {w : Bool} {v : Int32} {S T : XS} (h : Rel w v S T) : ∃ (u t : Int32 × XS), fX7_object S = some u ∧ fX8_object T = some t ∧ u.1 = t.1 ∧ Rel w v u.2 t.2 := by
  obtain ⟨q1, ⟨a0, a4, a5, a6, a7, a8, a10, a15⟩, ⟨b1, b2, b3⟩, l1, l2, l3, l4, l5, ⟨n, hn, en⟩, ⟨t, ht, et⟩, ⟨top, hp1, hp2, ep⟩, l9, l10⟩ := id h
  have eS9 : S.1 9 = nI n := by rw [l1, en]
  have eS1 : S.1 1 = nI t := by rw [l2, et]
  have eS2 : S.1 2 = nI top := by rw [l3, ep]
  rw [fX7_object, fX8_object, fX0_isFull, eS9, en, eS1, eS2, et, ep, nI_add]
  by_cases c1 : n = 100
  · subst c1
    rw [if_neg (show ¬ nI 100 < 100 by decide), if_neg (show ¬ bI true = 0 by decide), if_pos (show nI 100 = 100 from rfl)]
    exact ⟨_, _, rfl, rfl, rfl, h⟩
  have cn : nI n < 100 := nI_lt (a := n) (b := 100) (by omega) (by omega)
  have cn2 : ¬ nI n = 100 := fun q => c1 ((nI_eq (a := n) (b := 100) (by omega) (by omega)).mp q)
  rw [if_pos cn, if_pos (show bI false = 0 from rfl), if_neg cn2]
  by_cases c2 : ¬ nI (top + t) ≤ 4096
  · rw [if_neg c2, if_neg c2]; exact ⟨_, _, rfl, rfl, rfl, h⟩
  have c2 := Decidable.not_not.mp c2
  have htop : top + t ≤ 4096 := (nI_leI (a := top + t) (b := 4096) (by omega) (by omega)).mp c2
  rw [if_pos c2, if_pos c2]
  have hE1 : cond w 14 9 ≤ 14 := by cases w <;> decide
  have hE2 : 9 ≤ cond w 14 9 := by cases w <;> decide
  have hF1 : cond w 382 318 + cond w 14 9 * n + cond w 14 9 ≤ 1782 := by cases w <;> simp <;> omega
  have hT1 : cond w 12 7 + 2 = cond w 14 9 := by cases w <;> decide
  -- the class: rows, then the entry
  obtain ⟨S1, e1, e2, e3, e4⟩ := rowsX t top ht htop t 0 (252 - t) S eS1 eS2 (by omega)
  rw [show 252 - t + t = 252 by omega] at e1
  have e1 : fX7_object_L 252 S (0 : Int32) = fX7_object_L (252 - t) S1 (nI t) := e1
  have r1 : ∃ g, 252 - t = g + 1 := ⟨251 - t, by omega⟩
  obtain ⟨g, hg⟩ := r1
  rw [e1, hg, fX7_object_L, e2, eS1, if_pos (nI_le (Nat.le_refl _) (by omega)), fX0_add, e2, eS9, eS2, show nI n + (1 : Int32) = nI (n + 1) from nI_1 n]
  have hRe := entry_nI b2 b3 n hn
  have hst : fX0_start (pS S1 9 (nI (n + 1))) (nI (n + 1)) = nI (cond w 382 318 + cond w 14 9 * n) := by
    rw [← hRe.1, ← start_eq h]
    show S1.1 5 + S1.1 8 * _ = S.1 5 + S.1 8 * _
    rw [e2]
  rw [hst]
  obtain ⟨S2, z1, z2, z3, z4⟩ := zeroX (cond w 14 9) (cond w 382 318 + cond w 14 9 * n) (by omega) (nI top) (cond w 14 9) 0 (19 - cond w 14 9) (pS S1 9 (nI (n + 1))) (by show S1.1 8 = _; rw [e2, a8]; cases w <;> rfl) (by omega)
  rw [show 19 - cond w 14 9 + cond w 14 9 + 1 = 20 by omega] at z1
  have z1 : fX0_add_L 20 (pS S1 9 (nI (n + 1))) (nI top) (nI (cond w 382 318 + cond w 14 9 * n)) (0 : Int32) = some (fX2_setWord S2 (fX0_tableAt S2 (S2.1 9)) (nI top)) := z1
  have htb : fX0_tableAt S2 (S2.1 9) = nI (cond w 382 318 + cond w 14 9 * n + cond w 12 7) := by
    rw [z2, ← hRe.2, ← tableAt_eq h]
    show (S2.1 5 + S2.1 8 * (nI (n + 1) - 1)) + S2.1 8 - 2 = (S.1 5 + S.1 8 * (nI (n + 1) - 1)) + S.1 8 - 2
    rw [z2]
    show (S1.1 5 + S1.1 8 * (nI (n + 1) - 1)) + S1.1 8 - 2 = _
    rw [e2]
  rw [htb] at z1
  rw [z1]
  obtain ⟨y1, y2, y3⟩ := setWX (S := S2) (a := cond w 382 318 + cond w 14 9 * n + cond w 12 7) (by omega) (nI top)
  generalize fX2_setWord S2 (nI (cond w 382 318 + cond w 14 9 * n + cond w 12 7)) (nI top) = S3 at y1 y2 y3 ⊢
  -- the reference: the entry, then rows
  have hRe' : fX8_entry (pS T 7 (nI (n + 1))) (nI (n + 1)) = nI (cond w 382 318 + cond w 14 9 * n) := (entry_nI (T := pS T 7 (nI (n + 1))) b2 b3 n hn).1
  rw [hRe']
  obtain ⟨T1, k1, k2, k3, k4⟩ := zeroM (w := w) (cond w 382 318 + cond w 14 9 * n) (by omega) (cond w 14 9) 0 (299 - cond w 14 9) (pS T 7 (nI (n + 1))) b2 (by omega)
  rw [show 299 - cond w 14 9 + cond w 14 9 + 1 = 300 by omega] at k1
  have k1 : fX8_object_L 300 48 (pS T 7 (nI (n + 1))) (nI (cond w 382 318 + cond w 14 9 * n)) (0 : Int32) = fX8_object_L (299 - cond w 14 9) 98 (fX8_setWord T1 (fX8_tableAt T1 (T1.1 7)) (T1.1 6)) (nI (cond w 382 318 + cond w 14 9 * n)) (0 : Int32) := k1
  have t7 : T1.1 7 = nI (n + 1) := by rw [k2]; rfl
  have t6 : T1.1 6 = nI top := by rw [k2]; exact ep
  have t5 : T1.1 5 = nI t := by rw [k2]; exact et
  have htb2 : fX8_tableAt T1 (T1.1 7) = nI (cond w 382 318 + cond w 14 9 * n + cond w 12 7) := by
    rw [t7]
    exact (entry_nI (T := T1) (by rw [k2]; exact b2) (by rw [k2]; exact b3) n hn).2
  rw [htb2, t6] at k1
  rw [k1]
  obtain ⟨m1, m2, m3⟩ := setWM (T := T1) (a := cond w 382 318 + cond w 14 9 * n + cond w 12 7) (by omega) (nI top)
  generalize fX8_setWord T1 (nI (cond w 382 318 + cond w 14 9 * n + cond w 12 7)) (nI top) = T2 at m1 m2 m3 ⊢
  obtain ⟨T3, p1, p2, p3, p4⟩ := rowsM t top ht htop (nI (cond w 382 318 + cond w 14 9 * n)) t 0 (298 - cond w 14 9 - t) T2 (by rw [m1]; exact t5) (by rw [m1]; exact t6) (by omega)
  rw [show 298 - cond w 14 9 - t + t + 1 = 299 - cond w 14 9 by omega] at p1
  have p1 : fX8_object_L (299 - cond w 14 9) 98 T2 (nI (cond w 382 318 + cond w 14 9 * n)) (0 : Int32) = some (T3.1 7, pS (pS T3 6 (T3.1 6 + T3.1 5)) 5 (0 : Int32)) := p1
  rw [p1]
  have hS3 : S3.1 = upd S.1 9 (nI (n + 1)) := by rw [y1, z2]; show upd S1.1 9 _ = _; rw [e2]
  have hT3 : T3.1 = upd T.1 7 (nI (n + 1)) := by rw [p2, m1, k2]; rfl
  have hrow : ∀ j, T3.2 1 j = S3.2 4 j &&& 255 := fun j => by
    rw [p3 1 (by omega), m2 1 (by omega), k3 1 (by omega), y2 4 (by omega), z3 4 (by omega)]
    show T.2 1 j = S1.2 4 j &&& 255
    rw [e3 4 (by omega)]; exact l10 j
  have hmem : ∀ j, T3.2 0 j = S3.2 0 j &&& 255 := fun j => by
    rw [p4, m3, k4, y3, z4]
    show (if top + 0 ≤ j ∧ j < top + t then T2.2 1 (j - top) &&& 255 else if j = _ then _ else if j = _ then _ else if _ ∧ _ then 0 else T.2 0 j) = if j = _ then _ else if j = _ then _ else if _ ∧ _ then 0 else S1.2 0 j &&& 255
    rw [m2 1 (by omega), k3 1 (by omega), e4]
    show (if top + 0 ≤ j ∧ j < top + t then T.2 1 (j - top) &&& 255 else _) = _
    by_cases r1 : top + 0 ≤ j ∧ j < top + t
    · rw [if_pos r1, if_neg (by omega), if_neg (by omega), if_neg (by omega), if_pos r1, l10, and255]
    · rw [if_neg r1, if_neg r1, l9]
  refine ⟨_, _, rfl, rfl, ?_, ?_⟩
  · show S3.1 9 = T3.1 7
    rw [hS3, hT3]; rfl
  · have s0 : ∀ k, k ≠ 9 → S3.1 k = S.1 k := fun k hk => by rw [hS3]; unfold upd; rw [if_neg hk]
    have t0 : ∀ k, k ≠ 7 → T3.1 k = T.1 k := fun k hk => by rw [hT3]; unfold upd; rw [if_neg hk]
    have s9 : S3.1 9 = nI (n + 1) := by rw [hS3]; rfl
    have t7' : T3.1 7 = nI (n + 1) := by rw [hT3]; rfl
    refine ⟨q1, ⟨(s0 0 (by omega)).trans a0, (s0 4 (by omega)).trans a4, (s0 5 (by omega)).trans a5, (s0 6 (by omega)).trans a6, (s0 7 (by omega)).trans a7, (s0 8 (by omega)).trans a8, (s0 10 (by omega)).trans a10, (s0 15 (by omega)).trans a15⟩, ⟨(t0 1 (by omega)).trans b1, (t0 2 (by omega)).trans b2, (t0 3 (by omega)).trans b3⟩, s9.trans t7'.symm, rfl, ?_, ?_, ?_, ⟨n + 1, by omega, t7'⟩, ⟨0, by omega, rfl⟩, ⟨top + t, by omega, htop, ?_⟩, hmem, hrow⟩
    · show S3.1 2 + S3.1 1 = T3.1 6 + T3.1 5
      rw [s0 2 (by omega), s0 1 (by omega), t0 6 (by omega), t0 5 (by omega), l3, l2]
    · show S3.1 3 = T3.1 8
      rw [s0 3 (by omega), t0 8 (by omega), l4]
    · obtain ⟨bb, hbb⟩ := l5
      exact ⟨bb, by show T3.1 8 = _; rw [t0 8 (by omega)]; exact hbb⟩
    · show T3.1 6 + T3.1 5 = nI (top + t)
      rw [t0 6 (by omega), t0 5 (by omega), ep, et, nI_add]
