/-! sizes, attributes, typing -/
theorem at_rng {w : Bool} {v : Int32} {S T : XS} (h : Rel w v S T) (a : Int32) : ∃ n, n < 256 ∧ fX8_at T a = nI n := by
  rw [fX8_at]
  by_cases c1 : a < 0
  · rw [if_pos c1]; exact ⟨0, by omega, rfl⟩
  rw [if_neg c1]
  by_cases c2 : (4096 : Int32) ≤ a
  · rw [if_pos c2]; exact ⟨0, by omega, rfl⟩
  rw [if_neg c2, h.2.2.2.2.2.2.2.2.2.2.2.1]
  exact pk_andE _ (m := 255) 8 (by decide)
theorem b64 : ∀ n, n < 128 → nI n / 64 + 1 = if nI n < 64 then (1 : Int32) else 2 := by decide +kernel
theorem n128 : ∀ n, n < 256 → ((128 : Int32) ≤ nI n ↔ ¬ nI n < 128) ∧ (nI n < 128 → n < 128) := by decide +kernel
theorem op_length {w : Bool} {v : Int32} {S T : XS} (h : Rel w v S T) (x1 : Int32) : fX7_length S x1 = fX8_length T x1 := by
  obtain ⟨-, ⟨a0, a4, a5, a6, a7, a8, a10, a15⟩, ⟨b1, b2, b3⟩, -⟩ := id h
  rw [fX7_length, fX8_length, get_eq h, fX3_sizeByLastByte]
  obtain ⟨n, hn, e⟩ := at_rng h (x1 - 1)
  rw [e]
  cases w with
  | false =>
    have b2 : T.1 2 = 0 := b2
    have a10 : S.1 10 = 0 := a10
    rw [if_pos a10, if_pos b2]
  | true =>
    have b2 : T.1 2 = 1 := b2
    have a10 : S.1 10 = 1 := a10
    rw [if_neg (show ¬ S.1 10 = 0 by rw [a10]; decide), if_neg (show ¬ T.1 2 = 0 by rw [b2]; decide)]
    by_cases c : nI n < 128
    · rw [if_pos c, if_neg (fun q => (n128 n hn).1.mp q c), b64 n ((n128 n hn).2 c)]
    · rw [if_neg c, if_pos ((n128 n hn).1.mpr c)]
theorem bit8 : ∀ n, n < 48 → ((1 : Int32) <<< (((7 : Int32) - (nI n - nI n / (8 : Int32) * (8 : Int32))) &&& 31)) = ((128 : Int32) >>> ((nI n - nI n / (8 : Int32) * (8 : Int32)) &&& 31)) := by decide +kernel
theorem op_attribute {w : Bool} {v : Int32} {S T : XS} (h : Rel w v S T) (x1 : Int32) (x2 : Int32) (x3 : Int32) : ∃ (u t : Int32 × XS), fX7_attribute S x1 x2 x3 = u ∧ fX8_attribute T x1 x2 x3 = t ∧ u.1 = t.1 ∧ Rel w v u.2 t.2 := by
  refine ⟨_, _, rfl, rfl, ?_⟩
  obtain ⟨-, ⟨a0, a4, a5, a6, a7, a8, a10, a15⟩, ⟨b1, b2, b3⟩, -⟩ := id h
  have eA : fX0_attributes S = cond w 48 32 := by
    rw [fX0_attributes, a6]; cases w <;> decide
  rw [fX7_attribute, fX8_attribute, has_eq h, start_eq h, get_eq h, eA]
  by_cases c0 : bI (fX8_isObject T x1) = 0
  · rw [if_pos c0, if_pos c0]; exact ⟨rfl, h⟩
  rw [if_neg c0, if_neg c0]
  by_cases c1 : x2 < 0
  · rw [if_pos c1, if_pos c1]; exact ⟨rfl, h⟩
  rw [if_neg c1, if_neg c1]
  have main : ∀ (N : Int32), (∀ n : Nat, n < 2 ^ 31 → ¬ N ≤ nI n → n < 48) → ¬ N ≤ x2 → ((1 : Int32) <<< (((7 : Int32) - (x2 - x2 / (8 : Int32) * (8 : Int32))) &&& 31)) = ((128 : Int32) >>> ((x2 - x2 / (8 : Int32) * (8 : Int32)) &&& 31)) := by
    intro N hN hx
    obtain ⟨n, hn, rfl⟩ := nI_of c1
    exact bit8 n (hN n hn hx)
  have h32 : ∀ n : Nat, n < 2 ^ 31 → ¬ (32 : Int32) ≤ nI n → n < 48 := fun n hn q => by
    rcases Nat.lt_or_ge n 32 with z | z
    · omega
    · exact absurd (nI_le (a := 32) (b := n) z hn) q
  have h48 : ∀ n : Nat, n < 2 ^ 31 → ¬ (48 : Int32) ≤ nI n → n < 48 := fun n hn q => by
    rcases Nat.lt_or_ge n 48 with z | z
    · omega
    · exact absurd (nI_le (a := 48) (b := n) z hn) q
  cases w with
  | false =>
    have b2 : T.1 2 = 0 := b2
    rw [if_pos b2, show cond false (48 : Int32) 32 = 32 from rfl]
    by_cases c2 : (32 : Int32) ≤ x2
    · rw [if_pos c2, if_pos c2]; exact ⟨rfl, h⟩
    rw [if_neg c2, if_neg c2, main 32 h32 c2]
    by_cases c3 : x3 < 0
    · rw [if_pos c3, if_pos c3]; exact ⟨rfl, h⟩
    rw [if_neg c3, if_neg c3]
    by_cases c4 : x3 ≤ 2
    · rw [if_pos c4, if_pos c4]
      by_cases c5 : x3 = 0
      · rw [if_pos c5, if_pos c5]
        split <;> exact ⟨rfl, h⟩
      rw [if_neg c5, if_neg c5]
      by_cases c6 : x3 = 1
      · rw [if_pos c6, if_pos c6]; exact ⟨rfl, set_rel h _ _⟩
      · rw [if_neg c6, if_neg c6]; exact ⟨rfl, set_rel h _ _⟩
    · rw [if_neg c4, if_neg c4]; exact ⟨rfl, h⟩
  | true =>
    have b2 : T.1 2 = 1 := b2
    rw [if_neg (show ¬ T.1 2 = 0 by rw [b2]; decide), show cond true (48 : Int32) 32 = 48 from rfl]
    by_cases c2 : (48 : Int32) ≤ x2
    · rw [if_pos c2, if_pos c2]; exact ⟨rfl, h⟩
    rw [if_neg c2, if_neg c2, main 48 h48 c2]
    by_cases c3 : x3 < 0
    · rw [if_pos c3, if_pos c3]; exact ⟨rfl, h⟩
    rw [if_neg c3, if_neg c3]
    by_cases c4 : x3 ≤ 2
    · rw [if_pos c4, if_pos c4]
      by_cases c5 : x3 = 0
      · rw [if_pos c5, if_pos c5]
        split <;> exact ⟨rfl, h⟩
      rw [if_neg c5, if_neg c5]
      by_cases c6 : x3 = 1
      · rw [if_pos c6, if_pos c6]; exact ⟨rfl, set_rel h _ _⟩
      · rw [if_neg c6, if_neg c6]; exact ⟨rfl, set_rel h _ _⟩
    · rw [if_neg c4, if_neg c4]; exact ⟨rfl, h⟩
theorem shU : ∀ j, j < 8 → (((8 : Int32) * nI j).toInt64.toUInt64 &&& Int64.toUInt64 63) = UInt64.ofNat (8 * j) := by decide +kernel
theorem shS : ∀ j, j < 8 → (((8 : Int32) * nI j).toInt64 &&& 63) = Int64.ofNat (8 * j) := by decide +kernel
theorem shUn : ∀ j, j < 8 → ((UInt64.ofNat (8 * j)).toBitVec % 64).toNat = 8 * j := by decide +kernel
theorem shSn : ∀ j, j < 8 → ((Int64.ofNat (8 * j)).toBitVec.smod 64).toNat = 8 * j := by decide +kernel
theorem byteShift (y : Int64) (j : Nat) (hj : j < 8) : ((((y.toUInt64 >>> (((8 : Int32) * nI j).toInt64.toUInt64 &&& Int64.toUInt64 63)).toInt64).toInt32) &&& 255) = (((y >>> (((8 : Int32) * nI j).toInt64 &&& 63)).toInt32) &&& 255) := by
  rw [shU j hj, shS j hj]
  apply b_ext
  intro i hi
  rw [b_and, b_and, b_255]
  by_cases h8 : i < 8
  · congr 1
    unfold bt
    rw [Int64.toBitVec_toInt32, Int64.toBitVec_toInt32, BitVec.getLsbD_signExtend, BitVec.getLsbD_signExtend, if_pos (by omega), if_pos (by omega)]
    congr 1
    rw [Int64.toBitVec_shiftRight]
    show (y.toUInt64 >>> UInt64.ofNat (8 * j)).toBitVec.getLsbD i = (y.toBitVec.sshiftRight ((Int64.ofNat (8 * j)).toBitVec.smod 64).toNat).getLsbD i
    rw [UInt64.toBitVec_shiftRight]
    show (y.toUInt64.toBitVec >>> ((UInt64.ofNat (8 * j)).toBitVec % 64).toNat).getLsbD i = _
    rw [shUn j hj, shSn j hj, BitVec.getLsbD_ushiftRight, BitVec.getLsbD_sshiftRight]
    simp
    rw [if_pos (by omega), decide_eq_false (show ¬ 64 ≤ i by omega)]
    rfl
  · rw [decide_eq_false h8]; simp
theorem typeL {w : Bool} {v : Int32} (y1 : Int64) (y3 : Int32) : ∀ (k f t : Nat) (S T : XS), Rel w v S T → T.1 5 = nI t → t + k ≤ 250 → k ≤ 8 → k < f → ∃ (u t : Int32 × XS), fX7_type_L f S y1 y3 (nI k - 1) = some u ∧ fX8_type_L f T y1 y3 (nI k - 1) = some t ∧ u.1 = t.1 ∧ Rel w v u.2 t.2 := by
  intro k
  induction k with
  | zero =>
    intro f t S T h ht h1 h2 hf
    obtain ⟨f, rfl⟩ : ∃ g, f = g + 1 := ⟨f - 1, by omega⟩
    have c : nI 0 - 1 < 0 := by decide
    rw [fX7_type_L, fX8_type_L, if_pos c, if_pos c, h.2.2.2.2.1]
    exact ⟨_, _, rfl, rfl, rfl, h⟩
  | succ k ih =>
    intro f t S T h ht h1 h2 hf
    obtain ⟨f, rfl⟩ : ∃ g, f = g + 1 := ⟨f - 1, by omega⟩
    have e1 : nI (k + 1) - 1 = nI k := nI_pred k
    have c : ¬ nI k < 0 := nI_pos (by omega)
    have hg : gd (nI t) 250 = some () := by rw [gd, if_neg (nI_in (by omega) (by omega))]
    rw [e1, fX7_type_L, fX8_type_L, if_neg c, if_neg c, h.2.2.2.2.1, ht, hg]
    show ∃ u t_1, fX7_type_L f _ y1 y3 (nI k + -1) = some u ∧ fX8_type_L f _ y1 y3 (nI k + -1) = some t_1 ∧ _
    rw [show nI k + (-1 : Int32) = nI k - 1 from by grind]
    refine ih f (t + 1) _ _ ?_ ?_ (by omega) (by omega) (by omega)
    · obtain ⟨q1, ⟨a0, a4, a5, a6, a7, a8, a10, a15⟩, ⟨b1, b2, b3⟩, l1, l2, l3, l4, l5, l6, l7, l8, l9, l10⟩ := id h
      refine ⟨q1, ⟨a0, a4, a5, a6, a7, a8, a10, a15⟩, ⟨b1, b2, b3⟩, l1, rfl, l3, l4, l5, l6, ⟨t + 1, by omega, nI_1 t⟩, l8, l9, fun j => ?_⟩
      show upd (T.2 1) _ _ j = upd (S.2 4) _ _ j &&& 255
      unfold upd
      by_cases hj : j = (nI t).toNatClampNeg
      · rw [if_pos hj, if_pos hj, nar8, byteShift y1 k (by omega)]
      · rw [if_neg hj, if_neg hj]; exact l10 j
    · exact nI_1 t
theorem op_type {w : Bool} {v : Int32} {S T : XS} (h : Rel w v S T) (x1 : Int64) (x3 : Int32) : ∃ (u t : Int32 × XS), fX7_type S x1 x3 = some u ∧ fX8_type T x1 x3 = some t ∧ u.1 = t.1 ∧ Rel w v u.2 t.2 := by
  rw [fX7_type, fX8_type]
  by_cases c1 : x3 < 0
  · rw [if_pos c1, if_pos c1]; exact ⟨_, _, rfl, rfl, rfl, h⟩
  rw [if_neg c1, if_neg c1]
  by_cases c2 : x3 ≤ 8
  · rw [if_pos c2, if_pos c2]
    by_cases c3 : x3 = 0
    · rw [if_pos c3, if_pos c3]
      refine ⟨_, _, rfl, rfl, rfl, ?_⟩
      obtain ⟨q1, ⟨a0, a4, a5, a6, a7, a8, a10, a15⟩, ⟨b1, b2, b3⟩, l1, l2, l3, l4, l5, l6, l7, l8, l9, l10⟩ := id h
      exact ⟨q1, ⟨a0, a4, a5, a6, a7, a8, a10, a15⟩, ⟨b1, b2, b3⟩, l1, rfl, l3, l4, l5, l6, ⟨0, by omega, rfl⟩, l8, l9, l10⟩
    rw [if_neg c3, if_neg c3, h.2.2.2.2.1]
    by_cases c4 : T.1 5 + x3 ≤ 250
    · rw [if_pos c4, if_pos c4]
      obtain ⟨t, ht, et⟩ := h.2.2.2.2.2.2.2.2.2.1
      obtain ⟨k, hk, rfl⟩ := nI_of2 (M := 8) (n := 8) (by decide) c1 c2
      rw [et, nI_add] at c4
      have h250 : t + k ≤ 250 := (nI_leI (b := 250) (by omega) (by omega)).mp c4
      exact typeL x1 (nI k) k 10 t S T h et h250 hk (by omega)
    · rw [if_neg c4, if_neg c4]; exact ⟨_, _, rfl, rfl, rfl, h⟩
  · rw [if_neg c2, if_neg c2]; exact ⟨_, _, rfl, rfl, rfl, h⟩
