/-! the judge, first: coming back; rising numbers; shared tables; the mask of an object's faults -/
theorem php : ∀ (b m : Nat) (f : Nat → Nat), (∀ i, i < m → f i < b) → (∀ i j, i < m → j < m → f i = f j → i = j) → m ≤ b := by
  intro b
  induction b with
  | zero =>
    intro m f h _
    rcases Nat.eq_zero_or_pos m with q | q
    · omega
    · have := h 0 q; omega
  | succ b ih =>
    intro m f h inj
    cases m with
    | zero => omega
    | succ k =>
      have h1 : k ≤ b := by
        refine ih k (fun i => if f i = b then f k else f i) (fun i hi => ?_) (fun i j hi hj e => ?_)
        · show (if f i = b then f k else f i) < b
          have hk := h k (by omega)
          have hi' := h i (by omega)
          by_cases q : f i = b
          · rw [if_pos q]
            have : f k ≠ b := fun z => by have := inj i k (by omega) (by omega) (q.trans z.symm); omega
            omega
          · rw [if_neg q]; omega
        · have e : (if f i = b then f k else f i) = (if f j = b then f k else f j) := e
          by_cases q : f i = b
          · rw [if_pos q] at e
            by_cases r : f j = b
            · exact inj i j (by omega) (by omega) (q.trans r.symm)
            · rw [if_neg r] at e
              have := inj k j (by omega) (by omega) e; omega
          · rw [if_neg q] at e
            by_cases r : f j = b
            · rw [if_pos r] at e
              have := inj i k (by omega) (by omega) e; omega
            · rw [if_neg r] at e
              exact inj i j (by omega) (by omega) e
      omega
/-- k steps along links of a kind -/
def itl (T : XS) (q : Int32) : Nat → Int32 → Int32
  | 0, x => x
  | k + 1, x => itl T q k (fX8_link T x q)
theorem itl_succ (T : XS) (q : Int32) : ∀ (k : Nat) (x : Int32), itl T q (k + 1) x = fX8_link T (itl T q k x) q := by
  intro k
  induction k with
  | zero => intro x; rfl
  | succ k ih => intro x; exact ih (fX8_link T x q)
theorem itl_add (T : XS) (q : Int32) (x : Int32) {i j : Nat} (h : itl T q i x = itl T q j x) : ∀ d, itl T q (i + d) x = itl T q (j + d) x := by
  intro d
  induction d with
  | zero => exact h
  | succ d ih =>
    show itl T q (i + d + 1) x = itl T q (j + d + 1) x
    rw [itl_succ, itl_succ, ih]
theorem isObj_nat {w : Bool} {v : Int32} {S T : XS} (h : Rel w v S T) {x : Int32} (hx : fX8_isObject T x = true) : ∃ o, 1 ≤ o ∧ o ≤ 100 ∧ x = nI o := by
  obtain ⟨n, hn, en⟩ := h.2.2.2.2.2.2.2.2.1
  rw [fX8_isObject, en] at hx
  by_cases c1 : x < 1
  · rw [if_pos c1] at hx; cases hx
  rw [if_neg c1] at hx
  by_cases c2 : nI n < x
  · rw [if_pos c2] at hx; cases hx
  have h1 : ¬ x < 0 := fun q => c1 (by grind)
  obtain ⟨o, ho, rfl⟩ := nI_of h1
  have a1 : ¬ o < 1 := fun q => c1 (nI_lt (a := o) (b := 1) q (by omega))
  have a2 : ¬ n < o := fun q => c2 (nI_lt q ho)
  exact ⟨o, by omega, by omega, rfl⟩
theorem no_late {w : Bool} {v : Int32} {S T : XS} (h : Rel w v S T) (o q x : Int32) (hob : ∀ k, k < 100 → fX8_isObject T (itl T q k x) = true ∧ ¬ itl T q k x = o) (h100 : itl T q 100 x = o) (ho : fX8_isObject T o = true) : False := by
  have key : ∀ k, k ≤ 100 → ∃ z, z < 100 ∧ itl T q k x = nI (z + 1) := by
    intro k hk
    have hx : fX8_isObject T (itl T q k x) = true := by
      rcases Nat.lt_or_ge k 100 with z | z
      · exact (hob k z).1
      · rw [show k = 100 by omega, h100]; exact ho
    obtain ⟨y, h1, h2, h3⟩ := isObj_nat h hx
    exact ⟨y - 1, by omega, by rw [h3]; congr 1; omega⟩
  have hch : ∀ k, ∃ z, k ≤ 100 → z < 100 ∧ itl T q k x = nI (z + 1) := fun k => by
    rcases Nat.lt_or_ge 100 k with z | z
    · exact ⟨0, fun q => by omega⟩
    · obtain ⟨a, b⟩ := key k z; exact ⟨a, fun _ => b⟩
  obtain ⟨f, hf⟩ := Classical.axiomOfChoice hch
  have := php 100 101 f (fun i hi => (hf i (by omega)).1) (fun i j hi hj e => ?_)
  · omega
  · have e1 : itl T q i x = itl T q j x := by rw [(hf i (by omega)).2, (hf j (by omega)).2, e]
    rcases Nat.lt_trichotomy i j with z | z | z
    · exfalso
      have e2 := itl_add T q x e1 (100 - j)
      rw [show j + (100 - j) = 100 by omega, h100] at e2
      exact (hob (i + (100 - j)) (by omega)).2 e2
    · exact z
    · exfalso
      have e2 := itl_add T q x e1 (100 - i)
      rw [show i + (100 - i) = 100 by omega, h100] at e2
      exact (hob (j + (100 - i)) (by omega)).2 e2.symm
theorem backL {w : Bool} {v : Int32} {S T : XS} (h : Rel w v S T) (o q x y1 : Int32) (ho : fX8_isObject T o = true) : ∀ (m i f f' : Nat), i + m = 100 → m + 2 ≤ f → m + 1 ≤ f' → (∀ k, k < i → fX8_isObject T (itl T q k x) = true ∧ ¬ itl T q k x = o) → ∃ b, fX8_comes_L f T y1 q o (itl T q i x) (nI i) = some b ∧ fX8_comesBack_L f' T o q (itl T q i x) (nI i) = some b := by
  intro m
  induction m with
  | zero =>
    intro i f f' hi hf hf' hob
    obtain ⟨f, rfl⟩ : ∃ g, f = g + 2 := ⟨f - 2, by omega⟩
    obtain ⟨f', rfl⟩ : ∃ g, f' = g + 1 := ⟨f' - 1, by omega⟩
    obtain rfl : i = 100 := by omega
    refine ⟨false, ?_, ?_⟩
    · rw [fX8_comes_L, if_neg (by decide)]
      by_cases c1 : bI (fX8_isObject T (itl T q 100 x)) = 0
      · rw [if_pos c1]
      rw [if_neg c1]
      by_cases c2 : itl T q 100 x = o
      · exact (no_late h o q x hob c2 ho).elim
      · rw [if_neg c2, fX8_comes_L, if_pos (by decide)]
    · rw [fX8_comesBack_L, if_pos (by decide)]
  | succ m ih =>
    intro i f f' hi hf hf' hob
    obtain ⟨f, rfl⟩ : ∃ g, f = g + 1 := ⟨f - 1, by omega⟩
    obtain ⟨f', rfl⟩ : ∃ g, f' = g + 1 := ⟨f' - 1, by omega⟩
    have k1 := cmp_i (i := i) (by omega) 100 (by omega)
    have c0 : ¬ (100 : Int32) < nI i := fun z => by have := k1.1.mp z; omega
    have c0' : ¬ (100 : Int32) ≤ nI i := fun z => by have := k1.2.mp z; omega
    rw [fX8_comes_L, fX8_comesBack_L, if_neg c0, if_neg c0']
    by_cases c1 : bI (fX8_isObject T (itl T q i x)) = 0
    · rw [if_pos c1, if_pos c1]; exact ⟨_, rfl, rfl⟩
    rw [if_neg c1, if_neg c1]
    by_cases c2 : itl T q i x = o
    · rw [if_pos c2, if_pos c2]; exact ⟨_, rfl, rfl⟩
    · rw [if_neg c2, if_neg c2, ← itl_succ, show nI i + (1 : Int32) = nI (i + 1) from nI_1 i]
      refine ih (i + 1) f f' (by omega) (by omega) (by omega) (fun k hk => ?_)
      rcases Nat.lt_or_ge k i with z | z
      · exact hob k z
      · rw [show k = i by omega]; exact ⟨bI1.mp c1, c2⟩
theorem back_eq {w : Bool} {v : Int32} {S T : XS} (h : Rel w v S T) (o q : Int32) (ho : fX8_isObject T o = true) : ∃ b, fX8_comes T (fX8_link T o q) q o = some b ∧ fX8_comesBack T o q = some b :=
  backL h o q (fX8_link T o q) (fX8_link T o q) ho 100 0 102 102 (by omega) (by omega) (by omega) (fun k hk => by omega)
theorem riseL {w : Bool} {v : Int32} (o x : Int32) : ∀ (m i a f f' : Nat) (y : Int32) (S T : XS), Rel w v S T → S.1 11 = nI a → a < 2 ^ 18 → 4097 ≤ i + m → i ≤ a → i ≤ 4096 → m ≤ f → m ≤ f' → ∃ (b : Bool) (U V : XS), fX1_isOutOfOrder_L f S x y (nI i) = some (b, U) ∧ fX8_rises_L f' T o (nI a) y = some (b, V) ∧ eqX S U ∧ eqM T V := by
  intro m
  induction m with
  | zero => intro i a f f' y S T h e ha h1 h2 h3; omega
  | succ m ih =>
    intro i a f f' y S T h e ha h1 h2 h3 hf hf'
    obtain ⟨f, rfl⟩ : ∃ g, f = g + 1 := ⟨f - 1, by omega⟩
    obtain ⟨f', rfl⟩ : ∃ g, f' = g + 1 := ⟨f' - 1, by omega⟩
    rw [fX1_isOutOfOrder_L, fX8_rises_L]
    have k1 := cmp_i (i := i) (by omega) 4096 (by omega)
    rcases adv_look h a (by omega) e with ⟨e1, e2⟩ | ⟨nm, sz, dt, q1, q2, q3, q4, q5, q6, e1, e2⟩
    · rw [e1, e2]
      by_cases c1 : (4096 : Int32) ≤ nI i
      · rw [if_pos c1]
        exact ⟨false, S, T, rfl, rfl, eqX_rf S, eqM_rf T⟩
      · rw [if_neg c1]
        exact ⟨false, S, T, rfl, rfl, eqX_rf S, eqM_rf T⟩
    · have c1 : ¬ (4096 : Int32) ≤ nI i := fun q => by have := k1.2.mp q; omega
      rw [if_neg c1, e1, e2]
      have hR := rel_step h (nI nm) (nI sz) (nI dt) (nI (dt + sz))
      have hX : eqX S (pS (pS (pS (pS S 12 (nI nm)) 14 (nI dt)) 13 (nI sz)) 11 (nI (dt + sz))) := (((eqX_pS (by omega) (by omega)).tr (eqX_pS (by omega) (by omega))).tr (eqX_pS (by omega) (by omega))).tr (eqX_pS (by omega) (by omega))
      have hM : eqM T (pS (pS (pS T 9 (nI nm)) 10 (nI sz)) 11 (nI dt)) := ((eqM_pS (by omega)).tr (eqM_pS (by omega))).tr (eqM_pS (by omega))
      show ∃ b U V, (if nI nm < y then fX1_isOutOfOrder_L f (pS (pS (pS (pS S 12 (nI nm)) 14 (nI dt)) 13 (nI sz)) 11 (nI (dt + sz))) x (nI nm) (nI i + 1) else some (true, pS (pS (pS (pS S 12 (nI nm)) 14 (nI dt)) 13 (nI sz)) 11 (nI (dt + sz)))) = some (b, U) ∧ (if nI nm < y then fX8_rises_L f' (pS (pS (pS T 9 (nI nm)) 10 (nI sz)) 11 (nI dt)) o (nI dt + nI sz) (nI nm) else some (true, pS (pS (pS T 9 (nI nm)) 10 (nI sz)) 11 (nI dt))) = some (b, V) ∧ _
      by_cases c2 : nI nm < y
      · rw [if_pos c2, if_pos c2, nI_add, show nI i + (1 : Int32) = nI (i + 1) from nI_1 i]
        obtain ⟨b, U, V, g1, g2, g3, g4⟩ := ih (i + 1) (dt + sz) f f' (nI nm) _ _ hR rfl (by omega) (by omega) (by omega) (by omega) (by omega) (by omega)
        exact ⟨b, U, V, g1, g2, hX.tr g3, hM.tr g4⟩
      · rw [if_neg c2, if_neg c2]
        exact ⟨true, _, _, rfl, rfl, hX, hM⟩
theorem rise_eq {w : Bool} {v : Int32} {S T : XS} (h : Rel w v S T) (o : Int32) : ∃ (b : Bool) (U V : XS), fX1_isOutOfOrder S (fX0_table S o) = some (b, U) ∧ fX8_rises T o = some (b, V) ∧ eqX S U ∧ eqM T V := by
  obtain ⟨a, ha, e1, e2, e3⟩ := first_eq h o
  rw [fX1_isOutOfOrder, fX8_rises, e1]
  obtain ⟨b, U, V, g1, g2, g3, g4⟩ := riseL o (fX0_table S o) 4097 0 a 4098 5000 64 _ _ e2 e3 (by omega) (by omega) (by omega) (by omega) (by omega) (by omega)
  exact ⟨b, U, V, g1, g2, eqX.tr (eqX_pS (by omega) (by omega)) g3, g4⟩
theorem shareL {w : Bool} {v : Int32} {S T : XS} (h : Rel w v S T) (o : Int32) : ∀ (n : Nat) (y : Int32), fX1_sharesTable_L n S o (fX0_table S o) y = fX8_sharesTable_L n T o y := by
  intro n
  induction n with
  | zero => intro y; rfl
  | succ n ih =>
    intro y
    rw [fX1_sharesTable_L, fX8_sharesTable_L, ih, table_eq h, table_eq h]
theorem share_eq {w : Bool} {v : Int32} {S T : XS} (h : Rel w v S T) (o : Int32) : fX1_sharesTable S o = fX8_sharesTable T o := by
  rw [fX1_sharesTable, fX8_sharesTable, shareL h]
theorem shareL_some (T : XS) (o : Nat) (ho : o ≤ 100) : ∀ (n k : Nat), k ≤ o + 1 → 102 ≤ k + n → ∃ b, fX8_sharesTable_L n T (nI o) (nI k) = some b := by
  intro n
  induction n with
  | zero => intro k h1 h2; omega
  | succ n ih =>
    intro k h1 h2
    rw [fX8_sharesTable_L]
    by_cases c1 : nI o ≤ nI k
    · rw [if_pos c1]; exact ⟨_, rfl⟩
    rw [if_neg c1]
    have hk : k < o := by
      rcases Nat.lt_or_ge k o with z | z
      · exact z
      · exact absurd (nI_le z (by omega)) c1
    by_cases c2 : fX8_word T (fX8_tableAt T (nI k)) = fX8_word T (fX8_tableAt T (nI o))
    · rw [if_pos c2]; exact ⟨_, rfl⟩
    · rw [if_neg c2, show nI k + (1 : Int32) = nI (k + 1) from nI_1 k]
      exact ih (k + 1) (by omega) (by omega)
theorem share_some {w : Bool} {v : Int32} {S T : XS} (h : Rel w v S T) (o : Int32) (ho : fX8_isObject T o = true) : ∃ b, fX8_sharesTable T o = some b := by
  obtain ⟨z, h1, h2, rfl⟩ := isObj_nat h ho
  exact shareL_some T z h2 102 1 (by omega) (by omega)
