theorem ob_s {α β : Type} {x : α} {f : α → Option β} : ob (some x) f = f x := rfl
theorem forgetX : ∀ (k i f : Nat) (S : XS), i + k = 101 → ∃ S1, fX6_forgetMet_L (f + k + 1) S (nI i) = some S1 ∧ eqX S S1 ∧ (∀ j, j < 101 → S1.2 2 j = if i ≤ j then 0 else S.2 2 j) := by
  intro k
  induction k with
  | zero =>
    intro i f S hi
    obtain rfl : i = 101 := by omega
    rw [fX6_forgetMet_L, if_pos (by decide)]
    exact ⟨S, rfl, eqX_rf S, fun j hj => by rw [if_neg (by omega)]⟩
  | succ k ih =>
    intro i f S hi
    have c : ¬ (101 : Int32) ≤ nI i := fun q => by have := (cmp_i (i := i) (by omega) 101 (by omega)).2.mp q; omega
    rw [fX6_forgetMet_L, if_neg c, gd_ok (show i < 101 by omega) (by omega), nz0, show nI i + (1 : Int32) = nI (i + 1) from nI_1 i]
    obtain ⟨S1, e1, e2, e3⟩ := ih (i + 1) f (pA S 2 (nI i) 0) (by omega)
    refine ⟨S1, e1, eqX.tr (eqX_pA (by omega) (by omega)) e2, fun j hj => ?_⟩
    rw [e3 j hj, pA_same, upd_at (by omega)]
    unfold upd
    by_cases q1 : i + 1 ≤ j
    · rw [if_pos q1, if_pos (by omega)]
    · rw [if_neg q1]
      by_cases q2 : j = i
      · rw [if_pos q2, if_pos (by omega)]
      · rw [if_neg q2, if_neg (by omega)]
theorem forgetM (r : Nat) (hr : r ≤ 100) (y2 : Int32) : ∀ (k i f : Nat) (T : XS), i + k = 101 → ∃ T1, fX8_within_L (f + k + 1) 19 T (nI r) y2 (nI i) 0 = fX8_within_L f 69 (pA (pA (pA T1 4 (nI r) 1) 5 (0 : Int32) (nI r)) 6 (0 : Int32) (fX8_link T1 (nI r) 2)) (nI r) y2 (nI 1) (nI 1) ∧ eqM T T1 ∧ (∀ j, j < 101 → T1.2 4 j = if i ≤ j then 0 else T.2 4 j) := by
  intro k
  induction k with
  | zero =>
    intro i f T hi
    obtain rfl : i = 101 := by omega
    rw [fX8_within_L, if_pos rfl, if_pos (by decide), gd_ok (show r < 101 by omega) (by omega), show gd (0 : Int32) 101 = some () from rfl, show gd (0 : Int32) 102 = some () from rfl, nz1]
    exact ⟨T, rfl, eqM_rf T, fun j hj => by rw [if_neg (by omega)]⟩
  | succ k ih =>
    intro i f T hi
    have c : ¬ (100 : Int32) < nI i := fun q => by have := (cmp_i (i := i) (by omega) 100 (by omega)).1.mp q; omega
    rw [fX8_within_L, if_pos rfl, if_neg c, gd_ok (show i < 101 by omega) (by omega), nz0, show nI i + (1 : Int32) = nI (i + 1) from nI_1 i]
    obtain ⟨T1, e1, e2, e3⟩ := ih (i + 1) f (pA T 4 (nI i) 0) (by omega)
    refine ⟨T1, e1, eqM.tr (eqM_pA (by omega) (by omega)) e2, fun j hj => ?_⟩
    rw [e3 j hj, pA_same, upd_at (by omega)]
    unfold upd
    by_cases q1 : i + 1 ≤ j
    · rw [if_pos q1, if_pos (by omega)]
    · rw [if_neg q1]
      by_cases q2 : j = i
      · rw [if_pos q2, if_pos (by omega)]
      · rw [if_neg q2, if_neg (by omega)]
theorem um_zero {f : Nat → Int32} : ∀ N, N ≤ 100 → (∀ j, j < 101 → f j = 0) → um f N = N := by
  intro N
  induction N with
  | zero => intro _ _; rfl
  | succ N ih =>
    intro h hf
    show um f N + (if f (N + 1) = 0 then 1 else 0) = N + 1
    rw [ih (by omega) hf, if_pos (hf _ (by omega))]
theorem op_within {w : Bool} {v : Int32} {S T : XS} (h : Rel w v S T) (x1 : Int32) (x2 : Int32) : ∃ (u t : Int32 × XS), fX7_within S x1 x2 = some u ∧ fX8_within T x1 x2 = some t ∧ u.1 = t.1 ∧ Rel w v u.2 t.2 := by
  rw [fX7_within, fX8_within, has_eq h]
  by_cases c1 : bI (fX8_isObject T x1) = 0
  · rw [if_pos c1, if_pos c1]; exact ⟨_, _, rfl, rfl, rfl, h⟩
  rw [if_neg c1, if_neg c1]
  by_cases c2 : ¬ (0 : Int32) ≤ x2
  · rw [if_neg c2, if_neg c2]; exact ⟨_, _, rfl, rfl, rfl, h⟩
  have c2 := Decidable.not_not.mp c2
  rw [if_pos c2, if_pos c2]
  obtain ⟨k, hk, rfl⟩ := nI_of (Int32.not_lt.mpr c2)
  obtain ⟨N, hN2, hN⟩ := h.2.2.2.2.2.2.2.2.1
  have hob := bI1.mp c1
  obtain ⟨r, r1, r2, rfl⟩ := obj_rng hN hN2 hob
  obtain ⟨S1, e1, e2, e3⟩ := forgetX 101 0 0 S (by omega)
  rw [nI_0] at e1
  have e1' : fX6_forgetMet S = some S1 := by rw [fX6_forgetMet]; exact e1
  obtain ⟨T1, g1, g2, g3⟩ := forgetM r (by omega) (nI k) 101 0 298 T (by omega)
  rw [nI_0] at g1
  have hR1 : Rel w v S1 T := h.keep e2 (eqM_rf T)
  have hx := xEnter (S := S1) (y1 := nI r) (f := 201) (n := 0) (d := 0) (st := 0) (o := r) hk (by omega) (by omega) (by omega) (by omega) (by rw [has_eq hR1]; exact hob) (by rw [e3 r (by omega), if_pos (by omega)])
  rw [nI_0] at hx
  rw [fX6_met, e1', ob_s, hx, g1]
  -- the reference at its second head
  have hz : ∀ j, j < 101 → T1.2 4 j = 0 := fun j hj => by rw [g3 j hj, if_pos (by omega)]
  have hT2 : eqM T1 (pA (pA (pA T1 4 (nI r) 1) 5 (0 : Int32) (nI r)) 6 (0 : Int32) (fX8_link T1 (nI r) 2)) := ((eqM_pA (by omega) (by omega)).tr (eqM_pA (by omega) (by omega))).tr (eqM_pA (by omega) (by omega))
  have h4 : (pA (pA (pA T1 4 (nI r) 1) 5 (0 : Int32) (nI r)) 6 (0 : Int32) (fX8_link T1 (nI r) 2)).2 4 = upd (T1.2 4) r 1 := by
    rw [pA_oth (by omega), pA_oth (by omega), pA_same, upd_at (by omega)]
  have h5 : (pA (pA (pA T1 4 (nI r) 1) 5 (0 : Int32) (nI r)) 6 (0 : Int32) (fX8_link T1 (nI r) 2)).2 5 0 = nI r := by
    rw [pA_oth (by omega), pA_same]; rfl
  have h6 : (pA (pA (pA T1 4 (nI r) 1) 5 (0 : Int32) (nI r)) 6 (0 : Int32) (fX8_link T1 (nI r) 2)).2 6 0 = fX8_link T (nI r) 2 := by
    rw [pA_same]
    show fX8_link T1 (nI r) 2 = _
    exact link_eqM g2 _ _
  generalize pA (pA (pA T1 4 (nI r) 1) 5 (0 : Int32) (nI r)) 6 (0 : Int32) (fX8_link T1 (nI r) 2) = T2 at hT2 h4 h5 h6 ⊢
  have hE2 : eqM T T2 := g2.tr hT2
  have hu : um (T2.2 4) N = N - 1 := by
    rw [h4]
    have q1 := um_in (f := T1.2 4) r1 (hz r (by omega)) N r2
    have q2 := um_zero (f := T1.2 4) N hN2 hz
    omega
  by_cases c3 : 0 = k
  · rw [if_pos c3, ob_s]
    obtain ⟨T3, k1, k2⟩ := finM (T0 := T) (k := k) hN hN2 (nI r) (2 * (N - 1) + 1) 1 1 (N - 1) 298 T2 rfl (by omega) (by omega) hu hE2 (by omega) (by omega) (by omega)
    rw [k1]
    refine ⟨_, _, rfl, rfl, ?_, h.keep e2 k2⟩
    show nI r = T2.2 5 k
    rw [← c3, h5]
  · rw [if_neg c3]
    obtain ⟨rr, S3, T3, k1, k2, k3, k4⟩ := simW h hN hN2 hk (nI r) (nI r) (2 * (N - 1) + (0 + 1)) 0 1 (N - 1) 1 201 298 (xStar S1 0 r) T2 rfl (by omega) (by omega) hu (e2.tr xs_eqX) hE2 (fun o ho => by
      rw [xs2 (by omega), h4]
      unfold upd
      split
      · rfl
      · rw [e3 o (by omega), if_pos (by omega), hz o (by omega)]) (fun i i1 i2 => by omega) (by omega) (by omega) (by omega) (by omega)
    rw [h6, ← link_eq hR1, Nat.zero_add] at k1
    rw [Nat.zero_add] at k2
    rw [Nat.zero_add, k1, k2, ob_s]
    exact ⟨_, _, rfl, rfl, rfl, h.keep k3 k4⟩
