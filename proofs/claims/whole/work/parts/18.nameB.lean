/-! names, second: what the two readers share, and the steps -/
def Kp (T : XS) (z : Nat) (T' : XS) (z' : Nat) : Prop := z ≤ z' ∧ ∀ j, j < z → T'.2 2 j = T.2 2 j
def DA (V : Nat) (S0 T0 S T : XS) (z hd sh : Nat) : Prop := eqX S0 S ∧ eqM T0 T ∧ S.1 16 = nI z ∧ T.1 13 = nI z ∧ z ≤ 250 ∧ (∀ j, j < z → T.2 2 j = S.2 3 j &&& 255) ∧ hd < 3 ∧ sh < 3 ∧ S.1 17 = nI hd ∧ T.1 17 = nI hd ∧ T.1 18 = nI sh ∧ S.1 19 = nI ((hd + sh) % 3) ∧ (3 ≤ V → hd = 0)
def DB (V : Nat) (W : Nat → Nat) (S T : XS) : Bool → List Nat → List Nat → Prop
  | false, L, _ => S.1 20 = 0 ∧ T.1 19 = 0 ∧ SX W S 21 L ∧ ∃ p, T.1 15 = nI p ∧ T.1 16 = nI (p + L.length) ∧ Seg T p L ∧ p + L.length ≤ 765
  | true, L, B => S.1 20 = 1 ∧ T.1 19 = 1 ∧ SX W S 25 L ∧ SX W S 21 B ∧ ∃ p bp bh, T.1 15 = nI p ∧ T.1 16 = nI (p + L.length) ∧ Seg T p L ∧ p + L.length ≤ 6909 ∧ T.1 20 = nI bp ∧ T.1 21 = nI (bp + B.length) ∧ Seg T bp B ∧ bp + B.length ≤ p ∧ bp + B.length ≤ 765 ∧ S.1 18 = nI bh ∧ T.1 22 = nI bh ∧ bh < 3 ∧ (3 ≤ V → bh = 0)
def PP : Bool → List Nat → List Nat → Nat
  | false, L, _ => 3073 * L.length
  | true, L, B => 3073 * B.length + L.length + 1
def cst : Bool → Nat
  | false => 3073
  | true => 1
theorem cst_pos (b : Bool) : 0 < cst b := by cases b <;> decide
theorem PP_cons (ab : Bool) (s : Nat) (L B : List Nat) : PP ab (s :: L) B = PP ab L B + cst ab := by
  cases ab with
  | false => show 3073 * (L.length + 1) = 3073 * L.length + 3073; omega
  | true => show 3073 * B.length + (L.length + 1) + 1 = 3073 * B.length + L.length + 1 + 1; omega
def HR (V : Nat) (S0 T0 : XS) (T : XS) (z Q : Nat) (rx ry : Option XS) : Prop := ∃ S1 T1 z1 ab L B hd sh, rx = some S1 ∧ ry = some T1 ∧ DA V S0 T0 S1 T1 z1 hd sh ∧ DB V (Wd T0) S1 T1 ab L B ∧ Kp T z T1 z1 ∧ PP ab L B < Q
theorem DA_keep {V : Nat} {S0 T0 S T S1 T1 : XS} {z hd sh : Nat} (h : DA V S0 T0 S T z hd sh) (hx : ∀ k, k < 20 → S1.1 k = S.1 k) (hx2 : S1.2 = S.2) (hm : ∀ k, k < 15 ∨ k = 17 ∨ k = 18 → T1.1 k = T.1 k) (hm2 : ∀ q, q ≠ 3 → T1.2 q = T.2 q) : DA V S0 T0 S1 T1 z hd sh := by
  obtain ⟨a1, a2, a3, a4, a5, a6, a7, a8, a9, b1, b2, b3, b4⟩ := h
  refine ⟨a1.tr ⟨fun k hk => hx k (by omega), hx 15 (by omega), by rw [hx2], by rw [hx2]⟩, a2.tr ⟨fun k hk => hm k (by omega), hm2 0 (by omega), hm2 1 (by omega)⟩, (hx 16 (by omega)).trans a3, (hm 13 (by omega)).trans a4, a5, fun j hj => ?_, a7, a8, (hx 17 (by omega)).trans a9, (hm 17 (by omega)).trans b1, (hm 18 (by omega)).trans b2, (hx 19 (by omega)).trans b3, b4⟩
  rw [hx2, hm2 2 (by omega)]
  exact a6 j hj
theorem Seg_keep {T T1 : XS} {p : Nat} {L : List Nat} (h : Seg T p L) (he : ∀ j, j < p + L.length → T1.2 3 j = T.2 3 j) : Seg T1 p L := fun i hi => by
  rw [he (p + i) (by omega)]
  exact h i hi
theorem DB_keep {V : Nat} {W : Nat → Nat} {S T S1 T1 : XS} {ab : Bool} {L B : List Nat} (h : DB V W S T ab L B) (hx : ∀ k, k = 18 ∨ (20 ≤ k ∧ k ≤ 28) → S1.1 k = S.1 k) (hm : ∀ k, k = 15 ∨ k = 16 ∨ (19 ≤ k ∧ k ≤ 22) → T1.1 k = T.1 k) (hm2 : T1.2 3 = T.2 3) : DB V W S1 T1 ab L B := by
  cases ab with
  | false =>
    obtain ⟨a1, a2, a3, p, b1, b2, b3, b4⟩ := h
    exact ⟨(hx 20 (by omega)).trans a1, (hm 19 (by omega)).trans a2, SX_keep a3 (fun k h1 h2 => hx k (by omega)), p, (hm 15 (by omega)).trans b1, (hm 16 (by omega)).trans b2, Seg_keep b3 (fun j _ => by rw [hm2]), b4⟩
  | true =>
    obtain ⟨a1, a2, a3, a4, p, bp, bh, b1, b2, b3, b4, c1, c2, c3, c4, c5, d1, d2, d3, d4⟩ := h
    exact ⟨(hx 20 (by omega)).trans a1, (hm 19 (by omega)).trans a2, SX_keep a3 (fun k h1 h2 => hx k (by omega)), SX_keep a4 (fun k h1 h2 => hx k (by omega)), p, bp, bh, (hm 15 (by omega)).trans b1, (hm 16 (by omega)).trans b2, Seg_keep b3 (fun j _ => by rw [hm2]), b4, (hm 20 (by omega)).trans c1, (hm 21 (by omega)).trans c2, Seg_keep c3 (fun j _ => by rw [hm2]), c4, c5, (hx 18 (by omega)).trans d1, (hm 22 (by omega)).trans d2, d3, d4⟩
theorem say_sim {V : Nat} {S0 T0 S T : XS} {z hd sh : Nat} {x y : Int32} (hxy : x &&& 255 = y &&& 255) (h : DA V S0 T0 S T z hd sh) : ∃ S1 T1 z1, fX5_say S x = some S1 ∧ fX8_say T y = some T1 ∧ DA V S0 T0 S1 T1 z1 hd sh ∧ Kp T z T1 z1 ∧ (∀ k, k ≠ 16 → S1.1 k = S.1 k) ∧ (∀ k, k ≠ 13 → T1.1 k = T.1 k) ∧ T1.2 3 = T.2 3 := by
  obtain ⟨a1, a2, a3, a4, a5, a6, a7, a8, a9, b1, b2, b3, b4⟩ := id h
  rcases Nat.lt_or_ge z 250 with q | q
  · have c : ¬ (250 : Int32) ≤ nI z := nI_ge (a := z) (b := 250) q (by omega)
    rw [fX5_say, fX8_say, a3, a4, if_neg c, if_neg c, gd_ok q (by omega), ob_s, ob_s, show nI z + (1 : Int32) = nI (z + 1) from nI_1 z]
    have g1 : (pS (pA S 3 (nI z) (vp_nar .byte (x.toInt8.toInt32))) 16 (nI (z + 1))).2 3 = upd (S.2 3) z (vp_nar .byte (x.toInt8.toInt32)) := by
      show (pA S 3 (nI z) (vp_nar .byte (x.toInt8.toInt32))).2 3 = _
      rw [pA_same, upd_at (by omega)]
    have g2 : (pS (pA T 2 (nI z) (y &&& 255)) 13 (nI (z + 1))).2 2 = upd (T.2 2) z (y &&& 255) := by
      show (pA T 2 (nI z) (y &&& 255)).2 2 = _
      rw [pA_same, upd_at (by omega)]
    have g3 : (pS (pA T 2 (nI z) (y &&& 255)) 13 (nI (z + 1))).2 3 = T.2 3 := by
      show (pA T 2 (nI z) (y &&& 255)).2 3 = _
      exact pA_oth (by omega)
    refine ⟨_, _, z + 1, rfl, rfl, ⟨a1.tr ((eqX_pA (by omega) (by omega)).tr (eqX_pS (by omega) (by omega))), a2.tr ((eqM_pA (by omega) (by omega)).tr (eqM_pS (by omega))), rfl, rfl, by omega, fun j hj => ?_, a7, a8, a9, b1, b2, b3, b4⟩, ⟨by omega, fun j hj => ?_⟩, fun k hk => if_neg hk, fun k hk => if_neg hk, g3⟩
    · rw [g1, g2]
      unfold upd
      by_cases e : j = z
      · rw [if_pos e, if_pos e, nar8, hxy]
      · rw [if_neg e, if_neg e]; exact a6 j (by omega)
    · rw [g2]
      unfold upd
      rw [if_neg (by omega)]
  · have c : (250 : Int32) ≤ nI z := nI_le (a := 250) (b := z) q (by omega)
    rw [fX5_say, fX8_say, a3, a4, if_pos c, if_pos c]
    exact ⟨S, T, z, rfl, rfl, h, ⟨Nat.le_refl _, fun _ _ => rfl⟩, fun _ _ => rfl, fun _ _ => rfl, rfl⟩
theorem say_HR {V : Nat} {S0 T0 S T : XS} {z hd sh Q : Nat} {ab : Bool} {L B : List Nat} {x y : Int32} (hxy : x &&& 255 = y &&& 255) (h : DA V S0 T0 S T z hd sh) (hB : DB V (Wd T0) S T ab L B) (hQ : PP ab L B < Q) : HR V S0 T0 T z Q (fX5_say S x) (fX8_say T y) := by
  obtain ⟨S1, T1, z1, e1, e2, h1, h2, k1, k2, k3⟩ := say_sim hxy h
  exact ⟨S1, T1, z1, ab, L, B, hd, sh, e1, e2, h1, DB_keep hB (fun k hk => k1 k (by omega)) (fun k hk => k2 k (by omega)) k3, h2, hQ⟩
theorem take_sim {w : Bool} {v : Int32} {V : Nat} {S T0 T : XS} {ab : Bool} {s : Nat} {L1 B : List Nat} (hR : Rel w v S T0) (h : DB V (Wd T0) S T ab (s :: L1) B) : s < 32 ∧ ∃ S1 p, fX4_takeS S = (nI s, S1) ∧ (∀ k, k < 21 → S1.1 k = S.1 k) ∧ S1.2 = S.2 ∧ T.1 15 = nI p ∧ T.1 16 = nI (p + 1 + L1.length) ∧ p + 1 + L1.length ≤ 6909 ∧ T.2 3 p = nI s ∧ DB V (Wd T0) S1 (pS T 15 (nI (p + 1))) ab L1 B := by
  have hl : (s :: L1).length = L1.length + 1 := rfl
  cases ab with
  | false =>
    obtain ⟨a1, a2, a3, p, b1, b2, b3, b4⟩ := h
    obtain ⟨hs, S1, c1, c2, c3, c4⟩ := (take9_sp hR a3).2 s L1 rfl
    rw [hl] at b2 b4
    have e2 : T.1 16 = nI (p + 1 + L1.length) := by rw [b2]; congr 1; omega
    refine ⟨hs, S1, p, ?_, fun k hk => c3 k (by omega), c4, b1, e2, by omega, b3 0 (by rw [hl]; omega), (c3 20 (by omega)).trans a1, a2, c2, p + 1, rfl, e2, fun i hi => ?_, by omega⟩
    · rw [fX4_takeS, if_pos a1]; exact c1
    · have := b3 (i + 1) (by rw [hl]; omega)
      rw [show p + 1 + i = p + (i + 1) by omega]
      exact this
  | true =>
    obtain ⟨a1, a2, a3, a4, p, bp, bh, b1, b2, b3, b4, c⟩ := h
    obtain ⟨hs, S1, c1, c2, c3, c4⟩ := (take10_sp hR a3).2 s L1 rfl
    rw [hl] at b2 b4
    have e2 : T.1 16 = nI (p + 1 + L1.length) := by rw [b2]; congr 1; omega
    obtain ⟨d1, d2, d3, d4, d5, f1, f2, f3, f4⟩ := c
    refine ⟨hs, S1, p, ?_, fun k hk => c3 k (by omega), c4, b1, e2, by omega, b3 0 (by rw [hl]; omega), (c3 20 (by omega)).trans a1, a2, c2, SX_keep a4 (fun k _ _ => c3 k (by omega)), p + 1, bp, bh, rfl, e2, fun i hi => ?_, by omega, d1, d2, Seg_keep d3 (fun _ _ => rfl), by omega, d5, (c3 18 (by omega)).trans f1, f2, f3, f4⟩
    · rw [fX4_takeS, if_neg (show ¬ S.1 20 = 0 by rw [a1]; decide)]; exact c1
    · have := b3 (i + 1) (by rw [hl]; omega)
      rw [show p + 1 + i = p + (i + 1) by omega]
      exact this
theorem take_end {w : Bool} {v : Int32} {V : Nat} {S T0 T : XS} {ab : Bool} {B : List Nat} (hR : Rel w v S T0) (h : DB V (Wd T0) S T ab [] B) : fX4_takeS S = (-1, S) ∧ ∃ p, p ≤ 6909 ∧ T.1 15 = nI p ∧ T.1 16 = nI p := by
  cases ab with
  | false =>
    obtain ⟨a1, a2, a3, p, b1, b2, b3, b4⟩ := h
    have b4 : p ≤ 765 := b4
    refine ⟨?_, p, by omega, b1, b2⟩
    rw [fX4_takeS, if_pos a1]; exact (take9_sp hR a3).1 rfl
  | true =>
    obtain ⟨a1, a2, a3, a4, p, bp, bh, b1, b2, b3, b4, c⟩ := h
    refine ⟨?_, p, b4, b1, b2⟩
    rw [fX4_takeS, if_neg (show ¬ S.1 20 = 0 by rw [a1]; decide)]; exact (take10_sp hR a3).1 rfl
theorem nx_m1 : ∀ x, x < 32 → ¬ nI x = (-1 : Int32) := by decide +kernel
theorem half_neg {x : Int32} (h : x ≤ 0) : x / 2 ≤ 0 := by
  have e0 : (0 : Int32).toInt = 0 := by decide
  have e2 : (2 : Int32).toInt = 2 := by decide
  have h1 := Int32.le_iff_toInt_le.mp h
  rw [e0] at h1
  apply Int32.le_iff_toInt_le.mpr
  rw [Int32.toInt_div_of_ne_right _ _ (by decide), e0, e2]
  have e3 : x.toInt.tdiv 2 = -((-x.toInt).tdiv 2) := by rw [Int.neg_tdiv]; omega
  rw [e3, Int.tdiv_eq_ediv_of_nonneg (by omega)]
  omega
