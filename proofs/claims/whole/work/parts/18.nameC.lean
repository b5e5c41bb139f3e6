/-! names, third: an abbreviation begins -/
def abX (S1 : XS) (a : Int32) : XS := fX5_read10 (pS (fX4_begin10 S1 a (((4096 : Int32) - a) / (2 : Int32))) 18 ((fX4_begin10 S1 a (((4096 : Int32) - a) / (2 : Int32))).1 17)) (0 : Int32)
def abM (T : XS) : XS := pS (pS (pS (pS (pS T 19 (bI true)) 20 (T.1 15)) 21 (T.1 16)) 22 (T.1 17)) 15 (T.1 16)
theorem abM_eqM (T : XS) : eqM T (abM T) := ((((eqM_pS (by omega)).tr (eqM_pS (by omega))).tr (eqM_pS (by omega))).tr (eqM_pS (by omega))).tr (eqM_pS (by omega))
theorem abX_eqX (S : XS) (a : Int32) : eqX S (abX S a) := by
  refine ⟨fun k hk => ?_, rfl, rfl, rfl⟩
  show upd (upd (upd (upd (upd (upd (upd (upd S.1 25 _) 26 _) 27 _) 28 _) 18 _) 20 _) 17 _) 19 _ k = S.1 k
  unfold upd
  rw [if_neg (by omega), if_neg (by omega), if_neg (by omega), if_neg (by omega), if_neg (by omega), if_neg (by omega), if_neg (by omega), if_neg (by omega)]
theorem ab_words {a : Nat} (ha : a < 65536) (he : a % 2 = 0) : (((4096 : Int32) - nI a) / (2 : Int32) = nI ((4096 - a) / 2) ∨ ((4096 - a) / 2 = 0 ∧ ((4096 : Int32) - nI a) / (2 : Int32) ≤ 0)) ∧ (¬ (4096 : Int32) ≤ nI a → ((((4096 : Int32) - nI a) + (1 : Int32)) / (2 : Int32)) = nI ((4096 - a) / 2)) ∧ ((4096 : Int32) ≤ nI a → (4096 - a) / 2 = 0) := by
  rcases Nat.lt_or_ge a 4096 with q | q
  · have e : (4096 : Int32) - nI a = nI (4096 - a) := pk_sub (a := 4096) (by omega)
    refine ⟨Or.inl ?_, fun _ => ?_, fun z => absurd z (nI_ge (a := a) (b := 4096) q (by omega))⟩
    · rw [e]; exact pk_div (d := 2) (by omega) (by omega) (by omega)
    · rw [e, show nI (4096 - a) + (1 : Int32) = nI (4096 - a + 1) from nI_1 _, show (2 : Int32) = nI 2 from rfl, pk_div (d := 2) (by omega) (by omega) (by omega)]
      congr 1
      omega
  · refine ⟨Or.inr ⟨by omega, half_neg ?_⟩, fun z => absurd (nI_le (a := 4096) (b := a) q (by omega)) z, fun _ => by omega⟩
    apply Int32.le_iff_toInt_le.mpr
    have e0 : (0 : Int32).toInt = 0 := by decide
    rw [e0, show ((4096 : Int32) - nI a).toInt = ((4096 : Nat) : Int) - (a : Int) from pk_sub_toInt (a := 4096) (by omega) (by omega)]
    omega
theorem abM_eq {T : XS} {k A : Nat} (h19 : T.1 19 = 0) (hA : A < 65536) (he : A % 2 = 0) (hw : (((2 : Int32) * (fX8_word T ((64 : Int32) + ((2 : Int32) * nI k)))) - ((2 : Int32) * (fX8_word T ((64 : Int32) + ((2 : Int32) * nI k)))) / (65536 : Int32) * (65536 : Int32)) = nI A) : fX8_abbreviation T (nI k) = ob (fX8_read (abM T) (T.1 16) (nI A) (nI ((4096 - A) / 2))) (fun u => some (pS (pS (pS u.2 16 u.1) 17 (0 : Int32)) 18 (0 : Int32))) := by
  obtain ⟨-, w2, w3⟩ := ab_words hA he
  rw [fX8_abbreviation, if_pos h19, hw]
  by_cases c : (4096 : Int32) ≤ nI A
  · rw [if_pos c, w3 c]
    rfl
  · rw [if_neg c, w2 c]
    rfl
theorem abb_core {w : Bool} {v : Int32} {V : Nat} {S0 T0 S1 T1 : XS} {z hd k A Q : Nat} {L1 B : List Nat} (h0 : Rel w v S0 T0) (hA : DA V S0 T0 S1 T1 z hd 0) (hB : DB V (Wd T0) S1 T1 false L1 B) (hA2 : A < 65536) (he : A % 2 = 0) (hw : (((2 : Int32) * (fX8_word T1 ((64 : Int32) + ((2 : Int32) * nI k)))) - ((2 : Int32) * (fX8_word T1 ((64 : Int32) + ((2 : Int32) * nI k)))) / (65536 : Int32) * (65536 : Int32)) = nI A) (hQ : 3073 * L1.length + 6146 ≤ Q) :
    HR V S0 T0 T1 z Q (some (abX S1 (nI A))) (fX8_abbreviation T1 (nI k)) := by
  obtain ⟨a1, a2, a3, a4, a5, a6, a7, a8, a9, b1, b2, b3, b4⟩ := hA
  obtain ⟨c1, c2, c3, p, d1, d2, d3, d4⟩ := hB
  obtain ⟨w1, -, -⟩ := ab_words hA2 he
  have hlen := rwL_len (Wd T0) ((4096 - A) / 2) A
  obtain ⟨T3, r1, r2, r3, r4, r5, r6⟩ := read_sp h0 A ((4096 - A) / 2) (p + L1.length) (by omega) (by omega) (by omega) (abM T1) (a2.tr (abM_eqM T1))
  rw [abM_eq c2 hA2 he hw, d2, r1, ob_s]
  refine ⟨_, _, z, true, rwL (Wd T0) ((4096 - A) / 2) A, L1, 0, 0, rfl, rfl, ⟨a1.tr (abX_eqX S1 _), ?_, a3, ?_, a5, fun j hj => ?_, by omega, by omega, rfl, rfl, rfl, rfl, fun _ => rfl⟩, ⟨rfl, ?_, ?_, ?_, p + L1.length, p, hd, ?_, rfl, r6, by omega, ?_, ?_, ?_, Nat.le_refl _, d4, a9, ?_, a7, b4⟩, ⟨Nat.le_refl _, fun j hj => ?_⟩, ?_⟩
  · exact r2.tr (((eqM_pS (by omega)).tr (eqM_pS (by omega))).tr (eqM_pS (by omega)))
  · show T3.1 13 = _
    rw [r3]; exact a4
  · show T3.2 2 j = S1.2 3 j &&& 255
    rw [r4 2 (by omega)]; exact a6 j hj
  · show T3.1 19 = _
    rw [r3]; rfl
  · exact ⟨A, (4096 - A) / 2, 0, 0, rfl, w1, rfl, rfl, by omega, by omega, by omega, rfl⟩
  · refine SX_keep c3 (fun k h1 h2 => ?_)
    show upd (upd (upd (upd (upd (upd (upd (upd S1.1 25 _) 26 _) 27 _) 28 _) 18 _) 20 _) 17 _) 19 _ k = S1.1 k
    unfold upd
    rw [if_neg (by omega), if_neg (by omega), if_neg (by omega), if_neg (by omega), if_neg (by omega), if_neg (by omega), if_neg (by omega), if_neg (by omega)]
  · show T3.1 15 = _
    rw [r3]; exact d2
  · show T3.1 20 = _
    rw [r3]; exact d1
  · show T3.1 21 = _
    rw [r3]; exact d2
  · exact Seg_keep d3 (fun j hj => r5 j hj)
  · show T3.1 22 = _
    rw [r3]; exact b1
  · show T3.2 2 j = T1.2 2 j
    rw [r4 2 (by omega)]; rfl
  · show 3073 * L1.length + (rwL (Wd T0) ((4096 - A) / 2) A).length + 1 < Q
    omega
theorem HR_T {V : Nat} {S0 T0 T T1 : XS} {z Q : Nat} {rx ry : Option XS} (h : HR V S0 T0 T1 z Q rx ry) (e : T1.2 = T.2) : HR V S0 T0 T z Q rx ry := by
  obtain ⟨S2, T2, z1, ab, L, B, hd, sh, h1, h2, h3, h4, h5, h6⟩ := h
  exact ⟨S2, T2, z1, ab, L, B, hd, sh, h1, h2, h3, h4, ⟨h5.1, fun j hj => by rw [← e]; exact h5.2 j hj⟩, h6⟩
theorem abb_sim {w : Bool} {v : Int32} {V : Nat} {S0 T0 S T : XS} {z hd s Q : Nat} {ab : Bool} {L B : List Nat} {K : Int32 → Int32} (h0 : Rel w v S0 T0) (hA : DA V S0 T0 S T z hd 0) (hB : DB V (Wd T0) S T ab L B) (hs1 : 1 ≤ s) (hs3 : s ≤ 3) (hK : ∀ x, K (nI x) = nI (32 * (s - 1) + x)) (hQ : PP ab L B + cst ab ≤ Q) :
    HR V S0 T0 T z Q (fX5_abbreviate S (nI s)) (if (T.1 16) ≤ (T.1 15) then some T else (ob (gd (T.1 15) 9000) (fun _ => (ob (fX8_abbreviation (pS T 15 ((T.1 15) + (1 : Int32))) (K (T.2 3 (T.1 15).toNatClampNeg))) (fun u6 => some (u6)))))) := by
  have hR : Rel w v S T0 := h0.keep hA.1 (eqM_rf T0)
  have hc := cst_pos ab
  cases L with
  | nil =>
    obtain ⟨e, p, hp, e1, e2⟩ := take_end hR hB
    rw [fX5_abbreviate, e, if_pos rfl, e1, e2, if_pos (nI_le (Nat.le_refl p) (by omega))]
    exact ⟨S, T, z, ab, [], B, hd, 0, rfl, rfl, hA, hB, ⟨Nat.le_refl _, fun _ _ => rfl⟩, by omega⟩
  | cons x L1 =>
    obtain ⟨hx, S1, p, e, k1, k2, e1, e2, e3, e4, hB1⟩ := take_sim hR hB
    have hA1 : DA V S0 T0 S1 (pS T 15 (nI (p + 1))) z hd 0 := DA_keep hA (fun k hk => k1 k (by omega)) k2 (fun k hk => if_neg (by omega)) (fun q hq => rfl)
    have ex : fX5_abbreviate S (nI s) = if S1.1 20 = 0 then some (abX S1 (((2 : Int32) * (fX2_word S1 ((64 : Int32) + ((2 : Int32) * (((32 : Int32) * (nI s - (1 : Int32))) + nI x))))) - ((2 : Int32) * (fX2_word S1 ((64 : Int32) + ((2 : Int32) * (((32 : Int32) * (nI s - (1 : Int32))) + nI x))))) / (65536 : Int32) * (65536 : Int32))) else (ob (fX5_say S1 (63 : Int32)) (fun u3 => some (u3))) := by
      rw [fX5_abbreviate, e]
      exact if_neg (nx_m1 x hx)
    rw [ex, e1, e2, if_neg (nI_ge (by omega) (by omega)), gd_ok (show p < 9000 by omega) (by omega), ob_s, nI_clamp (by omega), e4, hK, ob_id, ob_id, show nI p + (1 : Int32) = nI (p + 1) from nI_1 p]
    rw [PP_cons] at hQ
    cases ab with
    | true =>
      rw [if_neg (show ¬ S1.1 20 = 0 by rw [hB1.1]; decide), fX8_abbreviation, if_neg (show ¬ (pS T 15 (nI (p + 1))).1 19 = 0 by rw [hB1.2.1]; decide), ob_id]
      exact HR_T (say_HR rfl hA1 hB1 (by omega)) rfl
    | false =>
      have hR1 : Rel w v S1 T0 := h0.keep hA1.1 (eqM_rf T0)
      have hW := Wd_eq h0 (64 + 2 * (32 * (s - 1) + x))
      have f1 : (64 : Int32) + ((2 : Int32) * (((32 : Int32) * (nI s - (1 : Int32))) + nI x)) = nI (64 + 2 * (32 * (s - 1) + x)) := by
        rw [show nI s - (1 : Int32) = nI (s - 1) from pk_sub (b := 1) hs1, show (32 : Int32) = nI 32 from rfl, pk_mul, nI_add, show (2 : Int32) = nI 2 from rfl, pk_mul, show (64 : Int32) = nI 64 from rfl, nI_add]
      have f2 : (64 : Int32) + ((2 : Int32) * nI (32 * (s - 1) + x)) = nI (64 + 2 * (32 * (s - 1) + x)) := by
        rw [show (2 : Int32) = nI 2 from rfl, pk_mul, show (64 : Int32) = nI 64 from rfl, nI_add]
      have f3 : ∀ n, n < 65536 → (2 : Int32) * nI n - (2 : Int32) * nI n / (65536 : Int32) * (65536 : Int32) = nI (2 * n % 65536) := fun n hn => by
        rw [show (2 : Int32) = nI 2 from rfl, pk_mul]
        exact pk_rem (d := 65536) (by omega) (by omega) (by omega)
      rw [if_pos hB1.1, f1, word_eq hR1, hW.1, f3 _ hW.2]
      refine HR_T (T1 := pS T 15 (nI (p + 1))) ?_ rfl
      refine abb_core (A := 2 * Wd T0 (64 + 2 * (32 * (s - 1) + x)) % 65536) (k := 32 * (s - 1) + x) h0 hA1 hB1 (Nat.mod_lt _ (by omega)) (by omega) ?_ ?_
      · rw [f2, word_eqM hA1.2.1, hW.1, f3 _ hW.2]
      · have : PP false L1 B = 3073 * L1.length := rfl
        have : cst false = 3073 := rfl
        omega
