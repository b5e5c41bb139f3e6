/-! names, third: an abbreviation begins -/
def abX (S1 : XS) (a : Int32) : XS := fX5_read10 (pS (fX4_begin10 S1 a (((4096 : Int32) - a) / (2 : Int32))) 18 ((fX4_begin10 S1 a (((4096 : Int32) - a) / (2 : Int32))).1 17)) (0 : Int32)
def abM (T : XS) : XS := pS (pS (pS (pS (pS T 19 (bI true)) 20 (T.1 15)) 21 (T.1 16)) 22 (T.1 17)) 15 (T.1 16)
theorem abM_eqM (T : XS) : eqM T (abM T) := ((((eqM_pS (by omega)).tr (eqM_pS (by omega))).tr (eqM_pS (by omega))).tr (eqM_pS (by omega))).tr (eqM_pS (by omega))
theorem abX_eqX (S : XS) (a : Int32) : eqX S (abX S a) := by
  refine ⟨fun k hk => ?_, rfl, rfl, rfl⟩
  show upd (upd (upd (upd (upd (upd (upd (upd S.1 25 _) 26 _) 27 _) 28 _) 18 _) 20 _) 17 _) 19 _ k = S.1 k
  unfold upd
  rw [if_neg (by omega), if_neg (by omega), if_neg (by omega), if_neg (by omega), if_neg (by omega), if_neg (by omega), if_neg (by omega), if_neg (by omega)]
theorem ab_words {a : Nat} (ha : a < 65536) (he : a % 2 = 0) : (((4096 : Int32) - nI a) / (2 : Int32) = nI ((4096 - a) / 2) ∨ ((4096 - a) / 2 = 0 ∧ ((4096 : Int32) - nI a) / (2 : Int32) ≤ 0)) ∧ (¬ (4096 : Int32) ≤ nI a → ((((4096 : Int32) - nI a) + (1 : Int32)) / (2 : Int32)) = nI ((4096 - a) / 2)) ∧ ((4096 : Int32) ≤ nI a → (4096 - a) / 2 = 0) := by
  rcases Nat.lt_or_ge a 4096 with q | q
  · have e : (4096 : Int32) - nI a = nI (4096 - a) := pk_sub (a := 4096) (by omega)
    refine ⟨Or.inl ?_, fun _ => ?_, fun z => absurd z (nI_ge (a := a) (b := 4096) q (by omega))⟩
    · rw [e]; exact pk_div (d := 2) (by omega) (by omega) (by omega)
    · rw [e, show nI (4096 - a) + (1 : Int32) = nI (4096 - a + 1) from nI_1 _, show (2 : Int32) = nI 2 from rfl, pk_div (d := 2) (by omega) (by omega) (by omega)]
      congr 1
      omega
  · refine ⟨Or.inr ⟨by omega, half_neg ?_⟩, fun z => absurd (nI_le (a := 4096) (b := a) q (by omega)) z, fun _ => by omega⟩
    apply Int32.le_iff_toInt_le.mpr
    have e0 : (0 : Int32).toInt = 0 := by decide
    rw [e0, show ((4096 : Int32) - nI a).toInt = ((4096 : Nat) : Int) - (a : Int) from pk_sub_toInt (a := 4096) (by omega) (by omega)]
    omega
theorem abM_eq {T : XS} {k A : Nat} (h19 : T.1 19 = 0) (hA : A < 65536) (he : A % 2 = 0) (hw : (((2 : Int32) * (fX8_word T ((64 : Int32) + ((2 : Int32) * nI k)))) - ((2 : Int32) * (fX8_word T ((64 : Int32) + ((2 : Int32) * nI k)))) / (65536 : Int32) * (65536 : Int32)) = nI A) : fX8_abbreviation T (nI k) = ob (fX8_read (abM T) (T.1 16) (nI A) (nI ((4096 - A) / 2))) (fun u => some (pS (pS (pS u.2 16 u.1) 17 (0 : Int32)) 18 (0 : Int32))) := by
  obtain ⟨-, w2, w3⟩ := ab_words hA he
  rw [fX8_abbreviation, if_pos h19, hw]
  by_cases c : (4096 : Int32) ≤ nI A
  · rw [if_pos c, w3 c]
    rfl
  · rw [if_neg c, w2 c]
    rfl
theorem abb_core {w : Bool} {v : Int32} {V : Nat} {S0 T0 S1 T1 : XS} {z hd k A Q : Nat} {L1 : List Nat} (h0 : Rel w v S0 T0) (hA : DA V S0 T0 S1 T1 z hd 0) (hB : DB V (Wd T0) S1 T1 false L1 []) (hA2 : A < 65536) (he : A % 2 = 0) (hw : (((2 : Int32) * (fX8_word T1 ((64 : Int32) + ((2 : Int32) * nI k)))) - ((2 : Int32) * (fX8_word T1 ((64 : Int32) + ((2 : Int32) * nI k)))) / (65536 : Int32) * (65536 : Int32)) = nI A) (hQ : 3073 * L1.length + 6146 ≤ Q) :
    HR V S0 T0 T1 z Q (some (abX S1 (nI A))) (fX8_abbreviation T1 (nI k)) := by
  obtain ⟨a1, a2, a3, a4, a5, a6, a7, a8, a9, b1, b2, b3, b4⟩ := hA
  obtain ⟨c1, c2, c3, p, d1, d2, d3, d4⟩ := hB
  obtain ⟨w1, -, -⟩ := ab_words hA2 he
  have hl : (4096 - A) / 2 ≤ 2048 := by omega
  generalize (4096 - A) / 2 = l at w1 hl
  sorry
