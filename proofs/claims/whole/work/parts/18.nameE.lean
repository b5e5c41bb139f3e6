/-! names, fifth: the heeding of a sign -/
theorem let_sim {w : Bool} {v : Int32} {V : Nat} {S0 T0 S T : XS} {z hd s b Q : Nat} {ab : Bool} {L B : List Nat} (h0 : Rel w v S0 T0) (hV1 : 1 ≤ V) (hV8 : V ≤ 8) (hx15 : S.1 15 = nI V) (ht1 : T.1 1 = nI V) (hA : DA V S0 T0 S T z hd 0) (hB : DB V (Wd T0) S T ab L B) (hs6 : 6 ≤ s) (hs : s < 32) (hb : b < 3) (hQ : PP ab L B < Q) :
    HR V S0 T0 T z Q (if nI b = (2 : Int32) then (if nI s = (6 : Int32) then fX5_sayOwn S else fX5_say S (fX5_letter S (nI b) (nI s))) else fX5_say S (fX5_letter S (nI b) (nI s))) (fX8_letter T (nI s) (nI b)) := by
  rcases (show b = 0 ∨ b = 1 ∨ b = 2 by omega) with rfl | rfl | rfl
  · rw [if_neg (by decide), fX5_letter, if_pos (show nI 0 = 0 from rfl), fX8_letter, if_neg (by decide), if_pos (show nI 0 = 0 from rfl), ob_id]
    exact say_HR rfl hA hB hQ
  · rw [if_neg (by decide), fX5_letter, if_neg (by decide), if_pos (show nI 1 = (1 : Int32) from rfl), fX8_letter, if_neg (by decide), if_neg (by decide), ob_id]
    exact say_HR rfl hA hB hQ
  · rw [if_pos (show nI 2 = (2 : Int32) from rfl), fX8_letter, if_pos (show (2 : Int32) ≤ nI 2 by decide)]
    by_cases c6 : s = 6
    · have q : nI s = (6 : Int32) := by rw [c6]; rfl
      rw [if_pos q, if_pos q]
      exact own_sim h0 hA hB hQ
    · have q : ¬ nI s = (6 : Int32) := fun e => c6 ((nI_eq (b := 6) (by omega) (by omega)).mp e)
      rw [if_neg q, if_neg q, fX5_letter, if_neg (by decide), if_neg (by decide), hx15, ht1, ob_id, ob_id, ob_id]
      by_cases c1 : V = 1
      · have qv : nI V = (1 : Int32) := by rw [c1]; rfl
        rw [if_pos qv, if_pos qv, fX5_charIn20, third_v1 s hs (by omega)]
        exact say_HR rfl hA hB hQ
      · have qv : ¬ nI V = (1 : Int32) := fun e => c1 ((nI_eq (b := 1) (by omega) (by omega)).mp e)
        rw [if_neg qv, if_neg qv]
        by_cases c7 : s = 7
        · have q7 : nI s = (7 : Int32) := by rw [c7]; rfl
          rw [if_pos q7, if_pos q7]
          exact say_HR rfl hA hB hQ
        · have q7 : ¬ nI s = (7 : Int32) := fun e => c7 ((nI_eq (b := 7) (by omega) (by omega)).mp e)
          rw [if_neg q7, if_neg q7, fX5_charIn21, third_v2 s hs (by omega)]
          exact say_HR rfl hA hB hQ
theorem md3 : ∀ h, h < 3 → ∀ s, s < 6 → 3 ≤ s → ((nI h + nI s) - (3 : Int32)) - ((nI h + nI s) - (3 : Int32)) / (3 : Int32) * (3 : Int32) = nI ((h + s - 3) % 3) := by decide +kernel
theorem md1 : ∀ h, h < 3 → ∀ s, s < 6 → 1 ≤ s → ((nI h + nI s) - (1 : Int32)) - ((nI h + nI s) - (1 : Int32)) / (3 : Int32) * (3 : Int32) = nI ((h + (s - 1)) % 3) := by decide +kernel
theorem md0 : ∀ h, h < 3 → ∀ s, s < 3 → (nI h + nI s) - (nI h + nI s) / (3 : Int32) * (3 : Int32) = nI ((h + s) % 3) := by decide +kernel
theorem sh_HR {V : Nat} {S0 T0 S T : XS} {z hd sh Q : Nat} {ab : Bool} {L B : List Nat} {x y : Int32} (hA : DA V S0 T0 S T z hd 0) (hB : DB V (Wd T0) S T ab L B) (hQ : PP ab L B < Q) (hsh : sh < 3) (ex : x = nI ((hd + sh) % 3)) (ey : y = nI sh) : HR V S0 T0 T z Q (some (pS S 19 x)) (some (pS T 18 y)) := by
  obtain ⟨a1, a2, a3, a4, a5, a6, a7, a8, a9, b1, b2, b3, b4⟩ := hA
  exact ⟨_, _, z, ab, L, B, hd, sh, rfl, rfl, ⟨a1.tr (eqX_pS (by omega) (by omega)), a2.tr (eqM_pS (by omega)), a3, a4, a5, a6, a7, hsh, a9, b1, ey, ex, b4⟩, DB_keep hB (fun k hk => if_neg (by omega)) (fun k hk => if_neg (by omega)) rfl, ⟨Nat.le_refl _, fun _ _ => rfl⟩, hQ⟩
theorem lk_HR {V : Nat} {S0 T0 S T : XS} {z hd h2 Q : Nat} {ab : Bool} {L B : List Nat} {x : Int32} (hA : DA V S0 T0 S T z hd 0) (hB : DB V (Wd T0) S T ab L B) (hQ : PP ab L B < Q) (hh : h2 < 3) (ex : x = nI h2) (hV : V < 3) : HR V S0 T0 T z Q (some (fX5_useAlphabet S x)) (some (pS T 17 x)) := by
  obtain ⟨a1, a2, a3, a4, a5, a6, a7, a8, a9, b1, b2, b3, b4⟩ := hA
  refine ⟨_, _, z, ab, L, B, h2, 0, rfl, rfl, ⟨a1.tr ((eqX_pS (by omega) (by omega)).tr (eqX_pS (by omega) (by omega))), a2.tr (eqM_pS (by omega)), a3, a4, a5, a6, hh, by omega, ex, ex, b2, ?_, fun q => by omega⟩, DB_keep hB (fun k hk => ?_) (fun k hk => if_neg (by omega)) rfl, ⟨Nat.le_refl _, fun _ _ => rfl⟩, hQ⟩
  · show x = _
    rw [ex, Nat.add_zero, Nat.mod_eq_of_lt hh]
  · show upd (upd S.1 17 x) 19 x k = S.1 k
    unfold upd
    rw [if_neg (by omega), if_neg (by omega)]
theorem K_eq {s : Nat} (hs : 1 ≤ s) (x : Nat) : (32 : Int32) * (nI s - (1 : Int32)) + nI x = nI (32 * (s - 1) + x) := by
  rw [show nI s - (1 : Int32) = nI (s - 1) from pk_sub (b := 1) hs, show (32 : Int32) = nI 32 from rfl, pk_mul, nI_add]
theorem heed_sim {w : Bool} {v : Int32} {V : Nat} {S0 T0 S T : XS} {z hd sh s Q : Nat} {ab : Bool} {L B : List Nat} (h0 : Rel w v S0 T0) (hV1 : 1 ≤ V) (hV8 : V ≤ 8) (hv : v = nI V) (hA : DA V S0 T0 S T z hd sh) (hB : DB V (Wd T0) S T ab L B) (hs : s < 32) (hQ : PP ab L B + cst ab ≤ Q) :
    HR V S0 T0 T z Q (fX5_heed S (nI s)) (if T.1 1 ≤ (2 : Int32) then fX8_elderSign T (nI s) else fX8_sign T (nI s)) := by
  have hR : Rel w v S T := h0.keep hA.1 hA.2.1
  have hx15 : S.1 15 = nI V := by rw [← hv]; exact hR.2.1.2.2.2.2.2.2.2
  have ht1 : T.1 1 = nI V := by rw [← hv]; exact hR.2.2.1.1
  have hc := cst_pos ab
  obtain ⟨a1, a2, a3, a4, a5, a6, a7, a8, a9, b1, b2, b3, b4⟩ := id hA
  have hA' : DA V S0 T0 (pS S 19 (S.1 17)) (pS T 18 (0 : Int32)) z hd 0 := ⟨a1.tr (eqX_pS (by omega) (by omega)), a2.tr (eqM_pS (by omega)), a3, a4, a5, a6, a7, by omega, a9, b1, rfl, by
    show S.1 17 = _
    rw [a9, Nat.add_zero, Nat.mod_eq_of_lt a7], b4⟩
  have hB' : DB V (Wd T0) (pS S 19 (S.1 17)) (pS T 18 (0 : Int32)) ab L B := DB_keep hB (fun k hk => if_neg (by omega)) (fun k hk => if_neg (by omega)) rfl
  have hx15' : (pS S 19 (S.1 17)).1 15 = nI V := hx15
  have ht1' : (pS T 18 (0 : Int32)).1 1 = nI V := ht1
  have hS17 : (pS S 19 (S.1 17)).1 17 = nI hd := a9
  refine HR_T (T1 := pS T 18 (0 : Int32)) ?_ rfl
  rw [fX5_heed, fX8_elderSign, fX8_sign, hx15, ht1]
  generalize hS' : pS S 19 (S.1 17) = S' at hA' hB' hx15' hS17 ⊢
  have cV1 : nI V = (1 : Int32) ↔ V = 1 := nI_eq (b := 1) (by omega) (by omega)
  have cV3 : nI V < (3 : Int32) ↔ V < 3 := nI_ltI (b := 3) (by omega) (by omega)
  have cV2 : nI V ≤ (2 : Int32) ↔ V ≤ 2 := nI_leI (b := 2) (by omega) (by omega)
  simp only [ob_id]
  rcases (show s = 0 ∨ s = 1 ∨ s = 2 ∨ s = 3 ∨ s = 4 ∨ s = 5 ∨ 6 ≤ s by omega) with rfl | rfl | rfl | rfl | rfl | rfl | h6
  · rw [if_pos (show nI 0 = 0 from rfl), if_pos (show nI 0 = 0 from rfl), if_pos (show nI 0 = 0 from rfl), ite_self]
    exact say_HR rfl hA' hB' (by omega)
  · rw [if_neg (show ¬ nI 1 = 0 by decide), if_neg (show ¬ nI 1 = 0 by decide), if_neg (show ¬ nI 1 = 0 by decide), if_pos (show nI 1 = (1 : Int32) from rfl), if_pos (show nI 1 = (1 : Int32) from rfl), if_neg (show ¬ (4 : Int32) ≤ nI 1 by decide)]
    rcases Nat.lt_or_ge V 3 with q | q
    · rw [if_pos (cV2.mpr (by omega))]
      by_cases q1 : V = 1
      · rw [if_pos (cV1.mpr q1), if_pos (cV1.mpr q1)]
        exact say_HR rfl hA' hB' (by omega)
      · rw [if_neg (fun e => q1 (cV1.mp e)), if_neg (fun e => q1 (cV1.mp e))]
        have := abb_sim (K := fun x => x) (s := 1) h0 hA' hB' (by omega) (by omega) (fun x => by show nI x = _; congr 1; omega) hQ
        simp only [ob_id] at this
        exact this
    · rw [if_neg (fun e => absurd (cV2.mp e) (by omega)), if_neg (fun e => absurd (cV1.mp e) (by omega))]
      have := abb_sim (K := fun x => (32 : Int32) * (nI 1 - (1 : Int32)) + x) (s := 1) h0 hA' hB' (by omega) (by omega) (fun x => K_eq (by omega) x) hQ
      simp only [ob_id] at this
      exact this
  · rw [if_neg (show ¬ nI 2 = 0 by decide), if_neg (show ¬ nI 2 = 0 by decide), if_neg (show ¬ nI 2 = 0 by decide), if_neg (show ¬ nI 2 = (1 : Int32) by decide), if_neg (show ¬ nI 2 = (1 : Int32) by decide), if_neg (show ¬ (3 : Int32) < nI 2 by decide), if_neg (show ¬ (5 : Int32) < nI 2 by decide), if_neg (show ¬ (4 : Int32) ≤ nI 2 by decide), if_neg (show ¬ (4 : Int32) ≤ nI 2 by decide)]
    rcases Nat.lt_or_ge V 3 with q | q
    · rw [if_pos (cV2.mpr (by omega)), if_pos (cV3.mpr q), fX5_shift, hx15', if_pos (cV3.mpr q), if_neg (show ¬ (3 : Int32) < nI 2 by decide), hS17, md1 hd a7 2 (by omega) (by omega)]
      exact sh_HR hA' hB' (by omega) (show 2 - 1 < 3 by omega) rfl (by decide)
    · rw [if_neg (fun e => absurd (cV2.mp e) (by omega)), if_neg (fun e => absurd (cV3.mp e) (by omega))]
      have := abb_sim (K := fun x => (32 : Int32) * (nI 2 - (1 : Int32)) + x) (s := 2) h0 hA' hB' (by omega) (by omega) (fun x => K_eq (by omega) x) hQ
      simp only [ob_id] at this
      exact this
  · rw [if_neg (show ¬ nI 3 = 0 by decide), if_neg (show ¬ nI 3 = 0 by decide), if_neg (show ¬ nI 3 = 0 by decide), if_neg (show ¬ nI 3 = (1 : Int32) by decide), if_neg (show ¬ nI 3 = (1 : Int32) by decide), if_neg (show ¬ (3 : Int32) < nI 3 by decide), if_neg (show ¬ (5 : Int32) < nI 3 by decide), if_neg (show ¬ (4 : Int32) ≤ nI 3 by decide), if_neg (show ¬ (4 : Int32) ≤ nI 3 by decide)]
    rcases Nat.lt_or_ge V 3 with q | q
    · rw [if_pos (cV2.mpr (by omega)), if_pos (cV3.mpr q), fX5_shift, hx15', if_pos (cV3.mpr q), if_neg (show ¬ (3 : Int32) < nI 3 by decide), hS17, md1 hd a7 3 (by omega) (by omega)]
      exact sh_HR hA' hB' (by omega) (show 3 - 1 < 3 by omega) rfl (by decide)
    · rw [if_neg (fun e => absurd (cV2.mp e) (by omega)), if_neg (fun e => absurd (cV3.mp e) (by omega))]
      have := abb_sim (K := fun x => (32 : Int32) * (nI 3 - (1 : Int32)) + x) (s := 3) h0 hA' hB' (by omega) (by omega) (fun x => K_eq (by omega) x) hQ
      simp only [ob_id] at this
      exact this
  · rw [if_neg (show ¬ nI 4 = 0 by decide), if_neg (show ¬ nI 4 = 0 by decide), if_neg (show ¬ nI 4 = 0 by decide), if_neg (show ¬ nI 4 = (1 : Int32) by decide), if_neg (show ¬ nI 4 = (1 : Int32) by decide), if_pos (show (3 : Int32) < nI 4 by decide), if_neg (show ¬ (5 : Int32) < nI 4 by decide), if_pos (show (4 : Int32) ≤ nI 4 by decide), if_pos (show (4 : Int32) ≤ nI 4 by decide), if_neg (show ¬ (6 : Int32) ≤ nI 4 by decide), if_neg (show ¬ (6 : Int32) ≤ nI 4 by decide)]
    rcases Nat.lt_or_ge V 3 with q | q
    · rw [if_pos (cV2.mpr (by omega)), fX5_shift, hx15', if_pos (cV3.mpr q), if_pos (show (3 : Int32) < nI 4 by decide), hS17, b1, md3 hd a7 4 (by omega) (by omega)]
      exact lk_HR hA' hB' (by omega) (Nat.mod_lt _ (by omega)) rfl q
    · rw [if_neg (fun e => absurd (cV2.mp e) (by omega)), fX5_shift, hx15', if_neg (fun e => absurd (cV3.mp e) (by omega))]
      have hz : hd = 0 := b4 q
      subst hz
      exact sh_HR hA' hB' (by omega) (show 4 - 3 < 3 by omega) (by decide) (by decide)
  · rw [if_neg (show ¬ nI 5 = 0 by decide), if_neg (show ¬ nI 5 = 0 by decide), if_neg (show ¬ nI 5 = 0 by decide), if_neg (show ¬ nI 5 = (1 : Int32) by decide), if_neg (show ¬ nI 5 = (1 : Int32) by decide), if_pos (show (3 : Int32) < nI 5 by decide), if_neg (show ¬ (5 : Int32) < nI 5 by decide), if_pos (show (4 : Int32) ≤ nI 5 by decide), if_pos (show (4 : Int32) ≤ nI 5 by decide), if_neg (show ¬ (6 : Int32) ≤ nI 5 by decide), if_neg (show ¬ (6 : Int32) ≤ nI 5 by decide)]
    rcases Nat.lt_or_ge V 3 with q | q
    · rw [if_pos (cV2.mpr (by omega)), fX5_shift, hx15', if_pos (cV3.mpr q), if_pos (show (3 : Int32) < nI 5 by decide), hS17, b1, md3 hd a7 5 (by omega) (by omega)]
      exact lk_HR hA' hB' (by omega) (Nat.mod_lt _ (by omega)) rfl q
    · rw [if_neg (fun e => absurd (cV2.mp e) (by omega)), fX5_shift, hx15', if_neg (fun e => absurd (cV3.mp e) (by omega))]
      have hz : hd = 0 := b4 q
      subst hz
      exact sh_HR hA' hB' (by omega) (show 5 - 3 < 3 by omega) (by decide) (by decide)
  · have n0 : ¬ nI s = 0 := fun e => by have := (nI_eq (b := 0) (by omega) (by omega)).mp e; omega
    have n1 : ¬ nI s = (1 : Int32) := fun e => by have := (nI_eq (b := 1) (by omega) (by omega)).mp e; omega
    have l3 : (3 : Int32) < nI s := nI_lt (a := 3) (b := s) (by omega) (by omega)
    have l5 : (5 : Int32) < nI s := nI_lt (a := 5) (b := s) (by omega) (by omega)
    have l4 : (4 : Int32) ≤ nI s := nI_le (a := 4) (b := s) (by omega) (by omega)
    have l6 : (6 : Int32) ≤ nI s := nI_le (a := 6) (b := s) (by omega) (by omega)
    rw [if_neg n0, if_neg n0, if_neg n0, if_neg n1, if_neg n1, if_pos l3, if_pos l5, if_pos l4, if_pos l4, if_pos l6, if_pos l6, b3, b1, b2, md0 hd a7 sh a8]
    have hb : (hd + sh) % 3 < 3 := Nat.mod_lt _ (by omega)
    have key := let_sim h0 hV1 hV8 hx15' ht1' hA' hB' h6 hs hb (show PP ab L B < Q by omega)
    rcases Nat.lt_or_ge V 3 with q | q
    · rw [if_pos (cV2.mpr (by omega))]
      exact key
    · have hz : hd = 0 := b4 q
      subst hz
      rw [if_neg (fun e => absurd (cV2.mp e) (by omega))]
      rw [Nat.zero_add, Nat.mod_eq_of_lt a8] at key ⊢
      exact key
