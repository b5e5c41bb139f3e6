/-! the judge, third: counting faults on both sides -/
def pcF (F : Nat → Bool) : Nat → Nat
  | 0 => 0
  | c + 1 => pcF F c + (F (c + 1)).toNat
theorem count10 : ∀ b1 b2 b3 b4 b5 b6 b7 b8 b9 b10 : Bool, fJ6_bitCount_0f7a4 (mk10 b1 b2 b3 b4 b5 b6 b7 b8 b9 b10) = nI (b1.toNat + b2.toNat + b3.toNat + b4.toNat + b5.toNat + b6.toNat + b7.toNat + b8.toNat + b9.toNat + b10.toNat) := by decide +kernel
theorem code10 : ∀ b1 b2 b3 b4 b5 b6 b7 b8 b9 b10 : Bool,
    (b1 = true → fX1_code (mk10 b1 b2 b3 b4 b5 b6 b7 b8 b9 b10) (nI 0) = some 1) ∧
    (b2 = true → fX1_code (mk10 b1 b2 b3 b4 b5 b6 b7 b8 b9 b10) (nI b1.toNat) = some 2) ∧
    (b3 = true → fX1_code (mk10 b1 b2 b3 b4 b5 b6 b7 b8 b9 b10) (nI (b1.toNat + b2.toNat)) = some 3) ∧
    (b4 = true → fX1_code (mk10 b1 b2 b3 b4 b5 b6 b7 b8 b9 b10) (nI (b1.toNat + b2.toNat + b3.toNat)) = some 4) ∧
    (b5 = true → fX1_code (mk10 b1 b2 b3 b4 b5 b6 b7 b8 b9 b10) (nI (b1.toNat + b2.toNat + b3.toNat + b4.toNat)) = some 5) ∧
    (b6 = true → fX1_code (mk10 b1 b2 b3 b4 b5 b6 b7 b8 b9 b10) (nI (b1.toNat + b2.toNat + b3.toNat + b4.toNat + b5.toNat)) = some 6) ∧
    (b7 = true → fX1_code (mk10 b1 b2 b3 b4 b5 b6 b7 b8 b9 b10) (nI (b1.toNat + b2.toNat + b3.toNat + b4.toNat + b5.toNat + b6.toNat)) = some 7) ∧
    (b8 = true → fX1_code (mk10 b1 b2 b3 b4 b5 b6 b7 b8 b9 b10) (nI (b1.toNat + b2.toNat + b3.toNat + b4.toNat + b5.toNat + b6.toNat + b7.toNat)) = some 8) ∧
    (b9 = true → fX1_code (mk10 b1 b2 b3 b4 b5 b6 b7 b8 b9 b10) (nI (b1.toNat + b2.toNat + b3.toNat + b4.toNat + b5.toNat + b6.toNat + b7.toNat + b8.toNat)) = some 9) ∧
    (b10 = true → fX1_code (mk10 b1 b2 b3 b4 b5 b6 b7 b8 b9 b10) (nI (b1.toNat + b2.toNat + b3.toNat + b4.toNat + b5.toNat + b6.toNat + b7.toNat + b8.toNat + b9.toNat)) = some 10) := by decide +kernel
theorem pc_count (F : Nat → Bool) : fJ6_bitCount_0f7a4 (mkF F) = nI (pcF F 10) := by
  have h := count10 (F 1) (F 2) (F 3) (F 4) (F 5) (F 6) (F 7) (F 8) (F 9) (F 10)
  rw [mkF, h]
  simp only [pcF, Nat.zero_add]
theorem pc_code (F : Nat → Bool) (c : Nat) (h1 : 1 ≤ c) (h2 : c ≤ 10) (hF : F c = true) : fX1_code (mkF F) (nI (pcF F (c - 1))) = some (nI c) := by
  obtain ⟨g1, g2, g3, g4, g5, g6, g7, g8, g9, g10⟩ := code10 (F 1) (F 2) (F 3) (F 4) (F 5) (F 6) (F 7) (F 8) (F 9) (F 10)
  rcases (show c = 1 ∨ c = 2 ∨ c = 3 ∨ c = 4 ∨ c = 5 ∨ c = 6 ∨ c = 7 ∨ c = 8 ∨ c = 9 ∨ c = 10 by omega) with rfl | rfl | rfl | rfl | rfl | rfl | rfl | rfl | rfl | rfl
  all_goals simp only [mkF, pcF, Nat.zero_add, Nat.reduceSub]
  · exact g1 hF
  · exact g2 hF
  · exact g3 hF
  · exact g4 hF
  · exact g5 hF
  · exact g6 hF
  · exact g7 hF
  · exact g8 hF
  · exact g9 hF
  · exact g10 hF
theorem pc_le (F : Nat → Bool) : ∀ c, pcF F c ≤ c := by
  intro c
  induction c with
  | zero => exact Nat.le_refl _
  | succ c ih =>
    show pcF F c + (F (c + 1)).toNat ≤ c + 1
    have : (F (c + 1)).toNat ≤ 1 := Bool.toNat_le _
    omega
theorem pc_mono (F : Nat → Bool) {a : Nat} : ∀ d, pcF F a ≤ pcF F (a + d) := by
  intro d
  induction d with
  | zero => exact Nat.le_refl _
  | succ d ih =>
    show pcF F a ≤ pcF F (a + d) + (F (a + d + 1)).toNat
    omega
theorem pc_succ (F : Nat → Bool) {c : Nat} (h1 : 1 ≤ c) : pcF F c = pcF F (c - 1) + (F c).toNat := by
  obtain ⟨d, rfl⟩ : ∃ d, c = d + 1 := ⟨c - 1, by omega⟩
  rfl
theorem pc_hit (F : Nat → Bool) : ∀ (a k : Nat), k < pcF F a → ∃ c, 1 ≤ c ∧ c ≤ a ∧ F c = true ∧ pcF F (c - 1) = k := by
  intro a
  induction a with
  | zero => intro k h; exact absurd h (Nat.not_lt_zero _)
  | succ a ih =>
    intro k h
    rcases Nat.lt_or_ge k (pcF F a) with z | z
    · obtain ⟨c, g1, g2, g3, g4⟩ := ih k z
      exact ⟨c, g1, by omega, g3, g4⟩
    · have e : pcF F (a + 1) = pcF F a + (F (a + 1)).toNat := rfl
      cases hF : F (a + 1) with
      | false =>
        rw [hF] at e
        have e : pcF F (a + 1) = pcF F a + 0 := e
        omega
      | true =>
        rw [hF] at e
        have e : pcF F (a + 1) = pcF F a + 1 := e
        exact ⟨a + 1, by omega, by omega, hF, by show pcF F a = k; omega⟩
theorem innerL {w : Bool} {v : Int32} {S T0 : XS} (h0 : Rel w v S T0) (o : Nat) (ho : fX8_isObject T0 (nI o) = true) (y1 : Int32) (K N0 : Nat) (hN0 : N0 ≤ 1000) (hy : ∀ j, j < 2000 → (nI j = y1 ↔ j = K)) : ∀ (m c f : Nat) (T : XS), c + m = 11 → 1 ≤ c → Rel w v S T → m + 1 ≤ f →
    (∃ c1, c ≤ c1 ∧ c1 ≤ 10 ∧ FF T0 (nI o) c1 = true ∧ N0 + pcF (FF T0 (nI o)) (c1 - 1) = K ∧ ∃ T1, fX8_fault_L f 15 T y1 (nI (N0 + pcF (FF T0 (nI o)) (c - 1))) (nI o) (nI c) = some ((16 : Int32) * nI o + nI c1, T1) ∧ Rel w v S T1) ∨
    ((∀ c1, c ≤ c1 → c1 ≤ 10 → FF T0 (nI o) c1 = true → N0 + pcF (FF T0 (nI o)) (c1 - 1) ≠ K) ∧ ∃ T1 f1, f = f1 + (m + 1) ∧ fX8_fault_L f 15 T y1 (nI (N0 + pcF (FF T0 (nI o)) (c - 1))) (nI o) (nI c) = fX8_fault_L f1 4 T1 y1 (nI (N0 + pcF (FF T0 (nI o)) 10)) (nI (o + 1)) 0 ∧ Rel w v S T1) := by
  intro m
  induction m with
  | zero =>
    intro c f T hc h1 h hf
    right
    obtain ⟨f, rfl⟩ : ∃ g, f = g + 1 := ⟨f - 1, by omega⟩
    obtain rfl : c = 11 := by omega
    refine ⟨fun c1 a1 a2 => by omega, T, f, rfl, ?_, h⟩
    rw [fX8_fault_L, if_neg (by decide), if_pos (by decide), show nI o + (1 : Int32) = nI (o + 1) from nI_1 o]
  | succ m ih =>
    intro c f T hc h1 h hf
    obtain ⟨f, rfl⟩ : ∃ g, f = g + 1 := ⟨f - 1, by omega⟩
    obtain ⟨T2, e, hR⟩ := has8 h0 h (nI o) ho c h1 (by omega)
    have hpl := pc_le (FF T0 (nI o)) (c - 1)
    have c10 : ¬ (10 : Int32) < nI c := fun q => by have := (cmp_i (i := c) (by omega) 10 (by omega)).1.mp q; omega
    have es := pc_succ (FF T0 (nI o)) h1
    rw [fX8_fault_L, if_neg (by decide), if_neg c10, e]
    cases hF : FF T0 (nI o) c with
    | false =>
      rw [hF] at es
      have es : pcF (FF T0 (nI o)) c = pcF (FF T0 (nI o)) (c - 1) + 0 := es
      show (∃ c1, _ ∧ _ ∧ _ ∧ _ ∧ ∃ T1, fX8_fault_L f 15 T2 y1 _ (nI o) (nI c + 1) = _ ∧ _) ∨ (_ ∧ ∃ T1 f1, _ ∧ fX8_fault_L f 15 T2 y1 _ (nI o) (nI c + 1) = _ ∧ _)
      rw [show nI c + (1 : Int32) = nI (c + 1) from nI_1 c, show N0 + pcF (FF T0 (nI o)) (c - 1) = N0 + pcF (FF T0 (nI o)) (c + 1 - 1) by rw [Nat.add_sub_cancel]; omega]
      rcases ih (c + 1) f T2 (by omega) (by omega) hR (by omega) with ⟨c1, a1, a2, a3, a4, a5⟩ | ⟨a1, T1, f1, a2, a3⟩
      · exact Or.inl ⟨c1, by omega, a2, a3, a4, a5⟩
      · refine Or.inr ⟨fun c1 b1 b2 b3 => ?_, T1, f1, by omega, a3⟩
        rcases Nat.lt_or_ge c c1 with z | z
        · exact a1 c1 (by omega) b2 b3
        · rw [show c1 = c by omega, hF] at b3; cases b3
    | true =>
      rw [hF] at es
      have es : pcF (FF T0 (nI o)) c = pcF (FF T0 (nI o)) (c - 1) + 1 := es
      show (∃ c1, _ ∧ _ ∧ _ ∧ _ ∧ ∃ T1, (if nI (N0 + pcF (FF T0 (nI o)) (c - 1)) = y1 then some ((16 : Int32) * nI o + nI c, T2) else fX8_fault_L f 15 T2 y1 (nI (N0 + pcF (FF T0 (nI o)) (c - 1)) + 1) (nI o) (nI c + 1)) = _ ∧ _) ∨ (_ ∧ ∃ T1 f1, _ ∧ (if nI (N0 + pcF (FF T0 (nI o)) (c - 1)) = y1 then some ((16 : Int32) * nI o + nI c, T2) else fX8_fault_L f 15 T2 y1 (nI (N0 + pcF (FF T0 (nI o)) (c - 1)) + 1) (nI o) (nI c + 1)) = _ ∧ _)
      by_cases cy : nI (N0 + pcF (FF T0 (nI o)) (c - 1)) = y1
      · rw [if_pos cy]
        left
        exact ⟨c, by omega, by omega, hF, (hy _ (by omega)).mp cy, T2, rfl, hR⟩
      · rw [if_neg cy, show nI c + (1 : Int32) = nI (c + 1) from nI_1 c, show nI (N0 + pcF (FF T0 (nI o)) (c - 1)) + (1 : Int32) = nI (N0 + pcF (FF T0 (nI o)) (c + 1 - 1)) from by rw [Nat.add_sub_cancel, es]; exact nI_1 _]
        rcases ih (c + 1) f T2 (by omega) (by omega) hR (by omega) with ⟨c1, a1, a2, a3, a4, a5⟩ | ⟨a1, T1, f1, a2, a3⟩
        · exact Or.inl ⟨c1, by omega, a2, a3, a4, a5⟩
        · refine Or.inr ⟨fun c1 b1 b2 b3 => ?_, T1, f1, by omega, a3⟩
          rcases Nat.lt_or_ge c c1 with z | z
          · exact a1 c1 (by omega) b2 b3
          · rw [show c1 = c by omega]
            exact fun q => cy ((hy _ (by omega)).mpr q)
theorem obj_in {w : Bool} {v : Int32} {S T : XS} (h : Rel w v S T) {N o : Nat} (hN : T.1 7 = nI N) (hN2 : N ≤ 100) (h1 : 1 ≤ o) (h2 : o ≤ N) : fX8_isObject T (nI o) = true := by
  rw [fX8_isObject, hN, if_neg (fun q => by have := (nI_ltI (a := o) (b := 1) (by omega) (by omega)).mp q; omega), if_neg (fun q => by have := (nI_ltI (a := N) (b := o) (by omega) (by omega)).mp q; omega)]
theorem neg_n {n : Nat} (hn : n ≤ 2000) : ¬ (0 : Int32) ≤ (-1 : Int32) - nI n := by
  intro q
  have h1 := Int32.le_iff_toInt_le.mp q
  have h2 := pk_sub_toInt (a := 0) (b := n + 1) (by omega) (by omega)
  rw [show (-1 : Int32) - nI n = nI 0 - nI (n + 1) from by rw [← nI_1 n, show nI 0 = (0 : Int32) from rfl]; grind, h2, Int32.toInt_zero] at h1
  omega
theorem ringL {w : Bool} {v : Int32} {S T0 : XS} (h0 : Rel w v S T0) (N K : Nat) (hN : T0.1 7 = nI N) (hN2 : N ≤ 100) (hK : K < 2 ^ 31) : ∀ (m o n fx fm : Nat) (S1 T : XS), o + m = N + 1 → 1 ≤ o → n ≤ 10 * (o - 1) → n ≤ K → eqX S S1 → Rel w v S T → m + 1 ≤ fx → 12 * m + 1 ≤ fm →
    ∃ (u t : Int32 × XS), fX7_ring_L fx S1 (nI K) (nI (K - n)) (nI o) = some u ∧ fX8_fault_L fm 4 T (nI K) (nI n) (nI o) 0 = some t ∧ eqX S u.2 ∧ Rel w v S t.2 ∧ ((u.1 = t.1 ∧ (0 : Int32) ≤ t.1) ∨ (u.1 = -2 ∧ ¬ (0 : Int32) ≤ t.1)) := by
  intro m
  induction m with
  | zero =>
    intro o n fx fm S1 T ho h1 hn hnK hX hT hfx hfm
    obtain ⟨fx, rfl⟩ : ∃ g, fx = g + 1 := ⟨fx - 1, by omega⟩
    obtain ⟨fm, rfl⟩ : ∃ g, fm = g + 1 := ⟨fm - 1, by omega⟩
    have e9 : S1.1 9 = nI N := by rw [hX.1 9 (by omega), h0.2.2.2.1, hN]
    have e7 : T.1 7 = nI N := by rw [← hT.2.2.2.1, h0.2.2.2.1, hN]
    have c : nI N < nI o := nI_lt (by omega) (by omega)
    rw [fX7_ring_L, fX8_fault_L, fX0_size, e9, e7, if_pos c, if_pos rfl, if_pos c]
    exact ⟨_, _, rfl, rfl, hX, hT, Or.inr ⟨rfl, neg_n (by omega)⟩⟩
  | succ m ih =>
    intro o n fx fm S1 T ho h1 hn hnK hX hT hfx hfm
    obtain ⟨fx, rfl⟩ : ∃ g, fx = g + 1 := ⟨fx - 1, by omega⟩
    obtain ⟨fm, rfl⟩ : ∃ g, fm = g + 1 := ⟨fm - 1, by omega⟩
    have e9 : S1.1 9 = nI N := by rw [hX.1 9 (by omega), h0.2.2.2.1, hN]
    have e7 : T.1 7 = nI N := by rw [← hT.2.2.2.1, h0.2.2.2.1, hN]
    have c : ¬ nI N < nI o := nI_nlt (by omega) (by omega)
    have hob := obj_in h0 hN hN2 h1 (by omega : o ≤ N)
    have hS1 : Rel w v S1 T0 := h0.keep hX (eqM_rf T0)
    obtain ⟨S2, eo, hS2⟩ := of_eq hS1 (nI o) hob
    have hp := pc_le (FF T0 (nI o)) 10
    rw [fX7_ring_L, fX8_fault_L, fX0_size, e9, e7, if_neg c, if_pos rfl, if_neg c, eo]
    have hy : ∀ j, j < 2000 → (nI j = nI K ↔ j = K) := fun j hj => nI_eq (by omega) hK
    have inn := innerL h0 o hob (nI K) K n (by omega) hy 10 1 fm T (by omega) (by omega) hT (by omega)
    have e0 : n + pcF (FF T0 (nI o)) (1 - 1) = n := rfl
    rw [e0] at inn
    show ∃ u t, (if fJ6_bitCount_0f7a4 (mkF (FF T0 (nI o))) ≤ nI (K - n) then fX7_ring_L fx S2 (nI K) (nI (K - n) - fJ6_bitCount_0f7a4 (mkF (FF T0 (nI o)))) (nI o + 1) else ob (fX1_code (mkF (FF T0 (nI o))) (nI (K - n))) (fun u5 => some ((16 : Int32) * nI o + u5, S2))) = some u ∧ fX8_fault_L fm 15 T (nI K) (nI n) (nI o) (nI 1) = some t ∧ _
    rw [pc_count]
    rcases inn with ⟨c1, a1, a2, a3, a4, T1, a5, a6⟩ | ⟨a1, T1, f1, a2, a3, a4⟩
    · have hlt : pcF (FF T0 (nI o)) (c1 - 1) < pcF (FF T0 (nI o)) 10 := by
        have q1 := pc_succ (FF T0 (nI o)) (c := c1) (by omega)
        rw [a3] at q1
        have q1 : pcF (FF T0 (nI o)) c1 = pcF (FF T0 (nI o)) (c1 - 1) + 1 := q1
        have q2 := pc_mono (FF T0 (nI o)) (a := c1) (10 - c1)
        rw [show c1 + (10 - c1) = 10 by omega] at q2
        omega
      have cle : ¬ nI (pcF (FF T0 (nI o)) 10) ≤ nI (K - n) := fun q => by
        have := (nI_leI (a := pcF (FF T0 (nI o)) 10) (b := K - n) (by omega) (by omega)).mp q
        omega
      rw [if_neg cle, show K - n = pcF (FF T0 (nI o)) (c1 - 1) by omega, pc_code _ c1 (by omega) a2 a3, a5]
      refine ⟨_, _, rfl, rfl, hX.tr hS2, a6, Or.inl ⟨rfl, ?_⟩⟩
      show (0 : Int32) ≤ (16 : Int32) * nI o + nI c1
      rw [show (16 : Int32) = nI 16 from rfl, pk_mul, nI_add]
      exact nI_pos' (by omega)
    · have cle : pcF (FF T0 (nI o)) 10 ≤ K - n := by
        rcases Nat.lt_or_ge (K - n) (pcF (FF T0 (nI o)) 10) with z | z
        · obtain ⟨c1, b1, b2, b3, b4⟩ := pc_hit _ _ _ z
          exact absurd (show n + pcF (FF T0 (nI o)) (c1 - 1) = K by omega) (a1 c1 b1 b2 b3)
        · exact z
      rw [if_pos (nI_le cle (by omega)), a3, pk_sub cle, show nI o + (1 : Int32) = nI (o + 1) from nI_1 o, show K - n - pcF (FF T0 (nI o)) 10 = K - (n + pcF (FF T0 (nI o)) 10) by omega]
      exact ih (o + 1) (n + pcF (FF T0 (nI o)) 10) fx f1 S2 T1 (by omega) (by omega) (by omega) (by omega) (hX.tr hS2) a4 (by omega) (by omega)
theorem op_ring {w : Bool} {v : Int32} {S T : XS} (h : Rel w v S T) (x1 : Int32) : ∃ (u t : Int32 × XS), fX7_ring S x1 = some u ∧ fX8_ring T x1 = some t ∧ u.1 = t.1 ∧ Rel w v u.2 t.2 := by
  rw [fX7_ring, fX8_ring]
  by_cases c1 : (0 : Int32) ≤ x1
  · rw [if_pos c1, if_pos c1]
    obtain ⟨K, hK, rfl⟩ := nI_of (Int32.not_lt.mpr c1)
    obtain ⟨N, hN2, hN⟩ := h.2.2.2.2.2.2.2.2.1
    obtain ⟨u, t, e1, e2, hX, hM, hr⟩ := ringL h N K hN hN2 hK N 1 0 102 1300 S T (by omega) (by omega) (by omega) (by omega) (eqX_rf S) h (by omega) (by omega)
    have e1 : fX7_ring_L 102 S (nI K) (nI K) (1 : Int32) = some u := e1
    have e2 : fX8_fault T (nI K) = some t := e2
    rw [e1, e2]
    have hR : Rel w v u.2 t.2 := hM.keep hX (eqM_rf t.2)
    show ∃ u_1 t_1, some u = some u_1 ∧ (if (0 : Int32) ≤ t.1 then some (t.1, t.2) else some (-2, t.2)) = some t_1 ∧ _
    rcases hr with ⟨r1, r2⟩ | ⟨r1, r2⟩
    · rw [if_pos r2]; exact ⟨_, _, rfl, rfl, r1, hR⟩
    · rw [if_neg r2]; exact ⟨_, _, rfl, rfl, r1, hR⟩
  · rw [if_neg c1, if_neg c1]; exact ⟨_, _, rfl, rfl, rfl, h⟩
theorem judgeL {w : Bool} {v : Int32} {S T0 : XS} (h0 : Rel w v S T0) (N : Nat) (hN : T0.1 7 = nI N) (hN2 : N ≤ 100) : ∀ (m o n fx fm : Nat) (S1 T : XS), o + m = N + 1 → 1 ≤ o → n ≤ 10 * (o - 1) → eqX S S1 → Rel w v S T → m + 1 ≤ fx → 12 * m + 1 ≤ fm →
    ∃ (q : Nat) (u t : XS), fX7_judge_L fx S1 (nI n) (nI o) = some (nI q, u) ∧ fX8_fault_L fm 4 T (-1) (nI n) (nI o) 0 = some ((-1 : Int32) - nI q, t) ∧ eqX S u ∧ Rel w v S t := by
  intro m
  induction m with
  | zero =>
    intro o n fx fm S1 T ho h1 hn hX hT hfx hfm
    obtain ⟨fx, rfl⟩ : ∃ g, fx = g + 1 := ⟨fx - 1, by omega⟩
    obtain ⟨fm, rfl⟩ : ∃ g, fm = g + 1 := ⟨fm - 1, by omega⟩
    have e9 : S1.1 9 = nI N := by rw [hX.1 9 (by omega), h0.2.2.2.1, hN]
    have e7 : T.1 7 = nI N := by rw [← hT.2.2.2.1, h0.2.2.2.1, hN]
    have c : nI N < nI o := nI_lt (by omega) (by omega)
    rw [fX7_judge_L, fX8_fault_L, fX0_size, e9, e7, if_pos c, if_pos rfl, if_pos c]
    exact ⟨n, _, _, rfl, rfl, hX, hT⟩
  | succ m ih =>
    intro o n fx fm S1 T ho h1 hn hX hT hfx hfm
    obtain ⟨fx, rfl⟩ : ∃ g, fx = g + 1 := ⟨fx - 1, by omega⟩
    obtain ⟨fm, rfl⟩ : ∃ g, fm = g + 1 := ⟨fm - 1, by omega⟩
    have e9 : S1.1 9 = nI N := by rw [hX.1 9 (by omega), h0.2.2.2.1, hN]
    have e7 : T.1 7 = nI N := by rw [← hT.2.2.2.1, h0.2.2.2.1, hN]
    have c : ¬ nI N < nI o := nI_nlt (by omega) (by omega)
    have hob := obj_in h0 hN hN2 h1 (by omega : o ≤ N)
    have hS1 : Rel w v S1 T0 := h0.keep hX (eqM_rf T0)
    obtain ⟨S2, eo, hS2⟩ := of_eq hS1 (nI o) hob
    have hp := pc_le (FF T0 (nI o)) 10
    rw [fX7_judge_L, fX8_fault_L, fX0_size, e9, e7, if_neg c, if_pos rfl, if_neg c, eo]
    have hy : ∀ j, j < 2000 → (nI j = (-1 : Int32) ↔ j = 5000) := fun j hj => by
      constructor
      · intro q
        have q1 := congrArg Int32.toInt q
        rw [nI_toInt (by omega), show (-1 : Int32).toInt = -1 by decide] at q1
        omega
      · intro q; omega
    have inn := innerL h0 o hob (-1) 5000 n (by omega) hy 10 1 fm T (by omega) (by omega) hT (by omega)
    have e0 : n + pcF (FF T0 (nI o)) (1 - 1) = n := rfl
    rw [e0] at inn
    show ∃ q u t, fX7_judge_L fx S2 (nI n + fJ6_bitCount_0f7a4 (mkF (FF T0 (nI o)))) (nI o + 1) = some (nI q, u) ∧ fX8_fault_L fm 15 T (-1) (nI n) (nI o) (nI 1) = _ ∧ _
    rw [pc_count, nI_add, show nI o + (1 : Int32) = nI (o + 1) from nI_1 o]
    rcases inn with ⟨c1, a1, a2, a3, a4, -⟩ | ⟨a1, T1, f1, a2, a3, a4⟩
    · have := pc_le (FF T0 (nI o)) (c1 - 1)
      omega
    · rw [a3]
      exact ih (o + 1) (n + pcF (FF T0 (nI o)) 10) fx f1 S2 T1 (by omega) (by omega) (by omega) (hX.tr hS2) a4 (by omega) (by omega)
theorem op_judge {w : Bool} {v : Int32} {S T : XS} (h : Rel w v S T) : ∃ (u t : Int32 × XS), fX7_judge S = some u ∧ fX8_judge T = some t ∧ u.1 = t.1 ∧ Rel w v u.2 t.2 := by
  obtain ⟨N, hN2, hN⟩ := h.2.2.2.2.2.2.2.2.1
  obtain ⟨q, u, t, e1, e2, hX, hM⟩ := judgeL h N hN hN2 N 1 0 102 1300 S T (by omega) (by omega) (by omega) (eqX_rf S) h (by omega) (by omega)
  have e1 : fX7_judge S = some (nI q, u) := e1
  have e2 : fX8_fault T (-1) = some ((-1 : Int32) - nI q, t) := e2
  rw [fX8_judge, e1, e2]
  refine ⟨_, _, rfl, rfl, ?_, hM.keep hX (eqM_rf t)⟩
  show nI q = (-1 : Int32) - ((-1 : Int32) - nI q)
  grind
