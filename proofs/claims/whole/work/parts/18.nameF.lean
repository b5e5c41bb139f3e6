/-! names, sixth: the two loops in step, and the two calls -/
theorem step_sim {w : Bool} {v : Int32} {V : Nat} {S0 T0 S T : XS} {z hd sh : Nat} {ab : Bool} {L B : List Nat} (h0 : Rel w v S0 T0) (hV1 : 1 ≤ V) (hV8 : V ≤ 8) (hv : v = nI V) (hA : DA V S0 T0 S T z hd sh) (hB : DB V (Wd T0) S T ab L B) :
    ((∀ n y1 y2, fX5_spell_L (n + 1) S y1 y2 = some (nI z, S)) ∧ (∀ n y1 y2, fX8_decode_L (n + 1) T y1 y2 = some T)) ∨
    ∃ S1 T1 z1 ab1 L1 B1 hd1 sh1, (∀ n y1 i, i < 3000000 → z < 250 → fX5_spell_L (n + 1) S y1 (nI i) = fX5_spell_L n S1 y1 (nI (i + 1))) ∧ (∀ n y1 y2, fX8_decode_L (n + 1) T y1 y2 = fX8_decode_L n T1 y1 y2) ∧ DA V S0 T0 S1 T1 z1 hd1 sh1 ∧ DB V (Wd T0) S1 T1 ab1 L1 B1 ∧ Kp T z T1 z1 ∧ PP ab1 L1 B1 < PP ab L B := by
  have hR : Rel w v S T0 := h0.keep hA.1 (eqM_rf T0)
  have hz : S.1 16 = nI z := hA.2.2.1
  cases L with
  | nil =>
    obtain ⟨e, p, hp, e1, e2⟩ := take_end hR hB
    have cl : ¬ nI p < nI p := fun q => absurd ((nI_ltI (by omega) (by omega)).mp q) (Nat.lt_irrefl p)
    cases ab with
    | false =>
      left
      refine ⟨fun n y1 y2 => ?_, fun n y1 y2 => ?_⟩
      · rw [fX5_spell_L, e]
        by_cases c1 : (3000000 : Int32) ≤ y2
        · rw [if_pos c1, hz]
        · rw [if_neg c1]
          by_cases c2 : (250 : Int32) ≤ S.1 16
          · rw [if_pos c2, hz]
          · rw [if_neg c2, if_pos rfl]
            show (if S.1 20 = 0 then some (S.1 16, S) else _) = _
            rw [if_pos hB.1, hz]
      · rw [fX8_decode_L, e1, e2, if_neg cl, if_pos hB.2.1]
    | true =>
      right
      obtain ⟨a1, a2, a3, a4, a5, a6, a7, a8, a9, b1, b2, b3, b4⟩ := hA
      obtain ⟨c1, c2, c3, c4, p', bp, bh, d1, d2, d3, d4, f1, f2, f3, f4, f5, g1, g2, g3, g4⟩ := hB
      refine ⟨fX5_read9 S (S.1 18), pS (pS (pS (pS (pS T 19 (bI false)) 15 (T.1 20)) 16 (T.1 21)) 17 (T.1 22)) 18 (0 : Int32), z, false, B, [], bh, 0, fun n y1 i hi hz2 => ?_, fun n y1 y2 => ?_, ⟨a1.tr (((eqX_pS (by omega) (by omega)).tr (eqX_pS (by omega) (by omega))).tr (eqX_pS (by omega) (by omega))), a2.tr (((((eqM_pS (by omega)).tr (eqM_pS (by omega))).tr (eqM_pS (by omega))).tr (eqM_pS (by omega))).tr (eqM_pS (by omega))), a3, a4, a5, a6, g3, by omega, g1, g2, rfl, ?_, g4⟩, ⟨rfl, rfl, SX_keep c4 (fun k h1 h2 => ?_), bp, f1, f2, f3, f5⟩, ⟨Nat.le_refl _, fun _ _ => rfl⟩, ?_⟩
      · rw [fX5_spell_L, if_neg (show ¬ (3000000 : Int32) ≤ nI i from nI_ge (a := i) (b := 3000000) hi (by omega)), if_neg (by rw [hz]; exact nI_ge (a := z) (b := 250) hz2 (by omega)), e, if_pos rfl]
        show (if S.1 20 = 0 then _ else fX5_spell_L n (fX5_read9 S (S.1 18)) y1 (nI i + (1 : Int32))) = _
        rw [if_neg (show ¬ S.1 20 = 0 by rw [c1]; decide), show nI i + (1 : Int32) = nI (i + 1) from nI_1 i]
      · rw [fX8_decode_L, e1, e2, if_neg cl, if_neg (show ¬ T.1 19 = 0 by rw [c2]; decide)]
      · show S.1 18 = _
        rw [g1, Nat.add_zero, Nat.mod_eq_of_lt g3]
      · show upd (upd (upd S.1 20 _) 17 _) 19 _ k = S.1 k
        unfold upd
        rw [if_neg (by omega), if_neg (by omega), if_neg (by omega)]
      · show 3073 * B.length < 3073 * B.length + 0 + 1
        omega
  | cons s L1 =>
    right
    obtain ⟨hs, S1, p, e, k1, k2, e1, e2, e3, e4, hB1⟩ := take_sim hR hB
    have hA1 : DA V S0 T0 S1 (pS T 15 (nI (p + 1))) z hd sh := DA_keep hA (fun k hk => k1 k (by omega)) k2 (fun k hk => if_neg (by omega)) (fun q hq => rfl)
    obtain ⟨S2, T2, z1, ab1, L2, B2, hd1, sh1, g1, g2, g3, g4, g5, g6⟩ := heed_sim (Q := PP ab (s :: L1) B) h0 hV1 hV8 hv hA1 hB1 hs (by rw [PP_cons]; omega)
    have g2 : (if T.1 1 ≤ (2 : Int32) then fX8_elderSign (pS T 15 (nI (p + 1))) (nI s) else fX8_sign (pS T 15 (nI (p + 1))) (nI s)) = some T2 := g2
    refine ⟨S2, T2, z1, ab1, L2, B2, hd1, sh1, fun n y1 i hi hz2 => ?_, fun n y1 y2 => ?_, g3, g4, g5, g6⟩
    · rw [fX5_spell_L, if_neg (show ¬ (3000000 : Int32) ≤ nI i from nI_ge (a := i) (b := 3000000) hi (by omega)), if_neg (by rw [hz]; exact nI_ge (a := z) (b := 250) hz2 (by omega)), e, if_neg (nx_m1 s hs)]
      show ob (fX5_heed S1 (nI s)) (fun u5 => fX5_spell_L n u5 y1 (nI i + (1 : Int32))) = _
      rw [g1, ob_s, show nI i + (1 : Int32) = nI (i + 1) from nI_1 i]
    · rw [fX8_decode_L, e1, e2, if_pos (nI_lt (by omega) (by omega)), gd_ok (show p < 9000 by omega) (by omega), ob_s, nI_clamp (by omega), e4, show nI p + (1 : Int32) = nI (p + 1) from nI_1 p]
      by_cases c : T.1 1 ≤ (2 : Int32)
      · rw [if_pos c] at g2 ⊢
        rw [g2, ob_s]
      · rw [if_neg c] at g2 ⊢
        rw [g2, ob_s]
theorem loopM {w : Bool} {v : Int32} {V : Nat} {S0 T0 : XS} (h0 : Rel w v S0 T0) (hV1 : 1 ≤ V) (hV8 : V ≤ 8) (hv : v = nI V) (y1 y2 : Int32) : ∀ (m : Nat) (S T : XS) (z hd sh : Nat) (ab : Bool) (L B : List Nat), PP ab L B ≤ m → DA V S0 T0 S T z hd sh → DB V (Wd T0) S T ab L B → ∀ f, m + 1 ≤ f → ∃ T1 z1, fX8_decode_L f T y1 y2 = some T1 ∧ eqM T0 T1 ∧ T1.1 13 = nI z1 ∧ z1 ≤ 250 ∧ Kp T z T1 z1 := by
  intro m
  induction m with
  | zero =>
    intro S T z hd sh ab L B hP hA hB f hf
    obtain ⟨f, rfl⟩ : ∃ g, f = g + 1 := ⟨f - 1, by omega⟩
    rcases step_sim h0 hV1 hV8 hv hA hB with ⟨-, q⟩ | ⟨S1, T1, z1, ab1, L1, B1, hd1, sh1, -, -, -, -, -, q⟩
    · rw [q]
      exact ⟨T, z, rfl, hA.2.1, hA.2.2.2.1, hA.2.2.2.2.1, Nat.le_refl _, fun _ _ => rfl⟩
    · omega
  | succ m ih =>
    intro S T z hd sh ab L B hP hA hB f hf
    obtain ⟨f, rfl⟩ : ∃ g, f = g + 1 := ⟨f - 1, by omega⟩
    rcases step_sim h0 hV1 hV8 hv hA hB with ⟨-, q⟩ | ⟨S1, T1, z1, ab1, L1, B1, hd1, sh1, -, q2, q3, q4, q5, q⟩
    · rw [q]
      exact ⟨T, z, rfl, hA.2.1, hA.2.2.2.1, hA.2.2.2.2.1, Nat.le_refl _, fun _ _ => rfl⟩
    · rw [q2]
      obtain ⟨T2, z2, r1, r2, r3, r4, r5⟩ := ih S1 T1 z1 hd1 sh1 ab1 L1 B1 (by omega) q3 q4 f (by omega)
      exact ⟨T2, z2, r1, r2, r3, r4, Nat.le_trans q5.1 r5.1, fun j hj => (r5.2 j (Nat.lt_of_lt_of_le hj q5.1)).trans (q5.2 j hj)⟩
def Dn (S0 T0 U X : XS) (z : Nat) : Prop := eqX S0 U ∧ eqM T0 X ∧ U.1 16 = nI z ∧ X.1 13 = nI z ∧ z ≤ 250 ∧ ∀ j, j < z → X.2 2 j = U.2 3 j &&& 255
theorem DA_dn {V : Nat} {S0 T0 S T : XS} {z hd sh : Nat} (h : DA V S0 T0 S T z hd sh) : Dn S0 T0 S T z := by
  obtain ⟨a1, a2, a3, a4, a5, a6, -⟩ := h
  exact ⟨a1, a2, a3, a4, a5, a6⟩
theorem loopX {w : Bool} {v : Int32} {V : Nat} {S0 T0 : XS} (h0 : Rel w v S0 T0) (hV1 : 1 ≤ V) (hV8 : V ≤ 8) (hv : v = nI V) (x1 y1 y2 : Int32) : ∀ (m : Nat) (S T : XS) (z hd sh : Nat) (ab : Bool) (L B : List Nat), PP ab L B ≤ m → DA V S0 T0 S T z hd sh → DB V (Wd T0) S T ab L B → ∀ f f' i, m + 1 ≤ f → m + 1 ≤ f' → i + m < 3000000 → ∃ U X z1, fX5_spell_L f S x1 (nI i) = some (nI z1, U) ∧ fX8_decode_L f' T y1 y2 = some X ∧ Dn S0 T0 U X z1 := by
  have full : ∀ (m : Nat) (S T : XS) (z hd sh : Nat) (ab : Bool) (L B : List Nat), PP ab L B ≤ m → DA V S0 T0 S T z hd sh → DB V (Wd T0) S T ab L B → ∀ f f' i, m + 1 ≤ f → m + 1 ≤ f' → i + m < 3000000 → 250 ≤ z → ∃ U X z1, fX5_spell_L f S x1 (nI i) = some (nI z1, U) ∧ fX8_decode_L f' T y1 y2 = some X ∧ Dn S0 T0 U X z1 := by
    intro m S T z hd sh ab L B hP hA hB f f' i hf hf' hi hz
    obtain ⟨f, rfl⟩ : ∃ g, f = g + 1 := ⟨f - 1, by omega⟩
    obtain ⟨T2, z2, r1, r2, r3, r4, r5⟩ := loopM h0 hV1 hV8 hv y1 y2 m S T z hd sh ab L B hP hA hB f' hf'
    obtain ⟨a1, a2, a3, a4, a5, a6, -⟩ := hA
    have ez : z2 = z := by have := r5.1; omega
    subst ez
    refine ⟨S, T2, z2, ?_, r1, a1, r2, a3, r3, r4, fun j hj => (r5.2 j hj).trans (a6 j hj)⟩
    rw [fX5_spell_L, if_neg (show ¬ (3000000 : Int32) ≤ nI i from nI_ge (a := i) (b := 3000000) (by omega) (by omega)), if_pos (by rw [a3]; exact nI_le (a := 250) hz (by omega)), a3]
  intro m
  induction m with
  | zero =>
    intro S T z hd sh ab L B hP hA hB f f' i hf hf' hi
    rcases Nat.lt_or_ge z 250 with hz | hz
    · obtain ⟨f, rfl⟩ : ∃ g, f = g + 1 := ⟨f - 1, by omega⟩
      obtain ⟨f', rfl⟩ : ∃ g, f' = g + 1 := ⟨f' - 1, by omega⟩
      rcases step_sim h0 hV1 hV8 hv hA hB with ⟨q0, q⟩ | ⟨S1, T1, z1, ab1, L1, B1, hd1, sh1, -, -, -, -, -, q⟩
      · exact ⟨S, T, z, q0 f x1 (nI i), q f' y1 y2, DA_dn hA⟩
      · omega
    · exact full 0 S T z hd sh ab L B hP hA hB f f' i hf hf' hi hz
  | succ m ih =>
    intro S T z hd sh ab L B hP hA hB f f' i hf hf' hi
    rcases Nat.lt_or_ge z 250 with hz | hz
    · obtain ⟨f, rfl⟩ : ∃ g, f = g + 1 := ⟨f - 1, by omega⟩
      obtain ⟨f', rfl⟩ : ∃ g, f' = g + 1 := ⟨f' - 1, by omega⟩
      rcases step_sim h0 hV1 hV8 hv hA hB with ⟨q0, q⟩ | ⟨S1, T1, z1, ab1, L1, B1, hd1, sh1, q1, q2, q3, q4, q5, q⟩
      · exact ⟨S, T, z, q0 f x1 (nI i), q f' y1 y2, DA_dn hA⟩
      · obtain ⟨U, X, z2, r1, r2, r3⟩ := ih S1 T1 z1 hd1 sh1 ab1 L1 B1 (by omega) q3 q4 f f' (i + 1) (by omega) (by omega) (by omega)
        exact ⟨U, X, z2, (q1 f x1 i (by omega) hz).trans r1, (q2 f' y1 y2).trans r2, r3⟩
    · exact full (m + 1) S T z hd sh ab L B hP hA hB f f' i hf hf' hi hz
theorem decode_sim {w : Bool} {v : Int32} {S T : XS} (h : Rel w v S T) (x1 : Int32) : ∃ U X z, fX5_spell S (fX0_table S x1) = some (nI z, U) ∧ fX8_decode T x1 = some X ∧ Dn S T U X z := by
  obtain ⟨V, hV1, hV8, hv, -⟩ := id h.1
  obtain ⟨a0, ha0, ea⟩ := word_rng h (fX8_tableAt T x1)
  obtain ⟨l, hl, el⟩ := at_rng h (nI a0)
  have eX : eqX S (pS S 16 (0 : Int32)) := eqX_pS (by omega) (by omega)
  have eM : eqM T (pS (pS T 13 (0 : Int32)) 15 (0 : Int32)) := (eqM_pS (by omega)).tr (eqM_pS (by omega))
  have gX : fX2_get (pS S 16 (0 : Int32)) (nI a0) = nI l := by rw [get_eq (h.keep eX (eqM_rf T)), el]
  have gM : fX8_at (pS (pS T 13 (0 : Int32)) 15 (0 : Int32)) (nI a0) = nI l := by rw [at_eqM eM, el]
  have r := read_sp h (a0 + 1) l 0 (by omega) (by omega) (by omega) _ eM
  rw [nI_0, Nat.zero_add] at r
  obtain ⟨T1, r1, r2, r3, r4, r5, r6⟩ := r
  have hlen := rwL_len (Wd T) l (a0 + 1)
  rw [fX5_spell, fX8_decode, table_eq h, ea, gX, gM, show nI a0 + (1 : Int32) = nI (a0 + 1) from nI_1 a0, r1, ob_s]
  have hA : DA V S T (fX5_read9 (fX4_begin9 (pS S 16 (0 : Int32)) (nI (a0 + 1)) (nI l)) (0 : Int32)) (pS (pS (pS (pS T1 16 (nI (rwL (Wd T) l (a0 + 1)).length)) 17 (0 : Int32)) 18 (0 : Int32)) 19 (bI false)) 0 0 0 := by
    refine ⟨⟨fun k hk => ?_, rfl, rfl, rfl⟩, r2.tr ((((eqM_pS (by omega)).tr (eqM_pS (by omega))).tr (eqM_pS (by omega))).tr (eqM_pS (by omega))), rfl, ?_, by omega, fun j hj => absurd hj (Nat.not_lt_zero j), by omega, by omega, rfl, rfl, rfl, rfl, fun _ => rfl⟩
    · show upd (upd (upd (upd (upd (upd (upd (upd S.1 16 _) 21 _) 22 _) 23 _) 24 _) 20 _) 17 _) 19 _ k = S.1 k
      unfold upd
      rw [if_neg (by omega), if_neg (by omega), if_neg (by omega), if_neg (by omega), if_neg (by omega), if_neg (by omega), if_neg (by omega), if_neg (by omega)]
    · show T1.1 13 = _
      rw [r3]; rfl
  have hB : DB V (Wd T) (fX5_read9 (fX4_begin9 (pS S 16 (0 : Int32)) (nI (a0 + 1)) (nI l)) (0 : Int32)) (pS (pS (pS (pS T1 16 (nI (rwL (Wd T) l (a0 + 1)).length)) 17 (0 : Int32)) 18 (0 : Int32)) 19 (bI false)) false (rwL (Wd T) l (a0 + 1)) [] := by
    refine ⟨rfl, rfl, ⟨a0 + 1, l, 0, 0, rfl, Or.inl rfl, rfl, rfl, by omega, by omega, by omega, rfl⟩, 0, ?_, ?_, r6, by omega⟩
    · show T1.1 15 = _
      rw [r3]; rfl
    · show nI _ = _
      rw [Nat.zero_add]
  have hP : PP false (rwL (Wd T) l (a0 + 1)) [] ≤ 2350845 := by
    show 3073 * (rwL (Wd T) l (a0 + 1)).length ≤ 2350845
    omega
  exact loopX h hV1 hV8 hv (nI a0) x1 (nI a0) 2350845 _ _ 0 0 0 false _ [] hP hA hB 3000001 3000000 0 (by omega) (by omega) (by omega)
theorem op_named {w : Bool} {v : Int32} {S T : XS} (h : Rel w v S T) (x1 : Int32) : ∃ (u t : Int32 × XS), fX7_named S x1 = some u ∧ fX8_named T x1 = some t ∧ u.1 = t.1 ∧ Rel w v u.2 t.2 := by
  rw [fX7_named, fX8_named, has_eq h]
  by_cases c : bI (fX8_isObject T x1) = 0
  · rw [if_pos c, if_pos c]
    exact ⟨_, _, rfl, rfl, rfl, h⟩
  · rw [if_neg c, if_neg c]
    obtain ⟨U, X, z, e1, e2, d1, d2, d3, d4, d5, d6⟩ := decode_sim h x1
    rw [e1, e2, ob_s, ob_s]
    exact ⟨_, _, rfl, rfl, d4.symm, h.keep d1 d2⟩
theorem op_name {w : Bool} {v : Int32} {S T : XS} (h : Rel w v S T) (x1 : Int32) (x2 : Int32) : ∃ (u t : Int32 × XS), fX7_name S x1 x2 = some u ∧ fX8_name T x1 x2 = some t ∧ u.1 = t.1 ∧ Rel w v u.2 t.2 := by
  rw [fX7_name, fX8_name, has_eq h]
  by_cases c : bI (fX8_isObject T x1) = 0
  · rw [if_pos c, if_pos c]
    exact ⟨_, _, rfl, rfl, rfl, h⟩
  · rw [if_neg c, if_neg c]
    obtain ⟨U, X, z, e1, e2, d1, d2, d3, d4, d5, d6⟩ := decode_sim h x1
    rw [e1, e2, ob_s, ob_s]
    have hk := h.keep d1 d2
    by_cases c0 : x2 < 0
    · rw [if_pos c0, if_pos c0]
      exact ⟨_, _, rfl, rfl, rfl, hk⟩
    · rw [if_neg c0, if_neg c0, d4]
      show ∃ (u t : Int32 × XS), (if nI z ≤ x2 then some ((-2 : Int32), U) else ob (fX5_byteAt U x2) (fun u5 => some (u5, U))) = some u ∧ _
      by_cases c1 : nI z ≤ x2
      · rw [if_pos c1, if_neg (Int32.not_lt.mpr c1)]
        exact ⟨_, _, rfl, rfl, rfl, hk⟩
      · rcases pk_ix x2 (n := z) (by omega) with q | q | ⟨j, hj, rfl⟩
        · exact absurd q c0
        · exact absurd q c1
        · rw [if_neg c1, if_pos (nI_lt hj (by omega)), gd_ok (show j < 250 by omega) (by omega), ob_s, fX5_byteAt, if_neg c0, d3, if_neg c1, gd_ok (show j < 250 by omega) (by omega), ob_s, ob_s, nI_clamp (by omega)]
          exact ⟨_, _, rfl, rfl, (d6 j hj).symm, hk⟩
