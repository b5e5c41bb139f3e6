/-! names, first: signs as lists; taking one; reading a row of words; saying a byte -/
def wsg (n : Nat) : List Nat := [n / 1024 % 32, n / 32 % 32, n % 32]
def rwL (W : Nat → Nat) : Nat → Nat → List Nat
  | 0, _ => []
  | l + 1, a => wsg (W a) ++ (if 32768 ≤ W a then [] else rwL W l (a + 2))
def Wd (T : XS) (a : Nat) : Nat := (fX8_word T (nI a)).toNatClampNeg
theorem Wd_eq {w : Bool} {v : Int32} {S T : XS} (h : Rel w v S T) (a : Nat) : fX8_word T (nI a) = nI (Wd T a) ∧ Wd T a < 65536 := by
  obtain ⟨n, hn, e⟩ := word_rng h (nI a)
  have : Wd T a = n := by rw [Wd, e, nI_clamp (by omega)]
  rw [this]; exact ⟨e, hn⟩
theorem rwL_len (W : Nat → Nat) : ∀ l a, (rwL W l a).length ≤ 3 * l := by
  intro l
  induction l with
  | zero => intro a; exact Nat.le_refl _
  | succ l ih =>
    intro a
    show (wsg (W a) ++ _).length ≤ _
    rw [List.length_append]
    have h3 : (wsg (W a)).length = 3 := rfl
    split
    · rw [h3, List.length_nil]; omega
    · have := ih (a + 2); omega
def SX (W : Nat → Nat) (S : XS) (off : Nat) (L : List Nat) : Prop := ∃ a l wd sl : Nat, S.1 off = nI a ∧ (S.1 (off + 1) = nI l ∨ (l = 0 ∧ S.1 (off + 1) ≤ 0)) ∧ S.1 (off + 2) = nI wd ∧ S.1 (off + 3) = nI sl ∧ sl ≤ 2 ∧ wd < 65536 ∧ a + 2 * l ≤ 2 ^ 18 ∧ L = (wsg wd).drop (3 - sl) ++ rwL W l a
theorem sg10 {n : Nat} (h : n < 65536) : (nI n >>> (((5 : Int32) * ((3 : Int32) - (1 : Int32))) &&& 31)) &&& (31 : Int32) = nI (n / 1024 % 32) := by
  rw [pk_shrN (by omega) _ 10 (by decide), pk_andN (by omega) 5 (by decide)]
theorem sg5 {n : Nat} (h : n < 65536) : (nI n >>> (((5 : Int32) * (nI 2 - (1 : Int32))) &&& 31)) &&& (31 : Int32) = nI (n / 32 % 32) := by
  rw [pk_shrN (by omega) _ 5 (by decide), pk_andN (by omega) 5 (by decide)]
theorem sg0 {n : Nat} (h : n < 65536) : (nI n >>> (((5 : Int32) * (nI 1 - (1 : Int32))) &&& 31)) &&& (31 : Int32) = nI (n % 32) := by
  rw [pk_shrN (by omega) _ 0 (by decide), pk_andN (by omega) 5 (by decide)]
  simp
theorem SX_keep {W : Nat → Nat} {S S1 : XS} {off : Nat} {L : List Nat} (h : SX W S off L) (hk : ∀ k, off ≤ k → k ≤ off + 3 → S1.1 k = S.1 k) : SX W S1 off L := by
  obtain ⟨a, l, wd, sl, h1, h2, h3, h4, h5⟩ := h
  exact ⟨a, l, wd, sl, by rw [hk off (by omega) (by omega)]; exact h1, by rw [hk (off + 1) (by omega) (by omega)]; exact h2, by rw [hk (off + 2) (by omega) (by omega)]; exact h3, by rw [hk (off + 3) (by omega) (by omega)]; exact h4, h5⟩
theorem take9_sp {w : Bool} {v : Int32} {S T : XS} (hR : Rel w v S T) {L : List Nat} (h : SX (Wd T) S 21 L) : (L = [] → fX4_take9 S = (-1, S)) ∧ (∀ s L1, L = s :: L1 → s < 32 ∧ ∃ S1, fX4_take9 S = (nI s, S1) ∧ SX (Wd T) S1 21 L1 ∧ (∀ k, (k < 21 ∨ 24 < k) → S1.1 k = S.1 k) ∧ S1.2 = S.2) := by
  obtain ⟨a, l, wd, sl, h1, h2, h3, h4, h5, h6, h7, hL⟩ := h
  have hW := Wd_eq hR a
  have hw : fX2_word S (S.1 21) = nI (Wd T a) := by rw [h1, word_eq hR]; exact hW.1
  rw [fX4_take9, hw]
  rcases (show sl = 0 ∨ sl = 1 ∨ sl = 2 by omega) with rfl | rfl | rfl
  · have hL : L = rwL (Wd T) l a := hL
    rw [if_pos (show S.1 24 = 0 from h4)]
    cases l with
    | zero =>
      have c : ¬ (0 : Int32) < S.1 22 := by
        rcases h2 with h2 | ⟨-, h2⟩
        · rw [show S.1 22 = nI 0 from h2]; decide
        · exact Int32.not_lt.mpr h2
      rw [if_neg c]
      exact ⟨fun _ => rfl, fun s L1 e => by rw [hL] at e; cases e⟩
    | succ l =>
      have h2 : S.1 22 = nI (l + 1) := by
        rcases h2 with h2 | ⟨q, -⟩
        · exact h2
        · omega
      have c : (0 : Int32) < S.1 22 := by rw [h2]; exact nI_lt (a := 0) (b := l + 1) (by omega) (by omega)
      rw [if_pos c]
      have hL : L = wsg (Wd T a) ++ (if 32768 ≤ Wd T a then [] else rwL (Wd T) l (a + 2)) := hL
      refine ⟨fun e => (by rw [hL] at e; cases e), fun s L1 e => ?_⟩
      rw [hL] at e
      have e : (Wd T a / 1024 % 32) :: ([Wd T a / 32 % 32, Wd T a % 32] ++ (if 32768 ≤ Wd T a then [] else rwL (Wd T) l (a + 2))) = s :: L1 := e
      obtain ⟨rfl, rfl⟩ := List.cons.inj e
      refine ⟨Nat.mod_lt _ (by omega), ?_⟩
      rw [sg10 hW.2]
      by_cases q : 32768 ≤ Wd T a
      · have cq : ¬ nI (Wd T a) < (32768 : Int32) := fun z => by have := (nI_ltI (a := Wd T a) (b := 32768) (by omega) (by omega)).mp z; omega
        rw [if_neg cq, if_pos q]
        refine ⟨_, rfl, ⟨a + 2, 0, Wd T a, 2, ?_, Or.inl rfl, rfl, rfl, by omega, hW.2, by omega, rfl⟩, fun k hk => ?_, rfl⟩
        · show S.1 21 + 2 = nI (a + 2)
          rw [h1]; exact nI_add a 2
        · show upd (upd (upd (upd (upd S.1 23 _) 21 _) 22 _) 24 _) 24 _ k = S.1 k
          unfold upd
          rw [if_neg (by omega), if_neg (by omega), if_neg (by omega), if_neg (by omega), if_neg (by omega)]
      · have cq : nI (Wd T a) < (32768 : Int32) := (nI_ltI (a := Wd T a) (b := 32768) (by omega) (by omega)).mpr (by omega)
        rw [if_pos cq, if_neg q]
        refine ⟨_, rfl, ⟨a + 2, l, Wd T a, 2, ?_, Or.inl ?_, rfl, rfl, by omega, hW.2, by omega, rfl⟩, fun k hk => ?_, rfl⟩
        · show S.1 21 + 2 = nI (a + 2)
          rw [h1]; exact nI_add a 2
        · show S.1 22 - 1 = nI l
          rw [h2]; exact nI_pred l
        · show upd (upd (upd (upd (upd S.1 23 _) 21 _) 22 _) 24 _) 24 _ k = S.1 k
          unfold upd
          rw [if_neg (by omega), if_neg (by omega), if_neg (by omega), if_neg (by omega), if_neg (by omega)]
  · have hL : L = (wd % 32) :: rwL (Wd T) l a := hL
    rw [if_neg (show ¬ S.1 24 = 0 by rw [show S.1 24 = nI 1 from h4]; decide)]
    refine ⟨fun e => (by rw [hL] at e; cases e), fun s L1 e => ?_⟩
    rw [hL] at e
    obtain ⟨rfl, rfl⟩ := List.cons.inj e
    refine ⟨Nat.mod_lt _ (by omega), ?_⟩
    rw [show S.1 23 = nI wd from h3, show S.1 24 = nI 1 from h4, sg0 h6]
    refine ⟨_, rfl, ⟨a, l, wd, 0, h1, h2, h3, rfl, by omega, h6, h7, rfl⟩, fun k hk => ?_, rfl⟩
    show upd S.1 24 _ k = S.1 k
    unfold upd
    rw [if_neg (by omega)]
  · have hL : L = (wd / 32 % 32) :: (wd % 32) :: rwL (Wd T) l a := hL
    rw [if_neg (show ¬ S.1 24 = 0 by rw [show S.1 24 = nI 2 from h4]; decide)]
    refine ⟨fun e => (by rw [hL] at e; cases e), fun s L1 e => ?_⟩
    rw [hL] at e
    obtain ⟨rfl, rfl⟩ := List.cons.inj e
    refine ⟨Nat.mod_lt _ (by omega), ?_⟩
    rw [show S.1 23 = nI wd from h3, show S.1 24 = nI 2 from h4, sg5 h6]
    refine ⟨_, rfl, ⟨a, l, wd, 1, h1, h2, h3, rfl, by omega, h6, h7, rfl⟩, fun k hk => ?_, rfl⟩
    show upd S.1 24 _ k = S.1 k
    unfold upd
    rw [if_neg (by omega)]
theorem take10_sp {w : Bool} {v : Int32} {S T : XS} (hR : Rel w v S T) {L : List Nat} (h : SX (Wd T) S 25 L) : (L = [] → fX4_take10 S = (-1, S)) ∧ (∀ s L1, L = s :: L1 → s < 32 ∧ ∃ S1, fX4_take10 S = (nI s, S1) ∧ SX (Wd T) S1 25 L1 ∧ (∀ k, (k < 25 ∨ 28 < k) → S1.1 k = S.1 k) ∧ S1.2 = S.2) := by
  obtain ⟨a, l, wd, sl, h1, h2, h3, h4, h5, h6, h7, hL⟩ := h
  have hW := Wd_eq hR a
  have hw : fX2_word S (S.1 25) = nI (Wd T a) := by rw [h1, word_eq hR]; exact hW.1
  rw [fX4_take10, hw]
  rcases (show sl = 0 ∨ sl = 1 ∨ sl = 2 by omega) with rfl | rfl | rfl
  · have hL : L = rwL (Wd T) l a := hL
    rw [if_pos (show S.1 28 = 0 from h4)]
    cases l with
    | zero =>
      have c : ¬ (0 : Int32) < S.1 26 := by
        rcases h2 with h2 | ⟨-, h2⟩
        · rw [show S.1 26 = nI 0 from h2]; decide
        · exact Int32.not_lt.mpr h2
      rw [if_neg c]
      exact ⟨fun _ => rfl, fun s L1 e => by rw [hL] at e; cases e⟩
    | succ l =>
      have h2 : S.1 26 = nI (l + 1) := by
        rcases h2 with h2 | ⟨q, -⟩
        · exact h2
        · omega
      have c : (0 : Int32) < S.1 26 := by rw [h2]; exact nI_lt (a := 0) (b := l + 1) (by omega) (by omega)
      rw [if_pos c]
      have hL : L = wsg (Wd T a) ++ (if 32768 ≤ Wd T a then [] else rwL (Wd T) l (a + 2)) := hL
      refine ⟨fun e => (by rw [hL] at e; cases e), fun s L1 e => ?_⟩
      rw [hL] at e
      have e : (Wd T a / 1024 % 32) :: ([Wd T a / 32 % 32, Wd T a % 32] ++ (if 32768 ≤ Wd T a then [] else rwL (Wd T) l (a + 2))) = s :: L1 := e
      obtain ⟨rfl, rfl⟩ := List.cons.inj e
      refine ⟨Nat.mod_lt _ (by omega), ?_⟩
      rw [sg10 hW.2]
      by_cases q : 32768 ≤ Wd T a
      · have cq : ¬ nI (Wd T a) < (32768 : Int32) := fun z => by have := (nI_ltI (a := Wd T a) (b := 32768) (by omega) (by omega)).mp z; omega
        rw [if_neg cq, if_pos q]
        refine ⟨_, rfl, ⟨a + 2, 0, Wd T a, 2, ?_, Or.inl rfl, rfl, rfl, by omega, hW.2, by omega, rfl⟩, fun k hk => ?_, rfl⟩
        · show S.1 25 + 2 = nI (a + 2)
          rw [h1]; exact nI_add a 2
        · show upd (upd (upd (upd (upd S.1 27 _) 25 _) 26 _) 28 _) 28 _ k = S.1 k
          unfold upd
          rw [if_neg (by omega), if_neg (by omega), if_neg (by omega), if_neg (by omega), if_neg (by omega)]
      · have cq : nI (Wd T a) < (32768 : Int32) := (nI_ltI (a := Wd T a) (b := 32768) (by omega) (by omega)).mpr (by omega)
        rw [if_pos cq, if_neg q]
        refine ⟨_, rfl, ⟨a + 2, l, Wd T a, 2, ?_, Or.inl ?_, rfl, rfl, by omega, hW.2, by omega, rfl⟩, fun k hk => ?_, rfl⟩
        · show S.1 25 + 2 = nI (a + 2)
          rw [h1]; exact nI_add a 2
        · show S.1 26 - 1 = nI l
          rw [h2]; exact nI_pred l
        · show upd (upd (upd (upd (upd S.1 27 _) 25 _) 26 _) 28 _) 28 _ k = S.1 k
          unfold upd
          rw [if_neg (by omega), if_neg (by omega), if_neg (by omega), if_neg (by omega), if_neg (by omega)]
  · have hL : L = (wd % 32) :: rwL (Wd T) l a := hL
    rw [if_neg (show ¬ S.1 28 = 0 by rw [show S.1 28 = nI 1 from h4]; decide)]
    refine ⟨fun e => (by rw [hL] at e; cases e), fun s L1 e => ?_⟩
    rw [hL] at e
    obtain ⟨rfl, rfl⟩ := List.cons.inj e
    refine ⟨Nat.mod_lt _ (by omega), ?_⟩
    rw [show S.1 27 = nI wd from h3, show S.1 28 = nI 1 from h4, sg0 h6]
    refine ⟨_, rfl, ⟨a, l, wd, 0, h1, h2, h3, rfl, by omega, h6, h7, rfl⟩, fun k hk => ?_, rfl⟩
    show upd S.1 28 _ k = S.1 k
    unfold upd
    rw [if_neg (by omega)]
  · have hL : L = (wd / 32 % 32) :: (wd % 32) :: rwL (Wd T) l a := hL
    rw [if_neg (show ¬ S.1 28 = 0 by rw [show S.1 28 = nI 2 from h4]; decide)]
    refine ⟨fun e => (by rw [hL] at e; cases e), fun s L1 e => ?_⟩
    rw [hL] at e
    obtain ⟨rfl, rfl⟩ := List.cons.inj e
    refine ⟨Nat.mod_lt _ (by omega), ?_⟩
    rw [show S.1 27 = nI wd from h3, show S.1 28 = nI 2 from h4, sg5 h6]
    refine ⟨_, rfl, ⟨a, l, wd, 1, h1, h2, h3, rfl, by omega, h6, h7, rfl⟩, fun k hk => ?_, rfl⟩
    show upd S.1 28 _ k = S.1 k
    unfold upd
    rw [if_neg (by omega)]
def Seg (T : XS) (p : Nat) (L : List Nat) : Prop := ∀ i, i < L.length → T.2 3 (p + i) = nI (L.getD i 0)
theorem rd10 {n : Nat} (h : n < 65536) : (nI n >>> ((10 : Int32) &&& 31)) &&& (31 : Int32) = nI (n / 1024 % 32) := by
  rw [pk_shrN (by omega) _ 10 (by decide), pk_andN (by omega) 5 (by decide)]
theorem rd5 {n : Nat} (h : n < 65536) : (nI n >>> ((5 : Int32) &&& 31)) &&& (31 : Int32) = nI (n / 32 % 32) := by
  rw [pk_shrN (by omega) _ 5 (by decide), pk_andN (by omega) 5 (by decide)]
theorem rd0 {n : Nat} (h : n < 65536) : nI n &&& (31 : Int32) = nI (n % 32) := by
  rw [pk_andN (by omega) 5 (by decide)]
theorem word_eqM {T T1 : XS} (h : eqM T T1) (a : Int32) : fX8_word T1 a = fX8_word T a := by
  rw [fX8_word, fX8_word, at_eqM h, at_eqM h]
theorem readL {w : Bool} {v : Int32} {S T0 : XS} (hR : Rel w v S T0) (y1 : Int32) (A l0 : Nat) (hA : A + 2 * l0 ≤ 2 ^ 18) : ∀ (m i n f : Nat) (T : XS), i + m = l0 → n + 3 * m ≤ 9000 → m + 2 ≤ f → eqM T0 T →
    ∃ T1, fX8_read_L f T y1 (nI A) (nI l0) (nI n) 1 (nI i) = some (nI (n + (rwL (Wd T0) m (A + 2 * i)).length), T1) ∧ eqM T0 T1 ∧ T1.1 = T.1 ∧ (∀ q, q ≠ 3 → T1.2 q = T.2 q) ∧ (∀ j, j < n → T1.2 3 j = T.2 3 j) ∧ Seg T1 n (rwL (Wd T0) m (A + 2 * i)) := by
  intro m
  induction m with
  | zero =>
    intro i n f T hi hn hf hE
    obtain ⟨f, rfl⟩ : ∃ g, f = g + 1 := ⟨f - 1, by omega⟩
    rw [fX8_read_L, if_neg (by decide), if_pos (nI_le (by omega) (by omega))]
    exact ⟨T, rfl, hE, rfl, fun _ _ => rfl, fun _ _ => rfl, fun j hj => absurd hj (Nat.not_lt_zero _)⟩
  | succ m ih =>
    intro i n f T hi hn hf hE
    obtain ⟨f, rfl⟩ : ∃ g, f = g + 1 := ⟨f - 1, by omega⟩
    have hW := Wd_eq hR (A + 2 * i)
    have hw : fX8_word T (nI A + (2 : Int32) * nI i) = nI (Wd T0 (A + 2 * i)) := by
      rw [show (2 : Int32) = nI 2 from rfl, pk_mul, nI_add, word_eqM hE]; exact hW.1
    have e1 : nI n + (1 : Int32) = nI (n + 1) := nI_1 n
    have e2 : nI n + (2 : Int32) = nI (n + 2) := nI_add n 2
    have e3 : nI n + (3 : Int32) = nI (n + 3) := nI_add n 3
    rw [fX8_read_L, if_neg (by decide), if_neg (nI_ge (by omega) (by omega)), hw, e1, e2, e3, gd_ok (show n < 9000 by omega) (by omega), gd_ok (show n + 1 < 9000 by omega) (by omega), gd_ok (show n + 2 < 9000 by omega) (by omega), rd10 hW.2, rd5 hW.2, rd0 hW.2, show nI i + (1 : Int32) = nI (i + 1) from nI_1 i, ob_s, ob_s, ob_s]
    generalize hT2 : pA (pA (pA T 3 (nI n) (nI (Wd T0 (A + 2 * i) / 1024 % 32))) 3 (nI (n + 1)) (nI (Wd T0 (A + 2 * i) / 32 % 32))) 3 (nI (n + 2)) (nI (Wd T0 (A + 2 * i) % 32)) = T2
    have g1 : T2.1 = T.1 := by rw [← hT2]; rfl
    have g2 : ∀ q, q ≠ 3 → T2.2 q = T.2 q := fun q hq => by rw [← hT2, pA_oth hq, pA_oth hq, pA_oth hq]
    have g3 : T2.2 3 = upd (upd (upd (T.2 3) n (nI (Wd T0 (A + 2 * i) / 1024 % 32))) (n + 1) (nI (Wd T0 (A + 2 * i) / 32 % 32))) (n + 2) (nI (Wd T0 (A + 2 * i) % 32)) := by
      rw [← hT2, pA_same, pA_same, pA_same, upd_at (by omega), upd_at (by omega), upd_at (by omega)]
    have gE : eqM T0 T2 := hE.tr ⟨fun k _ => by rw [g1], g2 0 (by omega), g2 1 (by omega)⟩
    have k0 : T2.2 3 n = nI (Wd T0 (A + 2 * i) / 1024 % 32) := by rw [g3]; unfold upd; rw [if_neg (by omega), if_neg (by omega), if_pos rfl]
    have k1 : T2.2 3 (n + 1) = nI (Wd T0 (A + 2 * i) / 32 % 32) := by rw [g3]; unfold upd; rw [if_neg (by omega), if_pos rfl]
    have k2 : T2.2 3 (n + 2) = nI (Wd T0 (A + 2 * i) % 32) := by rw [g3]; unfold upd; rw [if_pos rfl]
    have kb : ∀ j, j < n → T2.2 3 j = T.2 3 j := fun j hj => by rw [g3]; unfold upd; rw [if_neg (by omega), if_neg (by omega), if_neg (by omega)]
    clear hT2
    by_cases q : 32768 ≤ Wd T0 (A + 2 * i)
    · have cq : (32768 : Int32) ≤ nI (Wd T0 (A + 2 * i)) := nI_le (a := 32768) q (by omega)
      have eL : rwL (Wd T0) (m + 1) (A + 2 * i) = wsg (Wd T0 (A + 2 * i)) := by
        show wsg _ ++ (if _ then _ else _) = _
        rw [if_pos q, List.append_nil]
      obtain ⟨f, rfl⟩ : ∃ g, f = g + 1 := ⟨f - 1, by omega⟩
      rw [if_pos cq, fX8_read_L, if_pos rfl, eL]
      refine ⟨T2, rfl, gE, g1, g2, kb, fun j hj => ?_⟩
      have hj : j < 3 := hj
      rcases (show j = 0 ∨ j = 1 ∨ j = 2 by omega) with rfl | rfl | rfl
      · exact k0
      · exact k1
      · exact k2
    · have cq : ¬ (32768 : Int32) ≤ nI (Wd T0 (A + 2 * i)) := nI_ge (a := Wd T0 (A + 2 * i)) (b := 32768) (by omega) (by omega)
      have eL : rwL (Wd T0) (m + 1) (A + 2 * i) = wsg (Wd T0 (A + 2 * i)) ++ rwL (Wd T0) m (A + 2 * (i + 1)) := by
        show wsg _ ++ (if _ then _ else _) = _
        rw [if_neg q, show A + 2 * i + 2 = A + 2 * (i + 1) by omega]
      obtain ⟨T1, a1, a2, a3, a4, a5, a6⟩ := ih (i + 1) (n + 3) f T2 (by omega) (by omega) (by omega) gE
      rw [if_neg cq, a1, eL]
      refine ⟨T1, ?_, a2, a3.trans g1, fun z hz => (a4 z hz).trans (g2 z hz), fun j hj => (a5 j (by omega)).trans (kb j hj), fun j hj => ?_⟩
      · congr 2
        rw [List.length_append, show (wsg (Wd T0 (A + 2 * i))).length = 3 from rfl]
        congr 1
        omega
      · rw [List.length_append, show (wsg (Wd T0 (A + 2 * i))).length = 3 from rfl] at hj
        rcases Nat.lt_or_ge j 3 with z | z
        · rw [a5 (n + j) (by omega)]
          rcases (show j = 0 ∨ j = 1 ∨ j = 2 by omega) with rfl | rfl | rfl
          · exact k0
          · exact k1
          · exact k2
        · have := a6 (j - 3) (by omega)
          rw [show n + 3 + (j - 3) = n + j by omega] at this
          rw [this]
          congr 1
          obtain ⟨d, rfl⟩ : ∃ d, j = d + 3 := ⟨j - 3, by omega⟩
          rfl
theorem read_sp {w : Bool} {v : Int32} {S T0 : XS} (hR : Rel w v S T0) (A l n : Nat) (hA : A + 2 * l ≤ 2 ^ 18) (hn : n + 3 * l ≤ 9000) (hl : l ≤ 2048) (T : XS) (hE : eqM T0 T) :
    ∃ T1, fX8_read T (nI n) (nI A) (nI l) = some (nI (n + (rwL (Wd T0) l A).length), T1) ∧ eqM T0 T1 ∧ T1.1 = T.1 ∧ (∀ q, q ≠ 3 → T1.2 q = T.2 q) ∧ (∀ j, j < n → T1.2 3 j = T.2 3 j) ∧ Seg T1 n (rwL (Wd T0) l A) := by
  have h := readL hR (nI n) A l hA l 0 n 2050 T (by omega) hn (by omega) hE
  rw [nI_0, Nat.mul_zero, Nat.add_zero] at h
  rw [fX8_read]
  exact h
