/-! properties: one step, and finding -/
theorem r32 : ∀ n, n < 256 → nI n - nI n / 32 * 32 = nI (n % 32) ∧ nI n / 32 + 1 = nI (n / 32 + 1) := by decide +kernel
theorem r64 : ∀ n, n < 256 → nI n - nI n / 64 * 64 = nI (n % 64) ∧ (n < 128 → nI n / 64 + 1 = nI (n / 64 + 1)) ∧ ((128 : Int32) ≤ nI n ↔ 128 ≤ n) ∧ (nI n < 128 ↔ n < 128) ∧ (nI n < 64 ↔ n < 64) ∧ (nI n = 0 ↔ n = 0) := by decide +kernel
theorem o128 : ∀ c, c < 256 → (128 : Int32) ≤ (nI c ||| 128) ∧ ((nI c ||| 128) - (nI c ||| 128) / 64 * 64) = nI (c % 64) := by decide +kernel
theorem z64 : ∀ c, c < 64 → (nI c = 0 ↔ c = 0) := by decide +kernel
theorem at_nI {w : Bool} {v : Int32} {S T : XS} (h : Rel w v S T) (a : Nat) (ha : a < 2 ^ 21) : ∃ n, n < 256 ∧ fX8_at T (nI a) = nI n ∧ (4096 ≤ a → n = 0) := by
  obtain ⟨n, hn, e⟩ := at_rng h (nI a)
  refine ⟨n, hn, e, fun q => ?_⟩
  rw [fX8_at, if_neg (nI_pos (by omega)), if_pos (show (4096 : Int32) ≤ nI a from nI_le (a := 4096) (b := a) q (by omega))] at e
  exact ((r64 n hn).2.2.2.2.2.mp e.symm)
theorem adv_look {w : Bool} {v : Int32} {S T : XS} (h : Rel w v S T) (a : Nat) (ha : a < 2 ^ 20) (e11 : S.1 11 = nI a) :
    (fX3_advance S = (false, S) ∧ fX8_look T (nI a) = (false, T)) ∨
    (∃ (nm sz dt : Nat), a < 4096 ∧ nm < 64 ∧ 1 ≤ sz ∧ sz ≤ 64 ∧ a + 1 ≤ dt ∧ dt ≤ a + 2 ∧ fX3_advance S = (true, pS (pS (pS (pS S 12 (nI nm)) 14 (nI dt)) 13 (nI sz)) 11 (nI (dt + sz))) ∧ fX8_look T (nI a) = (true, pS (pS (pS T 9 (nI nm)) 10 (nI sz)) 11 (nI dt))) := by
  obtain ⟨-, ⟨a0, a4, a5, a6, a7, a8, a10, a15⟩, ⟨b1, b2, b3⟩, -⟩ := id h
  obtain ⟨n, hn, en, hz⟩ := at_nI h a (by omega)
  obtain ⟨c, hc, ec, -⟩ := at_nI h (a + 1) (by omega)
  obtain ⟨g1, g2, g3, g4, g5, g6⟩ := r64 n hn
  have hget : fX2_get S (S.1 11) = nI n := by rw [e11, get_eq h, en]
  rw [fX3_advance, fX8_look, hget, en, e11]
  by_cases c0 : n = 0
  · left
    have q : nI n = 0 := g6.mpr c0
    rw [if_pos q, if_pos q]
    by_cases c1 : (4096 : Int32) ≤ nI a
    · rw [if_pos c1]; exact ⟨rfl, rfl⟩
    · rw [if_neg c1]; exact ⟨rfl, rfl⟩
  right
  have ha4 : a < 4096 := by
    rcases Nat.lt_or_ge a 4096 with q | q
    · exact q
    · exact absurd (hz q) c0
  have c0' : ¬ nI n = 0 := fun q => c0 (g6.mp q)
  have c1 : ¬ (4096 : Int32) ≤ nI a := nI_ge (a := a) (b := 4096) ha4 (by omega)
  rw [if_neg c0', if_neg c0', if_neg c1]
  have e1 : nI a + (1 : Int32) = nI (a + 1) := nI_1 a
  have e2 : nI a + (2 : Int32) = nI (a + 2) := nI_add a 2
  rw [e1, e2, ec]
  have hmod64 : n % 64 < 64 := Nat.mod_lt _ (by omega)
  cases w with
  | false =>
    have b2 : T.1 2 = 0 := b2
    have a10 : S.1 10 = 0 := a10
    rw [if_pos a10, if_pos b2]
    obtain ⟨f1, f2⟩ := r32 n hn
    have hs : fX3_sizeByLastByte (pS (pS S 12 (nI n - nI n / 32 * 32)) 14 (nI (a + 1))) (nI n) = nI (n / 32 + 1) := by
      rw [fX3_sizeByLastByte, if_pos (show (pS (pS S 12 (nI n - nI n / 32 * 32)) 14 (nI (a + 1))).1 10 = 0 from a10), f2]
    refine ⟨n % 32, n / 32 + 1, a + 1, ha4, by omega, by omega, by omega, by omega, by omega, ?_, ?_⟩
    · rw [hs, f1, nI_add]
    · rw [f1, f2]
  | true =>
    have b2 : T.1 2 = 1 := b2
    have a10 : S.1 10 = 1 := a10
    have na10 : ¬ S.1 10 = 0 := by rw [a10]; decide
    rw [if_neg na10, if_neg (show ¬ T.1 2 = 0 by rw [b2]; decide)]
    by_cases c2 : n < 128
    · rw [if_pos (g4.mpr c2), if_neg (fun q => absurd (g3.mp q) (by omega))]
      have hs : fX3_sizeByLastByte (pS (pS S 12 (nI n - nI n / 64 * 64)) 14 (nI (a + 1))) (nI n) = nI (n / 64 + 1) := by
        rw [fX3_sizeByLastByte, if_neg (show ¬ (pS (pS S 12 (nI n - nI n / 64 * 64)) 14 (nI (a + 1))).1 10 = 0 from na10), if_neg (fun q => absurd (g3.mp q) (by omega)), ← b64 n c2, g2 c2]
      refine ⟨n % 64, n / 64 + 1, a + 1, ha4, by omega, by omega, by omega, by omega, by omega, ?_, ?_⟩
      · rw [hs, g1, nI_add]
      · rw [g1, g2 c2]
    · rw [if_neg (fun q => c2 (g4.mp q)), if_pos (g3.mpr (by omega))]
      obtain ⟨k1, k2⟩ := o128 c hc
      obtain ⟨m1, -⟩ := r64 c hc
      have hgc : fX2_get (pS (pS S 12 (nI n - nI n / 64 * 64)) 14 (nI (a + 2))) (nI (a + 1)) = nI c := by
        rw [← ec, ← get_eq h]; rfl
      have hs : fX3_sizeByLastByte (pS (pS S 12 (nI n - nI n / 64 * 64)) 14 (nI (a + 2))) (nI c ||| 128) = if c % 64 = 0 then nI 64 else nI (c % 64) := by
        rw [fX3_sizeByLastByte, if_neg (show ¬ (pS (pS S 12 (nI n - nI n / 64 * 64)) 14 (nI (a + 2))).1 10 = 0 from na10), if_pos k1, k2]
        by_cases q : c % 64 = 0
        · rw [if_pos q, if_pos ((z64 _ (Nat.mod_lt _ (by omega))).mpr q)]; rfl
        · rw [if_neg q, if_neg (fun z => q ((z64 _ (Nat.mod_lt _ (by omega))).mp z))]
      rw [hgc, hs, m1]
      by_cases q : c % 64 = 0
      · rw [if_pos q, if_pos ((z64 _ (Nat.mod_lt _ (by omega))).mpr q)]
        refine ⟨n % 64, 64, a + 2, ha4, by omega, by omega, by omega, by omega, by omega, ?_, ?_⟩
        · rw [g1, nI_add]
        · rw [g1]; rfl
      · rw [if_neg q, if_neg (fun z => q ((z64 _ (Nat.mod_lt _ (by omega))).mp z))]
        refine ⟨n % 64, c % 64, a + 2, ha4, by omega, by omega, by omega, by omega, by omega, ?_, ?_⟩
        · rw [g1, nI_add]
        · rw [g1]
theorem eqX_pS {S : XS} {k : Nat} {x : Int32} (hk : 10 < k) (hk2 : k ≠ 15) : eqX S (pS S k x) := by
  refine ⟨fun j hj => ?_, ?_, rfl, rfl⟩
  · show upd S.1 k x j = S.1 j
    unfold upd; rw [if_neg (by omega)]
  · show upd S.1 k x 15 = S.1 15
    unfold upd; rw [if_neg (fun q => hk2 q.symm)]
theorem eqM_pS {T : XS} {k : Nat} {x : Int32} (hk : 8 < k) : eqM T (pS T k x) := by
  refine ⟨fun j hj => ?_, rfl, rfl⟩
  show upd T.1 k x j = T.1 j
  unfold upd; rw [if_neg (by omega)]
theorem eqX_rf (S : XS) : eqX S S := ⟨fun _ _ => rfl, rfl, rfl, rfl⟩
theorem eqM_rf (S : XS) : eqM S S := ⟨fun _ _ => rfl, rfl, rfl⟩
theorem eqX.tr {S S1 S2 : XS} (h : eqX S S1) (g : eqX S1 S2) : eqX S S2 := ⟨fun k hk => (g.1 k hk).trans (h.1 k hk), g.2.1.trans h.2.1, g.2.2.1.trans h.2.2.1, g.2.2.2.trans h.2.2.2⟩
theorem eqM.tr {S S1 S2 : XS} (h : eqM S S1) (g : eqM S1 S2) : eqM S S2 := ⟨fun k hk => (g.1 k hk).trans (h.1 k hk), g.2.1.trans h.2.1, g.2.2.trans h.2.2⟩
theorem rel_step {w : Bool} {v : Int32} {S T : XS} (h : Rel w v S T) (n s d e : Int32) : Rel w v (pS (pS (pS (pS S 12 n) 14 d) 13 s) 11 e) (pS (pS (pS T 9 n) 10 s) 11 d) :=
  h.keep ((((eqX_pS (by omega) (by omega)).tr (eqX_pS (by omega) (by omega))).tr (eqX_pS (by omega) (by omega))).tr (eqX_pS (by omega) (by omega))) (((eqM_pS (by omega)).tr (eqM_pS (by omega))).tr (eqM_pS (by omega)))
/-- what both hold behind a found property -/
def Fnd (U V : XS) : Prop := ∃ (nm sz dt : Nat), nm < 64 ∧ 1 ≤ sz ∧ sz ≤ 64 ∧ dt ≤ 4098 ∧ U.1 12 = nI nm ∧ U.1 13 = nI sz ∧ U.1 14 = nI dt ∧ U.1 11 = nI (dt + sz) ∧ V.1 9 = nI nm ∧ V.1 10 = nI sz ∧ V.1 11 = nI dt
theorem findL {w : Bool} {v : Int32} (o x : Int32) : ∀ (m i a f f' : Nat) (S T : XS), Rel w v S T → S.1 11 = nI a → a < 2 ^ 18 → 4097 ≤ i + m → i ≤ a → i ≤ 4096 → m ≤ f → m ≤ f' → ∃ (b : Bool) (U V : XS), fX3_find_L f S x (nI i) = some (b, U) ∧ fX8_find_L f' T o x (nI a) = some (b, V) ∧ Rel w v U V ∧ (b = true → Fnd U V) := by
  intro m
  induction m with
  | zero => intro i a f f' S T h e ha h1 h2 h3; omega
  | succ m ih =>
    intro i a f f' S T h e ha h1 h2 h3 hf hf'
    obtain ⟨f, rfl⟩ : ∃ g, f = g + 1 := ⟨f - 1, by omega⟩
    obtain ⟨f', rfl⟩ : ∃ g, f' = g + 1 := ⟨f' - 1, by omega⟩
    rw [fX3_find_L, fX8_find_L]
    have k1 := cmp_i (i := i) (by omega) 4096 (by omega)
    rcases adv_look h a (by omega) e with ⟨e1, e2⟩ | ⟨nm, sz, dt, q1, q2, q3, q4, q5, q6, e1, e2⟩
    · rw [e1, e2]
      by_cases c1 : (4096 : Int32) ≤ nI i
      · rw [if_pos c1]
        exact ⟨false, S, T, rfl, rfl, h, fun q => by cases q⟩
      · rw [if_neg c1]
        exact ⟨false, S, T, rfl, rfl, h, fun q => by cases q⟩
    · have c1 : ¬ (4096 : Int32) ≤ nI i := fun q => by have := k1.2.mp q; omega
      rw [if_neg c1, e1, e2]
      have hR := rel_step h (nI nm) (nI sz) (nI dt) (nI (dt + sz))
      show ∃ b U V, (if nI nm = x then some (true, pS (pS (pS (pS S 12 (nI nm)) 14 (nI dt)) 13 (nI sz)) 11 (nI (dt + sz))) else fX3_find_L f (pS (pS (pS (pS S 12 (nI nm)) 14 (nI dt)) 13 (nI sz)) 11 (nI (dt + sz))) x (nI i + 1)) = some (b, U) ∧ (if nI nm = x then some (true, pS (pS (pS T 9 (nI nm)) 10 (nI sz)) 11 (nI dt)) else fX8_find_L f' (pS (pS (pS T 9 (nI nm)) 10 (nI sz)) 11 (nI dt)) o x (nI dt + nI sz)) = some (b, V) ∧ _
      by_cases c2 : nI nm = x
      · rw [if_pos c2, if_pos c2]
        exact ⟨true, _, _, rfl, rfl, hR, fun _ => ⟨nm, sz, dt, q2, q3, q4, by omega, rfl, rfl, rfl, rfl, rfl, rfl, rfl⟩⟩
      · rw [if_neg c2, if_neg c2, nI_add, show nI i + (1 : Int32) = nI (i + 1) from nI_1 i]
        exact ih (i + 1) (dt + sz) f f' _ _ hR rfl (by omega) (by omega) (by omega) (by omega) (by omega) (by omega)
theorem word_rng {w : Bool} {v : Int32} {S T : XS} (h : Rel w v S T) (a : Int32) : ∃ n, n < 65536 ∧ fX8_word T a = nI n := by
  obtain ⟨x, hx, e1⟩ := at_rng h a
  obtain ⟨y, hy, e2⟩ := at_rng h (a + 1)
  refine ⟨256 * x + y, by omega, ?_⟩
  rw [fX8_word, e1, e2, show (256 : Int32) = nI 256 from rfl, pk_mul, nI_add]
theorem first_eq {w : Bool} {v : Int32} {S T : XS} (h : Rel w v S T) (o : Int32) : ∃ a, a < 2 ^ 17 ∧ fX8_firstOf T o = nI a ∧ Rel w v (fX3_begin S (fX0_table S o)) T ∧ (fX3_begin S (fX0_table S o)).1 11 = nI a := by
  obtain ⟨n, hn, en⟩ := word_rng h (fX8_tableAt T o)
  obtain ⟨c, hc, ec⟩ := at_rng h (nI n)
  have e : fX8_firstOf T o = nI (n + 1 + 2 * c) := by
    rw [fX8_firstOf, en, ec, show (2 : Int32) = nI 2 from rfl, pk_mul, show nI n + (1 : Int32) = nI (n + 1) from nI_1 n, nI_add]
  refine ⟨n + 1 + 2 * c, by omega, e, h.keep (eqX_pS (by omega) (by omega)) (eqM_rf T), ?_⟩
  show (fX0_table S o + 1) + 2 * fX2_get S (fX0_table S o) = _
  rw [table_eq h, get_eq h, ← e, fX8_firstOf]
theorem find_eq {w : Bool} {v : Int32} {S T : XS} (h : Rel w v S T) (o x : Int32) : ∃ (b : Bool) (U V : XS), fX3_find (fX3_begin S (fX0_table S o)) x = some (b, U) ∧ fX8_find T o x = some (b, V) ∧ Rel w v U V ∧ (b = true → Fnd U V) := by
  obtain ⟨a, ha, e1, e2, e3⟩ := first_eq h o
  rw [fX3_find, fX8_find, e1]
  exact findL o x 4097 0 a 4098 5000 _ _ e2 e3 (by omega) (by omega) (by omega) (by omega) (by omega) (by omega)
theorem refuse_eq {w : Bool} {v : Int32} {S T : XS} (h : Rel w v S T) (x1 x2 lo : Int32) : fX7_refuse S x1 x2 lo = (if bI (fX8_isObject T x1) = 0 then (-1 : Int32) else if x2 < lo then -2 else if x2 ≤ T.1 3 then 0 else -2) := by
  rw [fX7_refuse, has_eq h, h.2.1.1, h.2.2.1.2.2]
theorem defAt (x : Int32) : fX7_defaultAt x = (254 : Int32) + (2 : Int32) * x := by rw [fX7_defaultAt]; grind
theorem nI12 {sz : Nat} (h : sz ≤ 64) : (nI sz = 1 ↔ sz = 1) ∧ (nI sz = 2 ↔ sz = 2) ∧ (nI sz ≤ 2 ↔ sz ≤ 2) := ⟨nI_eq (b := 1) (by omega) (by omega), nI_eq (b := 2) (by omega) (by omega), nI_leI (b := 2) (by omega) (by omega)⟩
theorem op_property {w : Bool} {v : Int32} {S T : XS} (h : Rel w v S T) (x1 : Int32) (x2 : Int32) : ∃ (u t : Int32 × XS), fX7_property S x1 x2 = some u ∧ fX8_property T x1 x2 = some t ∧ u.1 = t.1 ∧ Rel w v u.2 t.2 := by
  rw [fX7_property, fX8_property, refuse_eq h, fX7_findProperty, defAt]
  by_cases c1 : bI (fX8_isObject T x1) = 0
  · rw [if_pos c1, if_pos c1, if_neg (by decide)]; exact ⟨_, _, rfl, rfl, rfl, h⟩
  rw [if_neg c1, if_neg c1]
  by_cases c2 : x2 < 1
  · rw [if_pos c2, if_pos c2, if_neg (by decide)]; exact ⟨_, _, rfl, rfl, rfl, h⟩
  rw [if_neg c2, if_neg c2]
  by_cases c3 : x2 ≤ T.1 3
  · rw [if_pos c3, if_pos c3, if_pos rfl]
    obtain ⟨b, U, V, e1, e2, hR, hF⟩ := find_eq h x1 x2
    rw [e1, e2]
    cases b with
    | false => exact ⟨_, _, rfl, rfl, word_eq hR _, hR⟩
    | true =>
      obtain ⟨nm, sz, dt, q1, q2, q3, q4, u1, u2, u3, u4, v1, v2, v3⟩ := hF rfl
      obtain ⟨k1, k2, k3⟩ := nI12 q3
      show ∃ u t, (if U.1 13 = 1 then some (fX2_get U (U.1 14), U) else if U.1 13 = 2 then some (fX2_word U (U.1 14), U) else some (-3, U)) = some u ∧ (if V.1 10 = 1 then some (fX8_at V (V.1 11), V) else if V.1 10 = 2 then some (fX8_word V (V.1 11), V) else some (-3, V)) = some t ∧ _
      rw [u2, u3, v2, v3]
      by_cases c4 : nI sz = 1
      · rw [if_pos c4, if_pos c4]; exact ⟨_, _, rfl, rfl, get_eq hR _, hR⟩
      rw [if_neg c4, if_neg c4]
      by_cases c5 : nI sz = 2
      · rw [if_pos c5, if_pos c5]; exact ⟨_, _, rfl, rfl, word_eq hR _, hR⟩
      · rw [if_neg c5, if_neg c5]; exact ⟨_, _, rfl, rfl, rfl, hR⟩
  · rw [if_neg c3, if_neg c3, if_neg (by decide)]; exact ⟨_, _, rfl, rfl, rfl, h⟩
theorem op_put {w : Bool} {v : Int32} {S T : XS} (h : Rel w v S T) (x1 : Int32) (x2 : Int32) (x3 : Int32) : ∃ (u t : Int32 × XS), fX7_put S x1 x2 x3 = some u ∧ fX8_put T x1 x2 x3 = some t ∧ u.1 = t.1 ∧ Rel w v u.2 t.2 := by
  rw [fX7_put, fX8_put, refuse_eq h, fX7_findProperty]
  by_cases c1 : bI (fX8_isObject T x1) = 0
  · rw [if_pos c1, if_pos c1, if_neg (by decide)]; exact ⟨_, _, rfl, rfl, rfl, h⟩
  rw [if_neg c1, if_neg c1]
  by_cases c2 : x2 < 1
  · rw [if_pos c2, if_pos c2, if_neg (by decide)]; exact ⟨_, _, rfl, rfl, rfl, h⟩
  rw [if_neg c2, if_neg c2]
  by_cases c3 : x2 ≤ T.1 3
  · rw [if_pos c3, if_pos c3, if_pos rfl]
    obtain ⟨b, U, V, e1, e2, hR, hF⟩ := find_eq h x1 x2
    rw [e1, e2]
    cases b with
    | false => exact ⟨_, _, rfl, rfl, rfl, hR⟩
    | true =>
      obtain ⟨nm, sz, dt, q1, q2, q3, q4, u1, u2, u3, u4, v1, v2, v3⟩ := hF rfl
      obtain ⟨k1, k2, k3⟩ := nI12 q3
      show ∃ u t, (if U.1 13 = 1 then some (1, fX2_set U (U.1 14) x3) else if U.1 13 = 2 then some (1, fX2_setWord U (U.1 14) x3) else some (-3, U)) = some u ∧ (if V.1 10 ≤ 2 then (if V.1 10 = 1 then some (1, fX8_set V (V.1 11) x3) else some (1, fX8_setWord V (V.1 11) x3)) else some (-3, V)) = some t ∧ _
      rw [u2, u3, v2, v3]
      by_cases c4 : sz = 1
      · rw [if_pos (k1.mpr c4), if_pos (k3.mpr (by omega)), if_pos (k1.mpr c4)]; exact ⟨_, _, rfl, rfl, rfl, set_rel hR _ _⟩
      by_cases c5 : sz = 2
      · rw [if_neg (fun q => c4 (k1.mp q)), if_pos (k2.mpr c5), if_pos (k3.mpr (by omega)), if_neg (fun q => c4 (k1.mp q))]; exact ⟨_, _, rfl, rfl, rfl, setWord_rel hR _ _⟩
      · rw [if_neg (fun q => c4 (k1.mp q)), if_neg (fun q => c5 (k2.mp q)), if_neg (fun q => absurd (k3.mp q) (by omega))]; exact ⟨_, _, rfl, rfl, rfl, hR⟩
  · rw [if_neg c3, if_neg c3, if_neg (by decide)]; exact ⟨_, _, rfl, rfl, rfl, h⟩
theorem op_address {w : Bool} {v : Int32} {S T : XS} (h : Rel w v S T) (x1 : Int32) (x2 : Int32) : ∃ (u t : Int32 × XS), fX7_address S x1 x2 = some u ∧ fX8_address T x1 x2 = some t ∧ u.1 = t.1 ∧ Rel w v u.2 t.2 := by
  rw [fX7_address, fX8_address, refuse_eq h, fX7_findProperty]
  by_cases c1 : bI (fX8_isObject T x1) = 0
  · rw [if_pos c1, if_pos c1, if_neg (by decide)]; exact ⟨_, _, rfl, rfl, rfl, h⟩
  rw [if_neg c1, if_neg c1]
  by_cases c2 : x2 < 1
  · rw [if_pos c2, if_pos c2, if_neg (by decide)]; exact ⟨_, _, rfl, rfl, rfl, h⟩
  rw [if_neg c2, if_neg c2]
  by_cases c3 : x2 ≤ T.1 3
  · rw [if_pos c3, if_pos c3, if_pos rfl]
    obtain ⟨b, U, V, e1, e2, hR, hF⟩ := find_eq h x1 x2
    rw [e1, e2]
    cases b with
    | false => exact ⟨_, _, rfl, rfl, rfl, hR⟩
    | true =>
      obtain ⟨nm, sz, dt, q1, q2, q3, q4, u1, u2, u3, u4, v1, v2, v3⟩ := hF rfl
      exact ⟨_, _, rfl, rfl, u3.trans v3.symm, hR⟩
  · rw [if_neg c3, if_neg c3, if_neg (by decide)]; exact ⟨_, _, rfl, rfl, rfl, h⟩
theorem step_out {w : Bool} {v : Int32} {S T : XS} (h : Rel w v S T) (a : Nat) (ha : a < 2 ^ 20) (e11 : S.1 11 = nI a) : ∃ (u t : Int32 × XS), (if bI (fX3_advance S).1 = 0 then some ((0 : Int32), (fX3_advance S).2) else some (fX3_number (fX3_advance S).2, (fX3_advance S).2)) = some u ∧ (if bI (fX8_look T (nI a)).1 = 0 then some ((0 : Int32), (fX8_look T (nI a)).2) else some ((fX8_look T (nI a)).2.1 9, (fX8_look T (nI a)).2)) = some t ∧ u.1 = t.1 ∧ Rel w v u.2 t.2 := by
  rcases adv_look h a ha e11 with ⟨e1, e2⟩ | ⟨nm, sz, dt, q1, q2, q3, q4, q5, q6, e1, e2⟩
  · rw [e1, e2]; exact ⟨_, _, rfl, rfl, rfl, h⟩
  · rw [e1, e2]; exact ⟨_, _, rfl, rfl, rfl, rel_step h _ _ _ _⟩
theorem op_next {w : Bool} {v : Int32} {S T : XS} (h : Rel w v S T) (x1 : Int32) (x2 : Int32) : ∃ (u t : Int32 × XS), fX7_next S x1 x2 = some u ∧ fX8_next T x1 x2 = some t ∧ u.1 = t.1 ∧ Rel w v u.2 t.2 := by
  rw [fX7_next, fX8_next, refuse_eq h]
  by_cases c1 : bI (fX8_isObject T x1) = 0
  · rw [if_pos c1, if_pos c1, if_neg (by decide)]; exact ⟨_, _, rfl, rfl, rfl, h⟩
  rw [if_neg c1, if_neg c1]
  by_cases c2 : x2 < 0
  · rw [if_pos c2, if_pos c2, if_neg (by decide)]; exact ⟨_, _, rfl, rfl, rfl, h⟩
  rw [if_neg c2, if_neg c2]
  by_cases c3 : x2 ≤ T.1 3
  · rw [if_pos c3, if_pos c3, if_pos rfl]
    by_cases c4 : x2 = 0
    · rw [if_pos c4, if_pos (show x2 ≤ 0 by rw [c4]; decide), if_pos c4]
      obtain ⟨a, ha, e1, e2, e3⟩ := first_eq h x1
      rw [e1]
      exact step_out e2 a (by omega) e3
    · rw [if_neg c4, if_neg (show ¬ x2 ≤ 0 from fun q => by grind)]
      obtain ⟨b, U, V, e1, e2, hR, hF⟩ := find_eq h x1 x2
      rw [e1, e2]
      cases b with
      | false => exact ⟨_, _, rfl, rfl, rfl, hR⟩
      | true =>
        obtain ⟨nm, sz, dt, q1, q2, q3, q4, u1, u2, u3, u4, v1, v2, v3⟩ := hF rfl
        have e3 := step_out hR (dt + sz) (by omega) u4
        show ∃ u t, (if bI (fX3_advance U).1 = 0 then some ((0 : Int32), (fX3_advance U).2) else some (fX3_number (fX3_advance U).2, (fX3_advance U).2)) = some u ∧ (if x2 = 0 then _ else (if bI (fX8_look V (V.1 11 + V.1 10)).1 = 0 then some ((0 : Int32), (fX8_look V (V.1 11 + V.1 10)).2) else some ((fX8_look V (V.1 11 + V.1 10)).2.1 9, (fX8_look V (V.1 11 + V.1 10)).2))) = some t ∧ _
        rw [if_neg c4, v2, v3, nI_add]
        exact e3
  · rw [if_neg c3, if_neg c3, if_neg (by decide)]; exact ⟨_, _, rfl, rfl, rfl, h⟩
