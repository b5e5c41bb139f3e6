/-! the walk over what is within an object: two piles, one order -/
def um (f : Nat → Int32) : Nat → Nat
  | 0 => 0
  | k + 1 => um f k + (if f (k + 1) = 0 then 1 else 0)
theorem um_out {f : Nat → Int32} {o : Nat} {x : Int32} : ∀ N, N < o → um (upd f o x) N = um f N := by
  intro N
  induction N with
  | zero => intro _; rfl
  | succ N ih =>
    intro h
    show um (upd f o x) N + (if upd f o x (N + 1) = 0 then 1 else 0) = um f N + _
    rw [ih (by omega)]
    unfold upd
    rw [if_neg (show ¬ N + 1 = o by omega)]
theorem um_in {f : Nat → Int32} {o : Nat} (ho : 1 ≤ o) (hf : f o = 0) : ∀ N, o ≤ N → um (upd f o 1) N + 1 = um f N := by
  intro N
  induction N with
  | zero => intro h; omega
  | succ N ih =>
    intro h
    show um (upd f o 1) N + (if upd f o 1 (N + 1) = 0 then 1 else 0) + 1 = um f N + (if f (N + 1) = 0 then 1 else 0)
    by_cases e : N + 1 = o
    · rw [um_out N (by omega), show upd f o 1 (N + 1) = 1 from by unfold upd; rw [if_pos e], if_neg (by decide), e, if_pos hf]
    · have h2 := ih (by omega)
      rw [show upd f o 1 (N + 1) = f (N + 1) from by unfold upd; rw [if_neg e]]
      omega
theorem um_le (f : Nat → Int32) : ∀ N, um f N ≤ N := by
  intro N
  induction N with
  | zero => exact Nat.le_refl _
  | succ N ih =>
    show um f N + (if f (N + 1) = 0 then 1 else 0) ≤ N + 1
    split <;> omega
theorem um_pos {f : Nat → Int32} {o : Nat} (ho : 1 ≤ o) (hf : f o = 0) {N : Nat} (h : o ≤ N) : 1 ≤ um f N := by
  have := um_in ho hf N h; omega
theorem gd_ok {a n : Nat} (h : a < n) (hn : n < 2 ^ 31) : gd (nI a) n = some () := by rw [gd, if_neg (nI_in h hn)]
theorem nz1 : vp_nar .boolean (1 : Int32) = 1 := by decide
theorem nz0 : vp_nar .boolean (0 : Int32) = 0 := by decide
theorem upd_at {f : Nat → Int32} {a : Nat} (ha : a < 2 ^ 31) (x : Int32) : upd f (nI a).toNatClampNeg x = upd f a x := by rw [nI_clamp ha]
theorem pA_same {S : XS} {j : Nat} {i x : Int32} : (pA S j i x).2 j = upd (S.2 j) i.toNatClampNeg x := by
  show (if j = j then _ else _) = _
  rw [if_pos rfl]
theorem pA_oth {S : XS} {j q : Nat} {i x : Int32} (h : q ≠ j) : (pA S j i x).2 q = S.2 q := by
  show (if q = j then _ else _) = _
  rw [if_neg h]
theorem eqX_pA {S : XS} {j : Nat} {i x : Int32} (h0 : j ≠ 0) (h4 : j ≠ 4) : eqX S (pA S j i x) := ⟨fun _ _ => rfl, rfl, pA_oth h0.symm, pA_oth h4.symm⟩
theorem eqM_pA {S : XS} {j : Nat} {i x : Int32} (h0 : j ≠ 0) (h4 : j ≠ 1) : eqM S (pA S j i x) := ⟨fun _ _ => rfl, pA_oth h0.symm, pA_oth h4.symm⟩
/-- at the reference's head: the pile is empty -/
theorem mEnd {T : XS} {y1 y2 : Int32} {f n : Nat} : fX8_within_L (f + 1) 69 T y1 y2 (nI n) (nI 0) = if nI n ≤ y2 then some ((0 : Int32), T) else ob (gd y2 101) (fun _ => some (T.2 5 y2.toNatClampNeg, T)) := by
  rw [fX8_within_L, if_neg (by decide), if_pos (by decide)]
theorem mPop {T : XS} {y1 y2 y3 : Int32} {f d : Nat} (hd : d < 102) (hx : fX8_isObject T (T.2 6 d) = false ∨ ∃ o, o ≤ 100 ∧ T.2 6 d = nI o ∧ ¬ T.2 4 o = 0) : fX8_within_L (f + 1) 69 T y1 y2 y3 (nI (d + 1)) = fX8_within_L f 69 T y1 y2 y3 (nI d) := by
  rw [fX8_within_L, if_neg (by decide), if_neg (show ¬ nI (d + 1) ≤ 0 from nI_nle (by omega) (by omega)), show nI (d + 1) - (1 : Int32) = nI d from nI_pred d, show nI (d + 1) + (-1 : Int32) = nI d from pk_m1 d, gd_ok hd (by omega), cl_nI (by omega)]
  show (if bI (fX8_isObject T (T.2 6 d)) = 0 then _ else _) = _
  by_cases c : bI (fX8_isObject T (T.2 6 d)) = 0
  · rw [if_pos c]
  rw [if_neg c]
  rcases hx with hx | ⟨o, ho, e, hm⟩
  · exact absurd (by rw [hx]; rfl) c
  · rw [e, gd_ok (show o < 101 by omega) (by omega)]
    show (if T.2 4 (nI o).toNatClampNeg = 0 then _ else _) = _
    rw [cl_nI (by omega), if_neg hm]
def mStar (T : XS) (n d o : Nat) : XS := pA (pA (pA (pA T 4 (nI o) 1) 5 (nI n) (nI o)) 6 (nI d) (fX8_link T (nI o) 1)) 6 (nI (d + 1)) (fX8_link T (nI o) 2)
theorem mEnter {T : XS} {y1 y2 : Int32} {f n d o : Nat} (hd : d < 101) (hn : n < 101) (ho : o ≤ 100) (e : T.2 6 d = nI o) (hob : fX8_isObject T (nI o) = true) (hm : T.2 4 o = 0) : fX8_within_L (f + 1) 69 T y1 y2 (nI n) (nI (d + 1)) = fX8_within_L f 69 (mStar T n d o) y1 y2 (nI (n + 1)) (nI (d + 2)) := by
  rw [fX8_within_L, if_neg (by decide), if_neg (show ¬ nI (d + 1) ≤ 0 from nI_nle (by omega) (by omega)), show nI (d + 1) - (1 : Int32) = nI d from nI_pred d, gd_ok (show d < 102 by omega) (by omega), cl_nI (by omega), e, gd_ok (show o < 101 by omega) (by omega), gd_ok hn (by omega), gd_ok (show d + 1 < 102 by omega) (by omega), cl_nI (by omega), hob, nz1, show nI n + (1 : Int32) = nI (n + 1) from nI_1 n, show nI (d + 1) + (1 : Int32) = nI (d + 2) from nI_1 (d + 1)]
  show (if T.2 4 o = 0 then _ else _) = _
  rw [if_pos hm]
  rfl
theorem star4 {T : XS} {n d o : Nat} (ho : o < 2 ^ 31) : (mStar T n d o).2 4 = upd (T.2 4) o 1 := by
  rw [mStar, pA_oth (by omega), pA_oth (by omega), pA_oth (by omega), pA_same, upd_at ho]
theorem star5 {T : XS} {n d o : Nat} (hn : n < 2 ^ 31) : (mStar T n d o).2 5 = upd (T.2 5) n (nI o) := by
  rw [mStar, pA_oth (by omega), pA_oth (by omega), pA_same, upd_at hn, pA_oth (by omega)]
theorem star6 {T : XS} {n d o : Nat} (hd : d < 2 ^ 30) : (mStar T n d o).2 6 = upd (upd (T.2 6) d (fX8_link T (nI o) 1)) (d + 1) (fX8_link T (nI o) 2) := by
  rw [mStar, pA_same, upd_at (by omega), pA_same, upd_at (by omega), pA_oth (by omega), pA_oth (by omega)]
theorem star_eqM {T : XS} {n d o : Nat} : eqM T (mStar T n d o) := (((eqM_pA (by omega) (by omega)).tr (eqM_pA (by omega) (by omega))).tr (eqM_pA (by omega) (by omega))).tr (eqM_pA (by omega) (by omega))
theorem obj_eqM {T T1 : XS} (h : eqM T T1) (x : Int32) : fX8_isObject T1 x = fX8_isObject T x := by
  rw [fX8_isObject, fX8_isObject, h.1 7 (by omega)]
theorem at_eqM {T T1 : XS} (h : eqM T T1) (a : Int32) : fX8_at T1 a = fX8_at T a := by
  rw [fX8_at, fX8_at, h.2.1]
theorem link_eqM {T T1 : XS} (h : eqM T T1) (x q : Int32) : fX8_link T1 x q = fX8_link T x q := by
  rw [fX8_link, fX8_link, fX8_entry, fX8_entry, h.1 2 (by omega), h.1 3 (by omega), fX8_word, fX8_word, at_eqM h, at_eqM h, at_eqM h]
theorem obj_rng {T : XS} {N : Nat} (hN : T.1 7 = nI N) (hN2 : N ≤ 100) {x : Int32} (hx : fX8_isObject T x = true) : ∃ o, 1 ≤ o ∧ o ≤ N ∧ x = nI o := by
  rw [fX8_isObject, hN] at hx
  by_cases c1 : x < 1
  · rw [if_pos c1] at hx; cases hx
  rw [if_neg c1] at hx
  by_cases c2 : nI N < x
  · rw [if_pos c2] at hx; cases hx
  have h1 : ¬ x < 0 := fun q => c1 (by grind)
  obtain ⟨o, ho, rfl⟩ := nI_of h1
  have a1 : ¬ o < 1 := fun q => c1 (nI_lt (a := o) (b := 1) q (by omega))
  have a2 : ¬ N < o := fun q => c2 (nI_lt q ho)
  exact ⟨o, by omega, by omega, rfl⟩
/-- what the top of the pile is: to be popped, or to be entered -/
theorem topCase {T : XS} {N : Nat} (hN : T.1 7 = nI N) (hN2 : N ≤ 100) (x : Int32) : (fX8_isObject T x = false ∨ ∃ o, 1 ≤ o ∧ o ≤ N ∧ x = nI o ∧ ¬ T.2 4 o = 0) ∨ (∃ o, 1 ≤ o ∧ o ≤ N ∧ x = nI o ∧ fX8_isObject T (nI o) = true ∧ T.2 4 o = 0) := by
  cases hx : fX8_isObject T x with
  | false => exact Or.inl (Or.inl rfl)
  | true =>
    obtain ⟨o, h1, h2, rfl⟩ := obj_rng hN hN2 hx
    by_cases c : T.2 4 o = 0
    · exact Or.inr ⟨o, h1, h2, rfl, hx, c⟩
    · exact Or.inl (Or.inr ⟨o, h1, h2, rfl, c⟩)
/-- the reference goes on to its end when the answer stands already -/
theorem finM {T0 : XS} {N k : Nat} (hN : T0.1 7 = nI N) (hN2 : N ≤ 100) (y1 : Int32) : ∀ (m d n u f : Nat) (T : XS), m = 2 * u + d → d + u ≤ 100 → n + u ≤ 101 → um (T.2 4) N = u → eqM T0 T → m + 1 ≤ f → k < n → k < 101 → ∃ T1, fX8_within_L f 69 T y1 (nI k) (nI n) (nI d) = some (T.2 5 k, T1) ∧ eqM T0 T1 := by
  intro m
  induction m with
  | zero =>
    intro d n u f T hm hd hn hu hE hf hk hk2
    obtain ⟨f, rfl⟩ : ∃ g, f = g + 1 := ⟨f - 1, by omega⟩
    obtain rfl : d = 0 := by omega
    rw [mEnd, if_neg (nI_ge hk (by omega)), gd_ok hk2 (by omega)]
    refine ⟨T, ?_, hE⟩
    show some (T.2 5 (nI k).toNatClampNeg, T) = _
    rw [cl_nI (by omega)]
  | succ m ih =>
    intro d n u f T hm hd hn hu hE hf hk hk2
    obtain ⟨f, rfl⟩ : ∃ g, f = g + 1 := ⟨f - 1, by omega⟩
    cases d with
    | zero =>
      rw [mEnd, if_neg (nI_ge hk (by omega)), gd_ok hk2 (by omega)]
      refine ⟨T, ?_, hE⟩
      show some (T.2 5 (nI k).toNatClampNeg, T) = _
      rw [cl_nI (by omega)]
    | succ d =>
      have hN' : T.1 7 = nI N := by rw [hE.1 7 (by omega)]; exact hN
      rcases topCase hN' hN2 (T.2 6 d) with hp | ⟨o, o1, o2, e, hob, hm0⟩
      · rw [mPop (by omega) (hp.elim Or.inl (fun ⟨o, o1, o2, e, q⟩ => Or.inr ⟨o, by omega, e, q⟩))]
        exact ih d n u f T (by omega) (by omega) hn hu hE (by omega) hk hk2
      · have hup := um_pos o1 hm0 o2
        have hui := um_in o1 hm0 N o2
        rw [mEnter (by omega) (by omega) (by omega) e hob hm0]
        obtain ⟨T1, g1, g2⟩ := ih (d + 2) (n + 1) (u - 1) f (mStar T n d o) (by omega) (by omega) (by omega) (by rw [star4 (by omega)]; omega) (hE.tr star_eqM) (by omega) (by omega) hk2
        refine ⟨T1, ?_, g2⟩
        rw [g1, star5 (by omega)]
        congr 2
        unfold upd
        rw [if_neg (by omega)]
theorem xStay {S : XS} {y1 y2 y3 : Int32} {f d st : Nat} {at' : Int32} (hst : st ≤ 200) (hd : d < 100) (hx : fX0_has S at' = false ∨ ∃ o, o ≤ 100 ∧ at' = nI o ∧ ¬ S.2 2 o = 0) : fX6_met_L (f + 1) S y1 y2 y3 (nI (d + 1)) at' (nI st) = if 0 < d then fX6_met_L f S y1 y2 y3 (nI d) (fX0_link S (S.2 1 d) 1) (nI (st + 1)) else some ((0 : Int32), S) := by
  have c0 : ¬ (200 : Int32) < nI st := fun q => by have := (cmp_i (i := st) (by omega) 200 (by omega)).1.mp q; omega
  rw [fX6_met_L, if_neg c0, show nI (d + 1) + (-1 : Int32) = nI d from pk_m1 d, gd_ok hd (by omega), show nI st + (1 : Int32) = nI (st + 1) from nI_1 st, cl_nI (by omega)]
  have ep : (if (0 : Int32) < nI d then ob (some ()) (fun _ => fX6_met_L f S y1 y2 y3 (nI d) (fX0_link S (S.2 1 d) 1) (nI (st + 1))) else some ((0 : Int32), S)) = if 0 < d then fX6_met_L f S y1 y2 y3 (nI d) (fX0_link S (S.2 1 d) 1) (nI (st + 1)) else some ((0 : Int32), S) := by
    by_cases c : 0 < d
    · rw [if_pos c, if_pos (show (0 : Int32) < nI d from nI_lt (a := 0) c (by omega))]; rfl
    · rw [if_neg c, if_neg (show ¬ (0 : Int32) < nI d from nI_nlt (a := d) (b := 0) (by omega) (by omega) |> fun _ => by
        obtain rfl : d = 0 := by omega
        decide)]
  by_cases c : bI (fX0_has S at') = 0
  · rw [if_pos c]; exact ep
  rw [if_neg c]
  rcases hx with hx | ⟨o, ho, rfl, hm⟩
  · exact absurd (by rw [hx]; rfl) c
  · rw [gd_ok (show o < 101 by omega) (by omega)]
    show (if S.2 2 (nI o).toNatClampNeg = 0 then _ else _) = _
    rw [cl_nI (by omega), if_neg hm]
    exact ep
def xStar (S : XS) (d o : Nat) : XS := pA (pA S 2 (nI o) 1) 1 (nI d) (nI o)
theorem xEnter {S : XS} {y1 : Int32} {f n d st o k : Nat} (hk : k < 2 ^ 31) (hn : n ≤ 100) (hst : st ≤ 200) (hd : d < 100) (ho : o ≤ 100) (hob : fX0_has S (nI o) = true) (hm : S.2 2 o = 0) : fX6_met_L (f + 1) S y1 (nI k) (nI n) (nI d) (nI o) (nI st) = if n = k then some (nI o, S) else fX6_met_L f (xStar S d o) y1 (nI k) (nI (n + 1)) (nI (d + 1)) (fX0_link S (nI o) 2) (nI (st + 1)) := by
  have c0 : ¬ (200 : Int32) < nI st := fun q => by have := (cmp_i (i := st) (by omega) 200 (by omega)).1.mp q; omega
  have c1 : ¬ (100 : Int32) ≤ nI d := fun q => by have := (cmp_i (i := d) (by omega) 100 (by omega)).2.mp q; omega
  rw [fX6_met_L, if_neg c0, hob, if_neg (show ¬ bI true = 0 by decide), gd_ok (show o < 101 by omega) (by omega), if_neg c1, gd_ok hd (by omega), nz1, show nI st + (1 : Int32) = nI (st + 1) from nI_1 st, show nI n + (1 : Int32) = nI (n + 1) from nI_1 n, show nI d + (1 : Int32) = nI (d + 1) from nI_1 d]
  show (if S.2 2 (nI o).toNatClampNeg = 0 then _ else _) = _
  rw [cl_nI (by omega), if_pos hm]
  by_cases c : n = k
  · rw [if_pos c, if_pos (by rw [c])]
  · rw [if_neg c, if_neg (fun q => c ((nI_eq (by omega) hk).mp q))]
    rfl
theorem xs2 {S : XS} {d o : Nat} (ho : o < 2 ^ 31) : (xStar S d o).2 2 = upd (S.2 2) o 1 := by
  rw [xStar, pA_oth (by omega), pA_same, upd_at ho]
theorem xs1 {S : XS} {d o : Nat} (hd : d < 2 ^ 31) : (xStar S d o).2 1 = upd (S.2 1) d (nI o) := by
  rw [xStar, pA_same, upd_at hd, pA_oth (by omega)]
theorem xs_eqX {S : XS} {d o : Nat} : eqX S (xStar S d o) := (eqX_pA (by omega) (by omega)).tr (eqX_pA (by omega) (by omega))
/-- both walk together until the class has its answer -/
theorem simW {w : Bool} {v : Int32} {S0 T0 : XS} (h0 : Rel w v S0 T0) {N k : Nat} (hN : T0.1 7 = nI N) (hN2 : N ≤ 100) (hk : k < 2 ^ 31) (y1 z1 : Int32) : ∀ (m d n u st fx fm : Nat) (S T : XS), m = 2 * u + (d + 1) → d + 1 + u ≤ 100 → n + u ≤ 100 → um (T.2 4) N = u → eqX S0 S → eqM T0 T → (∀ o, o ≤ 100 → S.2 2 o = T.2 4 o) → (∀ i, 1 ≤ i → i < d + 1 → T.2 6 (i - 1) = fX8_link T0 (S.2 1 i) 1) → n ≤ k → st + m ≤ 200 → m + 1 ≤ fx → m + 1 ≤ fm →
    ∃ (r : Int32) (S1 T1 : XS), fX6_met_L fx S y1 (nI k) (nI n) (nI (d + 1)) (T.2 6 d) (nI st) = some (r, S1) ∧ fX8_within_L fm 69 T z1 (nI k) (nI n) (nI (d + 1)) = some (r, T1) ∧ eqX S0 S1 ∧ eqM T0 T1 := by
  intro m
  induction m with
  | zero => intro d n u st fx fm S T hm; omega
  | succ m ih =>
    intro d n u st fx fm S T hm hd hn hu hX hM hmet hpile hnk hst hfx hfm
    obtain ⟨fx, rfl⟩ : ∃ g, fx = g + 1 := ⟨fx - 1, by omega⟩
    obtain ⟨fm, rfl⟩ : ∃ g, fm = g + 1 := ⟨fm - 1, by omega⟩
    have hN' : T.1 7 = nI N := by rw [hM.1 7 (by omega)]; exact hN
    have hR : Rel w v S T0 := h0.keep hX (eqM_rf T0)
    have hhas : ∀ x, fX0_has S x = fX8_isObject T x := fun x => by rw [has_eq hR, obj_eqM hM]
    rcases topCase hN' hN2 (T.2 6 d) with hp | ⟨o, o1, o2, e, hob, hm0⟩
    · rw [mPop (by omega) (hp.elim Or.inl (fun ⟨o, o1, o2, e, q⟩ => Or.inr ⟨o, by omega, e, q⟩))]
      rw [xStay (by omega) (by omega) (hp.elim (fun q => Or.inl (by rw [hhas]; exact q)) (fun ⟨o, o1, o2, e, q⟩ => Or.inr ⟨o, by omega, e, by rw [hmet o (by omega)]; exact q⟩))]
      cases d with
      | zero =>
        rw [if_neg (by omega)]
        obtain ⟨fm, rfl⟩ : ∃ g, fm = g + 1 := ⟨fm - 1, by omega⟩
        rw [mEnd, if_pos (nI_le hnk hk)]
        exact ⟨_, _, _, rfl, rfl, hX, hM⟩
      | succ d =>
        rw [if_pos (by omega)]
        have ep := hpile (d + 1) (by omega) (by omega)
        rw [link_eq hR, ← ep]
        exact ih d n u (st + 1) fx fm S T (by omega) (by omega) hn hu hX hM hmet (fun i i1 i2 => hpile i i1 (by omega)) hnk (by omega) (by omega) (by omega)
    · have hup := um_pos o1 hm0 o2
      have hui := um_in o1 hm0 N o2
      rw [mEnter (by omega) (by omega) (by omega) e hob hm0, e, xEnter hk (by omega) (by omega) (by omega) (by omega) (by rw [hhas]; exact hob) (by rw [hmet o (by omega)]; exact hm0)]
      by_cases c : n = k
      · rw [if_pos c]
        obtain ⟨T1, g1, g2⟩ := finM (T0 := T0) (k := k) hN hN2 z1 (2 * (u - 1) + (d + 2)) (d + 2) (n + 1) (u - 1) fm (mStar T n d o) rfl (by omega) (by omega) (by rw [star4 (by omega)]; omega) (hM.tr star_eqM) (by omega) (by omega) (by omega)
        refine ⟨nI o, S, T1, rfl, ?_, hX, g2⟩
        rw [g1, star5 (by omega)]
        congr 2
        unfold upd
        rw [if_pos c.symm]
      · rw [if_neg c]
        have e6 : (mStar T n d o).2 6 (d + 1) = fX0_link S (nI o) 2 := by
          rw [star6 (by omega), link_eq hR]
          unfold upd
          rw [if_pos rfl, link_eqM hM]
        rw [← e6]
        refine ih (d + 1) (n + 1) (u - 1) (st + 1) fx fm (xStar S (d + 1) o) (mStar T n d o) (by omega) (by omega) (by omega) (by rw [star4 (by omega)]; omega) (hX.tr xs_eqX) (hM.tr star_eqM) (fun o' ho' => ?_) (fun i i1 i2 => ?_) (by omega) (by omega) (by omega) (by omega)
        · rw [xs2 (by omega), star4 (by omega)]
          unfold upd
          split
          · rfl
          · exact hmet o' ho'
        · rw [star6 (by omega), xs1 (by omega)]
          unfold upd
          rw [if_neg (show ¬ i - 1 = d + 1 by omega)]
          by_cases ci : i = d + 1
          · rw [if_pos (show i - 1 = d by omega), if_pos ci, link_eqM hM]
          · rw [if_neg (show ¬ i - 1 = d by omega), if_neg ci]
            exact hpile i i1 (by omega)
