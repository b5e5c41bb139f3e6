theorem wX_get {k : Nat → ClassId} {a : Nat → Nat} {S : XS} {i : Nat} (hi : i < 14) : ∃ e, (wX k a S)[i]? = some (a i, e) := by
  cases h : (wX k a S)[i]? with
  | none => exact absurd (List.getElem?_eq_none_iff.mp h) (by show ¬ (14 ≤ i); omega)
  | some q => exact ⟨q.2, by rw [← (wX_at h).2]⟩
theorem wM_get {k : Nat → ClassId} {a : Nat → Nat} {S : XS} {i : Nat} (hi : i < 8) : ∃ e, (wM k a S)[i]? = some (a i, e) := by
  cases h : (wM k a S)[i]? with
  | none => exact absurd (List.getElem?_eq_none_iff.mp h) (by show ¬ (8 ≤ i); omega)
  | some q => exact ⟨q.2, by rw [← (wM_at h).2]⟩
theorem i32lt {x y : Int32} : x < y ↔ x.toInt < y.toInt := Int32.lt_iff_toInt_lt
theorem i32le {x y : Int32} : x ≤ y ↔ x.toInt ≤ y.toInt := Int32.le_iff_toInt_le
theorem t1 : (1 : Int32).toInt = 1 := by decide
theorem t3 : (3 : Int32).toInt = 3 := by decide
theorem t4 : (4 : Int32).toInt = 4 := by decide
theorem t8 : (8 : Int32).toInt = 8 := by decide
theorem vX_lo {x : Int32} (h : x < 1) : vX x = 1 := by
  have h1 := i32lt.mp h
  rw [t1] at h1
  show (if (1 : Int32) < (if x < 8 then x else 8) then (if x < 8 then x else 8) else 1) = 1
  rw [if_pos (show x < 8 from i32lt.mpr (by rw [t8]; omega)), if_neg (fun q => by have q1 := i32lt.mp q; rw [t1] at q1; omega)]
theorem vX_hi {x : Int32} (h : (8 : Int32) < x) : vX x = 8 := by
  have h1 := i32lt.mp h
  rw [t8] at h1
  show (if (1 : Int32) < (if x < 8 then x else 8) then (if x < 8 then x else 8) else 1) = 8
  rw [if_neg (show ¬ x < 8 from fun q => by have q1 := i32lt.mp q; rw [t8] at q1; omega), if_pos (by decide)]
theorem vX_mid {x : Int32} (h1 : ¬ x < 1) (h8 : ¬ (8 : Int32) < x) : vX x = x := by
  have a1 : ¬ x.toInt < 1 := fun q => h1 (i32lt.mpr (by rw [t1]; exact q))
  have a8 : ¬ 8 < x.toInt := fun q => h8 (i32lt.mpr (by rw [t8]; exact q))
  show (if (1 : Int32) < (if x < 8 then x else 8) then (if x < 8 then x else 8) else 1) = x
  have e8 : (if x < 8 then x else 8) = x := by
    by_cases q : x < 8
    · rw [if_pos q]
    · rw [if_neg q]
      exact Int32.toInt_inj.mp (by have := mt i32lt.mpr q; rw [t8] at this ⊢; omega)
  rw [e8]
  by_cases q : (1 : Int32) < x
  · rw [if_pos q]
  · rw [if_neg q]
    exact Int32.toInt_inj.mp (by have := mt i32lt.mpr q; rw [t1] at this ⊢; omega)
theorem Rel0 {w : Bool} {v : Int32} (h : Vok w v) : Rel w v (sX0 w v) (sM0 w v) :=
  ⟨h, ⟨rfl, rfl, rfl, rfl, rfl, rfl, rfl, rfl⟩, ⟨rfl, rfl, rfl⟩, rfl, rfl, rfl, rfl, ⟨false, rfl⟩, ⟨0, by omega, rfl⟩, ⟨0, by omega, rfl⟩, ⟨1792, by omega, by omega, rfl⟩, fun _ => (show (0 : Int32) = 0 &&& 255 by decide), fun _ => (show (0 : Int32) = 0 &&& 255 by decide)⟩
theorem Vok_w {w : Bool} {z : Nat} (hz : z < 2 ^ 31) (h : Vok w (nI z)) : w = decide (4 ≤ z) := by
  obtain ⟨z1, h1, h2, h3, h4⟩ := h
  have e : z = z1 := (nI_eq hz (by omega)).mp h3
  rw [h4, e]
theorem Vok_vX (x : Int32) : Vok (decide (¬ vX x < 4)) (vX x) := by
  by_cases h1 : x < 1
  · rw [vX_lo h1]
    exact ⟨1, by omega, by omega, rfl, by decide⟩
  by_cases h8 : (8 : Int32) < x
  · rw [vX_hi h8]
    exact ⟨8, by omega, by omega, rfl, by decide⟩
  rw [vX_mid h1 h8]
  have a1 : ¬ x.toInt < 1 := fun q => h1 (i32lt.mpr (by rw [t1]; exact q))
  have a8 : ¬ 8 < x.toInt := fun q => h8 (i32lt.mpr (by rw [t8]; exact q))
  obtain ⟨z, hz, rfl⟩ := nI_of (x := x) (fun q => a1 (by have := i32lt.mp q; rw [Int32.toInt_zero] at this; omega))
  rw [nI_toInt hz] at a1 a8
  refine ⟨z, by omega, by omega, rfl, ?_⟩
  have e : nI z < 4 ↔ z < 4 := nI_ltI (b := 4) hz (by omega)
  exact decide_eq_decide.mpr ⟨fun h => by rw [e] at h; omega, fun h => by rw [e]; omega⟩
set_option maxRecDepth 100000 in
set_option maxHeartbeats 16000000 in
/-- THE LAW, from its entry -/
theorem whole_start {p : Program} {e : Env} {s : State} {m : MethodId} {below : List Frame} {meth : Method} {c : Code} (l : Launch) {b L : Nat} {xs : Nat → Int32} (hL : L ≤ 2049) (C0 : lw_At p s m meth c b L xs) : W p l e room_1 s m #[Value.ref b] below meth c s.heap [] 0 0 (lw_Z below #[Value.ref b] s) (entryFrame m ([Value.ref b] : List Value).toArray 4) := by
  obtain ⟨hx, hb, hr, hml, hown, hts0, hX, hbl, hlocks, hgv⟩ := id C0
  have hts : ∀ w ∈ gtb, w.before #[Value.ref b] s = true := fun w h => hts0 w (List.mem_filter.mp h).1
  have hA : ∀ q : Nat, s.heap.size ≤ q → (fun q : Nat => s.heap.size ≤ q) q := fun _ h => h
  have hbA : ¬ (fun q : Nat => s.heap.size ≤ q) b := Nat.not_le.mpr hbl
  obtain ⟨c0, iS0, hKn0⟩ := u_known (C := RX0) (T := TX0) (N := 7) (n := 7) hts iX0 (hts _ in_X0)
  obtain ⟨c1, iS1, hKn1⟩ := u_known (C := RX1) (T := TX1) (N := 2) (n := 2) hts iX1 (hts _ in_X1)
  obtain ⟨c2, iS2, hKn2⟩ := u_known (C := RX2) (T := TX2) (N := 1) (n := 1) hts iX2 (hts _ in_X2)
  obtain ⟨c3, iS3, hKn3⟩ := u_known (C := RX3) (T := TX3) (N := 6) (n := 6) hts iX3 (hts _ in_X3)
  obtain ⟨c4, iS4, hKn4⟩ := u_known (C := RX4) (T := TX4) (N := 5) (n := 5) hts iX4 (hts _ in_X4)
  obtain ⟨c5, iS5, hKn5⟩ := u_known (C := RX5) (T := TX5) (N := 10) (n := 10) hts iX5 (hts _ in_X5)
  obtain ⟨c6, iS6, hKn6⟩ := u_known (C := RX6) (T := TX6) (N := 3) (n := 3) hts iX6 (hts _ in_X6)
  obtain ⟨c7, iS7, hKn7⟩ := u_known (C := RX7) (T := TX7) (N := 11) (n := 11) hts iX7 (hts _ in_X7)
  obtain ⟨c8, iS8, hKn8⟩ := u_known (C := RX8) (T := TX8) (N := 26) (n := 26) hts iX8 (hts _ in_X8)
  obtain ⟨dC, dI, hKc⟩ : ∃ (dC : Nat → ClassId) (dI : Nat → Nat → Nat), ∀ (k : Nat) (q : vw_C), vwCl[k]? = some q → u_Kn s q.1 q.2.1 q.2.2 (dC k) (dI k) := by
    refine ⟨fun k => match k with | 0 => c0 | 1 => c1 | 2 => c2 | 3 => c3 | 4 => c4 | 5 => c5 | 6 => c6 | 7 => c7 | _ => c8, fun k => match k with | 0 => iS0 | 1 => iS1 | 2 => iS2 | 3 => iS3 | 4 => iS4 | 5 => iS5 | 6 => iS6 | 7 => iS7 | _ => iS8, ?_⟩
    intro k q hq
    match k, hq with
    | 0, hq => cases hq; exact hKn0
    | 1, hq => cases hq; exact hKn1
    | 2, hq => cases hq; exact hKn2
    | 3, hq => cases hq; exact hKn3
    | 4, hq => cases hq; exact hKn4
    | 5, hq => cases hq; exact hKn5
    | 6, hq => cases hq; exact hKn6
    | 7, hq => cases hq; exact hKn7
    | 8, hq => cases hq; exact hKn8
    | k + 9, hq => simp [vwCl] at hq
  obtain ⟨cB, kB, oB, fB, hB1, hB2⟩ := Cond.arrayClass_spec (hts _ ar_byte)
  obtain ⟨cI, kI, oI, fI, hI1, hI2⟩ := Cond.arrayClass_spec (hts _ ar_int)
  obtain ⟨cZ, kZ, oZ, fZ, hZ1, hZ2⟩ := Cond.arrayClass_spec (hts _ ar_boolean)
  obtain ⟨k, hK⟩ : ∃ k : Nat → ClassId, va_K (dC, dI) vwCl (tyk k) s := by
    refine ⟨fun i => match i with | 0 => cB | 1 => cI | _ => cZ, hKc, ?_⟩
    intro i q h
    match i, h with
    | 0, h => cases h; exact ⟨fun n z => ⟨fun k h => (by cases h), kB, hB1, oB, hB2⟩, fB⟩
    | 1, h => cases h; exact ⟨fun n z => ⟨fun k h => (by cases h), kI, hI1, oI, hI2⟩, fI⟩
    | 2, h => cases h; exact ⟨fun n z => ⟨fun k h => (by cases h), kZ, hZ1, oZ, hZ2⟩, fZ⟩
    | i + 3, h => simp [tyk] at h
  generalize hDe : (dC, dI) = D at hK
  have C : Cx p s m c #[Value.ref b] RL cL_law 4 D (tyk k) := ⟨⟨hx, hb, hml, hown, hts⟩, hK⟩
  obtain ⟨str, hEk0⟩ := Ek_of hgv hts0
  have hEb : Eb b L xs (fun q : Nat => s.heap.size ≤ q) s s.heap := ⟨hX, hbA⟩
  have hN : va_Nw (.methodLinkNest RX7 18 yX2_init "ZObjects") s := va_Nw.of rfl (hts0 _ (List.mem_append_right _ tK_nest))
  have hS : va_S (fun q : Nat => s.heap.size ≤ q) s.heap s.heap [] := va_S.rf
  have hP : va_P D vwCl [] s.heap := fun k q h => by simp at h
  have hD : va_D (fun q : Nat => s.heap.size ≤ q) [] := ⟨fun i j p q h => by simp at h, fun k q h => by simp at h⟩
  have hl := lv_entry ([.ref b]) (n := 4) (Nat.le_of_ble_eq_true rfl)
  rw [lg_entry_eq]
  generalize (lg_sl ([.ref b]) ++ List.replicate (4 - (lg_sl ([.ref b])).length) Slot.unset).toArray = ls at hl ⊢
  have hl : lv_has ls 4 [(0, .ref b)] := hl
  refine va_new (ci := 7) (fs := [.null, .null, .null, .null, .null, .null, .int 0, .null, .int 0, .int 0, .int 0]) (C := RX7) (T := TX7) (N := 11) hx hb hts iX7 tyX7 tyX7_ok hown (hts _ cl_L_7) (hts _ in_X7) (hts _ ini_X7) hK hP hD hS hA rfl (fun j hj => by rcases (show j = 0 ∨ j = 1 ∨ j = 2 ∨ j = 3 ∨ j = 4 ∨ j = 5 ∨ j = 6 ∨ j = 7 ∨ j = 8 ∨ j = 9 ∨ j = 10 by omega) with rfl | rfl | rfl | rfl | rfl | rfl | rfl | rfl | rfl | rfl | rfl <;> rfl) (Nat.le_of_ble_eq_true rfl) (Nat.le_of_ble_eq_true rfl) dL_law_0 (fun q0 H hP hD hS => ?_)
  have hP : va_P D vwCl [(q0, .inr (7, [.null, .null, .null, .null, .null, .null, .int 0, .null, .int 0, .int 0, .int 0]))] H := hP
  have hD : va_D (fun q : Nat => s.heap.size ≤ q) [(q0, .inr (7, [.null, .null, .null, .null, .null, .null, .int 0, .null, .int 0, .int 0, .int 0]))] := hD
  refine W.widen (k := 1) (n := 11) (Nat.le_refl _) (Nat.le_refl _) ?_
  refine lv_dup hx hb dL_law_3 rfl ?_
  refine lv_aload_n hx hb dL_law_4 rfl (lv_at hl 0 rfl) ?_
  refine lv_iconst (v := 0) hx hb dL_law_5 (by decide) ?_
  refine rdS (Eb_est b L xs) C hP (ef (Eb_est b L xs) hS hEb) (c_L_cell l D (tyk k) _ b L xs hL) my_L_cell ml_L_9 rfl hl.1 (rest := [.ref q0, .ref q0]) rfl (Nat.le_of_ble_eq_true rfl) ⟨rfl, rfl, (Nat.le_of_ble_eq_true rfl), (Nat.le_of_ble_eq_true rfl)⟩ ⟨(Nat.le_of_ble_eq_true rfl), (Nat.le_of_ble_eq_true rfl)⟩ dL_law_6 ?_
  have key : ∀ w : Bool, Vok w (vX (z0 L xs)) → Ic (fun U => va_Nw (.methodLinkNest RX7 18 yX2_init "ZObjects") U) l D (tyk k) [(q0, .inr (7, [.null, .null, .null, .null, .null, .null, .int 0, .null, .int 0, .int 0, .int 0]))] (fun q => wX k (adX str q0 q) (sX0 w (vX (z0 L xs)))) yX7_init cX7_init 4 { frames := 3, cells := 13, slots := 4836, locals := 55 } [.ref q0, .int (z0 L xs)] 13 4836 → W p l e room_1 s m #[Value.ref b] below meth c H [] 1 11 (lw_Z below #[Value.ref b] s) (F0 m 9 ls [.int (z0 L xs), .ref q0, .ref q0]) := by
    intro w hV hctor
    refine icI (fun u U h hn => va_Nw.same rfl h.symm hn) (fun U hW => va_Nw.warmM hW hN) C hP hD hA hS hctor mc_X7_init ml_L_15 [0] [] (wr := []) rfl rfl rfl rfl rfl (by decide) rfl hl.1 (rest := [.ref q0]) rfl (Nat.le_of_ble_eq_true rfl) ⟨rfl, rfl, (Nat.le_of_ble_eq_true rfl), (Nat.le_of_ble_eq_true rfl)⟩ ⟨(Nat.le_of_ble_eq_true rfl), (Nat.le_of_ble_eq_true rfl)⟩ dL_law_9 (fun q H locs hP2 hD2 hS => ?_)
    have hax : ∀ i, 14 ≤ i → adX str q0 q i = str i := fun i hi => by
      show (if i = 0 then q0 else if i < 14 then q i else str i) = str i
      rw [if_neg (by omega), if_neg (by omega)]
    have hEk := hEk0 (adX str q0 q) hax
    have hP3 : va_P D vwCl (wX k (adX str q0 q) (sX0 w (vX (z0 L xs)))) H := hP2
    have hD3 : va_D (fun q : Nat => s.heap.size ≤ q) (wX k (adX str q0 q) (sX0 w (vX (z0 L xs)))) := hD2
    clear hP2 hD2 hP hD
    have h00 : adX str q0 q 0 = q0 := rfl
    generalize adX str q0 q = ax at hP3 hD3 hEk h00
    subst h00
    have hP := hP3
    have hD := hD3
    refine W.widen (k := 14) (n := 4847) (Nat.le_refl _) (Nat.le_refl _) ?_
    refine lv_astore_n (lv' := [(1, .ref (ax 0)), (0, .ref b)]) hx hb dL_law_12 rfl hl (by decide) rfl (fun ls hl => ?_)
    refine va_new (ci := 8) (fs := [.null, .int 0, .int 0, .int 0, .null, .int 0, .int 0, .int 0, .int 0, .int 0, .int 0, .int 0, .null, .int 0, .null, .int 0, .int 0, .int 0, .int 0, .int 0, .int 0, .int 0, .int 0, .null, .null, .null]) (C := RX8) (T := TX8) (N := 26) hx hb hts iX8 tyX8 tyX8_ok hown (hts _ cl_L_18) (hts _ in_X8) (hts _ ini_X8) hK hP hD hS hA rfl (fun j hj => by rcases (show j = 0 ∨ j = 1 ∨ j = 2 ∨ j = 3 ∨ j = 4 ∨ j = 5 ∨ j = 6 ∨ j = 7 ∨ j = 8 ∨ j = 9 ∨ j = 10 ∨ j = 11 ∨ j = 12 ∨ j = 13 ∨ j = 14 ∨ j = 15 ∨ j = 16 ∨ j = 17 ∨ j = 18 ∨ j = 19 ∨ j = 20 ∨ j = 21 ∨ j = 22 ∨ j = 23 ∨ j = 24 ∨ j = 25 by omega) with rfl | rfl | rfl | rfl | rfl | rfl | rfl | rfl | rfl | rfl | rfl | rfl | rfl | rfl | rfl | rfl | rfl | rfl | rfl | rfl | rfl | rfl | rfl | rfl | rfl | rfl <;> rfl) (Nat.le_of_ble_eq_true rfl) (Nat.le_of_ble_eq_true rfl) dL_law_13 (fun q1 H hP hD hS => ?_)
    refine W.widen (k := 15) (n := 4873) (Nat.le_refl _) (Nat.le_refl _) ?_
    refine lv_dup hx hb dL_law_16 rfl ?_
    refine lv_aload_n hx hb dL_law_17 rfl (lv_at hl 1 rfl) ?_
    refine lv_iconst (v := 0) hx hb dL_law_18 (by decide) ?_
    refine rdS (Eb_est b L xs) C hP (ef (Eb_est b L xs) hS hEb) (c_L_cell l D (tyk k) _ b L xs hL) my_L_cell ml_L_9 rfl hl.1 (rest := [.ref q1, .ref q1]) rfl (Nat.le_of_ble_eq_true rfl) ⟨rfl, rfl, (Nat.le_of_ble_eq_true rfl), (Nat.le_of_ble_eq_true rfl)⟩ ⟨(Nat.le_of_ble_eq_true rfl), (Nat.le_of_ble_eq_true rfl)⟩ dL_law_19 ?_
    have key2 : ∀ (w2 : Bool) (v2 : Int32), Rel w (vX (z0 L xs)) (sX0 w (vX (z0 L xs))) (sM0 w2 v2) → Ic (fun _ => True) l D (tyk k) [(q1, .inr (8, [.null, .int 0, .int 0, .int 0, .null, .int 0, .int 0, .int 0, .int 0, .int 0, .int 0, .int 0, .null, .int 0, .null, .int 0, .int 0, .int 0, .int 0, .int 0, .int 0, .int 0, .int 0, .null, .null, .null]))] (fun q => wM k (adM q1 q) (sM0 w2 v2)) yX8_init cX8_init 2 { frames := 1, cells := 7, slots := 13900, locals := 12 } [.ref q1, .int (z0 L xs)] 7 13900 → W p l e room_1 s m #[Value.ref b] below meth c H locs 15 4873 (lw_Z below #[Value.ref b] s) (F0 m 22 ls [.int (z0 L xs), .ref q1, .ref q1]) := by
      intro w2 v2 hRel hctor2
      refine icI (fun _ _ _ _ => trivial) (fun _ _ => trivial) C hP hD hA hS hctor2 mc_X8_init ml_L_20 [14] [0, 1, 2, 3, 4, 5, 6, 7, 8, 9, 10, 11, 12, 13] (wr := wX k ax (sX0 w (vX (z0 L xs)))) rfl rfl rfl rfl rfl (by decide) rfl hl.1 (rest := [.ref q1]) rfl (Nat.le_of_ble_eq_true rfl) ⟨rfl, rfl, (Nat.le_of_ble_eq_true rfl), (Nat.le_of_ble_eq_true rfl)⟩ ⟨(Nat.le_of_ble_eq_true rfl), (Nat.le_of_ble_eq_true rfl)⟩ dL_law_22 (fun q H locs hP4 hD4 hS => ?_)
      have h01 : adM q1 q 0 = q1 := rfl
      clear hP hD
      generalize adM q1 q = am at hP4 hD4 h01
      subst h01
      have hP := hP4
      have hD := hD4
      have hPX := hP.sub (ws' := wX k ax (sX0 w (vX (z0 L xs)))) [0, 1, 2, 3, 4, 5, 6, 7, 8, 9, 10, 11, 12, 13] rfl
      have hPM := hP.sub (ws' := wM k am (sM0 w2 v2)) [14, 15, 16, 17, 18, 19, 20, 21] rfl
      have hDX := wX_D (hD.sub (ws' := wX k ax (sX0 w (vX (z0 L xs)))) [0, 1, 2, 3, 4, 5, 6, 7, 8, 9, 10, 11, 12, 13] (by decide) rfl)
      have hDM := wM_D (hD.sub (ws' := wM k am (sM0 w2 v2)) [14, 15, 16, 17, 18, 19, 20, 21] (by decide) rfl)
      have hj : ∀ i j, i < 14 → j < 8 → ax i ≠ am j := by
        intro i j hi hj q
        obtain ⟨e1, h1⟩ := wX_get (k := k) (a := ax) (S := sX0 w (vX (z0 L xs))) hi
        obtain ⟨e2, h2⟩ := wM_get (k := k) (a := am) (S := sM0 w2 v2) hj
        have g1 : (wX k ax (sX0 w (vX (z0 L xs))) ++ wM k am (sM0 w2 v2))[i]? = some (ax i, e1) := by
          rw [List.getElem?_append_left (by show i < 14; exact hi)]
          exact h1
        have g2 : (wX k ax (sX0 w (vX (z0 L xs))) ++ wM k am (sM0 w2 v2))[14 + j]? = some (am j, e2) := by
          rw [List.getElem?_append_right (by show 14 ≤ 14 + j; omega)]
          show (wM k am (sM0 w2 v2))[14 + j - 14]? = _
          rw [Nat.add_sub_cancel_left]
          exact h2
        have h3 := hD.1 i (14 + j) _ _ g1 g2 q
        omega
      refine W.widen (k := 22) (n := 18773) (Nat.le_refl _) (Nat.le_refl _) ?_
      refine lv_astore_n (lv' := [(2, .ref (am 0)), (1, .ref (ax 0)), (0, .ref b)]) hx hb dL_law_25 rfl hl (by decide) rfl (fun ls hl => ?_)
      refine lv_iconst (v := nI 1) hx hb dL_law_26 (by decide) ?_
      refine lv_istore_n (lv' := [(3, .int (nI 1)), (2, .ref (am 0)), (1, .ref (ax 0)), (0, .ref b)]) hx hb dL_law_27 rfl hl (by decide) rfl (fun ls hl => ?_)
      exact law_loop hL C0 hEk hK hDX hDM hj (L + 2) 1 (by omega) (by omega) _ _ _ _ ls hRel hPX hPM hS (lv_sub hl [3, 2, 1, 0] rfl)
    generalize z0 L xs = x at hV key2 ⊢
    by_cases h1 : x < 1
    · have h3 : x ≤ 3 := i32le.mpr (by have := i32lt.mp h1; rw [t1] at this; rw [t3]; omega)
      refine key2 false 1 ?_ (c_X8_init_lof l D k q1 x h1 h3)
      rw [vX_lo h1] at hV ⊢
      obtain rfl : w = false := Vok_w (z := 1) (by omega) hV
      exact Rel0 hV
    by_cases h8 : (8 : Int32) < x
    · have h3 : ¬ x ≤ 3 := fun q => by have q1 := i32le.mp q; have q2 := i32lt.mp h8; rw [t3] at q1; rw [t8] at q2; omega
      refine key2 true 8 ?_ (c_X8_init_hit l D k q1 x h1 h8 h3)
      rw [vX_hi h8] at hV ⊢
      obtain rfl : w = true := Vok_w (z := 8) (by omega) hV
      exact Rel0 hV
    by_cases h3 : x ≤ 3
    · refine key2 false x ?_ (c_X8_init_midf l D k q1 x h1 h8 h3)
      rw [vX_mid h1 h8] at hV ⊢
      obtain rfl : w = false := by
        obtain ⟨z, g1, g2, g3, g4⟩ := hV
        have q1 := i32le.mp h3
        rw [g3, nI_toInt (by omega), t3] at q1
        rw [g4]
        exact decide_eq_false (by omega)
      exact Rel0 hV
    · refine key2 true x ?_ (c_X8_init_midt l D k q1 x h1 h8 h3)
      rw [vX_mid h1 h8] at hV ⊢
      obtain rfl : w = true := by
        obtain ⟨z, g1, g2, g3, g4⟩ := hV
        have q1 : ¬ x.toInt ≤ 3 := fun q => h3 (i32le.mpr (by rw [t3]; exact q))
        rw [g3, nI_toInt (by omega)] at q1
        rw [g4]
        exact decide_eq_true (by omega)
      exact Rel0 hV
  have hVx := Vok_vX (z0 L xs)
  by_cases hv : vX (z0 L xs) < 4
  · rw [decide_eq_false (fun h => h hv)] at hVx
    exact key false hVx (c_X7_init_f l D k q0 str (z0 L xs) hv)
  · rw [decide_eq_true hv] at hVx
    exact key true hVx (c_X7_init_t l D k q0 str (z0 L xs) hv)
