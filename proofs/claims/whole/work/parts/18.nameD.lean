/-! names, fourth: letters, own signs, and the heeding of a sign -/
theorem third_v1 : ∀ s, s < 32 → 7 ≤ s → fX5_charInj 0 (nI s - 7) = fX8_third (nI s - 7) true := by decide +kernel
theorem third_v2 : ∀ s, s < 32 → 8 ≤ s → fX5_charInj 1 (nI s - 8) = fX8_third (nI s - 8) false := by decide +kernel
theorem own_sim {w : Bool} {v : Int32} {V : Nat} {S0 T0 S T : XS} {z hd Q : Nat} {ab : Bool} {L B : List Nat} (h0 : Rel w v S0 T0) (hA : DA V S0 T0 S T z hd 0) (hB : DB V (Wd T0) S T ab L B) (hQ : PP ab L B < Q) :
    HR V S0 T0 T z Q (fX5_sayOwn S) (if (T.1 16) ≤ ((T.1 15) + (1 : Int32)) then some (pS T 15 (T.1 16)) else (ob (gd (T.1 15) 9000) (fun _ => (ob (gd ((T.1 15) + (1 : Int32)) 9000) (fun _ => (ob (fX8_say T (((32 : Int32) * (T.2 3 (T.1 15).toNatClampNeg)) + (T.2 3 ((T.1 15) + (1 : Int32)).toNatClampNeg))) (fun u9 => some (pS u9 15 ((u9.1 15) + (2 : Int32)))))))))) := by
  have hR : Rel w v S T0 := h0.keep hA.1 (eqM_rf T0)
  cases L with
  | nil =>
    obtain ⟨e, p, hp, e1, e2⟩ := take_end hR hB
    rw [fX5_sayOwn, e]
    show HR V S0 T0 T z Q (if (-1 : Int32) = (-1 : Int32) then some (fX4_takeS S).2 else _) _
    rw [if_pos rfl, e, e1, e2, show nI p + (1 : Int32) = nI (p + 1) from nI_1 p, if_pos (nI_le (by omega) (by omega))]
    exact ⟨S, _, z, ab, [], B, hd, 0, rfl, rfl, DA_keep hA (fun _ _ => rfl) rfl (fun k hk => if_neg (by omega)) (fun _ _ => rfl), DB_keep hB (fun _ _ => rfl) (fun k hk => by
      show upd T.1 15 _ k = T.1 k
      unfold upd
      by_cases q : k = 15
      · rw [if_pos q, q, e1]
      · rw [if_neg q]) rfl, ⟨Nat.le_refl _, fun _ _ => rfl⟩, hQ⟩
  | cons x L1 =>
    obtain ⟨hx, S1, p, e, k1, k2, e1, e2, e3, e4, hB1⟩ := take_sim hR hB
    have hA1 : DA V S0 T0 S1 T z hd 0 := DA_keep hA (fun k hk => k1 k (by omega)) k2 (fun _ _ => rfl) (fun _ _ => rfl)
    have hR1 : Rel w v S1 T0 := h0.keep hA1.1 (eqM_rf T0)
    have hc := cst_pos ab
    rw [PP_cons] at hQ
    cases L1 with
    | nil =>
      obtain ⟨f, p1, hp1, f1, f2⟩ := take_end hR1 hB1
      have f2 : T.1 16 = nI p1 := f2
      have f1 : nI (p + 1) = nI p1 := f1
      have ex : fX5_sayOwn S = some S1 := by
        rw [fX5_sayOwn, e]
        show (if nI x = (-1 : Int32) then some (fX4_takeS S1).2 else (if (fX4_takeS S1).1 = (-1 : Int32) then some (fX4_takeS S1).2 else _)) = _
        rw [if_neg (nx_m1 x hx), f]
        exact if_pos rfl
      rw [ex, e1, show nI p + (1 : Int32) = nI (p + 1) from nI_1 p, f2, f1, if_pos (nI_le (Nat.le_refl p1) (by omega)), ← f1]
      exact ⟨S1, _, z, ab, [], B, hd, 0, rfl, rfl, DA_keep hA1 (fun _ _ => rfl) rfl (fun k hk => if_neg (by omega)) (fun _ _ => rfl), hB1, ⟨Nat.le_refl _, fun _ _ => rfl⟩, by omega⟩
    | cons y L2 =>
      obtain ⟨hy, S2, p1, f, l1, l2, f1, f2, f3, f4, hB2⟩ := take_sim hR1 hB1
      have f1 : nI (p + 1) = nI p1 := f1
      have ep : p1 = p + 1 := ((nI_eq (by omega) (by omega)).mp f1).symm
      subst ep
      have f2 : T.1 16 = nI (p + 1 + 1 + L2.length) := f2
      have f4 : T.2 3 (p + 1) = nI y := f4
      have hA2 : DA V S0 T0 S2 T z hd 0 := DA_keep hA1 (fun k hk => l1 k (by omega)) l2 (fun _ _ => rfl) (fun _ _ => rfl)
      have ex : fX5_sayOwn S = fX5_say S2 ((32 : Int32) * nI x + nI y) := by
        rw [fX5_sayOwn, e]
        show (if nI x = (-1 : Int32) then some (fX4_takeS S1).2 else (if (fX4_takeS S1).1 = (-1 : Int32) then some (fX4_takeS S1).2 else (ob (fX5_say (fX4_takeS S1).2 (((32 : Int32) * nI x) + (fX4_takeS S1).1)) (fun u3 => some (u3))))) = _
        rw [if_neg (nx_m1 x hx), f, ob_id]
        exact if_neg (nx_m1 y hy)
      rw [PP_cons] at hQ
      obtain ⟨S3, T3, z1, g1, g2, g3, g4, g5, g6, g7⟩ := say_sim (x := (32 : Int32) * nI x + nI y) (y := (32 : Int32) * nI x + nI y) rfl hA2
      rw [ex, e1, show nI p + (1 : Int32) = nI (p + 1) from nI_1 p, f2, if_neg (nI_ge (by omega) (by omega)), gd_ok (show p < 9000 by omega) (by omega), ob_s, gd_ok (show p + 1 < 9000 by omega) (by omega), ob_s, nI_clamp (by omega), nI_clamp (by omega), e4, f4, g2, ob_s, g1]
      refine ⟨S3, _, z1, ab, L2, B, hd, 0, rfl, rfl, DA_keep g3 (fun _ _ => rfl) rfl (fun k hk => if_neg (by omega)) (fun _ _ => rfl), DB_keep hB2 (fun k hk => g5 k (by omega)) (fun k hk => ?_) g7, g4, by omega⟩
      show upd T3.1 15 _ k = upd (upd T.1 15 _) 15 _ k
      unfold upd
      by_cases q : k = 15
      · rw [if_pos q, if_pos q, g6 15 (by omega), e1]
        exact nI_add p 2
      · rw [if_neg q, if_neg q, if_neg q]
        exact g6 k (by omega)
