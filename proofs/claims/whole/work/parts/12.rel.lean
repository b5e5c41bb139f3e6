/-! WHAT THE CLASS AND THE REFERENCE SHARE: the bytes, the row, how many objects, how many typed, the top, strict or not -/
def Vok (w : Bool) (v : Int32) : Prop := ∃ z : Nat, 1 ≤ z ∧ z ≤ 8 ∧ v = nI z ∧ w = decide (4 ≤ z)
def CX (w : Bool) (v : Int32) (S : XS) : Prop := S.1 0 = cond w 63 31 ∧ S.1 4 = cond w 1 0 ∧ S.1 5 = cond w 382 318 ∧ S.1 6 = cond w 6 4 ∧ S.1 7 = cond w 2 1 ∧ S.1 8 = cond w 14 9 ∧ S.1 10 = cond w 1 0 ∧ S.1 15 = v
def CM (w : Bool) (v : Int32) (T : XS) : Prop := T.1 1 = v ∧ T.1 2 = cond w 1 0 ∧ T.1 3 = cond w 63 31
def Lnk (S T : XS) : Prop := S.1 9 = T.1 7 ∧ S.1 1 = T.1 5 ∧ S.1 2 = T.1 6 ∧ S.1 3 = T.1 8 ∧ (∃ b, T.1 8 = bI b) ∧ (∃ n, n ≤ 100 ∧ T.1 7 = nI n) ∧ (∃ t, t ≤ 250 ∧ T.1 5 = nI t) ∧ (∃ p, 1792 ≤ p ∧ p ≤ 4096 ∧ T.1 6 = nI p) ∧ (∀ j, T.2 0 j = S.2 0 j &&& 255) ∧ (∀ j, T.2 1 j = S.2 4 j &&& 255)
def Rel (w : Bool) (v : Int32) (S T : XS) : Prop := Vok w v ∧ CX w v S ∧ CM w v T ∧ Lnk S T
def eqX (S S' : XS) : Prop := (∀ k, k ≤ 10 → S'.1 k = S.1 k) ∧ S'.1 15 = S.1 15 ∧ S'.2 0 = S.2 0 ∧ S'.2 4 = S.2 4
def eqM (T T' : XS) : Prop := (∀ k, k ≤ 8 → T'.1 k = T.1 k) ∧ T'.2 0 = T.2 0 ∧ T'.2 1 = T.2 1
theorem Rel.keep {w : Bool} {v : Int32} {S T S' T' : XS} (h : Rel w v S T) (hx : eqX S S') (hm : eqM T T') : Rel w v S' T' := by
  obtain ⟨h1, ⟨a0, a4, a5, a6, a7, a8, a10, a15⟩, ⟨b1, b2, b3⟩, l1, l2, l3, l4, l5, l6, l7, l8, l9, l10⟩ := h
  obtain ⟨e1, e2, e3, e4⟩ := hx
  obtain ⟨f1, f2, f3⟩ := hm
  refine ⟨h1, ⟨?_, ?_, ?_, ?_, ?_, ?_, ?_, ?_⟩, ⟨?_, ?_, ?_⟩, ?_, ?_, ?_, ?_, ?_, ?_, ?_, ?_, ?_, ?_⟩
  all_goals first | rw [e2] | skip
  all_goals first | assumption | (simp only [e1 _ (by omega : (0 : Nat) ≤ 10), e1 _ (by omega : (4 : Nat) ≤ 10), e1 _ (by omega : (5 : Nat) ≤ 10), e1 _ (by omega : (6 : Nat) ≤ 10), e1 _ (by omega : (7 : Nat) ≤ 10), e1 _ (by omega : (8 : Nat) ≤ 10), e1 _ (by omega : (9 : Nat) ≤ 10), e1 _ (by omega : (10 : Nat) ≤ 10), e1 _ (by omega : (1 : Nat) ≤ 10), e1 _ (by omega : (2 : Nat) ≤ 10), e1 _ (by omega : (3 : Nat) ≤ 10), f1 _ (by omega : (1 : Nat) ≤ 8), f1 _ (by omega : (2 : Nat) ≤ 8), f1 _ (by omega : (3 : Nat) ≤ 8), f1 _ (by omega : (5 : Nat) ≤ 8), f1 _ (by omega : (6 : Nat) ≤ 8), f1 _ (by omega : (7 : Nat) ≤ 8), f1 _ (by omega : (8 : Nat) ≤ 8), e3, e4, f2, f3]; assumption)
