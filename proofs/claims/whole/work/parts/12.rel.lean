/-! WHAT THE CLASS AND THE REFERENCE SHARE: the bytes, the row, how many objects, how many typed, the top, strict or not -/
def RX (w : Bool) (v : Int32) (S : XS) (mem row : Nat → Nat) (n typed top : Nat) (st : Bool) : Prop :=
  (S.1 0 = cond w 63 31 ∧ S.1 4 = cond w 1 0 ∧ S.1 5 = cond w 382 318 ∧ S.1 6 = cond w 6 4 ∧ S.1 7 = cond w 2 1 ∧ S.1 8 = cond w 14 9 ∧ S.1 10 = cond w 1 0 ∧ S.1 15 = v) ∧ S.1 9 = nI n ∧ S.1 1 = nI typed ∧ S.1 2 = nI top ∧ S.1 3 = bI st ∧ (∀ j, S.2 0 j = sb_b (mem j)) ∧ (∀ j, S.2 4 j = sb_b (row j))
def RM (w : Bool) (v : Int32) (T : XS) (mem row : Nat → Nat) (n typed top : Nat) (st : Bool) : Prop :=
  (T.1 1 = v ∧ T.1 2 = cond w 1 0 ∧ T.1 3 = cond w 63 31) ∧ T.1 7 = nI n ∧ T.1 5 = nI typed ∧ T.1 6 = nI top ∧ T.1 8 = bI st ∧ (∀ j, T.2 0 j = nI (mem j)) ∧ (∀ j, T.2 1 j = nI (row j))
def Gok (mem row : Nat → Nat) (n typed top : Nat) : Prop := n ≤ 100 ∧ typed ≤ 250 ∧ 1792 ≤ top ∧ top ≤ 4096 ∧ (∀ j, mem j < 256) ∧ (∀ j, row j < 256)
def Vok (w : Bool) (v : Int32) : Prop := ∃ z : Nat, 1 ≤ z ∧ z ≤ 8 ∧ v = nI z ∧ w = decide (4 ≤ z)
def Rel (w : Bool) (v : Int32) (S T : XS) : Prop := Vok w v ∧ ∃ (mem row : Nat → Nat) (n typed top : Nat) (st : Bool), Gok mem row n typed top ∧ RX w v S mem row n typed top st ∧ RM w v T mem row n typed top st
