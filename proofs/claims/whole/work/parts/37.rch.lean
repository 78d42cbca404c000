/-! ===== parts of parts ===== -/
def rcA (S : sS) (R : Int → Bool) : Nat → (Int → Bool)
  | 0 => R
  | a + 1 => fun b => rcA S R a b || (rcA S R a (a : Int) && decide (0 < sTim S a b))
def rcR (S : sS) (x : Int) : Nat → (Int → Bool)
  | 0 => fun b => decide (b = x)
  | r + 1 => rcA S (rcR S x r) (sCnt S).toNat
def sRing (S : sS) (x g : Int) : Bool := rcR S x (sCnt S).toNat g
theorem rcA_s {S : sS} {R : Int → Bool} {a : Int} (h : 0 ≤ a) (b : Int) : rcA S R (a + 1).toNat b = (rcA S R a.toNat b || (rcA S R a.toNat a && decide (0 < sTim S a b))) := by
  rw [show (a + 1).toNat = a.toNat + 1 by omega]
  show (rcA S R a.toNat b || (rcA S R a.toNat ((a.toNat : Nat) : Int) && decide (0 < sTim S ((a.toNat : Nat) : Int) b))) = _
  rw [Int.toNat_of_nonneg h]
theorem rcR_s {S : sS} {x r : Int} (h : 0 ≤ r) : rcR S x (r + 1).toNat = rcA S (rcR S x r.toNat) (sCnt S).toNat := by
  rw [show (r + 1).toNat = r.toNat + 1 by omega]
  rfl
def rPart (S : sS) (i o n : Int) : Int := if (0 ≤ i ∧ i < sCnt S) ∧ 0 ≤ o ∧ o < sCnt S then (if 0 ≤ n ∧ n ≤ 9 then (if 0 < n ∧ sRing S o i = true then -3 else 0) else -2) else -1
theorem rPart_1 {S : sS} {i o n : Int} (h : ¬ ((0 ≤ i ∧ i < sCnt S) ∧ 0 ≤ o ∧ o < sCnt S)) : rPart S i o n = -1 := if_neg h
theorem rPart_2 {S : sS} {i o n : Int} (h : (0 ≤ i ∧ i < sCnt S) ∧ 0 ≤ o ∧ o < sCnt S) (h2 : ¬ (0 ≤ n ∧ n ≤ 9)) : rPart S i o n = -2 := by unfold rPart; rw [if_pos h, if_neg h2]
theorem rPart_3 {S : sS} {i o n : Int} (h : (0 ≤ i ∧ i < sCnt S) ∧ 0 ≤ o ∧ o < sCnt S) (h2 : 0 ≤ n ∧ n ≤ 9) (h3 : 0 < n ∧ sRing S o i = true) : rPart S i o n = -3 := by unfold rPart; rw [if_pos h, if_pos h2, if_pos h3]
theorem rPart_0 {S : sS} {i o n : Int} (h : (0 ≤ i ∧ i < sCnt S) ∧ 0 ≤ o ∧ o < sCnt S) (h2 : 0 ≤ n ∧ n ≤ 9) (h3 : ¬ (0 < n ∧ sRing S o i = true)) : rPart S i o n = 0 := by unfold rPart; rw [if_pos h, if_pos h2, if_neg h3]
