/-- the reference's store: run for item i through period n -/
def mRun (S : sS) (i : Int) (C : gSt) (n : Int) : Prop := (∀ j : Int, 0 ≤ j → j ≤ n → C 10 j = smL (sRun S i j.toNat).1 (j.toNat + 1) ∧ C 8 j = (sRun S i j.toNat).2) ∧ ∀ j : Int, 1 ≤ j → j ≤ n → C 9 j = sGone S i (j - 1).toNat
theorem sRun_z {S : sS} {i : Int} : ∀ (n : Nat) (j : Int), (n : Int) < j → (sRun S i n).1 j = 0
  | 0, j, h => by show (if j = 0 then _ else _) = _; rw [if_neg (by omega)]
  | n + 1, j, h => by
    have h1 : (sTk S i n).1 j = 0 := by
      unfold sTk
      rw [tkL_hi _ _ (by push_cast at h ⊢; omega), upI_n (by push_cast at h; omega)]
      exact sRun_z n j (by push_cast at h; omega)
    rw [sRun_s]
    show (if _ then _ else _ : Int → Int) j = 0
    split
    · by_cases hj : j = (n : Int) + 1 - sNum S i 3
      · rw [hj, upI_s]
      · rw [upI_n hj]; exact h1
    · exact h1
/-- what the taking of period p starts from -/
def mL0 (S : sS) (i p : Int) : Int → Int := upI (sRun S i (p - 1).toNat).1 p (sCome S i p)
def mW0 (S : sS) (i p : Int) : Int := (sRun S i (p - 1).toNat).2 + sGross S i p
theorem mTk {S : sS} {i p : Int} (hp : 1 ≤ p) : tkL (mL0 S i p) (mW0 S i p) (p + 1).toNat = sTk S i (p - 1).toNat := by
  unfold mL0 mW0 sTk sWant
  rw [show (((p - 1).toNat : Nat) : Int) + 1 = p by omega, show (p - 1).toNat + 2 = (p + 1).toNat by omega]
theorem mRun_s {S : sS} {i p : Int} (hp : 1 ≤ p) : sRun S i p.toNat = (if 0 < sNum S i 3 ∧ sNum S i 3 ≤ p then upI (sTk S i (p - 1).toNat).1 (p - sNum S i 3) 0 else (sTk S i (p - 1).toNat).1, (sTk S i (p - 1).toNat).2) := by
  have h := sRun_s (S := S) (i := i) (n := (p - 1).toNat)
  rw [show (((p - 1).toNat : Nat) : Int) + 1 = p by omega, show (p - 1).toNat + 1 = p.toNat by omega] at h
  exact h
theorem mGone {S : sS} {i p : Int} (hp : 1 ≤ p) : sGone S i (p - 1).toNat = if 0 < sNum S i 3 ∧ sNum S i 3 ≤ p then (sTk S i (p - 1).toNat).1 (p - sNum S i 3) else 0 := by
  unfold sGone
  rw [show (((p - 1).toNat : Nat) : Int) + 1 = p by omega]
theorem mL0_b {S : sS} {T : Int} (h : sOk S T) (i : Int) {p : Int} (hp : 1 ≤ p) (j : Int) (hj : 0 ≤ j) : 0 ≤ mL0 S i p j ∧ mL0 S i p j ≤ 5000 := by
  have h1 := (sRun_b h i (p - 1).toNat).1 j hj
  have h2 := sCome_b h i p
  unfold mL0
  by_cases hz : j = p
  · rw [hz, upI_s]; exact h2
  · rw [upI_n hz]; exact h1
theorem mW0_b {S : sS} {T : Int} (h : sOk S T) (i : Int) {p : Int} (hp : 1 ≤ p) (hp2 : p ≤ 12) : 0 ≤ mW0 S i p ∧ mW0 S i p ≤ 4000000 := by
  have h1 := (sRun_b h i (p - 1).toNat).2
  have h2 := sGross_b h i p
  unfold mW0
  omega
