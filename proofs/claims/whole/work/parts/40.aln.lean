/-! ===== ALONE ===== -/
/-- what is left of START behind period n -/
def sLft (S : sS) (i : Int) : Nat → Int
  | 0 => sNum S i 4
  | n + 1 => sLft S i n - min (sLft S i n) (sNee S i ((n : Int) + 1))
def sNet (S : sS) (i p : Int) : Int := sNee S i p - min (sLft S i (p - 1).toNat) (sNee S i p)
theorem sLft_b {S : sS} {T : Int} (h : sOk S T) (i : Int) : ∀ n : Nat, 0 ≤ sLft S i n ∧ sLft S i n ≤ 1000
  | 0 => h.n4 i
  | n + 1 => by
    have ih := sLft_b h i n
    have h1 := h.nee i ((n : Int) + 1)
    show 0 ≤ sLft S i n - _ ∧ sLft S i n - _ ≤ 1000
    omega
theorem sNet_b {S : sS} {T : Int} (h : sOk S T) (i p : Int) : 0 ≤ sNet S i p ∧ sNet S i p ≤ 1000 := by
  have h1 := sLft_b h i (p - 1).toNat
  have h2 := h.nee i p
  unfold sNet
  omega
theorem sLft_s {S : sS} {i p : Int} (h : 1 ≤ p) : sLft S i p.toNat = sLft S i (p - 1).toNat - min (sLft S i (p - 1).toNat) (sNee S i p) := by
  rw [show p.toNat = (p - 1).toNat + 1 by omega]
  show _ - min _ (sNee S i (((p - 1).toNat : Nat) + 1 : Int)) = _
  rw [show (((p - 1).toNat : Nat) : Int) + 1 = p by omega]
/-- the sum of the nets of k periods from p on -/
def sSum (S : sS) (i p : Int) : Nat → Int
  | 0 => 0
  | k + 1 => sSum S i p k + sNet S i (p + (k : Int))
/-- what a lot in p for k periods pays: SETUP and HOLD -/
def sPay (S : sS) (i p : Int) : Nat → Int
  | 0 => sNum S i 0
  | k + 1 => sPay S i p k + sNum S i 1 * sNet S i (p + (k : Int)) * (k : Int)
def aBig : Int := 9223372036854775807
/-- of the first k lots in p (for p .. p + k - 1): the least cost and until when, co being what is paid from a period on -/
def aCh (S : sS) (i : Int) (co : Int → Int) (p : Int) : Nat → Int × Int
  | 0 => (if sNet S i p = 0 then co (p + 1) else aBig, p - 1)
  | k + 1 => if sPay S i p (k + 1) + co (p + (k : Int) + 1) < (aCh S i co p k).1 ∨ (sPay S i p (k + 1) + co (p + (k : Int) + 1) = (aCh S i co p k).1 ∧ p ≤ (aCh S i co p k).2) then (sPay S i p (k + 1) + co (p + (k : Int) + 1), p + (k : Int)) else aCh S i co p k
/-- the last period that a lot in p may be for -/
def aEnd (S : sS) (T i p : Int) : Int := if 0 < sNum S i 3 then min T (p + sNum S i 3) else T
def aAll (S : sS) (T i : Int) (co : Int → Int) (p : Int) : Int × Int := aCh S i co p (aEnd S T i p - p + 1).toNat
/-- what is paid from each period on, worked out for the last n periods -/
def aCo (S : sS) (T i : Int) : Nat → Int → Int
  | 0 => fun _ => 0
  | n + 1 => upI (aCo S T i n) (T - (n : Int)) (aAll S T i (aCo S T i n) (T - (n : Int))).1
def aCost (S : sS) (T i p : Int) : Int := aCo S T i (T + 1 - p).toNat p
def aUnt (S : sS) (T i p : Int) : Int := (aAll S T i (aCo S T i (T - p).toNat) p).2
theorem aCo_hi {S : sS} {T i : Int} : ∀ (n m : Nat) (j : Int), T - (n : Int) < j → aCo S T i (n + m) j = aCo S T i n j
  | _, 0, _, _ => rfl
  | n, m + 1, j, h => by
    show upI (aCo S T i (n + m)) (T - ((n + m : Nat) : Int)) _ j = _
    rw [upI_n (by push_cast; omega)]
    exact aCo_hi n m j h
theorem aCo_cost {S : sS} {T i : Int} {n : Nat} {j : Int} (h : T - (n : Int) < j) (hj : j ≤ T + 1) : aCo S T i n j = aCost S T i j := by
  unfold aCost
  have e : n = (T + 1 - j).toNat + (n - (T + 1 - j).toNat) := by omega
  rw [e]
  exact aCo_hi _ _ _ (by omega)
theorem aCost_s {S : sS} {T i p : Int} (h : p ≤ T) : aCost S T i p = (aAll S T i (aCo S T i (T - p).toNat) p).1 := by
  unfold aCost
  rw [show (T + 1 - p).toNat = (T - p).toNat + 1 by omega]
  show upI (aCo S T i (T - p).toNat) (T - (((T - p).toNat : Nat) : Int)) _ p = _
  rw [show T - (((T - p).toNat : Nat) : Int) = p by omega, upI_s]
theorem sPay_b {S : sS} {T : Int} (h : sOk S T) (i p : Int) : ∀ k : Nat, k ≤ 12 → sNum S i 0 ≤ sPay S i p k ∧ sPay S i p k ≤ 10000 + 1200000 * (k : Int)
  | 0, _ => by have := h.n0 i; show sNum S i 0 ≤ sNum S i 0 ∧ sNum S i 0 ≤ _; omega
  | k + 1, hk => by
    have ih := sPay_b h i p k (by omega)
    have h1 := h.n1 i
    have h2 := sNet_b h i (p + (k : Int))
    have h3 : sNum S i 1 * sNet S i (p + (k : Int)) ≤ 100 * 1000 := Int.mul_le_mul h1.2 h2.2 h2.1 (by omega)
    have h4 : 0 ≤ sNum S i 1 * sNet S i (p + (k : Int)) := Int.mul_nonneg h1.1 h2.1
    have h5 : sNum S i 1 * sNet S i (p + (k : Int)) * (k : Int) ≤ 100000 * 12 := Int.mul_le_mul (by omega) (by omega) (by omega) (by omega)
    have h6 : 0 ≤ sNum S i 1 * sNet S i (p + (k : Int)) * (k : Int) := Int.mul_nonneg h4 (by omega)
    show sNum S i 0 ≤ sPay S i p k + _ ∧ sPay S i p k + _ ≤ _
    push_cast
    omega
/-- the walk over the lots keeps: either nothing is made yet, or a lot that costs least and is the longest of those -/
theorem aCh_i {S : sS} {i p : Int} {co : Int → Int} : ∀ k : Nat, ((aCh S i co p k).2 = p - 1 ∧ (aCh S i co p k).1 = (if sNet S i p = 0 then co (p + 1) else aBig) ∧ ∀ j : Nat, j < k → (aCh S i co p k).1 ≤ sPay S i p (j + 1) + co (p + (j : Int) + 1)) ∨
    (∃ u : Nat, u < k ∧ (aCh S i co p k).2 = p + (u : Int) ∧ (aCh S i co p k).1 = sPay S i p (u + 1) + co (p + (u : Int) + 1) ∧ (aCh S i co p k).1 < (if sNet S i p = 0 then co (p + 1) else aBig) ∧ (∀ j : Nat, j < k → (aCh S i co p k).1 ≤ sPay S i p (j + 1) + co (p + (j : Int) + 1)) ∧ ∀ j : Nat, u < j → j < k → (aCh S i co p k).1 < sPay S i p (j + 1) + co (p + (j : Int) + 1))
  | 0 => Or.inl ⟨rfl, rfl, fun j h => by omega⟩
  | k + 1 => by
    have ih := aCh_i (S := S) (i := i) (p := p) (co := co) k
    generalize hle : (aCh S i co p k).1 = le at ih
    generalize hun : (aCh S i co p k).2 = un at ih
    generalize hc : sPay S i p (k + 1) + co (p + (k : Int) + 1) = c
    have e : aCh S i co p (k + 1) = if c < le ∨ (c = le ∧ p ≤ un) then (c, p + (k : Int)) else aCh S i co p k := by
      show (if _ ∨ _ then _ else _) = _
      rw [hc, hle, hun]
    rw [e]
    by_cases hb : c < le ∨ (c = le ∧ p ≤ un)
    · rw [if_pos hb]
      right
      refine ⟨k, by omega, rfl, hc.symm, ?_, fun j hj => ?_, fun j h1 h2 => by omega⟩
      · show c < _
        rcases ih with ⟨i1, i2, i3⟩ | ⟨u, i1, i2, i3, i4, i5, i6⟩
        · omega
        · omega
      · show c ≤ _
        by_cases hj2 : j = k
        · rw [hj2, hc]; exact Int.le_refl _
        · rcases ih with ⟨i1, i2, i3⟩ | ⟨u, i1, i2, i3, i4, i5, i6⟩
          · have := i3 j (by omega); omega
          · have := i5 j (by omega); omega
    · rw [if_neg hb, hle, hun]
      rcases ih with ⟨i1, i2, i3⟩ | ⟨u, i1, i2, i3, i4, i5, i6⟩
      · left
        refine ⟨i1, i2, fun j hj => ?_⟩
        by_cases hj2 : j = k
        · rw [hj2, hc]; omega
        · exact i3 j (by omega)
      · right
        refine ⟨u, by omega, i2, i3, i4, fun j hj => ?_, fun j h1 h2 => ?_⟩
        · by_cases hj2 : j = k
          · rw [hj2, hc]; omega
          · exact i5 j (by omega)
        · by_cases hj2 : j = k
          · rw [hj2, hc]; omega
          · exact i6 j h1 (by omega)
theorem aEnd_b {S : sS} {T : Int} (h : sOk S T) {i p : Int} (hp : p ≤ T) : p ≤ aEnd S T i p ∧ aEnd S T i p ≤ T := by
  have := h.n3 i
  unfold aEnd
  split <;> omega
theorem aCo_b {S : sS} {T : Int} (h : sOk S T) (i : Int) : ∀ n : Nat, (n : Int) ≤ T → ∀ j : Int, T - (n : Int) < j → j ≤ T + 1 → 0 ≤ aCo S T i n j ∧ aCo S T i n j ≤ 10000 * (n : Int)
  | 0, _, j, _, _ => by show (0 : Int) ≤ 0 ∧ (0 : Int) ≤ _; omega
  | n + 1, hn, j, h1, h2 => by
    have ih := aCo_b h i n (by push_cast at hn; omega)
    show 0 ≤ upI (aCo S T i n) (T - (n : Int)) _ j ∧ upI (aCo S T i n) (T - (n : Int)) _ j ≤ _
    have ht := h.t
    by_cases hj : j = T - (n : Int)
    · rw [hj, upI_s]
      have he := aEnd_b h (i := i) (p := T - (n : Int)) (by omega)
      have h0 := h.n0 i
      have hi := aCh_i (S := S) (i := i) (p := T - (n : Int)) (co := aCo S T i n) (aEnd S T i (T - (n : Int)) - (T - (n : Int)) + 1).toNat
      unfold aAll
      have c1 := ih (T - (n : Int) + 1) (by omega) (by omega)
      have hp1 : sPay S i (T - (n : Int)) 1 = sNum S i 0 := by show sNum S i 0 + _ * ((0 : Nat) : Int) = _; simp
      have hfirst : (aCh S i (aCo S T i n) (T - (n : Int)) (aEnd S T i (T - (n : Int)) - (T - (n : Int)) + 1).toNat).1 ≤ sNum S i 0 + aCo S T i n (T - (n : Int) + 1) := by
        have hz : ∀ x : Int, x ≤ sPay S i (T - (n : Int)) (0 + 1) + aCo S T i n (T - (n : Int) + ((0 : Nat) : Int) + 1) → x ≤ sNum S i 0 + aCo S T i n (T - (n : Int) + 1) := fun x hx => by
          rw [show (0 + 1 : Nat) = 1 from rfl, hp1, show T - (n : Int) + ((0 : Nat) : Int) + 1 = T - (n : Int) + 1 by simp] at hx
          exact hx
        rcases hi with ⟨i1, i2, i3⟩ | ⟨u, i1, i2, i3, i4, i5, i6⟩
        · exact hz _ (i3 0 (by omega))
        · exact hz _ (i5 0 (by omega))
      refine ⟨?_, by push_cast; omega⟩
      rcases hi with ⟨i1, i2, i3⟩ | ⟨u, i1, i2, i3, i4, i5, i6⟩
      · rw [i2]
        split
        · exact c1.1
        · unfold aBig; omega
      · rw [i3]
        have c2 := ih (T - (n : Int) + (u : Int) + 1) (by omega) (by omega)
        have c3 := sPay_b h i (T - (n : Int)) (u + 1) (by omega)
        omega
    · rw [upI_n hj]
      have := ih j (by push_cast at h1; omega) h2
      push_cast
      omega
theorem aCost_b {S : sS} {T : Int} (h : sOk S T) (i : Int) {p : Int} (h1 : 1 ≤ p) (h2 : p ≤ T + 1) : 0 ≤ aCost S T i p ∧ aCost S T i p ≤ 120000 := by
  have ht := h.t
  have := aCo_b h i (T + 1 - p).toNat (by omega) p (by omega) h2
  unfold aCost
  omega
theorem aCost_T {S : sS} {T i : Int} : aCost S T i (T + 1) = 0 := by
  unfold aCost
  rw [show (T + 1 - (T + 1)).toNat = 0 by omega]
  rfl
/-- only co above p counts -/
theorem aCh_congr {S : sS} {i p : Int} {co co' : Int → Int} : ∀ k : Nat, (∀ j : Int, p < j → j ≤ p + (k : Int) + 1 → co j = co' j) → aCh S i co p k = aCh S i co' p k
  | 0, h => by show (if _ then co (p + 1) else _, _) = (if _ then co' (p + 1) else _, _); rw [h (p + 1) (by omega) (by omega)]
  | k + 1, h => by
    have ih := aCh_congr (S := S) (i := i) k (fun j h1 h2 => h j h1 (by push_cast; omega))
    show (if _ ∨ _ then _ else _) = (if _ ∨ _ then _ else _)
    rw [ih, h (p + (k : Int) + 1) (by omega) (by push_cast; omega)]
/-- one step of the choice, with what is paid so far -/
theorem aCh_s {S : sS} {i p q : Int} {co : Int → Int} (h : p ≤ q) : aCh S i co p (q + 1 - p).toNat = if sPay S i p (q + 1 - p).toNat + co (q + 1) < (aCh S i co p (q - p).toNat).1 ∨ (sPay S i p (q + 1 - p).toNat + co (q + 1) = (aCh S i co p (q - p).toNat).1 ∧ p ≤ (aCh S i co p (q - p).toNat).2) then (sPay S i p (q + 1 - p).toNat + co (q + 1), q) else aCh S i co p (q - p).toNat := by
  rw [show (q + 1 - p).toNat = (q - p).toNat + 1 by omega]
  show (if _ ∨ _ then _ else _) = _
  rw [show p + (((q - p).toNat : Nat) : Int) = q by omega]
theorem sPay_s {S : sS} {i p q : Int} (h : p ≤ q) : sPay S i p (q + 1 - p).toNat = sPay S i p (q - p).toNat + sNum S i 1 * sNet S i q * (q - p) := by
  rw [show (q + 1 - p).toNat = (q - p).toNat + 1 by omega]
  show sPay S i p (q - p).toNat + sNum S i 1 * sNet S i (p + (((q - p).toNat : Nat) : Int)) * (((q - p).toNat : Nat) : Int) = _
  rw [show p + (((q - p).toNat : Nat) : Int) = q by omega, show (((q - p).toNat : Nat) : Int) = q - p by omega]
theorem sSum_s {S : sS} {i p q : Int} (h : p ≤ q) : sSum S i p (q + 1 - p).toNat = sSum S i p (q - p).toNat + sNet S i q := by
  rw [show (q + 1 - p).toNat = (q - p).toNat + 1 by omega]
  show sSum S i p (q - p).toNat + sNet S i (p + (((q - p).toNat : Nat) : Int)) = _
  rw [show p + (((q - p).toNat : Nat) : Int) = q by omega]
theorem sSum_b {S : sS} {T : Int} (h : sOk S T) (i p : Int) : ∀ k : Nat, 0 ≤ sSum S i p k ∧ sSum S i p k ≤ 1000 * (k : Int)
  | 0 => by show (0 : Int) ≤ 0 ∧ (0 : Int) ≤ _; omega
  | k + 1 => by
    have ih := sSum_b h i p k
    have h2 := sNet_b h i (p + (k : Int))
    show 0 ≤ sSum S i p k + _ ∧ sSum S i p k + _ ≤ _
    push_cast
    omega
theorem aUnt_b {S : sS} {T : Int} (h : sOk S T) {i p : Int} (h1 : 1 ≤ p) (hp : p ≤ T) : p - 1 ≤ aUnt S T i p ∧ aUnt S T i p ≤ T := by
  have he := aEnd_b h (i := i) hp
  unfold aUnt aAll
  rcases aCh_i (S := S) (i := i) (p := p) (co := aCo S T i (T - p).toNat) (aEnd S T i p - p + 1).toNat with ⟨i1, -, -⟩ | ⟨u, i1, i2, -⟩ <;> omega
/-- the amount in a period of the row, and the period that is next behind period n -/
def aAm (S : sS) (T i p : Int) : Int := sSum S i p (aUnt S T i p + 1 - p).toNat
def aNx (S : sS) (T i : Int) : Nat → Int
  | 0 => 1
  | n + 1 => if (n : Int) + 1 = aNx S T i n then max ((n : Int) + 1) (aUnt S T i ((n : Int) + 1)) + 1 else aNx S T i n
def sBestLot (S : sS) (T i p : Int) : Int := if p = aNx S T i (p - 1).toNat then aAm S T i p else 0
theorem aNx_s {S : sS} {T i p : Int} (h : 1 ≤ p) : aNx S T i p.toNat = if p = aNx S T i (p - 1).toNat then max p (aUnt S T i p) + 1 else aNx S T i (p - 1).toNat := by
  rw [show p.toNat = (p - 1).toNat + 1 by omega]
  show (if (((p - 1).toNat : Nat) : Int) + 1 = aNx S T i (p - 1).toNat then max ((((p - 1).toNat : Nat) : Int) + 1) (aUnt S T i ((((p - 1).toNat : Nat) : Int) + 1)) + 1 else aNx S T i (p - 1).toNat) = _
  rw [show (((p - 1).toNat : Nat) : Int) + 1 = p by omega]
theorem aNx_b {S : sS} {T : Int} (h : sOk S T) (i : Int) : ∀ n : Nat, (n : Int) ≤ T → (n : Int) < aNx S T i n ∧ aNx S T i n ≤ T + 1
  | 0, _ => by have := h.t; show (0 : Int) < 1 ∧ (1 : Int) ≤ _; omega
  | n + 1, hn => by
    have ih := aNx_b h i n (by push_cast at hn; omega)
    have hu := aUnt_b h (i := i) (p := (n : Int) + 1) (by omega) (by push_cast at hn; omega)
    unfold aNx
    split
    · push_cast; omega
    · push_cast; omega
theorem aAm_b {S : sS} {T : Int} (h : sOk S T) {i p : Int} (h1 : 1 ≤ p) (hp : p ≤ T) : 0 ≤ aAm S T i p ∧ aAm S T i p ≤ 13000 := by
  have ht := h.t
  have hu := aUnt_b h (i := i) h1 hp
  have := sSum_b h i p (aUnt S T i p + 1 - p).toNat
  unfold aAm
  omega
theorem aCh_b {S : sS} {T : Int} (h : sOk S T) {i p : Int} {co : Int → Int} : ∀ k : Nat, k ≤ 12 → (∀ j : Int, p < j → (j ≤ p + (k : Int) ∨ j = p + 1) → 0 ≤ co j ∧ co j ≤ 120000) → 0 ≤ (aCh S i co p k).1 ∧ (aCh S i co p k).1 ≤ aBig
  | 0, _, hc => by
    have := hc (p + 1) (by omega) (by omega)
    show 0 ≤ (if sNet S i p = 0 then co (p + 1) else aBig) ∧ (if sNet S i p = 0 then co (p + 1) else aBig) ≤ aBig
    unfold aBig
    split <;> omega
  | k + 1, hk, hc => by
    have ih := aCh_b h (i := i) k (by omega) (fun j h1 h2 => hc j h1 (by push_cast; omega))
    have h1 := hc (p + (k : Int) + 1) (by omega) (by push_cast; omega)
    have h2 := sPay_b h i p (k + 1) hk
    have h3 := h.n0 i
    unfold aCh
    split
    · show 0 ≤ sPay S i p (k + 1) + co (p + (k : Int) + 1) ∧ sPay S i p (k + 1) + co (p + (k : Int) + 1) ≤ aBig
      unfold aBig
      push_cast at h2
      omega
    · exact ih
theorem aCh_u {S : sS} {i p : Int} {co : Int → Int} (k : Nat) : p - 1 ≤ (aCh S i co p k).2 ∧ (aCh S i co p k).2 < p + (k : Int) := by
  rcases aCh_i (S := S) (i := i) (p := p) (co := co) k with ⟨i1, -, -⟩ | ⟨u, i1, i2, -⟩ <;> omega
