def bi (b : Bool) : Int := if b then 1 else 0
theorem bi_01 (b : Bool) : bi b = 0 ∨ bi b = 1 := by cases b <;> simp [bi]
theorem bi_t {b : Bool} (h : bi b ≠ 0) : b = true := by cases b <;> simp [bi] at h ⊢
theorem bi_f {b : Bool} (h : bi b = 0) : b = false := by cases b <;> simp [bi] at h ⊢
theorem rcA_self {S : sS} {R : Int → Bool} {a : Int} (h : 0 ≤ a) : rcA S R (a + 1).toNat a = rcA S R a.toNat a := by
  rw [rcA_s h]
  cases rcA S R a.toNat a <;> simp
theorem rcA_out {S : sS} {T : Int} (hO : sOk S T) {R : Int → Bool} {a b : Int} (h : 0 ≤ a) (hb : sCnt S ≤ b) : rcA S R (a + 1).toNat b = rcA S R a.toNat b := by
  rw [rcA_s h, hO.tim0 a b (by omega)]
  simp
/-- the reference's list of faults -/
def mFl (C : gSt) (Lf : List fQ) : Prop := C 0 17 = (Lf.length : Int) ∧ ∀ (k : Nat) (x : fQ), Lf[k]? = some x → C 13 (k : Int) = x.1 ∧ C 14 (k : Int) = x.2.1 ∧ C 15 (k : Int) = x.2.2.1 ∧ C 16 (k : Int) = x.2.2.2
theorem mFl.kept {C C' : gSt} {Lf : List fQ} (h : mFl C Lf) (h0 : C' 0 17 = C 0 17) (h1 : C' 13 = C 13) (h2 : C' 14 = C 14) (h3 : C' 15 = C 15) (h4 : C' 16 = C 16) : mFl C' Lf := by
  unfold mFl
  rw [h0, h1, h2, h3, h4]
  exact h
theorem mFl_put {C C' : gSt} {Lf : List fQ} (h : mFl C Lf) {a b c d : Int} (e : C' = wr (wr (wr (wr (wr C 13 (Lf.length : Int) a) 14 (Lf.length : Int) b) 15 (Lf.length : Int) c) 16 (Lf.length : Int) d) 0 17 ((Lf.length : Int) + 1)) : mFl C' (Lf ++ [(a, b, c, d)]) ∧ (∀ q : Nat, q ≠ 0 → q ≠ 13 → q ≠ 14 → q ≠ 15 → q ≠ 16 → C' q = C q) ∧ ∀ j : Int, j ≠ 17 → C' 0 j = C 0 j := by
  have h13 : ∀ j : Int, C' 13 j = if j = (Lf.length : Int) then a else C 13 j := fun j => by rw [e, wr_k (by omega), wr_k (by omega), wr_k (by omega), wr_k (by omega), wr_w]
  have h14 : ∀ j : Int, C' 14 j = if j = (Lf.length : Int) then b else C 14 j := fun j => by rw [e, wr_k (by omega), wr_k (by omega), wr_k (by omega), wr_w, wr_k (by omega)]
  have h15 : ∀ j : Int, C' 15 j = if j = (Lf.length : Int) then c else C 15 j := fun j => by rw [e, wr_k (by omega), wr_k (by omega), wr_w, wr_k (by omega), wr_k (by omega)]
  have h16 : ∀ j : Int, C' 16 j = if j = (Lf.length : Int) then d else C 16 j := fun j => by rw [e, wr_k (by omega), wr_w, wr_k (by omega), wr_k (by omega), wr_k (by omega)]
  refine ⟨⟨?_, fun k x hx => ?_⟩, fun q h0 h1 h2 h3 h4 => ?_, fun j hj => ?_⟩
  · rw [e, wr_s, List.length_append]; rfl
  · rw [h13, h14, h15, h16]
    by_cases hk : k < Lf.length
    · rw [List.getElem?_append_left hk] at hx
      rw [if_neg (by omega), if_neg (by omega), if_neg (by omega), if_neg (by omega)]
      exact h.2 k x hx
    · rw [List.getElem?_append_right (by omega)] at hx
      have hz : k - Lf.length < 1 := (List.getElem?_eq_some_iff.mp hx).1
      rw [show k - Lf.length = 0 by omega] at hx
      cases hx
      rw [if_pos (by omega), if_pos (by omega), if_pos (by omega), if_pos (by omega)]
      exact ⟨rfl, rfl, rfl, rfl⟩
  · rw [e, wr_k h0, wr_k h4, wr_k h3, wr_k h2, wr_k h1]
  · rw [e, wr_j hj, wr_k (by omega), wr_k (by omega), wr_k (by omega), wr_k (by omega)]
/-- the reference's own choice: the least so far, a mark where there is none yet -/
def mLe (S : sS) (i : Int) (co : Int → Int) (p : Int) : Nat → Int
  | 0 => if sNet S i p = 0 then co (p + 1) else -9223372036854775808
  | k + 1 => (aCh S i co p (k + 1)).1
theorem mLe_s {S : sS} {T : Int} (hO : sOk S T) {i p q : Int} {co : Int → Int} (h : p ≤ q) (hq : q - p < 12) (hc : ∀ j : Int, p < j → j ≤ q + 1 → 0 ≤ co j ∧ co j ≤ 120000) : mLe S i co p (q + 1 - p).toNat = if mLe S i co p (q - p).toNat = -9223372036854775808 ∨ sPay S i p (q + 1 - p).toNat + co (q + 1) < mLe S i co p (q - p).toNat then sPay S i p (q + 1 - p).toNat + co (q + 1) else mLe S i co p (q - p).toNat := by
  have hs := aCh_s (S := S) (i := i) (co := co) h
  have e1 : mLe S i co p (q + 1 - p).toNat = (aCh S i co p (q + 1 - p).toNat).1 := by rw [show (q + 1 - p).toNat = (q - p).toNat + 1 by omega]; rfl
  have pb := sPay_b hO i p (q + 1 - p).toNat (by omega)
  have n0 := hO.n0 i
  have cb := hc (q + 1) (by omega) (by omega)
  have lb := aCh_b hO (i := i) (p := p) (co := co) (q - p).toNat (by omega) (fun j h1 h2 => hc j h1 (by omega))
  rw [e1, hs]
  generalize hcv : sPay S i p (q + 1 - p).toNat + co (q + 1) = c at *
  by_cases hz : q = p
  · have hk : (q - p).toNat = 0 := by omega
    rw [hk]
    show (if c < (if sNet S i p = 0 then co (p + 1) else aBig) ∨ (c = (if sNet S i p = 0 then co (p + 1) else aBig) ∧ p ≤ p - 1) then (c, q) else ((if sNet S i p = 0 then co (p + 1) else aBig), p - 1)).1 = if (if sNet S i p = 0 then co (p + 1) else -9223372036854775808) = -9223372036854775808 ∨ c < (if sNet S i p = 0 then co (p + 1) else -9223372036854775808) then c else (if sNet S i p = 0 then co (p + 1) else -9223372036854775808)
    have cb1 := hc (p + 1) (by omega) (by omega)
    by_cases hn : sNet S i p = 0
    · rw [if_pos hn, if_pos hn]
      by_cases hb : c < co (p + 1)
      · rw [if_pos (Or.inl hb), if_pos (Or.inr hb)]
      · rw [if_neg (by omega), if_neg (by omega)]
    · rw [if_neg hn, if_neg hn, if_pos (Or.inl (by unfold aBig; omega)), if_pos (Or.inl rfl)]
  · have hk : (q - p).toNat = (q - p - 1).toNat + 1 := by omega
    have e2 : mLe S i co p (q - p).toNat = (aCh S i co p (q - p).toNat).1 := by rw [hk]; rfl
    rw [e2]
    generalize hle : (aCh S i co p (q - p).toNat).1 = le at lb ⊢
    by_cases hb : c < le
    · rw [if_pos (Or.inl hb), if_pos (Or.inr hb)]
    · rw [if_neg (show ¬ (le = -9223372036854775808 ∨ c < le) by omega)]
      split
      · rename_i hx
        show c = le
        omega
      · exact hle
theorem mLe_b {S : sS} {T : Int} (hO : sOk S T) {i p : Int} {co : Int → Int} (k : Nat) (hk : k ≤ 12) (hc : ∀ j : Int, p < j → (j ≤ p + (k : Int) ∨ j = p + 1) → 0 ≤ co j ∧ co j ≤ 120000) : -9223372036854775808 ≤ mLe S i co p k ∧ mLe S i co p k ≤ 9223372036854775807 := by
  cases k with
  | zero =>
    have := hc (p + 1) (by omega) (by omega)
    show -9223372036854775808 ≤ (if _ then _ else _) ∧ (if _ then _ else _) ≤ _
    split <;> omega
  | succ k =>
    have := aCh_b hO (i := i) (p := p) (co := co) (k + 1) hk hc
    unfold aBig at this
    show -9223372036854775808 ≤ (aCh S i co p (k + 1)).1 ∧ (aCh S i co p (k + 1)).1 ≤ _
    omega
theorem mul3 (n d h : Int) : n * d * h = h * n * d := by rw [Int.mul_comm (n * d) h, Int.mul_assoc]
/-- the last of the first k lots in p that costs le -/
def mQ (S : sS) (i : Int) (co : Int → Int) (p le : Int) : Nat → Int
  | 0 => p
  | k + 1 => if sPay S i p (k + 1) + co (p + (k : Int) + 1) = le then p + (k : Int) else mQ S i co p le k
theorem mQ_s {S : sS} {i p q le : Int} {co : Int → Int} (h : p ≤ q) : mQ S i co p le (q + 1 - p).toNat = if sPay S i p (q + 1 - p).toNat + co (q + 1) = le then q else mQ S i co p le (q - p).toNat := by
  rw [show (q + 1 - p).toNat = (q - p).toNat + 1 by omega]
  show (if _ = le then _ else _) = _
  rw [show p + (((q - p).toNat : Nat) : Int) = q by omega]
theorem mQ_max {S : sS} {i p le : Int} {co : Int → Int} {u : Nat} : ∀ k : Nat, u < k → sPay S i p (u + 1) + co (p + (u : Int) + 1) = le → (∀ j : Nat, u < j → j < k → sPay S i p (j + 1) + co (p + (j : Int) + 1) ≠ le) → mQ S i co p le k = p + (u : Int)
  | 0, h, _, _ => by omega
  | k + 1, h, he, hn => by
    show (if _ = le then _ else _) = _
    by_cases hk : u = k
    · rw [← hk, if_pos he]
    · rw [if_neg (hn k (by omega) (by omega))]
      exact mQ_max k (by omega) he (fun j h1 h2 => hn j h1 (by omega))
theorem mQ_b {S : sS} {i p le : Int} {co : Int → Int} : ∀ k : Nat, p ≤ mQ S i co p le k ∧ mQ S i co p le k ≤ p + (k : Int)
  | 0 => by show p ≤ p ∧ p ≤ _; omega
  | k + 1 => by
    have := mQ_b (S := S) (i := i) (p := p) (le := le) (co := co) k
    show p ≤ (if _ = le then _ else _) ∧ (if _ = le then _ else _) ≤ _
    push_cast
    split <;> omega
/-- the class's choice in p, told as the reference tells it -/
theorem aUnt_i {S : sS} {T : Int} (hO : sOk S T) {i p : Int} (h1 : 1 ≤ p) (h2 : p ≤ T) : (aUnt S T i p = p - 1 ∧ sNet S i p = 0 ∧ aCost S T i p = aCost S T i (p + 1)) ∨ (p ≤ aUnt S T i p ∧ (0 < sNet S i p ∨ aCost S T i p < aCost S T i (p + 1)) ∧ mQ S i (aCo S T i (T - p).toNat) p (aCost S T i p) (aEnd S T i p + 1 - p).toNat = aUnt S T i p) := by
  have he := aEnd_b hO (i := i) h2
  have ht := hO.t
  have hnb := sNet_b hO i p
  have hcn : aCo S T i (T - p).toNat (p + 1) = aCost S T i (p + 1) := aCo_cost (by omega) (by omega)
  have hcb := aCost_b hO i (p := p) h1 (by omega)
  have hi := aCh_i (S := S) (i := i) (p := p) (co := aCo S T i (T - p).toNat) (aEnd S T i p - p + 1).toNat
  have e1 : aCost S T i p = (aCh S i (aCo S T i (T - p).toNat) p (aEnd S T i p - p + 1).toNat).1 := aCost_s h2
  have e2 : aUnt S T i p = (aCh S i (aCo S T i (T - p).toNat) p (aEnd S T i p - p + 1).toNat).2 := rfl
  rw [← e1, ← e2, hcn] at hi
  rcases hi with ⟨i1, i2, i3⟩ | ⟨u, i1, i2, i3, i4, i5, i6⟩
  · left
    by_cases hn : sNet S i p = 0
    · rw [if_pos hn] at i2
      exact ⟨i1, hn, i2⟩
    · rw [if_neg hn] at i2
      unfold aBig at i2
      omega
  · right
    refine ⟨by omega, ?_, ?_⟩
    · by_cases hn : sNet S i p = 0
      · rw [if_pos hn] at i4
        exact Or.inr i4
      · exact Or.inl (by omega)
    · rw [i2, show (aEnd S T i p + 1 - p).toNat = (aEnd S T i p - p + 1).toNat by omega]
      exact mQ_max _ i1 i3.symm (fun j h3 h4 => by have := i6 j h3 h4; omega)
theorem aNx_run {S : sS} {T i p p' : Int} (hp : 1 ≤ p) (h : aNx S T i p.toNat = p') : ∀ n : Nat, p + (n : Int) < p' → aNx S T i (p + (n : Int)).toNat = p'
  | 0, _ => by rw [show p + ((0 : Nat) : Int) = p by simp]; exact h
  | n + 1, hn => by
    have ih := aNx_run hp h n (by push_cast at hn; omega)
    rw [aNx_s (p := p + ((n + 1 : Nat) : Int)) (by omega), show p + ((n + 1 : Nat) : Int) - 1 = p + (n : Int) by push_cast; omega, ih, if_neg (by push_cast at hn ⊢; omega)]
