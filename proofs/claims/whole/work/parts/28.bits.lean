/-! ===== masks of six bits ===== -/
def b2 (i : Int) : Int := ((2 ^ i.toNat : Nat) : Int)
def bOr (a b : Int) : Int := ((a.toNat ||| b.toNat : Nat) : Int)
def bAnd (a b : Int) : Int := ((a.toNat &&& b.toNat : Nat) : Int)
def sb (m j : Int) : Bool := m.toNat.testBit j.toNat
theorem bt_or : ∀ a, a < 64 → ∀ b, b < 64 → (nI a ||| nI b) = nI (a ||| b) := by decide +kernel
theorem bt_and : ∀ a, a < 64 → ∀ b, b < 64 → (nI a &&& nI b) = nI (a &&& b) := by decide +kernel
theorem bt_shl : ∀ i, i < 6 → ((1 : Int32) <<< (nI i &&& 31)) = nI (2 ^ i) := by decide +kernel
theorem bt_orlt : ∀ a, a < 64 → ∀ b, b < 64 → (a ||| b) < 64 := by decide +kernel
theorem bt_andlt : ∀ a, a < 64 → ∀ b, b < 64 → (a &&& b) < 64 := by decide +kernel
theorem bt_pw : ∀ i, i < 6 → 2 ^ i < 64 := by decide +kernel
theorem bt_tb : ∀ a, a < 64 → ∀ i, i < 6 → ((a &&& 2 ^ i) = 0 ↔ a.testBit i = false) := by decide +kernel
theorem iI_toN {a : Int} (h : 0 ≤ a) : iI a = nI a.toNat := by rw [← iI_nI, Int.toNat_of_nonneg h]
theorem b2_b {i : Int} (h0 : 0 ≤ i) (h6 : i < 6) : 0 ≤ b2 i ∧ b2 i < 64 := by
  have := bt_pw i.toNat (by omega)
  unfold b2
  generalize 2 ^ i.toNat = x at this ⊢
  omega
theorem bOr_b {a b : Int} (ha : 0 ≤ a ∧ a < 64) (hb : 0 ≤ b ∧ b < 64) : 0 ≤ bOr a b ∧ bOr a b < 64 := by
  have := bt_orlt a.toNat (by omega) b.toNat (by omega)
  unfold bOr
  omega
theorem bAnd_b {a b : Int} (ha : 0 ≤ a ∧ a < 64) (hb : 0 ≤ b ∧ b < 64) : 0 ≤ bAnd a b ∧ bAnd a b < 64 := by
  have := bt_andlt a.toNat (by omega) b.toNat (by omega)
  unfold bAnd
  omega
theorem bAnd_0 {m i : Int} (hm : 0 ≤ m ∧ m < 64) (h0 : 0 ≤ i) (h6 : i < 6) : bAnd m (b2 i) = 0 ↔ sb m i = false := by
  unfold bAnd b2 sb
  rw [Int.toNat_natCast, ← bt_tb m.toNat (by omega) i.toNat (by omega)]
  omega
theorem sb_or {a b j : Int} : sb (bOr a b) j = (sb a j || sb b j) := by
  unfold sb bOr
  rw [Int.toNat_natCast, Nat.testBit_or]
theorem sb_b2 {i j : Int} (hi : 0 ≤ i) (hj : 0 ≤ j) : sb (b2 i) j = decide (i = j) := by
  unfold sb b2
  rw [Int.toNat_natCast, Nat.testBit_two_pow]
  by_cases h : i = j
  · rw [h]; simp
  · rw [decide_eq_false h, decide_eq_false (by omega)]
theorem sb_0 {j : Int} : sb 0 j = false := by unfold sb; simp
section GGB
variable {K : gK} {B : gB} {C : gSt} {l : Launch} {R : Room} {nL : Nat} {cc : ByteArray} {own : String} {Ts : List Cond} {pc : Nat} {lv : gLv} {st : List Value}
theorem gg_ishl (k : gOk K B l R nL cc own Ts) {i : Int} (h0 : 0 ≤ i) (h6 : i < 6) (hd : decode cc pc = .ok (.ishl, 1)) (h : GG K B C (pc + 1) lv (.int (iI (b2 i)) :: st)) : GG K B C pc lv (.int (iI i) :: .int (iI 1) :: st) :=
  gg_go k (fun _ _ _ _ _ _ _ _ _ _ _ _ hx hb _ _ _ _ hw => lv_ishl hx hb hd (by
    have e : (iI 1 <<< (iI i &&& 31)) = iI (b2 i) := by
      rw [iI_toN h0, show iI 1 = 1 by decide +kernel, bt_shl i.toNat (by omega)]
      unfold b2
      exact (iI_nI _).symm
    rw [e]; exact hw)) h
theorem gg_ior (k : gOk K B l R nL cc own Ts) {a b : Int} (ha : 0 ≤ a ∧ a < 64) (hb0 : 0 ≤ b ∧ b < 64) (hd : decode cc pc = .ok (.ior, 1)) (h : GG K B C (pc + 1) lv (.int (iI (bOr a b)) :: st)) : GG K B C pc lv (.int (iI b) :: .int (iI a) :: st) :=
  gg_go k (fun _ _ _ _ _ _ _ _ _ _ _ _ hx hb _ _ _ _ hw => lv_ior hx hb hd (by
    have e : (iI a ||| iI b) = iI (bOr a b) := by
      rw [iI_toN ha.1, iI_toN hb0.1, bt_or a.toNat (by omega) b.toNat (by omega)]
      unfold bOr
      exact (iI_nI _).symm
    rw [e]; exact hw)) h
theorem gg_iand (k : gOk K B l R nL cc own Ts) {a b : Int} (ha : 0 ≤ a ∧ a < 64) (hb0 : 0 ≤ b ∧ b < 64) (hd : decode cc pc = .ok (.iand, 1)) (h : GG K B C (pc + 1) lv (.int (iI (bAnd a b)) :: st)) : GG K B C pc lv (.int (iI b) :: .int (iI a) :: st) :=
  gg_go k (fun _ _ _ _ _ _ _ _ _ _ _ _ hx hb _ _ _ _ hw => lv_iand hx hb hd (by
    have e : (iI a &&& iI b) = iI (bAnd a b) := by
      rw [iI_toN ha.1, iI_toN hb0.1, bt_and a.toNat (by omega) b.toNat (by omega)]
      unfold bAnd
      exact (iI_nI _).symm
    rw [e]; exact hw)) h
end GGB
/-! ===== SET-UPS, TIME, OVER ===== -/
/-- for which item the machine stands, in period p, behind the first k items, b before -/
def sStI (S : sS) (p b : Int) : Nat → Int
  | 0 => b
  | k + 1 => if (k : Int) ≠ b ∧ 0 < sLot S k p then k else sStI S p b k
def sSt (S : sS) : Nat → Int
  | 0 => -3
  | n + 1 => sStI S ((n : Int) + 1) (sSt S n) (sCnt S).toNat
abbrev sSet (S : sS) (i p : Int) : Prop := i ≠ sSt S (p - 1).toNat ∧ 0 < sLot S i p
def sTimeN (S : sS) (p : Int) : Nat → Int
  | 0 => 0
  | k + 1 => sTimeN S p k + sLot S k p * sNum S k 5 + (if sSet S k p then sNum S k 6 else 0)
def sTime (S : sS) (p : Int) : Int := sTimeN S p (sCnt S).toNat
def sOver (S : sS) (p : Int) : Int := max 0 (sTime S p - sCap S p)
theorem sStI_b {S : sS} {p b : Int} : ∀ k : Nat, sStI S p b k = b ∨ (0 ≤ sStI S p b k ∧ sStI S p b k < (k : Int))
  | 0 => Or.inl rfl
  | k + 1 => by
    unfold sStI
    split
    · right; push_cast; omega
    · rcases sStI_b (S := S) (p := p) (b := b) k with h | h
      · exact Or.inl h
      · right; push_cast; omega
theorem sSt_b {S : sS} {T : Int} (h : sOk S T) : ∀ n : Nat, sSt S n = -3 ∨ (0 ≤ sSt S n ∧ sSt S n < 6)
  | 0 => Or.inl rfl
  | n + 1 => by
    have hc := h.cnt
    have i1 := sSt_b h n
    have i2 := sStI_b (S := S) (p := (n : Int) + 1) (b := sSt S n) (sCnt S).toNat
    have e : sSt S (n + 1) = sStI S ((n : Int) + 1) (sSt S n) (sCnt S).toNat := rfl
    omega
theorem sStI_s {S : sS} {p b j : Int} (h : 0 ≤ j) : sStI S p b (j + 1).toNat = if j ≠ b ∧ 0 < sLot S j p then j else sStI S p b j.toNat := by
  rw [show (j + 1).toNat = j.toNat + 1 by omega]
  show (if ((j.toNat : Nat) : Int) ≠ b ∧ _ then ((j.toNat : Nat) : Int) else _) = _
  rw [Int.toNat_of_nonneg h]
theorem sSt_s {S : sS} {p : Int} (h : 1 ≤ p) : sSt S p.toNat = sStI S p (sSt S (p - 1).toNat) (sCnt S).toNat := by
  rw [show p.toNat = (p - 1).toNat + 1 by omega]
  show sStI S (((p - 1).toNat : Nat) + 1 : Int) _ _ = _
  rw [show (((p - 1).toNat : Nat) : Int) + 1 = p by omega]
theorem sTimeN_s {S : sS} {p j : Int} (h : 0 ≤ j) : sTimeN S p (j + 1).toNat = sTimeN S p j.toNat + sLot S j p * sNum S j 5 + (if sSet S j p then sNum S j 6 else 0) := by
  rw [show (j + 1).toNat = j.toNat + 1 by omega]
  show sTimeN S p j.toNat + sLot S ((j.toNat : Nat) : Int) p * sNum S ((j.toNat : Nat) : Int) 5 + (if sSet S ((j.toNat : Nat) : Int) p then sNum S ((j.toNat : Nat) : Int) 6 else 0) = _
  rw [Int.toNat_of_nonneg h]
theorem sLT_b {S : sS} {T : Int} (h : sOk S T) (i p : Int) : 0 ≤ sLot S i p * sNum S i 5 ∧ sLot S i p * sNum S i 5 ≤ 100000 := by
  have h1 := h.lot i p
  have h2 := h.n5 i
  have h3 : sLot S i p * sNum S i 5 ≤ 5000 * 20 := Int.mul_le_mul h1.2 h2.2 h2.1 (by omega)
  exact ⟨Int.mul_nonneg h1.1 h2.1, by omega⟩
theorem sTimeN_b {S : sS} {T : Int} (h : sOk S T) (p : Int) : ∀ n : Nat, 0 ≤ sTimeN S p n ∧ sTimeN S p n ≤ 100200 * (n : Int)
  | 0 => by show (0 : Int) ≤ 0 ∧ (0 : Int) ≤ _; omega
  | n + 1 => by
    have ih := sTimeN_b h p n
    have h1 := sLT_b h n p
    have h2 := h.n6 n
    show 0 ≤ sTimeN S p n + sLot S n p * sNum S n 5 + (if _ then _ else _) ∧ sTimeN S p n + sLot S n p * sNum S n 5 + (if _ then _ else _) ≤ _
    split <;> (push_cast; omega)
theorem sTime_b {S : sS} {T : Int} (h : sOk S T) (p : Int) : 0 ≤ sTime S p ∧ sTime S p ≤ 601200 := by
  have h1 := sTimeN_b h p (sCnt S).toNat
  have h2 := h.cnt
  unfold sTime
  omega
theorem sOver_b {S : sS} {T : Int} (h : sOk S T) (p : Int) : 0 ≤ sOver S p ∧ sOver S p ≤ 601200 := by
  have h1 := sTime_b h p
  have h2 := h.cap p
  unfold sOver
  omega
/-- the machine has been followed through period n -/
def cMach (S : sS) (C : gSt) (n : Int) : Prop := (∀ j : Int, 0 ≤ j → j ≤ n → C 60 j = sSt S j.toNat) ∧ ∀ j : Int, 1 ≤ j → j ≤ n → (0 ≤ C 59 j ∧ C 59 j < 64) ∧ ∀ i : Int, 0 ≤ i → i < sCnt S → (sb (C 59 j) i = true ↔ sSet S i j)
