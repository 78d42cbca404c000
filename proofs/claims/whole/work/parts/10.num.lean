/-! ===== numbers of the machine as integers: iI z, iL z; every int on the stack is 'iI z' with z an Int, every long 'iL z' ===== -/
def iI (z : Int) : Int32 := Int32.ofInt z
def iL (z : Int) : Int64 := Int64.ofInt z
def rI (z : Int) : Prop := -2147483648 ≤ z ∧ z ≤ 2147483647
def rL (z : Int) : Prop := -9223372036854775808 ≤ z ∧ z ≤ 9223372036854775807
theorem iI_add (a b : Int) : iI a + iI b = iI (a + b) := (Int32.ofInt_add a b).symm
theorem iI_sub (a b : Int) : iI a - iI b = iI (a - b) := (Int32.ofInt_sub a b).symm
theorem iI_mul (a b : Int) : iI a * iI b = iI (a * b) := (Int32.ofInt_mul a b).symm
theorem iI_neg (a : Int) : -iI a = iI (-a) := (Int32.ofInt_neg a).symm
theorem iL_add (a b : Int) : iL a + iL b = iL (a + b) := (Int64.ofInt_add a b).symm
theorem iL_sub (a b : Int) : iL a - iL b = iL (a - b) := (Int64.ofInt_sub a b).symm
theorem iL_mul (a b : Int) : iL a * iL b = iL (a * b) := (Int64.ofInt_mul a b).symm
theorem iL_neg (a : Int) : -iL a = iL (-a) := (Int64.ofInt_neg a).symm
theorem iI_t {z : Int} (h : rI z) : (iI z).toInt = z := by
  obtain ⟨h1, h2⟩ := h
  exact Int32.toInt_ofInt_of_le (by omega) (by omega)
theorem iL_t {z : Int} (h : rL z) : (iL z).toInt = z := by
  obtain ⟨h1, h2⟩ := h
  exact Int64.toInt_ofInt_of_le (by omega) (by omega)
theorem iI_eq {a b : Int} (ha : rI a) (hb : rI b) : iI a = iI b ↔ a = b := ⟨fun h => by rw [← iI_t ha, ← iI_t hb, h], fun h => by rw [h]⟩
theorem iL_eq {a b : Int} (ha : rL a) (hb : rL b) : iL a = iL b ↔ a = b := ⟨fun h => by rw [← iL_t ha, ← iL_t hb, h], fun h => by rw [h]⟩
theorem iI_lt {a b : Int} (ha : rI a) (hb : rI b) : iI a < iI b ↔ a < b := by rw [Int32.lt_iff_toInt_lt, iI_t ha, iI_t hb]
theorem iI_le {a b : Int} (ha : rI a) (hb : rI b) : iI a ≤ iI b ↔ a ≤ b := by rw [Int32.le_iff_toInt_le, iI_t ha, iI_t hb]
theorem iL_lt {a b : Int} (ha : rL a) (hb : rL b) : iL a < iL b ↔ a < b := by rw [Int64.lt_iff_toInt_lt, iL_t ha, iL_t hb]
theorem iL_le {a b : Int} (ha : rL a) (hb : rL b) : iL a ≤ iL b ↔ a ≤ b := by rw [Int64.le_iff_toInt_le, iL_t ha, iL_t hb]
theorem iI_of (x : Int32) : iI x.toInt = x := Int32.ofInt_toInt x
theorem iL_of (x : Int64) : iL x.toInt = x := Int64.ofInt_toInt x
theorem rI_of (x : Int32) : rI x.toInt := by
  have h1 := x.le_toInt
  have h2 := x.toInt_lt
  constructor <;> omega
theorem rL_of (x : Int64) : rL x.toInt := by
  have h1 := x.le_toInt
  have h2 := x.toInt_lt
  constructor <;> omega
theorem iI_0 : iI 0 = 0 := by decide +kernel
theorem rI_0 : rI 0 := by constructor <;> omega
theorem iI_i2l {z : Int} (h : rI z) : (iI z).toInt64 = iL z := by
  show Int64.ofInt (iI z).toInt = _
  rw [iI_t h]
  rfl
theorem iL_l2i (z : Int) : (iL z).toInt32 = iI z := Int64.toInt32_ofInt
theorem iI_cl {z : Int} (h : z ≤ 2147483647) (h0 : 0 ≤ z) : (iI z).toNatClampNeg = z.toNat := Int32.toNatClampNeg_ofInt_of_le (by omega) (by omega)
theorem iI_in {z : Int} {n : Nat} (h0 : 0 ≤ z) (h : z < (n : Int)) (hn : n < 2147483648) : vp_in (iI z) n := by
  rw [vp_in_iff, iI_t ⟨by omega, by omega⟩]
  exact ⟨h0, h⟩
theorem iI_nI (n : Nat) : iI (n : Int) = nI n := Int32.ofInt_eq_ofNat
theorem iI_nat (n : Nat) : Int32.ofNat n = iI (n : Int) := Int32.ofInt_eq_ofNat.symm
