/-! ===== constructors ===== -/
abbrev vwD : List vw_C := [(RX0, TX0, 5), (RX1, TX1, 2), (RX2, TX2, 5), (RX3, TX3, 2), (RX4, TX4, 3), (RX5, TX5, 8), (RX6, TX6, 25)]
abbrev wT (cI cJ cZ cQ : ClassId) : List (ClassId × FieldType) := [(cI, .int), (cJ, .long), (cZ, .boolean), (cQ, .object "LotRules$Item")]
abbrev aI (cI : ClassId) (n : Nat) : va_E := .inl (cI, n, .inl (fun _ : Nat => iI 0))
abbrev aJ (cJ : ClassId) (n : Nat) : va_E := .inl (cJ, n, .inr (.inl (fun _ : Nat => iL 0)))
theorem noX_k {K : gK} {b : Nat} {e0 : va_E} : wX K (fun A U => ∀ (H : Heap) (V : State), V.heap = H → U.WarmedH V.vm → (∀ q, q < U.heap.size → ¬ A q → H[q]? = U.heap[q]?) → U.heap.size ≤ H.size → (∀ q, va_A [(b, e0)] H.size q → A q) → noX H.size V) := by
  obtain ⟨p, l', e, R', s, m, args, below, meth, c, A, Q, nL'⟩ := K
  exact fun _ _ _ _ _ _ _ => trivial
def cpF (p : Int) : Nat → Int32 := fun j => iI (if 1 ≤ (j : Int) ∧ (j : Int) < p then 10000 else 0)
theorem cpF_1 : (fun _ : Nat => iI 0) = cpF 1 := by
  funext j
  unfold cpF
  rw [if_neg (by omega)]
theorem cpF_s {p : Int} (h : 1 ≤ p) : upd (cpF p) p.toNat (iI 10000) = cpF (p + 1) := by
  funext j
  unfold upd cpF
  by_cases hj : j = p.toNat
  · rw [if_pos hj, if_pos (by omega)]
  · rw [if_neg hj]
    congr 1
    by_cases h2 : 1 ≤ (j : Int) ∧ (j : Int) < p
    · rw [if_pos h2, if_pos (by omega)]
    · rw [if_neg h2, if_neg (by omega)]
def rmF (p : Int) : Nat → Int32 := fun j => iI (if (j : Int) < p then 10000 else 0)
theorem rmF_0 : (fun _ : Nat => iI 0) = rmF 0 := by
  funext j
  unfold rmF
  rw [if_neg (by omega)]
theorem rmF_s {p : Int} (h : 0 ≤ p) : upd (rmF p) p.toNat (iI 10000) = rmF (p + 1) := by
  funext j
  unfold upd rmF
  by_cases hj : j = p.toNat
  · rw [if_pos hj, if_pos (by omega)]
  · rw [if_neg hj]
    congr 1
    by_cases h2 : (j : Int) < p
    · rw [if_pos h2, if_pos (by omega)]
    · rw [if_neg h2, if_neg (by omega)]
def stF : Nat → Int32 := fun j => iI (if (j : Int) = 0 then -3 else 0)
theorem stF_0 : upd (fun _ : Nat => iI 0) (0 : Int).toNat (iI (-3)) = stF := by
  funext j
  unfold upd stF
  by_cases hj : j = (0 : Int).toNat
  · rw [if_pos hj, if_pos (by omega)]
  · rw [if_neg hj, if_neg (by omega)]
