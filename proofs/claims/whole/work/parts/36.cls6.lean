abbrev rX1_put : Room := { frames := 0, cells := 0, slots := 0, locals := 0 }
set_option maxRecDepth 100000 in
set_option maxHeartbeats 4000000 in
theorem kX1_put {l : Launch} {B : gB} {T : Int} {C : gSt} (hB : clsB B T) (hT : 1 ≤ T ∧ T ≤ 12) (Lf : List fQ) (hf : cFl C Lf) (hl : (Lf.length : Int) < 13 * T) (a b c d : Int) : gMv l B yX1_put wsX1_put rX1_put [.ref (gad B (61)), .int (iI (a)), .int (iI (b)), .int (iI (c)), .int (iI (d))] C (fun C' => cFl C' (Lf ++ [(a, b, c, d)]) ∧ ∀ q : Nat, q ≠ 61 → q ≠ 62 → C' q = C q) := by
  refine gMv_of (cc := cX1_put) (nL := 6) (by decide) rfl (Nat.le_of_ble_eq_true rfl) (fun K k hret => ?_)
  have k : gOk K B l rX1_put 6 cX1_put RX1 wsX1_put := k
  show GG K B C 0 [(0, .ref (gad B (61))), (1, .int (iI (a))), (2, .int (iI (b))), (3, .int (iI (c))), (4, .int (iI (d)))] []
  refine gg_aload_n k dX1_put_0 rfl ?_
  refine gg_get k (cbFL hB) inX1_put_X1 0 (by decide) fX1_put_9 rfl rfl dX1_put_1 ?_
  refine gg_ti (hf.1) ?_
  refine gg_iconst k dX1_put_4 ?_
  refine gg_imul k dX1_put_5 ?_
  refine gg_istore k [(5, .int (iI (((Lf.length : Int)) * 4))), (0, .ref (gad B (61))), (1, .int (iI (a))), (2, .int (iI (b))), (3, .int (iI (c))), (4, .int (iI (d)))] dX1_put_6 (by decide) rfl ?_
  refine gg_aload_n k dX1_put_8 rfl ?_
  refine gg_get k (cbFL hB) inX1_put_X1 1 (by decide) fX1_put_15 rfl rfl dX1_put_9 ?_
  refine gg_iload k dX1_put_12 rfl ?_
  refine gg_iload_n k dX1_put_14 rfl ?_
  refine gg_iast k (cbCells hB) (by omega) (by omega) dX1_put_15 ?_
  refine gg_nm (fun C15 e15 => ?_)
  refine gg_aload_n k dX1_put_16 rfl ?_
  refine gg_get k (cbFL hB) inX1_put_X1 1 (by decide) fX1_put_15 rfl rfl dX1_put_17 ?_
  refine gg_iload k dX1_put_20 rfl ?_
  refine gg_iconst k dX1_put_22 ?_
  refine gg_iadd k dX1_put_23 ?_
  refine gg_iload_n k dX1_put_24 rfl ?_
  refine gg_iast k (cbCells hB) (by omega) (by omega) dX1_put_25 ?_
  refine gg_nm (fun C25 e25 => ?_)
  refine gg_aload_n k dX1_put_26 rfl ?_
  refine gg_get k (cbFL hB) inX1_put_X1 1 (by decide) fX1_put_15 rfl rfl dX1_put_27 ?_
  refine gg_iload k dX1_put_30 rfl ?_
  refine gg_iconst k dX1_put_32 ?_
  refine gg_iadd k dX1_put_33 ?_
  refine gg_iload_n k dX1_put_34 rfl ?_
  refine gg_iast k (cbCells hB) (by omega) (by omega) dX1_put_35 ?_
  refine gg_nm (fun C35 e35 => ?_)
  refine gg_aload_n k dX1_put_36 rfl ?_
  refine gg_get k (cbFL hB) inX1_put_X1 1 (by decide) fX1_put_15 rfl rfl dX1_put_37 ?_
  refine gg_iload k dX1_put_40 rfl ?_
  refine gg_iconst k dX1_put_42 ?_
  refine gg_iadd k dX1_put_43 ?_
  refine gg_iload k dX1_put_44 rfl ?_
  refine gg_iast k (cbCells hB) (by omega) (by omega) dX1_put_46 ?_
  refine gg_nm (fun C46 e46 => ?_)
  refine gg_aload_n k dX1_put_47 rfl ?_
  refine gg_dup k dX1_put_48 rfl ?_
  refine gg_get k (cbFL hB) inX1_put_X1 0 (by decide) fX1_put_9 rfl rfl dX1_put_49 ?_
  refine gg_ti (show C46 61 0 = (Lf.length : Int) by rw [e46, wr_k (by omega), e35, wr_k (by omega), e25, wr_k (by omega), e15, wr_k (by omega)]; exact hf.1) ?_
  refine gg_iconst k dX1_put_52 ?_
  refine gg_iadd k dX1_put_53 ?_
  refine gg_put (e := 0) k (cbFL hB) inX1_put_X1 tyX1 tyX1_ok nmX1 0 (by decide) fX1_put_9 rfl rfl rfl (Nat.le_of_ble_eq_true rfl) rfl dX1_put_54 ?_
  refine gg_nm (fun C54 e54 => ?_)
  exact hret _ _ _ dX1_put_57 (cFl_put hf (by rw [e54, e46, e35, e25, e15]))

abbrev rX1_cell : Room := { frames := 0, cells := 0, slots := 0, locals := 0 }
set_option maxRecDepth 100000 in
set_option maxHeartbeats 4000000 in
theorem kX1_cell {l : Launch} {B : gB} {T : Int} {C : gSt} (hB : clsB B T) (hT : 1 ≤ T ∧ T ≤ 12) (r w : Int) (hr0 : 0 ≤ r) (hr1 : r < 13 * T) (hw0 : 0 ≤ w) (hw1 : w < 4) (hC : rI (C 62 (4 * r + w))) : gMi l B yX1_cell wsX1_cell rX1_cell [.ref (gad B (61)), .int (iI (r)), .int (iI (w))] C (fun z C' => z = C 62 (4 * r + w) ∧ C' = C) := by
  refine gMi_of (ty := .int) rfl (cc := cX1_cell) (nL := 3) (by decide) rfl (Nat.le_of_ble_eq_true rfl) (fun K k hret => ?_)
  have k : gOk K B l rX1_cell 3 cX1_cell RX1 wsX1_cell := k
  show GG K B C 0 [(0, .ref (gad B (61))), (1, .int (iI (r))), (2, .int (iI (w)))] []
  refine gg_aload_n k dX1_cell_0 rfl ?_
  refine gg_get k (cbFL hB) inX1_cell_X1 1 (by decide) fX1_cell_15 rfl rfl dX1_cell_1 ?_
  refine gg_iload_n k dX1_cell_4 rfl ?_
  refine gg_iconst k dX1_cell_5 ?_
  refine gg_imul k dX1_cell_6 ?_
  refine gg_iload_n k dX1_cell_7 rfl ?_
  refine gg_iadd k dX1_cell_8 ?_
  refine gg_iald k (cbCells hB) (by omega) (by omega) dX1_cell_9 ?_
  refine gg_ti (show C 62 (r * 4 + w) = C 62 (4 * r + w) by rw [Int.mul_comm]) ?_
  exact hret _ _ _ _ dX1_cell_10 (hC) (⟨rfl, rfl⟩)

abbrev rX5_findOwing : Room := { frames := 2, cells := 0, slots := 0, locals := 45 }
set_option maxRecDepth 100000 in
set_option maxHeartbeats 4000000 in
theorem kX5_findOwing {l : Launch} {B : gB} {T : Int} {S : sS} {C : gSt} (hB : clsB B T) (hO : sOk S T) (hy : cRdy S T C) (Lf : List fQ) (hf : cFl C Lf) (p : Int) (hp0 : 1 ≤ p) (hp1 : p ≤ T) (hl : (Lf.length : Int) + 13 ≤ 13 * T) : gMv l B yX5_findOwing wsX5_findOwing rX5_findOwing [.ref (gad B (0)), .int (iI (p))] C (fun C' => cRdy S T C' ∧ cFl C' (Lf ++ fOw S p (sCnt S).toNat)) := by
  refine gMv_of (cc := cX5_findOwing) (nL := 4) (by decide) rfl (Nat.le_of_ble_eq_true rfl) (fun K k hret => ?_)
  have k : gOk K B l rX5_findOwing 4 cX5_findOwing RX5 wsX5_findOwing := k
  show GG K B C 0 [(0, .ref (gad B (0))), (1, .int (iI (p)))] []
  have hT := hO.t
  have hc := hO.cnt
  have hR := hy.1
  refine gg_iconst k dX5_findOwing_0 ?_
  refine gg_istore_n k [(2, .int (iI (0))), (0, .ref (gad B (0))), (1, .int (iI (p)))] dX5_findOwing_1 (by decide) rfl ?_
  have L2 : ∀ (n2 : Nat) (i : Int) (C1 : gSt), 0 ≤ i → i ≤ sCnt S → cRdy S T C1 → cFl C1 (Lf ++ fOw S p i.toNat) → sCnt S - i < (n2 : Int) → GG K B C1 2 [(0, .ref (gad B (0))), (1, .int (iI (p))), (2, .int (iI (i)))] [] := by
    intro n2
    induction n2 with
    | zero =>
      intro i C1 hi0 hi1 hy hf hn2
      exact absurd hn2 (by omega)
    | succ n2 ih2 =>
      intro i C1 hi0 hi1 hy hf hn2
      have hR := hy.1
      have hln := fOw_l (S := S) (p := p) i.toNat
      refine gg_iload_n k dX5_findOwing_2 rfl ?_
      refine gg_aload_n k dX5_findOwing_3 rfl ?_
      refine gg_get k (cb0 hB) inX5_findOwing_X5 2 (by decide) fX5_findOwing_33 rfl rfl dX5_findOwing_4 ?_
      refine gg_ti hR.cnt ?_
      refine gg_icmp_ge k 45 dX5_findOwing_7 (by decide) ⟨by omega, by omega⟩ ⟨by omega, by omega⟩ (fun c7 => ?_) (fun c7 => ?_)
      · exact hret _ _ _ dX5_findOwing_45 (⟨hy, by rw [← show i = sCnt S by omega]; exact hf⟩)
      · refine gg_aload_n k dX5_findOwing_10 rfl ?_
        refine gg_get k (cb0 hB) inX5_findOwing_X5 1 (by decide) fX5_findOwing_26 rfl rfl dX5_findOwing_11 ?_
        refine gg_iload_n k dX5_findOwing_14 rfl ?_
        refine gg_aald k (cb1 hB) (by omega) (by omega) dX5_findOwing_15 ?_
        refine gg_get k (cbItem hB (by omega) (by omega)) inX5_findOwing_X2 4 (by decide) fX5_findOwing_108 rfl rfl dX5_findOwing_16 ?_
        refine gg_iload_n k dX5_findOwing_19 rfl ?_
        refine gg_calli (n := 1) (As := [.int (iI (p))]) (rest := []) k (kX4_owedAt hB hT (i := i) (by omega) (by omega) p (by omega) (by omega) (by rw [(hy.2.1 i (by omega) (by omega)).1 p (by omega) (by omega)]; have := sStk_b hO i p.toNat (by omega); omega)) ⟨_, _, _, gX5_findOwing_X4_owedAt, rfl, rfl, rfl, by decide +kernel, by decide, by decide⟩ (cbStore hB (by omega) (by omega)) rfl rfl (Nat.le_of_ble_eq_true rfl) dX5_findOwing_20 (fun z20 C20 r20 q20 => ?_)
        obtain ⟨q20, e20⟩ := q20
        rw [e20]
        clear e20
        obtain ⟨r20, s20⟩ := r20
        have hq20 : z20 = (sRun S i p.toNat).2 := by rw [q20, (hy.2.1 i (by omega) (by omega)).1 p (by omega) (by omega)]; exact sOwed hO i p.toNat
        refine gg_istore_n k [(3, .int (iI (z20))), (0, .ref (gad B (0))), (1, .int (iI (p))), (2, .int (iI (i)))] dX5_findOwing_23 (by decide) rfl ?_
        refine gg_iload_n k dX5_findOwing_24 rfl ?_
        refine gg_if_le k 39 dX5_findOwing_25 (by decide) ⟨by omega, by omega⟩ (fun c25 => ?_) (fun c25 => ?_)
        · refine gg_iinc k 3 [(2, .int (iI (i + 1))), (3, .int (iI (z20))), (0, .ref (gad B (0))), (1, .int (iI (p)))] dX5_findOwing_39 rfl (by decide) rfl ?_
          refine gg_goto (tgt := 2) k dX5_findOwing_42 (by decide) ?_
          refine gg_sub [2, 3, 0] rfl ?_
          exact ih2 (i + 1) (C1) (by omega) (by omega) (hy) (by rw [fOw_s hi0, if_neg (by omega), List.append_nil]; exact hf) (by omega)
        · refine gg_aload_n k dX5_findOwing_28 rfl ?_
          refine gg_get k (cb0 hB) inX5_findOwing_X5 6 (by decide) fX5_findOwing_56 rfl rfl dX5_findOwing_29 ?_
          refine gg_iconst k dX5_findOwing_32 ?_
          refine gg_iload_n k dX5_findOwing_33 rfl ?_
          refine gg_iload_n k dX5_findOwing_34 rfl ?_
          refine gg_iload_n k dX5_findOwing_35 rfl ?_
          refine gg_callv (n := 4) (As := [.int (iI (1)), .int (iI (p)), .int (iI (i)), .int (iI (z20))]) (rest := []) k (kX1_put hB hT _ hf (by rw [List.length_append]; push_cast; omega) (1) (p) (i) (z20)) ⟨_, _, _, gX5_findOwing_X1_put, rfl, rfl, rfl, by decide +kernel, by decide, by decide⟩ (cbFL hB) rfl rfl (Nat.le_of_ble_eq_true rfl) dX5_findOwing_36 (fun C36 q36 => ?_)
          obtain ⟨hf36, hk36⟩ := q36
          have hy36 := hy.kept hO hk36
          refine gg_iinc k 3 [(2, .int (iI (i + 1))), (3, .int (iI (z20))), (0, .ref (gad B (0))), (1, .int (iI (p)))] dX5_findOwing_39 rfl (by decide) rfl ?_
          refine gg_goto (tgt := 2) k dX5_findOwing_42 (by decide) ?_
          refine gg_sub [2, 3, 0] rfl ?_
          exact ih2 (i + 1) (C36) (by omega) (by omega) (hy36) (by rw [fOw_s hi0, if_pos (by omega), ← List.append_assoc, ← hq20]; exact hf36) (by omega)
  refine gg_sub [1, 2, 0] rfl ?_
  exact L2 ((sCnt S - 0).toNat + 1) (0) (C) (by omega) (by omega) (hy) (by rw [show fOw S p (0 : Int).toNat = [] from rfl, List.append_nil]; exact hf) (by omega)

abbrev rX5_findBelowLeast : Room := { frames := 1, cells := 0, slots := 0, locals := 25 }
set_option maxRecDepth 100000 in
set_option maxHeartbeats 4000000 in
theorem kX5_findBelowLeast {l : Launch} {B : gB} {T : Int} {S : sS} {C : gSt} (hB : clsB B T) (hO : sOk S T) (hy : cRdy S T C) (Lf : List fQ) (hf : cFl C Lf) (p : Int) (hp0 : 1 ≤ p) (hp1 : p ≤ T) (hl : (Lf.length : Int) + 7 ≤ 13 * T) : gMv l B yX5_findBelowLeast wsX5_findBelowLeast rX5_findBelowLeast [.ref (gad B (0)), .int (iI (p))] C (fun C' => cRdy S T C' ∧ cFl C' (Lf ++ fLe S p (sCnt S).toNat)) := by
  refine gMv_of (cc := cX5_findBelowLeast) (nL := 5) (by decide) rfl (Nat.le_of_ble_eq_true rfl) (fun K k hret => ?_)
  have k : gOk K B l rX5_findBelowLeast 5 cX5_findBelowLeast RX5 wsX5_findBelowLeast := k
  show GG K B C 0 [(0, .ref (gad B (0))), (1, .int (iI (p)))] []
  have hT := hO.t
  have hc := hO.cnt
  have hR := hy.1
  refine gg_iconst k dX5_findBelowLeast_0 ?_
  refine gg_istore_n k [(2, .int (iI (0))), (0, .ref (gad B (0))), (1, .int (iI (p)))] dX5_findBelowLeast_1 (by decide) rfl ?_
  have L2 : ∀ (n2 : Nat) (i : Int) (C1 : gSt), 0 ≤ i → i ≤ sCnt S → cRdy S T C1 → cFl C1 (Lf ++ fLe S p i.toNat) → sCnt S - i < (n2 : Int) → GG K B C1 2 [(0, .ref (gad B (0))), (1, .int (iI (p))), (2, .int (iI (i)))] [] := by
    intro n2
    induction n2 with
    | zero =>
      intro i C1 hi0 hi1 hy hf hn2
      exact absurd hn2 (by omega)
    | succ n2 ih2 =>
      intro i C1 hi0 hi1 hy hf hn2
      have hR := hy.1
      have hln := fLe_l (S := S) (p := p) i.toNat
      refine gg_iload_n k dX5_findBelowLeast_2 rfl ?_
      refine gg_aload_n k dX5_findBelowLeast_3 rfl ?_
      refine gg_get k (cb0 hB) inX5_findBelowLeast_X5 2 (by decide) fX5_findBelowLeast_33 rfl rfl dX5_findBelowLeast_4 ?_
      refine gg_ti hR.cnt ?_
      refine gg_icmp_ge k 65 dX5_findBelowLeast_7 (by decide) ⟨by omega, by omega⟩ ⟨by omega, by omega⟩ (fun c7 => ?_) (fun c7 => ?_)
      · exact hret _ _ _ dX5_findBelowLeast_65 (⟨hy, by rw [← show i = sCnt S by omega]; exact hf⟩)
      · refine gg_aload_n k dX5_findBelowLeast_10 rfl ?_
        refine gg_get k (cb0 hB) inX5_findBelowLeast_X5 1 (by decide) fX5_findBelowLeast_26 rfl rfl dX5_findBelowLeast_11 ?_
        refine gg_iload_n k dX5_findBelowLeast_14 rfl ?_
        refine gg_aald k (cb1 hB) (by omega) (by omega) dX5_findBelowLeast_15 ?_
        refine gg_get k (cbItem hB (by omega) (by omega)) inX5_findBelowLeast_X2 2 (by decide) fX5_findBelowLeast_94 rfl rfl dX5_findBelowLeast_16 ?_
        refine gg_iload_n k dX5_findBelowLeast_19 rfl ?_
        refine gg_iald k (cbLot hB (by omega) (by omega)) (by omega) (by omega) dX5_findBelowLeast_20 ?_
        refine gg_ti (hR.lot _ (by omega) (by omega)) ?_
        have b20 := hO.lot (i) (p)
        refine gg_istore_n k [(3, .int (iI (sLot S (i) (p)))), (0, .ref (gad B (0))), (1, .int (iI (p))), (2, .int (iI (i)))] dX5_findBelowLeast_21 (by decide) rfl ?_
        refine gg_aload_n k dX5_findBelowLeast_22 rfl ?_
        refine gg_get k (cb0 hB) inX5_findBelowLeast_X5 1 (by decide) fX5_findBelowLeast_26 rfl rfl dX5_findBelowLeast_23 ?_
        refine gg_iload_n k dX5_findBelowLeast_26 rfl ?_
        refine gg_aald k (cb1 hB) (by omega) (by omega) dX5_findBelowLeast_27 ?_
        refine gg_get k (cbItem hB (by omega) (by omega)) inX5_findBelowLeast_X2 0 (by decide) fX5_findBelowLeast_71 rfl rfl dX5_findBelowLeast_28 ?_
        refine gg_iconst k dX5_findBelowLeast_31 ?_
        refine gg_iald k (cbNum hB (by omega) (by omega)) (by omega) (by omega) dX5_findBelowLeast_32 ?_
        refine gg_ti (hR.num _ (by omega) (by omega)) ?_
        have b32 := hO.n2 (i)
        refine gg_istore k [(4, .int (iI (sNum S (i) (2)))), (3, .int (iI (sLot S (i) (p)))), (0, .ref (gad B (0))), (1, .int (iI (p))), (2, .int (iI (i)))] dX5_findBelowLeast_33 (by decide) rfl ?_
        refine gg_iload_n k dX5_findBelowLeast_35 rfl ?_
        refine gg_if_le k 59 dX5_findBelowLeast_36 (by decide) ⟨by omega, by omega⟩ (fun c36 => ?_) (fun c36 => ?_)
        · refine gg_iinc k 4 [(2, .int (iI (i + 1))), (4, .int (iI (sNum S (i) (2)))), (3, .int (iI (sLot S (i) (p)))), (0, .ref (gad B (0))), (1, .int (iI (p)))] dX5_findBelowLeast_59 rfl (by decide) rfl ?_
          refine gg_goto (tgt := 2) k dX5_findBelowLeast_62 (by decide) ?_
          refine gg_sub [3, 4, 0] rfl ?_
          exact ih2 (i + 1) (C1) (by omega) (by omega) (hy) (by rw [fLe_s hi0, if_neg (by omega), List.append_nil]; exact hf) (by omega)
        · refine gg_iload_n k dX5_findBelowLeast_39 rfl ?_
          refine gg_iload k dX5_findBelowLeast_40 rfl ?_
          refine gg_icmp_ge k 59 dX5_findBelowLeast_42 (by decide) ⟨by omega, by omega⟩ ⟨by omega, by omega⟩ (fun c42 => ?_) (fun c42 => ?_)
          · refine gg_iinc k 4 [(2, .int (iI (i + 1))), (4, .int (iI (sNum S (i) (2)))), (3, .int (iI (sLot S (i) (p)))), (0, .ref (gad B (0))), (1, .int (iI (p)))] dX5_findBelowLeast_59 rfl (by decide) rfl ?_
            refine gg_goto (tgt := 2) k dX5_findBelowLeast_62 (by decide) ?_
            refine gg_sub [3, 4, 0] rfl ?_
            exact ih2 (i + 1) (C1) (by omega) (by omega) (hy) (by rw [fLe_s hi0, if_neg (by omega), List.append_nil]; exact hf) (by omega)
          · refine gg_aload_n k dX5_findBelowLeast_45 rfl ?_
            refine gg_get k (cb0 hB) inX5_findBelowLeast_X5 6 (by decide) fX5_findBelowLeast_56 rfl rfl dX5_findBelowLeast_46 ?_
            refine gg_iconst k dX5_findBelowLeast_49 ?_
            refine gg_iload_n k dX5_findBelowLeast_50 rfl ?_
            refine gg_iload_n k dX5_findBelowLeast_51 rfl ?_
            refine gg_iload k dX5_findBelowLeast_52 rfl ?_
            refine gg_iload_n k dX5_findBelowLeast_54 rfl ?_
            refine gg_isub k dX5_findBelowLeast_55 ?_
            refine gg_callv (n := 4) (As := [.int (iI (2)), .int (iI (p)), .int (iI (i)), .int (iI ((sNum S (i) (2)) - (sLot S (i) (p))))]) (rest := []) k (kX1_put hB hT _ hf (by rw [List.length_append]; push_cast; omega) (2) (p) (i) ((sNum S (i) (2)) - (sLot S (i) (p)))) ⟨_, _, _, gX5_findBelowLeast_X1_put, rfl, rfl, rfl, by decide +kernel, by decide, by decide⟩ (cbFL hB) rfl rfl (Nat.le_of_ble_eq_true rfl) dX5_findBelowLeast_56 (fun C56 q56 => ?_)
            obtain ⟨hf56, hk56⟩ := q56
            have hy56 := hy.kept hO hk56
            refine gg_iinc k 4 [(2, .int (iI (i + 1))), (4, .int (iI (sNum S (i) (2)))), (3, .int (iI (sLot S (i) (p)))), (0, .ref (gad B (0))), (1, .int (iI (p)))] dX5_findBelowLeast_59 rfl (by decide) rfl ?_
            refine gg_goto (tgt := 2) k dX5_findBelowLeast_62 (by decide) ?_
            refine gg_sub [3, 4, 0] rfl ?_
            exact ih2 (i + 1) (C56) (by omega) (by omega) (hy56) (by rw [fLe_s hi0, if_pos (by omega), ← List.append_assoc]; exact hf56) (by omega)
  refine gg_sub [1, 2, 0] rfl ?_
  exact L2 ((sCnt S - 0).toNat + 1) (0) (C) (by omega) (by omega) (hy) (by rw [show fLe S p (0 : Int).toNat = [] from rfl, List.append_nil]; exact hf) (by omega)

abbrev rX5_findAboveMostOver : Room := { frames := 3, cells := 0, slots := 0, locals := 67 }
set_option maxRecDepth 100000 in
set_option maxHeartbeats 4000000 in
theorem kX5_findAboveMostOver {l : Launch} {B : gB} {T : Int} {S : sS} {C : gSt} (hB : clsB B T) (hO : sOk S T) (hy : cRdy S T C) (Lf : List fQ) (hf : cFl C Lf) (p : Int) (hp0 : 1 ≤ p) (hp1 : p ≤ T) (hl : (Lf.length : Int) + 1 ≤ 13 * T) : gMv l B yX5_findAboveMostOver wsX5_findAboveMostOver rX5_findAboveMostOver [.ref (gad B (0)), .int (iI (p))] C (fun C' => cRdy S T C' ∧ cFl C' (Lf ++ fOv S p)) := by
  refine gMv_of (cc := cX5_findAboveMostOver) (nL := 4) (by decide) rfl (Nat.le_of_ble_eq_true rfl) (fun K k hret => ?_)
  have k : gOk K B l rX5_findAboveMostOver 4 cX5_findAboveMostOver RX5 wsX5_findAboveMostOver := k
  show GG K B C 0 [(0, .ref (gad B (0))), (1, .int (iI (p)))] []
  have hT := hO.t
  have hc := hO.cnt
  have hR := hy.1
  refine gg_aload_n k dX5_findAboveMostOver_0 rfl ?_
  refine gg_iload_n k dX5_findAboveMostOver_1 rfl ?_
  refine gg_calll (n := 1) (As := [.int (iI (p))]) (rest := []) k (kX5_overOf hB hO hR hy.2.2 p (by omega) (by omega)) ⟨_, _, _, gX5_findAboveMostOver_X5_overOf, rfl, rfl, rfl, by decide +kernel, by decide, by decide⟩ (cb0 hB) rfl rfl (Nat.le_of_ble_eq_true rfl) dX5_findAboveMostOver_2 (fun z2 C2 r2 q2 => ?_)
  obtain ⟨q2, e2⟩ := q2
  rw [e2]
  clear e2
  obtain ⟨r2, s2⟩ := r2
  have ob2 := sOver_b hO p
  refine gg_aload_n k dX5_findAboveMostOver_5 rfl ?_
  refine gg_get k (cb0 hB) inX5_findAboveMostOver_X5 4 (by decide) fX5_findAboveMostOver_43 rfl rfl dX5_findAboveMostOver_6 ?_
  refine gg_iconst k dX5_findAboveMostOver_9 ?_
  refine gg_iald k (cbOvr hB) (by omega) (by omega) dX5_findAboveMostOver_10 ?_
  refine gg_ti (hR.ovr _) ?_
  have b10 := hO.ovr (1)
  refine gg_i2l k dX5_findAboveMostOver_11 ⟨by omega, by omega⟩ ?_
  refine gg_lsub k dX5_findAboveMostOver_12 ?_
  refine gg_lstore_n k [(2, .long (iL (z2 - (sOvr S (1))))), (0, .ref (gad B (0))), (1, .int (iI (p)))] dX5_findAboveMostOver_13 (by decide) rfl ?_
  refine gg_lload_n k dX5_findAboveMostOver_14 rfl ?_
  refine gg_lconst0 k dX5_findAboveMostOver_15 ?_
  refine gg_lt_le k 33 dX5_findAboveMostOver_16 dX5_findAboveMostOver_17 (by decide) ⟨by omega, by omega⟩ ⟨by omega, by omega⟩ (fun c16 => ?_) (fun c16 => ?_)
  · exact hret _ _ _ dX5_findAboveMostOver_33 (⟨hy, by unfold fOv; rw [if_neg (by omega), List.append_nil]; exact hf⟩)
  · refine gg_aload_n k dX5_findAboveMostOver_20 rfl ?_
    refine gg_get k (cb0 hB) inX5_findAboveMostOver_X5 6 (by decide) fX5_findAboveMostOver_56 rfl rfl dX5_findAboveMostOver_21 ?_
    refine gg_iconst k dX5_findAboveMostOver_24 ?_
    refine gg_iload_n k dX5_findAboveMostOver_25 rfl ?_
    refine gg_bipush k dX5_findAboveMostOver_26 (by decide +kernel) ?_
    refine gg_lload_n k dX5_findAboveMostOver_28 rfl ?_
    refine gg_l2i k dX5_findAboveMostOver_29 ?_
    refine gg_callv (n := 4) (As := [.int (iI (3)), .int (iI (p)), .int (iI (-3)), .int (iI (z2 - (sOvr S (1))))]) (rest := []) k (kX1_put hB hT _ hf (by omega) (3) (p) (-3) (z2 - (sOvr S (1)))) ⟨_, _, _, gX5_findAboveMostOver_X1_put, rfl, rfl, rfl, by decide +kernel, by decide, by decide⟩ (cbFL hB) rfl rfl (Nat.le_of_ble_eq_true rfl) dX5_findAboveMostOver_30 (fun C30 q30 => ?_)
    obtain ⟨hf30, hk30⟩ := q30
    have hy30 := hy.kept hO hk30
    exact hret _ _ _ dX5_findAboveMostOver_33 (⟨hy30, by unfold fOv; rw [if_pos (by omega), ← q2]; exact hf30⟩)

abbrev rX5_findFaults : Room := { frames := 4, cells := 0, slots := 0, locals := 96 }
set_option maxRecDepth 100000 in
set_option maxHeartbeats 4000000 in
theorem kX5_findFaults {l : Launch} {B : gB} {T : Int} {S : sS} {C : gSt} (hB : clsB B T) (hO : sOk S T) (hR : cRel S T C)  : gMv l B yX5_findFaults wsX5_findFaults rX5_findFaults [.ref (gad B (0))] C (fun C' => cRel S T C' ∧ cFl C' (fAll S T.toNat)) := by
  refine gMv_of (cc := cX5_findFaults) (nL := 2) (by decide) rfl (Nat.le_of_ble_eq_true rfl) (fun K k hret => ?_)
  have k : gOk K B l rX5_findFaults 2 cX5_findFaults RX5 wsX5_findFaults := k
  show GG K B C 0 [(0, .ref (gad B (0)))] []
  have hT := hO.t
  have hc := hO.cnt
  
  refine gg_iconst k dX5_findFaults_0 ?_
  refine gg_istore_n k [(1, .int (iI (0))), (0, .ref (gad B (0)))] dX5_findFaults_1 (by decide) rfl ?_
  have L2 : ∀ (n2 : Nat) (i : Int) (C1 : gSt), 0 ≤ i → i ≤ sCnt S → cRel S T C1 → (∀ x : Int, 0 ≤ x → x < i → cRun S x C1 T) → sCnt S - i < (n2 : Int) → GG K B C1 2 [(0, .ref (gad B (0))), (1, .int (iI (i)))] [] := by
    intro n2
    induction n2 with
    | zero =>
      intro i C1 hi0 hi1 hR hru hn2
      exact absurd hn2 (by omega)
    | succ n2 ih2 =>
      intro i C1 hi0 hi1 hR hru hn2
      refine gg_iload_n k dX5_findFaults_2 rfl ?_
      refine gg_aload_n k dX5_findFaults_3 rfl ?_
      refine gg_get k (cb0 hB) inX5_findFaults_X5 2 (by decide) fX5_findFaults_33 rfl rfl dX5_findFaults_4 ?_
      refine gg_ti hR.cnt ?_
      refine gg_icmp_ge k 21 dX5_findFaults_7 (by decide) ⟨by omega, by omega⟩ ⟨by omega, by omega⟩ (fun c7 => ?_) (fun c7 => ?_)
      · refine gg_aload_n k dX5_findFaults_21 rfl ?_
        refine gg_get k (cb0 hB) inX5_findFaults_X5 5 (by decide) fX5_findFaults_49 rfl rfl dX5_findFaults_22 ?_
        refine gg_aload_n k dX5_findFaults_25 rfl ?_
        refine gg_get k (cb0 hB) inX5_findFaults_X5 1 (by decide) fX5_findFaults_26 rfl rfl dX5_findFaults_26 ?_
        refine gg_aload_n k dX5_findFaults_29 rfl ?_
        refine gg_get k (cb0 hB) inX5_findFaults_X5 2 (by decide) fX5_findFaults_33 rfl rfl dX5_findFaults_30 ?_
        refine gg_ti hR.cnt ?_
        refine gg_callv (n := 2) (As := [.ref (gad B (1)), .int (iI (sCnt S))]) (rest := []) k (kX3_follow hB hO hR) ⟨_, _, _, gX5_findFaults_X3_follow, rfl, rfl, rfl, by decide +kernel, by decide, by decide⟩ (cbMach hB) rfl rfl (Nat.le_of_ble_eq_true rfl) dX5_findFaults_33 (fun C33 q33 => ?_)
        obtain ⟨hR, hm33, hk33⟩ := q33
        refine gg_aload_n k dX5_findFaults_36 rfl ?_
        refine gg_get k (cb0 hB) inX5_findFaults_X5 6 (by decide) fX5_findFaults_56 rfl rfl dX5_findFaults_37 ?_
        refine gg_iconst k dX5_findFaults_40 ?_
        refine gg_put (e := 0) k (cbFL hB) inX5_findFaults_X1 tyX1 tyX1_ok nmX1 0 (by decide) fX5_findFaults_143 rfl rfl rfl (Nat.le_of_ble_eq_true rfl) rfl dX5_findFaults_41 ?_
        refine gg_nm (fun C41 e41 => ?_)
        have hy33 : cRdy S T C33 := ⟨hR, fun x h0 h1 => (hru x h0 (by omega)).kept (hk33 _ (by omega) (by omega)) (hk33 _ (by omega) (by omega)), hm33⟩
        have hy41 : cRdy S T C41 := hy33.kept hO (fun q h1 h2 => by rw [e41, wr_k h1])
        refine gg_iconst k dX5_findFaults_44 ?_
        refine gg_istore_n k [(1, .int (iI (1))), (0, .ref (gad B (0)))] dX5_findFaults_45 (by decide) rfl ?_
        have L46 : ∀ (n46 : Nat) (p : Int) (C2 : gSt), 1 ≤ p → p ≤ T + 1 → cRdy S T C2 → cFl C2 (fAll S (p - 1).toNat) → T + 1 - p < (n46 : Int) → GG K B C2 46 [(0, .ref (gad B (0))), (1, .int (iI (p)))] [] := by
          intro n46
          induction n46 with
          | zero =>
            intro p C2 hp0 hp1 hy hf hn46
            exact absurd hn46 (by omega)
          | succ n46 ih46 =>
            intro p C2 hp0 hp1 hy hf hn46
            have hR := hy.1
            have hln := fAll_l hO (p - 1).toNat
            refine gg_iload_n k dX5_findFaults_46 rfl ?_
            refine gg_aload_n k dX5_findFaults_47 rfl ?_
            refine gg_get k (cb0 hB) inX5_findFaults_X5 0 (by decide) fX5_findFaults_20 rfl rfl dX5_findFaults_48 ?_
            refine gg_icmp_gt k 75 dX5_findFaults_51 (by decide) ⟨by omega, by omega⟩ ⟨by omega, by omega⟩ (fun c51 => ?_) (fun c51 => ?_)
            · exact hret _ _ _ dX5_findFaults_75 (⟨hR, by rw [← show p - 1 = T by omega]; exact hf⟩)
            · refine gg_aload_n k dX5_findFaults_54 rfl ?_
              refine gg_iload_n k dX5_findFaults_55 rfl ?_
              refine gg_callv (n := 1) (As := [.int (iI (p))]) (rest := []) k (kX5_findOwing hB hO hy _ hf p (by omega) (by omega) (by omega)) ⟨_, _, _, gX5_findFaults_X5_findOwing, rfl, rfl, rfl, by decide +kernel, by decide, by decide⟩ (cb0 hB) rfl rfl (Nat.le_of_ble_eq_true rfl) dX5_findFaults_56 (fun C56 q56 => ?_)
              obtain ⟨hy56, hf56⟩ := q56
              refine gg_aload_n k dX5_findFaults_59 rfl ?_
              refine gg_iload_n k dX5_findFaults_60 rfl ?_
              refine gg_callv (n := 1) (As := [.int (iI (p))]) (rest := []) k (kX5_findBelowLeast hB hO hy56 _ hf56 p (by omega) (by omega) (by have l1 := fOw_l (S := S) (p := p) (sCnt S).toNat; have l2 := fLe_l (S := S) (p := p) (sCnt S).toNat; simp only [List.length_append]; push_cast; omega)) ⟨_, _, _, gX5_findFaults_X5_findBelowLeast, rfl, rfl, rfl, by decide +kernel, by decide, by decide⟩ (cb0 hB) rfl rfl (Nat.le_of_ble_eq_true rfl) dX5_findFaults_61 (fun C61 q61 => ?_)
              obtain ⟨hy61, hf61⟩ := q61
              refine gg_aload_n k dX5_findFaults_64 rfl ?_
              refine gg_iload_n k dX5_findFaults_65 rfl ?_
              refine gg_callv (n := 1) (As := [.int (iI (p))]) (rest := []) k (kX5_findAboveMostOver hB hO hy61 _ hf61 p (by omega) (by omega) (by have l1 := fOw_l (S := S) (p := p) (sCnt S).toNat; have l2 := fLe_l (S := S) (p := p) (sCnt S).toNat; simp only [List.length_append]; push_cast; omega)) ⟨_, _, _, gX5_findFaults_X5_findAboveMostOver, rfl, rfl, rfl, by decide +kernel, by decide, by decide⟩ (cb0 hB) rfl rfl (Nat.le_of_ble_eq_true rfl) dX5_findFaults_66 (fun C66 q66 => ?_)
              obtain ⟨hy66, hf66⟩ := q66
              refine gg_iinc k 1 [(1, .int (iI (p + 1))), (0, .ref (gad B (0)))] dX5_findFaults_69 rfl (by decide) rfl ?_
              refine gg_goto (tgt := 46) k dX5_findFaults_72 (by decide) ?_
              refine gg_sub [1, 0] rfl ?_
              exact ih46 (p + 1) (C66) (by omega) (by omega) (hy66) (by rw [show p + 1 - 1 = p by omega, fAll_s (by omega)]; unfold fPer; rw [← List.append_assoc, ← List.append_assoc]; exact hf66) (by omega)
        refine gg_sub [1, 0] rfl ?_
        exact L46 ((T + 1 - 1).toNat + 1) (1) (C41) (by omega) (by omega) (hy41) (⟨by rw [e41, wr_s]; rfl, fun k x hx => by cases hx⟩) (by omega)
      · refine gg_aload_n k dX5_findFaults_10 rfl ?_
        refine gg_iload_n k dX5_findFaults_11 rfl ?_
        refine gg_callv (n := 1) (As := [.int (iI (i))]) (rest := []) k (kX5_runItem hB hO hR (i := i) (by omega) (by omega)) ⟨_, _, _, gX5_findFaults_X5_runItem, rfl, rfl, rfl, by decide +kernel, by decide, by decide⟩ (cb0 hB) rfl rfl (Nat.le_of_ble_eq_true rfl) dX5_findFaults_12 (fun C12 q12 => ?_)
        obtain ⟨hR, hr12, hk12⟩ := q12
        refine gg_iinc k 1 [(1, .int (iI (i + 1))), (0, .ref (gad B (0)))] dX5_findFaults_15 rfl (by decide) rfl ?_
        refine gg_goto (tgt := 2) k dX5_findFaults_18 (by decide) ?_
        refine gg_sub [1, 0] rfl ?_
        exact ih2 (i + 1) (C12) (by omega) (by omega) (hR) (fun x h0 h1 => by by_cases hx : x = i; (· rw [hx]; exact hr12); (· exact (hru x h0 (by omega)).kept (hk12 _ (by omega) (by omega) (by omega)) (hk12 _ (by omega) (by omega) (by omega)))) (by omega)
  refine gg_sub [1, 0] rfl ?_
  exact L2 ((sCnt S - 0).toNat + 1) (0) (C) (by omega) (by omega) (hR) (fun x h0 h1 => by omega) (by omega)

abbrev rX5_faults : Room := { frames := 5, cells := 0, slots := 0, locals := 117 }
set_option maxRecDepth 100000 in
set_option maxHeartbeats 4000000 in
theorem kX5_faults {l : Launch} {B : gB} {T : Int} {S : sS} {C : gSt} (hB : clsB B T) (hO : sOk S T) (hR : cRel S T C)  : gMi l B yX5_faults wsX5_faults rX5_faults [.ref (gad B (0))] C (fun z C' => cRel S T C' ∧ z = ((fAll S T.toNat).length : Int)) := by
  refine gMi_of (ty := .int) rfl (cc := cX5_faults) (nL := 1) (by decide) rfl (Nat.le_of_ble_eq_true rfl) (fun K k hret => ?_)
  have k : gOk K B l rX5_faults 1 cX5_faults RX5 wsX5_faults := k
  show GG K B C 0 [(0, .ref (gad B (0)))] []
  have hT := hO.t
  have hc := hO.cnt
  
  refine gg_aload_n k dX5_faults_0 rfl ?_
  refine gg_callv (n := 0) (As := []) (rest := []) k (kX5_findFaults hB hO hR) ⟨_, _, _, gX5_faults_X5_findFaults, rfl, rfl, rfl, by decide +kernel, by decide, by decide⟩ (cb0 hB) rfl rfl (Nat.le_of_ble_eq_true rfl) dX5_faults_1 (fun C1 q1 => ?_)
  obtain ⟨hR, hf⟩ := q1
  have hln := fAll_l hO T.toNat
  refine gg_aload_n k dX5_faults_4 rfl ?_
  refine gg_get k (cb0 hB) inX5_faults_X5 6 (by decide) fX5_faults_56 rfl rfl dX5_faults_5 ?_
  refine gg_get k (cbFL hB) inX5_faults_X1 0 (by decide) fX5_faults_143 rfl rfl dX5_faults_8 ?_
  refine gg_ti (hf.1) ?_
  exact hret _ _ _ _ dX5_faults_11 (⟨by omega, by omega⟩) (⟨hR, rfl⟩)

abbrev rX5_fault : Room := { frames := 5, cells := 0, slots := 0, locals := 117 }
set_option maxRecDepth 100000 in
set_option maxHeartbeats 4000000 in
theorem kX5_fault {l : Launch} {B : gB} {T : Int} {S : sS} {C : gSt} (hB : clsB B T) (hO : sOk S T) (hR : cRel S T C) (k0 w : Int) (hk : rI k0) (hw : rI w) : gMi l B yX5_fault wsX5_fault rX5_fault [.ref (gad B (0)), .int (iI (k0)), .int (iI (w))] C (fun z C' => cRel S T C' ∧ z = sFault S T k0 w) := by
  refine gMi_of (ty := .int) rfl (cc := cX5_fault) (nL := 3) (by decide) rfl (Nat.le_of_ble_eq_true rfl) (fun K k hret => ?_)
  have k : gOk K B l rX5_fault 3 cX5_fault RX5 wsX5_fault := k
  show GG K B C 0 [(0, .ref (gad B (0))), (1, .int (iI (k0))), (2, .int (iI (w)))] []
  have hT := hO.t
  have hc := hO.cnt
  obtain ⟨hk1, hk2⟩ := hk
  obtain ⟨hw1, hw2⟩ := hw
  refine gg_aload_n k dX5_fault_0 rfl ?_
  refine gg_callv (n := 0) (As := []) (rest := []) k (kX5_findFaults hB hO hR) ⟨_, _, _, gX5_fault_X5_findFaults, rfl, rfl, rfl, by decide +kernel, by decide, by decide⟩ (cb0 hB) rfl rfl (Nat.le_of_ble_eq_true rfl) dX5_fault_1 (fun C1 q1 => ?_)
  obtain ⟨hR, hf⟩ := q1
  have hln := fAll_l hO T.toNat
  refine gg_iload_n k dX5_fault_4 rfl ?_
  refine gg_if_lt k 19 dX5_fault_5 (by decide) ⟨by omega, by omega⟩ (fun c5 => ?_) (fun c5 => ?_)
  · refine gg_iconst k dX5_fault_19 ?_
    exact hret _ _ _ _ dX5_fault_20 (⟨by omega, by omega⟩) (⟨hR, by unfold sFault; rw [if_neg (by omega)]⟩)
  · refine gg_iload_n k dX5_fault_8 rfl ?_
    refine gg_aload_n k dX5_fault_9 rfl ?_
    refine gg_get k (cb0 hB) inX5_fault_X5 6 (by decide) fX5_fault_56 rfl rfl dX5_fault_10 ?_
    refine gg_get k (cbFL hB) inX5_fault_X1 0 (by decide) fX5_fault_143 rfl rfl dX5_fault_13 ?_
    refine gg_ti (hf.1) ?_
    refine gg_icmp_lt k 21 dX5_fault_16 (by decide) ⟨by omega, by omega⟩ ⟨by omega, by omega⟩ (fun c16 => ?_) (fun c16 => ?_)
    · refine gg_iload_n k dX5_fault_21 rfl ?_
      refine gg_if_lt k 30 dX5_fault_22 (by decide) ⟨by omega, by omega⟩ (fun c22 => ?_) (fun c22 => ?_)
      · refine gg_bipush k dX5_fault_30 (by decide +kernel) ?_
        exact hret _ _ _ _ dX5_fault_32 (⟨by omega, by omega⟩) (⟨hR, by unfold sFault; rw [if_pos (by omega), if_neg (by omega)]⟩)
      · refine gg_iload_n k dX5_fault_25 rfl ?_
        refine gg_iconst k dX5_fault_26 ?_
        refine gg_icmp_lt k 33 dX5_fault_27 (by decide) ⟨by omega, by omega⟩ ⟨by omega, by omega⟩ (fun c27 => ?_) (fun c27 => ?_)
        · obtain ⟨g1, g2⟩ := fAll_get hO (k := k0) (by omega) (by omega)
          obtain ⟨f1, f2, f3, f4⟩ := hf.2 k0.toNat _ g1
          rw [Int.toNat_of_nonneg (by omega)] at f1 f2 f3 f4
          have hce : C1 62 (4 * k0 + w) = fComp ((fAll S T.toNat).getD k0.toNat (0, 0, 0, 0)) w := by
            unfold fComp
            rcases (show w = 0 ∨ w = 1 ∨ w = 2 ∨ w = 3 by omega) with h | h | h | h
            · rw [h, Int.add_zero, if_pos rfl]; exact f1
            · rw [h, if_neg (by omega), if_pos rfl]; exact f2
            · rw [h, if_neg (by omega), if_neg (by omega), if_pos rfl]; exact f3
            · rw [h, if_neg (by omega), if_neg (by omega), if_neg (by omega)]; exact f4
          have hcr : rI (C1 62 (4 * k0 + w)) := by
            rw [hce]
            unfold fComp
            split
            · exact g2.1
            · split
              · exact g2.2.1
              · split
                · exact g2.2.2.1
                · exact g2.2.2.2
          refine gg_aload_n k dX5_fault_33 rfl ?_
          refine gg_get k (cb0 hB) inX5_fault_X5 6 (by decide) fX5_fault_56 rfl rfl dX5_fault_34 ?_
          refine gg_iload_n k dX5_fault_37 rfl ?_
          refine gg_iload_n k dX5_fault_38 rfl ?_
          refine gg_calli (n := 2) (As := [.int (iI (k0)), .int (iI (w))]) (rest := []) k (kX1_cell hB hT k0 w (by omega) (by omega) (by omega) (by omega) hcr) ⟨_, _, _, gX5_fault_X1_cell, rfl, rfl, rfl, by decide +kernel, by decide, by decide⟩ (cbFL hB) rfl rfl (Nat.le_of_ble_eq_true rfl) dX5_fault_39 (fun z39 C39 r39 q39 => ?_)
          obtain ⟨q39, e39⟩ := q39
          rw [e39]
          clear e39
          obtain ⟨r39, s39⟩ := r39
          exact hret _ _ _ _ dX5_fault_42 (⟨by omega, by omega⟩) (⟨hR, by unfold sFault; rw [if_pos (by omega), if_pos (by omega)]; exact q39.trans hce⟩)
        · refine gg_bipush k dX5_fault_30 (by decide +kernel) ?_
          exact hret _ _ _ _ dX5_fault_32 (⟨by omega, by omega⟩) (⟨hR, by unfold sFault; rw [if_pos (by omega), if_neg (by omega)]⟩)
    · refine gg_iconst k dX5_fault_19 ?_
      exact hret _ _ _ _ dX5_fault_20 (⟨by omega, by omega⟩) (⟨hR, by unfold sFault; rw [if_neg (by omega)]⟩)
