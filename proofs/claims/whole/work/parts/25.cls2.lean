abbrev rX4_begin : Room := { frames := 0, cells := 0, slots := 0, locals := 0 }
set_option maxRecDepth 100000 in
set_option maxHeartbeats 4000000 in
theorem kX4_begin {l : Launch} {B : gB} {T : Int} {C : gSt} (hB : clsB B T) (hT : 1 ≤ T ∧ T ≤ 12) {i : Int} (hi0 : 0 ≤ i) (hi6 : i < 6) (v : Int) : gMv l B yX4_begin wsX4_begin rX4_begin [.ref (gad B (7 + 9 * (i).toNat)), .int (iI (v))] C (fun C' => C' = wr (wr C (8 + 9 * i.toNat) 0 v) (10 + 9 * i.toNat) 0 v) := by
  refine gMv_of (cc := cX4_begin) (nL := 2) (by decide) rfl (Nat.le_of_ble_eq_true rfl) (fun K k hret => ?_)
  have k : gOk K B l rX4_begin 2 cX4_begin RX4 wsX4_begin := k
  show GG K B C 0 [(0, .ref (gad B (7 + 9 * (i).toNat))), (1, .int (iI (v)))] []
  refine gg_aload_n k dX4_begin_0 rfl ?_
  refine gg_get k (cbStore hB (by omega) (by omega)) inX4_begin_X4 0 (by decide) fX4_begin_7 rfl rfl dX4_begin_1 ?_
  refine gg_iconst k dX4_begin_4 ?_
  refine gg_iload_n k dX4_begin_5 rfl ?_
  refine gg_iast k (cbStocks hB (by omega) (by omega)) (by omega) (by omega) dX4_begin_6 ?_
  refine gg_nm (fun C6 e6 => ?_)
  refine gg_aload_n k dX4_begin_7 rfl ?_
  refine gg_get k (cbStore hB (by omega) (by omega)) inX4_begin_X4 2 (by decide) fX4_begin_16 rfl rfl dX4_begin_8 ?_
  refine gg_iconst k dX4_begin_11 ?_
  refine gg_iload_n k dX4_begin_12 rfl ?_
  refine gg_iast k (cbLeft hB (by omega) (by omega)) (by omega) (by omega) dX4_begin_13 ?_
  refine gg_nm (fun C13 e13 => ?_)
  exact hret _ _ _ dX4_begin_14 (by subst_vars; rfl)

abbrev rX4_owedAt : Room := { frames := 1, cells := 0, slots := 0, locals := 24 }
set_option maxRecDepth 100000 in
set_option maxHeartbeats 4000000 in
theorem kX4_owedAt {l : Launch} {B : gB} {T : Int} {C : gSt} (hB : clsB B T) (hT : 1 ≤ T ∧ T ≤ 12) {i : Int} (hi0 : 0 ≤ i) (hi6 : i < 6) (p : Int) (hp0 : 0 ≤ p) (hp1 : p ≤ T) (hC : -100000000 ≤ C (8 + 9 * i.toNat) p ∧ C (8 + 9 * i.toNat) p ≤ 100000000) : gMi l B yX4_owedAt wsX4_owedAt rX4_owedAt [.ref (gad B (7 + 9 * (i).toNat)), .int (iI (p))] C (fun z C' => z = max 0 (-(C (8 + 9 * i.toNat) p)) ∧ C' = C) := by
  refine gMi_of (ty := .int) rfl (cc := cX4_owedAt) (nL := 2) (by decide) rfl (Nat.le_of_ble_eq_true rfl) (fun K k hret => ?_)
  have k : gOk K B l rX4_owedAt 2 cX4_owedAt RX4 wsX4_owedAt := k
  show GG K B C 0 [(0, .ref (gad B (7 + 9 * (i).toNat))), (1, .int (iI (p)))] []
  refine gg_iconst k dX4_owedAt_0 ?_
  refine gg_aload_n k dX4_owedAt_1 rfl ?_
  refine gg_get k (cbStore hB (by omega) (by omega)) inX4_owedAt_X4 0 (by decide) fX4_owedAt_7 rfl rfl dX4_owedAt_2 ?_
  refine gg_iload_n k dX4_owedAt_5 rfl ?_
  refine gg_iald k (cbStocks hB (by omega) (by omega)) (by omega) (by omega) dX4_owedAt_6 ?_
  refine gg_ineg k dX4_owedAt_7 ?_
  refine gg_max k ⟨by omega, by omega⟩ ⟨by omega, by omega⟩ dX4_owedAt_8 mX4_owedAt_30.1 mX4_owedAt_30.2.1 mX4_owedAt_30.2.2.1 mX4_owedAt_30.2.2.2 (Nat.le_of_ble_eq_true rfl) (Nat.le_of_ble_eq_true rfl) ?_
  exact hret _ _ _ _ dX4_owedAt_11 (⟨by omega, by omega⟩) (⟨rfl, rfl⟩)

abbrev rX4_spoil : Room := { frames := 0, cells := 0, slots := 0, locals := 0 }
set_option maxRecDepth 100000 in
set_option maxHeartbeats 4000000 in
theorem kX4_spoil {l : Launch} {B : gB} {T : Int} {C : gSt} (hB : clsB B T) (hT : 1 ≤ T ∧ T ≤ 12) {i : Int} (hi0 : 0 ≤ i) (hi6 : i < 6) (c : Int) (hc0 : 0 ≤ c) (hc1 : c ≤ T) (hC : -100000000 ≤ C (10 + 9 * i.toNat) c ∧ C (10 + 9 * i.toNat) c ≤ 100000000) : gMi l B yX4_spoil wsX4_spoil rX4_spoil [.ref (gad B (7 + 9 * (i).toNat)), .int (iI (c))] C (fun z C' => z = C (10 + 9 * i.toNat) c ∧ C' = wr C (10 + 9 * i.toNat) c 0) := by
  refine gMi_of (ty := .int) rfl (cc := cX4_spoil) (nL := 3) (by decide) rfl (Nat.le_of_ble_eq_true rfl) (fun K k hret => ?_)
  have k : gOk K B l rX4_spoil 3 cX4_spoil RX4 wsX4_spoil := k
  show GG K B C 0 [(0, .ref (gad B (7 + 9 * (i).toNat))), (1, .int (iI (c)))] []
  refine gg_aload_n k dX4_spoil_0 rfl ?_
  refine gg_get k (cbStore hB (by omega) (by omega)) inX4_spoil_X4 2 (by decide) fX4_spoil_16 rfl rfl dX4_spoil_1 ?_
  refine gg_iload_n k dX4_spoil_4 rfl ?_
  refine gg_iald k (cbLeft hB (by omega) (by omega)) (by omega) (by omega) dX4_spoil_5 ?_
  refine gg_istore_n k [(2, .int (iI (C (10 + 9 * (i).toNat) (c)))), (0, .ref (gad B (7 + 9 * (i).toNat))), (1, .int (iI (c)))] dX4_spoil_6 (by decide) rfl ?_
  refine gg_aload_n k dX4_spoil_7 rfl ?_
  refine gg_get k (cbStore hB (by omega) (by omega)) inX4_spoil_X4 2 (by decide) fX4_spoil_16 rfl rfl dX4_spoil_8 ?_
  refine gg_iload_n k dX4_spoil_11 rfl ?_
  refine gg_iconst k dX4_spoil_12 ?_
  refine gg_iast k (cbLeft hB (by omega) (by omega)) (by omega) (by omega) dX4_spoil_13 ?_
  refine gg_nm (fun C13 e13 => ?_)
  refine gg_iload_n k dX4_spoil_14 rfl ?_
  exact hret _ _ _ _ dX4_spoil_15 (⟨by omega, by omega⟩) (⟨rfl, e13⟩)

abbrev rX4_take : Room := { frames := 1, cells := 0, slots := 0, locals := 24 }
set_option maxRecDepth 100000 in
set_option maxHeartbeats 4000000 in
theorem kX4_take {l : Launch} {B : gB} {T : Int} {C : gSt} (hB : clsB B T) (hT : 1 ≤ T ∧ T ≤ 12) {i : Int} (hi0 : 0 ≤ i) (hi6 : i < 6) (u a : Int) (hu0 : 0 ≤ u) (hu1 : u ≤ T) (ha0 : 0 ≤ a) (ha1 : a ≤ 100000000) (hl : ∀ x : Int, 0 ≤ x → x ≤ u → 0 ≤ C (10 + 9 * i.toNat) x ∧ C (10 + 9 * i.toNat) x ≤ 100000000) : gMv l B yX4_take wsX4_take rX4_take [.ref (gad B (7 + 9 * (i).toNat)), .int (iI (u)), .int (iI (a))] C (fun C' => C' (10 + 9 * i.toNat) = (tkL (C (10 + 9 * i.toNat)) a (u + 1).toNat).1 ∧ ∀ q : Nat, q ≠ 10 + 9 * i.toNat → C' q = C q) := by
  refine gMv_of (cc := cX4_take) (nL := 6) (by decide) rfl (Nat.le_of_ble_eq_true rfl) (fun K k hret => ?_)
  have k : gOk K B l rX4_take 6 cX4_take RX4 wsX4_take := k
  show GG K B C 0 [(0, .ref (gad B (7 + 9 * (i).toNat))), (1, .int (iI (u))), (2, .int (iI (a)))] []
  refine gg_iload_n k dX4_take_0 rfl ?_
  refine gg_istore_n k [(3, .int (iI (a))), (0, .ref (gad B (7 + 9 * (i).toNat))), (1, .int (iI (u))), (2, .int (iI (a)))] dX4_take_1 (by decide) rfl ?_
  refine gg_iconst k dX4_take_2 ?_
  refine gg_istore k [(4, .int (iI (0))), (3, .int (iI (a))), (0, .ref (gad B (7 + 9 * (i).toNat))), (1, .int (iI (u))), (2, .int (iI (a)))] dX4_take_3 (by decide) rfl ?_
  have L5 : ∀ (n5 : Nat) (j : Int) (w : Int) (C1 : gSt), 0 ≤ j → j ≤ u + 1 → w = (tkL (C (10 + 9 * i.toNat)) a j.toNat).2 → C1 (10 + 9 * i.toNat) = (tkL (C (10 + 9 * i.toNat)) a j.toNat).1 → (∀ q : Nat, q ≠ 10 + 9 * i.toNat → C1 q = C q) → u + 1 - j < (n5 : Int) → GG K B C1 5 [(0, .ref (gad B (7 + 9 * (i).toNat))), (1, .int (iI (u))), (3, .int (iI (w))), (4, .int (iI (j)))] [] := by
    intro n5
    induction n5 with
    | zero =>
      intro j w C1 hj0 hj1 hw hl1 hk1 hn5
      exact absurd hn5 (by omega)
    | succ n5 ih5 =>
      intro j w C1 hj0 hj1 hw hl1 hk1 hn5
      have tb := tkL_c (l := C (10 + 9 * i.toNat)) (w := a) (n := j.toNat) (fun x h0 h1 => (hl x h0 (by omega)).1) ha0
      refine gg_iload k dX4_take_5 rfl ?_
      refine gg_iload_n k dX4_take_7 rfl ?_
      refine gg_icmp_gt k 47 dX4_take_8 (by decide) ⟨by omega, by omega⟩ ⟨by omega, by omega⟩ (fun c8 => ?_) (fun c8 => ?_)
      · exact hret _ _ _ dX4_take_47 (⟨by rw [hl1, show j = u + 1 by omega], hk1⟩)
      · refine gg_aload_n k dX4_take_11 rfl ?_
        refine gg_get k (cbStore hB (by omega) (by omega)) inX4_take_X4 2 (by decide) fX4_take_16 rfl rfl dX4_take_12 ?_
        refine gg_iload k dX4_take_15 rfl ?_
        refine gg_iald k (cbLeft hB (by omega) (by omega)) (by omega) (by omega) dX4_take_17 ?_
        have hx17 : C1 (10 + 9 * i.toNat) j = (tkL (C (10 + 9 * i.toNat)) a j.toNat).1 j := congrFun hl1 j
        have hx : (tkL (C (10 + 9 * i.toNat)) a j.toNat).1 j = C (10 + 9 * i.toNat) j := tkL_hi _ _ (by omega)
        have hxb := hl j hj0
        refine gg_iload_n k dX4_take_18 rfl ?_
        refine gg_min k ⟨by omega, by omega⟩ ⟨by omega, by omega⟩ dX4_take_19 mX4_take_36.1 mX4_take_36.2.1 mX4_take_36.2.2.1 mX4_take_36.2.2.2 (Nat.le_of_ble_eq_true rfl) (Nat.le_of_ble_eq_true rfl) ?_
        refine gg_istore k [(5, .int (iI (min (C1 (10 + 9 * (i).toNat) (j)) w))), (0, .ref (gad B (7 + 9 * (i).toNat))), (1, .int (iI (u))), (3, .int (iI (w))), (4, .int (iI (j)))] dX4_take_22 (by decide) rfl ?_
        refine gg_aload_n k dX4_take_24 rfl ?_
        refine gg_get k (cbStore hB (by omega) (by omega)) inX4_take_X4 2 (by decide) fX4_take_16 rfl rfl dX4_take_25 ?_
        refine gg_iload k dX4_take_28 rfl ?_
        refine gg_dup2 k dX4_take_30 rfl rfl ?_
        refine gg_iald k (cbLeft hB (by omega) (by omega)) (by omega) (by omega) dX4_take_31 ?_
        refine gg_iload k dX4_take_32 rfl ?_
        refine gg_isub k dX4_take_34 ?_
        refine gg_iast k (cbLeft hB (by omega) (by omega)) (by omega) (by omega) dX4_take_35 ?_
        refine gg_nm (fun C35 e35 => ?_)
        refine gg_iload_n k dX4_take_36 rfl ?_
        refine gg_iload k dX4_take_37 rfl ?_
        refine gg_isub k dX4_take_39 ?_
        refine gg_istore_n k [(3, .int (iI (w - (min (C1 (10 + 9 * (i).toNat) (j)) w)))), (5, .int (iI (min (C1 (10 + 9 * (i).toNat) (j)) w))), (0, .ref (gad B (7 + 9 * (i).toNat))), (1, .int (iI (u))), (4, .int (iI (j)))] dX4_take_40 (by decide) rfl ?_
        refine gg_iinc k 4 [(4, .int (iI (j + 1))), (3, .int (iI (w - (min (C1 (10 + 9 * (i).toNat) (j)) w)))), (5, .int (iI (min (C1 (10 + 9 * (i).toNat) (j)) w))), (0, .ref (gad B (7 + 9 * (i).toNat))), (1, .int (iI (u)))] dX4_take_41 rfl (by decide) rfl ?_
        refine gg_goto (tgt := 5) k dX4_take_44 (by decide) ?_
        refine gg_sub [3, 4, 1, 0] rfl ?_
        exact ih5 (j + 1) (w - (min (C1 (10 + 9 * (i).toNat) (j)) w)) (C35) (by omega) (by omega) (by rw [tkL_s hj0]; show _ = _ - _; rw [← hw, ← hl1]) (by rw [e35, wr_up, tkL_s hj0]; show upI _ _ _ = upI _ _ _; rw [← hw, ← hl1]) (fun q hq => by rw [e35, wr_k hq]; exact hk1 q hq) (by omega)
  refine gg_sub [2, 3, 1, 0] rfl ?_
  exact L5 ((u + 1 - 0).toNat + 1) (0) (a) (C) (by omega) (by omega) (rfl) (rfl) (fun _ _ => rfl) (by omega)

abbrev rX4_pass : Room := { frames := 2, cells := 0, slots := 0, locals := 49 }
set_option maxRecDepth 100000 in
set_option maxHeartbeats 4000000 in
theorem kX4_pass {l : Launch} {B : gB} {T : Int} {C : gSt} (hB : clsB B T) (hT : 1 ≤ T ∧ T ≤ 12) {i : Int} (hi0 : 0 ≤ i) (hi6 : i < 6) (p ca wa sh : Int) (hp0 : 1 ≤ p) (hp1 : p ≤ T) (hca : 0 ≤ ca ∧ ca ≤ 5000) (hwa : 0 ≤ wa ∧ wa ≤ 271000) (hsh : 0 ≤ sh ∧ sh ≤ 12) (hst : -3252000 ≤ C (8 + 9 * i.toNat) (p - 1) ∧ C (8 + 9 * i.toNat) (p - 1) ≤ 65000) (hl : ∀ x : Int, 0 ≤ x → x ≤ p - 1 → 0 ≤ C (10 + 9 * i.toNat) x ∧ C (10 + 9 * i.toNat) x ≤ 5000) : gMv l B yX4_pass wsX4_pass rX4_pass [.ref (gad B (7 + 9 * (i).toNat)), .int (iI (p)), .int (iI (ca)), .int (iI (wa)), .int (iI (sh))] C (fun C' => C' (10 + 9 * i.toNat) = pLeft (tkL (upI (C (10 + 9 * i.toNat)) p ca) (wa + max 0 (-(C (8 + 9 * i.toNat) (p - 1)))) (p + 1).toNat).1 p sh ∧ C' (9 + 9 * i.toNat) = upI (C (9 + 9 * i.toNat)) p (pGone (tkL (upI (C (10 + 9 * i.toNat)) p ca) (wa + max 0 (-(C (8 + 9 * i.toNat) (p - 1)))) (p + 1).toNat).1 p sh) ∧ C' (8 + 9 * i.toNat) = upI (C (8 + 9 * i.toNat)) p (C (8 + 9 * i.toNat) (p - 1) + ca - wa - pGone (tkL (upI (C (10 + 9 * i.toNat)) p ca) (wa + max 0 (-(C (8 + 9 * i.toNat) (p - 1)))) (p + 1).toNat).1 p sh) ∧ ∀ q : Nat, q ≠ 10 + 9 * i.toNat → q ≠ 9 + 9 * i.toNat → q ≠ 8 + 9 * i.toNat → C' q = C q) := by
  refine gMv_of (cc := cX4_pass) (nL := 5) (by decide) rfl (Nat.le_of_ble_eq_true rfl) (fun K k hret => ?_)
  have k : gOk K B l rX4_pass 5 cX4_pass RX4 wsX4_pass := k
  show GG K B C 0 [(0, .ref (gad B (7 + 9 * (i).toNat))), (1, .int (iI (p))), (2, .int (iI (ca))), (3, .int (iI (wa))), (4, .int (iI (sh)))] []
  refine gg_aload_n k dX4_pass_0 rfl ?_
  refine gg_get k (cbStore hB (by omega) (by omega)) inX4_pass_X4 2 (by decide) fX4_pass_16 rfl rfl dX4_pass_1 ?_
  refine gg_iload_n k dX4_pass_4 rfl ?_
  refine gg_iload_n k dX4_pass_5 rfl ?_
  refine gg_iast k (cbLeft hB (by omega) (by omega)) (by omega) (by omega) dX4_pass_6 ?_
  refine gg_nm (fun C6 e6 => ?_)
  have h6s : C6 (8 + 9 * i.toNat) = C (8 + 9 * i.toNat) := by rw [e6, wr_k (by omega)]
  have h6l : C6 (10 + 9 * i.toNat) = upI (C (10 + 9 * i.toNat)) p ca := by rw [e6, wr_up]
  have hl6b : ∀ x : Int, 0 ≤ x → x ≤ p → 0 ≤ C6 (10 + 9 * i.toNat) x ∧ C6 (10 + 9 * i.toNat) x ≤ 5000 := fun x h0 h1 => by
    rw [h6l]
    by_cases hx : x = p
    · rw [hx, upI_s]; exact hca
    · rw [upI_n hx]; exact hl x h0 (by omega)
  have hl6 : ∀ x : Int, 0 ≤ x → x ≤ p → 0 ≤ C6 (10 + 9 * i.toNat) x ∧ C6 (10 + 9 * i.toNat) x ≤ 100000000 := fun x h0 h1 => ⟨(hl6b x h0 h1).1, by have := (hl6b x h0 h1).2; omega⟩
  refine gg_aload_n k dX4_pass_7 rfl ?_
  refine gg_iload_n k dX4_pass_8 rfl ?_
  refine gg_iload_n k dX4_pass_9 rfl ?_
  refine gg_aload_n k dX4_pass_10 rfl ?_
  refine gg_iload_n k dX4_pass_11 rfl ?_
  refine gg_iconst k dX4_pass_12 ?_
  refine gg_isub k dX4_pass_13 ?_
  refine gg_calli (n := 1) (As := [.int (iI (p - 1))]) (rest := [.int (iI (wa)), .int (iI (p)), .ref (gad B (7 + 9 * (i).toNat))]) k (kX4_owedAt hB hT hi0 hi6 (p - 1) (by omega) (by omega) (by rw [h6s]; omega)) ⟨_, _, _, gX4_pass_X4_owedAt, rfl, rfl, rfl, by decide +kernel, by decide, by decide⟩ (cbStore hB (by omega) (by omega)) rfl rfl (Nat.le_of_ble_eq_true rfl) dX4_pass_14 (fun z14 C14 r14 q14 => ?_)
  obtain ⟨q14, e14⟩ := q14
  rw [e14]
  clear e14
  rw [h6s] at q14
  refine gg_iadd k dX4_pass_17 ?_
  refine gg_callv (n := 2) (As := [.int (iI (p)), .int (iI (wa + z14))]) (rest := []) k (kX4_take hB hT hi0 hi6 p (wa + z14) (by omega) (by omega) (by omega) (by omega) hl6) ⟨_, _, _, gX4_pass_X4_take, rfl, rfl, rfl, by decide +kernel, by decide, by decide⟩ (cbStore hB (by omega) (by omega)) rfl rfl (Nat.le_of_ble_eq_true rfl) dX4_pass_18 (fun C18 q18 => ?_)
  obtain ⟨q18a, q18b⟩ := q18
  have hT6 : C18 (10 + 9 * i.toNat) = (tkL (upI (C (10 + 9 * i.toNat)) p ca) (wa + max 0 (-(C (8 + 9 * i.toNat) (p - 1)))) (p + 1).toNat).1 := by rw [q18a, h6l, q14]
  have tb := tkL_c (l := upI (C (10 + 9 * i.toNat)) p ca) (w := wa + max 0 (-(C (8 + 9 * i.toNat) (p - 1)))) (n := (p + 1).toNat) (fun x h0 h1 => by rw [← h6l]; exact (hl6 x h0 (by omega)).1) (by omega)
  have tb2 : ∀ x : Int, 0 ≤ x → x ≤ p → 0 ≤ C18 (10 + 9 * i.toNat) x ∧ C18 (10 + 9 * i.toNat) x ≤ 5000 := fun x h0 h1 => by rw [hT6]; exact ⟨(tb.1 x h0 (by omega)).1, Int.le_trans (tb.1 x h0 (by omega)).2 (by rw [← h6l]; exact (hl6b x h0 h1).2)⟩
  refine gg_aload_n k dX4_pass_21 rfl ?_
  refine gg_get k (cbStore hB (by omega) (by omega)) inX4_pass_X4 1 (by decide) fX4_pass_13 rfl rfl dX4_pass_22 ?_
  refine gg_iload_n k dX4_pass_25 rfl ?_
  have J49 : ∀ (x : Int) (C3 : gSt), x = pGone (tkL (upI (C (10 + 9 * i.toNat)) p ca) (wa + max 0 (-(C (8 + 9 * i.toNat) (p - 1)))) (p + 1).toNat).1 p sh → C3 (10 + 9 * i.toNat) = pLeft (tkL (upI (C (10 + 9 * i.toNat)) p ca) (wa + max 0 (-(C (8 + 9 * i.toNat) (p - 1)))) (p + 1).toNat).1 p sh → (∀ q : Nat, q ≠ 10 + 9 * i.toNat → C3 q = C18 q) → -10000 ≤ x → x ≤ 10000 → GG K B C3 49 [(0, .ref (gad B (7 + 9 * (i).toNat))), (1, .int (iI (p))), (2, .int (iI (ca))), (3, .int (iI (wa))), (4, .int (iI (sh)))] [.int (iI x), .int (iI p), .ref (gad B (9 + 9 * (i).toNat))] := by
    intro x C3 hx hx1 hx2 hx3 hx4
    refine gg_iast k (cbLosses hB (by omega) (by omega)) (by omega) (by omega) dX4_pass_49 ?_
    refine gg_nm (fun C4 e4 => ?_)
    have h4s : C4 (8 + 9 * i.toNat) = C (8 + 9 * i.toNat) := by rw [e4, wr_k (by omega), hx2 _ (by omega), q18b _ (by omega), h6s]
    refine gg_aload_n k dX4_pass_50 rfl ?_
    refine gg_get k (cbStore hB (by omega) (by omega)) inX4_pass_X4 0 (by decide) fX4_pass_7 rfl rfl dX4_pass_51 ?_
    refine gg_iload_n k dX4_pass_54 rfl ?_
    refine gg_aload_n k dX4_pass_55 rfl ?_
    refine gg_get k (cbStore hB (by omega) (by omega)) inX4_pass_X4 0 (by decide) fX4_pass_7 rfl rfl dX4_pass_56 ?_
    refine gg_iload_n k dX4_pass_59 rfl ?_
    refine gg_iconst k dX4_pass_60 ?_
    refine gg_isub k dX4_pass_61 ?_
    refine gg_iald k (cbStocks hB (by omega) (by omega)) (by omega) (by omega) dX4_pass_62 ?_
    refine gg_ti (congrFun h4s (p - 1)) ?_
    refine gg_iload_n k dX4_pass_63 rfl ?_
    refine gg_iadd k dX4_pass_64 ?_
    refine gg_iload_n k dX4_pass_65 rfl ?_
    refine gg_isub k dX4_pass_66 ?_
    refine gg_aload_n k dX4_pass_67 rfl ?_
    refine gg_get k (cbStore hB (by omega) (by omega)) inX4_pass_X4 1 (by decide) fX4_pass_13 rfl rfl dX4_pass_68 ?_
    refine gg_iload_n k dX4_pass_71 rfl ?_
    refine gg_iald k (cbLosses hB (by omega) (by omega)) (by omega) (by omega) dX4_pass_72 ?_
    refine gg_ti (show C4 (9 + 9 * i.toNat) p = x by rw [e4, wr_s]) ?_
    refine gg_isub k dX4_pass_73 ?_
    refine gg_iast k (cbStocks hB (by omega) (by omega)) (by omega) (by omega) dX4_pass_74 ?_
    refine gg_nm (fun C74 e74 => ?_)
    exact hret _ _ _ dX4_pass_75 (by
      have e74 := e74
      refine ⟨?_, ?_, ?_, fun q h1 h2 h3 => ?_⟩
      · rw [e74, wr_k (by omega), e4, wr_k (by omega)]; exact hx1
      · rw [e74, wr_k (by omega), e4, wr_up, hx2 _ (by omega), q18b _ (by omega), e6, wr_k (by omega), ← hx]
      · rw [e74, wr_up, h4s, ← hx]
      · rw [e74, wr_k h3, e4, wr_k h2, hx2 q h1, q18b q h1, e6, wr_k h1])
  refine gg_iload k dX4_pass_26 rfl ?_
  refine gg_if_le k 48 dX4_pass_28 (by decide) ⟨by omega, by omega⟩ (fun c28 => ?_) (fun c28 => ?_)
  · refine gg_iconst k dX4_pass_48 ?_
    exact J49 0 C18 (by unfold pGone; rw [if_neg (by omega)]) (by unfold pLeft; rw [if_neg (by omega)]; exact hT6) (fun _ _ => rfl) (by omega) (by omega)
  · refine gg_iload k dX4_pass_31 rfl ?_
    refine gg_iload_n k dX4_pass_33 rfl ?_
    refine gg_icmp_gt k 48 dX4_pass_34 (by decide) ⟨by omega, by omega⟩ ⟨by omega, by omega⟩ (fun c34 => ?_) (fun c34 => ?_)
    · refine gg_iconst k dX4_pass_48 ?_
      exact J49 0 C18 (by unfold pGone; rw [if_neg (by omega)]) (by unfold pLeft; rw [if_neg (by omega)]; exact hT6) (fun _ _ => rfl) (by omega) (by omega)
    · refine gg_aload_n k dX4_pass_37 rfl ?_
      refine gg_iload_n k dX4_pass_38 rfl ?_
      refine gg_iload k dX4_pass_39 rfl ?_
      refine gg_isub k dX4_pass_41 ?_
      refine gg_calli (n := 1) (As := [.int (iI (p - sh))]) (rest := [.int (iI (p)), .ref (gad B (9 + 9 * (i).toNat))]) k (kX4_spoil hB hT hi0 hi6 (p - sh) (by omega) (by omega) (by have := tb2 (p - sh) (by omega) (by omega); omega)) ⟨_, _, _, gX4_pass_X4_spoil, rfl, rfl, rfl, by decide +kernel, by decide, by decide⟩ (cbStore hB (by omega) (by omega)) rfl rfl (Nat.le_of_ble_eq_true rfl) dX4_pass_42 (fun z42 C42 r42 q42 => ?_)
      obtain ⟨q42, e42⟩ := q42
      refine gg_goto (tgt := 49) k dX4_pass_45 (by decide) ?_
      exact J49 z42 C42 (by unfold pGone; rw [if_pos (by omega), ← hT6]; exact q42) (by unfold pLeft; rw [if_pos (by omega), e42, wr_up, hT6]) (fun q hq => by rw [e42, wr_k hq]) (by have := tb2 (p - sh) (by omega) (by omega); omega) (by have := tb2 (p - sh) (by omega) (by omega); omega)
