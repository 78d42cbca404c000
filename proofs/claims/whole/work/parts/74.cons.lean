abbrev rX4_init : Room := { frames := 1, cells := 3, slots := 39, locals := 12 }
set_option maxRecDepth 100000 in
set_option maxHeartbeats 4000000 in
theorem nX4_init {l : Launch} {D : va_G} {cI cJ cZ cQ : ClassId} {T : Int} (hT : 1 ≤ T ∧ T ≤ 12) (h0 : Nat) : nMv l D vwD (wT cI cJ cZ cQ) yX4_init wsX4_init rX4_init [.ref h0, .int (iI T)] [(h0, .inr (4, [.null, .null, .null]))] 3 39 noX (fun w1 => ∃ sa sb sc : Nat, w1 = [(h0, .inr (4, [.ref sa, .ref sb, .ref sc])), (sa, aI cI (T.toNat + 1)), (sb, aI cI (T.toNat + 1)), (sc, aI cI (T.toNat + 1))]) := by
  refine nMv_of (cc := cX4_init) (nL := 2) rfl (by decide) rfl (Nat.le_of_ble_eq_true rfl) (fun K sz k hi hX hret => ?_)
  have k : wOk K D vwD (wT cI cJ cZ cQ) l rX4_init 2 cX4_init RX4 wsX4_init := k
  show GW K D vwD 0 0 [(h0, .inr (4, [.null, .null, .null]))] 0 [(0, .ref h0), (1, .int (iI T))] []
  refine gw_aload_n k dX4_init_0 rfl ?_
  refine gw_objInit k oX4_init.1 oX4_init.2.1 oX4_init.2.2 dX4_init_1 (Nat.le_of_ble_eq_true rfl) (Nat.le_of_ble_eq_true rfl) ?_
  refine gw_aload_n k dX4_init_4 rfl ?_
  refine gw_iload_n k dX4_init_5 rfl ?_
  refine gw_iconst k dX4_init_6 ?_
  refine gw_iadd k dX4_init_7 ?_
  refine gw_newI k 0 rfl (by decide +kernel) (N := T.toNat + 1) (n' := 13) (by omega) (by omega) (by omega) (by omega) (Nat.le_of_ble_eq_true rfl) (Nat.le_of_ble_eq_true rfl) dX4_init_8 (fun q8 => ?_)
  refine gw_ws (ws' := [(h0, .inr (4, [.null, .null, .null])), (q8, aI cI (T.toNat + 1))]) rfl ?_
  refine gw_putF k hi inX4_init_X4 tyX4 tyX4_ok nmX4 0 rfl rfl 0 (by decide) fX4_init_7 rfl rfl rfl rfl rfl (Nat.le_of_ble_eq_true rfl) [(h0, .inr (4, [.ref q8, .null, .null])), (q8, aI cI (T.toNat + 1))] rfl dX4_init_10 ?_
  refine gw_aload_n k dX4_init_13 rfl ?_
  refine gw_iload_n k dX4_init_14 rfl ?_
  refine gw_iconst k dX4_init_15 ?_
  refine gw_iadd k dX4_init_16 ?_
  refine gw_newI k 0 rfl (by decide +kernel) (N := T.toNat + 1) (n' := 13) (by omega) (by omega) (by omega) (by omega) (Nat.le_of_ble_eq_true rfl) (Nat.le_of_ble_eq_true rfl) dX4_init_17 (fun q17 => ?_)
  refine gw_ws (ws' := [(h0, .inr (4, [.ref q8, .null, .null])), (q8, aI cI (T.toNat + 1)), (q17, aI cI (T.toNat + 1))]) rfl ?_
  refine gw_putF k hi inX4_init_X4 tyX4 tyX4_ok nmX4 0 rfl rfl 1 (by decide) fX4_init_13 rfl rfl rfl rfl rfl (Nat.le_of_ble_eq_true rfl) [(h0, .inr (4, [.ref q8, .ref q17, .null])), (q8, aI cI (T.toNat + 1)), (q17, aI cI (T.toNat + 1))] rfl dX4_init_19 ?_
  refine gw_aload_n k dX4_init_22 rfl ?_
  refine gw_iload_n k dX4_init_23 rfl ?_
  refine gw_iconst k dX4_init_24 ?_
  refine gw_iadd k dX4_init_25 ?_
  refine gw_newI k 0 rfl (by decide +kernel) (N := T.toNat + 1) (n' := 13) (by omega) (by omega) (by omega) (by omega) (Nat.le_of_ble_eq_true rfl) (Nat.le_of_ble_eq_true rfl) dX4_init_26 (fun q26 => ?_)
  refine gw_ws (ws' := [(h0, .inr (4, [.ref q8, .ref q17, .null])), (q8, aI cI (T.toNat + 1)), (q17, aI cI (T.toNat + 1)), (q26, aI cI (T.toNat + 1))]) rfl ?_
  refine gw_putF k hi inX4_init_X4 tyX4 tyX4_ok nmX4 0 rfl rfl 2 (by decide) fX4_init_16 rfl rfl rfl rfl rfl (Nat.le_of_ble_eq_true rfl) [(h0, .inr (4, [.ref q8, .ref q17, .ref q26])), (q8, aI cI (T.toNat + 1)), (q17, aI cI (T.toNat + 1)), (q26, aI cI (T.toNat + 1))] rfl dX4_init_28 ?_
  exact hret _ _ _ _ _ dX4_init_31 (by decide) (by decide) ⟨q8, q17, q26, rfl⟩

abbrev rX3_init : Room := { frames := 1, cells := 2, slots := 26, locals := 12 }
set_option maxRecDepth 100000 in
set_option maxHeartbeats 4000000 in
theorem nX3_init {l : Launch} {D : va_G} {cI cJ cZ cQ : ClassId} {T : Int} (hT : 1 ≤ T ∧ T ≤ 12) (h0 : Nat) : nMv l D vwD (wT cI cJ cZ cQ) yX3_init wsX3_init rX3_init [.ref h0, .int (iI T)] [(h0, .inr (3, [.null, .null]))] 2 26 noX (fun w1 => ∃ ma mb : Nat, w1 = [(h0, .inr (3, [.ref ma, .ref mb])), (ma, aI cI (T.toNat + 1)), (mb, .inl (cI, T.toNat + 1, .inl stF))]) := by
  refine nMv_of (cc := cX3_init) (nL := 2) rfl (by decide) rfl (Nat.le_of_ble_eq_true rfl) (fun K sz k hi hX hret => ?_)
  have k : wOk K D vwD (wT cI cJ cZ cQ) l rX3_init 2 cX3_init RX3 wsX3_init := k
  show GW K D vwD 0 0 [(h0, .inr (3, [.null, .null]))] 0 [(0, .ref h0), (1, .int (iI T))] []
  refine gw_aload_n k dX3_init_0 rfl ?_
  refine gw_objInit k oX3_init.1 oX3_init.2.1 oX3_init.2.2 dX3_init_1 (Nat.le_of_ble_eq_true rfl) (Nat.le_of_ble_eq_true rfl) ?_
  refine gw_aload_n k dX3_init_4 rfl ?_
  refine gw_iload_n k dX3_init_5 rfl ?_
  refine gw_iconst k dX3_init_6 ?_
  refine gw_iadd k dX3_init_7 ?_
  refine gw_newI k 0 rfl (by decide +kernel) (N := T.toNat + 1) (n' := 13) (by omega) (by omega) (by omega) (by omega) (Nat.le_of_ble_eq_true rfl) (Nat.le_of_ble_eq_true rfl) dX3_init_8 (fun q8 => ?_)
  refine gw_ws (ws' := [(h0, .inr (3, [.null, .null])), (q8, aI cI (T.toNat + 1))]) rfl ?_
  refine gw_putF k hi inX3_init_X3 tyX3 tyX3_ok nmX3 0 rfl rfl 0 (by decide) fX3_init_9 rfl rfl rfl rfl rfl (Nat.le_of_ble_eq_true rfl) [(h0, .inr (3, [.ref q8, .null])), (q8, aI cI (T.toNat + 1))] rfl dX3_init_10 ?_
  refine gw_aload_n k dX3_init_13 rfl ?_
  refine gw_iload_n k dX3_init_14 rfl ?_
  refine gw_iconst k dX3_init_15 ?_
  refine gw_iadd k dX3_init_16 ?_
  refine gw_newI k 0 rfl (by decide +kernel) (N := T.toNat + 1) (n' := 13) (by omega) (by omega) (by omega) (by omega) (Nat.le_of_ble_eq_true rfl) (Nat.le_of_ble_eq_true rfl) dX3_init_17 (fun q17 => ?_)
  refine gw_ws (ws' := [(h0, .inr (3, [.ref q8, .null])), (q8, aI cI (T.toNat + 1)), (q17, aI cI (T.toNat + 1))]) rfl ?_
  refine gw_putF k hi inX3_init_X3 tyX3 tyX3_ok nmX3 0 rfl rfl 1 (by decide) fX3_init_15 rfl rfl rfl rfl rfl (Nat.le_of_ble_eq_true rfl) [(h0, .inr (3, [.ref q8, .ref q17])), (q8, aI cI (T.toNat + 1)), (q17, aI cI (T.toNat + 1))] rfl dX3_init_19 ?_
  refine gw_aload_n k dX3_init_22 rfl ?_
  refine gw_get k inX3_init_X3 0 rfl rfl 1 (by decide) fX3_init_15 rfl rfl dX3_init_23 ?_
  refine gw_iconst k dX3_init_26 ?_
  refine gw_bipush k dX3_init_27 (by decide +kernel) ?_
  refine gw_iast k 2 0 rfl rfl (by omega) (by omega) (by omega) [(h0, .inr (3, [.ref q8, .ref q17])), (q8, aI cI (T.toNat + 1)), (q17, .inl (cI, T.toNat + 1, .inl stF))] (by rw [stF_0]; rfl) dX3_init_29 ?_
  exact hret _ _ _ _ _ dX3_init_30 (by decide) (by decide) ⟨q8, q17, rfl⟩

abbrev rX1_init : Room := { frames := 1, cells := 1, slots := 624, locals := 12 }
set_option maxRecDepth 100000 in
set_option maxHeartbeats 4000000 in
theorem nX1_init {l : Launch} {D : va_G} {cI cJ cZ cQ : ClassId} {T : Int} (hT : 1 ≤ T ∧ T ≤ 12) (h0 : Nat) : nMv l D vwD (wT cI cJ cZ cQ) yX1_init wsX1_init rX1_init [.ref h0, .int (iI T)] [(h0, .inr (1, [.int (iI 0), .null]))] 1 624 noX (fun w1 => ∃ fa : Nat, w1 = [(h0, .inr (1, [.int (iI 0), .ref fa])), (fa, aI cI (T.toNat * 52))]) := by
  refine nMv_of (cc := cX1_init) (nL := 2) rfl (by decide) rfl (Nat.le_of_ble_eq_true rfl) (fun K sz k hi hX hret => ?_)
  have k : wOk K D vwD (wT cI cJ cZ cQ) l rX1_init 2 cX1_init RX1 wsX1_init := k
  show GW K D vwD 0 0 [(h0, .inr (1, [.int (iI 0), .null]))] 0 [(0, .ref h0), (1, .int (iI T))] []
  refine gw_aload_n k dX1_init_0 rfl ?_
  refine gw_objInit k oX1_init.1 oX1_init.2.1 oX1_init.2.2 dX1_init_1 (Nat.le_of_ble_eq_true rfl) (Nat.le_of_ble_eq_true rfl) ?_
  refine gw_aload_n k dX1_init_4 rfl ?_
  refine gw_iconst k dX1_init_5 ?_
  refine gw_put k inX1_init_X1 tyX1 tyX1_ok nmX1 0 rfl rfl 0 (by decide) fX1_init_9 rfl rfl rfl rfl (Nat.le_of_ble_eq_true rfl) [(h0, .inr (1, [.int (iI (0)), .null]))] rfl dX1_init_6 ?_
  refine gw_aload_n k dX1_init_9 rfl ?_
  refine gw_iload_n k dX1_init_10 rfl ?_
  refine gw_bipush k dX1_init_11 (by decide +kernel) ?_
  refine gw_imul k dX1_init_13 ?_
  refine gw_iconst k dX1_init_14 ?_
  refine gw_imul k dX1_init_15 ?_
  refine gw_newI k 0 rfl (by decide +kernel) (N := T.toNat * 52) (n' := 624) (by omega) (by omega) (by omega) (by omega) (Nat.le_of_ble_eq_true rfl) (Nat.le_of_ble_eq_true rfl) dX1_init_16 (fun q16 => ?_)
  refine gw_ws (ws' := [(h0, .inr (1, [.int (iI (0)), .null])), (q16, aI cI (T.toNat * 52))]) rfl ?_
  refine gw_putF k hi inX1_init_X1 tyX1 tyX1_ok nmX1 0 rfl rfl 1 (by decide) fX1_init_15 rfl rfl rfl rfl rfl (Nat.le_of_ble_eq_true rfl) [(h0, .inr (1, [.int (iI (0)), .ref q16])), (q16, aI cI (T.toNat * 52))] rfl dX1_init_18 ?_
  exact hret _ _ _ _ _ dX1_init_21 (by decide) (by decide) ⟨q16, rfl⟩

abbrev rX0_init : Room := { frames := 1, cells := 4, slots := 53, locals := 12 }
set_option maxRecDepth 100000 in
set_option maxHeartbeats 4000000 in
theorem nX0_init {l : Launch} {D : va_G} {cI cJ cZ cQ : ClassId} {T : Int} (hT : 1 ≤ T ∧ T ≤ 12) (h0 : Nat) : nMv l D vwD (wT cI cJ cZ cQ) yX0_init wsX0_init rX0_init [.ref h0, .int (iI T)] [(h0, .inr (0, [.int (iI 0), .null, .null, .null, .null]))] 4 53 noX (fun w1 => ∃ aa ab ac ae : Nat, w1 = [(h0, .inr (0, [.int (iI T), .ref aa, .ref ab, .ref ac, .ref ae])), (aa, aI cI (T.toNat + 1)), (ab, aJ cJ (T.toNat + 2)), (ac, aI cI (T.toNat + 1)), (ae, aI cI (T.toNat + 1))]) := by
  refine nMv_of (cc := cX0_init) (nL := 2) rfl (by decide) rfl (Nat.le_of_ble_eq_true rfl) (fun K sz k hi hX hret => ?_)
  have k : wOk K D vwD (wT cI cJ cZ cQ) l rX0_init 2 cX0_init RX0 wsX0_init := k
  show GW K D vwD 0 0 [(h0, .inr (0, [.int (iI 0), .null, .null, .null, .null]))] 0 [(0, .ref h0), (1, .int (iI T))] []
  refine gw_aload_n k dX0_init_0 rfl ?_
  refine gw_objInit k oX0_init.1 oX0_init.2.1 oX0_init.2.2 dX0_init_1 (Nat.le_of_ble_eq_true rfl) (Nat.le_of_ble_eq_true rfl) ?_
  refine gw_aload_n k dX0_init_4 rfl ?_
  refine gw_iload_n k dX0_init_5 rfl ?_
  refine gw_putF k hi inX0_init_X0 tyX0 tyX0_ok nmX0 0 rfl rfl 0 (by decide) fX0_init_9 rfl rfl rfl rfl rfl (Nat.le_of_ble_eq_true rfl) [(h0, .inr (0, [.int (iI T), .null, .null, .null, .null]))] rfl dX0_init_6 ?_
  refine gw_aload_n k dX0_init_9 rfl ?_
  refine gw_iload_n k dX0_init_10 rfl ?_
  refine gw_iconst k dX0_init_11 ?_
  refine gw_iadd k dX0_init_12 ?_
  refine gw_newI k 0 rfl (by decide +kernel) (N := T.toNat + 1) (n' := 13) (by omega) (by omega) (by omega) (by omega) (Nat.le_of_ble_eq_true rfl) (Nat.le_of_ble_eq_true rfl) dX0_init_13 (fun q13 => ?_)
  refine gw_ws (ws' := [(h0, .inr (0, [.int (iI T), .null, .null, .null, .null])), (q13, aI cI (T.toNat + 1))]) rfl ?_
  refine gw_putF k hi inX0_init_X0 tyX0 tyX0_ok nmX0 0 rfl rfl 1 (by decide) fX0_init_15 rfl rfl rfl rfl rfl (Nat.le_of_ble_eq_true rfl) [(h0, .inr (0, [.int (iI T), .ref q13, .null, .null, .null])), (q13, aI cI (T.toNat + 1))] rfl dX0_init_15 ?_
  refine gw_aload_n k dX0_init_18 rfl ?_
  refine gw_iload_n k dX0_init_19 rfl ?_
  refine gw_iconst k dX0_init_20 ?_
  refine gw_iadd k dX0_init_21 ?_
  refine gw_newL k 1 rfl (by decide +kernel) (N := T.toNat + 2) (n' := 14) (by omega) (by omega) (by omega) (by omega) (Nat.le_of_ble_eq_true rfl) (Nat.le_of_ble_eq_true rfl) dX0_init_22 (fun q22 => ?_)
  refine gw_ws (ws' := [(h0, .inr (0, [.int (iI T), .ref q13, .null, .null, .null])), (q13, aI cI (T.toNat + 1)), (q22, aJ cJ (T.toNat + 2))]) rfl ?_
  refine gw_putF k hi inX0_init_X0 tyX0 tyX0_ok nmX0 0 rfl rfl 2 (by decide) fX0_init_19 rfl rfl rfl rfl rfl (Nat.le_of_ble_eq_true rfl) [(h0, .inr (0, [.int (iI T), .ref q13, .ref q22, .null, .null])), (q13, aI cI (T.toNat + 1)), (q22, aJ cJ (T.toNat + 2))] rfl dX0_init_24 ?_
  refine gw_aload_n k dX0_init_27 rfl ?_
  refine gw_iload_n k dX0_init_28 rfl ?_
  refine gw_iconst k dX0_init_29 ?_
  refine gw_iadd k dX0_init_30 ?_
  refine gw_newI k 0 rfl (by decide +kernel) (N := T.toNat + 1) (n' := 13) (by omega) (by omega) (by omega) (by omega) (Nat.le_of_ble_eq_true rfl) (Nat.le_of_ble_eq_true rfl) dX0_init_31 (fun q31 => ?_)
  refine gw_ws (ws' := [(h0, .inr (0, [.int (iI T), .ref q13, .ref q22, .null, .null])), (q13, aI cI (T.toNat + 1)), (q22, aJ cJ (T.toNat + 2)), (q31, aI cI (T.toNat + 1))]) rfl ?_
  refine gw_putF k hi inX0_init_X0 tyX0 tyX0_ok nmX0 0 rfl rfl 3 (by decide) fX0_init_23 rfl rfl rfl rfl rfl (Nat.le_of_ble_eq_true rfl) [(h0, .inr (0, [.int (iI T), .ref q13, .ref q22, .ref q31, .null])), (q13, aI cI (T.toNat + 1)), (q22, aJ cJ (T.toNat + 2)), (q31, aI cI (T.toNat + 1))] rfl dX0_init_33 ?_
  refine gw_aload_n k dX0_init_36 rfl ?_
  refine gw_iload_n k dX0_init_37 rfl ?_
  refine gw_iconst k dX0_init_38 ?_
  refine gw_iadd k dX0_init_39 ?_
  refine gw_newI k 0 rfl (by decide +kernel) (N := T.toNat + 1) (n' := 13) (by omega) (by omega) (by omega) (by omega) (Nat.le_of_ble_eq_true rfl) (Nat.le_of_ble_eq_true rfl) dX0_init_40 (fun q40 => ?_)
  refine gw_ws (ws' := [(h0, .inr (0, [.int (iI T), .ref q13, .ref q22, .ref q31, .null])), (q13, aI cI (T.toNat + 1)), (q22, aJ cJ (T.toNat + 2)), (q31, aI cI (T.toNat + 1)), (q40, aI cI (T.toNat + 1))]) rfl ?_
  refine gw_putF k hi inX0_init_X0 tyX0 tyX0_ok nmX0 0 rfl rfl 4 (by decide) fX0_init_26 rfl rfl rfl rfl rfl (Nat.le_of_ble_eq_true rfl) [(h0, .inr (0, [.int (iI T), .ref q13, .ref q22, .ref q31, .ref q40])), (q13, aI cI (T.toNat + 1)), (q22, aJ cJ (T.toNat + 2)), (q31, aI cI (T.toNat + 1)), (q40, aI cI (T.toNat + 1))] rfl dX0_init_42 ?_
  exact hret _ _ _ _ _ dX0_init_45 (by decide) (by decide) ⟨q13, q22, q31, q40, rfl⟩

abbrev rX2_init : Room := { frames := 2, cells := 8, slots := 82, locals := 33 }
set_option maxRecDepth 100000 in
set_option maxHeartbeats 4000000 in
theorem nX2_init {l : Launch} {D : va_G} {cI cJ cZ cQ : ClassId} {T : Int} (hT : 1 ≤ T ∧ T ≤ 12) (h0 : Nat) : nMv l D vwD (wT cI cJ cZ cQ) yX2_init wsX2_init rX2_init [.ref h0, .int (iI T)] [(h0, .inr (2, [.null, .null, .null, .null, .null]))] 8 82 noX (fun w1 => ∃ ia ib ic ie ig ih ij ik : Nat, w1 = [(h0, .inr (2, [.ref ia, .ref ib, .ref ic, .ref ie, .ref ig])), (ia, aI cI (8)), (ib, aI cI (T.toNat + 1)), (ic, aI cI (T.toNat + 1)), (ie, aI cI (6)), (ig, .inr (4, [.ref ih, .ref ij, .ref ik])), (ih, aI cI (T.toNat + 1)), (ij, aI cI (T.toNat + 1)), (ik, aI cI (T.toNat + 1))]) := by
  refine nMv_of (cc := cX2_init) (nL := 2) rfl (by decide) rfl (Nat.le_of_ble_eq_true rfl) (fun K sz k hi hX hret => ?_)
  have k : wOk K D vwD (wT cI cJ cZ cQ) l rX2_init 2 cX2_init RX2 wsX2_init := k
  show GW K D vwD 0 0 [(h0, .inr (2, [.null, .null, .null, .null, .null]))] 0 [(0, .ref h0), (1, .int (iI T))] []
  refine gw_aload_n k dX2_init_0 rfl ?_
  refine gw_objInit k oX2_init.1 oX2_init.2.1 oX2_init.2.2 dX2_init_1 (Nat.le_of_ble_eq_true rfl) (Nat.le_of_ble_eq_true rfl) ?_
  refine gw_aload_n k dX2_init_4 rfl ?_
  refine gw_bipush k dX2_init_5 (by decide +kernel) ?_
  refine gw_newI k 0 rfl (by decide +kernel) (N := 8) (n' := 8) (by omega) (by omega) (by omega) (by omega) (Nat.le_of_ble_eq_true rfl) (Nat.le_of_ble_eq_true rfl) dX2_init_7 (fun q7 => ?_)
  refine gw_ws (ws' := [(h0, .inr (2, [.null, .null, .null, .null, .null])), (q7, aI cI (8))]) rfl ?_
  refine gw_putF k hi inX2_init_X2 tyX2 tyX2_ok nmX2 0 rfl rfl 0 (by decide) fX2_init_9 rfl rfl rfl rfl rfl (Nat.le_of_ble_eq_true rfl) [(h0, .inr (2, [.ref q7, .null, .null, .null, .null])), (q7, aI cI (8))] rfl dX2_init_9 ?_
  refine gw_aload_n k dX2_init_12 rfl ?_
  refine gw_iload_n k dX2_init_13 rfl ?_
  refine gw_iconst k dX2_init_14 ?_
  refine gw_iadd k dX2_init_15 ?_
  refine gw_newI k 0 rfl (by decide +kernel) (N := T.toNat + 1) (n' := 13) (by omega) (by omega) (by omega) (by omega) (Nat.le_of_ble_eq_true rfl) (Nat.le_of_ble_eq_true rfl) dX2_init_16 (fun q16 => ?_)
  refine gw_ws (ws' := [(h0, .inr (2, [.ref q7, .null, .null, .null, .null])), (q7, aI cI (8)), (q16, aI cI (T.toNat + 1))]) rfl ?_
  refine gw_putF k hi inX2_init_X2 tyX2 tyX2_ok nmX2 0 rfl rfl 1 (by decide) fX2_init_15 rfl rfl rfl rfl rfl (Nat.le_of_ble_eq_true rfl) [(h0, .inr (2, [.ref q7, .ref q16, .null, .null, .null])), (q7, aI cI (8)), (q16, aI cI (T.toNat + 1))] rfl dX2_init_18 ?_
  refine gw_aload_n k dX2_init_21 rfl ?_
  refine gw_iload_n k dX2_init_22 rfl ?_
  refine gw_iconst k dX2_init_23 ?_
  refine gw_iadd k dX2_init_24 ?_
  refine gw_newI k 0 rfl (by decide +kernel) (N := T.toNat + 1) (n' := 13) (by omega) (by omega) (by omega) (by omega) (Nat.le_of_ble_eq_true rfl) (Nat.le_of_ble_eq_true rfl) dX2_init_25 (fun q25 => ?_)
  refine gw_ws (ws' := [(h0, .inr (2, [.ref q7, .ref q16, .null, .null, .null])), (q7, aI cI (8)), (q16, aI cI (T.toNat + 1)), (q25, aI cI (T.toNat + 1))]) rfl ?_
  refine gw_putF k hi inX2_init_X2 tyX2 tyX2_ok nmX2 0 rfl rfl 2 (by decide) fX2_init_18 rfl rfl rfl rfl rfl (Nat.le_of_ble_eq_true rfl) [(h0, .inr (2, [.ref q7, .ref q16, .ref q25, .null, .null])), (q7, aI cI (8)), (q16, aI cI (T.toNat + 1)), (q25, aI cI (T.toNat + 1))] rfl dX2_init_27 ?_
  refine gw_aload_n k dX2_init_30 rfl ?_
  refine gw_bipush k dX2_init_31 (by decide +kernel) ?_
  refine gw_newI k 0 rfl (by decide +kernel) (N := 6) (n' := 6) (by omega) (by omega) (by omega) (by omega) (Nat.le_of_ble_eq_true rfl) (Nat.le_of_ble_eq_true rfl) dX2_init_33 (fun q33 => ?_)
  refine gw_ws (ws' := [(h0, .inr (2, [.ref q7, .ref q16, .ref q25, .null, .null])), (q7, aI cI (8)), (q16, aI cI (T.toNat + 1)), (q25, aI cI (T.toNat + 1)), (q33, aI cI (6))]) rfl ?_
  refine gw_putF k hi inX2_init_X2 tyX2 tyX2_ok nmX2 0 rfl rfl 3 (by decide) fX2_init_21 rfl rfl rfl rfl rfl (Nat.le_of_ble_eq_true rfl) [(h0, .inr (2, [.ref q7, .ref q16, .ref q25, .ref q33, .null])), (q7, aI cI (8)), (q16, aI cI (T.toNat + 1)), (q25, aI cI (T.toNat + 1)), (q33, aI cI (6))] rfl dX2_init_35 ?_
  refine gw_aload_n k dX2_init_38 rfl ?_
  refine gw_new k inX2_init_X4 tyX4 tyX4_ok (by decide +kernel) (by decide +kernel) (by decide +kernel) (ci := 4) rfl (fs := [.null, .null, .null]) (fun j hj => by rcases (show j = 0 ∨ j = 1 ∨ j = 2 by omega) with rfl | rfl | rfl <;> first | rfl | (show Value.int 0 = Value.int (iI 0); rw [iI_0])) (Nat.le_of_ble_eq_true rfl) (Nat.le_of_ble_eq_true rfl) dX2_init_39 (fun q39 => ?_)
  refine gw_ws (ws' := [(h0, .inr (2, [.ref q7, .ref q16, .ref q25, .ref q33, .null])), (q7, aI cI (8)), (q16, aI cI (T.toNat + 1)), (q25, aI cI (T.toNat + 1)), (q33, aI cI (6)), (q39, .inr (4, [.null, .null, .null]))]) rfl ?_
  refine gw_dup k dX2_init_42 rfl ?_
  refine gw_iload_n k dX2_init_43 rfl ?_
  refine gw_callI (n := 1) (As := [.int (iI T)]) (rest := [.ref q39, .ref h0]) (pre := [(h0, .inr (2, [.ref q7, .ref q16, .ref q25, .ref q33, .null])), (q7, aI cI (8)), (q16, aI cI (T.toNat + 1)), (q25, aI cI (T.toNat + 1)), (q33, aI cI (6))]) k (nX4_init hT q39) gX2_init_X4_init rfl rfl rfl ciX2_init_26.1 ciX2_init_26.2.1 ciX2_init_26.2.2 rfl (by decide +kernel) ⟨by decide, by decide⟩ noX_k (fun _ _ _ _ _ h => h) rfl rfl (Nat.le_of_ble_eq_true rfl) (Nat.le_of_ble_eq_true rfl) (Nat.le_of_ble_eq_true rfl) rfl dX2_init_44 (fun w44 hw44 => ?_)
  obtain ⟨sa44, sb44, sc44, rfl⟩ := hw44
  refine gw_ws (ws' := [(h0, .inr (2, [.ref q7, .ref q16, .ref q25, .ref q33, .null])), (q7, aI cI (8)), (q16, aI cI (T.toNat + 1)), (q25, aI cI (T.toNat + 1)), (q33, aI cI (6)), (q39, .inr (4, [.ref sa44, .ref sb44, .ref sc44])), (sa44, aI cI (T.toNat + 1)), (sb44, aI cI (T.toNat + 1)), (sc44, aI cI (T.toNat + 1))]) rfl ?_
  refine gw_putF k hi inX2_init_X2 tyX2 tyX2_ok nmX2 0 rfl rfl 4 (by decide) fX2_init_29 rfl rfl rfl rfl rfl (Nat.le_of_ble_eq_true rfl) [(h0, .inr (2, [.ref q7, .ref q16, .ref q25, .ref q33, .ref q39])), (q7, aI cI (8)), (q16, aI cI (T.toNat + 1)), (q25, aI cI (T.toNat + 1)), (q33, aI cI (6)), (q39, .inr (4, [.ref sa44, .ref sb44, .ref sc44])), (sa44, aI cI (T.toNat + 1)), (sb44, aI cI (T.toNat + 1)), (sc44, aI cI (T.toNat + 1))] rfl dX2_init_47 ?_
  exact hret _ _ _ _ _ dX2_init_50 (by decide) (by decide) ⟨q7, q16, q25, q33, q39, sa44, sb44, sc44, rfl⟩
