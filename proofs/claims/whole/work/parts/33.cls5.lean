abbrev rX5_time : Room := { frames := 2, cells := 0, slots := 0, locals := 46 }
set_option maxRecDepth 100000 in
set_option maxHeartbeats 4000000 in
theorem kX5_time {l : Launch} {B : gB} {T : Int} {S : sS} {C : gSt} (hB : clsB B T) (hO : sOk S T) (hR : cRel S T C) (p : Int) (hp : rI p) : gMl l B yX5_time wsX5_time rX5_time [.ref (gad B (0)), .int (iI (p))] C (fun z C' => cRel S T C' ∧ z = if 1 ≤ p ∧ p ≤ T then sTime S p else -9223372036854775808) := by
  refine gMl_of (cc := cX5_time) (nL := 2) (by decide) rfl (Nat.le_of_ble_eq_true rfl) (fun K k hret => ?_)
  have k : gOk K B l rX5_time 2 cX5_time RX5 wsX5_time := k
  show GG K B C 0 [(0, .ref (gad B (0))), (1, .int (iI (p)))] []
  have hT := hO.t
  have hc := hO.cnt
  obtain ⟨hp1, hp2⟩ := hp
  refine gg_aload_n k dX5_time_0 rfl ?_
  refine gg_iload_n k dX5_time_1 rfl ?_
  refine gg_calli (n := 1) (As := [.int (iI (p))]) (rest := []) k (kX5_isPeriod hB hO hR (p) ⟨by omega, by omega⟩) ⟨_, _, _, gX5_time_X5_isPeriod, rfl, rfl, rfl, by decide +kernel, by decide, by decide⟩ (cb0 hB) rfl rfl (Nat.le_of_ble_eq_true rfl) dX5_time_2 (fun z2 C2 r2 q2 => ?_)
  obtain ⟨q2, e2⟩ := q2
  rw [e2]
  clear e2
  obtain ⟨r2, s2⟩ := r2
  refine gg_if_ne k 12 dX5_time_5 (by decide) ⟨by omega, by omega⟩ (fun c5 => ?_) (fun c5 => ?_)
  · refine gg_aload_n k dX5_time_12 rfl ?_
    refine gg_get k (cb0 hB) inX5_time_X5 5 (by decide) fX5_time_49 rfl rfl dX5_time_13 ?_
    refine gg_aload_n k dX5_time_16 rfl ?_
    refine gg_get k (cb0 hB) inX5_time_X5 1 (by decide) fX5_time_26 rfl rfl dX5_time_17 ?_
    refine gg_aload_n k dX5_time_20 rfl ?_
    refine gg_get k (cb0 hB) inX5_time_X5 2 (by decide) fX5_time_33 rfl rfl dX5_time_21 ?_
    refine gg_ti hR.cnt ?_
    refine gg_callv (n := 2) (As := [.ref (gad B (1)), .int (iI (sCnt S))]) (rest := []) k (kX3_follow hB hO hR) ⟨_, _, _, gX5_time_X3_follow, rfl, rfl, rfl, by decide +kernel, by decide, by decide⟩ (cbMach hB) rfl rfl (Nat.le_of_ble_eq_true rfl) dX5_time_24 (fun C24 q24 => ?_)
    obtain ⟨hR, hm24, hk24⟩ := q24
    refine gg_aload_n k dX5_time_27 rfl ?_
    refine gg_iload_n k dX5_time_28 rfl ?_
    refine gg_calll (n := 1) (As := [.int (iI (p))]) (rest := []) k (kX5_timeOf hB hO hR hm24 p (by omega) (by omega)) ⟨_, _, _, gX5_time_X5_timeOf, rfl, rfl, rfl, by decide +kernel, by decide, by decide⟩ (cb0 hB) rfl rfl (Nat.le_of_ble_eq_true rfl) dX5_time_29 (fun z29 C29 r29 q29 => ?_)
    obtain ⟨q29, e29⟩ := q29
    rw [e29]
    clear e29
    obtain ⟨r29, s29⟩ := r29
    exact hret _ _ _ _ dX5_time_32 (⟨by omega, by omega⟩) (⟨hR, by rw [if_pos (by omega)]; exact q29⟩)
  · refine gg_ldc2 (z := -9223372036854775808) k dX5_time_8 (by decide +kernel) ?_
    exact hret _ _ _ _ dX5_time_11 (⟨by omega, by omega⟩) (⟨hR, by rw [if_neg (by omega)]⟩)

abbrev rX5_setUpPrices : Room := { frames := 1, cells := 0, slots := 0, locals := 25 }
set_option maxRecDepth 100000 in
set_option maxHeartbeats 4000000 in
theorem kX5_setUpPrices {l : Launch} {B : gB} {T : Int} {S : sS} {C : gSt} (hB : clsB B T) (hO : sOk S T) (hR : cRel S T C)  : gMl l B yX5_setUpPrices wsX5_setUpPrices rX5_setUpPrices [.ref (gad B (0))] C (fun z C' => cRel S T C' ∧ z = sPr0 S T) := by
  refine gMl_of (cc := cX5_setUpPrices) (nL := 5) (by decide) rfl (Nat.le_of_ble_eq_true rfl) (fun K k hret => ?_)
  have k : gOk K B l rX5_setUpPrices 5 cX5_setUpPrices RX5 wsX5_setUpPrices := k
  show GG K B C 0 [(0, .ref (gad B (0)))] []
  have hT := hO.t
  have hc := hO.cnt
  
  refine gg_aload_n k dX5_setUpPrices_0 rfl ?_
  refine gg_get k (cb0 hB) inX5_setUpPrices_X5 5 (by decide) fX5_setUpPrices_49 rfl rfl dX5_setUpPrices_1 ?_
  refine gg_aload_n k dX5_setUpPrices_4 rfl ?_
  refine gg_get k (cb0 hB) inX5_setUpPrices_X5 1 (by decide) fX5_setUpPrices_26 rfl rfl dX5_setUpPrices_5 ?_
  refine gg_aload_n k dX5_setUpPrices_8 rfl ?_
  refine gg_get k (cb0 hB) inX5_setUpPrices_X5 2 (by decide) fX5_setUpPrices_33 rfl rfl dX5_setUpPrices_9 ?_
  refine gg_ti hR.cnt ?_
  refine gg_callv (n := 2) (As := [.ref (gad B (1)), .int (iI (sCnt S))]) (rest := []) k (kX3_follow hB hO hR) ⟨_, _, _, gX5_setUpPrices_X3_follow, rfl, rfl, rfl, by decide +kernel, by decide, by decide⟩ (cbMach hB) rfl rfl (Nat.le_of_ble_eq_true rfl) dX5_setUpPrices_12 (fun C12 q12 => ?_)
  obtain ⟨hR, hm12, hk12⟩ := q12
  refine gg_lconst0 k dX5_setUpPrices_15 ?_
  refine gg_lstore_n k [(1, .long (iL (0))), (0, .ref (gad B (0)))] dX5_setUpPrices_16 (by decide) rfl ?_
  refine gg_iconst k dX5_setUpPrices_17 ?_
  refine gg_istore_n k [(3, .int (iI (1))), (1, .long (iL (0))), (0, .ref (gad B (0)))] dX5_setUpPrices_18 (by decide) rfl ?_
  have L19 : ∀ (n19 : Nat) (p : Int) (sm : Int), 1 ≤ p → p ≤ T + 1 → sm = smL (fun x => smL (sPr0p S (x + 1)) (sCnt S).toNat) (p - 1).toNat → T + 1 - p < (n19 : Int) → GG K B C12 19 [(0, .ref (gad B (0))), (1, .long (iL (sm))), (3, .int (iI (p)))] [] := by
    intro n19
    induction n19 with
    | zero =>
      intro p sm hp0 hp1 hs hn19
      exact absurd hn19 (by omega)
    | succ n19 ih19 =>
      intro p sm hp0 hp1 hs hn19
      refine gg_iload_n k dX5_setUpPrices_19 rfl ?_
      refine gg_aload_n k dX5_setUpPrices_20 rfl ?_
      refine gg_get k (cb0 hB) inX5_setUpPrices_X5 0 (by decide) fX5_setUpPrices_20 rfl rfl dX5_setUpPrices_21 ?_
      refine gg_icmp_gt k 80 dX5_setUpPrices_24 (by decide) ⟨by omega, by omega⟩ ⟨by omega, by omega⟩ (fun c24 => ?_) (fun c24 => ?_)
      · refine gg_lload_n k dX5_setUpPrices_80 rfl ?_
        exact hret _ _ _ _ dX5_setUpPrices_81 (by have := sPr0_b hO (p - 1).toNat (by omega); rw [hs]; exact ⟨by omega, by omega⟩) (⟨hR, by unfold sPr0; rw [hs, show p - 1 = T by omega]⟩)
      · refine gg_iconst k dX5_setUpPrices_27 ?_
        refine gg_istore k [(4, .int (iI (0))), (0, .ref (gad B (0))), (1, .long (iL (sm))), (3, .int (iI (p)))] dX5_setUpPrices_28 (by decide) rfl ?_
        have L30 : ∀ (n30 : Nat) (j : Int) (sn : Int), 0 ≤ j → j ≤ sCnt S → sn = sm + smL (sPr0p S p) j.toNat → sCnt S - j < (n30 : Int) → GG K B C12 30 [(0, .ref (gad B (0))), (1, .long (iL (sn))), (3, .int (iI (p))), (4, .int (iI (j)))] [] := by
          intro n30
          induction n30 with
          | zero =>
            intro j sn hj0 hj1 hsn hn30
            exact absurd hn30 (by omega)
          | succ n30 ih30 =>
            intro j sn hj0 hj1 hsn hn30
            refine gg_iload k dX5_setUpPrices_30 rfl ?_
            refine gg_aload_n k dX5_setUpPrices_32 rfl ?_
            refine gg_get k (cb0 hB) inX5_setUpPrices_X5 2 (by decide) fX5_setUpPrices_33 rfl rfl dX5_setUpPrices_33 ?_
            refine gg_ti hR.cnt ?_
            refine gg_icmp_ge k 74 dX5_setUpPrices_36 (by decide) ⟨by omega, by omega⟩ ⟨by omega, by omega⟩ (fun c36 => ?_) (fun c36 => ?_)
            · refine gg_iinc k 2 [(3, .int (iI (p + 1))), (0, .ref (gad B (0))), (1, .long (iL (sn))), (4, .int (iI (j)))] dX5_setUpPrices_74 rfl (by decide) rfl ?_
              refine gg_goto (tgt := 19) k dX5_setUpPrices_77 (by decide) ?_
              refine gg_sub [1, 2, 0] rfl ?_
              exact ih19 (p + 1) (sn) (by omega) (by omega) (by rw [show p + 1 - 1 = (p - 1) + 1 by omega, smL_s (by omega), ← hs]; show sn = sm + smL (sPr0p S (p - 1 + 1)) _; rw [show p - 1 + 1 = p by omega, hsn, show j = sCnt S by omega]) (by omega)
            · refine gg_aload_n k dX5_setUpPrices_39 rfl ?_
              refine gg_get k (cb0 hB) inX5_setUpPrices_X5 5 (by decide) fX5_setUpPrices_49 rfl rfl dX5_setUpPrices_40 ?_
              refine gg_iload k dX5_setUpPrices_43 rfl ?_
              refine gg_iload_n k dX5_setUpPrices_45 rfl ?_
              refine gg_calli (n := 2) (As := [.int (iI (j)), .int (iI (p))]) (rest := []) k (kX3_setsUp hB hO hR hm12 (j) (p) (by omega) (by omega) (by omega) (by omega)) ⟨_, _, _, gX5_setUpPrices_X3_setsUp, rfl, rfl, rfl, by decide +kernel, by decide, by decide⟩ (cbMach hB) rfl rfl (Nat.le_of_ble_eq_true rfl) dX5_setUpPrices_46 (fun z46 C46 r46 q46 => ?_)
              obtain ⟨q46, e46⟩ := q46
              rw [e46]
              clear e46
              obtain ⟨r46, s46⟩ := r46
              refine gg_if_eq k 68 dX5_setUpPrices_49 (by decide) ⟨by omega, by omega⟩ (fun c49 => ?_) (fun c49 => ?_)
              · refine gg_iinc k 3 [(4, .int (iI (j + 1))), (0, .ref (gad B (0))), (1, .long (iL (sn))), (3, .int (iI (p)))] dX5_setUpPrices_68 rfl (by decide) rfl ?_
                refine gg_goto (tgt := 30) k dX5_setUpPrices_71 (by decide) ?_
                refine gg_sub [1, 2, 3, 0] rfl ?_
                exact ih30 (j + 1) (sn) (by omega) (by omega) (by rw [smL_s hj0, hsn]; show _ = _ + (_ + if sSet S j p then sNum S j 0 else 0); rw [if_neg (by rcases q46 with w | w; (· omega); (· exact w.2))]; omega) (by omega)
              · refine gg_lload_n k dX5_setUpPrices_52 rfl ?_
                refine gg_aload_n k dX5_setUpPrices_53 rfl ?_
                refine gg_get k (cb0 hB) inX5_setUpPrices_X5 1 (by decide) fX5_setUpPrices_26 rfl rfl dX5_setUpPrices_54 ?_
                refine gg_iload k dX5_setUpPrices_57 rfl ?_
                refine gg_aald k (cb1 hB) (by omega) (by omega) dX5_setUpPrices_59 ?_
                refine gg_get k (cbItem hB (by omega) (by omega)) inX5_setUpPrices_X2 0 (by decide) fX5_setUpPrices_71 rfl rfl dX5_setUpPrices_60 ?_
                refine gg_iconst k dX5_setUpPrices_63 ?_
                refine gg_iald k (cbNum hB (by omega) (by omega)) (by omega) (by omega) dX5_setUpPrices_64 ?_
                refine gg_ti (hR.num _ (by omega) (by omega)) ?_
                have b64 := hO.n0 (j)
                refine gg_i2l k dX5_setUpPrices_65 ⟨by omega, by omega⟩ ?_
                refine gg_ladd k dX5_setUpPrices_66 ?_
                refine gg_lstore_n k [(1, .long (iL (sn + (sNum S (j) (0))))), (0, .ref (gad B (0))), (3, .int (iI (p))), (4, .int (iI (j)))] dX5_setUpPrices_67 (by decide) rfl ?_
                refine gg_iinc k 3 [(4, .int (iI (j + 1))), (1, .long (iL (sn + (sNum S (j) (0))))), (0, .ref (gad B (0))), (3, .int (iI (p)))] dX5_setUpPrices_68 rfl (by decide) rfl ?_
                refine gg_goto (tgt := 30) k dX5_setUpPrices_71 (by decide) ?_
                refine gg_sub [2, 1, 3, 0] rfl ?_
                exact ih30 (j + 1) (sn + (sNum S (j) (0))) (by omega) (by omega) (by rw [smL_s hj0, hsn]; show _ = _ + (_ + if sSet S j p then sNum S j 0 else 0); rw [if_pos (by rcases q46 with w | w; (· exact w.2); (· omega))]; omega) (by omega)
        refine gg_sub [1, 2, 3, 0] rfl ?_
        exact L30 ((sCnt S - 0).toNat + 1) (0) (sm) (by omega) (by omega) (by show sm = sm + 0; omega) (by omega)
  refine gg_sub [2, 1, 0] rfl ?_
  exact L19 ((T + 1 - 1).toNat + 1) (1) (0) (by omega) (by omega) (rfl) (by omega)

abbrev rX5_holdPrices : Room := { frames := 4, cells := 0, slots := 0, locals := 96 }
set_option maxRecDepth 100000 in
set_option maxHeartbeats 4000000 in
theorem kX5_holdPrices {l : Launch} {B : gB} {T : Int} {S : sS} {C : gSt} (hB : clsB B T) (hO : sOk S T) (hR : cRel S T C)  : gMl l B yX5_holdPrices wsX5_holdPrices rX5_holdPrices [.ref (gad B (0))] C (fun z C' => cRel S T C' ∧ z = sPr1 S T) := by
  refine gMl_of (cc := cX5_holdPrices) (nL := 5) (by decide) rfl (Nat.le_of_ble_eq_true rfl) (fun K k hret => ?_)
  have k : gOk K B l rX5_holdPrices 5 cX5_holdPrices RX5 wsX5_holdPrices := k
  show GG K B C 0 [(0, .ref (gad B (0)))] []
  have hT := hO.t
  have hc := hO.cnt
  
  refine gg_lconst0 k dX5_holdPrices_0 ?_
  refine gg_lstore_n k [(1, .long (iL (0))), (0, .ref (gad B (0)))] dX5_holdPrices_1 (by decide) rfl ?_
  refine gg_iconst k dX5_holdPrices_2 ?_
  refine gg_istore_n k [(3, .int (iI (0))), (1, .long (iL (0))), (0, .ref (gad B (0)))] dX5_holdPrices_3 (by decide) rfl ?_
  have L4 : ∀ (n4 : Nat) (i : Int) (sm : Int) (C1 : gSt), 0 ≤ i → i ≤ sCnt S → cRel S T C1 → sm = smL (fun i => smL (sPr1p S i) T.toNat) i.toNat → sCnt S - i < (n4 : Int) → GG K B C1 4 [(0, .ref (gad B (0))), (1, .long (iL (sm))), (3, .int (iI (i)))] [] := by
    intro n4
    induction n4 with
    | zero =>
      intro i sm C1 hi0 hi1 hR hs hn4
      exact absurd hn4 (by omega)
    | succ n4 ih4 =>
      intro i sm C1 hi0 hi1 hR hs hn4
      refine gg_iload_n k dX5_holdPrices_4 rfl ?_
      refine gg_aload_n k dX5_holdPrices_5 rfl ?_
      refine gg_get k (cb0 hB) inX5_holdPrices_X5 2 (by decide) fX5_holdPrices_33 rfl rfl dX5_holdPrices_6 ?_
      refine gg_ti hR.cnt ?_
      refine gg_icmp_ge k 77 dX5_holdPrices_9 (by decide) ⟨by omega, by omega⟩ ⟨by omega, by omega⟩ (fun c9 => ?_) (fun c9 => ?_)
      · refine gg_lload_n k dX5_holdPrices_77 rfl ?_
        exact hret _ _ _ _ dX5_holdPrices_78 (by have := sPr1_b hO i.toNat T.toNat (by omega) (by omega); rw [hs]; exact ⟨by omega, by omega⟩) (⟨hR, by unfold sPr1; rw [hs, show i = sCnt S by omega]⟩)
      · refine gg_aload_n k dX5_holdPrices_12 rfl ?_
        refine gg_iload_n k dX5_holdPrices_13 rfl ?_
        refine gg_callv (n := 1) (As := [.int (iI (i))]) (rest := []) k (kX5_runItem hB hO hR (i := i) (by omega) (by omega)) ⟨_, _, _, gX5_holdPrices_X5_runItem, rfl, rfl, rfl, by decide +kernel, by decide, by decide⟩ (cb0 hB) rfl rfl (Nat.le_of_ble_eq_true rfl) dX5_holdPrices_14 (fun C14 q14 => ?_)
        obtain ⟨hR, hr14, hk14⟩ := q14
        refine gg_iconst k dX5_holdPrices_17 ?_
        refine gg_istore k [(4, .int (iI (1))), (0, .ref (gad B (0))), (1, .long (iL (sm))), (3, .int (iI (i)))] dX5_holdPrices_18 (by decide) rfl ?_
        have L20 : ∀ (n20 : Nat) (p : Int) (sn : Int), 1 ≤ p → p ≤ T + 1 → sn = sm + smL (sPr1p S i) (p - 1).toNat → T + 1 - p < (n20 : Int) → GG K B C14 20 [(0, .ref (gad B (0))), (1, .long (iL (sn))), (3, .int (iI (i))), (4, .int (iI (p)))] [] := by
          intro n20
          induction n20 with
          | zero =>
            intro p sn hp0 hp1 hsn hn20
            exact absurd hn20 (by omega)
          | succ n20 ih20 =>
            intro p sn hp0 hp1 hsn hn20
            refine gg_iload k dX5_holdPrices_20 rfl ?_
            refine gg_aload_n k dX5_holdPrices_22 rfl ?_
            refine gg_get k (cb0 hB) inX5_holdPrices_X5 0 (by decide) fX5_holdPrices_20 rfl rfl dX5_holdPrices_23 ?_
            refine gg_icmp_gt k 71 dX5_holdPrices_26 (by decide) ⟨by omega, by omega⟩ ⟨by omega, by omega⟩ (fun c26 => ?_) (fun c26 => ?_)
            · refine gg_iinc k 2 [(3, .int (iI (i + 1))), (0, .ref (gad B (0))), (1, .long (iL (sn))), (4, .int (iI (p)))] dX5_holdPrices_71 rfl (by decide) rfl ?_
              refine gg_goto (tgt := 4) k dX5_holdPrices_74 (by decide) ?_
              refine gg_sub [1, 2, 0] rfl ?_
              exact ih4 (i + 1) (sn) (C14) (by omega) (by omega) (hR) (by rw [smL_s hi0, ← hs, hsn, show p - 1 = T by omega]) (by omega)
            · refine gg_lload_n k dX5_holdPrices_29 rfl ?_
              refine gg_aload_n k dX5_holdPrices_30 rfl ?_
              refine gg_get k (cb0 hB) inX5_holdPrices_X5 1 (by decide) fX5_holdPrices_26 rfl rfl dX5_holdPrices_31 ?_
              refine gg_iload_n k dX5_holdPrices_34 rfl ?_
              refine gg_aald k (cb1 hB) (by omega) (by omega) dX5_holdPrices_35 ?_
              refine gg_get k (cbItem hB (by omega) (by omega)) inX5_holdPrices_X2 0 (by decide) fX5_holdPrices_71 rfl rfl dX5_holdPrices_36 ?_
              refine gg_iconst k dX5_holdPrices_39 ?_
              refine gg_iald k (cbNum hB (by omega) (by omega)) (by omega) (by omega) dX5_holdPrices_40 ?_
              refine gg_ti (hR.num _ (by omega) (by omega)) ?_
              have b40 := hO.n1 (i)
              refine gg_i2l k dX5_holdPrices_41 ⟨by omega, by omega⟩ ?_
              refine gg_iconst k dX5_holdPrices_42 ?_
              refine gg_aload_n k dX5_holdPrices_43 rfl ?_
              refine gg_get k (cb0 hB) inX5_holdPrices_X5 1 (by decide) fX5_holdPrices_26 rfl rfl dX5_holdPrices_44 ?_
              refine gg_iload_n k dX5_holdPrices_47 rfl ?_
              refine gg_aald k (cb1 hB) (by omega) (by omega) dX5_holdPrices_48 ?_
              refine gg_get k (cbItem hB (by omega) (by omega)) inX5_holdPrices_X2 4 (by decide) fX5_holdPrices_108 rfl rfl dX5_holdPrices_49 ?_
              refine gg_get k (cbStore hB (by omega) (by omega)) inX5_holdPrices_X4 0 (by decide) fX5_holdPrices_112 rfl rfl dX5_holdPrices_52 ?_
              refine gg_iload k dX5_holdPrices_55 rfl ?_
              refine gg_iald k (cbStocks hB (by omega) (by omega)) (by omega) (by omega) dX5_holdPrices_57 ?_
              refine gg_ti (hr14.1 p (by omega) (by omega)) ?_
              have hb9 := sStk_b hO i p.toNat (by omega)
              refine gg_max k ⟨by omega, by omega⟩ ⟨by omega, by omega⟩ dX5_holdPrices_58 mX5_holdPrices_17.1 mX5_holdPrices_17.2.1 mX5_holdPrices_17.2.2.1 mX5_holdPrices_17.2.2.2 (Nat.le_of_ble_eq_true rfl) (Nat.le_of_ble_eq_true rfl) ?_
              refine gg_i2l k dX5_holdPrices_61 ⟨by omega, by omega⟩ ?_
              refine gg_lmul k dX5_holdPrices_62 ?_
              refine gg_ladd k dX5_holdPrices_63 ?_
              refine gg_lstore_n k [(1, .long (iL (sn + ((sNum S (i) (1)) * (max 0 (sStk S i p.toNat)))))), (0, .ref (gad B (0))), (3, .int (iI (i))), (4, .int (iI (p)))] dX5_holdPrices_64 (by decide) rfl ?_
              refine gg_iinc k 3 [(4, .int (iI (p + 1))), (1, .long (iL (sn + ((sNum S (i) (1)) * (max 0 (sStk S i p.toNat)))))), (0, .ref (gad B (0))), (3, .int (iI (i)))] dX5_holdPrices_65 rfl (by decide) rfl ?_
              refine gg_goto (tgt := 20) k dX5_holdPrices_68 (by decide) ?_
              refine gg_sub [2, 1, 3, 0] rfl ?_
              exact ih20 (p + 1) (sn + ((sNum S (i) (1)) * (max 0 (sStk S i p.toNat)))) (by omega) (by omega) (by rw [show p + 1 - 1 = (p - 1) + 1 by omega, smL_s (by omega), hsn]; show _ = _ + (_ + sNum S i 1 * max 0 (sStk S i (p - 1 + 1).toNat)); rw [show p - 1 + 1 = p by omega]; omega) (by omega)
        refine gg_sub [1, 2, 3, 0] rfl ?_
        exact L20 ((T + 1 - 1).toNat + 1) (1) (sm) (by omega) (by omega) (by show sm = sm + 0; omega) (by omega)
  refine gg_sub [2, 1, 0] rfl ?_
  exact L4 ((sCnt S - 0).toNat + 1) (0) (0) (C) (by omega) (by omega) (hR) (rfl) (by omega)

abbrev rX5_overPrices : Room := { frames := 3, cells := 0, slots := 0, locals := 67 }
set_option maxRecDepth 100000 in
set_option maxHeartbeats 4000000 in
theorem kX5_overPrices {l : Launch} {B : gB} {T : Int} {S : sS} {C : gSt} (hB : clsB B T) (hO : sOk S T) (hR : cRel S T C)  : gMl l B yX5_overPrices wsX5_overPrices rX5_overPrices [.ref (gad B (0))] C (fun z C' => cRel S T C' ∧ z = sPr2 S T) := by
  refine gMl_of (cc := cX5_overPrices) (nL := 4) (by decide) rfl (Nat.le_of_ble_eq_true rfl) (fun K k hret => ?_)
  have k : gOk K B l rX5_overPrices 4 cX5_overPrices RX5 wsX5_overPrices := k
  show GG K B C 0 [(0, .ref (gad B (0)))] []
  have hT := hO.t
  have hc := hO.cnt
  
  refine gg_aload_n k dX5_overPrices_0 rfl ?_
  refine gg_get k (cb0 hB) inX5_overPrices_X5 5 (by decide) fX5_overPrices_49 rfl rfl dX5_overPrices_1 ?_
  refine gg_aload_n k dX5_overPrices_4 rfl ?_
  refine gg_get k (cb0 hB) inX5_overPrices_X5 1 (by decide) fX5_overPrices_26 rfl rfl dX5_overPrices_5 ?_
  refine gg_aload_n k dX5_overPrices_8 rfl ?_
  refine gg_get k (cb0 hB) inX5_overPrices_X5 2 (by decide) fX5_overPrices_33 rfl rfl dX5_overPrices_9 ?_
  refine gg_ti hR.cnt ?_
  refine gg_callv (n := 2) (As := [.ref (gad B (1)), .int (iI (sCnt S))]) (rest := []) k (kX3_follow hB hO hR) ⟨_, _, _, gX5_overPrices_X3_follow, rfl, rfl, rfl, by decide +kernel, by decide, by decide⟩ (cbMach hB) rfl rfl (Nat.le_of_ble_eq_true rfl) dX5_overPrices_12 (fun C12 q12 => ?_)
  obtain ⟨hR, hm12, hk12⟩ := q12
  refine gg_lconst0 k dX5_overPrices_15 ?_
  refine gg_lstore_n k [(1, .long (iL (0))), (0, .ref (gad B (0)))] dX5_overPrices_16 (by decide) rfl ?_
  refine gg_iconst k dX5_overPrices_17 ?_
  refine gg_istore_n k [(3, .int (iI (1))), (1, .long (iL (0))), (0, .ref (gad B (0)))] dX5_overPrices_18 (by decide) rfl ?_
  have L19 : ∀ (n19 : Nat) (p : Int) (sm : Int), 1 ≤ p → p ≤ T + 1 → sm = smL (fun x => sOvr S 0 * sOver S (x + 1)) (p - 1).toNat → T + 1 - p < (n19 : Int) → GG K B C12 19 [(0, .ref (gad B (0))), (1, .long (iL (sm))), (3, .int (iI (p)))] [] := by
    intro n19
    induction n19 with
    | zero =>
      intro p sm hp0 hp1 hs hn19
      exact absurd hn19 (by omega)
    | succ n19 ih19 =>
      intro p sm hp0 hp1 hs hn19
      refine gg_iload_n k dX5_overPrices_19 rfl ?_
      refine gg_aload_n k dX5_overPrices_20 rfl ?_
      refine gg_get k (cb0 hB) inX5_overPrices_X5 0 (by decide) fX5_overPrices_20 rfl rfl dX5_overPrices_21 ?_
      refine gg_icmp_gt k 49 dX5_overPrices_24 (by decide) ⟨by omega, by omega⟩ ⟨by omega, by omega⟩ (fun c24 => ?_) (fun c24 => ?_)
      · refine gg_lload_n k dX5_overPrices_49 rfl ?_
        exact hret _ _ _ _ dX5_overPrices_50 (by have := sPr2_b hO (p - 1).toNat (by omega); rw [hs]; exact ⟨by omega, by omega⟩) (⟨hR, by unfold sPr2; rw [hs, show p - 1 = T by omega]⟩)
      · refine gg_lload_n k dX5_overPrices_27 rfl ?_
        refine gg_aload_n k dX5_overPrices_28 rfl ?_
        refine gg_get k (cb0 hB) inX5_overPrices_X5 4 (by decide) fX5_overPrices_43 rfl rfl dX5_overPrices_29 ?_
        refine gg_iconst k dX5_overPrices_32 ?_
        refine gg_iald k (cbOvr hB) (by omega) (by omega) dX5_overPrices_33 ?_
        refine gg_ti (hR.ovr _) ?_
        have b33 := hO.ovr (0)
        refine gg_i2l k dX5_overPrices_34 ⟨by omega, by omega⟩ ?_
        refine gg_aload_n k dX5_overPrices_35 rfl ?_
        refine gg_iload_n k dX5_overPrices_36 rfl ?_
        refine gg_calll (n := 1) (As := [.int (iI (p))]) (rest := [.long (iL (sOvr S (0))), .long (iL (sm))]) k (kX5_overOf hB hO hR hm12 p (by omega) (by omega)) ⟨_, _, _, gX5_overPrices_X5_overOf, rfl, rfl, rfl, by decide +kernel, by decide, by decide⟩ (cb0 hB) rfl rfl (Nat.le_of_ble_eq_true rfl) dX5_overPrices_37 (fun z37 C37 r37 q37 => ?_)
        obtain ⟨q37, e37⟩ := q37
        rw [e37]
        clear e37
        obtain ⟨r37, s37⟩ := r37
        have ob37 := sOver_b hO p
        refine gg_lmul k dX5_overPrices_40 ?_
        refine gg_ladd k dX5_overPrices_41 ?_
        refine gg_lstore_n k [(1, .long (iL (sm + ((sOvr S (0)) * z37)))), (0, .ref (gad B (0))), (3, .int (iI (p)))] dX5_overPrices_42 (by decide) rfl ?_
        refine gg_iinc k 2 [(3, .int (iI (p + 1))), (1, .long (iL (sm + ((sOvr S (0)) * z37)))), (0, .ref (gad B (0)))] dX5_overPrices_43 rfl (by decide) rfl ?_
        refine gg_goto (tgt := 19) k dX5_overPrices_46 (by decide) ?_
        refine gg_sub [2, 1, 0] rfl ?_
        exact ih19 (p + 1) (sm + ((sOvr S (0)) * z37)) (by omega) (by omega) (by rw [show p + 1 - 1 = (p - 1) + 1 by omega, smL_s (by omega), ← hs]; show _ = sm + sOvr S 0 * sOver S (p - 1 + 1); rw [show p - 1 + 1 = p by omega, q37]) (by omega)
  refine gg_sub [2, 1, 0] rfl ?_
  exact L19 ((T + 1 - 1).toNat + 1) (1) (0) (by omega) (by omega) (rfl) (by omega)

abbrev rX5_priceOf : Room := { frames := 5, cells := 0, slots := 0, locals := 120 }
set_option maxRecDepth 100000 in
set_option maxHeartbeats 4000000 in
theorem kX5_priceOf {l : Launch} {B : gB} {T : Int} {S : sS} {C : gSt} (hB : clsB B T) (hO : sOk S T) (hR : cRel S T C) (w : Int) (hw0 : 0 ≤ w) (hw3 : w ≤ 3) : gMl l B yX5_priceOf wsX5_priceOf rX5_priceOf [.ref (gad B (0)), .int (iI (w))] C (fun z C' => cRel S T C' ∧ z = sPrice S T w) := by
  refine gMl_of (cc := cX5_priceOf) (nL := 2) (by decide) rfl (Nat.le_of_ble_eq_true rfl) (fun K k hret => ?_)
  have k : gOk K B l rX5_priceOf 2 cX5_priceOf RX5 wsX5_priceOf := k
  show GG K B C 0 [(0, .ref (gad B (0))), (1, .int (iI (w)))] []
  have hT := hO.t
  have hc := hO.cnt
  have hp0 : 0 ≤ sPr0 S T ∧ sPr0 S T ≤ 720000 := sPr0_b hO T.toNat (by omega)
  have hp1 : 0 ≤ sPr1 S T ∧ sPr1 S T ≤ 468000000 := sPr1_b hO (sCnt S).toNat T.toNat (by omega) (by omega)
  have hp2 : 0 ≤ sPr2 S T ∧ sPr2 S T ≤ 721440000 := sPr2_b hO T.toNat (by omega)
  refine gg_iload_n k dX5_priceOf_0 rfl ?_
  by_cases c1 : w < 0 ∨ 2 < w
  · refine gg_tsO k 43 dX5_priceOf_1 (by decide) ⟨by omega, by omega⟩ c1 ?_
    refine gg_aload_n k dX5_priceOf_43 rfl ?_
    refine gg_calll (n := 0) (As := []) (rest := []) k (kX5_setUpPrices hB hO hR) ⟨_, _, _, gX5_priceOf_X5_setUpPrices, rfl, rfl, rfl, by decide +kernel, by decide, by decide⟩ (cb0 hB) rfl rfl (Nat.le_of_ble_eq_true rfl) dX5_priceOf_44 (fun z44 C44 r44 q44 => ?_)
    obtain ⟨hR, q44⟩ := q44
    obtain ⟨r44, s44⟩ := r44
    refine gg_aload_n k dX5_priceOf_47 rfl ?_
    refine gg_calll (n := 0) (As := []) (rest := [.long (iL (z44))]) k (kX5_holdPrices hB hO hR) ⟨_, _, _, gX5_priceOf_X5_holdPrices, rfl, rfl, rfl, by decide +kernel, by decide, by decide⟩ (cb0 hB) rfl rfl (Nat.le_of_ble_eq_true rfl) dX5_priceOf_48 (fun z48 C48 r48 q48 => ?_)
    obtain ⟨hR, q48⟩ := q48
    obtain ⟨r48, s48⟩ := r48
    refine gg_ladd k dX5_priceOf_51 ?_
    refine gg_aload_n k dX5_priceOf_52 rfl ?_
    refine gg_calll (n := 0) (As := []) (rest := [.long (iL (z44 + z48))]) k (kX5_overPrices hB hO hR) ⟨_, _, _, gX5_priceOf_X5_overPrices, rfl, rfl, rfl, by decide +kernel, by decide, by decide⟩ (cb0 hB) rfl rfl (Nat.le_of_ble_eq_true rfl) dX5_priceOf_53 (fun z53 C53 r53 q53 => ?_)
    obtain ⟨hR, q53⟩ := q53
    obtain ⟨r53, s53⟩ := r53
    refine gg_ladd k dX5_priceOf_56 ?_
    exact hret _ _ _ _ dX5_priceOf_57 (⟨by omega, by omega⟩) (⟨hR, by unfold sPrice; rw [if_neg (by omega), if_neg (by omega), if_neg (by omega), ← q44, ← q48, ← q53]⟩)
  · rcases (show w = 0 ∨ w = 1 ∨ w = 2 by omega) with c1 | c1 | c1
    · refine gg_tsI (c := 0) k 28 dX5_priceOf_1 c1 ⟨by omega, by omega⟩ (by decide) (by decide) rfl (by decide) ?_
      refine gg_aload_n k dX5_priceOf_28 rfl ?_
      refine gg_calll (n := 0) (As := []) (rest := []) k (kX5_setUpPrices hB hO hR) ⟨_, _, _, gX5_priceOf_X5_setUpPrices, rfl, rfl, rfl, by decide +kernel, by decide, by decide⟩ (cb0 hB) rfl rfl (Nat.le_of_ble_eq_true rfl) dX5_priceOf_29 (fun z29 C29 r29 q29 => ?_)
      obtain ⟨hR, q29⟩ := q29
      obtain ⟨r29, s29⟩ := r29
      exact hret _ _ _ _ dX5_priceOf_32 (⟨by omega, by omega⟩) (⟨hR, by unfold sPrice; rw [if_pos (by omega)]; exact q29⟩)
    · refine gg_tsI (c := 1) k 33 dX5_priceOf_1 c1 ⟨by omega, by omega⟩ (by decide) (by decide) rfl (by decide) ?_
      refine gg_aload_n k dX5_priceOf_33 rfl ?_
      refine gg_calll (n := 0) (As := []) (rest := []) k (kX5_holdPrices hB hO hR) ⟨_, _, _, gX5_priceOf_X5_holdPrices, rfl, rfl, rfl, by decide +kernel, by decide, by decide⟩ (cb0 hB) rfl rfl (Nat.le_of_ble_eq_true rfl) dX5_priceOf_34 (fun z34 C34 r34 q34 => ?_)
      obtain ⟨hR, q34⟩ := q34
      obtain ⟨r34, s34⟩ := r34
      exact hret _ _ _ _ dX5_priceOf_37 (⟨by omega, by omega⟩) (⟨hR, by unfold sPrice; rw [if_neg (by omega), if_pos (by omega)]; exact q34⟩)
    · refine gg_tsI (c := 2) k 38 dX5_priceOf_1 c1 ⟨by omega, by omega⟩ (by decide) (by decide) rfl (by decide) ?_
      refine gg_aload_n k dX5_priceOf_38 rfl ?_
      refine gg_calll (n := 0) (As := []) (rest := []) k (kX5_overPrices hB hO hR) ⟨_, _, _, gX5_priceOf_X5_overPrices, rfl, rfl, rfl, by decide +kernel, by decide, by decide⟩ (cb0 hB) rfl rfl (Nat.le_of_ble_eq_true rfl) dX5_priceOf_39 (fun z39 C39 r39 q39 => ?_)
      obtain ⟨hR, q39⟩ := q39
      obtain ⟨r39, s39⟩ := r39
      exact hret _ _ _ _ dX5_priceOf_42 (⟨by omega, by omega⟩) (⟨hR, by unfold sPrice; rw [if_neg (by omega), if_neg (by omega), if_pos (by omega)]; exact q39⟩)

abbrev rX5_price : Room := { frames := 6, cells := 0, slots := 0, locals := 141 }
set_option maxRecDepth 100000 in
set_option maxHeartbeats 4000000 in
theorem kX5_price {l : Launch} {B : gB} {T : Int} {S : sS} {C : gSt} (hB : clsB B T) (hO : sOk S T) (hR : cRel S T C) (w : Int) (hw : rI w) : gMl l B yX5_price wsX5_price rX5_price [.ref (gad B (0)), .int (iI (w))] C (fun z C' => cRel S T C' ∧ z = if 0 ≤ w ∧ w ≤ 3 then sPrice S T w else -9223372036854775808) := by
  refine gMl_of (cc := cX5_price) (nL := 2) (by decide) rfl (Nat.le_of_ble_eq_true rfl) (fun K k hret => ?_)
  have k : gOk K B l rX5_price 2 cX5_price RX5 wsX5_price := k
  show GG K B C 0 [(0, .ref (gad B (0))), (1, .int (iI (w)))] []
  have hT := hO.t
  have hc := hO.cnt
  obtain ⟨hw1, hw2⟩ := hw
  refine gg_iload_n k dX5_price_0 rfl ?_
  refine gg_callsi (n := 1) (As := [.int (iI (w))]) (rest := []) k (kX5_isPrice (w) ⟨by omega, by omega⟩) ⟨_, _, _, gX5_price_X5_isPrice, rfl, rfl, rfl, by decide +kernel, by decide, by decide⟩ rfl rfl (Nat.le_of_ble_eq_true rfl) dX5_price_1 (fun z1 C1 r1 q1 => ?_)
  obtain ⟨q1, e1⟩ := q1
  rw [e1]
  clear e1
  obtain ⟨r1, s1⟩ := r1
  refine gg_if_eq k 15 dX5_price_4 (by decide) ⟨by omega, by omega⟩ (fun c4 => ?_) (fun c4 => ?_)
  · refine gg_ldc2 (z := -9223372036854775808) k dX5_price_15 (by decide +kernel) ?_
    exact hret _ _ _ _ dX5_price_18 (⟨by omega, by omega⟩) (⟨hR, by rw [if_neg (by omega)]⟩)
  · refine gg_aload_n k dX5_price_7 rfl ?_
    refine gg_iload_n k dX5_price_8 rfl ?_
    refine gg_calll (n := 1) (As := [.int (iI (w))]) (rest := []) k (kX5_priceOf hB hO hR (w) (by omega) (by omega)) ⟨_, _, _, gX5_price_X5_priceOf, rfl, rfl, rfl, by decide +kernel, by decide, by decide⟩ (cb0 hB) rfl rfl (Nat.le_of_ble_eq_true rfl) dX5_price_9 (fun z9 C9 r9 q9 => ?_)
    obtain ⟨hR, q9⟩ := q9
    obtain ⟨r9, s9⟩ := r9
    refine gg_goto (tgt := 18) k dX5_price_12 (by decide) ?_
    exact hret _ _ _ _ dX5_price_18 (⟨by omega, by omega⟩) (⟨hR, by rw [if_pos (by omega)]; exact q9⟩)
