abbrev rX5_isItem : Room := { frames := 0, cells := 0, slots := 0, locals := 0 }
set_option maxRecDepth 100000 in
set_option maxHeartbeats 4000000 in
theorem kX5_isItem {l : Launch} {B : gB} {T : Int} {S : sS} {C : gSt} (hB : clsB B T) (hO : sOk S T) (hR : cRel S T C) (i : Int) (hi : rI i) : gMi l B yX5_isItem wsX5_isItem rX5_isItem [.ref (gad B (0)), .int (iI (i))] C (fun z C' => ((z = 1 ∧ 0 ≤ i ∧ i < sCnt S) ∨ (z = 0 ∧ ¬ (0 ≤ i ∧ i < sCnt S))) ∧ C' = C) := by
  refine gMz_of (cc := cX5_isItem) (nL := 2) (by decide) rfl (Nat.le_of_ble_eq_true rfl) (fun z C' h => by omega) (fun K k hret => ?_)
  have k : gOk K B l rX5_isItem 2 cX5_isItem RX5 wsX5_isItem := k
  show GG K B C 0 [(0, .ref (gad B (0))), (1, .int (iI (i)))] []
  have hT := hO.t
  have hc := hO.cnt
  obtain ⟨hi1, hi2⟩ := hi
  refine gg_iload_n k dX5_isItem_0 rfl ?_
  refine gg_if_lt k 16 dX5_isItem_1 (by decide) ⟨by omega, by omega⟩ (fun c1 => ?_) (fun c1 => ?_)
  · refine gg_iconst k dX5_isItem_16 ?_
    exact hret _ _ _ _ dX5_isItem_17 (⟨by omega, by omega⟩) (⟨by omega, rfl⟩)
  · refine gg_iload_n k dX5_isItem_4 rfl ?_
    refine gg_aload_n k dX5_isItem_5 rfl ?_
    refine gg_get k (cb0 hB) inX5_isItem_X5 2 (by decide) fX5_isItem_33 rfl rfl dX5_isItem_6 ?_
    refine gg_ti hR.cnt ?_
    refine gg_icmp_ge k 16 dX5_isItem_9 (by decide) ⟨by omega, by omega⟩ ⟨by omega, by omega⟩ (fun c9 => ?_) (fun c9 => ?_)
    · refine gg_iconst k dX5_isItem_16 ?_
      exact hret _ _ _ _ dX5_isItem_17 (⟨by omega, by omega⟩) (⟨by omega, rfl⟩)
    · refine gg_iconst k dX5_isItem_12 ?_
      refine gg_goto (tgt := 17) k dX5_isItem_13 (by decide) ?_
      exact hret _ _ _ _ dX5_isItem_17 (⟨by omega, by omega⟩) (⟨by omega, rfl⟩)

abbrev rX5_isPeriod : Room := { frames := 0, cells := 0, slots := 0, locals := 0 }
set_option maxRecDepth 100000 in
set_option maxHeartbeats 4000000 in
theorem kX5_isPeriod {l : Launch} {B : gB} {T : Int} {S : sS} {C : gSt} (hB : clsB B T) (hO : sOk S T) (hR : cRel S T C) (p : Int) (hp : rI p) : gMi l B yX5_isPeriod wsX5_isPeriod rX5_isPeriod [.ref (gad B (0)), .int (iI (p))] C (fun z C' => ((z = 1 ∧ 1 ≤ p ∧ p ≤ T) ∨ (z = 0 ∧ ¬ (1 ≤ p ∧ p ≤ T))) ∧ C' = C) := by
  refine gMz_of (cc := cX5_isPeriod) (nL := 2) (by decide) rfl (Nat.le_of_ble_eq_true rfl) (fun z C' h => by omega) (fun K k hret => ?_)
  have k : gOk K B l rX5_isPeriod 2 cX5_isPeriod RX5 wsX5_isPeriod := k
  show GG K B C 0 [(0, .ref (gad B (0))), (1, .int (iI (p)))] []
  have hT := hO.t
  have hc := hO.cnt
  obtain ⟨hp1, hp2⟩ := hp
  refine gg_iload_n k dX5_isPeriod_0 rfl ?_
  refine gg_iconst k dX5_isPeriod_1 ?_
  refine gg_icmp_lt k 17 dX5_isPeriod_2 (by decide) ⟨by omega, by omega⟩ ⟨by omega, by omega⟩ (fun c2 => ?_) (fun c2 => ?_)
  · refine gg_iconst k dX5_isPeriod_17 ?_
    exact hret _ _ _ _ dX5_isPeriod_18 (⟨by omega, by omega⟩) (⟨by omega, rfl⟩)
  · refine gg_iload_n k dX5_isPeriod_5 rfl ?_
    refine gg_aload_n k dX5_isPeriod_6 rfl ?_
    refine gg_get k (cb0 hB) inX5_isPeriod_X5 0 (by decide) fX5_isPeriod_20 rfl rfl dX5_isPeriod_7 ?_
    refine gg_icmp_gt k 17 dX5_isPeriod_10 (by decide) ⟨by omega, by omega⟩ ⟨by omega, by omega⟩ (fun c10 => ?_) (fun c10 => ?_)
    · refine gg_iconst k dX5_isPeriod_17 ?_
      exact hret _ _ _ _ dX5_isPeriod_18 (⟨by omega, by omega⟩) (⟨by omega, rfl⟩)
    · refine gg_iconst k dX5_isPeriod_13 ?_
      refine gg_goto (tgt := 18) k dX5_isPeriod_14 (by decide) ?_
      exact hret _ _ _ _ dX5_isPeriod_18 (⟨by omega, by omega⟩) (⟨by omega, rfl⟩)

abbrev rX5_isPeriodOrBeginning : Room := { frames := 1, cells := 0, slots := 0, locals := 21 }
set_option maxRecDepth 100000 in
set_option maxHeartbeats 4000000 in
theorem kX5_isPeriodOrBeginning {l : Launch} {B : gB} {T : Int} {S : sS} {C : gSt} (hB : clsB B T) (hO : sOk S T) (hR : cRel S T C) (p : Int) (hp : rI p) : gMi l B yX5_isPeriodOrBeginning wsX5_isPeriodOrBeginning rX5_isPeriodOrBeginning [.ref (gad B (0)), .int (iI (p))] C (fun z C' => ((z = 1 ∧ 0 ≤ p ∧ p ≤ T) ∨ (z = 0 ∧ ¬ (0 ≤ p ∧ p ≤ T))) ∧ C' = C) := by
  refine gMz_of (cc := cX5_isPeriodOrBeginning) (nL := 2) (by decide) rfl (Nat.le_of_ble_eq_true rfl) (fun z C' h => by omega) (fun K k hret => ?_)
  have k : gOk K B l rX5_isPeriodOrBeginning 2 cX5_isPeriodOrBeginning RX5 wsX5_isPeriodOrBeginning := k
  show GG K B C 0 [(0, .ref (gad B (0))), (1, .int (iI (p)))] []
  have hT := hO.t
  have hc := hO.cnt
  obtain ⟨hp1, hp2⟩ := hp
  refine gg_iload_n k dX5_isPeriodOrBeginning_0 rfl ?_
  refine gg_if_eq k 12 dX5_isPeriodOrBeginning_1 (by decide) ⟨by omega, by omega⟩ (fun c1 => ?_) (fun c1 => ?_)
  · refine gg_iconst k dX5_isPeriodOrBeginning_12 ?_
    refine gg_goto (tgt := 17) k dX5_isPeriodOrBeginning_13 (by decide) ?_
    exact hret _ _ _ _ dX5_isPeriodOrBeginning_17 (⟨by omega, by omega⟩) (⟨by omega, rfl⟩)
  · refine gg_aload_n k dX5_isPeriodOrBeginning_4 rfl ?_
    refine gg_iload_n k dX5_isPeriodOrBeginning_5 rfl ?_
    refine gg_calli (n := 1) (As := [.int (iI (p))]) (rest := []) k (kX5_isPeriod hB hO hR (p) ⟨by omega, by omega⟩) ⟨_, _, _, gX5_isPeriodOrBeginning_X5_isPeriod, rfl, rfl, rfl, by decide +kernel, by decide, by decide⟩ (cb0 hB) rfl rfl (Nat.le_of_ble_eq_true rfl) dX5_isPeriodOrBeginning_6 (fun z6 C6 r6 q6 => ?_)
    obtain ⟨q6, e6⟩ := q6
    rw [e6]
    clear e6
    obtain ⟨r6, s6⟩ := r6
    refine gg_if_eq k 16 dX5_isPeriodOrBeginning_9 (by decide) ⟨by omega, by omega⟩ (fun c9 => ?_) (fun c9 => ?_)
    · refine gg_iconst k dX5_isPeriodOrBeginning_16 ?_
      exact hret _ _ _ _ dX5_isPeriodOrBeginning_17 (⟨by omega, by omega⟩) (⟨by omega, rfl⟩)
    · refine gg_iconst k dX5_isPeriodOrBeginning_12 ?_
      refine gg_goto (tgt := 17) k dX5_isPeriodOrBeginning_13 (by decide) ?_
      exact hret _ _ _ _ dX5_isPeriodOrBeginning_17 (⟨by omega, by omega⟩) (⟨by omega, rfl⟩)

abbrev rX5_isPrice : Room := { frames := 0, cells := 0, slots := 0, locals := 0 }
set_option maxRecDepth 100000 in
set_option maxHeartbeats 4000000 in
theorem kX5_isPrice {l : Launch} {B : gB} {C : gSt} (w : Int) (hw : rI w) : gMi l B yX5_isPrice wsX5_isPrice rX5_isPrice [.int (iI (w))] C (fun z C' => ((z = 1 ∧ 0 ≤ w ∧ w ≤ 3) ∨ (z = 0 ∧ ¬ (0 ≤ w ∧ w ≤ 3))) ∧ C' = C) := by
  refine gMz_of (cc := cX5_isPrice) (nL := 1) (by decide) rfl (Nat.le_of_ble_eq_true rfl) (fun z C' h => by omega) (fun K k hret => ?_)
  have k : gOk K B l rX5_isPrice 1 cX5_isPrice RX5 wsX5_isPrice := k
  show GG K B C 0 [(0, .int (iI (w)))] []
  obtain ⟨hw1, hw2⟩ := hw
  refine gg_iload_n k dX5_isPrice_0 rfl ?_
  refine gg_if_lt k 13 dX5_isPrice_1 (by decide) ⟨by omega, by omega⟩ (fun c1 => ?_) (fun c1 => ?_)
  · refine gg_iconst k dX5_isPrice_13 ?_
    exact hret _ _ _ _ dX5_isPrice_14 (⟨by omega, by omega⟩) (⟨by omega, rfl⟩)
  · refine gg_iload_n k dX5_isPrice_4 rfl ?_
    refine gg_iconst k dX5_isPrice_5 ?_
    refine gg_icmp_gt k 13 dX5_isPrice_6 (by decide) ⟨by omega, by omega⟩ ⟨by omega, by omega⟩ (fun c6 => ?_) (fun c6 => ?_)
    · refine gg_iconst k dX5_isPrice_13 ?_
      exact hret _ _ _ _ dX5_isPrice_14 (⟨by omega, by omega⟩) (⟨by omega, rfl⟩)
    · refine gg_iconst k dX5_isPrice_9 ?_
      refine gg_goto (tgt := 14) k dX5_isPrice_10 (by decide) ?_
      exact hret _ _ _ _ dX5_isPrice_14 (⟨by omega, by omega⟩) (⟨by omega, rfl⟩)

abbrev rX5_replace : Room := { frames := 0, cells := 0, slots := 0, locals := 0 }
set_option maxRecDepth 100000 in
set_option maxHeartbeats 4000000 in
theorem kX5_replace {l : Launch} {B : gB} {C : gSt} (q n : Nat) (hq : gIA B q n) (a v mo : Int) (h0 : 0 ≤ a) (h1 : a < (n : Int)) (hv : rI v) (hm : rI mo) (hC : rI (C q a)) : gMi l B yX5_replace wsX5_replace rX5_replace [.ref (gad B (q)), .int (iI (a)), .int (iI (v)), .int (iI (mo))] C (fun z C' => ((v < 0 ∨ mo < v) ∧ z = -2 ∧ C' = C) ∨ (¬ (v < 0 ∨ mo < v) ∧ z = C q a ∧ C' = wr C q a v)) := by
  refine gMi_of (ty := .int) rfl (cc := cX5_replace) (nL := 5) (by decide) rfl (Nat.le_of_ble_eq_true rfl) (fun K k hret => ?_)
  have k : gOk K B l rX5_replace 5 cX5_replace RX5 wsX5_replace := k
  show GG K B C 0 [(0, .ref (gad B (q))), (1, .int (iI (a))), (2, .int (iI (v))), (3, .int (iI (mo)))] []
  obtain ⟨hv1, hv2⟩ := hv
  obtain ⟨hm1, hm2⟩ := hm
  obtain ⟨hC1, hC2⟩ := hC
  have hn := hq.2.1
  refine gg_iload_n k dX5_replace_0 rfl ?_
  refine gg_if_lt k 9 dX5_replace_1 (by decide) ⟨by omega, by omega⟩ (fun c1 => ?_) (fun c1 => ?_)
  · refine gg_bipush k dX5_replace_9 (by decide +kernel) ?_
    exact hret _ _ _ _ dX5_replace_11 (⟨by omega, by omega⟩) (Or.inl ⟨by omega, rfl, rfl⟩)
  · refine gg_iload_n k dX5_replace_4 rfl ?_
    refine gg_iload_n k dX5_replace_5 rfl ?_
    refine gg_icmp_le k 12 dX5_replace_6 (by decide) ⟨by omega, by omega⟩ ⟨by omega, by omega⟩ (fun c6 => ?_) (fun c6 => ?_)
    · refine gg_aload_n k dX5_replace_12 rfl ?_
      refine gg_iload_n k dX5_replace_13 rfl ?_
      refine gg_iald k hq (by omega) (by omega) dX5_replace_14 ?_
      refine gg_istore k [(4, .int (iI (C (q) (a)))), (0, .ref (gad B (q))), (1, .int (iI (a))), (2, .int (iI (v))), (3, .int (iI (mo)))] dX5_replace_15 (by decide) rfl ?_
      refine gg_aload_n k dX5_replace_17 rfl ?_
      refine gg_iload_n k dX5_replace_18 rfl ?_
      refine gg_iload_n k dX5_replace_19 rfl ?_
      refine gg_iast k hq (by omega) (by omega) dX5_replace_20 ?_
      refine gg_nm (fun C20 e20 => ?_)
      refine gg_iload k dX5_replace_21 rfl ?_
      exact hret _ _ _ _ dX5_replace_23 (⟨by omega, by omega⟩) (Or.inr ⟨by omega, rfl, e20⟩)
    · refine gg_bipush k dX5_replace_9 (by decide +kernel) ?_
      exact hret _ _ _ _ dX5_replace_11 (⟨by omega, by omega⟩) (Or.inl ⟨by omega, rfl, rfl⟩)

abbrev rX5_item : Room := { frames := 0, cells := 0, slots := 0, locals := 0 }
set_option maxRecDepth 100000 in
set_option maxHeartbeats 4000000 in
theorem kX5_item {l : Launch} {B : gB} {T : Int} {S : sS} {C : gSt} (hB : clsB B T) (hO : sOk S T) (hR : cRel S T C)  : gMi l B yX5_item wsX5_item rX5_item [.ref (gad B (0))] C (fun z C' => (6 ≤ sCnt S ∧ z = -4 ∧ cRel S T C') ∨ (sCnt S < 6 ∧ z = sCnt S ∧ cRel (sUp S 6 0 0 (sCnt S + 1)) T C')) := by
  refine gMi_of (ty := .int) rfl (cc := cX5_item) (nL := 1) (by decide) rfl (Nat.le_of_ble_eq_true rfl) (fun K k hret => ?_)
  have k : gOk K B l rX5_item 1 cX5_item RX5 wsX5_item := k
  show GG K B C 0 [(0, .ref (gad B (0)))] []
  have hT := hO.t
  have hc := hO.cnt
  
  refine gg_aload_n k dX5_item_0 rfl ?_
  refine gg_get k (cb0 hB) inX5_item_X5 2 (by decide) fX5_item_33 rfl rfl dX5_item_1 ?_
  refine gg_ti hR.cnt ?_
  refine gg_bipush k dX5_item_4 (by decide +kernel) ?_
  refine gg_icmp_lt k 12 dX5_item_6 (by decide) ⟨by omega, by omega⟩ ⟨by omega, by omega⟩ (fun c6 => ?_) (fun c6 => ?_)
  · refine gg_aload_n k dX5_item_12 rfl ?_
    refine gg_dup k dX5_item_13 rfl ?_
    refine gg_get k (cb0 hB) inX5_item_X5 2 (by decide) fX5_item_33 rfl rfl dX5_item_14 ?_
    refine gg_ti hR.cnt ?_
    refine gg_iconst k dX5_item_17 ?_
    refine gg_iadd k dX5_item_18 ?_
    refine gg_put (e := 2) k (cb0 hB) inX5_item_X5 tyX5 tyX5_ok nmX5 2 (by decide) fX5_item_33 rfl rfl rfl (Nat.le_of_ble_eq_true rfl) rfl dX5_item_19 ?_
    refine gg_nm (fun C19 e19 => ?_)
    refine gg_aload_n k dX5_item_22 rfl ?_
    refine gg_get k (cb0 hB) inX5_item_X5 2 (by decide) fX5_item_33 rfl rfl dX5_item_23 ?_
    refine gg_ti (show C19 0 2 = sCnt S + 1 by rw [e19, wr_s]) ?_
    refine gg_iconst k dX5_item_26 ?_
    refine gg_isub k dX5_item_27 ?_
    exact hret _ _ _ _ dX5_item_28 (⟨by omega, by omega⟩) (Or.inr ⟨by omega, by omega, by rw [e19]; exact hR.upCnt⟩)
  · refine gg_bipush k dX5_item_9 (by decide +kernel) ?_
    exact hret _ _ _ _ dX5_item_11 (⟨by omega, by omega⟩) (Or.inl ⟨by omega, rfl, hR⟩)
