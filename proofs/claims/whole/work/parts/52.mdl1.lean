abbrev rX6_in : Room := { frames := 0, cells := 0, slots := 0, locals := 0 }
set_option maxRecDepth 100000 in
set_option maxHeartbeats 4000000 in
theorem kX6_in {l : Launch} {B : gB} {C : gSt} (v lo hi : Int) (hv : rI v) (hl : rI lo) (hh : rI hi) : gMi l B yX6_in wsX6_in rX6_in [.int (iI (v)), .int (iI (lo)), .int (iI (hi))] C (fun z C' => ((z = 1 ∧ lo ≤ v ∧ v ≤ hi) ∨ (z = 0 ∧ ¬ (lo ≤ v ∧ v ≤ hi))) ∧ C' = C) := by
  refine gMz_of (cc := cX6_in) (nL := 3) (by decide) rfl (Nat.le_of_ble_eq_true rfl) (fun z C' h => by omega) (fun K k hret => ?_)
  have k : gOk K B l rX6_in 3 cX6_in RX6 wsX6_in := k
  show GG K B C 0 [(0, .int (iI (v))), (1, .int (iI (lo))), (2, .int (iI (hi)))] []
  obtain ⟨hv1, hv2⟩ := hv
  obtain ⟨hl1, hl2⟩ := hl
  obtain ⟨hh1, hh2⟩ := hh
  refine gg_iload_n k dX6_in_0 rfl ?_
  refine gg_iload_n k dX6_in_1 rfl ?_
  refine gg_icmp_lt k 14 dX6_in_2 (by decide) ⟨by omega, by omega⟩ ⟨by omega, by omega⟩ (fun c2 => ?_) (fun c2 => ?_)
  · refine gg_iconst k dX6_in_14 ?_
    exact hret _ _ _ _ dX6_in_15 (⟨by omega, by omega⟩) (⟨by omega, rfl⟩)
  · refine gg_iload_n k dX6_in_5 rfl ?_
    refine gg_iload_n k dX6_in_6 rfl ?_
    refine gg_icmp_gt k 14 dX6_in_7 (by decide) ⟨by omega, by omega⟩ ⟨by omega, by omega⟩ (fun c7 => ?_) (fun c7 => ?_)
    · refine gg_iconst k dX6_in_14 ?_
      exact hret _ _ _ _ dX6_in_15 (⟨by omega, by omega⟩) (⟨by omega, rfl⟩)
    · refine gg_iconst k dX6_in_10 ?_
      refine gg_goto (tgt := 15) k dX6_in_11 (by decide) ?_
      exact hret _ _ _ _ dX6_in_15 (⟨by omega, by omega⟩) (⟨by omega, rfl⟩)

abbrev rX6_isItem : Room := { frames := 1, cells := 0, slots := 0, locals := 22 }
set_option maxRecDepth 100000 in
set_option maxHeartbeats 4000000 in
theorem kX6_isItem {l : Launch} {B : gB} {T : Int} {S : sS} {C : gSt} (hB : mdlB B T) (hO : sOk S T) (hR : mRel S T C) (i : Int) (hi : rI i) : gMi l B yX6_isItem wsX6_isItem rX6_isItem [.ref (gad B (0)), .int (iI (i))] C (fun z C' => ((z = 1 ∧ 0 ≤ i ∧ i < sCnt S) ∨ (z = 0 ∧ ¬ (0 ≤ i ∧ i < sCnt S))) ∧ C' = C) := by
  refine gMz_of (cc := cX6_isItem) (nL := 2) (by decide) rfl (Nat.le_of_ble_eq_true rfl) (fun z C' h => by omega) (fun K k hret => ?_)
  have k : gOk K B l rX6_isItem 2 cX6_isItem RX6 wsX6_isItem := k
  show GG K B C 0 [(0, .ref (gad B (0))), (1, .int (iI (i)))] []
  have hT := hO.t
  have hc := hO.cnt
  obtain ⟨hi1, hi2⟩ := hi
  refine gg_iload_n k dX6_isItem_0 rfl ?_
  refine gg_iconst k dX6_isItem_1 ?_
  refine gg_aload_n k dX6_isItem_2 rfl ?_
  refine gg_get k (mb0 hB) inX6_isItem_X6 2 (by decide) fX6_isItem_76 rfl rfl dX6_isItem_3 ?_
  refine gg_ti hR.cnt ?_
  refine gg_iconst k dX6_isItem_6 ?_
  refine gg_isub k dX6_isItem_7 ?_
  refine gg_callsi (n := 3) (As := [.int (iI (i)), .int (iI (0)), .int (iI ((sCnt S) - 1))]) (rest := []) k (kX6_in (i) (0) ((sCnt S) - 1) ⟨by omega, by omega⟩ ⟨by omega, by omega⟩ ⟨by omega, by omega⟩) ⟨_, _, _, gX6_isItem_X6_in, rfl, rfl, rfl, by decide +kernel, by decide, by decide⟩ rfl rfl (Nat.le_of_ble_eq_true rfl) dX6_isItem_8 (fun z8 C8 r8 q8 => ?_)
  obtain ⟨q8, e8⟩ := q8
  rw [e8]
  clear e8
  obtain ⟨r8, s8⟩ := r8
  exact hret _ _ _ _ dX6_isItem_11 (⟨by omega, by omega⟩) (⟨by omega, rfl⟩)

abbrev rX6_isPeriod : Room := { frames := 1, cells := 0, slots := 0, locals := 22 }
set_option maxRecDepth 100000 in
set_option maxHeartbeats 4000000 in
theorem kX6_isPeriod {l : Launch} {B : gB} {T : Int} {S : sS} {C : gSt} (hB : mdlB B T) (hO : sOk S T) (hR : mRel S T C) (p : Int) (hp : rI p) : gMi l B yX6_isPeriod wsX6_isPeriod rX6_isPeriod [.ref (gad B (0)), .int (iI (p))] C (fun z C' => ((z = 1 ∧ 1 ≤ p ∧ p ≤ T) ∨ (z = 0 ∧ ¬ (1 ≤ p ∧ p ≤ T))) ∧ C' = C) := by
  refine gMz_of (cc := cX6_isPeriod) (nL := 2) (by decide) rfl (Nat.le_of_ble_eq_true rfl) (fun z C' h => by omega) (fun K k hret => ?_)
  have k : gOk K B l rX6_isPeriod 2 cX6_isPeriod RX6 wsX6_isPeriod := k
  show GG K B C 0 [(0, .ref (gad B (0))), (1, .int (iI (p)))] []
  have hT := hO.t
  have hc := hO.cnt
  obtain ⟨hp1, hp2⟩ := hp
  refine gg_iload_n k dX6_isPeriod_0 rfl ?_
  refine gg_iconst k dX6_isPeriod_1 ?_
  refine gg_aload_n k dX6_isPeriod_2 rfl ?_
  refine gg_get k (mb0 hB) inX6_isPeriod_X6 1 (by decide) fX6_isPeriod_69 rfl rfl dX6_isPeriod_3 ?_
  refine gg_callsi (n := 3) (As := [.int (iI (p)), .int (iI (1)), .int (iI (T))]) (rest := []) k (kX6_in (p) (1) (T) ⟨by omega, by omega⟩ ⟨by omega, by omega⟩ ⟨by omega, by omega⟩) ⟨_, _, _, gX6_isPeriod_X6_in, rfl, rfl, rfl, by decide +kernel, by decide, by decide⟩ rfl rfl (Nat.le_of_ble_eq_true rfl) dX6_isPeriod_6 (fun z6 C6 r6 q6 => ?_)
  obtain ⟨q6, e6⟩ := q6
  rw [e6]
  clear e6
  obtain ⟨r6, s6⟩ := r6
  exact hret _ _ _ _ dX6_isPeriod_9 (⟨by omega, by omega⟩) (⟨by omega, rfl⟩)

abbrev rX6_thrown : Room := { frames := 0, cells := 0, slots := 0, locals := 0 }
set_option maxRecDepth 100000 in
set_option maxHeartbeats 4000000 in
theorem kX6_thrown {l : Launch} {B : gB} {T : Int} {C : gSt} (hB : mdlB B T) (h01 : C 0 0 = 0 ∨ C 0 0 = 1) : gMi l B yX6_thrown wsX6_thrown rX6_thrown [.ref (gad B (0))] C (fun z C' => z = C 0 0 ∧ C' = C) := by
  refine gMi_of (ty := .int) rfl (cc := cX6_thrown) (nL := 1) (by decide) rfl (Nat.le_of_ble_eq_true rfl) (fun K k hret => ?_)
  have k : gOk K B l rX6_thrown 1 cX6_thrown RX6 wsX6_thrown := k
  show GG K B C 0 [(0, .ref (gad B (0)))] []
  refine gg_aload_n k dX6_thrown_0 rfl ?_
  refine gg_get k (mb0 hB) inX6_thrown_X6 0 (by decide) fX6_thrown_73 rfl rfl dX6_thrown_1 ?_
  exact hret _ _ _ _ dX6_thrown_4 (⟨by omega, by omega⟩) (⟨rfl, rfl⟩)

abbrev rX6_item : Room := { frames := 0, cells := 0, slots := 0, locals := 0 }
set_option maxRecDepth 100000 in
set_option maxHeartbeats 4000000 in
theorem kX6_item {l : Launch} {B : gB} {T : Int} {S : sS} {C : gSt} (hB : mdlB B T) (hO : sOk S T) (hR : mRel S T C)  : gMi l B yX6_item wsX6_item rX6_item [.ref (gad B (0))] C (fun z C' => (6 ≤ sCnt S ∧ z = -4 ∧ mRel S T C') ∨ (sCnt S < 6 ∧ z = sCnt S ∧ mRel (sUp S 6 0 0 (sCnt S + 1)) T C')) := by
  refine gMi_of (ty := .int) rfl (cc := cX6_item) (nL := 1) (by decide) rfl (Nat.le_of_ble_eq_true rfl) (fun K k hret => ?_)
  have k : gOk K B l rX6_item 1 cX6_item RX6 wsX6_item := k
  show GG K B C 0 [(0, .ref (gad B (0)))] []
  have hT := hO.t
  have hc := hO.cnt
  
  refine gg_aload_n k dX6_item_0 rfl ?_
  refine gg_iconst k dX6_item_1 ?_
  refine gg_put (e := 0) k (mb0 hB) inX6_item_X6 tyX6 tyX6_ok nmX6 0 (by decide) fX6_item_73 rfl rfl rfl (Nat.le_of_ble_eq_true rfl) rfl dX6_item_2 ?_
  refine gg_nm (fun C2 e2 => ?_)
  have hR : mRel S T C2 := by rw [e2]; exact hR.wri (Or.inr ⟨rfl, by omega, by omega, by omega⟩)
  refine gg_aload_n k dX6_item_5 rfl ?_
  refine gg_get k (mb0 hB) inX6_item_X6 2 (by decide) fX6_item_76 rfl rfl dX6_item_6 ?_
  refine gg_ti hR.cnt ?_
  refine gg_bipush k dX6_item_9 (by decide +kernel) ?_
  refine gg_icmp_ne k 17 dX6_item_11 (by decide) ⟨by omega, by omega⟩ ⟨by omega, by omega⟩ (fun c11 => ?_) (fun c11 => ?_)
  · refine gg_aload_n k dX6_item_17 rfl ?_
    refine gg_dup k dX6_item_18 rfl ?_
    refine gg_get k (mb0 hB) inX6_item_X6 2 (by decide) fX6_item_76 rfl rfl dX6_item_19 ?_
    refine gg_ti hR.cnt ?_
    refine gg_iconst k dX6_item_22 ?_
    refine gg_iadd k dX6_item_23 ?_
    refine gg_put (e := 2) k (mb0 hB) inX6_item_X6 tyX6 tyX6_ok nmX6 2 (by decide) fX6_item_76 rfl rfl rfl (Nat.le_of_ble_eq_true rfl) rfl dX6_item_24 ?_
    refine gg_nm (fun C24 e24 => ?_)
    refine gg_aload_n k dX6_item_27 rfl ?_
    refine gg_get k (mb0 hB) inX6_item_X6 2 (by decide) fX6_item_76 rfl rfl dX6_item_28 ?_
    refine gg_ti (show C24 0 2 = sCnt S + 1 by rw [e24, wr_s]) ?_
    refine gg_iconst k dX6_item_31 ?_
    refine gg_isub k dX6_item_32 ?_
    exact hret _ _ _ _ dX6_item_33 (⟨by omega, by omega⟩) (Or.inr ⟨by omega, by omega, by rw [e24]; exact hR.upCnt⟩)
  · refine gg_bipush k dX6_item_14 (by decide +kernel) ?_
    exact hret _ _ _ _ dX6_item_16 (⟨by omega, by omega⟩) (Or.inl ⟨by omega, rfl, hR⟩)

abbrev rX6_bound : Room := { frames := 0, cells := 0, slots := 0, locals := 0 }
set_option maxRecDepth 100000 in
set_option maxHeartbeats 4000000 in
theorem kX6_bound {l : Launch} {B : gB} {C : gSt} (w : Int) (hw : rI w) : gMi l B yX6_bound wsX6_bound rX6_bound [.int (iI (w))] C (fun z C' => z = (if 0 ≤ w ∧ w < 8 then sBnd w else -1) ∧ C' = C) := by
  refine gMi_of (ty := .int) rfl (cc := cX6_bound) (nL := 1) (by decide) rfl (Nat.le_of_ble_eq_true rfl) (fun K k hret => ?_)
  have k : gOk K B l rX6_bound 1 cX6_bound RX6 wsX6_bound := k
  show GG K B C 0 [(0, .int (iI (w)))] []
  obtain ⟨hw1, hw2⟩ := hw
  refine gg_iload_n k dX6_bound_0 rfl ?_
  by_cases c1 : w < 0 ∨ 7 < w
  · refine gg_tsO k 75 dX6_bound_1 (by decide) ⟨by omega, by omega⟩ c1 ?_
    refine gg_iconst k dX6_bound_75 ?_
    exact hret _ _ _ _ dX6_bound_76 (⟨by omega, by omega⟩) (⟨by rw [if_neg (by omega)], rfl⟩)
  · rcases (show w = 0 ∨ w = 1 ∨ w = 2 ∨ w = 3 ∨ w = 4 ∨ w = 5 ∨ w = 6 ∨ w = 7 by omega) with c1 | c1 | c1 | c1 | c1 | c1 | c1 | c1
    · refine gg_tsI (c := 0) k 48 dX6_bound_1 c1 ⟨by omega, by omega⟩ (by decide) (by decide) rfl (by decide) ?_
      refine gg_sipush k dX6_bound_48 (by decide +kernel) ?_
      exact hret _ _ _ _ dX6_bound_51 (⟨by omega, by omega⟩) (⟨by rw [if_pos (by omega), c1]; rfl, rfl⟩)
    · refine gg_tsI (c := 1) k 52 dX6_bound_1 c1 ⟨by omega, by omega⟩ (by decide) (by decide) rfl (by decide) ?_
      refine gg_bipush k dX6_bound_52 (by decide +kernel) ?_
      exact hret _ _ _ _ dX6_bound_54 (⟨by omega, by omega⟩) (⟨by rw [if_pos (by omega), c1]; rfl, rfl⟩)
    · refine gg_tsI (c := 2) k 55 dX6_bound_1 c1 ⟨by omega, by omega⟩ (by decide) (by decide) rfl (by decide) ?_
      refine gg_sipush k dX6_bound_55 (by decide +kernel) ?_
      exact hret _ _ _ _ dX6_bound_58 (⟨by omega, by omega⟩) (⟨by rw [if_pos (by omega), c1]; rfl, rfl⟩)
    · refine gg_tsI (c := 3) k 59 dX6_bound_1 c1 ⟨by omega, by omega⟩ (by decide) (by decide) rfl (by decide) ?_
      refine gg_bipush k dX6_bound_59 (by decide +kernel) ?_
      exact hret _ _ _ _ dX6_bound_61 (⟨by omega, by omega⟩) (⟨by rw [if_pos (by omega), c1]; rfl, rfl⟩)
    · refine gg_tsI (c := 4) k 62 dX6_bound_1 c1 ⟨by omega, by omega⟩ (by decide) (by decide) rfl (by decide) ?_
      refine gg_sipush k dX6_bound_62 (by decide +kernel) ?_
      exact hret _ _ _ _ dX6_bound_65 (⟨by omega, by omega⟩) (⟨by rw [if_pos (by omega), c1]; rfl, rfl⟩)
    · refine gg_tsI (c := 5) k 66 dX6_bound_1 c1 ⟨by omega, by omega⟩ (by decide) (by decide) rfl (by decide) ?_
      refine gg_bipush k dX6_bound_66 (by decide +kernel) ?_
      exact hret _ _ _ _ dX6_bound_68 (⟨by omega, by omega⟩) (⟨by rw [if_pos (by omega), c1]; rfl, rfl⟩)
    · refine gg_tsI (c := 6) k 69 dX6_bound_1 c1 ⟨by omega, by omega⟩ (by decide) (by decide) rfl (by decide) ?_
      refine gg_sipush k dX6_bound_69 (by decide +kernel) ?_
      exact hret _ _ _ _ dX6_bound_72 (⟨by omega, by omega⟩) (⟨by rw [if_pos (by omega), c1]; rfl, rfl⟩)
    · refine gg_tsI (c := 7) k 73 dX6_bound_1 c1 ⟨by omega, by omega⟩ (by decide) (by decide) rfl (by decide) ?_
      refine gg_iconst k dX6_bound_73 ?_
      exact hret _ _ _ _ dX6_bound_74 (⟨by omega, by omega⟩) (⟨by rw [if_pos (by omega), c1]; rfl, rfl⟩)

abbrev rX6_set : Room := { frames := 2, cells := 0, slots := 0, locals := 43 }
set_option maxRecDepth 100000 in
set_option maxHeartbeats 4000000 in
theorem kX6_set {l : Launch} {B : gB} {T : Int} {S : sS} {C : gSt} (hB : mdlB B T) (hO : sOk S T) (hR : mRel S T C) (i p v : Int) (hi : rI i) (hp : rI p) (hv : rI v) : gMi l B yX6_set wsX6_set rX6_set [.ref (gad B (0)), .int (iI (i)), .int (iI (p)), .int (iI (v))] C (fun z C' => mRel (gUpd (rSet S i p) S (uUp S 0 i p v (sBnd p))) T C' ∧ z = gAns (rSet S i p) (aUp S 0 i p v (sBnd p))) := by
  refine gMi_of (ty := .int) rfl (cc := cX6_set) (nL := 5) (by decide) rfl (Nat.le_of_ble_eq_true rfl) (fun K k hret => ?_)
  have k : gOk K B l rX6_set 5 cX6_set RX6 wsX6_set := k
  show GG K B C 0 [(0, .ref (gad B (0))), (1, .int (iI (i))), (2, .int (iI (p))), (3, .int (iI (v)))] []
  have hT := hO.t
  have hc := hO.cnt
  obtain ⟨hi1, hi2⟩ := hi
  obtain ⟨hp1, hp2⟩ := hp
  obtain ⟨hv1, hv2⟩ := hv
  have hbb : 0 ≤ sBnd p ∧ sBnd p ≤ 10000 := by unfold sBnd; split; (· omega); (· split; (· omega); (· split; (· omega); (· split; (· omega); (· split; (· omega); (· split; (· omega); (· split; (· omega); (· split <;> omega)))))))
  refine gg_aload_n k dX6_set_0 rfl ?_
  refine gg_iconst k dX6_set_1 ?_
  refine gg_put (e := 0) k (mb0 hB) inX6_set_X6 tyX6 tyX6_ok nmX6 0 (by decide) fX6_set_73 rfl rfl rfl (Nat.le_of_ble_eq_true rfl) rfl dX6_set_2 ?_
  refine gg_nm (fun C2 e2 => ?_)
  have hR : mRel S T C2 := by rw [e2]; exact hR.wri (Or.inr ⟨rfl, by omega, by omega, by omega⟩)
  refine gg_aload_n k dX6_set_5 rfl ?_
  refine gg_iload_n k dX6_set_6 rfl ?_
  refine gg_calli (n := 1) (As := [.int (iI (i))]) (rest := []) k (kX6_isItem hB hO hR (i) ⟨by omega, by omega⟩) ⟨_, _, _, gX6_set_X6_isItem, rfl, rfl, rfl, by decide +kernel, by decide, by decide⟩ (mb0 hB) rfl rfl (Nat.le_of_ble_eq_true rfl) dX6_set_7 (fun z7 C7 r7 q7 => ?_)
  obtain ⟨q7, e7⟩ := q7
  rw [e7]
  clear e7
  obtain ⟨r7, s7⟩ := r7
  refine gg_if_ne k 15 dX6_set_10 (by decide) ⟨by omega, by omega⟩ (fun c10 => ?_) (fun c10 => ?_)
  · refine gg_iload_n k dX6_set_15 rfl ?_
    refine gg_iconst k dX6_set_16 ?_
    refine gg_iload_n k dX6_set_17 rfl ?_
    refine gg_callsi (n := 1) (As := [.int (iI (p))]) (rest := [.int (iI (0)), .int (iI (v))]) k (kX6_bound (p) ⟨by omega, by omega⟩) ⟨_, _, _, gX6_set_X6_bound, rfl, rfl, rfl, by decide +kernel, by decide, by decide⟩ rfl rfl (Nat.le_of_ble_eq_true rfl) dX6_set_18 (fun z18 C18 r18 q18 => ?_)
    obtain ⟨q18, e18⟩ := q18
    rw [e18]
    clear e18
    obtain ⟨r18, s18⟩ := r18
    refine gg_callsi (n := 3) (As := [.int (iI (v)), .int (iI (0)), .int (iI (z18))]) (rest := []) k (kX6_in (v) (0) (z18) ⟨by omega, by omega⟩ ⟨by omega, by omega⟩ ⟨by omega, by omega⟩) ⟨_, _, _, gX6_set_X6_in, rfl, rfl, rfl, by decide +kernel, by decide, by decide⟩ rfl rfl (Nat.le_of_ble_eq_true rfl) dX6_set_21 (fun z21 C21 r21 q21 => ?_)
    obtain ⟨q21, e21⟩ := q21
    rw [e21]
    clear e21
    obtain ⟨r21, s21⟩ := r21
    refine gg_if_ne k 30 dX6_set_24 (by decide) ⟨by omega, by omega⟩ (fun c24 => ?_) (fun c24 => ?_)
    · have hp8 : 0 ≤ p ∧ p < 8 := by
        by_cases hp : 0 ≤ p ∧ p < 8
        · exact hp
        · rw [if_neg hp] at q18; omega
      rw [if_pos hp8] at q18
      have hnb := hO.num i p
      refine gg_aload_n k dX6_set_30 rfl ?_
      refine gg_get k (mb0 hB) inX6_set_X6 3 (by decide) fX6_set_7 rfl rfl dX6_set_31 ?_
      refine gg_bipush k dX6_set_34 (by decide +kernel) ?_
      refine gg_iload_n k dX6_set_36 rfl ?_
      refine gg_imul k dX6_set_37 ?_
      refine gg_iload_n k dX6_set_38 rfl ?_
      refine gg_iadd k dX6_set_39 ?_
      refine gg_iald k (mb1 hB) (by omega) (by omega) dX6_set_40 ?_
      refine gg_ti (hR.num (i := i) (w := p) (by omega) (by omega) (by omega) (by omega) (by omega)) ?_
      have bd40 := hO.num (i) (p)
      refine gg_istore k [(4, .int (iI (sNum S (i) (p)))), (0, .ref (gad B (0))), (1, .int (iI (i))), (2, .int (iI (p))), (3, .int (iI (v)))] dX6_set_41 (by decide) rfl ?_
      refine gg_aload_n k dX6_set_43 rfl ?_
      refine gg_get k (mb0 hB) inX6_set_X6 3 (by decide) fX6_set_7 rfl rfl dX6_set_44 ?_
      refine gg_bipush k dX6_set_47 (by decide +kernel) ?_
      refine gg_iload_n k dX6_set_49 rfl ?_
      refine gg_imul k dX6_set_50 ?_
      refine gg_iload_n k dX6_set_51 rfl ?_
      refine gg_iadd k dX6_set_52 ?_
      refine gg_iload_n k dX6_set_53 rfl ?_
      refine gg_iast k (mb1 hB) (by omega) (by omega) dX6_set_54 ?_
      refine gg_nm (fun C54 e54 => ?_)
      refine gg_iload k dX6_set_55 rfl ?_
      exact hret _ _ _ _ dX6_set_57 (⟨by omega, by omega⟩) (by
        rw [gUpd_0 (rSet_0 (by omega) hp8), gAns_0 (rSet_0 (by omega) hp8), uUp_0 (by omega), aUp_0 (by omega)]
        exact ⟨by rw [e54]; exact hR.upN (by omega) (by omega) (by omega) (by omega) rfl, rfl⟩)
    · refine gg_bipush k dX6_set_27 (by decide +kernel) ?_
      exact hret _ _ _ _ dX6_set_29 (⟨by omega, by omega⟩) (by
        by_cases hp : 0 ≤ p ∧ p < 8
        · rw [if_pos hp] at q18
          rw [gUpd_0 (rSet_0 (by omega) hp), gAns_0 (rSet_0 (by omega) hp), uUp_2 (by omega), aUp_2 (by omega)]
          exact ⟨hR, rfl⟩
        · exact ⟨by rw [gUpd_n (by rw [rSet_2 (by omega) hp]; omega)]; exact hR, by rw [gAns_n (by rw [rSet_2 (by omega) hp]; omega), rSet_2 (by omega) hp]⟩)
  · refine gg_iconst k dX6_set_13 ?_
    exact hret _ _ _ _ dX6_set_14 (⟨by omega, by omega⟩) (⟨by rw [gUpd_n (by rw [rSet_1 (by omega)]; omega)]; exact hR, by rw [gAns_n (by rw [rSet_1 (by omega)]; omega), rSet_1 (by omega)]⟩)

abbrev rX6_need : Room := { frames := 2, cells := 0, slots := 0, locals := 43 }
set_option maxRecDepth 100000 in
set_option maxHeartbeats 4000000 in
theorem kX6_need {l : Launch} {B : gB} {T : Int} {S : sS} {C : gSt} (hB : mdlB B T) (hO : sOk S T) (hR : mRel S T C) (i p v : Int) (hi : rI i) (hp : rI p) (hv : rI v) : gMi l B yX6_need wsX6_need rX6_need [.ref (gad B (0)), .int (iI (i)), .int (iI (p)), .int (iI (v))] C (fun z C' => mRel (gUpd (rIP S T i p) S (uUp S 1 i p v 1000)) T C' ∧ z = gAns (rIP S T i p) (aUp S 1 i p v 1000)) := by
  refine gMi_of (ty := .int) rfl (cc := cX6_need) (nL := 5) (by decide) rfl (Nat.le_of_ble_eq_true rfl) (fun K k hret => ?_)
  have k : gOk K B l rX6_need 5 cX6_need RX6 wsX6_need := k
  show GG K B C 0 [(0, .ref (gad B (0))), (1, .int (iI (i))), (2, .int (iI (p))), (3, .int (iI (v)))] []
  have hT := hO.t
  have hc := hO.cnt
  obtain ⟨hi1, hi2⟩ := hi
  obtain ⟨hp1, hp2⟩ := hp
  obtain ⟨hv1, hv2⟩ := hv
  refine gg_aload_n k dX6_need_0 rfl ?_
  refine gg_iconst k dX6_need_1 ?_
  refine gg_put (e := 0) k (mb0 hB) inX6_need_X6 tyX6 tyX6_ok nmX6 0 (by decide) fX6_need_73 rfl rfl rfl (Nat.le_of_ble_eq_true rfl) rfl dX6_need_2 ?_
  refine gg_nm (fun C2 e2 => ?_)
  have hR : mRel S T C2 := by rw [e2]; exact hR.wri (Or.inr ⟨rfl, by omega, by omega, by omega⟩)
  refine gg_aload_n k dX6_need_5 rfl ?_
  refine gg_iload_n k dX6_need_6 rfl ?_
  refine gg_calli (n := 1) (As := [.int (iI (i))]) (rest := []) k (kX6_isItem hB hO hR (i) ⟨by omega, by omega⟩) ⟨_, _, _, gX6_need_X6_isItem, rfl, rfl, rfl, by decide +kernel, by decide, by decide⟩ (mb0 hB) rfl rfl (Nat.le_of_ble_eq_true rfl) dX6_need_7 (fun z7 C7 r7 q7 => ?_)
  obtain ⟨q7, e7⟩ := q7
  rw [e7]
  clear e7
  obtain ⟨r7, s7⟩ := r7
  refine gg_if_eq k 21 dX6_need_10 (by decide) ⟨by omega, by omega⟩ (fun c10 => ?_) (fun c10 => ?_)
  · refine gg_iconst k dX6_need_21 ?_
    exact hret _ _ _ _ dX6_need_22 (⟨by omega, by omega⟩) (⟨by rw [gUpd_n (by rw [rIP_1 (by omega)]; omega)]; exact hR, by rw [gAns_n (by rw [rIP_1 (by omega)]; omega), rIP_1 (by omega)]⟩)
  · refine gg_aload_n k dX6_need_13 rfl ?_
    refine gg_iload_n k dX6_need_14 rfl ?_
    refine gg_calli (n := 1) (As := [.int (iI (p))]) (rest := []) k (kX6_isPeriod hB hO hR (p) ⟨by omega, by omega⟩) ⟨_, _, _, gX6_need_X6_isPeriod, rfl, rfl, rfl, by decide +kernel, by decide, by decide⟩ (mb0 hB) rfl rfl (Nat.le_of_ble_eq_true rfl) dX6_need_15 (fun z15 C15 r15 q15 => ?_)
    obtain ⟨q15, e15⟩ := q15
    rw [e15]
    clear e15
    obtain ⟨r15, s15⟩ := r15
    refine gg_if_ne k 23 dX6_need_18 (by decide) ⟨by omega, by omega⟩ (fun c18 => ?_) (fun c18 => ?_)
    · refine gg_iload_n k dX6_need_23 rfl ?_
      refine gg_iconst k dX6_need_24 ?_
      refine gg_sipush k dX6_need_25 (by decide +kernel) ?_
      refine gg_callsi (n := 3) (As := [.int (iI (v)), .int (iI (0)), .int (iI (1000))]) (rest := []) k (kX6_in (v) (0) (1000) ⟨by omega, by omega⟩ ⟨by omega, by omega⟩ ⟨by omega, by omega⟩) ⟨_, _, _, gX6_need_X6_in, rfl, rfl, rfl, by decide +kernel, by decide, by decide⟩ rfl rfl (Nat.le_of_ble_eq_true rfl) dX6_need_28 (fun z28 C28 r28 q28 => ?_)
      obtain ⟨q28, e28⟩ := q28
      rw [e28]
      clear e28
      obtain ⟨r28, s28⟩ := r28
      refine gg_if_ne k 37 dX6_need_31 (by decide) ⟨by omega, by omega⟩ (fun c31 => ?_) (fun c31 => ?_)
      · refine gg_aload_n k dX6_need_37 rfl ?_
        refine gg_get k (mb0 hB) inX6_need_X6 4 (by decide) fX6_need_13 rfl rfl dX6_need_38 ?_
        refine gg_bipush k dX6_need_41 (by decide +kernel) ?_
        refine gg_iload_n k dX6_need_43 rfl ?_
        refine gg_imul k dX6_need_44 ?_
        refine gg_iload_n k dX6_need_45 rfl ?_
        refine gg_iadd k dX6_need_46 ?_
        refine gg_iald k (mb2 hB) (by omega) (by omega) dX6_need_47 ?_
        refine gg_ti (hR.nee (i := i) (p := p) (by omega) (by omega) (by omega) (by omega) (by omega)) ?_
        have bd47 := hO.nee (i) (p)
        refine gg_istore k [(4, .int (iI (sNee S (i) (p)))), (0, .ref (gad B (0))), (1, .int (iI (i))), (2, .int (iI (p))), (3, .int (iI (v)))] dX6_need_48 (by decide) rfl ?_
        refine gg_aload_n k dX6_need_50 rfl ?_
        refine gg_get k (mb0 hB) inX6_need_X6 4 (by decide) fX6_need_13 rfl rfl dX6_need_51 ?_
        refine gg_bipush k dX6_need_54 (by decide +kernel) ?_
        refine gg_iload_n k dX6_need_56 rfl ?_
        refine gg_imul k dX6_need_57 ?_
        refine gg_iload_n k dX6_need_58 rfl ?_
        refine gg_iadd k dX6_need_59 ?_
        refine gg_iload_n k dX6_need_60 rfl ?_
        refine gg_iast k (mb2 hB) (by omega) (by omega) dX6_need_61 ?_
        refine gg_nm (fun C61 e61 => ?_)
        refine gg_iload k dX6_need_62 rfl ?_
        exact hret _ _ _ _ dX6_need_64 (⟨by omega, by omega⟩) (⟨by rw [gUpd_0 (rIP_0 (by omega)), uUp_0 (by omega), e61]; exact hR.upE (by omega) (by omega) (by omega) (by omega) rfl, by rw [gAns_0 (rIP_0 (by omega)), aUp_0 (by omega)]; rfl⟩)
      · refine gg_bipush k dX6_need_34 (by decide +kernel) ?_
        exact hret _ _ _ _ dX6_need_36 (⟨by omega, by omega⟩) (⟨by rw [gUpd_0 (rIP_0 (by omega)), uUp_2 (by omega)]; exact hR, by rw [gAns_0 (rIP_0 (by omega)), aUp_2 (by omega)]⟩)
    · refine gg_iconst k dX6_need_21 ?_
      exact hret _ _ _ _ dX6_need_22 (⟨by omega, by omega⟩) (⟨by rw [gUpd_n (by rw [rIP_1 (by omega)]; omega)]; exact hR, by rw [gAns_n (by rw [rIP_1 (by omega)]; omega), rIP_1 (by omega)]⟩)

abbrev rX6_make : Room := { frames := 2, cells := 0, slots := 0, locals := 43 }
set_option maxRecDepth 100000 in
set_option maxHeartbeats 4000000 in
theorem kX6_make {l : Launch} {B : gB} {T : Int} {S : sS} {C : gSt} (hB : mdlB B T) (hO : sOk S T) (hR : mRel S T C) (i p v : Int) (hi : rI i) (hp : rI p) (hv : rI v) : gMi l B yX6_make wsX6_make rX6_make [.ref (gad B (0)), .int (iI (i)), .int (iI (p)), .int (iI (v))] C (fun z C' => mRel (gUpd (rIP S T i p) S (uUp S 2 i p v 5000)) T C' ∧ z = gAns (rIP S T i p) (aUp S 2 i p v 5000)) := by
  refine gMi_of (ty := .int) rfl (cc := cX6_make) (nL := 5) (by decide) rfl (Nat.le_of_ble_eq_true rfl) (fun K k hret => ?_)
  have k : gOk K B l rX6_make 5 cX6_make RX6 wsX6_make := k
  show GG K B C 0 [(0, .ref (gad B (0))), (1, .int (iI (i))), (2, .int (iI (p))), (3, .int (iI (v)))] []
  have hT := hO.t
  have hc := hO.cnt
  obtain ⟨hi1, hi2⟩ := hi
  obtain ⟨hp1, hp2⟩ := hp
  obtain ⟨hv1, hv2⟩ := hv
  refine gg_aload_n k dX6_make_0 rfl ?_
  refine gg_iconst k dX6_make_1 ?_
  refine gg_put (e := 0) k (mb0 hB) inX6_make_X6 tyX6 tyX6_ok nmX6 0 (by decide) fX6_make_73 rfl rfl rfl (Nat.le_of_ble_eq_true rfl) rfl dX6_make_2 ?_
  refine gg_nm (fun C2 e2 => ?_)
  have hR : mRel S T C2 := by rw [e2]; exact hR.wri (Or.inr ⟨rfl, by omega, by omega, by omega⟩)
  refine gg_aload_n k dX6_make_5 rfl ?_
  refine gg_iload_n k dX6_make_6 rfl ?_
  refine gg_calli (n := 1) (As := [.int (iI (i))]) (rest := []) k (kX6_isItem hB hO hR (i) ⟨by omega, by omega⟩) ⟨_, _, _, gX6_make_X6_isItem, rfl, rfl, rfl, by decide +kernel, by decide, by decide⟩ (mb0 hB) rfl rfl (Nat.le_of_ble_eq_true rfl) dX6_make_7 (fun z7 C7 r7 q7 => ?_)
  obtain ⟨q7, e7⟩ := q7
  rw [e7]
  clear e7
  obtain ⟨r7, s7⟩ := r7
  refine gg_if_eq k 21 dX6_make_10 (by decide) ⟨by omega, by omega⟩ (fun c10 => ?_) (fun c10 => ?_)
  · refine gg_iconst k dX6_make_21 ?_
    exact hret _ _ _ _ dX6_make_22 (⟨by omega, by omega⟩) (⟨by rw [gUpd_n (by rw [rIP_1 (by omega)]; omega)]; exact hR, by rw [gAns_n (by rw [rIP_1 (by omega)]; omega), rIP_1 (by omega)]⟩)
  · refine gg_aload_n k dX6_make_13 rfl ?_
    refine gg_iload_n k dX6_make_14 rfl ?_
    refine gg_calli (n := 1) (As := [.int (iI (p))]) (rest := []) k (kX6_isPeriod hB hO hR (p) ⟨by omega, by omega⟩) ⟨_, _, _, gX6_make_X6_isPeriod, rfl, rfl, rfl, by decide +kernel, by decide, by decide⟩ (mb0 hB) rfl rfl (Nat.le_of_ble_eq_true rfl) dX6_make_15 (fun z15 C15 r15 q15 => ?_)
    obtain ⟨q15, e15⟩ := q15
    rw [e15]
    clear e15
    obtain ⟨r15, s15⟩ := r15
    refine gg_if_ne k 23 dX6_make_18 (by decide) ⟨by omega, by omega⟩ (fun c18 => ?_) (fun c18 => ?_)
    · refine gg_iload_n k dX6_make_23 rfl ?_
      refine gg_iconst k dX6_make_24 ?_
      refine gg_sipush k dX6_make_25 (by decide +kernel) ?_
      refine gg_callsi (n := 3) (As := [.int (iI (v)), .int (iI (0)), .int (iI (5000))]) (rest := []) k (kX6_in (v) (0) (5000) ⟨by omega, by omega⟩ ⟨by omega, by omega⟩ ⟨by omega, by omega⟩) ⟨_, _, _, gX6_make_X6_in, rfl, rfl, rfl, by decide +kernel, by decide, by decide⟩ rfl rfl (Nat.le_of_ble_eq_true rfl) dX6_make_28 (fun z28 C28 r28 q28 => ?_)
      obtain ⟨q28, e28⟩ := q28
      rw [e28]
      clear e28
      obtain ⟨r28, s28⟩ := r28
      refine gg_if_ne k 37 dX6_make_31 (by decide) ⟨by omega, by omega⟩ (fun c31 => ?_) (fun c31 => ?_)
      · refine gg_aload_n k dX6_make_37 rfl ?_
        refine gg_get k (mb0 hB) inX6_make_X6 5 (by decide) fX6_make_16 rfl rfl dX6_make_38 ?_
        refine gg_bipush k dX6_make_41 (by decide +kernel) ?_
        refine gg_iload_n k dX6_make_43 rfl ?_
        refine gg_imul k dX6_make_44 ?_
        refine gg_iload_n k dX6_make_45 rfl ?_
        refine gg_iadd k dX6_make_46 ?_
        refine gg_iald k (mb3 hB) (by omega) (by omega) dX6_make_47 ?_
        refine gg_ti (hR.lot (i := i) (p := p) (by omega) (by omega) (by omega) (by omega) (by omega)) ?_
        have bd47 := hO.lot (i) (p)
        refine gg_istore k [(4, .int (iI (sLot S (i) (p)))), (0, .ref (gad B (0))), (1, .int (iI (i))), (2, .int (iI (p))), (3, .int (iI (v)))] dX6_make_48 (by decide) rfl ?_
        refine gg_aload_n k dX6_make_50 rfl ?_
        refine gg_get k (mb0 hB) inX6_make_X6 5 (by decide) fX6_make_16 rfl rfl dX6_make_51 ?_
        refine gg_bipush k dX6_make_54 (by decide +kernel) ?_
        refine gg_iload_n k dX6_make_56 rfl ?_
        refine gg_imul k dX6_make_57 ?_
        refine gg_iload_n k dX6_make_58 rfl ?_
        refine gg_iadd k dX6_make_59 ?_
        refine gg_iload_n k dX6_make_60 rfl ?_
        refine gg_iast k (mb3 hB) (by omega) (by omega) dX6_make_61 ?_
        refine gg_nm (fun C61 e61 => ?_)
        refine gg_iload k dX6_make_62 rfl ?_
        exact hret _ _ _ _ dX6_make_64 (⟨by omega, by omega⟩) (⟨by rw [gUpd_0 (rIP_0 (by omega)), uUp_0 (by omega), e61]; exact hR.upL (by omega) (by omega) (by omega) (by omega) rfl, by rw [gAns_0 (rIP_0 (by omega)), aUp_0 (by omega)]; rfl⟩)
      · refine gg_bipush k dX6_make_34 (by decide +kernel) ?_
        exact hret _ _ _ _ dX6_make_36 (⟨by omega, by omega⟩) (⟨by rw [gUpd_0 (rIP_0 (by omega)), uUp_2 (by omega)]; exact hR, by rw [gAns_0 (rIP_0 (by omega)), aUp_2 (by omega)]⟩)
    · refine gg_iconst k dX6_make_21 ?_
      exact hret _ _ _ _ dX6_make_22 (⟨by omega, by omega⟩) (⟨by rw [gUpd_n (by rw [rIP_1 (by omega)]; omega)]; exact hR, by rw [gAns_n (by rw [rIP_1 (by omega)]; omega), rIP_1 (by omega)]⟩)

abbrev rX6_capacity : Room := { frames := 2, cells := 0, slots := 0, locals := 43 }
set_option maxRecDepth 100000 in
set_option maxHeartbeats 4000000 in
theorem kX6_capacity {l : Launch} {B : gB} {T : Int} {S : sS} {C : gSt} (hB : mdlB B T) (hO : sOk S T) (hR : mRel S T C) (p v : Int) (hp : rI p) (hv : rI v) : gMi l B yX6_capacity wsX6_capacity rX6_capacity [.ref (gad B (0)), .int (iI (p)), .int (iI (v))] C (fun z C' => mRel (gUpd (rCap T p) S (uUp S 4 0 p v 10000)) T C' ∧ z = gAns (rCap T p) (aUp S 4 0 p v 10000)) := by
  refine gMi_of (ty := .int) rfl (cc := cX6_capacity) (nL := 4) (by decide) rfl (Nat.le_of_ble_eq_true rfl) (fun K k hret => ?_)
  have k : gOk K B l rX6_capacity 4 cX6_capacity RX6 wsX6_capacity := k
  show GG K B C 0 [(0, .ref (gad B (0))), (1, .int (iI (p))), (2, .int (iI (v)))] []
  have hT := hO.t
  have hc := hO.cnt
  obtain ⟨hp1, hp2⟩ := hp
  obtain ⟨hv1, hv2⟩ := hv
  refine gg_aload_n k dX6_capacity_0 rfl ?_
  refine gg_iconst k dX6_capacity_1 ?_
  refine gg_put (e := 0) k (mb0 hB) inX6_capacity_X6 tyX6 tyX6_ok nmX6 0 (by decide) fX6_capacity_73 rfl rfl rfl (Nat.le_of_ble_eq_true rfl) rfl dX6_capacity_2 ?_
  refine gg_nm (fun C2 e2 => ?_)
  have hR : mRel S T C2 := by rw [e2]; exact hR.wri (Or.inr ⟨rfl, by omega, by omega, by omega⟩)
  refine gg_aload_n k dX6_capacity_5 rfl ?_
  refine gg_iload_n k dX6_capacity_6 rfl ?_
  refine gg_calli (n := 1) (As := [.int (iI (p))]) (rest := []) k (kX6_isPeriod hB hO hR (p) ⟨by omega, by omega⟩) ⟨_, _, _, gX6_capacity_X6_isPeriod, rfl, rfl, rfl, by decide +kernel, by decide, by decide⟩ (mb0 hB) rfl rfl (Nat.le_of_ble_eq_true rfl) dX6_capacity_7 (fun z7 C7 r7 q7 => ?_)
  obtain ⟨q7, e7⟩ := q7
  rw [e7]
  clear e7
  obtain ⟨r7, s7⟩ := r7
  refine gg_if_ne k 15 dX6_capacity_10 (by decide) ⟨by omega, by omega⟩ (fun c10 => ?_) (fun c10 => ?_)
  · refine gg_iload_n k dX6_capacity_15 rfl ?_
    refine gg_iconst k dX6_capacity_16 ?_
    refine gg_sipush k dX6_capacity_17 (by decide +kernel) ?_
    refine gg_callsi (n := 3) (As := [.int (iI (v)), .int (iI (0)), .int (iI (10000))]) (rest := []) k (kX6_in (v) (0) (10000) ⟨by omega, by omega⟩ ⟨by omega, by omega⟩ ⟨by omega, by omega⟩) ⟨_, _, _, gX6_capacity_X6_in, rfl, rfl, rfl, by decide +kernel, by decide, by decide⟩ rfl rfl (Nat.le_of_ble_eq_true rfl) dX6_capacity_20 (fun z20 C20 r20 q20 => ?_)
    obtain ⟨q20, e20⟩ := q20
    rw [e20]
    clear e20
    obtain ⟨r20, s20⟩ := r20
    refine gg_if_ne k 29 dX6_capacity_23 (by decide) ⟨by omega, by omega⟩ (fun c23 => ?_) (fun c23 => ?_)
    · refine gg_aload_n k dX6_capacity_29 rfl ?_
      refine gg_get k (mb0 hB) inX6_capacity_X6 7 (by decide) fX6_capacity_22 rfl rfl dX6_capacity_30 ?_
      refine gg_iload_n k dX6_capacity_33 rfl ?_
      refine gg_iald k (mb5 hB) (by omega) (by omega) dX6_capacity_34 ?_
      refine gg_ti (hR.cap (by omega) (by omega)) ?_
      have bd34 := hO.cap (p)
      refine gg_istore_n k [(3, .int (iI (sCap S (p)))), (0, .ref (gad B (0))), (1, .int (iI (p))), (2, .int (iI (v)))] dX6_capacity_35 (by decide) rfl ?_
      refine gg_aload_n k dX6_capacity_36 rfl ?_
      refine gg_get k (mb0 hB) inX6_capacity_X6 7 (by decide) fX6_capacity_22 rfl rfl dX6_capacity_37 ?_
      refine gg_iload_n k dX6_capacity_40 rfl ?_
      refine gg_iload_n k dX6_capacity_41 rfl ?_
      refine gg_iast k (mb5 hB) (by omega) (by omega) dX6_capacity_42 ?_
      refine gg_nm (fun C42 e42 => ?_)
      refine gg_iload_n k dX6_capacity_43 rfl ?_
      exact hret _ _ _ _ dX6_capacity_44 (⟨by omega, by omega⟩) (⟨by rw [gUpd_0 (rCap_0 (by omega)), uUp_0 (by omega), e42]; exact hR.upCap, by rw [gAns_0 (rCap_0 (by omega)), aUp_0 (by omega)]; rfl⟩)
    · refine gg_bipush k dX6_capacity_26 (by decide +kernel) ?_
      exact hret _ _ _ _ dX6_capacity_28 (⟨by omega, by omega⟩) (⟨by rw [gUpd_0 (rCap_0 (by omega)), uUp_2 (by omega)]; exact hR, by rw [gAns_0 (rCap_0 (by omega)), aUp_2 (by omega)]⟩)
  · refine gg_iconst k dX6_capacity_13 ?_
    exact hret _ _ _ _ dX6_capacity_14 (⟨by omega, by omega⟩) (⟨by rw [gUpd_n (by rw [rCap_1 (by omega)]; omega)]; exact hR, by rw [gAns_n (by rw [rCap_1 (by omega)]; omega), rCap_1 (by omega)]⟩)

abbrev rX6_over : Room := { frames := 1, cells := 0, slots := 0, locals := 22 }
set_option maxRecDepth 100000 in
set_option maxHeartbeats 4000000 in
theorem kX6_over {l : Launch} {B : gB} {T : Int} {S : sS} {C : gSt} (hB : mdlB B T) (hO : sOk S T) (hR : mRel S T C) (p v : Int) (hp : rI p) (hv : rI v) : gMi l B yX6_over wsX6_over rX6_over [.ref (gad B (0)), .int (iI (p)), .int (iI (v))] C (fun z C' => mRel (gUpd (rOvr p) S (uUp S 5 0 p v (if p = 0 then 100 else 10000))) T C' ∧ z = gAns (rOvr p) (aUp S 5 0 p v (if p = 0 then 100 else 10000))) := by
  refine gMi_of (ty := .int) rfl (cc := cX6_over) (nL := 4) (by decide) rfl (Nat.le_of_ble_eq_true rfl) (fun K k hret => ?_)
  have k : gOk K B l rX6_over 4 cX6_over RX6 wsX6_over := k
  show GG K B C 0 [(0, .ref (gad B (0))), (1, .int (iI (p))), (2, .int (iI (v)))] []
  have hT := hO.t
  have hc := hO.cnt
  obtain ⟨hp1, hp2⟩ := hp
  obtain ⟨hv1, hv2⟩ := hv
  refine gg_aload_n k dX6_over_0 rfl ?_
  refine gg_iconst k dX6_over_1 ?_
  refine gg_put (e := 0) k (mb0 hB) inX6_over_X6 tyX6 tyX6_ok nmX6 0 (by decide) fX6_over_73 rfl rfl rfl (Nat.le_of_ble_eq_true rfl) rfl dX6_over_2 ?_
  refine gg_nm (fun C2 e2 => ?_)
  have hR : mRel S T C2 := by rw [e2]; exact hR.wri (Or.inr ⟨rfl, by omega, by omega, by omega⟩)
  refine gg_iload_n k dX6_over_5 rfl ?_
  refine gg_iconst k dX6_over_6 ?_
  refine gg_iconst k dX6_over_7 ?_
  refine gg_callsi (n := 3) (As := [.int (iI (p)), .int (iI (0)), .int (iI (1))]) (rest := []) k (kX6_in (p) (0) (1) ⟨by omega, by omega⟩ ⟨by omega, by omega⟩ ⟨by omega, by omega⟩) ⟨_, _, _, gX6_over_X6_in, rfl, rfl, rfl, by decide +kernel, by decide, by decide⟩ rfl rfl (Nat.le_of_ble_eq_true rfl) dX6_over_8 (fun z8 C8 r8 q8 => ?_)
  obtain ⟨q8, e8⟩ := q8
  rw [e8]
  clear e8
  obtain ⟨r8, s8⟩ := r8
  refine gg_if_eq k 34 dX6_over_11 (by decide) ⟨by omega, by omega⟩ (fun c11 => ?_) (fun c11 => ?_)
  · refine gg_bipush k dX6_over_34 (by decide +kernel) ?_
    exact hret _ _ _ _ dX6_over_36 (⟨by omega, by omega⟩) (⟨by rw [gUpd_n (by rw [rOvr_2 (by omega)]; omega)]; exact hR, by rw [gAns_n (by rw [rOvr_2 (by omega)]; omega), rOvr_2 (by omega)]⟩)
  · refine gg_iload_n k dX6_over_14 rfl ?_
    refine gg_iconst k dX6_over_15 ?_
    refine gg_iload_n k dX6_over_16 rfl ?_
    refine gg_if_ne k 25 dX6_over_17 (by decide) ⟨by omega, by omega⟩ (fun c17 => ?_) (fun c17 => ?_)
    · refine gg_sipush k dX6_over_25 (by decide +kernel) ?_
      refine gg_callsi (n := 3) (As := [.int (iI (v)), .int (iI (0)), .int (iI (10000))]) (rest := []) k (kX6_in (v) (0) (10000) ⟨by omega, by omega⟩ ⟨by omega, by omega⟩ ⟨by omega, by omega⟩) ⟨_, _, _, gX6_over_X6_in, rfl, rfl, rfl, by decide +kernel, by decide, by decide⟩ rfl rfl (Nat.le_of_ble_eq_true rfl) dX6_over_28 (fun z28 C28 r28 q28 => ?_)
      obtain ⟨q28, e28⟩ := q28
      rw [e28]
      clear e28
      obtain ⟨r28, s28⟩ := r28
      refine gg_if_ne k 37 dX6_over_31 (by decide) ⟨by omega, by omega⟩ (fun c31 => ?_) (fun c31 => ?_)
      · refine gg_iload_n k dX6_over_37 rfl ?_
        refine gg_if_ne k 48 dX6_over_38 (by decide) ⟨by omega, by omega⟩ (fun c38 => ?_) (fun c38 => ?_)
        · refine gg_aload_n k dX6_over_48 rfl ?_
          refine gg_get k (mb0 hB) inX6_over_X6 9 (by decide) fX6_over_101 rfl rfl dX6_over_49 ?_
          refine gg_ti hR.mov ?_
          have bd49 := hO.ovr 1
          refine gg_istore_n k [(3, .int (iI (sOvr S 1))), (0, .ref (gad B (0))), (1, .int (iI (p))), (2, .int (iI (v)))] dX6_over_52 (by decide) rfl ?_
          refine gg_aload_n k dX6_over_53 rfl ?_
          refine gg_iload_n k dX6_over_54 rfl ?_
          refine gg_if_ne k 62 dX6_over_55 (by decide) ⟨by omega, by omega⟩ (fun c55 => ?_) (fun c55 => ?_)
          · refine gg_aload_n k dX6_over_62 rfl ?_
            refine gg_get k (mb0 hB) inX6_over_X6 8 (by decide) fX6_over_98 rfl rfl dX6_over_63 ?_
            refine gg_put (e := 8) k (mb0 hB) inX6_over_X6 tyX6 tyX6_ok nmX6 8 (by decide) fX6_over_98 rfl rfl rfl (Nat.le_of_ble_eq_true rfl) rfl dX6_over_66 ?_
            refine gg_nm (fun C66 e66 => ?_)
            refine gg_aload_n k dX6_over_69 rfl ?_
            refine gg_iload_n k dX6_over_70 rfl ?_
            refine gg_iconst k dX6_over_71 ?_
            refine gg_icmp_ne k 79 dX6_over_72 (by decide) ⟨by omega, by omega⟩ ⟨by omega, by omega⟩ (fun c72 => ?_) (fun c72 => ?_)
            · exfalso; omega
            · refine gg_iload_n k dX6_over_75 rfl ?_
              refine gg_goto (tgt := 83) k dX6_over_76 (by decide) ?_
              refine gg_put (e := 9) k (mb0 hB) inX6_over_X6 tyX6 tyX6_ok nmX6 9 (by decide) fX6_over_101 rfl rfl rfl (Nat.le_of_ble_eq_true rfl) rfl dX6_over_83 ?_
              refine gg_nm (fun C83 e83 => ?_)
              refine gg_iload_n k dX6_over_86 rfl ?_
              exact hret _ _ _ _ dX6_over_87 (⟨by omega, by omega⟩) (by
                have hp9 : p = 1 := by omega
                have e9 : C83 = wr C2 0 9 v := by rw [e83, show C66 = C2 by rw [e66]; exact wr_id]
                rw [gUpd_0 (rOvr_0 (by omega)), gAns_0 (rOvr_0 (by omega)), uUp_0 (by rw [if_neg (by omega)]; omega), aUp_0 (by rw [if_neg (by omega)]; omega), hp9, e9]
                exact ⟨hR.upO1, rfl⟩)
          · exfalso; omega
        · exfalso; omega
      · refine gg_bipush k dX6_over_34 (by decide +kernel) ?_
        exact hret _ _ _ _ dX6_over_36 (⟨by omega, by omega⟩) (⟨by rw [gUpd_0 (rOvr_0 (by omega)), uUp_2 (by rw [if_neg (by omega)]; omega)]; exact hR, by rw [gAns_0 (rOvr_0 (by omega)), aUp_2 (by rw [if_neg (by omega)]; omega)]⟩)
    · refine gg_bipush k dX6_over_20 (by decide +kernel) ?_
      refine gg_goto (tgt := 28) k dX6_over_22 (by decide) ?_
      refine gg_callsi (n := 3) (As := [.int (iI (v)), .int (iI (0)), .int (iI (100))]) (rest := []) k (kX6_in (v) (0) (100) ⟨by omega, by omega⟩ ⟨by omega, by omega⟩ ⟨by omega, by omega⟩) ⟨_, _, _, gX6_over_X6_in, rfl, rfl, rfl, by decide +kernel, by decide, by decide⟩ rfl rfl (Nat.le_of_ble_eq_true rfl) dX6_over_28 (fun z28 C28 r28 q28 => ?_)
      obtain ⟨q28, e28⟩ := q28
      rw [e28]
      clear e28
      obtain ⟨r28, s28⟩ := r28
      refine gg_if_ne k 37 dX6_over_31 (by decide) ⟨by omega, by omega⟩ (fun c31 => ?_) (fun c31 => ?_)
      · refine gg_iload_n k dX6_over_37 rfl ?_
        refine gg_if_ne k 48 dX6_over_38 (by decide) ⟨by omega, by omega⟩ (fun c38 => ?_) (fun c38 => ?_)
        · exfalso; omega
        · refine gg_aload_n k dX6_over_41 rfl ?_
          refine gg_get k (mb0 hB) inX6_over_X6 8 (by decide) fX6_over_98 rfl rfl dX6_over_42 ?_
          refine gg_ti hR.ovp ?_
          have bd42 := hO.ovr0
          refine gg_goto (tgt := 52) k dX6_over_45 (by decide) ?_
          refine gg_istore_n k [(3, .int (iI (sOvr S 0))), (0, .ref (gad B (0))), (1, .int (iI (p))), (2, .int (iI (v)))] dX6_over_52 (by decide) rfl ?_
          refine gg_aload_n k dX6_over_53 rfl ?_
          refine gg_iload_n k dX6_over_54 rfl ?_
          refine gg_if_ne k 62 dX6_over_55 (by decide) ⟨by omega, by omega⟩ (fun c55 => ?_) (fun c55 => ?_)
          · exfalso; omega
          · refine gg_iload_n k dX6_over_58 rfl ?_
            refine gg_goto (tgt := 66) k dX6_over_59 (by decide) ?_
            refine gg_put (e := 8) k (mb0 hB) inX6_over_X6 tyX6 tyX6_ok nmX6 8 (by decide) fX6_over_98 rfl rfl rfl (Nat.le_of_ble_eq_true rfl) rfl dX6_over_66 ?_
            refine gg_nm (fun C66 e66 => ?_)
            refine gg_aload_n k dX6_over_69 rfl ?_
            refine gg_iload_n k dX6_over_70 rfl ?_
            refine gg_iconst k dX6_over_71 ?_
            refine gg_icmp_ne k 79 dX6_over_72 (by decide) ⟨by omega, by omega⟩ ⟨by omega, by omega⟩ (fun c72 => ?_) (fun c72 => ?_)
            · refine gg_aload_n k dX6_over_79 rfl ?_
              refine gg_get k (mb0 hB) inX6_over_X6 9 (by decide) fX6_over_101 rfl rfl dX6_over_80 ?_
              refine gg_put (e := 9) k (mb0 hB) inX6_over_X6 tyX6 tyX6_ok nmX6 9 (by decide) fX6_over_101 rfl rfl rfl (Nat.le_of_ble_eq_true rfl) rfl dX6_over_83 ?_
              refine gg_nm (fun C83 e83 => ?_)
              refine gg_iload_n k dX6_over_86 rfl ?_
              exact hret _ _ _ _ dX6_over_87 (⟨by omega, by omega⟩) (by
                have hp9 : p = 0 := by omega
                have e9 : C83 = wr C2 0 8 v := by rw [e83]; exact (wr_id).trans e66
                rw [gUpd_0 (rOvr_0 (by omega)), gAns_0 (rOvr_0 (by omega)), uUp_0 (by rw [if_pos (by omega)]; omega), aUp_0 (by rw [if_pos (by omega)]; omega), hp9, e9]
                exact ⟨hR.upO0, rfl⟩)
            · exfalso; omega
      · refine gg_bipush k dX6_over_34 (by decide +kernel) ?_
        exact hret _ _ _ _ dX6_over_36 (⟨by omega, by omega⟩) (⟨by rw [gUpd_0 (rOvr_0 (by omega)), uUp_2 (by rw [if_pos (by omega)]; omega)]; exact hR, by rw [gAns_0 (rOvr_0 (by omega)), aUp_2 (by rw [if_pos (by omega)]; omega)]⟩)

abbrev rX6_grossOf : Room := { frames := 0, cells := 0, slots := 0, locals := 0 }
set_option maxRecDepth 100000 in
set_option maxHeartbeats 4000000 in
theorem kX6_grossOf {l : Launch} {B : gB} {T : Int} {S : sS} {C : gSt} (hB : mdlB B T) (hO : sOk S T) (hR : mRel S T C) {i : Int} (hi0 : 0 ≤ i) (hi1 : i < sCnt S) (p : Int) (hp0 : 1 ≤ p) (hp1 : p ≤ T) : gMi l B yX6_grossOf wsX6_grossOf rX6_grossOf [.ref (gad B (0)), .int (iI (i)), .int (iI (p))] C (fun z C' => z = sGross S i p ∧ C' = C) := by
  refine gMi_of (ty := .int) rfl (cc := cX6_grossOf) (nL := 5) (by decide) rfl (Nat.le_of_ble_eq_true rfl) (fun K k hret => ?_)
  have k : gOk K B l rX6_grossOf 5 cX6_grossOf RX6 wsX6_grossOf := k
  show GG K B C 0 [(0, .ref (gad B (0))), (1, .int (iI (i))), (2, .int (iI (p)))] []
  have hT := hO.t
  have hc := hO.cnt
  have hgb := sGrossN_b hO i p (sCnt S).toNat
  refine gg_aload_n k dX6_grossOf_0 rfl ?_
  refine gg_get k (mb0 hB) inX6_grossOf_X6 4 (by decide) fX6_grossOf_13 rfl rfl dX6_grossOf_1 ?_
  refine gg_bipush k dX6_grossOf_4 (by decide +kernel) ?_
  refine gg_iload_n k dX6_grossOf_6 rfl ?_
  refine gg_imul k dX6_grossOf_7 ?_
  refine gg_iload_n k dX6_grossOf_8 rfl ?_
  refine gg_iadd k dX6_grossOf_9 ?_
  refine gg_iald k (mb2 hB) (by omega) (by omega) dX6_grossOf_10 ?_
  refine gg_ti (hR.nee (i := i) (p := p) (by omega) (by omega) (by omega) (by omega) (by omega)) ?_
  have bd10 := hO.nee (i) (p)
  refine gg_istore_n k [(3, .int (iI (sNee S (i) (p)))), (0, .ref (gad B (0))), (1, .int (iI (i))), (2, .int (iI (p)))] dX6_grossOf_11 (by decide) rfl ?_
  refine gg_iconst k dX6_grossOf_12 ?_
  refine gg_istore k [(4, .int (iI (0))), (3, .int (iI (sNee S (i) (p)))), (0, .ref (gad B (0))), (1, .int (iI (i))), (2, .int (iI (p)))] dX6_grossOf_13 (by decide) rfl ?_
  have L15 : ∀ (n15 : Nat) (j : Int) (sm : Int), 0 ≤ j → j ≤ sCnt S → sm = sGrossN S i p j.toNat → sCnt S - j < (n15 : Int) → GG K B C 15 [(0, .ref (gad B (0))), (1, .int (iI (i))), (2, .int (iI (p))), (3, .int (iI (sm))), (4, .int (iI (j)))] [] := by
    intro n15
    induction n15 with
    | zero =>
      intro j sm hj0 hj1 hs hn15
      exact absurd hn15 (by omega)
    | succ n15 ih15 =>
      intro j sm hj0 hj1 hs hn15
      refine gg_iload k dX6_grossOf_15 rfl ?_
      refine gg_aload_n k dX6_grossOf_17 rfl ?_
      refine gg_get k (mb0 hB) inX6_grossOf_X6 2 (by decide) fX6_grossOf_76 rfl rfl dX6_grossOf_18 ?_
      refine gg_ti hR.cnt ?_
      refine gg_icmp_ge k 58 dX6_grossOf_21 (by decide) ⟨by omega, by omega⟩ ⟨by omega, by omega⟩ (fun c21 => ?_) (fun c21 => ?_)
      · refine gg_iload_n k dX6_grossOf_58 rfl ?_
        exact hret _ _ _ _ dX6_grossOf_59 (by rw [hs, show j = sCnt S by omega]; exact ⟨by omega, by omega⟩) (⟨by unfold sGross; rw [hs, show j = sCnt S by omega], rfl⟩)
      · refine gg_iload_n k dX6_grossOf_24 rfl ?_
        refine gg_aload_n k dX6_grossOf_25 rfl ?_
        refine gg_get k (mb0 hB) inX6_grossOf_X6 6 (by decide) fX6_grossOf_19 rfl rfl dX6_grossOf_26 ?_
        refine gg_bipush k dX6_grossOf_29 (by decide +kernel) ?_
        refine gg_iload_n k dX6_grossOf_31 rfl ?_
        refine gg_imul k dX6_grossOf_32 ?_
        refine gg_iload k dX6_grossOf_33 rfl ?_
        refine gg_iadd k dX6_grossOf_35 ?_
        refine gg_iald k (mb4 hB) (by omega) (by omega) dX6_grossOf_36 ?_
        refine gg_ti (hR.tim (i := i) (j := j) (by omega) (by omega) (by omega) (by omega) (by omega)) ?_
        have bd36 := hO.tim (i) (j)
        refine gg_aload_n k dX6_grossOf_37 rfl ?_
        refine gg_get k (mb0 hB) inX6_grossOf_X6 5 (by decide) fX6_grossOf_16 rfl rfl dX6_grossOf_38 ?_
        refine gg_bipush k dX6_grossOf_41 (by decide +kernel) ?_
        refine gg_iload k dX6_grossOf_43 rfl ?_
        refine gg_imul k dX6_grossOf_45 ?_
        refine gg_iload_n k dX6_grossOf_46 rfl ?_
        refine gg_iadd k dX6_grossOf_47 ?_
        refine gg_iald k (mb3 hB) (by omega) (by omega) dX6_grossOf_48 ?_
        refine gg_ti (hR.lot (i := j) (p := p) (by omega) (by omega) (by omega) (by omega) (by omega)) ?_
        have bd48 := hO.lot (j) (p)
        refine gg_imul k dX6_grossOf_49 ?_
        refine gg_iadd k dX6_grossOf_50 ?_
        refine gg_istore_n k [(3, .int (iI (sm + ((sTim S (i) (j)) * (sLot S (j) (p)))))), (0, .ref (gad B (0))), (1, .int (iI (i))), (2, .int (iI (p))), (4, .int (iI (j)))] dX6_grossOf_51 (by decide) rfl ?_
        refine gg_iinc k 4 [(4, .int (iI (j + 1))), (3, .int (iI (sm + ((sTim S (i) (j)) * (sLot S (j) (p)))))), (0, .ref (gad B (0))), (1, .int (iI (i))), (2, .int (iI (p)))] dX6_grossOf_52 rfl (by decide) rfl ?_
        refine gg_goto (tgt := 15) k dX6_grossOf_55 (by decide) ?_
        refine gg_sub [2, 3, 4, 1, 0] rfl ?_
        exact ih15 (j + 1) (sm + ((sTim S (i) (j)) * (sLot S (j) (p)))) (by omega) (by omega) (by rw [sGrossN_s hj0, hs]) (by omega)
  refine gg_sub [2, 3, 4, 1, 0] rfl ?_
  exact L15 ((sCnt S - 0).toNat + 1) (0) (sNee S (i) (p)) (by omega) (by omega) (rfl) (by omega)

abbrev rX6_gross : Room := { frames := 2, cells := 0, slots := 0, locals := 43 }
set_option maxRecDepth 100000 in
set_option maxHeartbeats 4000000 in
theorem kX6_gross {l : Launch} {B : gB} {T : Int} {S : sS} {C : gSt} (hB : mdlB B T) (hO : sOk S T) (hR : mRel S T C) (i p : Int) (hi : rI i) (hp : rI p) : gMi l B yX6_gross wsX6_gross rX6_gross [.ref (gad B (0)), .int (iI (i)), .int (iI (p))] C (fun z C' => mRel S T C' ∧ z = if (0 ≤ i ∧ i < sCnt S) ∧ 1 ≤ p ∧ p ≤ T then sGross S i p else -1) := by
  refine gMi_of (ty := .int) rfl (cc := cX6_gross) (nL := 3) (by decide) rfl (Nat.le_of_ble_eq_true rfl) (fun K k hret => ?_)
  have k : gOk K B l rX6_gross 3 cX6_gross RX6 wsX6_gross := k
  show GG K B C 0 [(0, .ref (gad B (0))), (1, .int (iI (i))), (2, .int (iI (p)))] []
  have hT := hO.t
  have hc := hO.cnt
  obtain ⟨hi1, hi2⟩ := hi
  obtain ⟨hp1, hp2⟩ := hp
  refine gg_aload_n k dX6_gross_0 rfl ?_
  refine gg_iconst k dX6_gross_1 ?_
  refine gg_put (e := 0) k (mb0 hB) inX6_gross_X6 tyX6 tyX6_ok nmX6 0 (by decide) fX6_gross_73 rfl rfl rfl (Nat.le_of_ble_eq_true rfl) rfl dX6_gross_2 ?_
  refine gg_nm (fun C2 e2 => ?_)
  have hR : mRel S T C2 := by rw [e2]; exact hR.wri (Or.inr ⟨rfl, by omega, by omega, by omega⟩)
  refine gg_aload_n k dX6_gross_5 rfl ?_
  refine gg_iload_n k dX6_gross_6 rfl ?_
  refine gg_calli (n := 1) (As := [.int (iI (i))]) (rest := []) k (kX6_isItem hB hO hR (i) ⟨by omega, by omega⟩) ⟨_, _, _, gX6_gross_X6_isItem, rfl, rfl, rfl, by decide +kernel, by decide, by decide⟩ (mb0 hB) rfl rfl (Nat.le_of_ble_eq_true rfl) dX6_gross_7 (fun z7 C7 r7 q7 => ?_)
  obtain ⟨q7, e7⟩ := q7
  rw [e7]
  clear e7
  obtain ⟨r7, s7⟩ := r7
  refine gg_if_eq k 30 dX6_gross_10 (by decide) ⟨by omega, by omega⟩ (fun c10 => ?_) (fun c10 => ?_)
  · refine gg_iconst k dX6_gross_30 ?_
    exact hret _ _ _ _ dX6_gross_31 (⟨by omega, by omega⟩) (⟨hR, by rw [if_neg (by omega)]⟩)
  · refine gg_aload_n k dX6_gross_13 rfl ?_
    refine gg_iload_n k dX6_gross_14 rfl ?_
    refine gg_calli (n := 1) (As := [.int (iI (p))]) (rest := []) k (kX6_isPeriod hB hO hR (p) ⟨by omega, by omega⟩) ⟨_, _, _, gX6_gross_X6_isPeriod, rfl, rfl, rfl, by decide +kernel, by decide, by decide⟩ (mb0 hB) rfl rfl (Nat.le_of_ble_eq_true rfl) dX6_gross_15 (fun z15 C15 r15 q15 => ?_)
    obtain ⟨q15, e15⟩ := q15
    rw [e15]
    clear e15
    obtain ⟨r15, s15⟩ := r15
    refine gg_if_eq k 30 dX6_gross_18 (by decide) ⟨by omega, by omega⟩ (fun c18 => ?_) (fun c18 => ?_)
    · refine gg_iconst k dX6_gross_30 ?_
      exact hret _ _ _ _ dX6_gross_31 (⟨by omega, by omega⟩) (⟨hR, by rw [if_neg (by omega)]⟩)
    · refine gg_aload_n k dX6_gross_21 rfl ?_
      refine gg_iload_n k dX6_gross_22 rfl ?_
      refine gg_iload_n k dX6_gross_23 rfl ?_
      refine gg_calli (n := 2) (As := [.int (iI (i)), .int (iI (p))]) (rest := []) k (kX6_grossOf hB hO hR (i := i) (by omega) (by omega) p (by omega) (by omega)) ⟨_, _, _, gX6_gross_X6_grossOf, rfl, rfl, rfl, by decide +kernel, by decide, by decide⟩ (mb0 hB) rfl rfl (Nat.le_of_ble_eq_true rfl) dX6_gross_24 (fun z24 C24 r24 q24 => ?_)
      obtain ⟨q24, e24⟩ := q24
      rw [e24]
      clear e24
      obtain ⟨r24, s24⟩ := r24
      refine gg_goto (tgt := 31) k dX6_gross_27 (by decide) ?_
      exact hret _ _ _ _ dX6_gross_31 (⟨by omega, by omega⟩) (⟨hR, by rw [if_pos (by omega)]; exact q24⟩)
