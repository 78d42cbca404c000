abbrev rX5_set : Room := { frames := 1, cells := 0, slots := 0, locals := 24 }
set_option maxRecDepth 100000 in
set_option maxHeartbeats 4000000 in
theorem kX5_set {l : Launch} {B : gB} {T : Int} {S : sS} {C : gSt} (hB : clsB B T) (hO : sOk S T) (hR : cRel S T C) (t : Nat) (i p v : Int) (hi : rI i) (hp : rI p) (hv : rI v) : gMiX l B yX5_set wsX5_set rX5_set [.ref (gad B (0)), .int (iI (i)), .int (iI (p)), .int (iI (v))] C "MOST_OF_NUMBER" 8 sBnd t (fun z C' => cRel (gUpd (rSet S i p) S (uUp S 0 i p v (sBnd p))) T C' ∧ z = gAns (rSet S i p) (aUp S 0 i p v (sBnd p))) := by
  refine gMiX_of (cc := cX5_set) (nL := 4) (by decide) rfl (Nat.le_of_ble_eq_true rfl) (fun K k ht hret => ?_)
  have k : gOk K B l rX5_set 4 cX5_set RX5 wsX5_set := k
  show GG K B C 0 [(0, .ref (gad B (0))), (1, .int (iI (i))), (2, .int (iI (p))), (3, .int (iI (v)))] []
  have hT := hO.t
  have hc := hO.cnt
  obtain ⟨hi1, hi2⟩ := hi
  obtain ⟨hp1, hp2⟩ := hp
  obtain ⟨hv1, hv2⟩ := hv
  have hbb : 0 ≤ sBnd p ∧ sBnd p ≤ 10000 := by unfold sBnd; split; (· omega); (· split; (· omega); (· split; (· omega); (· split; (· omega); (· split; (· omega); (· split; (· omega); (· split; (· omega); (· split <;> omega)))))))
  refine gg_aload_n k dX5_set_0 rfl ?_
  refine gg_iload_n k dX5_set_1 rfl ?_
  refine gg_calli (n := 1) (As := [.int (iI (i))]) (rest := []) k (kX5_isItem hB hO hR (i) ⟨by omega, by omega⟩) ⟨_, _, _, gX5_set_X5_isItem, rfl, rfl, rfl, by decide +kernel, by decide, by decide⟩ (cb0 hB) rfl rfl (Nat.le_of_ble_eq_true rfl) dX5_set_2 (fun z2 C2 r2 q2 => ?_)
  obtain ⟨q2, e2⟩ := q2
  rw [e2]
  clear e2
  obtain ⟨r2, s2⟩ := r2
  refine gg_if_ne k 10 dX5_set_5 (by decide) ⟨by omega, by omega⟩ (fun c5 => ?_) (fun c5 => ?_)
  · refine gg_iload_n k dX5_set_10 rfl ?_
    refine gg_if_lt k 20 dX5_set_11 (by decide) ⟨by omega, by omega⟩ (fun c11 => ?_) (fun c11 => ?_)
    · refine gg_bipush k dX5_set_20 (by decide +kernel) ?_
      exact hret _ _ _ _ dX5_set_22 (⟨by omega, by omega⟩) (⟨by rw [gUpd_n (by rw [rSet_2 (by omega) (by omega)]; omega)]; exact hR, by rw [gAns_n (by rw [rSet_2 (by omega) (by omega)]; omega), rSet_2 (by omega) (by omega)]⟩)
    · refine gg_iload_n k dX5_set_14 rfl ?_
      refine gg_bipush k dX5_set_15 (by decide +kernel) ?_
      refine gg_icmp_lt k 23 dX5_set_17 (by decide) ⟨by omega, by omega⟩ ⟨by omega, by omega⟩ (fun c17 => ?_) (fun c17 => ?_)
      · refine gg_aload_n k dX5_set_23 rfl ?_
        refine gg_get k (cb0 hB) inX5_set_X5 1 (by decide) fX5_set_26 rfl rfl dX5_set_24 ?_
        refine gg_iload_n k dX5_set_27 rfl ?_
        refine gg_aald k (cb1 hB) (by omega) (by omega) dX5_set_28 ?_
        refine gg_get k (cbItem hB (by omega) (by omega)) inX5_set_X2 0 (by decide) fX5_set_71 rfl rfl dX5_set_29 ?_
        refine gg_iload_n k dX5_set_32 rfl ?_
        refine gg_iload_n k dX5_set_33 rfl ?_
        refine gg_gets k ht sX5_set_74 dX5_set_34 ?_
        refine gg_iload_n k dX5_set_37 rfl ?_
        refine gg_tald k ht (by omega) (by omega) (by omega) dX5_set_38 ?_
        refine gg_callsi (n := 4) (As := [.ref (gad B (3 + 9 * (i).toNat)), .int (iI (p)), .int (iI (v)), .int (iI (sBnd (p)))]) (rest := []) k (kX5_replace (3 + 9 * (i).toNat) _ (cbNum hB (by omega) (by omega)) p v (sBnd p) (by omega) (by omega) ⟨by omega, by omega⟩ ⟨by omega, by omega⟩ (by rw [hR.num _ (by omega) (by omega)]; have := hO.num i p; exact ⟨by omega, by omega⟩)) ⟨_, _, _, gX5_set_X5_replace, rfl, rfl, rfl, by decide +kernel, by decide, by decide⟩ rfl rfl (Nat.le_of_ble_eq_true rfl) dX5_set_39 (fun z39 C39 r39 q39 => ?_)
        obtain ⟨r39, s39⟩ := r39
        exact hret _ _ _ _ dX5_set_42 (⟨by omega, by omega⟩) (by
          rw [gUpd_0 (rSet_0 (by omega) (by omega)), gAns_0 (rSet_0 (by omega) (by omega))]
          rcases q39 with ⟨w1, w2, w3⟩ | ⟨w1, w2, w3⟩
          · rw [uUp_2 w1, aUp_2 w1, w3]; exact ⟨hR, w2⟩
          · rw [uUp_0 w1, aUp_0 w1, w3, w2]; exact ⟨hR.up (n := 0) (by omega) (by omega) (by omega), hR.num _ (by omega) (by omega)⟩)
      · refine gg_bipush k dX5_set_20 (by decide +kernel) ?_
        exact hret _ _ _ _ dX5_set_22 (⟨by omega, by omega⟩) (⟨by rw [gUpd_n (by rw [rSet_2 (by omega) (by omega)]; omega)]; exact hR, by rw [gAns_n (by rw [rSet_2 (by omega) (by omega)]; omega), rSet_2 (by omega) (by omega)]⟩)
  · refine gg_iconst k dX5_set_8 ?_
    exact hret _ _ _ _ dX5_set_9 (⟨by omega, by omega⟩) (⟨by rw [gUpd_n (by rw [rSet_1 (by omega)]; omega)]; exact hR, by rw [gAns_n (by rw [rSet_1 (by omega)]; omega), rSet_1 (by omega)]⟩)

abbrev rX5_over : Room := { frames := 1, cells := 0, slots := 0, locals := 24 }
set_option maxRecDepth 100000 in
set_option maxHeartbeats 4000000 in
theorem kX5_over {l : Launch} {B : gB} {T : Int} {S : sS} {C : gSt} (hB : clsB B T) (hO : sOk S T) (hR : cRel S T C) (t : Nat) (p v : Int) (hp : rI p) (hv : rI v) : gMiX l B yX5_over wsX5_over rX5_over [.ref (gad B (0)), .int (iI (p)), .int (iI (v))] C "MOST_OF_OVER" 2 sBndO t (fun z C' => cRel (gUpd (rOvr p) S (uUp S 5 0 p v (if p = 0 then 100 else 10000))) T C' ∧ z = gAns (rOvr p) (aUp S 5 0 p v (if p = 0 then 100 else 10000))) := by
  refine gMiX_of (cc := cX5_over) (nL := 3) (by decide) rfl (Nat.le_of_ble_eq_true rfl) (fun K k ht hret => ?_)
  have k : gOk K B l rX5_over 3 cX5_over RX5 wsX5_over := k
  show GG K B C 0 [(0, .ref (gad B (0))), (1, .int (iI (p))), (2, .int (iI (v)))] []
  have hT := hO.t
  have hc := hO.cnt
  obtain ⟨hp1, hp2⟩ := hp
  obtain ⟨hv1, hv2⟩ := hv
  have hbo : sBndO p = 100 ∨ sBndO p = 10000 := by unfold sBndO; split; (· exact Or.inl rfl); (· exact Or.inr rfl)
  refine gg_iload_n k dX5_over_0 rfl ?_
  refine gg_if_eq k 12 dX5_over_1 (by decide) ⟨by omega, by omega⟩ (fun c1 => ?_) (fun c1 => ?_)
  · refine gg_aload_n k dX5_over_12 rfl ?_
    refine gg_get k (cb0 hB) inX5_over_X5 4 (by decide) fX5_over_43 rfl rfl dX5_over_13 ?_
    refine gg_iload_n k dX5_over_16 rfl ?_
    refine gg_iload_n k dX5_over_17 rfl ?_
    refine gg_gets k ht sX5_over_40 dX5_over_18 ?_
    refine gg_iload_n k dX5_over_21 rfl ?_
    refine gg_tald k ht (by omega) (by omega) (by omega) dX5_over_22 ?_
    refine gg_callsi (n := 4) (As := [.ref (gad B (57)), .int (iI (p)), .int (iI (v)), .int (iI (sBndO (p)))]) (rest := []) k (kX5_replace 57 _ (cbOvr hB) p v (sBndO p) (by omega) (by omega) ⟨by omega, by omega⟩ ⟨by omega, by omega⟩ (by rw [hR.ovr]; have := hO.ovr p; exact ⟨by omega, by omega⟩)) ⟨_, _, _, gX5_over_X5_replace, rfl, rfl, rfl, by decide +kernel, by decide, by decide⟩ rfl rfl (Nat.le_of_ble_eq_true rfl) dX5_over_23 (fun z23 C23 r23 q23 => ?_)
    obtain ⟨r23, s23⟩ := r23
    unfold sBndO at q23
    exact hret _ _ _ _ dX5_over_26 (⟨by omega, by omega⟩) (by
      rw [gUpd_0 (rOvr_0 (by omega)), gAns_0 (rOvr_0 (by omega))]
      rcases q23 with ⟨w1, w2, w3⟩ | ⟨w1, w2, w3⟩
      · rw [uUp_2 w1, aUp_2 w1, w3]; exact ⟨hR, w2⟩
      · rw [uUp_0 w1, aUp_0 w1, w3, w2]; exact ⟨hR.upOvr, hR.ovr p⟩)
  · refine gg_iload_n k dX5_over_4 rfl ?_
    refine gg_iconst k dX5_over_5 ?_
    refine gg_icmp_eq k 12 dX5_over_6 (by decide) ⟨by omega, by omega⟩ ⟨by omega, by omega⟩ (fun c6 => ?_) (fun c6 => ?_)
    · refine gg_aload_n k dX5_over_12 rfl ?_
      refine gg_get k (cb0 hB) inX5_over_X5 4 (by decide) fX5_over_43 rfl rfl dX5_over_13 ?_
      refine gg_iload_n k dX5_over_16 rfl ?_
      refine gg_iload_n k dX5_over_17 rfl ?_
      refine gg_gets k ht sX5_over_40 dX5_over_18 ?_
      refine gg_iload_n k dX5_over_21 rfl ?_
      refine gg_tald k ht (by omega) (by omega) (by omega) dX5_over_22 ?_
      refine gg_callsi (n := 4) (As := [.ref (gad B (57)), .int (iI (p)), .int (iI (v)), .int (iI (sBndO (p)))]) (rest := []) k (kX5_replace 57 _ (cbOvr hB) p v (sBndO p) (by omega) (by omega) ⟨by omega, by omega⟩ ⟨by omega, by omega⟩ (by rw [hR.ovr]; have := hO.ovr p; exact ⟨by omega, by omega⟩)) ⟨_, _, _, gX5_over_X5_replace, rfl, rfl, rfl, by decide +kernel, by decide, by decide⟩ rfl rfl (Nat.le_of_ble_eq_true rfl) dX5_over_23 (fun z23 C23 r23 q23 => ?_)
      obtain ⟨r23, s23⟩ := r23
      unfold sBndO at q23
      exact hret _ _ _ _ dX5_over_26 (⟨by omega, by omega⟩) (by
        rw [gUpd_0 (rOvr_0 (by omega)), gAns_0 (rOvr_0 (by omega))]
        rcases q23 with ⟨w1, w2, w3⟩ | ⟨w1, w2, w3⟩
        · rw [uUp_2 w1, aUp_2 w1, w3]; exact ⟨hR, w2⟩
        · rw [uUp_0 w1, aUp_0 w1, w3, w2]; exact ⟨hR.upOvr, hR.ovr p⟩)
    · refine gg_bipush k dX5_over_9 (by decide +kernel) ?_
      exact hret _ _ _ _ dX5_over_11 (⟨by omega, by omega⟩) (⟨by rw [gUpd_n (by rw [rOvr_2 (by omega)]; omega)]; exact hR, by rw [gAns_n (by rw [rOvr_2 (by omega)]; omega), rOvr_2 (by omega)]⟩)
