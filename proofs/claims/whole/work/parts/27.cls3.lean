abbrev rX2_coming : Room := { frames := 0, cells := 0, slots := 0, locals := 0 }
set_option maxRecDepth 100000 in
set_option maxHeartbeats 4000000 in
theorem kX2_coming {l : Launch} {B : gB} {T : Int} {S : sS} {C : gSt} (hB : clsB B T) (hO : sOk S T) (hR : cRel S T C) {i : Int} (hi0 : 0 ≤ i) (hi6 : i < 6) (p : Int) (hp0 : 1 ≤ p) (hp1 : p ≤ T) : gMi l B yX2_coming wsX2_coming rX2_coming [.ref (gad B (2 + 9 * (i).toNat)), .int (iI (p))] C (fun z C' => z = sCome S i p ∧ C' = C) := by
  refine gMi_of (ty := .int) rfl (cc := cX2_coming) (nL := 3) (by decide) rfl (Nat.le_of_ble_eq_true rfl) (fun K k hret => ?_)
  have k : gOk K B l rX2_coming 3 cX2_coming RX2 wsX2_coming := k
  show GG K B C 0 [(0, .ref (gad B (2 + 9 * (i).toNat))), (1, .int (iI (p)))] []
  have hT := hO.t
  have hc := hO.cnt
  have h7 := hO.n7 i
  refine gg_iload_n k dX2_coming_0 rfl ?_
  refine gg_aload_n k dX2_coming_1 rfl ?_
  refine gg_get k (cbItem hB (by omega) (by omega)) inX2_coming_X2 0 (by decide) fX2_coming_9 rfl rfl dX2_coming_2 ?_
  refine gg_bipush k dX2_coming_5 (by decide +kernel) ?_
  refine gg_iald k (cbNum hB (by omega) (by omega)) (by omega) (by omega) dX2_coming_7 ?_
  refine gg_ti (hR.num _ (by omega) (by omega)) ?_
  have b7 := hO.n7 (i)
  refine gg_isub k dX2_coming_8 ?_
  refine gg_istore_n k [(2, .int (iI (p - (sNum S (i) (7))))), (0, .ref (gad B (2 + 9 * (i).toNat))), (1, .int (iI (p)))] dX2_coming_9 (by decide) rfl ?_
  refine gg_iload_n k dX2_coming_10 rfl ?_
  refine gg_iconst k dX2_coming_11 ?_
  refine gg_icmp_lt k 24 dX2_coming_12 (by decide) ⟨by omega, by omega⟩ ⟨by omega, by omega⟩ (fun c12 => ?_) (fun c12 => ?_)
  · refine gg_iconst k dX2_coming_24 ?_
    exact hret _ _ _ _ dX2_coming_25 (⟨by omega, by omega⟩) (⟨by unfold sCome; rw [if_neg (by omega)], rfl⟩)
  · refine gg_aload_n k dX2_coming_15 rfl ?_
    refine gg_get k (cbItem hB (by omega) (by omega)) inX2_coming_X2 2 (by decide) fX2_coming_18 rfl rfl dX2_coming_16 ?_
    refine gg_iload_n k dX2_coming_19 rfl ?_
    refine gg_iald k (cbLot hB (by omega) (by omega)) (by omega) (by omega) dX2_coming_20 ?_
    refine gg_ti (hR.lot _ (by omega) (by omega)) ?_
    have b20 := hO.lot (i) (p - (sNum S (i) (7)))
    refine gg_goto (tgt := 25) k dX2_coming_21 (by decide) ?_
    exact hret _ _ _ _ dX2_coming_25 (⟨by omega, by omega⟩) (⟨by unfold sCome; rw [if_pos (by omega)], rfl⟩)

abbrev rX5_grossOf : Room := { frames := 0, cells := 0, slots := 0, locals := 0 }
set_option maxRecDepth 100000 in
set_option maxHeartbeats 4000000 in
theorem kX5_grossOf {l : Launch} {B : gB} {T : Int} {S : sS} {C : gSt} (hB : clsB B T) (hO : sOk S T) (hR : cRel S T C) {i : Int} (hi0 : 0 ≤ i) (hi1 : i < sCnt S) (p : Int) (hp0 : 1 ≤ p) (hp1 : p ≤ T) : gMi l B yX5_grossOf wsX5_grossOf rX5_grossOf [.ref (gad B (0)), .int (iI (i)), .int (iI (p))] C (fun z C' => z = sGross S i p ∧ C' = C) := by
  refine gMi_of (ty := .int) rfl (cc := cX5_grossOf) (nL := 5) (by decide) rfl (Nat.le_of_ble_eq_true rfl) (fun K k hret => ?_)
  have k : gOk K B l rX5_grossOf 5 cX5_grossOf RX5 wsX5_grossOf := k
  show GG K B C 0 [(0, .ref (gad B (0))), (1, .int (iI (i))), (2, .int (iI (p)))] []
  have hT := hO.t
  have hc := hO.cnt
  have hgb := sGrossN_b hO i p (sCnt S).toNat
  refine gg_aload_n k dX5_grossOf_0 rfl ?_
  refine gg_get k (cb0 hB) inX5_grossOf_X5 1 (by decide) fX5_grossOf_26 rfl rfl dX5_grossOf_1 ?_
  refine gg_iload_n k dX5_grossOf_4 rfl ?_
  refine gg_aald k (cb1 hB) (by omega) (by omega) dX5_grossOf_5 ?_
  refine gg_get k (cbItem hB (by omega) (by omega)) inX5_grossOf_X2 1 (by decide) fX5_grossOf_84 rfl rfl dX5_grossOf_6 ?_
  refine gg_iload_n k dX5_grossOf_9 rfl ?_
  refine gg_iald k (cbNee hB (by omega) (by omega)) (by omega) (by omega) dX5_grossOf_10 ?_
  refine gg_ti (hR.nee _ (by omega) (by omega)) ?_
  have b10 := hO.nee (i) (p)
  refine gg_istore_n k [(3, .int (iI (sNee S (i) (p)))), (0, .ref (gad B (0))), (1, .int (iI (i))), (2, .int (iI (p)))] dX5_grossOf_11 (by decide) rfl ?_
  refine gg_iconst k dX5_grossOf_12 ?_
  refine gg_istore k [(4, .int (iI (0))), (3, .int (iI (sNee S (i) (p)))), (0, .ref (gad B (0))), (1, .int (iI (i))), (2, .int (iI (p)))] dX5_grossOf_13 (by decide) rfl ?_
  have L15 : ∀ (n15 : Nat) (j : Int) (sm : Int), 0 ≤ j → j ≤ sCnt S → sm = sGrossN S i p j.toNat → sCnt S - j < (n15 : Int) → GG K B C 15 [(0, .ref (gad B (0))), (1, .int (iI (i))), (2, .int (iI (p))), (3, .int (iI (sm))), (4, .int (iI (j)))] [] := by
    intro n15
    induction n15 with
    | zero =>
      intro j sm hj0 hj1 hs hn15
      exact absurd hn15 (by omega)
    | succ n15 ih15 =>
      intro j sm hj0 hj1 hs hn15
      refine gg_iload k dX5_grossOf_15 rfl ?_
      refine gg_aload_n k dX5_grossOf_17 rfl ?_
      refine gg_get k (cb0 hB) inX5_grossOf_X5 2 (by decide) fX5_grossOf_33 rfl rfl dX5_grossOf_18 ?_
      refine gg_ti hR.cnt ?_
      refine gg_icmp_ge k 58 dX5_grossOf_21 (by decide) ⟨by omega, by omega⟩ ⟨by omega, by omega⟩ (fun c21 => ?_) (fun c21 => ?_)
      · refine gg_iload_n k dX5_grossOf_58 rfl ?_
        exact hret _ _ _ _ dX5_grossOf_59 (by rw [hs, show j = sCnt S by omega]; exact ⟨by omega, by omega⟩) (⟨by unfold sGross; rw [hs, show j = sCnt S by omega], rfl⟩)
      · refine gg_iload_n k dX5_grossOf_24 rfl ?_
        refine gg_aload_n k dX5_grossOf_25 rfl ?_
        refine gg_get k (cb0 hB) inX5_grossOf_X5 1 (by decide) fX5_grossOf_26 rfl rfl dX5_grossOf_26 ?_
        refine gg_iload_n k dX5_grossOf_29 rfl ?_
        refine gg_aald k (cb1 hB) (by omega) (by omega) dX5_grossOf_30 ?_
        refine gg_get k (cbItem hB (by omega) (by omega)) inX5_grossOf_X2 3 (by decide) fX5_grossOf_91 rfl rfl dX5_grossOf_31 ?_
        refine gg_iload k dX5_grossOf_34 rfl ?_
        refine gg_iald k (cbTim hB (by omega) (by omega)) (by omega) (by omega) dX5_grossOf_36 ?_
        refine gg_ti (hR.tim _ (by omega) (by omega)) ?_
        have b36 := hO.tim (i) (j)
        refine gg_aload_n k dX5_grossOf_37 rfl ?_
        refine gg_get k (cb0 hB) inX5_grossOf_X5 1 (by decide) fX5_grossOf_26 rfl rfl dX5_grossOf_38 ?_
        refine gg_iload k dX5_grossOf_41 rfl ?_
        refine gg_aald k (cb1 hB) (by omega) (by omega) dX5_grossOf_43 ?_
        refine gg_get k (cbItem hB (by omega) (by omega)) inX5_grossOf_X2 2 (by decide) fX5_grossOf_94 rfl rfl dX5_grossOf_44 ?_
        refine gg_iload_n k dX5_grossOf_47 rfl ?_
        refine gg_iald k (cbLot hB (by omega) (by omega)) (by omega) (by omega) dX5_grossOf_48 ?_
        refine gg_ti (hR.lot _ (by omega) (by omega)) ?_
        have b48 := hO.lot (j) (p)
        refine gg_imul k dX5_grossOf_49 ?_
        refine gg_iadd k dX5_grossOf_50 ?_
        refine gg_istore_n k [(3, .int (iI (sm + ((sTim S (i) (j)) * (sLot S (j) (p)))))), (0, .ref (gad B (0))), (1, .int (iI (i))), (2, .int (iI (p))), (4, .int (iI (j)))] dX5_grossOf_51 (by decide) rfl ?_
        refine gg_iinc k 4 [(4, .int (iI (j + 1))), (3, .int (iI (sm + ((sTim S (i) (j)) * (sLot S (j) (p)))))), (0, .ref (gad B (0))), (1, .int (iI (i))), (2, .int (iI (p)))] dX5_grossOf_52 rfl (by decide) rfl ?_
        refine gg_goto (tgt := 15) k dX5_grossOf_55 (by decide) ?_
        refine gg_sub [2, 3, 4, 1, 0] rfl ?_
        exact ih15 (j + 1) (sm + ((sTim S (i) (j)) * (sLot S (j) (p)))) (by omega) (by omega) (by rw [sGrossN_s hj0, hs]) (by omega)
  refine gg_sub [2, 3, 4, 1, 0] rfl ?_
  exact L15 ((sCnt S - 0).toNat + 1) (0) (sNee S (i) (p)) (by omega) (by omega) (rfl) (by omega)

abbrev rX5_runItem : Room := { frames := 3, cells := 0, slots := 0, locals := 73 }
set_option maxRecDepth 100000 in
set_option maxHeartbeats 4000000 in
theorem kX5_runItem {l : Launch} {B : gB} {T : Int} {S : sS} {C : gSt} (hB : clsB B T) (hO : sOk S T) (hR : cRel S T C) {i : Int} (hi0 : 0 ≤ i) (hi1 : i < sCnt S) : gMv l B yX5_runItem wsX5_runItem rX5_runItem [.ref (gad B (0)), .int (iI (i))] C (fun C' => cRel S T C' ∧ cRun S i C' T ∧ ∀ q : Nat, q ≠ 10 + 9 * i.toNat → q ≠ 9 + 9 * i.toNat → q ≠ 8 + 9 * i.toNat → C' q = C q) := by
  refine gMv_of (cc := cX5_runItem) (nL := 4) (by decide) rfl (Nat.le_of_ble_eq_true rfl) (fun K k hret => ?_)
  have k : gOk K B l rX5_runItem 4 cX5_runItem RX5 wsX5_runItem := k
  show GG K B C 0 [(0, .ref (gad B (0))), (1, .int (iI (i)))] []
  have hT := hO.t
  have hc := hO.cnt
  
  refine gg_aload_n k dX5_runItem_0 rfl ?_
  refine gg_get k (cb0 hB) inX5_runItem_X5 1 (by decide) fX5_runItem_26 rfl rfl dX5_runItem_1 ?_
  refine gg_iload_n k dX5_runItem_4 rfl ?_
  refine gg_aald k (cb1 hB) (by omega) (by omega) dX5_runItem_5 ?_
  refine gg_astore_n k [(2, .ref (gad B (2 + 9 * (i).toNat))), (0, .ref (gad B (0))), (1, .int (iI (i)))] dX5_runItem_6 (by decide) rfl ?_
  refine gg_aload_n k dX5_runItem_7 rfl ?_
  refine gg_get k (cbItem hB (by omega) (by omega)) inX5_runItem_X2 4 (by decide) fX5_runItem_108 rfl rfl dX5_runItem_8 ?_
  refine gg_aload_n k dX5_runItem_11 rfl ?_
  refine gg_get k (cbItem hB (by omega) (by omega)) inX5_runItem_X2 0 (by decide) fX5_runItem_71 rfl rfl dX5_runItem_12 ?_
  refine gg_iconst k dX5_runItem_15 ?_
  refine gg_iald k (cbNum hB (by omega) (by omega)) (by omega) (by omega) dX5_runItem_16 ?_
  refine gg_ti (hR.num _ (by omega) (by omega)) ?_
  have b16 := hO.n4 (i)
  refine gg_callv (n := 1) (As := [.int (iI (sNum S (i) (4)))]) (rest := []) k (kX4_begin hB hO.t hi0 (by omega) (sNum S i 4)) ⟨_, _, _, gX5_runItem_X4_begin, rfl, rfl, rfl, by decide +kernel, by decide, by decide⟩ (cbStore hB (by omega) (by omega)) rfl rfl (Nat.le_of_ble_eq_true rfl) dX5_runItem_17 (fun C17 q17 => ?_)
  have hR0 : cRel S T C17 := by rw [q17]; exact (hR.wri (Or.inl (by unfold scr; omega))).wri (Or.inl (by unfold scr; omega))
  have hk0 : ∀ q : Nat, q ≠ 10 + 9 * i.toNat → q ≠ 9 + 9 * i.toNat → q ≠ 8 + 9 * i.toNat → C17 q = C q := fun q h1 h2 h3 => by rw [q17, wr_k h1, wr_k h3]
  have hr0 : cRun S i C17 0 := ⟨fun j h0 h1 => by rw [show j = 0 by omega, q17, wr_k (by omega), wr_s]; exact sStk_0.symm, fun j h0 h1 => by omega⟩
  have hl0 : ∀ j : Int, 0 ≤ j → j ≤ 0 → C17 (10 + 9 * i.toNat) j = (sRun S i 0).1 j := fun j h0 h1 => by rw [show j = 0 by omega, q17, wr_s]; rfl
  refine gg_iconst k dX5_runItem_20 ?_
  refine gg_istore_n k [(3, .int (iI (1))), (2, .ref (gad B (2 + 9 * (i).toNat))), (0, .ref (gad B (0))), (1, .int (iI (i)))] dX5_runItem_21 (by decide) rfl ?_
  have L22 : ∀ (n22 : Nat) (p : Int) (C1 : gSt), 1 ≤ p → p ≤ T + 1 → cRel S T C1 → cRun S i C1 (p - 1) → (∀ j : Int, 0 ≤ j → j ≤ p - 1 → C1 (10 + 9 * i.toNat) j = (sRun S i (p - 1).toNat).1 j) → (∀ q : Nat, q ≠ 10 + 9 * i.toNat → q ≠ 9 + 9 * i.toNat → q ≠ 8 + 9 * i.toNat → C1 q = C q) → T + 1 - p < (n22 : Int) → GG K B C1 22 [(0, .ref (gad B (0))), (1, .int (iI (i))), (2, .ref (gad B (2 + 9 * (i).toNat))), (3, .int (iI (p)))] [] := by
    intro n22
    induction n22 with
    | zero =>
      intro p C1 hp0 hp1 hR hr1 hl1 hk1 hn22
      exact absurd hn22 (by omega)
    | succ n22 ih22 =>
      intro p C1 hp0 hp1 hR hr1 hl1 hk1 hn22
      refine gg_iload_n k dX5_runItem_22 rfl ?_
      refine gg_aload_n k dX5_runItem_23 rfl ?_
      refine gg_get k (cb0 hB) inX5_runItem_X5 0 (by decide) fX5_runItem_20 rfl rfl dX5_runItem_24 ?_
      refine gg_icmp_gt k 61 dX5_runItem_27 (by decide) ⟨by omega, by omega⟩ ⟨by omega, by omega⟩ (fun c27 => ?_) (fun c27 => ?_)
      · exact hret _ _ _ dX5_runItem_61 (⟨hR, by rw [show T = p - 1 by omega]; exact hr1, hk1⟩)
      · refine gg_aload_n k dX5_runItem_30 rfl ?_
        refine gg_get k (cbItem hB (by omega) (by omega)) inX5_runItem_X2 4 (by decide) fX5_runItem_108 rfl rfl dX5_runItem_31 ?_
        refine gg_iload_n k dX5_runItem_34 rfl ?_
        refine gg_aload_n k dX5_runItem_35 rfl ?_
        refine gg_iload_n k dX5_runItem_36 rfl ?_
        refine gg_calli (n := 1) (As := [.int (iI (p))]) (rest := [.int (iI (p)), .ref (gad B (7 + 9 * (i).toNat))]) k (kX2_coming hB hO hR hi0 (by omega) p (by omega) (by omega)) ⟨_, _, _, gX5_runItem_X2_coming, rfl, rfl, rfl, by decide +kernel, by decide, by decide⟩ (cbItem hB (by omega) (by omega)) rfl rfl (Nat.le_of_ble_eq_true rfl) dX5_runItem_37 (fun z37 C37 r37 q37 => ?_)
        obtain ⟨q37, e37⟩ := q37
        rw [e37]
        clear e37
        refine gg_aload_n k dX5_runItem_40 rfl ?_
        refine gg_iload_n k dX5_runItem_41 rfl ?_
        refine gg_iload_n k dX5_runItem_42 rfl ?_
        refine gg_calli (n := 2) (As := [.int (iI (i)), .int (iI (p))]) (rest := [.int (iI (z37)), .int (iI (p)), .ref (gad B (7 + 9 * (i).toNat))]) k (kX5_grossOf hB hO hR hi0 hi1 p (by omega) (by omega)) ⟨_, _, _, gX5_runItem_X5_grossOf, rfl, rfl, rfl, by decide +kernel, by decide, by decide⟩ (cb0 hB) rfl rfl (Nat.le_of_ble_eq_true rfl) dX5_runItem_43 (fun z43 C43 r43 q43 => ?_)
        obtain ⟨q43, e43⟩ := q43
        rw [e43]
        clear e43
        refine gg_aload_n k dX5_runItem_46 rfl ?_
        refine gg_get k (cbItem hB (by omega) (by omega)) inX5_runItem_X2 0 (by decide) fX5_runItem_71 rfl rfl dX5_runItem_47 ?_
        refine gg_iconst k dX5_runItem_50 ?_
        refine gg_iald k (cbNum hB (by omega) (by omega)) (by omega) (by omega) dX5_runItem_51 ?_
        refine gg_ti (hR.num _ (by omega) (by omega)) ?_
        have b51 := hO.n3 (i)
        refine gg_callv (n := 4) (As := [.int (iI (p)), .int (iI (z37)), .int (iI (z43)), .int (iI (sNum S (i) (3)))]) (rest := []) k (kX4_pass hB hO.t hi0 (by omega) p z37 z43 (sNum S i 3) (by omega) (by omega) (by rw [q37]; exact sCome_b hO i p) (by rw [q43]; exact sGross_b hO i p) (hO.n3 i) (by rw [hr1.1 (p - 1) (by omega) (by omega)]; exact sStk_b hO i _ (by omega)) (fun x h0 h1 => by rw [hl1 x h0 h1]; exact (sRun_b hO i _).1 x h0)) ⟨_, _, _, gX5_runItem_X4_pass, rfl, rfl, rfl, by decide +kernel, by decide, by decide⟩ (cbStore hB (by omega) (by omega)) rfl rfl (Nat.le_of_ble_eq_true rfl) dX5_runItem_52 (fun C52 q52 => ?_)
        obtain ⟨w1, w2, w3, w4⟩ := q52
        rw [q37, q43] at w1 w2 w3
        have hst := run_step hO (i := i) (p := p) (by omega) hl1 (show max 0 (-(C1 (8 + 9 * i.toNat) (p - 1))) = _ by rw [hr1.1 (p - 1) (by omega) (by omega)]; exact sOwed hO i _)
        have hR2 : cRel S T C52 := hR.of (fun q h1 _ _ => w4 q (fun w => h1 (by unfold scr; omega)) (fun w => h1 (by unfold scr; omega)) (fun w => h1 (by unfold scr; omega))) (by rw [w4 60 (by omega) (by omega) (by omega)]) (by rw [w4 65 (by omega) (by omega) (by omega)])
        have hr2 : cRun S i C52 p := by
          refine ⟨fun j h0 h1 => ?_, fun j h0 h1 => ?_⟩
          · rw [w3]
            by_cases hj : j = p
            · rw [hj, upI_s, hst.1, hr1.1 (p - 1) (by omega) (by omega)]
              have hs := sStk_s hO i (p - 1).toNat
              rw [show (((p - 1).toNat : Nat) : Int) + 1 = p by omega, show (p - 1).toNat + 1 = p.toNat by omega] at hs
              omega
            · rw [upI_n hj]; exact hr1.1 j h0 (by omega)
          · rw [w2]
            by_cases hj : j = p
            · rw [hj, upI_s, hst.1]
            · rw [upI_n hj]; exact hr1.2 j h0 (by omega)
        have hl2 : ∀ j : Int, 0 ≤ j → j ≤ p → C52 (10 + 9 * i.toNat) j = (sRun S i p.toNat).1 j := fun j h0 h1 => by rw [w1]; exact hst.2 j h0 h1
        have hk2 : ∀ q : Nat, q ≠ 10 + 9 * i.toNat → q ≠ 9 + 9 * i.toNat → q ≠ 8 + 9 * i.toNat → C52 q = C q := fun q h1 h2 h3 => by rw [w4 q h1 h2 h3]; exact hk1 q h1 h2 h3
        refine gg_iinc k 3 [(3, .int (iI (p + 1))), (0, .ref (gad B (0))), (1, .int (iI (i))), (2, .ref (gad B (2 + 9 * (i).toNat)))] dX5_runItem_55 rfl (by decide) rfl ?_
        refine gg_goto (tgt := 22) k dX5_runItem_58 (by decide) ?_
        refine gg_sub [1, 2, 3, 0] rfl ?_
        exact ih22 (p + 1) (C52) (by omega) (by omega) (hR2) (by rw [show p + 1 - 1 = p by omega]; exact hr2) (by rw [show p + 1 - 1 = p by omega]; exact hl2) (hk2) (by omega)
  refine gg_sub [2, 3, 1, 0] rfl ?_
  exact L22 ((T + 1 - 1).toNat + 1) (1) (C17) (by omega) (by omega) (hR0) (hr0) (hl0) (hk0) (by omega)

abbrev rX5_stock : Room := { frames := 4, cells := 0, slots := 0, locals := 96 }
set_option maxRecDepth 100000 in
set_option maxHeartbeats 4000000 in
theorem kX5_stock {l : Launch} {B : gB} {T : Int} {S : sS} {C : gSt} (hB : clsB B T) (hO : sOk S T) (hR : cRel S T C) (i p : Int) (hi : rI i) (hp : rI p) : gMl l B yX5_stock wsX5_stock rX5_stock [.ref (gad B (0)), .int (iI (i)), .int (iI (p))] C (fun z C' => cRel S T C' ∧ z = if (0 ≤ i ∧ i < sCnt S) ∧ 0 ≤ p ∧ p ≤ T then sStk S i p.toNat else -9223372036854775808) := by
  refine gMl_of (cc := cX5_stock) (nL := 3) (by decide) rfl (Nat.le_of_ble_eq_true rfl) (fun K k hret => ?_)
  have k : gOk K B l rX5_stock 3 cX5_stock RX5 wsX5_stock := k
  show GG K B C 0 [(0, .ref (gad B (0))), (1, .int (iI (i))), (2, .int (iI (p)))] []
  have hT := hO.t
  have hc := hO.cnt
  obtain ⟨hi1, hi2⟩ := hi
  obtain ⟨hp1, hp2⟩ := hp
  refine gg_aload_n k dX5_stock_0 rfl ?_
  refine gg_iload_n k dX5_stock_1 rfl ?_
  refine gg_calli (n := 1) (As := [.int (iI (i))]) (rest := []) k (kX5_isItem hB hO hR (i) ⟨by omega, by omega⟩) ⟨_, _, _, gX5_stock_X5_isItem, rfl, rfl, rfl, by decide +kernel, by decide, by decide⟩ (cb0 hB) rfl rfl (Nat.le_of_ble_eq_true rfl) dX5_stock_2 (fun z2 C2 r2 q2 => ?_)
  obtain ⟨q2, e2⟩ := q2
  rw [e2]
  clear e2
  obtain ⟨r2, s2⟩ := r2
  refine gg_if_eq k 16 dX5_stock_5 (by decide) ⟨by omega, by omega⟩ (fun c5 => ?_) (fun c5 => ?_)
  · refine gg_ldc2 (z := -9223372036854775808) k dX5_stock_16 (by decide +kernel) ?_
    exact hret _ _ _ _ dX5_stock_19 (⟨by omega, by omega⟩) (⟨hR, by rw [if_neg (by omega)]⟩)
  · refine gg_aload_n k dX5_stock_8 rfl ?_
    refine gg_iload_n k dX5_stock_9 rfl ?_
    refine gg_calli (n := 1) (As := [.int (iI (p))]) (rest := []) k (kX5_isPeriodOrBeginning hB hO hR (p) ⟨by omega, by omega⟩) ⟨_, _, _, gX5_stock_X5_isPeriodOrBeginning, rfl, rfl, rfl, by decide +kernel, by decide, by decide⟩ (cb0 hB) rfl rfl (Nat.le_of_ble_eq_true rfl) dX5_stock_10 (fun z10 C10 r10 q10 => ?_)
    obtain ⟨q10, e10⟩ := q10
    rw [e10]
    clear e10
    obtain ⟨r10, s10⟩ := r10
    refine gg_if_ne k 20 dX5_stock_13 (by decide) ⟨by omega, by omega⟩ (fun c13 => ?_) (fun c13 => ?_)
    · refine gg_aload_n k dX5_stock_20 rfl ?_
      refine gg_iload_n k dX5_stock_21 rfl ?_
      refine gg_callv (n := 1) (As := [.int (iI (i))]) (rest := []) k (kX5_runItem hB hO hR (i := i) (by omega) (by omega)) ⟨_, _, _, gX5_stock_X5_runItem, rfl, rfl, rfl, by decide +kernel, by decide, by decide⟩ (cb0 hB) rfl rfl (Nat.le_of_ble_eq_true rfl) dX5_stock_22 (fun C22 q22 => ?_)
      obtain ⟨hR, hr22, hk22⟩ := q22
      refine gg_aload_n k dX5_stock_25 rfl ?_
      refine gg_get k (cb0 hB) inX5_stock_X5 1 (by decide) fX5_stock_26 rfl rfl dX5_stock_26 ?_
      refine gg_iload_n k dX5_stock_29 rfl ?_
      refine gg_aald k (cb1 hB) (by omega) (by omega) dX5_stock_30 ?_
      refine gg_get k (cbItem hB (by omega) (by omega)) inX5_stock_X2 4 (by decide) fX5_stock_108 rfl rfl dX5_stock_31 ?_
      refine gg_get k (cbStore hB (by omega) (by omega)) inX5_stock_X4 0 (by decide) fX5_stock_112 rfl rfl dX5_stock_34 ?_
      refine gg_iload_n k dX5_stock_37 rfl ?_
      refine gg_iald k (cbStocks hB (by omega) (by omega)) (by omega) (by omega) dX5_stock_38 ?_
      refine gg_ti (hr22.1 p (by omega) (by omega)) ?_
      have hb9 := sStk_b hO i p.toNat (by omega)
      refine gg_i2l k dX5_stock_39 ⟨by omega, by omega⟩ ?_
      exact hret _ _ _ _ dX5_stock_40 (⟨by omega, by omega⟩) (⟨hR, by rw [if_pos (by omega)]⟩)
    · refine gg_ldc2 (z := -9223372036854775808) k dX5_stock_16 (by decide +kernel) ?_
      exact hret _ _ _ _ dX5_stock_19 (⟨by omega, by omega⟩) (⟨hR, by rw [if_neg (by omega)]⟩)

abbrev rX5_spoilt : Room := { frames := 4, cells := 0, slots := 0, locals := 96 }
set_option maxRecDepth 100000 in
set_option maxHeartbeats 4000000 in
theorem kX5_spoilt {l : Launch} {B : gB} {T : Int} {S : sS} {C : gSt} (hB : clsB B T) (hO : sOk S T) (hR : cRel S T C) (i p : Int) (hi : rI i) (hp : rI p) : gMi l B yX5_spoilt wsX5_spoilt rX5_spoilt [.ref (gad B (0)), .int (iI (i)), .int (iI (p))] C (fun z C' => cRel S T C' ∧ z = if (0 ≤ i ∧ i < sCnt S) ∧ 1 ≤ p ∧ p ≤ T then sGone S i (p - 1).toNat else -1) := by
  refine gMi_of (ty := .int) rfl (cc := cX5_spoilt) (nL := 3) (by decide) rfl (Nat.le_of_ble_eq_true rfl) (fun K k hret => ?_)
  have k : gOk K B l rX5_spoilt 3 cX5_spoilt RX5 wsX5_spoilt := k
  show GG K B C 0 [(0, .ref (gad B (0))), (1, .int (iI (i))), (2, .int (iI (p)))] []
  have hT := hO.t
  have hc := hO.cnt
  obtain ⟨hi1, hi2⟩ := hi
  obtain ⟨hp1, hp2⟩ := hp
  refine gg_aload_n k dX5_spoilt_0 rfl ?_
  refine gg_iload_n k dX5_spoilt_1 rfl ?_
  refine gg_calli (n := 1) (As := [.int (iI (i))]) (rest := []) k (kX5_isItem hB hO hR (i) ⟨by omega, by omega⟩) ⟨_, _, _, gX5_spoilt_X5_isItem, rfl, rfl, rfl, by decide +kernel, by decide, by decide⟩ (cb0 hB) rfl rfl (Nat.le_of_ble_eq_true rfl) dX5_spoilt_2 (fun z2 C2 r2 q2 => ?_)
  obtain ⟨q2, e2⟩ := q2
  rw [e2]
  clear e2
  obtain ⟨r2, s2⟩ := r2
  refine gg_if_eq k 16 dX5_spoilt_5 (by decide) ⟨by omega, by omega⟩ (fun c5 => ?_) (fun c5 => ?_)
  · refine gg_iconst k dX5_spoilt_16 ?_
    exact hret _ _ _ _ dX5_spoilt_17 (⟨by omega, by omega⟩) (⟨hR, by rw [if_neg (by omega)]⟩)
  · refine gg_aload_n k dX5_spoilt_8 rfl ?_
    refine gg_iload_n k dX5_spoilt_9 rfl ?_
    refine gg_calli (n := 1) (As := [.int (iI (p))]) (rest := []) k (kX5_isPeriod hB hO hR (p) ⟨by omega, by omega⟩) ⟨_, _, _, gX5_spoilt_X5_isPeriod, rfl, rfl, rfl, by decide +kernel, by decide, by decide⟩ (cb0 hB) rfl rfl (Nat.le_of_ble_eq_true rfl) dX5_spoilt_10 (fun z10 C10 r10 q10 => ?_)
    obtain ⟨q10, e10⟩ := q10
    rw [e10]
    clear e10
    obtain ⟨r10, s10⟩ := r10
    refine gg_if_ne k 18 dX5_spoilt_13 (by decide) ⟨by omega, by omega⟩ (fun c13 => ?_) (fun c13 => ?_)
    · refine gg_aload_n k dX5_spoilt_18 rfl ?_
      refine gg_iload_n k dX5_spoilt_19 rfl ?_
      refine gg_callv (n := 1) (As := [.int (iI (i))]) (rest := []) k (kX5_runItem hB hO hR (i := i) (by omega) (by omega)) ⟨_, _, _, gX5_spoilt_X5_runItem, rfl, rfl, rfl, by decide +kernel, by decide, by decide⟩ (cb0 hB) rfl rfl (Nat.le_of_ble_eq_true rfl) dX5_spoilt_20 (fun C20 q20 => ?_)
      obtain ⟨hR, hr20, hk20⟩ := q20
      refine gg_aload_n k dX5_spoilt_23 rfl ?_
      refine gg_get k (cb0 hB) inX5_spoilt_X5 1 (by decide) fX5_spoilt_26 rfl rfl dX5_spoilt_24 ?_
      refine gg_iload_n k dX5_spoilt_27 rfl ?_
      refine gg_aald k (cb1 hB) (by omega) (by omega) dX5_spoilt_28 ?_
      refine gg_get k (cbItem hB (by omega) (by omega)) inX5_spoilt_X2 4 (by decide) fX5_spoilt_108 rfl rfl dX5_spoilt_29 ?_
      refine gg_get k (cbStore hB (by omega) (by omega)) inX5_spoilt_X4 1 (by decide) fX5_spoilt_117 rfl rfl dX5_spoilt_32 ?_
      refine gg_iload_n k dX5_spoilt_35 rfl ?_
      refine gg_iald k (cbLosses hB (by omega) (by omega)) (by omega) (by omega) dX5_spoilt_36 ?_
      refine gg_ti (hr20.2 p (by omega) (by omega)) ?_
      have hb9 := sGone_b hO i (p - 1).toNat
      exact hret _ _ _ _ dX5_spoilt_37 (⟨by omega, by omega⟩) (⟨hR, by rw [if_pos (by omega)]⟩)
    · refine gg_iconst k dX5_spoilt_16 ?_
      exact hret _ _ _ _ dX5_spoilt_17 (⟨by omega, by omega⟩) (⟨hR, by rw [if_neg (by omega)]⟩)

abbrev rX5_gross : Room := { frames := 1, cells := 0, slots := 0, locals := 24 }
set_option maxRecDepth 100000 in
set_option maxHeartbeats 4000000 in
theorem kX5_gross {l : Launch} {B : gB} {T : Int} {S : sS} {C : gSt} (hB : clsB B T) (hO : sOk S T) (hR : cRel S T C) (i p : Int) (hi : rI i) (hp : rI p) : gMi l B yX5_gross wsX5_gross rX5_gross [.ref (gad B (0)), .int (iI (i)), .int (iI (p))] C (fun z C' => cRel S T C' ∧ z = if (0 ≤ i ∧ i < sCnt S) ∧ 1 ≤ p ∧ p ≤ T then sGross S i p else -1) := by
  refine gMi_of (ty := .int) rfl (cc := cX5_gross) (nL := 3) (by decide) rfl (Nat.le_of_ble_eq_true rfl) (fun K k hret => ?_)
  have k : gOk K B l rX5_gross 3 cX5_gross RX5 wsX5_gross := k
  show GG K B C 0 [(0, .ref (gad B (0))), (1, .int (iI (i))), (2, .int (iI (p)))] []
  have hT := hO.t
  have hc := hO.cnt
  obtain ⟨hi1, hi2⟩ := hi
  obtain ⟨hp1, hp2⟩ := hp
  refine gg_aload_n k dX5_gross_0 rfl ?_
  refine gg_iload_n k dX5_gross_1 rfl ?_
  refine gg_calli (n := 1) (As := [.int (iI (i))]) (rest := []) k (kX5_isItem hB hO hR (i) ⟨by omega, by omega⟩) ⟨_, _, _, gX5_gross_X5_isItem, rfl, rfl, rfl, by decide +kernel, by decide, by decide⟩ (cb0 hB) rfl rfl (Nat.le_of_ble_eq_true rfl) dX5_gross_2 (fun z2 C2 r2 q2 => ?_)
  obtain ⟨q2, e2⟩ := q2
  rw [e2]
  clear e2
  obtain ⟨r2, s2⟩ := r2
  refine gg_if_eq k 16 dX5_gross_5 (by decide) ⟨by omega, by omega⟩ (fun c5 => ?_) (fun c5 => ?_)
  · refine gg_iconst k dX5_gross_16 ?_
    exact hret _ _ _ _ dX5_gross_17 (⟨by omega, by omega⟩) (⟨hR, by rw [if_neg (by omega)]⟩)
  · refine gg_aload_n k dX5_gross_8 rfl ?_
    refine gg_iload_n k dX5_gross_9 rfl ?_
    refine gg_calli (n := 1) (As := [.int (iI (p))]) (rest := []) k (kX5_isPeriod hB hO hR (p) ⟨by omega, by omega⟩) ⟨_, _, _, gX5_gross_X5_isPeriod, rfl, rfl, rfl, by decide +kernel, by decide, by decide⟩ (cb0 hB) rfl rfl (Nat.le_of_ble_eq_true rfl) dX5_gross_10 (fun z10 C10 r10 q10 => ?_)
    obtain ⟨q10, e10⟩ := q10
    rw [e10]
    clear e10
    obtain ⟨r10, s10⟩ := r10
    refine gg_if_ne k 18 dX5_gross_13 (by decide) ⟨by omega, by omega⟩ (fun c13 => ?_) (fun c13 => ?_)
    · refine gg_aload_n k dX5_gross_18 rfl ?_
      refine gg_iload_n k dX5_gross_19 rfl ?_
      refine gg_iload_n k dX5_gross_20 rfl ?_
      refine gg_calli (n := 2) (As := [.int (iI (i)), .int (iI (p))]) (rest := []) k (kX5_grossOf hB hO hR (i := i) (by omega) (by omega) p (by omega) (by omega)) ⟨_, _, _, gX5_gross_X5_grossOf, rfl, rfl, rfl, by decide +kernel, by decide, by decide⟩ (cb0 hB) rfl rfl (Nat.le_of_ble_eq_true rfl) dX5_gross_21 (fun z21 C21 r21 q21 => ?_)
      obtain ⟨q21, e21⟩ := q21
      rw [e21]
      clear e21
      obtain ⟨r21, s21⟩ := r21
      exact hret _ _ _ _ dX5_gross_24 (⟨by omega, by omega⟩) (⟨hR, by rw [if_pos (by omega)]; exact q21⟩)
    · refine gg_iconst k dX5_gross_16 ?_
      exact hret _ _ _ _ dX5_gross_17 (⟨by omega, by omega⟩) (⟨hR, by rw [if_neg (by omega)]⟩)

abbrev rX5_need : Room := { frames := 1, cells := 0, slots := 0, locals := 24 }
set_option maxRecDepth 100000 in
set_option maxHeartbeats 4000000 in
theorem kX5_need {l : Launch} {B : gB} {T : Int} {S : sS} {C : gSt} (hB : clsB B T) (hO : sOk S T) (hR : cRel S T C) (i p v : Int) (hi : rI i) (hp : rI p) (hv : rI v) : gMi l B yX5_need wsX5_need rX5_need [.ref (gad B (0)), .int (iI (i)), .int (iI (p)), .int (iI (v))] C (fun z C' => cRel (gUpd (rIP S T i p) S (uUp S 1 i p v 1000)) T C' ∧ z = gAns (rIP S T i p) (aUp S 1 i p v 1000)) := by
  refine gMi_of (ty := .int) rfl (cc := cX5_need) (nL := 4) (by decide) rfl (Nat.le_of_ble_eq_true rfl) (fun K k hret => ?_)
  have k : gOk K B l rX5_need 4 cX5_need RX5 wsX5_need := k
  show GG K B C 0 [(0, .ref (gad B (0))), (1, .int (iI (i))), (2, .int (iI (p))), (3, .int (iI (v)))] []
  have hT := hO.t
  have hc := hO.cnt
  obtain ⟨hi1, hi2⟩ := hi
  obtain ⟨hp1, hp2⟩ := hp
  obtain ⟨hv1, hv2⟩ := hv
  refine gg_aload_n k dX5_need_0 rfl ?_
  refine gg_iload_n k dX5_need_1 rfl ?_
  refine gg_calli (n := 1) (As := [.int (iI (i))]) (rest := []) k (kX5_isItem hB hO hR (i) ⟨by omega, by omega⟩) ⟨_, _, _, gX5_need_X5_isItem, rfl, rfl, rfl, by decide +kernel, by decide, by decide⟩ (cb0 hB) rfl rfl (Nat.le_of_ble_eq_true rfl) dX5_need_2 (fun z2 C2 r2 q2 => ?_)
  obtain ⟨q2, e2⟩ := q2
  rw [e2]
  clear e2
  obtain ⟨r2, s2⟩ := r2
  refine gg_if_eq k 16 dX5_need_5 (by decide) ⟨by omega, by omega⟩ (fun c5 => ?_) (fun c5 => ?_)
  · refine gg_iconst k dX5_need_16 ?_
    exact hret _ _ _ _ dX5_need_17 (⟨by omega, by omega⟩) (⟨by rw [gUpd_n (by rw [rIP_1 (by omega)]; omega)]; exact hR, by rw [gAns_n (by rw [rIP_1 (by omega)]; omega), rIP_1 (by omega)]⟩)
  · refine gg_aload_n k dX5_need_8 rfl ?_
    refine gg_iload_n k dX5_need_9 rfl ?_
    refine gg_calli (n := 1) (As := [.int (iI (p))]) (rest := []) k (kX5_isPeriod hB hO hR (p) ⟨by omega, by omega⟩) ⟨_, _, _, gX5_need_X5_isPeriod, rfl, rfl, rfl, by decide +kernel, by decide, by decide⟩ (cb0 hB) rfl rfl (Nat.le_of_ble_eq_true rfl) dX5_need_10 (fun z10 C10 r10 q10 => ?_)
    obtain ⟨q10, e10⟩ := q10
    rw [e10]
    clear e10
    obtain ⟨r10, s10⟩ := r10
    refine gg_if_ne k 18 dX5_need_13 (by decide) ⟨by omega, by omega⟩ (fun c13 => ?_) (fun c13 => ?_)
    · refine gg_aload_n k dX5_need_18 rfl ?_
      refine gg_get k (cb0 hB) inX5_need_X5 1 (by decide) fX5_need_26 rfl rfl dX5_need_19 ?_
      refine gg_iload_n k dX5_need_22 rfl ?_
      refine gg_aald k (cb1 hB) (by omega) (by omega) dX5_need_23 ?_
      refine gg_get k (cbItem hB (by omega) (by omega)) inX5_need_X2 1 (by decide) fX5_need_84 rfl rfl dX5_need_24 ?_
      refine gg_iload_n k dX5_need_27 rfl ?_
      refine gg_iload_n k dX5_need_28 rfl ?_
      refine gg_sipush k dX5_need_29 (by decide +kernel) ?_
      refine gg_callsi (n := 4) (As := [.ref (gad B (4 + 9 * (i).toNat)), .int (iI (p)), .int (iI (v)), .int (iI (1000))]) (rest := []) k (kX5_replace (4 + 9 * (i).toNat) _ (cbNee hB (by omega) (by omega)) (p) (v) (1000) (by omega) (by omega) ⟨by omega, by omega⟩ ⟨by omega, by omega⟩ (by rw [hR.nee _ (by omega) (by omega)]; have := hO.nee i p; exact ⟨by omega, by omega⟩)) ⟨_, _, _, gX5_need_X5_replace, rfl, rfl, rfl, by decide +kernel, by decide, by decide⟩ rfl rfl (Nat.le_of_ble_eq_true rfl) dX5_need_32 (fun z32 C32 r32 q32 => ?_)
      obtain ⟨r32, s32⟩ := r32
      exact hret _ _ _ _ dX5_need_35 (⟨by omega, by omega⟩) (by
        rw [gUpd_0 (rIP_0 (by omega)), gAns_0 (rIP_0 (by omega))]
        rcases q32 with ⟨w1, w2, w3⟩ | ⟨w1, w2, w3⟩
        · rw [uUp_2 w1, aUp_2 w1, w3]; exact ⟨hR, w2⟩
        · rw [uUp_0 w1, aUp_0 w1, w3, w2]; exact ⟨hR.up (n := 1) (by omega) (by omega) (by omega), hR.nee _ (by omega) (by omega)⟩)
    · refine gg_iconst k dX5_need_16 ?_
      exact hret _ _ _ _ dX5_need_17 (⟨by omega, by omega⟩) (⟨by rw [gUpd_n (by rw [rIP_1 (by omega)]; omega)]; exact hR, by rw [gAns_n (by rw [rIP_1 (by omega)]; omega), rIP_1 (by omega)]⟩)

abbrev rX5_make : Room := { frames := 1, cells := 0, slots := 0, locals := 24 }
set_option maxRecDepth 100000 in
set_option maxHeartbeats 4000000 in
theorem kX5_make {l : Launch} {B : gB} {T : Int} {S : sS} {C : gSt} (hB : clsB B T) (hO : sOk S T) (hR : cRel S T C) (i p v : Int) (hi : rI i) (hp : rI p) (hv : rI v) : gMi l B yX5_make wsX5_make rX5_make [.ref (gad B (0)), .int (iI (i)), .int (iI (p)), .int (iI (v))] C (fun z C' => cRel (gUpd (rIP S T i p) S (uUp S 2 i p v 5000)) T C' ∧ z = gAns (rIP S T i p) (aUp S 2 i p v 5000)) := by
  refine gMi_of (ty := .int) rfl (cc := cX5_make) (nL := 4) (by decide) rfl (Nat.le_of_ble_eq_true rfl) (fun K k hret => ?_)
  have k : gOk K B l rX5_make 4 cX5_make RX5 wsX5_make := k
  show GG K B C 0 [(0, .ref (gad B (0))), (1, .int (iI (i))), (2, .int (iI (p))), (3, .int (iI (v)))] []
  have hT := hO.t
  have hc := hO.cnt
  obtain ⟨hi1, hi2⟩ := hi
  obtain ⟨hp1, hp2⟩ := hp
  obtain ⟨hv1, hv2⟩ := hv
  refine gg_aload_n k dX5_make_0 rfl ?_
  refine gg_iload_n k dX5_make_1 rfl ?_
  refine gg_calli (n := 1) (As := [.int (iI (i))]) (rest := []) k (kX5_isItem hB hO hR (i) ⟨by omega, by omega⟩) ⟨_, _, _, gX5_make_X5_isItem, rfl, rfl, rfl, by decide +kernel, by decide, by decide⟩ (cb0 hB) rfl rfl (Nat.le_of_ble_eq_true rfl) dX5_make_2 (fun z2 C2 r2 q2 => ?_)
  obtain ⟨q2, e2⟩ := q2
  rw [e2]
  clear e2
  obtain ⟨r2, s2⟩ := r2
  refine gg_if_eq k 16 dX5_make_5 (by decide) ⟨by omega, by omega⟩ (fun c5 => ?_) (fun c5 => ?_)
  · refine gg_iconst k dX5_make_16 ?_
    exact hret _ _ _ _ dX5_make_17 (⟨by omega, by omega⟩) (⟨by rw [gUpd_n (by rw [rIP_1 (by omega)]; omega)]; exact hR, by rw [gAns_n (by rw [rIP_1 (by omega)]; omega), rIP_1 (by omega)]⟩)
  · refine gg_aload_n k dX5_make_8 rfl ?_
    refine gg_iload_n k dX5_make_9 rfl ?_
    refine gg_calli (n := 1) (As := [.int (iI (p))]) (rest := []) k (kX5_isPeriod hB hO hR (p) ⟨by omega, by omega⟩) ⟨_, _, _, gX5_make_X5_isPeriod, rfl, rfl, rfl, by decide +kernel, by decide, by decide⟩ (cb0 hB) rfl rfl (Nat.le_of_ble_eq_true rfl) dX5_make_10 (fun z10 C10 r10 q10 => ?_)
    obtain ⟨q10, e10⟩ := q10
    rw [e10]
    clear e10
    obtain ⟨r10, s10⟩ := r10
    refine gg_if_ne k 18 dX5_make_13 (by decide) ⟨by omega, by omega⟩ (fun c13 => ?_) (fun c13 => ?_)
    · refine gg_aload_n k dX5_make_18 rfl ?_
      refine gg_get k (cb0 hB) inX5_make_X5 1 (by decide) fX5_make_26 rfl rfl dX5_make_19 ?_
      refine gg_iload_n k dX5_make_22 rfl ?_
      refine gg_aald k (cb1 hB) (by omega) (by omega) dX5_make_23 ?_
      refine gg_get k (cbItem hB (by omega) (by omega)) inX5_make_X2 2 (by decide) fX5_make_94 rfl rfl dX5_make_24 ?_
      refine gg_iload_n k dX5_make_27 rfl ?_
      refine gg_iload_n k dX5_make_28 rfl ?_
      refine gg_sipush k dX5_make_29 (by decide +kernel) ?_
      refine gg_callsi (n := 4) (As := [.ref (gad B (5 + 9 * (i).toNat)), .int (iI (p)), .int (iI (v)), .int (iI (5000))]) (rest := []) k (kX5_replace (5 + 9 * (i).toNat) _ (cbLot hB (by omega) (by omega)) (p) (v) (5000) (by omega) (by omega) ⟨by omega, by omega⟩ ⟨by omega, by omega⟩ (by rw [hR.lot _ (by omega) (by omega)]; have := hO.lot i p; exact ⟨by omega, by omega⟩)) ⟨_, _, _, gX5_make_X5_replace, rfl, rfl, rfl, by decide +kernel, by decide, by decide⟩ rfl rfl (Nat.le_of_ble_eq_true rfl) dX5_make_32 (fun z32 C32 r32 q32 => ?_)
      obtain ⟨r32, s32⟩ := r32
      exact hret _ _ _ _ dX5_make_35 (⟨by omega, by omega⟩) (by
        rw [gUpd_0 (rIP_0 (by omega)), gAns_0 (rIP_0 (by omega))]
        rcases q32 with ⟨w1, w2, w3⟩ | ⟨w1, w2, w3⟩
        · rw [uUp_2 w1, aUp_2 w1, w3]; exact ⟨hR, w2⟩
        · rw [uUp_0 w1, aUp_0 w1, w3, w2]; exact ⟨hR.up (n := 2) (by omega) (by omega) (by omega), hR.lot _ (by omega) (by omega)⟩)
    · refine gg_iconst k dX5_make_16 ?_
      exact hret _ _ _ _ dX5_make_17 (⟨by omega, by omega⟩) (⟨by rw [gUpd_n (by rw [rIP_1 (by omega)]; omega)]; exact hR, by rw [gAns_n (by rw [rIP_1 (by omega)]; omega), rIP_1 (by omega)]⟩)
