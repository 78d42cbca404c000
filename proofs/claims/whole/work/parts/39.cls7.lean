abbrev rX5_capacity : Room := { frames := 1, cells := 0, slots := 0, locals := 24 }
set_option maxRecDepth 100000 in
set_option maxHeartbeats 4000000 in
theorem kX5_capacity {l : Launch} {B : gB} {T : Int} {S : sS} {C : gSt} (hB : clsB B T) (hO : sOk S T) (hR : cRel S T C) (p v : Int) (hp : rI p) (hv : rI v) : gMi l B yX5_capacity wsX5_capacity rX5_capacity [.ref (gad B (0)), .int (iI (p)), .int (iI (v))] C (fun z C' => cRel (gUpd (rCap T p) S (uUp S 4 0 p v 10000)) T C' ∧ z = gAns (rCap T p) (aUp S 4 0 p v 10000)) := by
  refine gMi_of (ty := .int) rfl (cc := cX5_capacity) (nL := 3) (by decide) rfl (Nat.le_of_ble_eq_true rfl) (fun K k hret => ?_)
  have k : gOk K B l rX5_capacity 3 cX5_capacity RX5 wsX5_capacity := k
  show GG K B C 0 [(0, .ref (gad B (0))), (1, .int (iI (p))), (2, .int (iI (v)))] []
  have hT := hO.t
  have hc := hO.cnt
  obtain ⟨hp1, hp2⟩ := hp
  obtain ⟨hv1, hv2⟩ := hv
  refine gg_aload_n k dX5_capacity_0 rfl ?_
  refine gg_iload_n k dX5_capacity_1 rfl ?_
  refine gg_calli (n := 1) (As := [.int (iI (p))]) (rest := []) k (kX5_isPeriod hB hO hR (p) ⟨by omega, by omega⟩) ⟨_, _, _, gX5_capacity_X5_isPeriod, rfl, rfl, rfl, by decide +kernel, by decide, by decide⟩ (cb0 hB) rfl rfl (Nat.le_of_ble_eq_true rfl) dX5_capacity_2 (fun z2 C2 r2 q2 => ?_)
  obtain ⟨q2, e2⟩ := q2
  rw [e2]
  clear e2
  obtain ⟨r2, s2⟩ := r2
  refine gg_if_ne k 10 dX5_capacity_5 (by decide) ⟨by omega, by omega⟩ (fun c5 => ?_) (fun c5 => ?_)
  · refine gg_aload_n k dX5_capacity_10 rfl ?_
    refine gg_get k (cb0 hB) inX5_capacity_X5 3 (by decide) fX5_capacity_36 rfl rfl dX5_capacity_11 ?_
    refine gg_iload_n k dX5_capacity_14 rfl ?_
    refine gg_iload_n k dX5_capacity_15 rfl ?_
    refine gg_sipush k dX5_capacity_16 (by decide +kernel) ?_
    refine gg_callsi (n := 4) (As := [.ref (gad B (56)), .int (iI (p)), .int (iI (v)), .int (iI (10000))]) (rest := []) k (kX5_replace 56 _ (cbCap hB) p v 10000 (by omega) (by omega) ⟨by omega, by omega⟩ ⟨by omega, by omega⟩ (by rw [hR.cap (by omega) (by omega)]; have := hO.cap p; exact ⟨by omega, by omega⟩)) ⟨_, _, _, gX5_capacity_X5_replace, rfl, rfl, rfl, by decide +kernel, by decide, by decide⟩ rfl rfl (Nat.le_of_ble_eq_true rfl) dX5_capacity_19 (fun z19 C19 r19 q19 => ?_)
    obtain ⟨r19, s19⟩ := r19
    exact hret _ _ _ _ dX5_capacity_22 (⟨by omega, by omega⟩) (by
      rw [gUpd_0 (rCap_0 (by omega)), gAns_0 (rCap_0 (by omega))]
      rcases q19 with ⟨w1, w2, w3⟩ | ⟨w1, w2, w3⟩
      · rw [uUp_2 w1, aUp_2 w1, w3]; exact ⟨hR, w2⟩
      · rw [uUp_0 w1, aUp_0 w1, w3, w2]; exact ⟨hR.upCap, hR.cap (by omega) (by omega)⟩)
  · refine gg_iconst k dX5_capacity_8 ?_
    exact hret _ _ _ _ dX5_capacity_9 (⟨by omega, by omega⟩) (⟨by rw [gUpd_n (by rw [rCap_1 (by omega)]; omega)]; exact hR, by rw [gAns_n (by rw [rCap_1 (by omega)]; omega), rCap_1 (by omega)]⟩)

abbrev rX2_wholes : Room := { frames := 0, cells := 0, slots := 0, locals := 0 }
set_option maxRecDepth 100000 in
set_option maxHeartbeats 4000000 in
theorem kX2_wholes {l : Launch} {B : gB} {T : Int} {S : sS} {C : gSt} (hB : clsB B T) (hO : sOk S T) (hR : cRel S T C) {i : Int} (hi0 : 0 ≤ i) (hi6 : i < 6) : gMi l B yX2_wholes wsX2_wholes rX2_wholes [.ref (gad B (2 + 9 * (i).toNat))] C (fun z C' => ((0 ≤ z ∧ z < 64) ∧ ∀ y : Int, 0 ≤ y → y < 6 → sb z y = decide (0 < sTim S i y)) ∧ C' = C) := by
  refine gMi_of (ty := .int) rfl (cc := cX2_wholes) (nL := 3) (by decide) rfl (Nat.le_of_ble_eq_true rfl) (fun K k hret => ?_)
  have k : gOk K B l rX2_wholes 3 cX2_wholes RX2 wsX2_wholes := k
  show GG K B C 0 [(0, .ref (gad B (2 + 9 * (i).toNat)))] []
  have hT := hO.t
  have hc := hO.cnt
  
  refine gg_iconst k dX2_wholes_0 ?_
  refine gg_istore_n k [(1, .int (iI (0))), (0, .ref (gad B (2 + 9 * (i).toNat)))] dX2_wholes_1 (by decide) rfl ?_
  refine gg_iconst k dX2_wholes_2 ?_
  refine gg_istore_n k [(2, .int (iI (0))), (1, .int (iI (0))), (0, .ref (gad B (2 + 9 * (i).toNat)))] dX2_wholes_3 (by decide) rfl ?_
  have L4 : ∀ (n4 : Nat) (j : Int) (m : Int), 0 ≤ j → j ≤ 6 → 0 ≤ m ∧ m < 64 → (∀ y : Int, 0 ≤ y → y < 6 → sb m y = (decide (y < j) && decide (0 < sTim S i y))) → 6 - j < (n4 : Int) → GG K B C 4 [(0, .ref (gad B (2 + 9 * (i).toNat))), (1, .int (iI (m))), (2, .int (iI (j)))] [] := by
    intro n4
    induction n4 with
    | zero =>
      intro j m hj0 hj1 hm hb hn4
      exact absurd hn4 (by omega)
    | succ n4 ih4 =>
      intro j m hj0 hj1 hm hb hn4
      refine gg_iload_n k dX2_wholes_4 rfl ?_
      refine gg_bipush k dX2_wholes_5 (by decide +kernel) ?_
      refine gg_icmp_ge k 31 dX2_wholes_7 (by decide) ⟨by omega, by omega⟩ ⟨by omega, by omega⟩ (fun c7 => ?_) (fun c7 => ?_)
      · refine gg_iload_n k dX2_wholes_31 rfl ?_
        exact hret _ _ _ _ dX2_wholes_32 (⟨by omega, by omega⟩) (⟨⟨hm, fun y h0 h1 => by rw [hb y h0 h1, decide_eq_true (show y < j by omega)]; rfl⟩, rfl⟩)
      · refine gg_aload_n k dX2_wholes_10 rfl ?_
        refine gg_get k (cbItem hB (by omega) (by omega)) inX2_wholes_X2 3 (by decide) fX2_wholes_21 rfl rfl dX2_wholes_11 ?_
        refine gg_iload_n k dX2_wholes_14 rfl ?_
        refine gg_iald k (cbTim hB (by omega) (by omega)) (by omega) (by omega) dX2_wholes_15 ?_
        refine gg_ti (hR.tim _ (by omega) (by omega)) ?_
        have bd15 := hO.tim (i) (j)
        refine gg_if_le k 25 dX2_wholes_16 (by decide) ⟨by omega, by omega⟩ (fun c16 => ?_) (fun c16 => ?_)
        · refine gg_iinc k 2 [(2, .int (iI (j + 1))), (0, .ref (gad B (2 + 9 * (i).toNat))), (1, .int (iI (m)))] dX2_wholes_25 rfl (by decide) rfl ?_
          refine gg_goto (tgt := 4) k dX2_wholes_28 (by decide) ?_
          refine gg_sub [1, 2, 0] rfl ?_
          exact ih4 (j + 1) (m) (by omega) (by omega) (hm) (fun y h0 h1 => by rw [hb y h0 h1]; by_cases hy : y = j; (· rw [hy, decide_eq_false (show ¬ 0 < sTim S i j by omega)]; simp); (· rw [show decide (y < j + 1) = decide (y < j) by rw [decide_eq_decide]; omega])) (by omega)
        · refine gg_iload_n k dX2_wholes_19 rfl ?_
          refine gg_iconst k dX2_wholes_20 ?_
          refine gg_iload_n k dX2_wholes_21 rfl ?_
          refine gg_ishl k (by omega) (by omega) dX2_wholes_22 ?_
          have bd22 := b2_b (i := j) (by omega) (by omega)
          refine gg_ior k (by omega) (by omega) dX2_wholes_23 ?_
          have bd23 := bOr_b (a := m) (b := b2 j) (by omega) (by omega)
          refine gg_istore_n k [(1, .int (iI (bOr m (b2 j)))), (0, .ref (gad B (2 + 9 * (i).toNat))), (2, .int (iI (j)))] dX2_wholes_24 (by decide) rfl ?_
          refine gg_iinc k 2 [(2, .int (iI (j + 1))), (1, .int (iI (bOr m (b2 j)))), (0, .ref (gad B (2 + 9 * (i).toNat)))] dX2_wholes_25 rfl (by decide) rfl ?_
          refine gg_goto (tgt := 4) k dX2_wholes_28 (by decide) ?_
          refine gg_sub [2, 1, 0] rfl ?_
          exact ih4 (j + 1) (bOr m (b2 j)) (by omega) (by omega) (bOr_b hm (b2_b (by omega) (by omega))) (fun y h0 h1 => by rw [sb_or, sb_b2 hj0 h0, hb y h0 h1]; by_cases hy : y = j; (· rw [hy, decide_eq_true (show 0 < sTim S i j by omega), decide_eq_true (show j < j + 1 by omega)]; simp); (· rw [decide_eq_false (Ne.symm hy), show decide (y < j + 1) = decide (y < j) by rw [decide_eq_decide]; omega]; simp)) (by omega)
  refine gg_sub [2, 1, 0] rfl ?_
  exact L4 (((6 : Int) - 0).toNat + 1) (0) (0) (by omega) (by omega) (by omega) (fun y h0 h1 => by rw [sb_0, decide_eq_false (by omega)]; rfl) (by omega)

abbrev rX5_goesInto : Room := { frames := 1, cells := 0, slots := 0, locals := 22 }
set_option maxRecDepth 100000 in
set_option maxHeartbeats 4000000 in
theorem kX5_goesInto {l : Launch} {B : gB} {T : Int} {S : sS} {C : gSt} (hB : clsB B T) (hO : sOk S T) (hR : cRel S T C) (x g : Int) (hx0 : 0 ≤ x) (hx1 : x < sCnt S) (hg0 : 0 ≤ g) (hg1 : g < sCnt S) : gMi l B yX5_goesInto wsX5_goesInto rX5_goesInto [.ref (gad B (0)), .int (iI (x)), .int (iI (g))] C (fun z C' => ((z = 1 ∧ sRing S x g = true) ∨ (z = 0 ∧ sRing S x g = false)) ∧ C' = C) := by
  refine gMz_of (cc := cX5_goesInto) (nL := 6) (by decide) rfl (Nat.le_of_ble_eq_true rfl) (fun z C' h => by omega) (fun K k hret => ?_)
  have k : gOk K B l rX5_goesInto 6 cX5_goesInto RX5 wsX5_goesInto := k
  show GG K B C 0 [(0, .ref (gad B (0))), (1, .int (iI (x))), (2, .int (iI (g)))] []
  have hT := hO.t
  have hc := hO.cnt
  
  refine gg_iconst k dX5_goesInto_0 ?_
  refine gg_iload_n k dX5_goesInto_1 rfl ?_
  refine gg_ishl k (by omega) (by omega) dX5_goesInto_2 ?_
  have bd2 := b2_b (i := x) (by omega) (by omega)
  refine gg_istore_n k [(3, .int (iI (b2 x))), (0, .ref (gad B (0))), (1, .int (iI (x))), (2, .int (iI (g)))] dX5_goesInto_3 (by decide) rfl ?_
  refine gg_iconst k dX5_goesInto_4 ?_
  refine gg_istore k [(4, .int (iI (0))), (3, .int (iI (b2 x))), (0, .ref (gad B (0))), (1, .int (iI (x))), (2, .int (iI (g)))] dX5_goesInto_5 (by decide) rfl ?_
  have L7 : ∀ (n7 : Nat) (r : Int) (m : Int), 0 ≤ r → r ≤ sCnt S → 0 ≤ m ∧ m < 64 → (∀ y : Int, 0 ≤ y → y < 6 → sb m y = rcR S x r.toNat y) → sCnt S - r < (n7 : Int) → GG K B C 7 [(0, .ref (gad B (0))), (1, .int (iI (x))), (2, .int (iI (g))), (3, .int (iI (m))), (4, .int (iI (r)))] [] := by
    intro n7
    induction n7 with
    | zero =>
      intro r m hr0 hr1 hm hb hn7
      exact absurd hn7 (by omega)
    | succ n7 ih7 =>
      intro r m hr0 hr1 hm hb hn7
      refine gg_iload k dX5_goesInto_7 rfl ?_
      refine gg_aload_n k dX5_goesInto_9 rfl ?_
      refine gg_get k (cb0 hB) inX5_goesInto_X5 2 (by decide) fX5_goesInto_33 rfl rfl dX5_goesInto_10 ?_
      refine gg_ti hR.cnt ?_
      refine gg_icmp_ge k 62 dX5_goesInto_13 (by decide) ⟨by omega, by omega⟩ ⟨by omega, by omega⟩ (fun c13 => ?_) (fun c13 => ?_)
      · refine gg_iload_n k dX5_goesInto_62 rfl ?_
        refine gg_iconst k dX5_goesInto_63 ?_
        refine gg_iload_n k dX5_goesInto_64 rfl ?_
        refine gg_ishl k (by omega) (by omega) dX5_goesInto_65 ?_
        have bd65 := b2_b (i := g) (by omega) (by omega)
        refine gg_iand k (by omega) (by omega) dX5_goesInto_66 ?_
        have bd66 := bAnd_b (a := m) (b := b2 g) (by omega) (by omega)
        refine gg_if_eq k 74 dX5_goesInto_67 (by decide) ⟨by omega, by omega⟩ (fun c67 => ?_) (fun c67 => ?_)
        · refine gg_iconst k dX5_goesInto_74 ?_
          exact hret _ _ _ _ dX5_goesInto_75 (⟨by omega, by omega⟩) (⟨Or.inr ⟨rfl, by unfold sRing; rw [← show r = sCnt S by omega, ← hb g hg0 (by omega)]; exact (bAnd_0 hm hg0 (by omega)).mp c67⟩, rfl⟩)
        · refine gg_iconst k dX5_goesInto_70 ?_
          refine gg_goto (tgt := 75) k dX5_goesInto_71 (by decide) ?_
          exact hret _ _ _ _ dX5_goesInto_75 (⟨by omega, by omega⟩) (⟨Or.inl ⟨rfl, by unfold sRing; rw [← show r = sCnt S by omega, ← hb g hg0 (by omega)]; cases hz : sb m g; (· exact absurd ((bAnd_0 hm hg0 (by omega)).mpr hz) c67); (· rfl)⟩, rfl⟩)
      · refine gg_iconst k dX5_goesInto_16 ?_
        refine gg_istore k [(5, .int (iI (0))), (0, .ref (gad B (0))), (1, .int (iI (x))), (2, .int (iI (g))), (3, .int (iI (m))), (4, .int (iI (r)))] dX5_goesInto_17 (by decide) rfl ?_
        have L19 : ∀ (n19 : Nat) (a : Int) (m2 : Int), 0 ≤ a → a ≤ sCnt S → 0 ≤ m2 ∧ m2 < 64 → (∀ y : Int, 0 ≤ y → y < 6 → sb m2 y = rcA S (rcR S x r.toNat) a.toNat y) → sCnt S - a < (n19 : Int) → GG K B C 19 [(0, .ref (gad B (0))), (1, .int (iI (x))), (2, .int (iI (g))), (3, .int (iI (m2))), (4, .int (iI (r))), (5, .int (iI (a)))] [] := by
          intro n19
          induction n19 with
          | zero =>
            intro a m2 ha0 ha1 hm2 hb2 hn19
            exact absurd hn19 (by omega)
          | succ n19 ih19 =>
            intro a m2 ha0 ha1 hm2 hb2 hn19
            refine gg_iload k dX5_goesInto_19 rfl ?_
            refine gg_aload_n k dX5_goesInto_21 rfl ?_
            refine gg_get k (cb0 hB) inX5_goesInto_X5 2 (by decide) fX5_goesInto_33 rfl rfl dX5_goesInto_22 ?_
            refine gg_ti hR.cnt ?_
            refine gg_icmp_ge k 56 dX5_goesInto_25 (by decide) ⟨by omega, by omega⟩ ⟨by omega, by omega⟩ (fun c25 => ?_) (fun c25 => ?_)
            · refine gg_iinc k 4 [(4, .int (iI (r + 1))), (0, .ref (gad B (0))), (1, .int (iI (x))), (2, .int (iI (g))), (3, .int (iI (m2))), (5, .int (iI (a)))] dX5_goesInto_56 rfl (by decide) rfl ?_
              refine gg_goto (tgt := 7) k dX5_goesInto_59 (by decide) ?_
              refine gg_sub [1, 2, 3, 4, 0] rfl ?_
              exact ih7 (r + 1) (m2) (by omega) (by omega) (hm2) (fun y h0 h1 => by rw [rcR_s hr0, ← show a = sCnt S by omega]; exact hb2 y h0 h1) (by omega)
            · refine gg_iload_n k dX5_goesInto_28 rfl ?_
              refine gg_iconst k dX5_goesInto_29 ?_
              refine gg_iload k dX5_goesInto_30 rfl ?_
              refine gg_ishl k (by omega) (by omega) dX5_goesInto_32 ?_
              have bd32 := b2_b (i := a) (by omega) (by omega)
              refine gg_iand k (by omega) (by omega) dX5_goesInto_33 ?_
              have bd33 := bAnd_b (a := m2) (b := b2 a) (by omega) (by omega)
              refine gg_if_eq k 50 dX5_goesInto_34 (by decide) ⟨by omega, by omega⟩ (fun c34 => ?_) (fun c34 => ?_)
              · refine gg_iinc k 5 [(5, .int (iI (a + 1))), (0, .ref (gad B (0))), (1, .int (iI (x))), (2, .int (iI (g))), (3, .int (iI (m2))), (4, .int (iI (r)))] dX5_goesInto_50 rfl (by decide) rfl ?_
                refine gg_goto (tgt := 19) k dX5_goesInto_53 (by decide) ?_
                refine gg_sub [1, 2, 3, 4, 5, 0] rfl ?_
                exact ih19 (a + 1) (m2) (by omega) (by omega) (hm2) (fun y h0 h1 => by rw [rcA_s ha0, ← hb2 y h0 h1, ← hb2 a ha0 (by omega), (bAnd_0 hm2 ha0 (by omega)).mp c34]; simp) (by omega)
              · refine gg_iload_n k dX5_goesInto_37 rfl ?_
                refine gg_aload_n k dX5_goesInto_38 rfl ?_
                refine gg_get k (cb0 hB) inX5_goesInto_X5 1 (by decide) fX5_goesInto_26 rfl rfl dX5_goesInto_39 ?_
                refine gg_iload k dX5_goesInto_42 rfl ?_
                refine gg_aald k (cb1 hB) (by omega) (by omega) dX5_goesInto_44 ?_
                refine gg_calli (n := 0) (As := []) (rest := [.int (iI (m2))]) k (kX2_wholes hB hO hR (i := a) (by omega) (by omega)) ⟨_, _, _, gX5_goesInto_X2_wholes, rfl, rfl, rfl, by decide +kernel, by decide, by decide⟩ (cbItem hB (by omega) (by omega)) rfl rfl (Nat.le_of_ble_eq_true rfl) dX5_goesInto_45 (fun z45 C45 r45 q45 => ?_)
                obtain ⟨q45, e45⟩ := q45
                rw [e45]
                clear e45
                obtain ⟨r45, s45⟩ := r45
                refine gg_ior k (by omega) (by omega) dX5_goesInto_48 ?_
                have bd48 := bOr_b (a := m2) (b := z45) (by omega) (by omega)
                refine gg_istore_n k [(3, .int (iI (bOr m2 z45))), (0, .ref (gad B (0))), (1, .int (iI (x))), (2, .int (iI (g))), (4, .int (iI (r))), (5, .int (iI (a)))] dX5_goesInto_49 (by decide) rfl ?_
                refine gg_iinc k 5 [(5, .int (iI (a + 1))), (3, .int (iI (bOr m2 z45))), (0, .ref (gad B (0))), (1, .int (iI (x))), (2, .int (iI (g))), (4, .int (iI (r)))] dX5_goesInto_50 rfl (by decide) rfl ?_
                refine gg_goto (tgt := 19) k dX5_goesInto_53 (by decide) ?_
                refine gg_sub [2, 3, 4, 1, 5, 0] rfl ?_
                exact ih19 (a + 1) (bOr m2 z45) (by omega) (by omega) (bOr_b hm2 q45.1) (fun y h0 h1 => by rw [rcA_s ha0, ← hb2 y h0 h1, ← hb2 a ha0 (by omega), show sb m2 a = true by cases hz : sb m2 a; (· exact absurd ((bAnd_0 hm2 ha0 (by omega)).mpr hz) c34); (· rfl), sb_or, q45.2 y h0 h1]; rfl) (by omega)
        refine gg_sub [1, 2, 3, 4, 5, 0] rfl ?_
        exact L19 ((sCnt S - 0).toNat + 1) (0) (m) (by omega) (by omega) (hm) (hb) (by omega)
  refine gg_sub [2, 3, 4, 1, 0] rfl ?_
  exact L7 ((sCnt S - 0).toNat + 1) (0) (b2 x) (by omega) (by omega) (b2_b (by omega) (by omega)) (fun y h0 h1 => by rw [sb_b2 (by omega) h0]; show _ = decide (y = x); rw [decide_eq_decide]; omega) (by omega)

abbrev rX5_part : Room := { frames := 2, cells := 0, slots := 0, locals := 47 }
set_option maxRecDepth 100000 in
set_option maxHeartbeats 4000000 in
theorem kX5_part {l : Launch} {B : gB} {T : Int} {S : sS} {C : gSt} (hB : clsB B T) (hO : sOk S T) (hR : cRel S T C) (i o n : Int) (hi : rI i) (ho : rI o) (hn : rI n) : gMi l B yX5_part wsX5_part rX5_part [.ref (gad B (0)), .int (iI (i)), .int (iI (o)), .int (iI (n))] C (fun z C' => cRel (gUpd (rPart S i o n) S (sUp S 3 i o n)) T C' ∧ z = gAns (rPart S i o n) (sTim S i o)) := by
  refine gMi_of (ty := .int) rfl (cc := cX5_part) (nL := 4) (by decide) rfl (Nat.le_of_ble_eq_true rfl) (fun K k hret => ?_)
  have k : gOk K B l rX5_part 4 cX5_part RX5 wsX5_part := k
  show GG K B C 0 [(0, .ref (gad B (0))), (1, .int (iI (i))), (2, .int (iI (o))), (3, .int (iI (n)))] []
  have hT := hO.t
  have hc := hO.cnt
  obtain ⟨hi1, hi2⟩ := hi
  obtain ⟨ho1, ho2⟩ := ho
  obtain ⟨hn1, hn2⟩ := hn
  refine gg_aload_n k dX5_part_0 rfl ?_
  refine gg_iload_n k dX5_part_1 rfl ?_
  refine gg_calli (n := 1) (As := [.int (iI (i))]) (rest := []) k (kX5_isItem hB hO hR (i) ⟨by omega, by omega⟩) ⟨_, _, _, gX5_part_X5_isItem, rfl, rfl, rfl, by decide +kernel, by decide, by decide⟩ (cb0 hB) rfl rfl (Nat.le_of_ble_eq_true rfl) dX5_part_2 (fun z2 C2 r2 q2 => ?_)
  obtain ⟨q2, e2⟩ := q2
  rw [e2]
  clear e2
  obtain ⟨r2, s2⟩ := r2
  refine gg_if_eq k 16 dX5_part_5 (by decide) ⟨by omega, by omega⟩ (fun c5 => ?_) (fun c5 => ?_)
  · refine gg_iconst k dX5_part_16 ?_
    exact hret _ _ _ _ dX5_part_17 (⟨by omega, by omega⟩) (⟨by rw [gUpd_n (by rw [rPart_1 (by omega)]; omega)]; exact hR, by rw [gAns_n (by rw [rPart_1 (by omega)]; omega), rPart_1 (by omega)]⟩)
  · refine gg_aload_n k dX5_part_8 rfl ?_
    refine gg_iload_n k dX5_part_9 rfl ?_
    refine gg_calli (n := 1) (As := [.int (iI (o))]) (rest := []) k (kX5_isItem hB hO hR (o) ⟨by omega, by omega⟩) ⟨_, _, _, gX5_part_X5_isItem, rfl, rfl, rfl, by decide +kernel, by decide, by decide⟩ (cb0 hB) rfl rfl (Nat.le_of_ble_eq_true rfl) dX5_part_10 (fun z10 C10 r10 q10 => ?_)
    obtain ⟨q10, e10⟩ := q10
    rw [e10]
    clear e10
    obtain ⟨r10, s10⟩ := r10
    refine gg_if_ne k 18 dX5_part_13 (by decide) ⟨by omega, by omega⟩ (fun c13 => ?_) (fun c13 => ?_)
    · refine gg_iload_n k dX5_part_18 rfl ?_
      refine gg_if_lt k 28 dX5_part_19 (by decide) ⟨by omega, by omega⟩ (fun c19 => ?_) (fun c19 => ?_)
      · refine gg_bipush k dX5_part_28 (by decide +kernel) ?_
        exact hret _ _ _ _ dX5_part_30 (⟨by omega, by omega⟩) (⟨by rw [gUpd_n (by rw [rPart_2 (by omega) (by omega)]; omega)]; exact hR, by rw [gAns_n (by rw [rPart_2 (by omega) (by omega)]; omega), rPart_2 (by omega) (by omega)]⟩)
      · refine gg_iload_n k dX5_part_22 rfl ?_
        refine gg_bipush k dX5_part_23 (by decide +kernel) ?_
        refine gg_icmp_le k 31 dX5_part_25 (by decide) ⟨by omega, by omega⟩ ⟨by omega, by omega⟩ (fun c25 => ?_) (fun c25 => ?_)
        · refine gg_iload_n k dX5_part_31 rfl ?_
          refine gg_if_le k 47 dX5_part_32 (by decide) ⟨by omega, by omega⟩ (fun c32 => ?_) (fun c32 => ?_)
          · refine gg_aload_n k dX5_part_47 rfl ?_
            refine gg_get k (cb0 hB) inX5_part_X5 1 (by decide) fX5_part_26 rfl rfl dX5_part_48 ?_
            refine gg_iload_n k dX5_part_51 rfl ?_
            refine gg_aald k (cb1 hB) (by omega) (by omega) dX5_part_52 ?_
            refine gg_get k (cbItem hB (by omega) (by omega)) inX5_part_X2 3 (by decide) fX5_part_91 rfl rfl dX5_part_53 ?_
            refine gg_iload_n k dX5_part_56 rfl ?_
            refine gg_iload_n k dX5_part_57 rfl ?_
            refine gg_bipush k dX5_part_58 (by decide +kernel) ?_
            refine gg_callsi (n := 4) (As := [.ref (gad B (6 + 9 * (i).toNat)), .int (iI (o)), .int (iI (n)), .int (iI (9))]) (rest := []) k (kX5_replace (6 + 9 * (i).toNat) _ (cbTim hB (by omega) (by omega)) o n 9 (by omega) (by omega) ⟨by omega, by omega⟩ ⟨by omega, by omega⟩ (by rw [hR.tim _ (by omega) (by omega)]; have := hO.tim i o; exact ⟨by omega, by omega⟩)) ⟨_, _, _, gX5_part_X5_replace, rfl, rfl, rfl, by decide +kernel, by decide, by decide⟩ rfl rfl (Nat.le_of_ble_eq_true rfl) dX5_part_60 (fun z60 C60 r60 q60 => ?_)
            obtain ⟨r60, s60⟩ := r60
            exact hret _ _ _ _ dX5_part_63 (⟨by omega, by omega⟩) (by
              have hg0 : rPart S i o n = 0 := rPart_0 (by omega) (by omega) (fun w => absurd w.1 (by omega))
              rw [gUpd_0 hg0, gAns_0 hg0]
              rcases q60 with ⟨w1, w2, w3⟩ | ⟨w1, w2, w3⟩
              · omega
              · rw [w3, w2]; exact ⟨hR.up (n := 3) (by omega) (by omega) (by omega), hR.tim _ (by omega) (by omega)⟩)
          · refine gg_aload_n k dX5_part_35 rfl ?_
            refine gg_iload_n k dX5_part_36 rfl ?_
            refine gg_iload_n k dX5_part_37 rfl ?_
            refine gg_calli (n := 2) (As := [.int (iI (o)), .int (iI (i))]) (rest := []) k (kX5_goesInto hB hO hR (o) (i) (by omega) (by omega) (by omega) (by omega)) ⟨_, _, _, gX5_part_X5_goesInto, rfl, rfl, rfl, by decide +kernel, by decide, by decide⟩ (cb0 hB) rfl rfl (Nat.le_of_ble_eq_true rfl) dX5_part_38 (fun z38 C38 r38 q38 => ?_)
            obtain ⟨q38, e38⟩ := q38
            rw [e38]
            clear e38
            obtain ⟨r38, s38⟩ := r38
            refine gg_if_eq k 47 dX5_part_41 (by decide) ⟨by omega, by omega⟩ (fun c41 => ?_) (fun c41 => ?_)
            · refine gg_aload_n k dX5_part_47 rfl ?_
              refine gg_get k (cb0 hB) inX5_part_X5 1 (by decide) fX5_part_26 rfl rfl dX5_part_48 ?_
              refine gg_iload_n k dX5_part_51 rfl ?_
              refine gg_aald k (cb1 hB) (by omega) (by omega) dX5_part_52 ?_
              refine gg_get k (cbItem hB (by omega) (by omega)) inX5_part_X2 3 (by decide) fX5_part_91 rfl rfl dX5_part_53 ?_
              refine gg_iload_n k dX5_part_56 rfl ?_
              refine gg_iload_n k dX5_part_57 rfl ?_
              refine gg_bipush k dX5_part_58 (by decide +kernel) ?_
              refine gg_callsi (n := 4) (As := [.ref (gad B (6 + 9 * (i).toNat)), .int (iI (o)), .int (iI (n)), .int (iI (9))]) (rest := []) k (kX5_replace (6 + 9 * (i).toNat) _ (cbTim hB (by omega) (by omega)) o n 9 (by omega) (by omega) ⟨by omega, by omega⟩ ⟨by omega, by omega⟩ (by rw [hR.tim _ (by omega) (by omega)]; have := hO.tim i o; exact ⟨by omega, by omega⟩)) ⟨_, _, _, gX5_part_X5_replace, rfl, rfl, rfl, by decide +kernel, by decide, by decide⟩ rfl rfl (Nat.le_of_ble_eq_true rfl) dX5_part_60 (fun z60 C60 r60 q60 => ?_)
              obtain ⟨r60, s60⟩ := r60
              exact hret _ _ _ _ dX5_part_63 (⟨by omega, by omega⟩) (by
                have hg0 : rPart S i o n = 0 := rPart_0 (by omega) (by omega) (fun w => by rcases q38 with u | u; (· omega); (· rw [u.2] at w; exact absurd w.2 (by decide)))
                rw [gUpd_0 hg0, gAns_0 hg0]
                rcases q60 with ⟨w1, w2, w3⟩ | ⟨w1, w2, w3⟩
                · omega
                · rw [w3, w2]; exact ⟨hR.up (n := 3) (by omega) (by omega) (by omega), hR.tim _ (by omega) (by omega)⟩)
            · refine gg_bipush k dX5_part_44 (by decide +kernel) ?_
              exact hret _ _ _ _ dX5_part_46 (⟨by omega, by omega⟩) (by
                have hg3 : 0 < n ∧ sRing S o i = true := ⟨by omega, by rcases q38 with w | w; (· exact w.2); (· omega)⟩
                exact ⟨by rw [gUpd_n (by rw [rPart_3 (by omega) (by omega) hg3]; omega)]; exact hR, by rw [gAns_n (by rw [rPart_3 (by omega) (by omega) hg3]; omega), rPart_3 (by omega) (by omega) hg3]⟩)
        · refine gg_bipush k dX5_part_28 (by decide +kernel) ?_
          exact hret _ _ _ _ dX5_part_30 (⟨by omega, by omega⟩) (⟨by rw [gUpd_n (by rw [rPart_2 (by omega) (by omega)]; omega)]; exact hR, by rw [gAns_n (by rw [rPart_2 (by omega) (by omega)]; omega), rPart_2 (by omega) (by omega)]⟩)
    · refine gg_iconst k dX5_part_16 ?_
      exact hret _ _ _ _ dX5_part_17 (⟨by omega, by omega⟩) (⟨by rw [gUpd_n (by rw [rPart_1 (by omega)]; omega)]; exact hR, by rw [gAns_n (by rw [rPart_1 (by omega)]; omega), rPart_1 (by omega)]⟩)
