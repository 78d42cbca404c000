abbrev rX3_follow : Room := { frames := 0, cells := 0, slots := 0, locals := 0 }
set_option maxRecDepth 100000 in
set_option maxHeartbeats 4000000 in
theorem kX3_follow {l : Launch} {B : gB} {T : Int} {S : sS} {C : gSt} (hB : clsB B T) (hO : sOk S T) (hR : cRel S T C)  : gMv l B yX3_follow wsX3_follow rX3_follow [.ref (gad B (58)), .ref (gad B (1)), .int (iI (sCnt S))] C (fun C' => cRel S T C' ∧ cMach S C' T ∧ ∀ q : Nat, q ≠ 59 → q ≠ 60 → C' q = C q) := by
  refine gMv_of (cc := cX3_follow) (nL := 6) (by decide) rfl (Nat.le_of_ble_eq_true rfl) (fun K k hret => ?_)
  have k : gOk K B l rX3_follow 6 cX3_follow RX3 wsX3_follow := k
  show GG K B C 0 [(0, .ref (gad B (58))), (1, .ref (gad B (1))), (2, .int (iI (sCnt S)))] []
  have hT := hO.t
  have hc := hO.cnt
  
  refine gg_iconst k dX3_follow_0 ?_
  refine gg_istore_n k [(3, .int (iI (1))), (0, .ref (gad B (58))), (1, .ref (gad B (1))), (2, .int (iI (sCnt S)))] dX3_follow_1 (by decide) rfl ?_
  have L2 : ∀ (n2 : Nat) (p : Int) (C1 : gSt), 1 ≤ p → p ≤ T + 1 → cRel S T C1 → cMach S C1 (p - 1) → (∀ q : Nat, q ≠ 59 → q ≠ 60 → C1 q = C q) → T + 1 - p < (n2 : Int) → GG K B C1 2 [(0, .ref (gad B (58))), (1, .ref (gad B (1))), (2, .int (iI (sCnt S))), (3, .int (iI (p)))] [] := by
    intro n2
    induction n2 with
    | zero =>
      intro p C1 hp0 hp1 hR hm1 hk1 hn2
      exact absurd hn2 (by omega)
    | succ n2 ih2 =>
      intro p C1 hp0 hp1 hR hm1 hk1 hn2
      refine gg_iload_n k dX3_follow_2 rfl ?_
      refine gg_aload_n k dX3_follow_3 rfl ?_
      refine gg_get k (cbMach hB) inX3_follow_X3 1 (by decide) fX3_follow_15 rfl rfl dX3_follow_4 ?_
      refine gg_ilen k (cbStanding hB) dX3_follow_7 ?_
      refine gg_icmp_ge k 97 dX3_follow_8 (by decide) ⟨by omega, by omega⟩ ⟨by omega, by omega⟩ (fun c8 => ?_) (fun c8 => ?_)
      · exact hret _ _ _ dX3_follow_97 (⟨hR, by rw [show T = p - 1 by omega]; exact hm1, hk1⟩)
      · refine gg_aload_n k dX3_follow_11 rfl ?_
        refine gg_get k (cbMach hB) inX3_follow_X3 1 (by decide) fX3_follow_15 rfl rfl dX3_follow_12 ?_
        refine gg_iload_n k dX3_follow_15 rfl ?_
        refine gg_iconst k dX3_follow_16 ?_
        refine gg_isub k dX3_follow_17 ?_
        refine gg_iald k (cbStanding hB) (by omega) (by omega) dX3_follow_18 ?_
        refine gg_ti (hm1.1 (p - 1) (by omega) (by omega)) ?_
        have hsb := sSt_b hO (p - 1).toNat
        refine gg_istore k [(4, .int (iI ((sSt S (p - 1).toNat)))), (0, .ref (gad B (58))), (1, .ref (gad B (1))), (2, .int (iI (sCnt S))), (3, .int (iI (p)))] dX3_follow_19 (by decide) rfl ?_
        refine gg_aload_n k dX3_follow_21 rfl ?_
        refine gg_get k (cbMach hB) inX3_follow_X3 0 (by decide) fX3_follow_9 rfl rfl dX3_follow_22 ?_
        refine gg_iload_n k dX3_follow_25 rfl ?_
        refine gg_iconst k dX3_follow_26 ?_
        refine gg_iast k (cbSetUps hB) (by omega) (by omega) dX3_follow_27 ?_
        refine gg_nm (fun C27 e27 => ?_)
        have hR : cRel S T C27 := by rw [e27]; exact hR.wri (Or.inl (by unfold scr; omega))
        refine gg_aload_n k dX3_follow_28 rfl ?_
        refine gg_get k (cbMach hB) inX3_follow_X3 1 (by decide) fX3_follow_15 rfl rfl dX3_follow_29 ?_
        refine gg_iload_n k dX3_follow_32 rfl ?_
        refine gg_iload k dX3_follow_33 rfl ?_
        refine gg_iast k (cbStanding hB) (by omega) (by omega) dX3_follow_35 ?_
        refine gg_nm (fun C35 e35 => ?_)
        have hR : cRel S T C35 := by rw [e35]; exact hR.wri (Or.inr (Or.inl ⟨rfl, by omega⟩))
        have h59 : C35 59 p = 0 := by rw [e35, wr_k (by omega), e27, wr_s]
        refine gg_iconst k dX3_follow_36 ?_
        refine gg_istore k [(5, .int (iI (0))), (4, .int (iI ((sSt S (p - 1).toNat)))), (0, .ref (gad B (58))), (1, .ref (gad B (1))), (2, .int (iI (sCnt S))), (3, .int (iI (p)))] dX3_follow_37 (by decide) rfl ?_
        have L39 : ∀ (n39 : Nat) (x : Int) (C2 : gSt), 0 ≤ x → x ≤ sCnt S → cRel S T C2 → C2 60 p = sStI S p (sSt S (p - 1).toNat) x.toNat → 0 ≤ C2 59 p ∧ C2 59 p < 64 → (∀ y : Int, 0 ≤ y → y < 6 → (sb (C2 59 p) y = true ↔ y < x ∧ sSet S y p)) → (∀ j : Int, j ≠ p → C2 60 j = C1 60 j ∧ C2 59 j = C1 59 j) → (∀ q : Nat, q ≠ 59 → q ≠ 60 → C2 q = C q) → sCnt S - x < (n39 : Int) → GG K B C2 39 [(0, .ref (gad B (58))), (1, .ref (gad B (1))), (2, .int (iI (sCnt S))), (3, .int (iI (p))), (4, .int (iI ((sSt S (p - 1).toNat)))), (5, .int (iI (x)))] [] := by
          intro n39
          induction n39 with
          | zero =>
            intro x C2 hx0 hx1 hR hs2 hb2 hbt ho2 hk2 hn39
            exact absurd hn39 (by omega)
          | succ n39 ih39 =>
            intro x C2 hx0 hx1 hR hs2 hb2 hbt ho2 hk2 hn39
            refine gg_iload k dX3_follow_39 rfl ?_
            refine gg_iload_n k dX3_follow_41 rfl ?_
            refine gg_icmp_ge k 91 dX3_follow_42 (by decide) ⟨by omega, by omega⟩ ⟨by omega, by omega⟩ (fun c42 => ?_) (fun c42 => ?_)
            · have hxe : x = sCnt S := by omega
              have hm9 : cMach S C2 p := by
                refine ⟨fun j h0 h1 => ?_, fun j h0 h1 => ?_⟩
                · by_cases hj : j = p
                  · rw [hj, hs2, hxe]; exact (sSt_s (by omega)).symm
                  · rw [(ho2 j hj).1]; exact hm1.1 j h0 (by omega)
                · by_cases hj : j = p
                  · rw [hj]
                    exact ⟨hb2, fun y h2 h3 => by rw [hbt y h2 (by omega)]; exact ⟨fun w => w.2, fun w => ⟨by omega, w⟩⟩⟩
                  · rw [(ho2 j hj).2]; exact hm1.2 j h0 (by omega)
              have hk9 := hk2
              refine gg_iinc k 3 [(3, .int (iI (p + 1))), (0, .ref (gad B (58))), (1, .ref (gad B (1))), (2, .int (iI (sCnt S))), (4, .int (iI ((sSt S (p - 1).toNat)))), (5, .int (iI (x)))] dX3_follow_91 rfl (by decide) rfl ?_
              refine gg_goto (tgt := 2) k dX3_follow_94 (by decide) ?_
              refine gg_sub [1, 2, 3, 0] rfl ?_
              exact ih2 (p + 1) (C2) (by omega) (by omega) (hR) (by rw [show p + 1 - 1 = p by omega]; exact hm9) (hk9) (by omega)
            · refine gg_iload k dX3_follow_45 rfl ?_
              refine gg_iload k dX3_follow_47 rfl ?_
              refine gg_icmp_eq k 85 dX3_follow_49 (by decide) ⟨by omega, by omega⟩ ⟨by omega, by omega⟩ (fun c49 => ?_) (fun c49 => ?_)
              · refine gg_iinc k 5 [(5, .int (iI (x + 1))), (0, .ref (gad B (58))), (1, .ref (gad B (1))), (2, .int (iI (sCnt S))), (3, .int (iI (p))), (4, .int (iI ((sSt S (p - 1).toNat))))] dX3_follow_85 rfl (by decide) rfl ?_
                refine gg_goto (tgt := 39) k dX3_follow_88 (by decide) ?_
                refine gg_sub [1, 2, 3, 4, 5, 0] rfl ?_
                exact ih39 (x + 1) (C2) (by omega) (by omega) (hR) (by rw [sStI_s hx0, if_neg (by omega)]; exact hs2) (hb2) (fun y h0 h1 => by rw [hbt y h0 h1]; by_cases hy : y = x; (· rw [hy]; exact ⟨fun w => by omega, fun w => absurd w.2 (by omega)⟩); (· exact ⟨fun w => ⟨by omega, w.2⟩, fun w => ⟨by omega, w.2⟩⟩)) (ho2) (hk2) (by omega)
              · refine gg_aload_n k dX3_follow_52 rfl ?_
                refine gg_iload k dX3_follow_53 rfl ?_
                refine gg_aald k (cb1 hB) (by omega) (by omega) dX3_follow_55 ?_
                refine gg_get k (cbItem hB (by omega) (by omega)) inX3_follow_X2 2 (by decide) fX3_follow_18 rfl rfl dX3_follow_56 ?_
                refine gg_iload_n k dX3_follow_59 rfl ?_
                refine gg_iald k (cbLot hB (by omega) (by omega)) (by omega) (by omega) dX3_follow_60 ?_
                refine gg_ti (hR.lot _ (by omega) (by omega)) ?_
                have b60 := hO.lot (x) (p)
                refine gg_if_le k 85 dX3_follow_61 (by decide) ⟨by omega, by omega⟩ (fun c61 => ?_) (fun c61 => ?_)
                · refine gg_iinc k 5 [(5, .int (iI (x + 1))), (0, .ref (gad B (58))), (1, .ref (gad B (1))), (2, .int (iI (sCnt S))), (3, .int (iI (p))), (4, .int (iI ((sSt S (p - 1).toNat))))] dX3_follow_85 rfl (by decide) rfl ?_
                  refine gg_goto (tgt := 39) k dX3_follow_88 (by decide) ?_
                  refine gg_sub [1, 2, 3, 4, 5, 0] rfl ?_
                  exact ih39 (x + 1) (C2) (by omega) (by omega) (hR) (by rw [sStI_s hx0, if_neg (by omega)]; exact hs2) (hb2) (fun y h0 h1 => by rw [hbt y h0 h1]; by_cases hy : y = x; (· rw [hy]; exact ⟨fun w => by omega, fun w => absurd w.2 (by omega)⟩); (· exact ⟨fun w => ⟨by omega, w.2⟩, fun w => ⟨by omega, w.2⟩⟩)) (ho2) (hk2) (by omega)
                · refine gg_aload_n k dX3_follow_64 rfl ?_
                  refine gg_get k (cbMach hB) inX3_follow_X3 0 (by decide) fX3_follow_9 rfl rfl dX3_follow_65 ?_
                  refine gg_iload_n k dX3_follow_68 rfl ?_
                  refine gg_dup2 k dX3_follow_69 rfl rfl ?_
                  refine gg_iald k (cbSetUps hB) (by omega) (by omega) dX3_follow_70 ?_
                  refine gg_iconst k dX3_follow_71 ?_
                  refine gg_iload k dX3_follow_72 rfl ?_
                  refine gg_ishl k (by omega) (by omega) dX3_follow_74 ?_
                  have b74 := b2_b (i := x) (by omega) (by omega)
                  refine gg_ior k (by omega) (by omega) dX3_follow_75 ?_
                  have b75 := bOr_b (a := C2 (59) (p)) (b := b2 x) (by omega) (by omega)
                  refine gg_iast k (cbSetUps hB) (by omega) (by omega) dX3_follow_76 ?_
                  refine gg_nm (fun C76 e76 => ?_)
                  have hR : cRel S T C76 := by rw [e76]; exact hR.wri (Or.inl (by unfold scr; omega))
                  refine gg_aload_n k dX3_follow_77 rfl ?_
                  refine gg_get k (cbMach hB) inX3_follow_X3 1 (by decide) fX3_follow_15 rfl rfl dX3_follow_78 ?_
                  refine gg_iload_n k dX3_follow_81 rfl ?_
                  refine gg_iload k dX3_follow_82 rfl ?_
                  refine gg_iast k (cbStanding hB) (by omega) (by omega) dX3_follow_84 ?_
                  refine gg_nm (fun C84 e84 => ?_)
                  have hR : cRel S T C84 := by rw [e84]; exact hR.wri (Or.inr (Or.inl ⟨rfl, by omega⟩))
                  have h59b : C84 59 p = bOr (C2 59 p) (b2 x) := by rw [e84, wr_k (by omega), e76, wr_s]
                  refine gg_iinc k 5 [(5, .int (iI (x + 1))), (0, .ref (gad B (58))), (1, .ref (gad B (1))), (2, .int (iI (sCnt S))), (3, .int (iI (p))), (4, .int (iI ((sSt S (p - 1).toNat))))] dX3_follow_85 rfl (by decide) rfl ?_
                  refine gg_goto (tgt := 39) k dX3_follow_88 (by decide) ?_
                  refine gg_sub [1, 2, 3, 4, 5, 0] rfl ?_
                  exact ih39 (x + 1) (C84) (by omega) (by omega) (hR) (by rw [e84, wr_s, sStI_s hx0, if_pos (by omega)]) (by rw [h59b]; exact bOr_b hb2 (b2_b (by omega) (by omega))) (fun y h0 h1 => by rw [h59b, sb_or, sb_b2 hx0 h0, Bool.or_eq_true, hbt y h0 h1, decide_eq_true_eq]; by_cases hy : y = x; (· rw [hy]; exact ⟨fun _ => ⟨by omega, by omega, by omega⟩, fun _ => Or.inr rfl⟩); (· exact ⟨fun w => by rcases w with w | w; (· exact ⟨by omega, w.2⟩); (· omega), fun w => Or.inl ⟨by omega, w.2⟩⟩)) (fun j hj => ⟨by rw [e84, wr_j hj, e76, wr_k (by omega)]; exact (ho2 j hj).1, by rw [e84, wr_k (by omega), e76, wr_j hj]; exact (ho2 j hj).2⟩) (fun q h1 h2 => by rw [e84, wr_k h2, e76, wr_k h1]; exact hk2 q h1 h2) (by omega)
        refine gg_sub [2, 3, 4, 5, 1, 0] rfl ?_
        exact L39 ((sCnt S - 0).toNat + 1) (0) (C35) (by omega) (by omega) (hR) (by rw [e35, wr_s]; rfl) (by rw [h59]; omega) (fun y h0 h1 => by rw [h59, sb_0]; exact ⟨fun h => (by cases h), fun h => (by omega)⟩) (fun j hj => ⟨by rw [e35, wr_j hj, e27, wr_k (by omega)], by rw [e35, wr_k (by omega), e27, wr_j hj]⟩) (fun q h1 h2 => by rw [e35, wr_k h2, e27, wr_k h1]; exact hk1 q h1 h2) (by omega)
  refine gg_sub [1, 2, 3, 0] rfl ?_
  exact L2 ((T + 1 - 1).toNat + 1) (1) (C) (by omega) (by omega) (hR) (⟨fun j h0 h1 => by rw [show j = 0 by omega]; exact hR.st0, fun j h0 h1 => by omega⟩) (fun _ _ _ => rfl) (by omega)

abbrev rX3_setsUp : Room := { frames := 0, cells := 0, slots := 0, locals := 0 }
set_option maxRecDepth 100000 in
set_option maxHeartbeats 4000000 in
theorem kX3_setsUp {l : Launch} {B : gB} {T : Int} {S : sS} {C : gSt} (hB : clsB B T) (hO : sOk S T) (hR : cRel S T C) (hm : cMach S C T) (i p : Int) (hi0 : 0 ≤ i) (hi1 : i < sCnt S) (hp0 : 1 ≤ p) (hp1 : p ≤ T) : gMi l B yX3_setsUp wsX3_setsUp rX3_setsUp [.ref (gad B (58)), .int (iI (i)), .int (iI (p))] C (fun z C' => ((z = 1 ∧ sSet S i p) ∨ (z = 0 ∧ ¬ sSet S i p)) ∧ C' = C) := by
  refine gMz_of (cc := cX3_setsUp) (nL := 3) (by decide) rfl (Nat.le_of_ble_eq_true rfl) (fun z C' h => by omega) (fun K k hret => ?_)
  have k : gOk K B l rX3_setsUp 3 cX3_setsUp RX3 wsX3_setsUp := k
  show GG K B C 0 [(0, .ref (gad B (58))), (1, .int (iI (i))), (2, .int (iI (p)))] []
  have hT := hO.t
  have hc := hO.cnt
  obtain ⟨hmb, hmi⟩ := hm.2 p hp0 hp1
  have hmi := hmi i hi0 hi1
  refine gg_aload_n k dX3_setsUp_0 rfl ?_
  refine gg_get k (cbMach hB) inX3_setsUp_X3 0 (by decide) fX3_setsUp_9 rfl rfl dX3_setsUp_1 ?_
  refine gg_iload_n k dX3_setsUp_4 rfl ?_
  refine gg_iald k (cbSetUps hB) (by omega) (by omega) dX3_setsUp_5 ?_
  refine gg_iconst k dX3_setsUp_6 ?_
  refine gg_iload_n k dX3_setsUp_7 rfl ?_
  refine gg_ishl k (by omega) (by omega) dX3_setsUp_8 ?_
  have b8 := b2_b (i := i) (by omega) (by omega)
  refine gg_iand k (by omega) (by omega) dX3_setsUp_9 ?_
  have b9 := bAnd_b (a := C (59) (p)) (b := b2 i) (by omega) (by omega)
  refine gg_if_eq k 17 dX3_setsUp_10 (by decide) ⟨by omega, by omega⟩ (fun c10 => ?_) (fun c10 => ?_)
  · refine gg_iconst k dX3_setsUp_17 ?_
    exact hret _ _ _ _ dX3_setsUp_18 (⟨by omega, by omega⟩) (⟨Or.inr ⟨rfl, fun w => by rw [(bAnd_0 hmb hi0 (by omega)).mp c10] at hmi; exact absurd (hmi.mpr w) (by decide)⟩, rfl⟩)
  · refine gg_iconst k dX3_setsUp_13 ?_
    refine gg_goto (tgt := 18) k dX3_setsUp_14 (by decide) ?_
    exact hret _ _ _ _ dX3_setsUp_18 (⟨by omega, by omega⟩) (⟨Or.inl ⟨rfl, hmi.mp (by cases hz : sb (C 59 p) i; (· exact absurd ((bAnd_0 hmb hi0 (by omega)).mpr hz) c10); (· rfl))⟩, rfl⟩)

abbrev rX5_isSetUp : Room := { frames := 1, cells := 0, slots := 0, locals := 25 }
set_option maxRecDepth 100000 in
set_option maxHeartbeats 4000000 in
theorem kX5_isSetUp {l : Launch} {B : gB} {T : Int} {S : sS} {C : gSt} (hB : clsB B T) (hO : sOk S T) (hR : cRel S T C) (i p : Int) (hi : rI i) (hp : rI p) : gMi l B yX5_isSetUp wsX5_isSetUp rX5_isSetUp [.ref (gad B (0)), .int (iI (i)), .int (iI (p))] C (fun z C' => cRel S T C' ∧ z = if (0 ≤ i ∧ i < sCnt S) ∧ 1 ≤ p ∧ p ≤ T then (if sSet S i p then 1 else 0) else -1) := by
  refine gMi_of (ty := .int) rfl (cc := cX5_isSetUp) (nL := 3) (by decide) rfl (Nat.le_of_ble_eq_true rfl) (fun K k hret => ?_)
  have k : gOk K B l rX5_isSetUp 3 cX5_isSetUp RX5 wsX5_isSetUp := k
  show GG K B C 0 [(0, .ref (gad B (0))), (1, .int (iI (i))), (2, .int (iI (p)))] []
  have hT := hO.t
  have hc := hO.cnt
  obtain ⟨hi1, hi2⟩ := hi
  obtain ⟨hp1, hp2⟩ := hp
  refine gg_aload_n k dX5_isSetUp_0 rfl ?_
  refine gg_iload_n k dX5_isSetUp_1 rfl ?_
  refine gg_calli (n := 1) (As := [.int (iI (i))]) (rest := []) k (kX5_isItem hB hO hR (i) ⟨by omega, by omega⟩) ⟨_, _, _, gX5_isSetUp_X5_isItem, rfl, rfl, rfl, by decide +kernel, by decide, by decide⟩ (cb0 hB) rfl rfl (Nat.le_of_ble_eq_true rfl) dX5_isSetUp_2 (fun z2 C2 r2 q2 => ?_)
  obtain ⟨q2, e2⟩ := q2
  rw [e2]
  clear e2
  obtain ⟨r2, s2⟩ := r2
  refine gg_if_eq k 16 dX5_isSetUp_5 (by decide) ⟨by omega, by omega⟩ (fun c5 => ?_) (fun c5 => ?_)
  · refine gg_iconst k dX5_isSetUp_16 ?_
    exact hret _ _ _ _ dX5_isSetUp_17 (⟨by omega, by omega⟩) (⟨hR, by rw [if_neg (by omega)]⟩)
  · refine gg_aload_n k dX5_isSetUp_8 rfl ?_
    refine gg_iload_n k dX5_isSetUp_9 rfl ?_
    refine gg_calli (n := 1) (As := [.int (iI (p))]) (rest := []) k (kX5_isPeriod hB hO hR (p) ⟨by omega, by omega⟩) ⟨_, _, _, gX5_isSetUp_X5_isPeriod, rfl, rfl, rfl, by decide +kernel, by decide, by decide⟩ (cb0 hB) rfl rfl (Nat.le_of_ble_eq_true rfl) dX5_isSetUp_10 (fun z10 C10 r10 q10 => ?_)
    obtain ⟨q10, e10⟩ := q10
    rw [e10]
    clear e10
    obtain ⟨r10, s10⟩ := r10
    refine gg_if_ne k 18 dX5_isSetUp_13 (by decide) ⟨by omega, by omega⟩ (fun c13 => ?_) (fun c13 => ?_)
    · refine gg_aload_n k dX5_isSetUp_18 rfl ?_
      refine gg_get k (cb0 hB) inX5_isSetUp_X5 5 (by decide) fX5_isSetUp_49 rfl rfl dX5_isSetUp_19 ?_
      refine gg_aload_n k dX5_isSetUp_22 rfl ?_
      refine gg_get k (cb0 hB) inX5_isSetUp_X5 1 (by decide) fX5_isSetUp_26 rfl rfl dX5_isSetUp_23 ?_
      refine gg_aload_n k dX5_isSetUp_26 rfl ?_
      refine gg_get k (cb0 hB) inX5_isSetUp_X5 2 (by decide) fX5_isSetUp_33 rfl rfl dX5_isSetUp_27 ?_
      refine gg_ti hR.cnt ?_
      refine gg_callv (n := 2) (As := [.ref (gad B (1)), .int (iI (sCnt S))]) (rest := []) k (kX3_follow hB hO hR) ⟨_, _, _, gX5_isSetUp_X3_follow, rfl, rfl, rfl, by decide +kernel, by decide, by decide⟩ (cbMach hB) rfl rfl (Nat.le_of_ble_eq_true rfl) dX5_isSetUp_30 (fun C30 q30 => ?_)
      obtain ⟨hR, hm30, hk30⟩ := q30
      refine gg_aload_n k dX5_isSetUp_33 rfl ?_
      refine gg_get k (cb0 hB) inX5_isSetUp_X5 5 (by decide) fX5_isSetUp_49 rfl rfl dX5_isSetUp_34 ?_
      refine gg_iload_n k dX5_isSetUp_37 rfl ?_
      refine gg_iload_n k dX5_isSetUp_38 rfl ?_
      refine gg_calli (n := 2) (As := [.int (iI (i)), .int (iI (p))]) (rest := []) k (kX3_setsUp hB hO hR hm30 (i) (p) (by omega) (by omega) (by omega) (by omega)) ⟨_, _, _, gX5_isSetUp_X3_setsUp, rfl, rfl, rfl, by decide +kernel, by decide, by decide⟩ (cbMach hB) rfl rfl (Nat.le_of_ble_eq_true rfl) dX5_isSetUp_39 (fun z39 C39 r39 q39 => ?_)
      obtain ⟨q39, e39⟩ := q39
      rw [e39]
      clear e39
      obtain ⟨r39, s39⟩ := r39
      refine gg_if_eq k 49 dX5_isSetUp_42 (by decide) ⟨by omega, by omega⟩ (fun c42 => ?_) (fun c42 => ?_)
      · refine gg_iconst k dX5_isSetUp_49 ?_
        exact hret _ _ _ _ dX5_isSetUp_50 (⟨by omega, by omega⟩) (⟨hR, by rw [if_pos (by omega), if_neg (by rcases q39 with w | w; (· omega); (· exact w.2))]⟩)
      · refine gg_iconst k dX5_isSetUp_45 ?_
        refine gg_goto (tgt := 50) k dX5_isSetUp_46 (by decide) ?_
        exact hret _ _ _ _ dX5_isSetUp_50 (⟨by omega, by omega⟩) (⟨hR, by rw [if_pos (by omega), if_pos (by rcases q39 with w | w; (· exact w.2); (· omega))]⟩)
    · refine gg_iconst k dX5_isSetUp_16 ?_
      exact hret _ _ _ _ dX5_isSetUp_17 (⟨by omega, by omega⟩) (⟨hR, by rw [if_neg (by omega)]⟩)

abbrev rX5_stands : Room := { frames := 2, cells := 0, slots := 0, locals := 42 }
set_option maxRecDepth 100000 in
set_option maxHeartbeats 4000000 in
theorem kX5_stands {l : Launch} {B : gB} {T : Int} {S : sS} {C : gSt} (hB : clsB B T) (hO : sOk S T) (hR : cRel S T C) (p : Int) (hp : rI p) : gMi l B yX5_stands wsX5_stands rX5_stands [.ref (gad B (0)), .int (iI (p))] C (fun z C' => cRel S T C' ∧ z = if 0 ≤ p ∧ p ≤ T then sSt S p.toNat else -1) := by
  refine gMi_of (ty := .int) rfl (cc := cX5_stands) (nL := 2) (by decide) rfl (Nat.le_of_ble_eq_true rfl) (fun K k hret => ?_)
  have k : gOk K B l rX5_stands 2 cX5_stands RX5 wsX5_stands := k
  show GG K B C 0 [(0, .ref (gad B (0))), (1, .int (iI (p)))] []
  have hT := hO.t
  have hc := hO.cnt
  obtain ⟨hp1, hp2⟩ := hp
  refine gg_aload_n k dX5_stands_0 rfl ?_
  refine gg_iload_n k dX5_stands_1 rfl ?_
  refine gg_calli (n := 1) (As := [.int (iI (p))]) (rest := []) k (kX5_isPeriodOrBeginning hB hO hR (p) ⟨by omega, by omega⟩) ⟨_, _, _, gX5_stands_X5_isPeriodOrBeginning, rfl, rfl, rfl, by decide +kernel, by decide, by decide⟩ (cb0 hB) rfl rfl (Nat.le_of_ble_eq_true rfl) dX5_stands_2 (fun z2 C2 r2 q2 => ?_)
  obtain ⟨q2, e2⟩ := q2
  rw [e2]
  clear e2
  obtain ⟨r2, s2⟩ := r2
  refine gg_if_ne k 10 dX5_stands_5 (by decide) ⟨by omega, by omega⟩ (fun c5 => ?_) (fun c5 => ?_)
  · refine gg_aload_n k dX5_stands_10 rfl ?_
    refine gg_get k (cb0 hB) inX5_stands_X5 5 (by decide) fX5_stands_49 rfl rfl dX5_stands_11 ?_
    refine gg_aload_n k dX5_stands_14 rfl ?_
    refine gg_get k (cb0 hB) inX5_stands_X5 1 (by decide) fX5_stands_26 rfl rfl dX5_stands_15 ?_
    refine gg_aload_n k dX5_stands_18 rfl ?_
    refine gg_get k (cb0 hB) inX5_stands_X5 2 (by decide) fX5_stands_33 rfl rfl dX5_stands_19 ?_
    refine gg_ti hR.cnt ?_
    refine gg_callv (n := 2) (As := [.ref (gad B (1)), .int (iI (sCnt S))]) (rest := []) k (kX3_follow hB hO hR) ⟨_, _, _, gX5_stands_X3_follow, rfl, rfl, rfl, by decide +kernel, by decide, by decide⟩ (cbMach hB) rfl rfl (Nat.le_of_ble_eq_true rfl) dX5_stands_22 (fun C22 q22 => ?_)
    obtain ⟨hR, hm22, hk22⟩ := q22
    refine gg_aload_n k dX5_stands_25 rfl ?_
    refine gg_get k (cb0 hB) inX5_stands_X5 5 (by decide) fX5_stands_49 rfl rfl dX5_stands_26 ?_
    refine gg_get k (cbMach hB) inX5_stands_X3 1 (by decide) fX5_stands_127 rfl rfl dX5_stands_29 ?_
    refine gg_iload_n k dX5_stands_32 rfl ?_
    refine gg_iald k (cbStanding hB) (by omega) (by omega) dX5_stands_33 ?_
    refine gg_ti (hm22.1 p (by omega) (by omega)) ?_
    have hb9 := sSt_b hO p.toNat
    exact hret _ _ _ _ dX5_stands_34 (⟨by omega, by omega⟩) (⟨hR, by rw [if_pos (by omega)]⟩)
  · refine gg_iconst k dX5_stands_8 ?_
    exact hret _ _ _ _ dX5_stands_9 (⟨by omega, by omega⟩) (⟨hR, by rw [if_neg (by omega)]⟩)

abbrev rX5_timeOf : Room := { frames := 1, cells := 0, slots := 0, locals := 22 }
set_option maxRecDepth 100000 in
set_option maxHeartbeats 4000000 in
theorem kX5_timeOf {l : Launch} {B : gB} {T : Int} {S : sS} {C : gSt} (hB : clsB B T) (hO : sOk S T) (hR : cRel S T C) (hm : cMach S C T) (p : Int) (hp0 : 1 ≤ p) (hp1 : p ≤ T) : gMl l B yX5_timeOf wsX5_timeOf rX5_timeOf [.ref (gad B (0)), .int (iI (p))] C (fun z C' => z = sTime S p ∧ C' = C) := by
  refine gMl_of (cc := cX5_timeOf) (nL := 5) (by decide) rfl (Nat.le_of_ble_eq_true rfl) (fun K k hret => ?_)
  have k : gOk K B l rX5_timeOf 5 cX5_timeOf RX5 wsX5_timeOf := k
  show GG K B C 0 [(0, .ref (gad B (0))), (1, .int (iI (p)))] []
  have hT := hO.t
  have hc := hO.cnt
  
  refine gg_lconst0 k dX5_timeOf_0 ?_
  refine gg_lstore_n k [(2, .long (iL (0))), (0, .ref (gad B (0))), (1, .int (iI (p)))] dX5_timeOf_1 (by decide) rfl ?_
  refine gg_iconst k dX5_timeOf_2 ?_
  refine gg_istore k [(4, .int (iI (0))), (2, .long (iL (0))), (0, .ref (gad B (0))), (1, .int (iI (p)))] dX5_timeOf_3 (by decide) rfl ?_
  have L5 : ∀ (n5 : Nat) (j : Int) (sm : Int), 0 ≤ j → j ≤ sCnt S → sm = sTimeN S p j.toNat → sCnt S - j < (n5 : Int) → GG K B C 5 [(0, .ref (gad B (0))), (1, .int (iI (p))), (2, .long (iL (sm))), (4, .int (iI (j)))] [] := by
    intro n5
    induction n5 with
    | zero =>
      intro j sm hj0 hj1 hs hn5
      exact absurd hn5 (by omega)
    | succ n5 ih5 =>
      intro j sm hj0 hj1 hs hn5
      refine gg_iload k dX5_timeOf_5 rfl ?_
      refine gg_aload_n k dX5_timeOf_7 rfl ?_
      refine gg_get k (cb0 hB) inX5_timeOf_X5 2 (by decide) fX5_timeOf_33 rfl rfl dX5_timeOf_8 ?_
      refine gg_ti hR.cnt ?_
      refine gg_icmp_ge k 79 dX5_timeOf_11 (by decide) ⟨by omega, by omega⟩ ⟨by omega, by omega⟩ (fun c11 => ?_) (fun c11 => ?_)
      · refine gg_lload_n k dX5_timeOf_79 rfl ?_
        exact hret _ _ _ _ dX5_timeOf_80 (by have := sTime_b hO p; unfold sTime at this; rw [hs, show j = sCnt S by omega]; exact ⟨by omega, by omega⟩) (⟨by unfold sTime; rw [hs, show j = sCnt S by omega], rfl⟩)
      · refine gg_lload_n k dX5_timeOf_14 rfl ?_
        refine gg_aload_n k dX5_timeOf_15 rfl ?_
        refine gg_get k (cb0 hB) inX5_timeOf_X5 1 (by decide) fX5_timeOf_26 rfl rfl dX5_timeOf_16 ?_
        refine gg_iload k dX5_timeOf_19 rfl ?_
        refine gg_aald k (cb1 hB) (by omega) (by omega) dX5_timeOf_21 ?_
        refine gg_get k (cbItem hB (by omega) (by omega)) inX5_timeOf_X2 2 (by decide) fX5_timeOf_94 rfl rfl dX5_timeOf_22 ?_
        refine gg_iload_n k dX5_timeOf_25 rfl ?_
        refine gg_iald k (cbLot hB (by omega) (by omega)) (by omega) (by omega) dX5_timeOf_26 ?_
        refine gg_ti (hR.lot _ (by omega) (by omega)) ?_
        have b26 := hO.lot (j) (p)
        refine gg_aload_n k dX5_timeOf_27 rfl ?_
        refine gg_get k (cb0 hB) inX5_timeOf_X5 1 (by decide) fX5_timeOf_26 rfl rfl dX5_timeOf_28 ?_
        refine gg_iload k dX5_timeOf_31 rfl ?_
        refine gg_aald k (cb1 hB) (by omega) (by omega) dX5_timeOf_33 ?_
        refine gg_get k (cbItem hB (by omega) (by omega)) inX5_timeOf_X2 0 (by decide) fX5_timeOf_71 rfl rfl dX5_timeOf_34 ?_
        refine gg_iconst k dX5_timeOf_37 ?_
        refine gg_iald k (cbNum hB (by omega) (by omega)) (by omega) (by omega) dX5_timeOf_38 ?_
        refine gg_ti (hR.num _ (by omega) (by omega)) ?_
        have b38 := hO.n5 (j)
        refine gg_imul k dX5_timeOf_39 ?_
        have hlt := sLT_b hO j p
        refine gg_i2l k dX5_timeOf_40 ⟨by omega, by omega⟩ ?_
        refine gg_ladd k dX5_timeOf_41 ?_
        refine gg_lstore_n k [(2, .long (iL (sm + ((sLot S (j) (p)) * (sNum S (j) (5)))))), (0, .ref (gad B (0))), (1, .int (iI (p))), (4, .int (iI (j)))] dX5_timeOf_42 (by decide) rfl ?_
        refine gg_aload_n k dX5_timeOf_43 rfl ?_
        refine gg_get k (cb0 hB) inX5_timeOf_X5 5 (by decide) fX5_timeOf_49 rfl rfl dX5_timeOf_44 ?_
        refine gg_iload k dX5_timeOf_47 rfl ?_
        refine gg_iload_n k dX5_timeOf_49 rfl ?_
        refine gg_calli (n := 2) (As := [.int (iI (j)), .int (iI (p))]) (rest := []) k (kX3_setsUp hB hO hR hm (j) (p) (by omega) (by omega) (by omega) (by omega)) ⟨_, _, _, gX5_timeOf_X3_setsUp, rfl, rfl, rfl, by decide +kernel, by decide, by decide⟩ (cbMach hB) rfl rfl (Nat.le_of_ble_eq_true rfl) dX5_timeOf_50 (fun z50 C50 r50 q50 => ?_)
        obtain ⟨q50, e50⟩ := q50
        rw [e50]
        clear e50
        obtain ⟨r50, s50⟩ := r50
        refine gg_if_eq k 73 dX5_timeOf_53 (by decide) ⟨by omega, by omega⟩ (fun c53 => ?_) (fun c53 => ?_)
        · refine gg_iinc k 3 [(4, .int (iI (j + 1))), (2, .long (iL (sm + ((sLot S (j) (p)) * (sNum S (j) (5)))))), (0, .ref (gad B (0))), (1, .int (iI (p)))] dX5_timeOf_73 rfl (by decide) rfl ?_
          refine gg_goto (tgt := 5) k dX5_timeOf_76 (by decide) ?_
          refine gg_sub [2, 3, 1, 0] rfl ?_
          exact ih5 (j + 1) (sm + ((sLot S (j) (p)) * (sNum S (j) (5)))) (by omega) (by omega) (by rw [sTimeN_s hj0, hs, if_neg (by rcases q50 with w | w; (· omega); (· exact w.2))]; omega) (by omega)
        · refine gg_lload_n k dX5_timeOf_56 rfl ?_
          refine gg_aload_n k dX5_timeOf_57 rfl ?_
          refine gg_get k (cb0 hB) inX5_timeOf_X5 1 (by decide) fX5_timeOf_26 rfl rfl dX5_timeOf_58 ?_
          refine gg_iload k dX5_timeOf_61 rfl ?_
          refine gg_aald k (cb1 hB) (by omega) (by omega) dX5_timeOf_63 ?_
          refine gg_get k (cbItem hB (by omega) (by omega)) inX5_timeOf_X2 0 (by decide) fX5_timeOf_71 rfl rfl dX5_timeOf_64 ?_
          refine gg_bipush k dX5_timeOf_67 (by decide +kernel) ?_
          refine gg_iald k (cbNum hB (by omega) (by omega)) (by omega) (by omega) dX5_timeOf_69 ?_
          refine gg_ti (hR.num _ (by omega) (by omega)) ?_
          have b69 := hO.n6 (j)
          refine gg_i2l k dX5_timeOf_70 ⟨by omega, by omega⟩ ?_
          refine gg_ladd k dX5_timeOf_71 ?_
          refine gg_lstore_n k [(2, .long (iL ((sm + ((sLot S (j) (p)) * (sNum S (j) (5)))) + (sNum S (j) (6))))), (0, .ref (gad B (0))), (1, .int (iI (p))), (4, .int (iI (j)))] dX5_timeOf_72 (by decide) rfl ?_
          refine gg_iinc k 3 [(4, .int (iI (j + 1))), (2, .long (iL ((sm + ((sLot S (j) (p)) * (sNum S (j) (5)))) + (sNum S (j) (6))))), (0, .ref (gad B (0))), (1, .int (iI (p)))] dX5_timeOf_73 rfl (by decide) rfl ?_
          refine gg_goto (tgt := 5) k dX5_timeOf_76 (by decide) ?_
          refine gg_sub [2, 3, 1, 0] rfl ?_
          exact ih5 (j + 1) ((sm + ((sLot S (j) (p)) * (sNum S (j) (5)))) + (sNum S (j) (6))) (by omega) (by omega) (by rw [sTimeN_s hj0, hs, if_pos (by rcases q50 with w | w; (· exact w.2); (· omega))]) (by omega)
  refine gg_sub [2, 3, 1, 0] rfl ?_
  exact L5 ((sCnt S - 0).toNat + 1) (0) (0) (by omega) (by omega) (rfl) (by omega)

abbrev rX5_overOf : Room := { frames := 2, cells := 0, slots := 0, locals := 46 }
set_option maxRecDepth 100000 in
set_option maxHeartbeats 4000000 in
theorem kX5_overOf {l : Launch} {B : gB} {T : Int} {S : sS} {C : gSt} (hB : clsB B T) (hO : sOk S T) (hR : cRel S T C) (hm : cMach S C T) (p : Int) (hp0 : 1 ≤ p) (hp1 : p ≤ T) : gMl l B yX5_overOf wsX5_overOf rX5_overOf [.ref (gad B (0)), .int (iI (p))] C (fun z C' => z = sOver S p ∧ C' = C) := by
  refine gMl_of (cc := cX5_overOf) (nL := 2) (by decide) rfl (Nat.le_of_ble_eq_true rfl) (fun K k hret => ?_)
  have k : gOk K B l rX5_overOf 2 cX5_overOf RX5 wsX5_overOf := k
  show GG K B C 0 [(0, .ref (gad B (0))), (1, .int (iI (p)))] []
  have hT := hO.t
  have hc := hO.cnt
  
  refine gg_lconst0 k dX5_overOf_0 ?_
  refine gg_aload_n k dX5_overOf_1 rfl ?_
  refine gg_iload_n k dX5_overOf_2 rfl ?_
  refine gg_calll (n := 1) (As := [.int (iI (p))]) (rest := [.long (iL (0))]) k (kX5_timeOf hB hO hR hm (p) (by omega) (by omega)) ⟨_, _, _, gX5_overOf_X5_timeOf, rfl, rfl, rfl, by decide +kernel, by decide, by decide⟩ (cb0 hB) rfl rfl (Nat.le_of_ble_eq_true rfl) dX5_overOf_3 (fun z3 C3 r3 q3 => ?_)
  obtain ⟨q3, e3⟩ := q3
  rw [e3]
  clear e3
  obtain ⟨r3, s3⟩ := r3
  have tb3 := sTime_b hO p
  refine gg_aload_n k dX5_overOf_6 rfl ?_
  refine gg_get k (cb0 hB) inX5_overOf_X5 3 (by decide) fX5_overOf_36 rfl rfl dX5_overOf_7 ?_
  refine gg_iload_n k dX5_overOf_10 rfl ?_
  refine gg_iald k (cbCap hB) (by omega) (by omega) dX5_overOf_11 ?_
  refine gg_ti (hR.cap (by omega) (by omega)) ?_
  have b11 := hO.cap (p)
  refine gg_i2l k dX5_overOf_12 ⟨by omega, by omega⟩ ?_
  refine gg_lsub k dX5_overOf_13 ?_
  refine gg_maxl k ⟨by omega, by omega⟩ ⟨by omega, by omega⟩ dX5_overOf_14 mX5_overOf_184.1 mX5_overOf_184.2.1 mX5_overOf_184.2.2.1 mX5_overOf_184.2.2.2 (Nat.le_of_ble_eq_true rfl) (Nat.le_of_ble_eq_true rfl) ?_
  exact hret _ _ _ _ dX5_overOf_17 (⟨by omega, by omega⟩) (⟨by unfold sOver; rw [← q3], rfl⟩)
