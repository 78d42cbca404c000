abbrev rX6_machine : Room := { frames := 0, cells := 0, slots := 0, locals := 0 }
set_option maxRecDepth 100000 in
set_option maxHeartbeats 4000000 in
theorem kX6_machine {l : Launch} {B : gB} {T : Int} {S : sS} {C : gSt} (hB : mdlB B T) (hO : sOk S T) (hR : mRel S T C)  : gMv l B yX6_machine wsX6_machine rX6_machine [.ref (gad B (0))] C (fun C' => mRel S T C' ∧ mMach S C' T ∧ ∀ q : Nat, q ≠ 11 → q ≠ 12 → C' q = C q) := by
  refine gMv_of (cc := cX6_machine) (nL := 4) (by decide) rfl (Nat.le_of_ble_eq_true rfl) (fun K k hret => ?_)
  have k : gOk K B l rX6_machine 4 cX6_machine RX6 wsX6_machine := k
  show GG K B C 0 [(0, .ref (gad B (0)))] []
  have hT := hO.t
  have hc := hO.cnt
  
  refine gg_aload_n k dX6_machine_0 rfl ?_
  refine gg_get k (mb0 hB) inX6_machine_X6 15 (by decide) fX6_machine_42 rfl rfl dX6_machine_1 ?_
  refine gg_iconst k dX6_machine_4 ?_
  refine gg_bipush k dX6_machine_5 (by decide +kernel) ?_
  refine gg_iast k (mb11 hB) (by omega) (by omega) dX6_machine_7 ?_
  refine gg_nm (fun C7 e7 => ?_)
  have hR : mRel S T C7 := by rw [e7]; exact hR.wri (Or.inl (by omega))
  refine gg_iconst k dX6_machine_8 ?_
  refine gg_istore_n k [(1, .int (iI (1))), (0, .ref (gad B (0)))] dX6_machine_9 (by decide) rfl ?_
  have L10 : ∀ (n10 : Nat) (p : Int) (C1 : gSt), (1 ≤ p) → (p ≤ T + 1) → (mRel S T C1) → (mMach S C1 (p - 1)) → ((∀ q : Nat, q ≠ 11 → q ≠ 12 → C1 q = C q)) → T + 1 - p < (n10 : Int) → GG K B C1 10 [(0, .ref (gad B (0))), (1, .int (iI (p)))] [] := by
    intro n10
    induction n10 with
    | zero =>
      intro p C1 hp0 hp1 hR hm1 hk1 hn10
      exact absurd hn10 (by omega)
    | succ n10 ih10 =>
      intro p C1 hp0 hp1 hR hm1 hk1 hn10
      have hsb := sSt_b hO (p - 1).toNat
      refine gg_iload_n k dX6_machine_10 rfl ?_
      refine gg_aload_n k dX6_machine_11 rfl ?_
      refine gg_get k (mb0 hB) inX6_machine_X6 1 (by decide) fX6_machine_69 rfl rfl dX6_machine_12 ?_
      refine gg_icmp_gt k 136 dX6_machine_15 (by decide) ⟨by omega, by omega⟩ ⟨by omega, by omega⟩ (fun c15 => ?_) (fun c15 => ?_)
      · exact hret _ _ _ dX6_machine_136 (⟨hR, by rw [← show p - 1 = T by omega]; exact hm1, hk1⟩)
      · refine gg_aload_n k dX6_machine_18 rfl ?_
        refine gg_get k (mb0 hB) inX6_machine_X6 15 (by decide) fX6_machine_42 rfl rfl dX6_machine_19 ?_
        refine gg_iload_n k dX6_machine_22 rfl ?_
        refine gg_aload_n k dX6_machine_23 rfl ?_
        refine gg_get k (mb0 hB) inX6_machine_X6 15 (by decide) fX6_machine_42 rfl rfl dX6_machine_24 ?_
        refine gg_iload_n k dX6_machine_27 rfl ?_
        refine gg_iconst k dX6_machine_28 ?_
        refine gg_isub k dX6_machine_29 ?_
        refine gg_iald k (mb11 hB) (by omega) (by omega) dX6_machine_30 ?_
        refine gg_ti (hm1.1 (p - 1) (by omega) (by omega)) ?_
        refine gg_iast k (mb11 hB) (by omega) (by omega) dX6_machine_31 ?_
        refine gg_nm (fun C31 e31 => ?_)
        have hR : mRel S T C31 := by rw [e31]; exact hR.wri (Or.inl (by omega))
        refine gg_iconst k dX6_machine_32 ?_
        refine gg_istore_n k [(2, .int (iI (0))), (0, .ref (gad B (0))), (1, .int (iI (p)))] dX6_machine_33 (by decide) rfl ?_
        have L34 : ∀ (n34 : Nat) (x : Int) (C2 : gSt), (0 ≤ x) → (x ≤ sCnt S) → (mRel S T C2) → (C2 11 p = sStI S p (sSt S (p - 1).toNat) x.toNat) → ((∀ y : Int, 0 ≤ y → y < x → C2 12 (13 * y + p) = if sSet S y p then 1 else 0)) → ((∀ j : Int, j ≠ p → C2 11 j = C1 11 j)) → ((∀ y j : Int, 0 ≤ y → y < 6 → 0 ≤ j → j < 13 → j ≠ p → C2 12 (13 * y + j) = C1 12 (13 * y + j))) → ((∀ q : Nat, q ≠ 11 → q ≠ 12 → C2 q = C q)) → sCnt S - x < (n34 : Int) → GG K B C2 34 [(0, .ref (gad B (0))), (1, .int (iI (p))), (2, .int (iI (x)))] [] := by
          intro n34
          induction n34 with
          | zero =>
            intro x C2 hx0 hx1 hR hs2 hset ho2 hoz hk2 hn34
            exact absurd hn34 (by omega)
          | succ n34 ih34 =>
            intro x C2 hx0 hx1 hR hs2 hset ho2 hoz hk2 hn34
            have hib := sStI_b (S := S) (p := p) (b := sSt S (p - 1).toNat) x.toNat
            refine gg_iload_n k dX6_machine_34 rfl ?_
            refine gg_aload_n k dX6_machine_35 rfl ?_
            refine gg_get k (mb0 hB) inX6_machine_X6 2 (by decide) fX6_machine_76 rfl rfl dX6_machine_36 ?_
            refine gg_ti hR.cnt ?_
            refine gg_icmp_ge k 130 dX6_machine_39 (by decide) ⟨by omega, by omega⟩ ⟨by omega, by omega⟩ (fun c39 => ?_) (fun c39 => ?_)
            · refine gg_iinc k 1 [(1, .int (iI (p + 1))), (0, .ref (gad B (0))), (2, .int (iI (x)))] dX6_machine_130 rfl (by decide) rfl ?_
              refine gg_goto (tgt := 10) k dX6_machine_133 (by decide) ?_
              refine gg_sub [1, 0] rfl ?_
              exact ih10 (p + 1) (C2) (by omega) (by omega) (hR) (by
                rw [show p + 1 - 1 = p by omega]
                refine ⟨fun j h0 h1 => ?_, fun y j h0 h1 h2 h3 => ?_⟩
                · by_cases hj : j = p
                  · rw [hj, hs2, show x = sCnt S by omega]; exact (sSt_s (by omega)).symm
                  · rw [ho2 j hj]; exact hm1.1 j h0 (by omega)
                · by_cases hj : j = p
                  · rw [hj]; exact hset y h0 (by omega)
                  · rw [hoz y j h0 (by omega) (by omega) (by omega) hj]; exact hm1.2 y j h0 h1 h2 (by omega)) (hk2) (by omega)
            · have J93 : ∀ (z : Int), (z = if sSet S x p then 1 else 0) → GG K B C2 93 [(0, .ref (gad B (0))), (1, .int (iI (p))), (2, .int (iI (x)))] [.int (iI (z)), .int (iI ((13 * x) + p)), .ref (gad B (12))] := by
                intro z hz
                have hz01 : z = 0 ∨ z = 1 := by rw [hz]; split; (· exact Or.inr rfl); (· exact Or.inl rfl)
                refine gg_zast k (mb12 hB) (by omega) (by omega) (hz01) dX6_machine_93 ?_
                refine gg_nm (fun C93 e93 => ?_)
                have hR : mRel S T C93 := by rw [e93]; exact hR.wri (Or.inl (by omega))
                have J123 : ∀ (y : Int), (y = sStI S p (sSt S (p - 1).toNat) (x + 1).toNat) → (rI y) → GG K B C93 123 [(0, .ref (gad B (0))), (1, .int (iI (p))), (2, .int (iI (x)))] [.int (iI (y)), .int (iI (p)), .ref (gad B (11))] := by
                  intro y hy hyb
                  refine gg_iast k (mb11 hB) (by omega) (by omega) dX6_machine_123 ?_
                  refine gg_nm (fun C123 e123 => ?_)
                  have hR : mRel S T C123 := by rw [e123]; exact hR.wri (Or.inl (by omega))
                  refine gg_iinc k 2 [(2, .int (iI (x + 1))), (0, .ref (gad B (0))), (1, .int (iI (p)))] dX6_machine_124 rfl (by decide) rfl ?_
                  refine gg_goto (tgt := 34) k dX6_machine_127 (by decide) ?_
                  refine gg_sub [1, 2, 0] rfl ?_
                  exact ih34 (x + 1) (C123) (by omega) (by omega) (hR) (by rw [e123, wr_s]; exact hy) (fun y h0 h1 => by rw [e123, wr_k (by omega), e93, wr_w]; by_cases hj : y = x; (· rw [hj, if_pos rfl]; exact hz); (· rw [if_neg (by omega)]; exact hset y h0 (by omega))) (fun j hj => by rw [e123, wr_j hj, e93, wr_k (by omega)]; exact ho2 j hj) (fun y j h0 h1 h2 h3 hj => by rw [e123, wr_k (by omega), e93, wr_j (by omega)]; exact hoz y j h0 h1 h2 h3 hj) (fun q h1 h2 => by rw [e123, wr_k h1, e93, wr_k h2]; exact hk2 q h1 h2) (by omega)
                refine gg_aload_n k dX6_machine_94 rfl ?_
                refine gg_get k (mb0 hB) inX6_machine_X6 15 (by decide) fX6_machine_42 rfl rfl dX6_machine_95 ?_
                refine gg_iload_n k dX6_machine_98 rfl ?_
                refine gg_aload_n k dX6_machine_99 rfl ?_
                refine gg_get k (mb0 hB) inX6_machine_X6 16 (by decide) fX6_machine_45 rfl rfl dX6_machine_100 ?_
                refine gg_bipush k dX6_machine_103 (by decide +kernel) ?_
                refine gg_iload_n k dX6_machine_105 rfl ?_
                refine gg_imul k dX6_machine_106 ?_
                refine gg_iload_n k dX6_machine_107 rfl ?_
                refine gg_iadd k dX6_machine_108 ?_
                refine gg_zald k (mb12 hB) (by omega) (by omega) dX6_machine_109 ?_
                refine gg_ti (show C93 12 (13 * x + p) = z by rw [e93, wr_s]) ?_
                refine gg_if_eq k 117 dX6_machine_110 (by decide) ⟨by omega, by omega⟩ (fun c110 => ?_) (fun c110 => ?_)
                · refine gg_aload_n k dX6_machine_117 rfl ?_
                  refine gg_get k (mb0 hB) inX6_machine_X6 15 (by decide) fX6_machine_42 rfl rfl dX6_machine_118 ?_
                  refine gg_iload_n k dX6_machine_121 rfl ?_
                  refine gg_iald k (mb11 hB) (by omega) (by omega) dX6_machine_122 ?_
                  refine gg_ti (show C93 11 p = C2 11 p by rw [e93, wr_k (by omega)]) ?_
                  exact J123 (C2 11 p) (by rw [sStI_s hx0]; by_cases hsz : sSet S x p; (· rw [if_pos hsz] at hz; omega); (· rw [if_neg hsz]; exact hs2)) (⟨by omega, by omega⟩)
                · refine gg_iload_n k dX6_machine_113 rfl ?_
                  refine gg_goto (tgt := 123) k dX6_machine_114 (by decide) ?_
                  exact J123 (x) (by rw [sStI_s hx0]; by_cases hsz : sSet S x p; (· rw [if_pos hsz]); (· rw [if_neg hsz] at hz; omega)) (⟨by omega, by omega⟩)
              refine gg_aload_n k dX6_machine_42 rfl ?_
              refine gg_get k (mb0 hB) inX6_machine_X6 5 (by decide) fX6_machine_16 rfl rfl dX6_machine_43 ?_
              refine gg_bipush k dX6_machine_46 (by decide +kernel) ?_
              refine gg_iload_n k dX6_machine_48 rfl ?_
              refine gg_imul k dX6_machine_49 ?_
              refine gg_iload_n k dX6_machine_50 rfl ?_
              refine gg_iadd k dX6_machine_51 ?_
              refine gg_iald k (mb3 hB) (by omega) (by omega) dX6_machine_52 ?_
              refine gg_ti (hR.lot (i := x) (p := p) (by omega) (by omega) (by omega) (by omega) (by omega)) ?_
              have bd52 := hO.lot (x) (p)
              refine gg_if_le k 60 dX6_machine_53 (by decide) ⟨by omega, by omega⟩ (fun c53 => ?_) (fun c53 => ?_)
              · refine gg_iconst k dX6_machine_60 ?_
                refine gg_istore_n k [(3, .int (iI (0))), (0, .ref (gad B (0))), (1, .int (iI (p))), (2, .int (iI (x)))] dX6_machine_61 (by decide) rfl ?_
                refine gg_aload_n k dX6_machine_62 rfl ?_
                refine gg_get k (mb0 hB) inX6_machine_X6 16 (by decide) fX6_machine_45 rfl rfl dX6_machine_63 ?_
                refine gg_bipush k dX6_machine_66 (by decide +kernel) ?_
                refine gg_iload_n k dX6_machine_68 rfl ?_
                refine gg_imul k dX6_machine_69 ?_
                refine gg_iload_n k dX6_machine_70 rfl ?_
                refine gg_iadd k dX6_machine_71 ?_
                refine gg_iload_n k dX6_machine_72 rfl ?_
                refine gg_if_eq k 92 dX6_machine_73 (by decide) ⟨by omega, by omega⟩ (fun c73 => ?_) (fun c73 => ?_)
                · refine gg_iconst k dX6_machine_92 ?_
                  refine gg_sub [1, 2, 3] rfl ?_
                  exact J93 (0) (by rw [if_neg (show ¬ (x ≠ sSt S (p - 1).toNat ∧ 0 < sLot S x p) by omega)])
                · exfalso; omega
              · refine gg_iconst k dX6_machine_56 ?_
                refine gg_goto (tgt := 61) k dX6_machine_57 (by decide) ?_
                refine gg_istore_n k [(3, .int (iI (1))), (0, .ref (gad B (0))), (1, .int (iI (p))), (2, .int (iI (x)))] dX6_machine_61 (by decide) rfl ?_
                refine gg_aload_n k dX6_machine_62 rfl ?_
                refine gg_get k (mb0 hB) inX6_machine_X6 16 (by decide) fX6_machine_45 rfl rfl dX6_machine_63 ?_
                refine gg_bipush k dX6_machine_66 (by decide +kernel) ?_
                refine gg_iload_n k dX6_machine_68 rfl ?_
                refine gg_imul k dX6_machine_69 ?_
                refine gg_iload_n k dX6_machine_70 rfl ?_
                refine gg_iadd k dX6_machine_71 ?_
                refine gg_iload_n k dX6_machine_72 rfl ?_
                refine gg_if_eq k 92 dX6_machine_73 (by decide) ⟨by omega, by omega⟩ (fun c73 => ?_) (fun c73 => ?_)
                · exfalso; omega
                · refine gg_iload_n k dX6_machine_76 rfl ?_
                  refine gg_aload_n k dX6_machine_77 rfl ?_
                  refine gg_get k (mb0 hB) inX6_machine_X6 15 (by decide) fX6_machine_42 rfl rfl dX6_machine_78 ?_
                  refine gg_iload_n k dX6_machine_81 rfl ?_
                  refine gg_iconst k dX6_machine_82 ?_
                  refine gg_isub k dX6_machine_83 ?_
                  refine gg_iald k (mb11 hB) (by omega) (by omega) dX6_machine_84 ?_
                  refine gg_ti (show C2 11 (p - 1) = sSt S (p - 1).toNat by rw [ho2 _ (by omega)]; exact hm1.1 (p - 1) (by omega) (by omega)) ?_
                  refine gg_icmp_eq k 92 dX6_machine_85 (by decide) ⟨by omega, by omega⟩ ⟨by omega, by omega⟩ (fun c85 => ?_) (fun c85 => ?_)
                  · refine gg_iconst k dX6_machine_92 ?_
                    refine gg_sub [1, 2, 3] rfl ?_
                    exact J93 (0) (by rw [if_neg (show ¬ (x ≠ sSt S (p - 1).toNat ∧ 0 < sLot S x p) by omega)])
                  · refine gg_iconst k dX6_machine_88 ?_
                    refine gg_goto (tgt := 93) k dX6_machine_89 (by decide) ?_
                    refine gg_sub [1, 2, 3] rfl ?_
                    exact J93 (1) (by rw [if_pos (show (x ≠ sSt S (p - 1).toNat ∧ 0 < sLot S x p) by omega)])
        refine gg_sub [1, 2, 0] rfl ?_
        exact L34 ((sCnt S - 0).toNat + 1) (0) (C31) (by omega) (by omega) (hR) (by rw [e31, wr_s]; rfl) (fun y h0 h1 => by omega) (fun j hj => by rw [e31, wr_j hj]) (fun y j _ _ _ _ _ => by rw [e31, wr_k (by omega)]) (fun q h1 h2 => by rw [e31, wr_k h1]; exact hk1 q h1 h2) (by omega)
  refine gg_sub [1, 0] rfl ?_
  exact L10 ((T + 1 - 1).toNat + 1) (1) (C7) (by omega) (by omega) (hR) (⟨fun j h0 h1 => by rw [show j = 0 by omega, e7, wr_s]; rfl, fun i j _ _ h2 h3 => by omega⟩) (fun q h1 h2 => by rw [e7, wr_k h1]) (by omega)

abbrev rX6_isSetUp : Room := { frames := 2, cells := 0, slots := 0, locals := 43 }
set_option maxRecDepth 100000 in
set_option maxHeartbeats 4000000 in
theorem kX6_isSetUp {l : Launch} {B : gB} {T : Int} {S : sS} {C : gSt} (hB : mdlB B T) (hO : sOk S T) (hR : mRel S T C) (i p : Int) (hi : rI i) (hp : rI p) : gMi l B yX6_isSetUp wsX6_isSetUp rX6_isSetUp [.ref (gad B (0)), .int (iI (i)), .int (iI (p))] C (fun z C' => mRel S T C' ∧ z = if (0 ≤ i ∧ i < sCnt S) ∧ 1 ≤ p ∧ p ≤ T then (if sSet S i p then 1 else 0) else -1) := by
  refine gMi_of (ty := .int) rfl (cc := cX6_isSetUp) (nL := 3) (by decide) rfl (Nat.le_of_ble_eq_true rfl) (fun K k hret => ?_)
  have k : gOk K B l rX6_isSetUp 3 cX6_isSetUp RX6 wsX6_isSetUp := k
  show GG K B C 0 [(0, .ref (gad B (0))), (1, .int (iI (i))), (2, .int (iI (p)))] []
  have hT := hO.t
  have hc := hO.cnt
  obtain ⟨hi1, hi2⟩ := hi
  obtain ⟨hp1, hp2⟩ := hp
  refine gg_aload_n k dX6_isSetUp_0 rfl ?_
  refine gg_iconst k dX6_isSetUp_1 ?_
  refine gg_put (e := 0) k (mb0 hB) inX6_isSetUp_X6 tyX6 tyX6_ok nmX6 0 (by decide) fX6_isSetUp_73 rfl rfl rfl (Nat.le_of_ble_eq_true rfl) rfl dX6_isSetUp_2 ?_
  refine gg_nm (fun C2 e2 => ?_)
  have hR : mRel S T C2 := by rw [e2]; exact hR.wri (Or.inr ⟨rfl, by omega, by omega, by omega⟩)
  refine gg_aload_n k dX6_isSetUp_5 rfl ?_
  refine gg_iload_n k dX6_isSetUp_6 rfl ?_
  refine gg_calli (n := 1) (As := [.int (iI (i))]) (rest := []) k (kX6_isItem hB hO hR (i) ⟨by omega, by omega⟩) ⟨_, _, _, gX6_isSetUp_X6_isItem, rfl, rfl, rfl, by decide +kernel, by decide, by decide⟩ (mb0 hB) rfl rfl (Nat.le_of_ble_eq_true rfl) dX6_isSetUp_7 (fun z7 C7 r7 q7 => ?_)
  obtain ⟨q7, e7⟩ := q7
  rw [e7]
  clear e7
  obtain ⟨r7, s7⟩ := r7
  refine gg_if_eq k 21 dX6_isSetUp_10 (by decide) ⟨by omega, by omega⟩ (fun c10 => ?_) (fun c10 => ?_)
  · refine gg_iconst k dX6_isSetUp_21 ?_
    exact hret _ _ _ _ dX6_isSetUp_22 (⟨by omega, by omega⟩) (⟨hR, by rw [if_neg (by omega)]⟩)
  · refine gg_aload_n k dX6_isSetUp_13 rfl ?_
    refine gg_iload_n k dX6_isSetUp_14 rfl ?_
    refine gg_calli (n := 1) (As := [.int (iI (p))]) (rest := []) k (kX6_isPeriod hB hO hR (p) ⟨by omega, by omega⟩) ⟨_, _, _, gX6_isSetUp_X6_isPeriod, rfl, rfl, rfl, by decide +kernel, by decide, by decide⟩ (mb0 hB) rfl rfl (Nat.le_of_ble_eq_true rfl) dX6_isSetUp_15 (fun z15 C15 r15 q15 => ?_)
    obtain ⟨q15, e15⟩ := q15
    rw [e15]
    clear e15
    obtain ⟨r15, s15⟩ := r15
    refine gg_if_ne k 23 dX6_isSetUp_18 (by decide) ⟨by omega, by omega⟩ (fun c18 => ?_) (fun c18 => ?_)
    · refine gg_aload_n k dX6_isSetUp_23 rfl ?_
      refine gg_callv (n := 0) (As := []) (rest := []) k (kX6_machine hB hO hR) ⟨_, _, _, gX6_isSetUp_X6_machine, rfl, rfl, rfl, by decide +kernel, by decide, by decide⟩ (mb0 hB) rfl rfl (Nat.le_of_ble_eq_true rfl) dX6_isSetUp_24 (fun C24 q24 => ?_)
      obtain ⟨hR, hm24, hk24⟩ := q24
      refine gg_aload_n k dX6_isSetUp_27 rfl ?_
      refine gg_get k (mb0 hB) inX6_isSetUp_X6 16 (by decide) fX6_isSetUp_45 rfl rfl dX6_isSetUp_28 ?_
      refine gg_bipush k dX6_isSetUp_31 (by decide +kernel) ?_
      refine gg_iload_n k dX6_isSetUp_33 rfl ?_
      refine gg_imul k dX6_isSetUp_34 ?_
      refine gg_iload_n k dX6_isSetUp_35 rfl ?_
      refine gg_iadd k dX6_isSetUp_36 ?_
      refine gg_zald k (mb12 hB) (by omega) (by omega) dX6_isSetUp_37 ?_
      refine gg_ti (hm24.get (i := i) (j := p) (by omega) (by omega) (by omega) (by omega) (by omega)) ?_
      have hsu : (if sSet S i p then (1 : Int) else 0) = 0 ∨ (if sSet S i p then (1 : Int) else 0) = 1 := by split; (· exact Or.inr rfl); (· exact Or.inl rfl)
      refine gg_if_eq k 45 dX6_isSetUp_38 (by decide) ⟨by omega, by omega⟩ (fun c38 => ?_) (fun c38 => ?_)
      · refine gg_iconst k dX6_isSetUp_45 ?_
        exact hret _ _ _ _ dX6_isSetUp_46 (⟨by omega, by omega⟩) (⟨hR, by rw [if_pos (show (0 ≤ i ∧ i < sCnt S) ∧ 1 ≤ p ∧ p ≤ T by omega)]; omega⟩)
      · refine gg_iconst k dX6_isSetUp_41 ?_
        refine gg_goto (tgt := 46) k dX6_isSetUp_42 (by decide) ?_
        exact hret _ _ _ _ dX6_isSetUp_46 (⟨by omega, by omega⟩) (⟨hR, by rw [if_pos (show (0 ≤ i ∧ i < sCnt S) ∧ 1 ≤ p ∧ p ≤ T by omega)]; omega⟩)
    · refine gg_iconst k dX6_isSetUp_21 ?_
      exact hret _ _ _ _ dX6_isSetUp_22 (⟨by omega, by omega⟩) (⟨hR, by rw [if_neg (by omega)]⟩)

abbrev rX6_stands : Room := { frames := 1, cells := 0, slots := 0, locals := 23 }
set_option maxRecDepth 100000 in
set_option maxHeartbeats 4000000 in
theorem kX6_stands {l : Launch} {B : gB} {T : Int} {S : sS} {C : gSt} (hB : mdlB B T) (hO : sOk S T) (hR : mRel S T C) (p : Int) (hp : rI p) : gMi l B yX6_stands wsX6_stands rX6_stands [.ref (gad B (0)), .int (iI (p))] C (fun z C' => mRel S T C' ∧ z = if 0 ≤ p ∧ p ≤ T then sSt S p.toNat else -1) := by
  refine gMi_of (ty := .int) rfl (cc := cX6_stands) (nL := 2) (by decide) rfl (Nat.le_of_ble_eq_true rfl) (fun K k hret => ?_)
  have k : gOk K B l rX6_stands 2 cX6_stands RX6 wsX6_stands := k
  show GG K B C 0 [(0, .ref (gad B (0))), (1, .int (iI (p)))] []
  have hT := hO.t
  have hc := hO.cnt
  obtain ⟨hp1, hp2⟩ := hp
  refine gg_aload_n k dX6_stands_0 rfl ?_
  refine gg_iconst k dX6_stands_1 ?_
  refine gg_put (e := 0) k (mb0 hB) inX6_stands_X6 tyX6 tyX6_ok nmX6 0 (by decide) fX6_stands_73 rfl rfl rfl (Nat.le_of_ble_eq_true rfl) rfl dX6_stands_2 ?_
  refine gg_nm (fun C2 e2 => ?_)
  have hR : mRel S T C2 := by rw [e2]; exact hR.wri (Or.inr ⟨rfl, by omega, by omega, by omega⟩)
  refine gg_iload_n k dX6_stands_5 rfl ?_
  refine gg_iconst k dX6_stands_6 ?_
  refine gg_aload_n k dX6_stands_7 rfl ?_
  refine gg_get k (mb0 hB) inX6_stands_X6 1 (by decide) fX6_stands_69 rfl rfl dX6_stands_8 ?_
  refine gg_callsi (n := 3) (As := [.int (iI (p)), .int (iI (0)), .int (iI (T))]) (rest := []) k (kX6_in (p) (0) (T) ⟨by omega, by omega⟩ ⟨by omega, by omega⟩ ⟨by omega, by omega⟩) ⟨_, _, _, gX6_stands_X6_in, rfl, rfl, rfl, by decide +kernel, by decide, by decide⟩ rfl rfl (Nat.le_of_ble_eq_true rfl) dX6_stands_11 (fun z11 C11 r11 q11 => ?_)
  obtain ⟨q11, e11⟩ := q11
  rw [e11]
  clear e11
  obtain ⟨r11, s11⟩ := r11
  refine gg_if_ne k 19 dX6_stands_14 (by decide) ⟨by omega, by omega⟩ (fun c14 => ?_) (fun c14 => ?_)
  · refine gg_aload_n k dX6_stands_19 rfl ?_
    refine gg_callv (n := 0) (As := []) (rest := []) k (kX6_machine hB hO hR) ⟨_, _, _, gX6_stands_X6_machine, rfl, rfl, rfl, by decide +kernel, by decide, by decide⟩ (mb0 hB) rfl rfl (Nat.le_of_ble_eq_true rfl) dX6_stands_20 (fun C20 q20 => ?_)
    obtain ⟨hR, hm20, hk20⟩ := q20
    refine gg_aload_n k dX6_stands_23 rfl ?_
    refine gg_get k (mb0 hB) inX6_stands_X6 15 (by decide) fX6_stands_42 rfl rfl dX6_stands_24 ?_
    refine gg_iload_n k dX6_stands_27 rfl ?_
    refine gg_iald k (mb11 hB) (by omega) (by omega) dX6_stands_28 ?_
    refine gg_ti (hm20.1 p (by omega) (by omega)) ?_
    have hb9 := sSt_b hO p.toNat
    exact hret _ _ _ _ dX6_stands_29 (⟨by omega, by omega⟩) (⟨hR, by rw [if_pos (by omega)]⟩)
  · refine gg_iconst k dX6_stands_17 ?_
    exact hret _ _ _ _ dX6_stands_18 (⟨by omega, by omega⟩) (⟨hR, by rw [if_neg (by omega)]⟩)

abbrev rX6_timeOf : Room := { frames := 1, cells := 0, slots := 0, locals := 23 }
set_option maxRecDepth 100000 in
set_option maxHeartbeats 4000000 in
theorem kX6_timeOf {l : Launch} {B : gB} {T : Int} {S : sS} {C : gSt} (hB : mdlB B T) (hO : sOk S T) (hR : mRel S T C) (p : Int) (hp0 : 1 ≤ p) (hp1 : p ≤ T) : gMl l B yX6_timeOf wsX6_timeOf rX6_timeOf [.ref (gad B (0)), .int (iI (p))] C (fun z C' => z = sTime S p ∧ mRel S T C' ∧ mMach S C' T ∧ ∀ q : Nat, q ≠ 11 → q ≠ 12 → C' q = C q) := by
  refine gMl_of (cc := cX6_timeOf) (nL := 5) (by decide) rfl (Nat.le_of_ble_eq_true rfl) (fun K k hret => ?_)
  have k : gOk K B l rX6_timeOf 5 cX6_timeOf RX6 wsX6_timeOf := k
  show GG K B C 0 [(0, .ref (gad B (0))), (1, .int (iI (p)))] []
  have hT := hO.t
  have hc := hO.cnt
  
  refine gg_aload_n k dX6_timeOf_0 rfl ?_
  refine gg_callv (n := 0) (As := []) (rest := []) k (kX6_machine hB hO hR) ⟨_, _, _, gX6_timeOf_X6_machine, rfl, rfl, rfl, by decide +kernel, by decide, by decide⟩ (mb0 hB) rfl rfl (Nat.le_of_ble_eq_true rfl) dX6_timeOf_1 (fun C1 q1 => ?_)
  obtain ⟨hR, hm1, hk1⟩ := q1
  refine gg_lconst0 k dX6_timeOf_4 ?_
  refine gg_lstore_n k [(2, .long (iL (0))), (0, .ref (gad B (0))), (1, .int (iI (p)))] dX6_timeOf_5 (by decide) rfl ?_
  refine gg_iconst k dX6_timeOf_6 ?_
  refine gg_istore k [(4, .int (iI (0))), (2, .long (iL (0))), (0, .ref (gad B (0))), (1, .int (iI (p)))] dX6_timeOf_7 (by decide) rfl ?_
  have L9 : ∀ (n9 : Nat) (j : Int) (sm : Int), (0 ≤ j) → (j ≤ sCnt S) → (sm = sTimeN S p j.toNat) → sCnt S - j < (n9 : Int) → GG K B C1 9 [(0, .ref (gad B (0))), (1, .int (iI (p))), (2, .long (iL (sm))), (4, .int (iI (j)))] [] := by
    intro n9
    induction n9 with
    | zero =>
      intro j sm hj0 hj1 hs hn9
      exact absurd hn9 (by omega)
    | succ n9 ih9 =>
      intro j sm hj0 hj1 hs hn9
      refine gg_iload k dX6_timeOf_9 rfl ?_
      refine gg_aload_n k dX6_timeOf_11 rfl ?_
      refine gg_get k (mb0 hB) inX6_timeOf_X6 2 (by decide) fX6_timeOf_76 rfl rfl dX6_timeOf_12 ?_
      refine gg_ti hR.cnt ?_
      refine gg_icmp_ge k 88 dX6_timeOf_15 (by decide) ⟨by omega, by omega⟩ ⟨by omega, by omega⟩ (fun c15 => ?_) (fun c15 => ?_)
      · refine gg_lload_n k dX6_timeOf_88 rfl ?_
        exact hret _ _ _ _ dX6_timeOf_89 (by have := sTime_b hO p; unfold sTime at this; rw [hs, show j = sCnt S by omega]; exact ⟨by omega, by omega⟩) (⟨by unfold sTime; rw [hs, show j = sCnt S by omega], hR, hm1, hk1⟩)
      · refine gg_lload_n k dX6_timeOf_18 rfl ?_
        refine gg_aload_n k dX6_timeOf_19 rfl ?_
        refine gg_get k (mb0 hB) inX6_timeOf_X6 5 (by decide) fX6_timeOf_16 rfl rfl dX6_timeOf_20 ?_
        refine gg_bipush k dX6_timeOf_23 (by decide +kernel) ?_
        refine gg_iload k dX6_timeOf_25 rfl ?_
        refine gg_imul k dX6_timeOf_27 ?_
        refine gg_iload_n k dX6_timeOf_28 rfl ?_
        refine gg_iadd k dX6_timeOf_29 ?_
        refine gg_iald k (mb3 hB) (by omega) (by omega) dX6_timeOf_30 ?_
        refine gg_ti (hR.lot (i := j) (p := p) (by omega) (by omega) (by omega) (by omega) (by omega)) ?_
        have bd30 := hO.lot (j) (p)
        refine gg_i2l k dX6_timeOf_31 ⟨by omega, by omega⟩ ?_
        refine gg_aload_n k dX6_timeOf_32 rfl ?_
        refine gg_get k (mb0 hB) inX6_timeOf_X6 3 (by decide) fX6_timeOf_7 rfl rfl dX6_timeOf_33 ?_
        refine gg_bipush k dX6_timeOf_36 (by decide +kernel) ?_
        refine gg_iload k dX6_timeOf_38 rfl ?_
        refine gg_imul k dX6_timeOf_40 ?_
        refine gg_iconst k dX6_timeOf_41 ?_
        refine gg_iadd k dX6_timeOf_42 ?_
        refine gg_iald k (mb1 hB) (by omega) (by omega) dX6_timeOf_43 ?_
        refine gg_ti (hR.num (i := j) (w := 5) (by omega) (by omega) (by omega) (by omega) (by omega)) ?_
        have bd43 := hO.n5 (j)
        refine gg_i2l k dX6_timeOf_44 ⟨by omega, by omega⟩ ?_
        refine gg_lmul k dX6_timeOf_45 ?_
        have hlt := sLT_b hO j p
        have J78 : ∀ (x : Int), (x = if sSet S j p then sNum S j 6 else 0) → (0 ≤ x ∧ x ≤ 200) → GG K B C1 78 [(0, .ref (gad B (0))), (1, .int (iI (p))), (2, .long (iL (sm))), (4, .int (iI (j)))] [.int (iI (x)), .long (iL ((sLot S (j) (p)) * (sNum S (j) (5)))), .long (iL (sm))] := by
          intro x hx hxb
          refine gg_i2l k dX6_timeOf_78 ⟨by omega, by omega⟩ ?_
          refine gg_ladd k dX6_timeOf_79 ?_
          refine gg_ladd k dX6_timeOf_80 ?_
          refine gg_lstore_n k [(2, .long (iL (sm + (((sLot S (j) (p)) * (sNum S (j) (5))) + x)))), (0, .ref (gad B (0))), (1, .int (iI (p))), (4, .int (iI (j)))] dX6_timeOf_81 (by decide) rfl ?_
          refine gg_iinc k 3 [(4, .int (iI (j + 1))), (2, .long (iL (sm + (((sLot S (j) (p)) * (sNum S (j) (5))) + x)))), (0, .ref (gad B (0))), (1, .int (iI (p)))] dX6_timeOf_82 rfl (by decide) rfl ?_
          refine gg_goto (tgt := 9) k dX6_timeOf_85 (by decide) ?_
          refine gg_sub [2, 3, 1, 0] rfl ?_
          exact ih9 (j + 1) (sm + (((sLot S (j) (p)) * (sNum S (j) (5))) + x)) (by omega) (by omega) (by rw [sTimeN_s hj0, hs, hx]; omega) (by omega)
        refine gg_aload_n k dX6_timeOf_46 rfl ?_
        refine gg_get k (mb0 hB) inX6_timeOf_X6 16 (by decide) fX6_timeOf_45 rfl rfl dX6_timeOf_47 ?_
        refine gg_bipush k dX6_timeOf_50 (by decide +kernel) ?_
        refine gg_iload k dX6_timeOf_52 rfl ?_
        refine gg_imul k dX6_timeOf_54 ?_
        refine gg_iload_n k dX6_timeOf_55 rfl ?_
        refine gg_iadd k dX6_timeOf_56 ?_
        refine gg_zald k (mb12 hB) (by omega) (by omega) dX6_timeOf_57 ?_
        refine gg_ti (hm1.get (i := j) (j := p) (by omega) (by omega) (by omega) (by omega) (by omega)) ?_
        have hsu : (if sSet S j p then (1 : Int) else 0) = 0 ∨ (if sSet S j p then (1 : Int) else 0) = 1 := by split; (· exact Or.inr rfl); (· exact Or.inl rfl)
        refine gg_if_eq k 77 dX6_timeOf_58 (by decide) ⟨by omega, by omega⟩ (fun c58 => ?_) (fun c58 => ?_)
        · refine gg_iconst k dX6_timeOf_77 ?_
          exact J78 (0) (by by_cases hsz : sSet S j p; (· rw [if_pos hsz] at c58; omega); (· rw [if_neg hsz])) (by omega)
        · refine gg_aload_n k dX6_timeOf_61 rfl ?_
          refine gg_get k (mb0 hB) inX6_timeOf_X6 3 (by decide) fX6_timeOf_7 rfl rfl dX6_timeOf_62 ?_
          refine gg_bipush k dX6_timeOf_65 (by decide +kernel) ?_
          refine gg_iload k dX6_timeOf_67 rfl ?_
          refine gg_imul k dX6_timeOf_69 ?_
          refine gg_bipush k dX6_timeOf_70 (by decide +kernel) ?_
          refine gg_iadd k dX6_timeOf_72 ?_
          refine gg_iald k (mb1 hB) (by omega) (by omega) dX6_timeOf_73 ?_
          refine gg_ti (hR.num (i := j) (w := 6) (by omega) (by omega) (by omega) (by omega) (by omega)) ?_
          have bd73 := hO.n6 (j)
          refine gg_goto (tgt := 78) k dX6_timeOf_74 (by decide) ?_
          exact J78 (sNum S (j) (6)) (by by_cases hsz : sSet S j p; (· rw [if_pos hsz]); (· rw [if_neg hsz] at c58; omega)) (by omega)
  refine gg_sub [2, 3, 1, 0] rfl ?_
  exact L9 ((sCnt S - 0).toNat + 1) (0) (0) (by omega) (by omega) (rfl) (by omega)

abbrev rX6_overOf : Room := { frames := 2, cells := 0, slots := 0, locals := 47 }
set_option maxRecDepth 100000 in
set_option maxHeartbeats 4000000 in
theorem kX6_overOf {l : Launch} {B : gB} {T : Int} {S : sS} {C : gSt} (hB : mdlB B T) (hO : sOk S T) (hR : mRel S T C) (p : Int) (hp0 : 1 ≤ p) (hp1 : p ≤ T) : gMl l B yX6_overOf wsX6_overOf rX6_overOf [.ref (gad B (0)), .int (iI (p))] C (fun z C' => z = sOver S p ∧ mRel S T C' ∧ mMach S C' T ∧ ∀ q : Nat, q ≠ 11 → q ≠ 12 → C' q = C q) := by
  refine gMl_of (cc := cX6_overOf) (nL := 4) (by decide) rfl (Nat.le_of_ble_eq_true rfl) (fun K k hret => ?_)
  have k : gOk K B l rX6_overOf 4 cX6_overOf RX6 wsX6_overOf := k
  show GG K B C 0 [(0, .ref (gad B (0))), (1, .int (iI (p)))] []
  have hT := hO.t
  have hc := hO.cnt
  
  refine gg_aload_n k dX6_overOf_0 rfl ?_
  refine gg_iload_n k dX6_overOf_1 rfl ?_
  refine gg_calll (n := 1) (As := [.int (iI (p))]) (rest := []) k (kX6_timeOf hB hO hR p (by omega) (by omega)) ⟨_, _, _, gX6_overOf_X6_timeOf, rfl, rfl, rfl, by decide +kernel, by decide, by decide⟩ (mb0 hB) rfl rfl (Nat.le_of_ble_eq_true rfl) dX6_overOf_2 (fun z2 C2 r2 q2 => ?_)
  obtain ⟨q2, hR, hm2, hk2⟩ := q2
  obtain ⟨r2, s2⟩ := r2
  have tb2 := sTime_b hO p
  refine gg_aload_n k dX6_overOf_5 rfl ?_
  refine gg_get k (mb0 hB) inX6_overOf_X6 7 (by decide) fX6_overOf_22 rfl rfl dX6_overOf_6 ?_
  refine gg_iload_n k dX6_overOf_9 rfl ?_
  refine gg_iald k (mb5 hB) (by omega) (by omega) dX6_overOf_10 ?_
  refine gg_ti (hR.cap (by omega) (by omega)) ?_
  have bd10 := hO.cap (p)
  refine gg_i2l k dX6_overOf_11 ⟨by omega, by omega⟩ ?_
  refine gg_lsub k dX6_overOf_12 ?_
  refine gg_lstore_n k [(2, .long (iL (z2 - (sCap S (p))))), (0, .ref (gad B (0))), (1, .int (iI (p)))] dX6_overOf_13 (by decide) rfl ?_
  refine gg_lload_n k dX6_overOf_14 rfl ?_
  refine gg_lconst0 k dX6_overOf_15 ?_
  refine gg_lt_le k 24 dX6_overOf_16 dX6_overOf_17 (by decide) ⟨by omega, by omega⟩ ⟨by omega, by omega⟩ (fun c16 => ?_) (fun c16 => ?_)
  · refine gg_lconst0 k dX6_overOf_24 ?_
    exact hret _ _ _ _ dX6_overOf_25 (⟨by omega, by omega⟩) (⟨by unfold sOver; omega, hR, hm2, hk2⟩)
  · refine gg_lload_n k dX6_overOf_20 rfl ?_
    refine gg_goto (tgt := 25) k dX6_overOf_21 (by decide) ?_
    exact hret _ _ _ _ dX6_overOf_25 (⟨by omega, by omega⟩) (⟨by unfold sOver; omega, hR, hm2, hk2⟩)

abbrev rX6_time : Room := { frames := 2, cells := 0, slots := 0, locals := 47 }
set_option maxRecDepth 100000 in
set_option maxHeartbeats 4000000 in
theorem kX6_time {l : Launch} {B : gB} {T : Int} {S : sS} {C : gSt} (hB : mdlB B T) (hO : sOk S T) (hR : mRel S T C) (p : Int) (hp : rI p) : gMl l B yX6_time wsX6_time rX6_time [.ref (gad B (0)), .int (iI (p))] C (fun z C' => mRel S T C' ∧ z = if 1 ≤ p ∧ p ≤ T then sTime S p else -9223372036854775808) := by
  refine gMl_of (cc := cX6_time) (nL := 2) (by decide) rfl (Nat.le_of_ble_eq_true rfl) (fun K k hret => ?_)
  have k : gOk K B l rX6_time 2 cX6_time RX6 wsX6_time := k
  show GG K B C 0 [(0, .ref (gad B (0))), (1, .int (iI (p)))] []
  have hT := hO.t
  have hc := hO.cnt
  obtain ⟨hp1, hp2⟩ := hp
  refine gg_aload_n k dX6_time_0 rfl ?_
  refine gg_iconst k dX6_time_1 ?_
  refine gg_put (e := 0) k (mb0 hB) inX6_time_X6 tyX6 tyX6_ok nmX6 0 (by decide) fX6_time_73 rfl rfl rfl (Nat.le_of_ble_eq_true rfl) rfl dX6_time_2 ?_
  refine gg_nm (fun C2 e2 => ?_)
  have hR : mRel S T C2 := by rw [e2]; exact hR.wri (Or.inr ⟨rfl, by omega, by omega, by omega⟩)
  refine gg_aload_n k dX6_time_5 rfl ?_
  refine gg_iload_n k dX6_time_6 rfl ?_
  refine gg_calli (n := 1) (As := [.int (iI (p))]) (rest := []) k (kX6_isPeriod hB hO hR (p) ⟨by omega, by omega⟩) ⟨_, _, _, gX6_time_X6_isPeriod, rfl, rfl, rfl, by decide +kernel, by decide, by decide⟩ (mb0 hB) rfl rfl (Nat.le_of_ble_eq_true rfl) dX6_time_7 (fun z7 C7 r7 q7 => ?_)
  obtain ⟨q7, e7⟩ := q7
  rw [e7]
  clear e7
  obtain ⟨r7, s7⟩ := r7
  refine gg_if_eq k 21 dX6_time_10 (by decide) ⟨by omega, by omega⟩ (fun c10 => ?_) (fun c10 => ?_)
  · refine gg_ldc2 (z := -9223372036854775808) k dX6_time_21 (by decide +kernel) ?_
    exact hret _ _ _ _ dX6_time_24 (⟨by omega, by omega⟩) (⟨hR, by rw [if_neg (by omega)]⟩)
  · refine gg_aload_n k dX6_time_13 rfl ?_
    refine gg_iload_n k dX6_time_14 rfl ?_
    refine gg_calll (n := 1) (As := [.int (iI (p))]) (rest := []) k (kX6_timeOf hB hO hR p (by omega) (by omega)) ⟨_, _, _, gX6_time_X6_timeOf, rfl, rfl, rfl, by decide +kernel, by decide, by decide⟩ (mb0 hB) rfl rfl (Nat.le_of_ble_eq_true rfl) dX6_time_15 (fun z15 C15 r15 q15 => ?_)
    obtain ⟨q15, hR, hm15, hk15⟩ := q15
    obtain ⟨r15, s15⟩ := r15
    have tb15 := sTime_b hO p
    refine gg_goto (tgt := 24) k dX6_time_18 (by decide) ?_
    exact hret _ _ _ _ dX6_time_24 (⟨by omega, by omega⟩) (⟨hR, by rw [if_pos (by omega)]; exact q15⟩)

abbrev rX6_priceOf : Room := { frames := 3, cells := 0, slots := 0, locals := 70 }
set_option maxRecDepth 100000 in
set_option maxHeartbeats 4000000 in
theorem kX6_priceOf {l : Launch} {B : gB} {T : Int} {S : sS} {C : gSt} (hB : mdlB B T) (hO : sOk S T) (hR : mRel S T C) (w : Int) (hw0 : 0 ≤ w) (hw3 : w ≤ 3) : gMl l B yX6_priceOf wsX6_priceOf rX6_priceOf [.ref (gad B (0)), .int (iI (w))] C (fun z C' => z = sPrice S T w ∧ mRel S T C' ∧ C' 0 = C 0) := by
  refine gMl_of (cc := cX6_priceOf) (nL := 8) (by decide) rfl (Nat.le_of_ble_eq_true rfl) (fun K k hret => ?_)
  have k : gOk K B l rX6_priceOf 8 cX6_priceOf RX6 wsX6_priceOf := k
  show GG K B C 0 [(0, .ref (gad B (0))), (1, .int (iI (w)))] []
  have hT := hO.t
  have hc := hO.cnt
  
  refine gg_lconst0 k dX6_priceOf_0 ?_
  refine gg_lstore_n k [(2, .long (iL (0))), (0, .ref (gad B (0))), (1, .int (iI (w)))] dX6_priceOf_1 (by decide) rfl ?_
  refine gg_iconst k dX6_priceOf_2 ?_
  refine gg_istore k [(4, .int (iI (1))), (2, .long (iL (0))), (0, .ref (gad B (0))), (1, .int (iI (w)))] dX6_priceOf_3 (by decide) rfl ?_
  have L5 : ∀ (n5 : Nat) (p : Int) (sm : Int) (C1 : gSt), (1 ≤ p) → (p ≤ T + 1) → (sm = smL (mPrO S w) (p - 1).toNat) → (mRel S T C1) → (C1 0 = C 0) → T + 1 - p < (n5 : Int) → GG K B C1 5 [(0, .ref (gad B (0))), (1, .int (iI (w))), (2, .long (iL (sm))), (4, .int (iI (p)))] [] := by
    intro n5
    induction n5 with
    | zero =>
      intro p sm C1 hp0 hp1 hs hR hc0 hn5
      exact absurd hn5 (by omega)
    | succ n5 ih5 =>
      intro p sm C1 hp0 hp1 hs hR hc0 hn5
      have ob := sOver_b hO p
      have o0 := hO.ovr0
      have osb := mPrOs_b hO w (p - 1).toNat (by omega)
      have pb2 := sPr2p_b hO p
      refine gg_iload k dX6_priceOf_5 rfl ?_
      refine gg_aload_n k dX6_priceOf_7 rfl ?_
      refine gg_get k (mb0 hB) inX6_priceOf_X6 1 (by decide) fX6_priceOf_69 rfl rfl dX6_priceOf_8 ?_
      refine gg_icmp_gt k 49 dX6_priceOf_11 (by decide) ⟨by omega, by omega⟩ ⟨by omega, by omega⟩ (fun c11 => ?_) (fun c11 => ?_)
      · refine gg_iconst k dX6_priceOf_49 ?_
        refine gg_istore k [(4, .int (iI (0))), (0, .ref (gad B (0))), (1, .int (iI (w))), (2, .long (iL (sm)))] dX6_priceOf_50 (by decide) rfl ?_
        have L52 : ∀ (n52 : Nat) (i : Int) (sn : Int) (C4 : gSt), (0 ≤ i) → (i ≤ sCnt S) → (sn = smL (mPrO S w) T.toNat + smL (fun i => smL (mPrI S w i) T.toNat) i.toNat) → (mRel S T C4) → (C4 0 = C 0) → sCnt S - i < (n52 : Int) → GG K B C4 52 [(0, .ref (gad B (0))), (1, .int (iI (w))), (2, .long (iL (sn))), (4, .int (iI (i)))] [] := by
          intro n52
          induction n52 with
          | zero =>
            intro i sn C4 hi0 hi1 hsn hR hc4 hn52
            exact absurd hn52 (by omega)
          | succ n52 ih52 =>
            intro i sn C4 hi0 hi1 hsn hR hc4 hn52
            have nsb := mPrN_b hO w i.toNat T.toNat (by omega) (by omega)
            have osb := mPrOs_b hO w T.toNat (by omega)
            refine gg_iload k dX6_priceOf_52 rfl ?_
            refine gg_aload_n k dX6_priceOf_54 rfl ?_
            refine gg_get k (mb0 hB) inX6_priceOf_X6 2 (by decide) fX6_priceOf_76 rfl rfl dX6_priceOf_55 ?_
            refine gg_ti hR.cnt ?_
            refine gg_icmp_ge k 195 dX6_priceOf_58 (by decide) ⟨by omega, by omega⟩ ⟨by omega, by omega⟩ (fun c58 => ?_) (fun c58 => ?_)
            · refine gg_lload_n k dX6_priceOf_195 rfl ?_
              exact hret _ _ _ _ dX6_priceOf_196 (by have h9 := sPrice_b hO w; have h8 := mPr_eq (S := S) (T := T) hw0 hw3; unfold mPr at h8; rw [hsn, show i = sCnt S by omega]; exact ⟨by omega, by omega⟩) (⟨by rw [← mPr_eq hw0 hw3, hsn, show i = sCnt S by omega]; rfl, hR, hc4⟩)
            · refine gg_aload_n k dX6_priceOf_61 rfl ?_
              refine gg_iload k dX6_priceOf_62 rfl ?_
              refine gg_callv (n := 1) (As := [.int (iI (i))]) (rest := []) k (kX6_run hB hO hR (i := i) (by omega) (by omega)) ⟨_, _, _, gX6_priceOf_X6_run, rfl, rfl, rfl, by decide +kernel, by decide, by decide⟩ (mb0 hB) rfl rfl (Nat.le_of_ble_eq_true rfl) dX6_priceOf_64 (fun C64 q64 => ?_)
              obtain ⟨hR, hr64, hk64⟩ := q64
              refine gg_aload_n k dX6_priceOf_67 rfl ?_
              refine gg_callv (n := 0) (As := []) (rest := []) k (kX6_machine hB hO hR) ⟨_, _, _, gX6_priceOf_X6_machine, rfl, rfl, rfl, by decide +kernel, by decide, by decide⟩ (mb0 hB) rfl rfl (Nat.le_of_ble_eq_true rfl) dX6_priceOf_68 (fun C68 q68 => ?_)
              obtain ⟨hR, hm68, hk68⟩ := q68
              refine gg_iconst k dX6_priceOf_71 ?_
              refine gg_istore k [(5, .int (iI (1))), (0, .ref (gad B (0))), (1, .int (iI (w))), (2, .long (iL (sn))), (4, .int (iI (i)))] dX6_priceOf_72 (by decide) rfl ?_
              have L74 : ∀ (n74 : Nat) (p2 : Int) (st : Int), (1 ≤ p2) → (p2 ≤ T + 1) → (st = sn + smL (mPrI S w i) (p2 - 1).toNat) → T + 1 - p2 < (n74 : Int) → GG K B C68 74 [(0, .ref (gad B (0))), (1, .int (iI (w))), (2, .long (iL (st))), (4, .int (iI (i))), (5, .int (iI (p2)))] [] := by
                intro n74
                induction n74 with
                | zero =>
                  intro p2 st hp20 hp21 hst hn74
                  exact absurd hn74 (by omega)
                | succ n74 ih74 =>
                  intro p2 st hp20 hp21 hst hn74
                  have isb := mPrIs_b hO w i (p2 - 1).toNat (by omega)
                  refine gg_iload k dX6_priceOf_74 rfl ?_
                  refine gg_aload_n k dX6_priceOf_76 rfl ?_
                  refine gg_get k (mb0 hB) inX6_priceOf_X6 1 (by decide) fX6_priceOf_69 rfl rfl dX6_priceOf_77 ?_
                  refine gg_icmp_gt k 189 dX6_priceOf_80 (by decide) ⟨by omega, by omega⟩ ⟨by omega, by omega⟩ (fun c80 => ?_) (fun c80 => ?_)
                  · refine gg_iinc k 3 [(4, .int (iI (i + 1))), (0, .ref (gad B (0))), (1, .int (iI (w))), (2, .long (iL (st))), (5, .int (iI (p2)))] dX6_priceOf_189 rfl (by decide) rfl ?_
                    refine gg_goto (tgt := 52) k dX6_priceOf_192 (by decide) ?_
                    refine gg_sub [1, 2, 3, 0] rfl ?_
                    exact ih52 (i + 1) (st) (C68) (by omega) (by omega) (by rw [smL_s hi0, hst, hsn, show p2 - 1 = T by omega]; omega) (hR) (by rw [hk68 0 (by omega) (by omega), hk64 0 (by omega) (by omega) (by omega) (by omega)]; exact hc4) (by omega)
                  · refine gg_lload_n k dX6_priceOf_83 rfl ?_
                    have J124 : ∀ (xa : Int), (xa = mPrA S w i (p2 - 1)) → (0 ≤ xa ∧ xa ≤ 10000) → GG K B C68 124 [(0, .ref (gad B (0))), (1, .int (iI (w))), (2, .long (iL (st))), (4, .int (iI (i))), (5, .int (iI (p2)))] [.long (iL (xa)), .long (iL (st))] := by
                      intro xa hxa hxab
                      refine gg_ladd k dX6_priceOf_124 ?_
                      refine gg_lstore_n k [(2, .long (iL (st + xa))), (0, .ref (gad B (0))), (1, .int (iI (w))), (4, .int (iI (i))), (5, .int (iI (p2)))] dX6_priceOf_125 (by decide) rfl ?_
                      refine gg_aload_n k dX6_priceOf_126 rfl ?_
                      refine gg_get k (mb0 hB) inX6_priceOf_X6 14 (by decide) fX6_priceOf_39 rfl rfl dX6_priceOf_127 ?_
                      refine gg_iload k dX6_priceOf_130 rfl ?_
                      refine gg_lald k (mb10 hB) (by omega) (by omega) dX6_priceOf_132 ?_
                      refine gg_tl (show C68 10 p2 = smL (sRun S i p2.toNat).1 (p2.toNat + 1) by rw [hk68 10 (by omega) (by omega)]; exact (hr64.1 p2 (by omega) (by omega)).1) ?_
                      refine gg_aload_n k dX6_priceOf_133 rfl ?_
                      refine gg_get k (mb0 hB) inX6_priceOf_X6 12 (by decide) fX6_priceOf_33 rfl rfl dX6_priceOf_134 ?_
                      refine gg_iload k dX6_priceOf_137 rfl ?_
                      refine gg_lald k (mb8 hB) (by omega) (by omega) dX6_priceOf_139 ?_
                      refine gg_tl (show C68 8 p2 = (sRun S i p2.toNat).2 by rw [hk68 8 (by omega) (by omega)]; exact (hr64.1 p2 (by omega) (by omega)).2) ?_
                      refine gg_lsub k dX6_priceOf_140 ?_
                      refine gg_tl (show _ = sStk S i p2.toNat from rfl) ?_
                      have skb := sStk_b hO i p2.toNat (by omega)
                      refine gg_lstore k [(6, .long (iL (sStk S i p2.toNat))), (2, .long (iL (st + xa))), (0, .ref (gad B (0))), (1, .int (iI (w))), (4, .int (iI (i))), (5, .int (iI (p2)))] dX6_priceOf_141 (by decide) rfl ?_
                      refine gg_lload_n k dX6_priceOf_143 rfl ?_
                      have J181 : ∀ (xb : Int), (xb = mPrB S w i (p2 - 1)) → GG K B C68 181 [(0, .ref (gad B (0))), (1, .int (iI (w))), (4, .int (iI (i))), (5, .int (iI (p2)))] [.long (iL (xb)), .long (iL (st + xa))] := by
                        intro xb hxb
                        refine gg_ladd k dX6_priceOf_181 ?_
                        refine gg_lstore_n k [(2, .long (iL ((st + xa) + xb))), (0, .ref (gad B (0))), (1, .int (iI (w))), (4, .int (iI (i))), (5, .int (iI (p2)))] dX6_priceOf_182 (by decide) rfl ?_
                        refine gg_iinc k 4 [(5, .int (iI (p2 + 1))), (2, .long (iL ((st + xa) + xb))), (0, .ref (gad B (0))), (1, .int (iI (w))), (4, .int (iI (i)))] dX6_priceOf_183 rfl (by decide) rfl ?_
                        refine gg_goto (tgt := 74) k dX6_priceOf_186 (by decide) ?_
                        refine gg_sub [2, 3, 1, 4, 0] rfl ?_
                        exact ih74 (p2 + 1) ((st + xa) + xb) (by omega) (by omega) (by rw [show p2 + 1 - 1 = (p2 - 1) + 1 by omega, smL_s (by omega), hst]; show _ = _ + (_ + (mPrA S w i (p2 - 1) + mPrB S w i (p2 - 1))); rw [hxa, hxb]; omega) (by omega)
                      refine gg_iload_n k dX6_priceOf_144 rfl ?_
                      refine gg_iconst k dX6_priceOf_145 ?_
                      refine gg_icmp_eq k 154 dX6_priceOf_146 (by decide) ⟨by omega, by omega⟩ ⟨by omega, by omega⟩ (fun c146 => ?_) (fun c146 => ?_)
                      · refine gg_lload k dX6_priceOf_154 rfl ?_
                        refine gg_lconst0 k dX6_priceOf_156 ?_
                        refine gg_lt_le k 180 dX6_priceOf_157 dX6_priceOf_158 (by decide) ⟨by omega, by omega⟩ ⟨by omega, by omega⟩ (fun c157 => ?_) (fun c157 => ?_)
                        · refine gg_lconst0 k dX6_priceOf_180 ?_
                          refine gg_sub [2, 3, 4, 5] rfl ?_
                          exact J181 (0) (by unfold mPrB sPr1p; rw [if_pos (by omega), show p2 - 1 + 1 = p2 by omega, Int.max_eq_left (by omega), Int.mul_zero])
                        · refine gg_lload k dX6_priceOf_161 rfl ?_
                          refine gg_aload_n k dX6_priceOf_163 rfl ?_
                          refine gg_get k (mb0 hB) inX6_priceOf_X6 3 (by decide) fX6_priceOf_7 rfl rfl dX6_priceOf_164 ?_
                          refine gg_bipush k dX6_priceOf_167 (by decide +kernel) ?_
                          refine gg_iload k dX6_priceOf_169 rfl ?_
                          refine gg_imul k dX6_priceOf_171 ?_
                          refine gg_iconst k dX6_priceOf_172 ?_
                          refine gg_iadd k dX6_priceOf_173 ?_
                          refine gg_iald k (mb1 hB) (by omega) (by omega) dX6_priceOf_174 ?_
                          refine gg_ti (hR.num (i := i) (w := 1) (by omega) (by omega) (by omega) (by omega) (by omega)) ?_
                          have bd174 := hO.n1 (i)
                          refine gg_i2l k dX6_priceOf_175 ⟨by omega, by omega⟩ ?_
                          refine gg_lmul k dX6_priceOf_176 ?_
                          refine gg_goto (tgt := 181) k dX6_priceOf_177 (by decide) ?_
                          refine gg_sub [2, 3, 4, 5] rfl ?_
                          exact J181 ((sStk S i p2.toNat) * (sNum S (i) (1))) (by unfold mPrB sPr1p; rw [if_pos (by omega), show p2 - 1 + 1 = p2 by omega, Int.max_eq_right (by omega)]; exact Int.mul_comm _ _)
                      · refine gg_iload_n k dX6_priceOf_149 rfl ?_
                        refine gg_iconst k dX6_priceOf_150 ?_
                        refine gg_icmp_ne k 180 dX6_priceOf_151 (by decide) ⟨by omega, by omega⟩ ⟨by omega, by omega⟩ (fun c151 => ?_) (fun c151 => ?_)
                        · refine gg_lconst0 k dX6_priceOf_180 ?_
                          refine gg_sub [2, 3, 4, 5] rfl ?_
                          exact J181 (0) (by unfold mPrB; rw [if_neg (by omega)])
                        · refine gg_lload k dX6_priceOf_154 rfl ?_
                          refine gg_lconst0 k dX6_priceOf_156 ?_
                          refine gg_lt_le k 180 dX6_priceOf_157 dX6_priceOf_158 (by decide) ⟨by omega, by omega⟩ ⟨by omega, by omega⟩ (fun c157 => ?_) (fun c157 => ?_)
                          · refine gg_lconst0 k dX6_priceOf_180 ?_
                            refine gg_sub [2, 3, 4, 5] rfl ?_
                            exact J181 (0) (by unfold mPrB sPr1p; rw [if_pos (by omega), show p2 - 1 + 1 = p2 by omega, Int.max_eq_left (by omega), Int.mul_zero])
                          · refine gg_lload k dX6_priceOf_161 rfl ?_
                            refine gg_aload_n k dX6_priceOf_163 rfl ?_
                            refine gg_get k (mb0 hB) inX6_priceOf_X6 3 (by decide) fX6_priceOf_7 rfl rfl dX6_priceOf_164 ?_
                            refine gg_bipush k dX6_priceOf_167 (by decide +kernel) ?_
                            refine gg_iload k dX6_priceOf_169 rfl ?_
                            refine gg_imul k dX6_priceOf_171 ?_
                            refine gg_iconst k dX6_priceOf_172 ?_
                            refine gg_iadd k dX6_priceOf_173 ?_
                            refine gg_iald k (mb1 hB) (by omega) (by omega) dX6_priceOf_174 ?_
                            refine gg_ti (hR.num (i := i) (w := 1) (by omega) (by omega) (by omega) (by omega) (by omega)) ?_
                            have bd174 := hO.n1 (i)
                            refine gg_i2l k dX6_priceOf_175 ⟨by omega, by omega⟩ ?_
                            refine gg_lmul k dX6_priceOf_176 ?_
                            refine gg_goto (tgt := 181) k dX6_priceOf_177 (by decide) ?_
                            refine gg_sub [2, 3, 4, 5] rfl ?_
                            exact J181 ((sStk S i p2.toNat) * (sNum S (i) (1))) (by unfold mPrB sPr1p; rw [if_pos (by omega), show p2 - 1 + 1 = p2 by omega, Int.max_eq_right (by omega)]; exact Int.mul_comm _ _)
                    refine gg_iload_n k dX6_priceOf_84 rfl ?_
                    refine gg_if_eq k 93 dX6_priceOf_85 (by decide) ⟨by omega, by omega⟩ (fun c85 => ?_) (fun c85 => ?_)
                    · refine gg_aload_n k dX6_priceOf_93 rfl ?_
                      refine gg_get k (mb0 hB) inX6_priceOf_X6 16 (by decide) fX6_priceOf_45 rfl rfl dX6_priceOf_94 ?_
                      refine gg_bipush k dX6_priceOf_97 (by decide +kernel) ?_
                      refine gg_iload k dX6_priceOf_99 rfl ?_
                      refine gg_imul k dX6_priceOf_101 ?_
                      refine gg_iload k dX6_priceOf_102 rfl ?_
                      refine gg_iadd k dX6_priceOf_104 ?_
                      refine gg_zald k (mb12 hB) (by omega) (by omega) dX6_priceOf_105 ?_
                      refine gg_ti (hm68.get (i := i) (j := p2) (by omega) (by omega) (by omega) (by omega) (by omega)) ?_
                      have hsu : (if sSet S i p2 then (1 : Int) else 0) = 0 ∨ (if sSet S i p2 then (1 : Int) else 0) = 1 := by split; (· exact Or.inr rfl); (· exact Or.inl rfl)
                      refine gg_if_eq k 123 dX6_priceOf_106 (by decide) ⟨by omega, by omega⟩ (fun c106 => ?_) (fun c106 => ?_)
                      · refine gg_lconst0 k dX6_priceOf_123 ?_
                        exact J124 (0) (by unfold mPrA sPr0p; rw [if_pos (by omega), show p2 - 1 + 1 = p2 by omega]; by_cases hsz : sSet S i p2; (· rw [if_pos hsz] at c106; omega); (· rw [if_neg hsz])) (by omega)
                      · refine gg_aload_n k dX6_priceOf_109 rfl ?_
                        refine gg_get k (mb0 hB) inX6_priceOf_X6 3 (by decide) fX6_priceOf_7 rfl rfl dX6_priceOf_110 ?_
                        refine gg_bipush k dX6_priceOf_113 (by decide +kernel) ?_
                        refine gg_iload k dX6_priceOf_115 rfl ?_
                        refine gg_imul k dX6_priceOf_117 ?_
                        refine gg_iald k (mb1 hB) (by omega) (by omega) dX6_priceOf_118 ?_
                        refine gg_ti (hR.num (i := i) (w := 0) (by omega) (by omega) (by omega) (by omega) (by omega)) ?_
                        have bd118 := hO.n0 (i)
                        refine gg_i2l k dX6_priceOf_119 ⟨by omega, by omega⟩ ?_
                        refine gg_goto (tgt := 124) k dX6_priceOf_120 (by decide) ?_
                        exact J124 (sNum S (i) (0)) (by unfold mPrA sPr0p; rw [if_pos (by omega), show p2 - 1 + 1 = p2 by omega]; by_cases hsz : sSet S i p2; (· rw [if_pos hsz]); (· rw [if_neg hsz] at c106; omega)) (by omega)
                    · refine gg_iload_n k dX6_priceOf_88 rfl ?_
                      refine gg_iconst k dX6_priceOf_89 ?_
                      refine gg_icmp_ne k 123 dX6_priceOf_90 (by decide) ⟨by omega, by omega⟩ ⟨by omega, by omega⟩ (fun c90 => ?_) (fun c90 => ?_)
                      · refine gg_lconst0 k dX6_priceOf_123 ?_
                        exact J124 (0) (by unfold mPrA; rw [if_neg (by omega)]) (by omega)
                      · refine gg_aload_n k dX6_priceOf_93 rfl ?_
                        refine gg_get k (mb0 hB) inX6_priceOf_X6 16 (by decide) fX6_priceOf_45 rfl rfl dX6_priceOf_94 ?_
                        refine gg_bipush k dX6_priceOf_97 (by decide +kernel) ?_
                        refine gg_iload k dX6_priceOf_99 rfl ?_
                        refine gg_imul k dX6_priceOf_101 ?_
                        refine gg_iload k dX6_priceOf_102 rfl ?_
                        refine gg_iadd k dX6_priceOf_104 ?_
                        refine gg_zald k (mb12 hB) (by omega) (by omega) dX6_priceOf_105 ?_
                        refine gg_ti (hm68.get (i := i) (j := p2) (by omega) (by omega) (by omega) (by omega) (by omega)) ?_
                        have hsu : (if sSet S i p2 then (1 : Int) else 0) = 0 ∨ (if sSet S i p2 then (1 : Int) else 0) = 1 := by split; (· exact Or.inr rfl); (· exact Or.inl rfl)
                        refine gg_if_eq k 123 dX6_priceOf_106 (by decide) ⟨by omega, by omega⟩ (fun c106 => ?_) (fun c106 => ?_)
                        · refine gg_lconst0 k dX6_priceOf_123 ?_
                          exact J124 (0) (by unfold mPrA sPr0p; rw [if_pos (by omega), show p2 - 1 + 1 = p2 by omega]; by_cases hsz : sSet S i p2; (· rw [if_pos hsz] at c106; omega); (· rw [if_neg hsz])) (by omega)
                        · refine gg_aload_n k dX6_priceOf_109 rfl ?_
                          refine gg_get k (mb0 hB) inX6_priceOf_X6 3 (by decide) fX6_priceOf_7 rfl rfl dX6_priceOf_110 ?_
                          refine gg_bipush k dX6_priceOf_113 (by decide +kernel) ?_
                          refine gg_iload k dX6_priceOf_115 rfl ?_
                          refine gg_imul k dX6_priceOf_117 ?_
                          refine gg_iald k (mb1 hB) (by omega) (by omega) dX6_priceOf_118 ?_
                          refine gg_ti (hR.num (i := i) (w := 0) (by omega) (by omega) (by omega) (by omega) (by omega)) ?_
                          have bd118 := hO.n0 (i)
                          refine gg_i2l k dX6_priceOf_119 ⟨by omega, by omega⟩ ?_
                          refine gg_goto (tgt := 124) k dX6_priceOf_120 (by decide) ?_
                          exact J124 (sNum S (i) (0)) (by unfold mPrA sPr0p; rw [if_pos (by omega), show p2 - 1 + 1 = p2 by omega]; by_cases hsz : sSet S i p2; (· rw [if_pos hsz]); (· rw [if_neg hsz] at c106; omega)) (by omega)
              refine gg_sub [1, 2, 3, 4, 0] rfl ?_
              exact L74 ((T + 1 - 1).toNat + 1) (1) (sn) (by omega) (by omega) (by show sn = sn + 0; omega) (by omega)
        refine gg_sub [1, 2, 3, 0] rfl ?_
        exact L52 ((sCnt S - 0).toNat + 1) (0) (sm) (C1) (by omega) (by omega) (by rw [hs, show p - 1 = T by omega]; show _ = _ + 0; omega) (hR) (hc0) (by omega)
      · refine gg_lload_n k dX6_priceOf_14 rfl ?_
        have J41 : ∀ (x : Int) (C3 : gSt), (x = mPrO S w (p - 1)) → (mRel S T C3) → (C3 0 = C 0) → GG K B C3 41 [(0, .ref (gad B (0))), (1, .int (iI (w))), (2, .long (iL (sm))), (4, .int (iI (p)))] [.long (iL (x)), .long (iL (sm))] := by
          intro x C3 hx hR hcx
          refine gg_ladd k dX6_priceOf_41 ?_
          refine gg_lstore_n k [(2, .long (iL (sm + x))), (0, .ref (gad B (0))), (1, .int (iI (w))), (4, .int (iI (p)))] dX6_priceOf_42 (by decide) rfl ?_
          refine gg_iinc k 3 [(4, .int (iI (p + 1))), (2, .long (iL (sm + x))), (0, .ref (gad B (0))), (1, .int (iI (w)))] dX6_priceOf_43 rfl (by decide) rfl ?_
          refine gg_goto (tgt := 5) k dX6_priceOf_46 (by decide) ?_
          refine gg_sub [2, 3, 1, 0] rfl ?_
          exact ih5 (p + 1) (sm + x) (C3) (by omega) (by omega) (by rw [show p + 1 - 1 = (p - 1) + 1 by omega, smL_s (by omega), ← hs]; show _ = sm + mPrO S w (p - 1); rw [hx]) (hR) (hcx) (by omega)
        refine gg_iload_n k dX6_priceOf_15 rfl ?_
        refine gg_iconst k dX6_priceOf_16 ?_
        refine gg_icmp_eq k 25 dX6_priceOf_17 (by decide) ⟨by omega, by omega⟩ ⟨by omega, by omega⟩ (fun c17 => ?_) (fun c17 => ?_)
        · refine gg_aload_n k dX6_priceOf_25 rfl ?_
          refine gg_iload k dX6_priceOf_26 rfl ?_
          refine gg_calll (n := 1) (As := [.int (iI (p))]) (rest := [.long (iL (sm))]) k (kX6_overOf hB hO hR p (by omega) (by omega)) ⟨_, _, _, gX6_priceOf_X6_overOf, rfl, rfl, rfl, by decide +kernel, by decide, by decide⟩ (mb0 hB) rfl rfl (Nat.le_of_ble_eq_true rfl) dX6_priceOf_28 (fun z28 C28 r28 q28 => ?_)
          obtain ⟨q28, hR, hm28, hk28⟩ := q28
          obtain ⟨r28, s28⟩ := r28
          refine gg_aload_n k dX6_priceOf_31 rfl ?_
          refine gg_get k (mb0 hB) inX6_priceOf_X6 8 (by decide) fX6_priceOf_98 rfl rfl dX6_priceOf_32 ?_
          refine gg_ti hR.ovp ?_
          have bd32 := hO.ovr0
          refine gg_i2l k dX6_priceOf_35 ⟨by omega, by omega⟩ ?_
          refine gg_lmul k dX6_priceOf_36 ?_
          refine gg_goto (tgt := 41) k dX6_priceOf_37 (by decide) ?_
          exact J41 (z28 * (sOvr S 0)) (C28) (by unfold mPrO; rw [if_pos (by omega), q28, show p - 1 + 1 = p by omega]; exact Int.mul_comm _ _) (hR) (by rw [hk28 0 (by omega) (by omega)]; exact hc0)
        · refine gg_iload_n k dX6_priceOf_20 rfl ?_
          refine gg_iconst k dX6_priceOf_21 ?_
          refine gg_icmp_ne k 40 dX6_priceOf_22 (by decide) ⟨by omega, by omega⟩ ⟨by omega, by omega⟩ (fun c22 => ?_) (fun c22 => ?_)
          · refine gg_lconst0 k dX6_priceOf_40 ?_
            exact J41 (0) (C1) (by unfold mPrO; rw [if_neg (by omega)]) (hR) (hc0)
          · refine gg_aload_n k dX6_priceOf_25 rfl ?_
            refine gg_iload k dX6_priceOf_26 rfl ?_
            refine gg_calll (n := 1) (As := [.int (iI (p))]) (rest := [.long (iL (sm))]) k (kX6_overOf hB hO hR p (by omega) (by omega)) ⟨_, _, _, gX6_priceOf_X6_overOf, rfl, rfl, rfl, by decide +kernel, by decide, by decide⟩ (mb0 hB) rfl rfl (Nat.le_of_ble_eq_true rfl) dX6_priceOf_28 (fun z28 C28 r28 q28 => ?_)
            obtain ⟨q28, hR, hm28, hk28⟩ := q28
            obtain ⟨r28, s28⟩ := r28
            refine gg_aload_n k dX6_priceOf_31 rfl ?_
            refine gg_get k (mb0 hB) inX6_priceOf_X6 8 (by decide) fX6_priceOf_98 rfl rfl dX6_priceOf_32 ?_
            refine gg_ti hR.ovp ?_
            have bd32 := hO.ovr0
            refine gg_i2l k dX6_priceOf_35 ⟨by omega, by omega⟩ ?_
            refine gg_lmul k dX6_priceOf_36 ?_
            refine gg_goto (tgt := 41) k dX6_priceOf_37 (by decide) ?_
            exact J41 (z28 * (sOvr S 0)) (C28) (by unfold mPrO; rw [if_pos (by omega), q28, show p - 1 + 1 = p by omega]; exact Int.mul_comm _ _) (hR) (by rw [hk28 0 (by omega) (by omega)]; exact hc0)
  refine gg_sub [2, 3, 1, 0] rfl ?_
  exact L5 ((T + 1 - 1).toNat + 1) (1) (0) (C) (by omega) (by omega) (rfl) (hR) (rfl) (by omega)

abbrev rX6_price : Room := { frames := 4, cells := 0, slots := 0, locals := 97 }
set_option maxRecDepth 100000 in
set_option maxHeartbeats 4000000 in
theorem kX6_price {l : Launch} {B : gB} {T : Int} {S : sS} {C : gSt} (hB : mdlB B T) (hO : sOk S T) (hR : mRel S T C) (w : Int) (hw : rI w) : gMl l B yX6_price wsX6_price rX6_price [.ref (gad B (0)), .int (iI (w))] C (fun z C' => mRel S T C' ∧ z = if 0 ≤ w ∧ w ≤ 3 then sPrice S T w else -9223372036854775808) := by
  refine gMl_of (cc := cX6_price) (nL := 2) (by decide) rfl (Nat.le_of_ble_eq_true rfl) (fun K k hret => ?_)
  have k : gOk K B l rX6_price 2 cX6_price RX6 wsX6_price := k
  show GG K B C 0 [(0, .ref (gad B (0))), (1, .int (iI (w)))] []
  have hT := hO.t
  have hc := hO.cnt
  obtain ⟨hw1, hw2⟩ := hw
  refine gg_aload_n k dX6_price_0 rfl ?_
  refine gg_iconst k dX6_price_1 ?_
  refine gg_put (e := 0) k (mb0 hB) inX6_price_X6 tyX6 tyX6_ok nmX6 0 (by decide) fX6_price_73 rfl rfl rfl (Nat.le_of_ble_eq_true rfl) rfl dX6_price_2 ?_
  refine gg_nm (fun C2 e2 => ?_)
  have hR : mRel S T C2 := by rw [e2]; exact hR.wri (Or.inr ⟨rfl, by omega, by omega, by omega⟩)
  refine gg_iload_n k dX6_price_5 rfl ?_
  refine gg_iconst k dX6_price_6 ?_
  refine gg_iconst k dX6_price_7 ?_
  refine gg_callsi (n := 3) (As := [.int (iI (w)), .int (iI (0)), .int (iI (3))]) (rest := []) k (kX6_in (w) (0) (3) ⟨by omega, by omega⟩ ⟨by omega, by omega⟩ ⟨by omega, by omega⟩) ⟨_, _, _, gX6_price_X6_in, rfl, rfl, rfl, by decide +kernel, by decide, by decide⟩ rfl rfl (Nat.le_of_ble_eq_true rfl) dX6_price_8 (fun z8 C8 r8 q8 => ?_)
  obtain ⟨q8, e8⟩ := q8
  rw [e8]
  clear e8
  obtain ⟨r8, s8⟩ := r8
  refine gg_if_eq k 22 dX6_price_11 (by decide) ⟨by omega, by omega⟩ (fun c11 => ?_) (fun c11 => ?_)
  · refine gg_ldc2 (z := -9223372036854775808) k dX6_price_22 (by decide +kernel) ?_
    exact hret _ _ _ _ dX6_price_25 (⟨by omega, by omega⟩) (⟨hR, by rw [if_neg (by omega)]⟩)
  · refine gg_aload_n k dX6_price_14 rfl ?_
    refine gg_iload_n k dX6_price_15 rfl ?_
    refine gg_calll (n := 1) (As := [.int (iI (w))]) (rest := []) k (kX6_priceOf hB hO hR (w) (by omega) (by omega)) ⟨_, _, _, gX6_price_X6_priceOf, rfl, rfl, rfl, by decide +kernel, by decide, by decide⟩ (mb0 hB) rfl rfl (Nat.le_of_ble_eq_true rfl) dX6_price_16 (fun z16 C16 r16 q16 => ?_)
    obtain ⟨q16, hR, hk16⟩ := q16
    obtain ⟨r16, s16⟩ := r16
    have pb16 := sPrice_b hO (w)
    refine gg_goto (tgt := 25) k dX6_price_19 (by decide) ?_
    exact hret _ _ _ _ dX6_price_25 (⟨by omega, by omega⟩) (⟨hR, by rw [if_pos (by omega)]; exact q16⟩)

abbrev rX6_share : Room := { frames := 4, cells := 0, slots := 0, locals := 97 }
set_option maxRecDepth 100000 in
set_option maxHeartbeats 4000000 in
theorem kX6_share {l : Launch} {B : gB} {T : Int} {S : sS} {C : gSt} (hB : mdlB B T) (hO : sOk S T) (hR : mRel S T C) (w b : Int) (hw : rI w) (hb : rI b) : gMl l B yX6_share wsX6_share rX6_share [.ref (gad B (0)), .int (iI (w)), .int (iI (b))] C (fun z C' => (¬ ((0 ≤ w ∧ w ≤ 3) ∧ 0 ≤ b ∧ b ≤ 3) ∧ z = -9223372036854775808 ∧ C' 0 0 = 0 ∧ mRel S T C') ∨ (((0 ≤ w ∧ w ≤ 3) ∧ 0 ≤ b ∧ b ≤ 3) ∧ sPrice S T b = 0 ∧ C' 0 0 = 1 ∧ mRel S T C') ∨ (((0 ≤ w ∧ w ≤ 3) ∧ 0 ≤ b ∧ b ≤ 3) ∧ sPrice S T b ≠ 0 ∧ z = sShare S T w b ∧ C' 0 0 = 0 ∧ mRel S T C')) := by
  refine gMl_of (cc := cX6_share) (nL := 5) (by decide) rfl (Nat.le_of_ble_eq_true rfl) (fun K k hret => ?_)
  have k : gOk K B l rX6_share 5 cX6_share RX6 wsX6_share := k
  show GG K B C 0 [(0, .ref (gad B (0))), (1, .int (iI (w))), (2, .int (iI (b)))] []
  have hT := hO.t
  have hc := hO.cnt
  obtain ⟨hw1, hw2⟩ := hw
  obtain ⟨hb1, hb2⟩ := hb
  refine gg_aload_n k dX6_share_0 rfl ?_
  refine gg_iconst k dX6_share_1 ?_
  refine gg_put (e := 0) k (mb0 hB) inX6_share_X6 tyX6 tyX6_ok nmX6 0 (by decide) fX6_share_73 rfl rfl rfl (Nat.le_of_ble_eq_true rfl) rfl dX6_share_2 ?_
  refine gg_nm (fun C2 e2 => ?_)
  have hR : mRel S T C2 := by rw [e2]; exact hR.wri (Or.inr ⟨rfl, by omega, by omega, by omega⟩)
  refine gg_iload_n k dX6_share_5 rfl ?_
  refine gg_iconst k dX6_share_6 ?_
  refine gg_iconst k dX6_share_7 ?_
  refine gg_callsi (n := 3) (As := [.int (iI (w)), .int (iI (0)), .int (iI (3))]) (rest := []) k (kX6_in (w) (0) (3) ⟨by omega, by omega⟩ ⟨by omega, by omega⟩ ⟨by omega, by omega⟩) ⟨_, _, _, gX6_share_X6_in, rfl, rfl, rfl, by decide +kernel, by decide, by decide⟩ rfl rfl (Nat.le_of_ble_eq_true rfl) dX6_share_8 (fun z8 C8 r8 q8 => ?_)
  obtain ⟨q8, e8⟩ := q8
  rw [e8]
  clear e8
  obtain ⟨r8, s8⟩ := r8
  refine gg_if_eq k 23 dX6_share_11 (by decide) ⟨by omega, by omega⟩ (fun c11 => ?_) (fun c11 => ?_)
  · refine gg_ldc2 (z := -9223372036854775808) k dX6_share_23 (by decide +kernel) ?_
    exact hret _ _ _ _ dX6_share_26 (⟨by omega, by omega⟩) (Or.inl ⟨by omega, rfl, by rw [e2, wr_s], hR⟩)
  · refine gg_iload_n k dX6_share_14 rfl ?_
    refine gg_iconst k dX6_share_15 ?_
    refine gg_iconst k dX6_share_16 ?_
    refine gg_callsi (n := 3) (As := [.int (iI (b)), .int (iI (0)), .int (iI (3))]) (rest := []) k (kX6_in (b) (0) (3) ⟨by omega, by omega⟩ ⟨by omega, by omega⟩ ⟨by omega, by omega⟩) ⟨_, _, _, gX6_share_X6_in, rfl, rfl, rfl, by decide +kernel, by decide, by decide⟩ rfl rfl (Nat.le_of_ble_eq_true rfl) dX6_share_17 (fun z17 C17 r17 q17 => ?_)
    obtain ⟨q17, e17⟩ := q17
    rw [e17]
    clear e17
    obtain ⟨r17, s17⟩ := r17
    refine gg_if_ne k 27 dX6_share_20 (by decide) ⟨by omega, by omega⟩ (fun c20 => ?_) (fun c20 => ?_)
    · refine gg_aload_n k dX6_share_27 rfl ?_
      refine gg_iload_n k dX6_share_28 rfl ?_
      refine gg_calll (n := 1) (As := [.int (iI (b))]) (rest := []) k (kX6_priceOf hB hO hR (b) (by omega) (by omega)) ⟨_, _, _, gX6_share_X6_priceOf, rfl, rfl, rfl, by decide +kernel, by decide, by decide⟩ (mb0 hB) rfl rfl (Nat.le_of_ble_eq_true rfl) dX6_share_29 (fun z29 C29 r29 q29 => ?_)
      obtain ⟨q29, hR, hk29⟩ := q29
      obtain ⟨r29, s29⟩ := r29
      have pb29 := sPrice_b hO (b)
      refine gg_lstore_n k [(3, .long (iL (z29))), (0, .ref (gad B (0))), (1, .int (iI (w))), (2, .int (iI (b)))] dX6_share_32 (by decide) rfl ?_
      refine gg_lload_n k dX6_share_33 rfl ?_
      refine gg_lconst0 k dX6_share_34 ?_
      refine gg_lt_ne k 46 dX6_share_35 dX6_share_36 (by decide) ⟨by omega, by omega⟩ ⟨by omega, by omega⟩ (fun c35 => ?_) (fun c35 => ?_)
      · refine gg_ldc2 (z := 1000) k dX6_share_46 (by decide +kernel) ?_
        refine gg_aload_n k dX6_share_49 rfl ?_
        refine gg_iload_n k dX6_share_50 rfl ?_
        refine gg_calll (n := 1) (As := [.int (iI (w))]) (rest := [.long (iL (1000))]) k (kX6_priceOf hB hO hR (w) (by omega) (by omega)) ⟨_, _, _, gX6_share_X6_priceOf, rfl, rfl, rfl, by decide +kernel, by decide, by decide⟩ (mb0 hB) rfl rfl (Nat.le_of_ble_eq_true rfl) dX6_share_51 (fun z51 C51 r51 q51 => ?_)
        obtain ⟨q51, hR, hk51⟩ := q51
        obtain ⟨r51, s51⟩ := r51
        have pb51 := sPrice_b hO (w)
        refine gg_lmul k dX6_share_54 ?_
        refine gg_lload_n k dX6_share_55 rfl ?_
        refine gg_ldiv k ⟨by omega, by omega⟩ (by omega) ⟨by omega, by omega⟩ (by omega) dX6_share_56 ?_
        exact hret _ _ _ _ dX6_share_57 (by have := sShare_b hO w b; unfold sShare at this; rw [q51, q29]; exact ⟨by omega, by omega⟩) (Or.inr (Or.inr ⟨by omega, by omega, by unfold sShare; rw [← q51, ← q29], by rw [hk51, hk29, e2, wr_s], hR⟩))
      · refine gg_aload_n k dX6_share_39 rfl ?_
        refine gg_iconst k dX6_share_40 ?_
        refine gg_put (e := 0) k (mb0 hB) inX6_share_X6 tyX6 tyX6_ok nmX6 0 (by decide) fX6_share_73 rfl rfl rfl (Nat.le_of_ble_eq_true rfl) rfl dX6_share_41 ?_
        refine gg_nm (fun C41 e41 => ?_)
        have hR : mRel S T C41 := by rw [e41]; exact hR.wri (Or.inr ⟨rfl, by omega, by omega, by omega⟩)
        refine gg_lconst0 k dX6_share_44 ?_
        exact hret _ _ _ _ dX6_share_45 (⟨by omega, by omega⟩) (Or.inr (Or.inl ⟨by omega, by omega, by rw [e41, wr_s], hR⟩))
    · refine gg_ldc2 (z := -9223372036854775808) k dX6_share_23 (by decide +kernel) ?_
      exact hret _ _ _ _ dX6_share_26 (⟨by omega, by omega⟩) (Or.inl ⟨by omega, rfl, by rw [e2, wr_s], hR⟩)
