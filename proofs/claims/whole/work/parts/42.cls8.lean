abbrev rX0_findNets : Room := { frames := 1, cells := 0, slots := 0, locals := 24 }
set_option maxRecDepth 100000 in
set_option maxHeartbeats 4000000 in
theorem kX0_findNets {l : Launch} {B : gB} {T : Int} {S : sS} {C : gSt} (hB : clsB B T) (hO : sOk S T) (hR : cRel S T C) {i : Int} (hi0 : 0 ≤ i) (hi6 : i < 6) : gMv l B yX0_findNets wsX0_findNets rX0_findNets [.ref (gad B (63)), .ref (gad B (4 + 9 * (i).toNat)), .int (iI (sNum S i 4))] C (fun C' => cRel S T C' ∧ (∀ j : Int, 1 ≤ j → j ≤ T → C' 64 j = sNet S i j) ∧ ∀ q : Nat, q ≠ 64 → C' q = C q) := by
  refine gMv_of (cc := cX0_findNets) (nL := 6) (by decide) rfl (Nat.le_of_ble_eq_true rfl) (fun K k hret => ?_)
  have k : gOk K B l rX0_findNets 6 cX0_findNets RX0 wsX0_findNets := k
  show GG K B C 0 [(0, .ref (gad B (63))), (1, .ref (gad B (4 + 9 * (i).toNat))), (2, .int (iI (sNum S i 4)))] []
  have hT := hO.t
  have hc := hO.cnt
  
  refine gg_iload_n k dX0_findNets_0 rfl ?_
  refine gg_istore_n k [(3, .int (iI (sNum S i 4))), (0, .ref (gad B (63))), (1, .ref (gad B (4 + 9 * (i).toNat))), (2, .int (iI (sNum S i 4)))] dX0_findNets_1 (by decide) rfl ?_
  refine gg_iconst k dX0_findNets_2 ?_
  refine gg_istore k [(4, .int (iI (1))), (3, .int (iI (sNum S i 4))), (0, .ref (gad B (63))), (1, .ref (gad B (4 + 9 * (i).toNat))), (2, .int (iI (sNum S i 4)))] dX0_findNets_3 (by decide) rfl ?_
  have L5 : ∀ (n5 : Nat) (p : Int) (w : Int) (C1 : gSt), 1 ≤ p → p ≤ T + 1 → w = sLft S i (p - 1).toNat → cRel S T C1 → (∀ j : Int, 1 ≤ j → j ≤ p - 1 → C1 64 j = sNet S i j) → (∀ q : Nat, q ≠ 64 → C1 q = C q) → T + 1 - p < (n5 : Int) → GG K B C1 5 [(0, .ref (gad B (63))), (1, .ref (gad B (4 + 9 * (i).toNat))), (3, .int (iI (w))), (4, .int (iI (p)))] [] := by
    intro n5
    induction n5 with
    | zero =>
      intro p w C1 hp0 hp1 hw hR hn1 hk1 hn5
      exact absurd hn5 (by omega)
    | succ n5 ih5 =>
      intro p w C1 hp0 hp1 hw hR hn1 hk1 hn5
      have hlb := sLft_b hO i (p - 1).toNat
      refine gg_iload k dX0_findNets_5 rfl ?_
      refine gg_aload_n k dX0_findNets_7 rfl ?_
      refine gg_get k (cbAlone hB) inX0_findNets_X0 0 (by decide) fX0_findNets_9 rfl rfl dX0_findNets_8 ?_
      refine gg_icmp_gt k 49 dX0_findNets_11 (by decide) ⟨by omega, by omega⟩ ⟨by omega, by omega⟩ (fun c11 => ?_) (fun c11 => ?_)
      · exact hret _ _ _ dX0_findNets_49 (⟨hR, fun j h0 h1 => hn1 j h0 (by omega), hk1⟩)
      · refine gg_iload_n k dX0_findNets_14 rfl ?_
        refine gg_aload_n k dX0_findNets_15 rfl ?_
        refine gg_iload k dX0_findNets_16 rfl ?_
        refine gg_iald k (cbNee hB (by omega) (by omega)) (by omega) (by omega) dX0_findNets_18 ?_
        refine gg_ti (hR.nee _ (by omega) (by omega)) ?_
        have bd18 := hO.nee (i) (p)
        refine gg_min k ⟨by omega, by omega⟩ ⟨by omega, by omega⟩ dX0_findNets_19 mX0_findNets_48.1 mX0_findNets_48.2.1 mX0_findNets_48.2.2.1 mX0_findNets_48.2.2.2 (Nat.le_of_ble_eq_true rfl) (Nat.le_of_ble_eq_true rfl) ?_
        refine gg_istore k [(5, .int (iI (min w (sNee S (i) (p))))), (0, .ref (gad B (63))), (1, .ref (gad B (4 + 9 * (i).toNat))), (3, .int (iI (w))), (4, .int (iI (p)))] dX0_findNets_22 (by decide) rfl ?_
        refine gg_aload_n k dX0_findNets_24 rfl ?_
        refine gg_get k (cbAlone hB) inX0_findNets_X0 1 (by decide) fX0_findNets_15 rfl rfl dX0_findNets_25 ?_
        refine gg_iload k dX0_findNets_28 rfl ?_
        refine gg_aload_n k dX0_findNets_30 rfl ?_
        refine gg_iload k dX0_findNets_31 rfl ?_
        refine gg_iald k (cbNee hB (by omega) (by omega)) (by omega) (by omega) dX0_findNets_33 ?_
        refine gg_ti (hR.nee _ (by omega) (by omega)) ?_
        have bd33 := hO.nee (i) (p)
        refine gg_iload k dX0_findNets_34 rfl ?_
        refine gg_isub k dX0_findNets_36 ?_
        refine gg_iast k (cbNets hB) (by omega) (by omega) dX0_findNets_37 ?_
        refine gg_nm (fun C37 e37 => ?_)
        have hR : cRel S T C37 := by rw [e37]; exact hR.wri (Or.inl (by unfold scr; omega))
        refine gg_iload_n k dX0_findNets_38 rfl ?_
        refine gg_iload k dX0_findNets_39 rfl ?_
        refine gg_isub k dX0_findNets_41 ?_
        refine gg_istore_n k [(3, .int (iI (w - (min w (sNee S (i) (p)))))), (5, .int (iI (min w (sNee S (i) (p))))), (0, .ref (gad B (63))), (1, .ref (gad B (4 + 9 * (i).toNat))), (4, .int (iI (p)))] dX0_findNets_42 (by decide) rfl ?_
        refine gg_iinc k 4 [(4, .int (iI (p + 1))), (3, .int (iI (w - (min w (sNee S (i) (p)))))), (5, .int (iI (min w (sNee S (i) (p))))), (0, .ref (gad B (63))), (1, .ref (gad B (4 + 9 * (i).toNat)))] dX0_findNets_43 rfl (by decide) rfl ?_
        refine gg_goto (tgt := 5) k dX0_findNets_46 (by decide) ?_
        refine gg_sub [3, 4, 1, 0] rfl ?_
        exact ih5 (p + 1) (w - (min w (sNee S (i) (p)))) (C37) (by omega) (by omega) (by rw [show p + 1 - 1 = p by omega, sLft_s (by omega), ← hw]) (hR) (fun j h0 h1 => by rw [e37]; by_cases hj : j = p; (· rw [hj, wr_s]; unfold sNet; rw [← hw]); (· rw [wr_j hj]; exact hn1 j h0 (by omega))) (fun q hq => by rw [e37, wr_k hq]; exact hk1 q hq) (by omega)
  refine gg_sub [2, 3, 1, 0] rfl ?_
  exact L5 ((T + 1 - 1).toNat + 1) (1) (sNum S i 4) (C) (by omega) (by omega) (rfl) (hR) (fun j h0 h1 => by omega) (fun _ _ => rfl) (by omega)

abbrev rX0_choose : Room := { frames := 1, cells := 0, slots := 0, locals := 24 }
set_option maxRecDepth 100000 in
set_option maxHeartbeats 4000000 in
theorem kX0_choose {l : Launch} {B : gB} {T : Int} {S : sS} {C : gSt} (hB : clsB B T) (hO : sOk S T) (hR : cRel S T C) {i : Int} (hi0 : 0 ≤ i) (hi6 : i < 6) (hn : ∀ j : Int, 1 ≤ j → j ≤ T → C 64 j = sNet S i j) (p : Int) (hp0 : 1 ≤ p) (hp1 : p ≤ T) (hco : ∀ j : Int, p < j → j ≤ T + 1 → C 65 j = (aCo S T i (T - p).toNat) j) : gMv l B yX0_choose wsX0_choose rX0_choose [.ref (gad B (63)), .int (iI (p)), .int (iI (sNum S i 0)), .int (iI (sNum S i 1)), .int (iI (sNum S i 3))] C (fun C' => cRel S T C' ∧ C' 65 = upI (C 65) p (aAll S T i (aCo S T i (T - p).toNat) p).1 ∧ C' 66 = upI (C 66) p (aAll S T i (aCo S T i (T - p).toNat) p).2 ∧ ∀ q : Nat, q ≠ 65 → q ≠ 66 → C' q = C q) := by
  refine gMv_of (cc := cX0_choose) (nL := 15) (by decide) rfl (Nat.le_of_ble_eq_true rfl) (fun K k hret => ?_)
  have k : gOk K B l rX0_choose 15 cX0_choose RX0 wsX0_choose := k
  show GG K B C 0 [(0, .ref (gad B (63))), (1, .int (iI (p))), (2, .int (iI (sNum S i 0))), (3, .int (iI (sNum S i 1))), (4, .int (iI (sNum S i 3)))] []
  have hT := hO.t
  have hc := hO.cnt
  have hn0 := hO.n0 i
  have hn1 := hO.n1 i
  have hn3 := hO.n3 i
  have hcb : ∀ j : Int, p < j → j ≤ T + 1 → 0 ≤ (aCo S T i (T - p).toNat) j ∧ (aCo S T i (T - p).toNat) j ≤ 120000 := fun j h1 h2 => by have := aCo_b hO i (T - p).toNat (by omega) j (by omega) h2; omega
  have J23 : ∀ (le : Int), le = (if sNet S i p = 0 then (aCo S T i (T - p).toNat) (p + 1) else aBig) → GG K B C 23 [(0, .ref (gad B (63))), (1, .int (iI (p))), (2, .int (iI (sNum S i 0))), (3, .int (iI (sNum S i 1))), (4, .int (iI (sNum S i 3)))] [.long (iL (le))] := by
    intro le hle
    refine gg_lstore k [(5, .long (iL (le))), (0, .ref (gad B (63))), (1, .int (iI (p))), (2, .int (iI (sNum S i 0))), (3, .int (iI (sNum S i 1))), (4, .int (iI (sNum S i 3)))] dX0_choose_23 (by decide) rfl ?_
    refine gg_iload_n k dX0_choose_25 rfl ?_
    refine gg_iconst k dX0_choose_26 ?_
    refine gg_isub k dX0_choose_27 ?_
    refine gg_istore k [(7, .int (iI (p - 1))), (5, .long (iL (le))), (0, .ref (gad B (63))), (1, .int (iI (p))), (2, .int (iI (sNum S i 0))), (3, .int (iI (sNum S i 1))), (4, .int (iI (sNum S i 3)))] dX0_choose_28 (by decide) rfl ?_
    have J53 : ∀ (en : Int), en = aEnd S T i p → GG K B C 53 [(7, .int (iI (p - 1))), (5, .long (iL (le))), (0, .ref (gad B (63))), (1, .int (iI (p))), (2, .int (iI (sNum S i 0))), (3, .int (iI (sNum S i 1))), (4, .int (iI (sNum S i 3)))] [.int (iI (en))] := by
      intro en hen
      have heb := aEnd_b hO (i := i) (p := p) (by omega)
      refine gg_istore k [(8, .int (iI (en))), (7, .int (iI (p - 1))), (5, .long (iL (le))), (0, .ref (gad B (63))), (1, .int (iI (p))), (2, .int (iI (sNum S i 0))), (3, .int (iI (sNum S i 1))), (4, .int (iI (sNum S i 3)))] dX0_choose_53 (by decide) rfl ?_
      refine gg_iload_n k dX0_choose_55 rfl ?_
      refine gg_i2l k dX0_choose_56 ⟨by omega, by omega⟩ ?_
      refine gg_lstore k [(9, .long (iL (sNum S i 0))), (8, .int (iI (en))), (7, .int (iI (p - 1))), (5, .long (iL (le))), (0, .ref (gad B (63))), (1, .int (iI (p))), (2, .int (iI (sNum S i 0))), (3, .int (iI (sNum S i 1))), (4, .int (iI (sNum S i 3)))] dX0_choose_57 (by decide) rfl ?_
      refine gg_iload_n k dX0_choose_59 rfl ?_
      refine gg_istore k [(11, .int (iI (p))), (9, .long (iL (sNum S i 0))), (8, .int (iI (en))), (7, .int (iI (p - 1))), (5, .long (iL (le))), (0, .ref (gad B (63))), (1, .int (iI (p))), (2, .int (iI (sNum S i 0))), (3, .int (iI (sNum S i 1))), (4, .int (iI (sNum S i 3)))] dX0_choose_60 (by decide) rfl ?_
      have L62 : ∀ (n62 : Nat) (q : Int) (le2 : Int) (un : Int) (pd : Int), p ≤ q → q ≤ en + 1 → le2 = (aCh S i (aCo S T i (T - p).toNat) p (q - p).toNat).1 → un = (aCh S i (aCo S T i (T - p).toNat) p (q - p).toNat).2 → pd = sPay S i p (q - p).toNat → en + 1 - q < (n62 : Int) → GG K B C 62 [(0, .ref (gad B (63))), (1, .int (iI (p))), (2, .int (iI (sNum S i 0))), (3, .int (iI (sNum S i 1))), (4, .int (iI (sNum S i 3))), (5, .long (iL (le2))), (7, .int (iI (un))), (8, .int (iI (en))), (9, .long (iL (pd))), (11, .int (iI (q)))] [] := by
        intro n62
        induction n62 with
        | zero =>
          intro q le2 un pd hq0 hq1 hle2 hun hpd hn62
          exact absurd hn62 (by omega)
        | succ n62 ih62 =>
          intro q le2 un pd hq0 hq1 hle2 hun hpd hn62
          have lb := aCh_b hO (i := i) (p := p) (co := (aCo S T i (T - p).toNat)) (q - p).toNat (by omega) (fun j h1 h2 => hcb j h1 (by omega))
          have ub := aCh_u (S := S) (i := i) (p := p) (co := (aCo S T i (T - p).toNat)) (q - p).toNat
          have pb := sPay_b hO i p (q - p).toNat (by omega)
          have pb2 : q ≤ T → sNum S i 0 ≤ sPay S i p (q + 1 - p).toNat ∧ sPay S i p (q + 1 - p).toNat ≤ 10000 + 1200000 * ((q + 1 - p).toNat : Int) := fun hq => sPay_b hO i p (q + 1 - p).toNat (by omega)
          unfold aBig at lb
          refine gg_iload k dX0_choose_62 rfl ?_
          refine gg_iload k dX0_choose_64 rfl ?_
          refine gg_icmp_gt k 153 dX0_choose_66 (by decide) ⟨by omega, by omega⟩ ⟨by omega, by omega⟩ (fun c66 => ?_) (fun c66 => ?_)
          · refine gg_aload_n k dX0_choose_153 rfl ?_
            refine gg_get k (cbAlone hB) inX0_choose_X0 2 (by decide) fX0_choose_19 rfl rfl dX0_choose_154 ?_
            refine gg_iload_n k dX0_choose_157 rfl ?_
            refine gg_lload k dX0_choose_158 rfl ?_
            refine gg_last k (cbCosts hB) (by omega) (by omega) dX0_choose_160 ?_
            refine gg_nm (fun C160 e160 => ?_)
            have hR : cRel S T C160 := by rw [e160]; exact hR.wri (Or.inr (Or.inr ⟨rfl, by omega⟩))
            refine gg_aload_n k dX0_choose_161 rfl ?_
            refine gg_get k (cbAlone hB) inX0_choose_X0 3 (by decide) fX0_choose_23 rfl rfl dX0_choose_162 ?_
            refine gg_iload_n k dX0_choose_165 rfl ?_
            refine gg_iload k dX0_choose_166 rfl ?_
            refine gg_iast k (cbUntils hB) (by omega) (by omega) dX0_choose_168 ?_
            refine gg_nm (fun C168 e168 => ?_)
            have hR : cRel S T C168 := by rw [e168]; exact hR.wri (Or.inl (by unfold scr; omega))
            exact hret _ _ _ dX0_choose_169 (by
              have hke : (q - p).toNat = (aEnd S T i p - p + 1).toNat := by omega
              refine ⟨hR, ?_, ?_, fun x h1 h2 => ?_⟩
              · rw [e168, wr_k (by omega), e160, wr_up, hle2, hke]; rfl
              · rw [e168, wr_up, e160, wr_k (by omega), hun, hke]; rfl
              · rw [e168, wr_k h2, e160, wr_k h1])
          · refine gg_lload k dX0_choose_69 rfl ?_
            refine gg_iload_n k dX0_choose_71 rfl ?_
            refine gg_i2l k dX0_choose_72 ⟨by omega, by omega⟩ ?_
            refine gg_aload_n k dX0_choose_73 rfl ?_
            refine gg_get k (cbAlone hB) inX0_choose_X0 1 (by decide) fX0_choose_15 rfl rfl dX0_choose_74 ?_
            refine gg_iload k dX0_choose_77 rfl ?_
            refine gg_iald k (cbNets hB) (by omega) (by omega) dX0_choose_79 ?_
            refine gg_ti (hn (q) (by omega) (by omega)) ?_
            have nb79 := sNet_b hO i (q)
            refine gg_i2l k dX0_choose_80 ⟨by omega, by omega⟩ ?_
            refine gg_lmul k dX0_choose_81 ?_
            have m81 : 0 ≤ sNum S i 1 * sNet S i q ∧ sNum S i 1 * sNet S i q ≤ 100 * 1000 := ⟨Int.mul_nonneg hn1.1 nb79.1, Int.mul_le_mul hn1.2 nb79.2 nb79.1 (by omega)⟩
            refine gg_iload k dX0_choose_82 rfl ?_
            refine gg_iload_n k dX0_choose_84 rfl ?_
            refine gg_isub k dX0_choose_85 ?_
            refine gg_i2l k dX0_choose_86 ⟨by omega, by omega⟩ ?_
            refine gg_lmul k dX0_choose_87 ?_
            refine gg_ladd k dX0_choose_88 ?_
            refine gg_tl (show pd + (((sNum S i 1) * (sNet S i (q))) * (q - p)) = sPay S i p (q + 1 - p).toNat by rw [sPay_s hq0, hpd]) ?_
            have pb3 := pb2 (by omega)
            have hpd2 : sPay S i p (q + 1 - p).toNat = sPay S i p (q + 1 - p).toNat := rfl
            refine gg_lstore k [(9, .long (iL (sPay S i p (q + 1 - p).toNat))), (0, .ref (gad B (63))), (1, .int (iI (p))), (2, .int (iI (sNum S i 0))), (3, .int (iI (sNum S i 1))), (4, .int (iI (sNum S i 3))), (5, .long (iL (le2))), (7, .int (iI (un))), (8, .int (iI (en))), (11, .int (iI (q)))] dX0_choose_89 (by decide) rfl ?_
            refine gg_lload k dX0_choose_91 rfl ?_
            refine gg_aload_n k dX0_choose_93 rfl ?_
            refine gg_get k (cbAlone hB) inX0_choose_X0 2 (by decide) fX0_choose_19 rfl rfl dX0_choose_94 ?_
            refine gg_iload k dX0_choose_97 rfl ?_
            refine gg_iconst k dX0_choose_99 ?_
            refine gg_iadd k dX0_choose_100 ?_
            refine gg_lald k (cbCosts hB) (by omega) (by omega) dX0_choose_101 ?_
            refine gg_tl (hco (q + 1) (by omega) (by omega)) ?_
            have cb101 := hcb (q + 1) (by omega) (by omega)
            refine gg_ladd k dX0_choose_102 ?_
            refine gg_lstore k [(12, .long (iL ((sPay S i p (q + 1 - p).toNat) + ((aCo S T i (T - p).toNat) (q + 1))))), (9, .long (iL (sPay S i p (q + 1 - p).toNat))), (0, .ref (gad B (63))), (1, .int (iI (p))), (2, .int (iI (sNum S i 0))), (3, .int (iI (sNum S i 1))), (4, .int (iI (sNum S i 3))), (5, .long (iL (le2))), (7, .int (iI (un))), (8, .int (iI (en))), (11, .int (iI (q)))] dX0_choose_103 (by decide) rfl ?_
            refine gg_lload k dX0_choose_105 rfl ?_
            refine gg_lload k dX0_choose_107 rfl ?_
            refine gg_lt_ne k 123 dX0_choose_109 dX0_choose_110 (by decide) ⟨by omega, by omega⟩ ⟨by omega, by omega⟩ (fun c109 => ?_) (fun c109 => ?_)
            · refine gg_iconst k dX0_choose_123 ?_
              refine gg_istore k [(14, .int (iI (0))), (12, .long (iL ((sPay S i p (q + 1 - p).toNat) + ((aCo S T i (T - p).toNat) (q + 1))))), (9, .long (iL (sPay S i p (q + 1 - p).toNat))), (0, .ref (gad B (63))), (1, .int (iI (p))), (2, .int (iI (sNum S i 0))), (3, .int (iI (sNum S i 1))), (4, .int (iI (sNum S i 3))), (5, .long (iL (le2))), (7, .int (iI (un))), (8, .int (iI (en))), (11, .int (iI (q)))] dX0_choose_124 (by decide) rfl ?_
              refine gg_lload k dX0_choose_126 rfl ?_
              refine gg_lload k dX0_choose_128 rfl ?_
              refine gg_lt_lt k 139 dX0_choose_130 dX0_choose_131 (by decide) ⟨by omega, by omega⟩ ⟨by omega, by omega⟩ (fun c130 => ?_) (fun c130 => ?_)
              · refine gg_lload k dX0_choose_139 rfl ?_
                refine gg_lstore k [(5, .long (iL ((sPay S i p (q + 1 - p).toNat) + ((aCo S T i (T - p).toNat) (q + 1))))), (14, .int (iI (0))), (12, .long (iL ((sPay S i p (q + 1 - p).toNat) + ((aCo S T i (T - p).toNat) (q + 1))))), (9, .long (iL (sPay S i p (q + 1 - p).toNat))), (0, .ref (gad B (63))), (1, .int (iI (p))), (2, .int (iI (sNum S i 0))), (3, .int (iI (sNum S i 1))), (4, .int (iI (sNum S i 3))), (7, .int (iI (un))), (8, .int (iI (en))), (11, .int (iI (q)))] dX0_choose_141 (by decide) rfl ?_
                refine gg_iload k dX0_choose_143 rfl ?_
                refine gg_istore k [(7, .int (iI (q))), (5, .long (iL ((sPay S i p (q + 1 - p).toNat) + ((aCo S T i (T - p).toNat) (q + 1))))), (14, .int (iI (0))), (12, .long (iL ((sPay S i p (q + 1 - p).toNat) + ((aCo S T i (T - p).toNat) (q + 1))))), (9, .long (iL (sPay S i p (q + 1 - p).toNat))), (0, .ref (gad B (63))), (1, .int (iI (p))), (2, .int (iI (sNum S i 0))), (3, .int (iI (sNum S i 1))), (4, .int (iI (sNum S i 3))), (8, .int (iI (en))), (11, .int (iI (q)))] dX0_choose_145 (by decide) rfl ?_
                refine gg_iinc k 11 [(11, .int (iI (q + 1))), (7, .int (iI (q))), (5, .long (iL ((sPay S i p (q + 1 - p).toNat) + ((aCo S T i (T - p).toNat) (q + 1))))), (14, .int (iI (0))), (12, .long (iL ((sPay S i p (q + 1 - p).toNat) + ((aCo S T i (T - p).toNat) (q + 1))))), (9, .long (iL (sPay S i p (q + 1 - p).toNat))), (0, .ref (gad B (63))), (1, .int (iI (p))), (2, .int (iI (sNum S i 0))), (3, .int (iI (sNum S i 1))), (4, .int (iI (sNum S i 3))), (8, .int (iI (en)))] dX0_choose_147 rfl (by decide) rfl ?_
                refine gg_goto (tgt := 62) k dX0_choose_150 (by decide) ?_
                refine gg_sub [6, 7, 8, 9, 10, 2, 1, 11, 5, 0] rfl ?_
                exact ih62 (q + 1) ((sPay S i p (q + 1 - p).toNat) + ((aCo S T i (T - p).toNat) (q + 1))) (q) (sPay S i p (q + 1 - p).toNat) (by omega) (by omega) (by rw [aCh_s hq0, if_pos (by rw [← hle2, ← hun]; omega)]) (by rw [aCh_s hq0, if_pos (by rw [← hle2, ← hun]; omega)]) (hpd2) (by omega)
              · refine gg_iload k dX0_choose_134 rfl ?_
                refine gg_if_eq k 147 dX0_choose_136 (by decide) ⟨by omega, by omega⟩ (fun c136 => ?_) (fun c136 => ?_)
                · refine gg_iinc k 11 [(11, .int (iI (q + 1))), (14, .int (iI (0))), (12, .long (iL ((sPay S i p (q + 1 - p).toNat) + ((aCo S T i (T - p).toNat) (q + 1))))), (9, .long (iL (sPay S i p (q + 1 - p).toNat))), (0, .ref (gad B (63))), (1, .int (iI (p))), (2, .int (iI (sNum S i 0))), (3, .int (iI (sNum S i 1))), (4, .int (iI (sNum S i 3))), (5, .long (iL (le2))), (7, .int (iI (un))), (8, .int (iI (en)))] dX0_choose_147 rfl (by decide) rfl ?_
                  refine gg_goto (tgt := 62) k dX0_choose_150 (by decide) ?_
                  refine gg_sub [4, 5, 6, 7, 8, 9, 10, 11, 3, 0] rfl ?_
                  exact ih62 (q + 1) (le2) (un) (sPay S i p (q + 1 - p).toNat) (by omega) (by omega) (by rw [aCh_s hq0, if_neg (by rw [← hle2, ← hun]; omega)]; exact hle2) (by rw [aCh_s hq0, if_neg (by rw [← hle2, ← hun]; omega)]; exact hun) (hpd2) (by omega)
                · exfalso; omega
            · refine gg_iload k dX0_choose_113 rfl ?_
              refine gg_iload_n k dX0_choose_115 rfl ?_
              refine gg_icmp_lt k 123 dX0_choose_116 (by decide) ⟨by omega, by omega⟩ ⟨by omega, by omega⟩ (fun c116 => ?_) (fun c116 => ?_)
              · refine gg_iconst k dX0_choose_123 ?_
                refine gg_istore k [(14, .int (iI (0))), (12, .long (iL ((sPay S i p (q + 1 - p).toNat) + ((aCo S T i (T - p).toNat) (q + 1))))), (9, .long (iL (sPay S i p (q + 1 - p).toNat))), (0, .ref (gad B (63))), (1, .int (iI (p))), (2, .int (iI (sNum S i 0))), (3, .int (iI (sNum S i 1))), (4, .int (iI (sNum S i 3))), (5, .long (iL (le2))), (7, .int (iI (un))), (8, .int (iI (en))), (11, .int (iI (q)))] dX0_choose_124 (by decide) rfl ?_
                refine gg_lload k dX0_choose_126 rfl ?_
                refine gg_lload k dX0_choose_128 rfl ?_
                refine gg_lt_lt k 139 dX0_choose_130 dX0_choose_131 (by decide) ⟨by omega, by omega⟩ ⟨by omega, by omega⟩ (fun c130 => ?_) (fun c130 => ?_)
                · exfalso; omega
                · refine gg_iload k dX0_choose_134 rfl ?_
                  refine gg_if_eq k 147 dX0_choose_136 (by decide) ⟨by omega, by omega⟩ (fun c136 => ?_) (fun c136 => ?_)
                  · refine gg_iinc k 11 [(11, .int (iI (q + 1))), (14, .int (iI (0))), (12, .long (iL ((sPay S i p (q + 1 - p).toNat) + ((aCo S T i (T - p).toNat) (q + 1))))), (9, .long (iL (sPay S i p (q + 1 - p).toNat))), (0, .ref (gad B (63))), (1, .int (iI (p))), (2, .int (iI (sNum S i 0))), (3, .int (iI (sNum S i 1))), (4, .int (iI (sNum S i 3))), (5, .long (iL (le2))), (7, .int (iI (un))), (8, .int (iI (en)))] dX0_choose_147 rfl (by decide) rfl ?_
                    refine gg_goto (tgt := 62) k dX0_choose_150 (by decide) ?_
                    refine gg_sub [4, 5, 6, 7, 8, 9, 10, 11, 3, 0] rfl ?_
                    exact ih62 (q + 1) (le2) (un) (sPay S i p (q + 1 - p).toNat) (by omega) (by omega) (by rw [aCh_s hq0, if_neg (by rw [← hle2, ← hun]; omega)]; exact hle2) (by rw [aCh_s hq0, if_neg (by rw [← hle2, ← hun]; omega)]; exact hun) (hpd2) (by omega)
                  · exfalso; omega
              · refine gg_iconst k dX0_choose_119 ?_
                refine gg_goto (tgt := 124) k dX0_choose_120 (by decide) ?_
                refine gg_istore k [(14, .int (iI (1))), (12, .long (iL ((sPay S i p (q + 1 - p).toNat) + ((aCo S T i (T - p).toNat) (q + 1))))), (9, .long (iL (sPay S i p (q + 1 - p).toNat))), (0, .ref (gad B (63))), (1, .int (iI (p))), (2, .int (iI (sNum S i 0))), (3, .int (iI (sNum S i 1))), (4, .int (iI (sNum S i 3))), (5, .long (iL (le2))), (7, .int (iI (un))), (8, .int (iI (en))), (11, .int (iI (q)))] dX0_choose_124 (by decide) rfl ?_
                refine gg_lload k dX0_choose_126 rfl ?_
                refine gg_lload k dX0_choose_128 rfl ?_
                refine gg_lt_lt k 139 dX0_choose_130 dX0_choose_131 (by decide) ⟨by omega, by omega⟩ ⟨by omega, by omega⟩ (fun c130 => ?_) (fun c130 => ?_)
                · exfalso; omega
                · refine gg_iload k dX0_choose_134 rfl ?_
                  refine gg_if_eq k 147 dX0_choose_136 (by decide) ⟨by omega, by omega⟩ (fun c136 => ?_) (fun c136 => ?_)
                  · exfalso; omega
                  · refine gg_lload k dX0_choose_139 rfl ?_
                    refine gg_lstore k [(5, .long (iL ((sPay S i p (q + 1 - p).toNat) + ((aCo S T i (T - p).toNat) (q + 1))))), (14, .int (iI (1))), (12, .long (iL ((sPay S i p (q + 1 - p).toNat) + ((aCo S T i (T - p).toNat) (q + 1))))), (9, .long (iL (sPay S i p (q + 1 - p).toNat))), (0, .ref (gad B (63))), (1, .int (iI (p))), (2, .int (iI (sNum S i 0))), (3, .int (iI (sNum S i 1))), (4, .int (iI (sNum S i 3))), (7, .int (iI (un))), (8, .int (iI (en))), (11, .int (iI (q)))] dX0_choose_141 (by decide) rfl ?_
                    refine gg_iload k dX0_choose_143 rfl ?_
                    refine gg_istore k [(7, .int (iI (q))), (5, .long (iL ((sPay S i p (q + 1 - p).toNat) + ((aCo S T i (T - p).toNat) (q + 1))))), (14, .int (iI (1))), (12, .long (iL ((sPay S i p (q + 1 - p).toNat) + ((aCo S T i (T - p).toNat) (q + 1))))), (9, .long (iL (sPay S i p (q + 1 - p).toNat))), (0, .ref (gad B (63))), (1, .int (iI (p))), (2, .int (iI (sNum S i 0))), (3, .int (iI (sNum S i 1))), (4, .int (iI (sNum S i 3))), (8, .int (iI (en))), (11, .int (iI (q)))] dX0_choose_145 (by decide) rfl ?_
                    refine gg_iinc k 11 [(11, .int (iI (q + 1))), (7, .int (iI (q))), (5, .long (iL ((sPay S i p (q + 1 - p).toNat) + ((aCo S T i (T - p).toNat) (q + 1))))), (14, .int (iI (1))), (12, .long (iL ((sPay S i p (q + 1 - p).toNat) + ((aCo S T i (T - p).toNat) (q + 1))))), (9, .long (iL (sPay S i p (q + 1 - p).toNat))), (0, .ref (gad B (63))), (1, .int (iI (p))), (2, .int (iI (sNum S i 0))), (3, .int (iI (sNum S i 1))), (4, .int (iI (sNum S i 3))), (8, .int (iI (en)))] dX0_choose_147 rfl (by decide) rfl ?_
                    refine gg_goto (tgt := 62) k dX0_choose_150 (by decide) ?_
                    refine gg_sub [6, 7, 8, 9, 10, 2, 1, 11, 5, 0] rfl ?_
                    exact ih62 (q + 1) ((sPay S i p (q + 1 - p).toNat) + ((aCo S T i (T - p).toNat) (q + 1))) (q) (sPay S i p (q + 1 - p).toNat) (by omega) (by omega) (by rw [aCh_s hq0, if_pos (by rw [← hle2, ← hun]; omega)]) (by rw [aCh_s hq0, if_pos (by rw [← hle2, ← hun]; omega)]) (hpd2) (by omega)
      refine gg_sub [5, 6, 7, 8, 9, 4, 3, 2, 1, 0] rfl ?_
      exact L62 ((en + 1 - p).toNat + 1) (p) (le) (p - 1) (sNum S i 0) (by omega) (by omega) (by rw [show p - p = 0 by omega]; exact hle) (by rw [show p - p = 0 by omega]; rfl) (by rw [show p - p = 0 by omega]; rfl) (by omega)
    refine gg_iload k dX0_choose_30 rfl ?_
    refine gg_if_le k 49 dX0_choose_32 (by decide) ⟨by omega, by omega⟩ (fun c32 => ?_) (fun c32 => ?_)
    · refine gg_aload_n k dX0_choose_49 rfl ?_
      refine gg_get k (cbAlone hB) inX0_choose_X0 0 (by decide) fX0_choose_9 rfl rfl dX0_choose_50 ?_
      exact J53 (T) (by unfold aEnd; rw [if_neg (by omega)])
    · refine gg_aload_n k dX0_choose_35 rfl ?_
      refine gg_get k (cbAlone hB) inX0_choose_X0 0 (by decide) fX0_choose_9 rfl rfl dX0_choose_36 ?_
      refine gg_iload_n k dX0_choose_39 rfl ?_
      refine gg_iload k dX0_choose_40 rfl ?_
      refine gg_iadd k dX0_choose_42 ?_
      refine gg_min k ⟨by omega, by omega⟩ ⟨by omega, by omega⟩ dX0_choose_43 mX0_choose_48.1 mX0_choose_48.2.1 mX0_choose_48.2.2.1 mX0_choose_48.2.2.2 (Nat.le_of_ble_eq_true rfl) (Nat.le_of_ble_eq_true rfl) ?_
      refine gg_goto (tgt := 53) k dX0_choose_46 (by decide) ?_
      exact J53 (min T (p + (sNum S i 3))) (by unfold aEnd; rw [if_pos (by omega)])
  refine gg_aload_n k dX0_choose_0 rfl ?_
  refine gg_get k (cbAlone hB) inX0_choose_X0 1 (by decide) fX0_choose_15 rfl rfl dX0_choose_1 ?_
  refine gg_iload_n k dX0_choose_4 rfl ?_
  refine gg_iald k (cbNets hB) (by omega) (by omega) dX0_choose_5 ?_
  refine gg_ti (hn (p) (by omega) (by omega)) ?_
  have nb5 := sNet_b hO i (p)
  refine gg_if_ne k 20 dX0_choose_6 (by decide) ⟨by omega, by omega⟩ (fun c6 => ?_) (fun c6 => ?_)
  · refine gg_ldc2 (z := 9223372036854775807) k dX0_choose_20 (by decide +kernel) ?_
    exact J23 (9223372036854775807) (by rw [if_neg (by omega)]; rfl)
  · refine gg_aload_n k dX0_choose_9 rfl ?_
    refine gg_get k (cbAlone hB) inX0_choose_X0 2 (by decide) fX0_choose_19 rfl rfl dX0_choose_10 ?_
    refine gg_iload_n k dX0_choose_13 rfl ?_
    refine gg_iconst k dX0_choose_14 ?_
    refine gg_iadd k dX0_choose_15 ?_
    refine gg_lald k (cbCosts hB) (by omega) (by omega) dX0_choose_16 ?_
    refine gg_tl (hco (p + 1) (by omega) (by omega)) ?_
    have cb16 := hcb (p + 1) (by omega) (by omega)
    refine gg_goto (tgt := 23) k dX0_choose_17 (by decide) ?_
    exact J23 ((aCo S T i (T - p).toNat) (p + 1)) (by rw [if_pos (by omega)])

abbrev rX0_sumOfNets : Room := { frames := 0, cells := 0, slots := 0, locals := 0 }
set_option maxRecDepth 100000 in
set_option maxHeartbeats 4000000 in
theorem kX0_sumOfNets {l : Launch} {B : gB} {T : Int} {S : sS} {C : gSt} (hB : clsB B T) (hO : sOk S T) (hR : cRel S T C) {i : Int} (hn : ∀ j : Int, 1 ≤ j → j ≤ T → C 64 j = sNet S i j) (a u : Int) (ha0 : 1 ≤ a) (ha1 : a ≤ T) (hu0 : a - 1 ≤ u) (hu1 : u ≤ T) : gMi l B yX0_sumOfNets wsX0_sumOfNets rX0_sumOfNets [.ref (gad B (63)), .int (iI (a)), .int (iI (u))] C (fun z C' => z = sSum S i a (u + 1 - a).toNat ∧ C' = C) := by
  refine gMi_of (ty := .int) rfl (cc := cX0_sumOfNets) (nL := 5) (by decide) rfl (Nat.le_of_ble_eq_true rfl) (fun K k hret => ?_)
  have k : gOk K B l rX0_sumOfNets 5 cX0_sumOfNets RX0 wsX0_sumOfNets := k
  show GG K B C 0 [(0, .ref (gad B (63))), (1, .int (iI (a))), (2, .int (iI (u)))] []
  have hT := hO.t
  have hc := hO.cnt
  
  refine gg_iconst k dX0_sumOfNets_0 ?_
  refine gg_istore_n k [(3, .int (iI (0))), (0, .ref (gad B (63))), (1, .int (iI (a))), (2, .int (iI (u)))] dX0_sumOfNets_1 (by decide) rfl ?_
  refine gg_iload_n k dX0_sumOfNets_2 rfl ?_
  refine gg_istore k [(4, .int (iI (a))), (3, .int (iI (0))), (0, .ref (gad B (63))), (1, .int (iI (a))), (2, .int (iI (u)))] dX0_sumOfNets_3 (by decide) rfl ?_
  have L5 : ∀ (n5 : Nat) (q : Int) (sm : Int), a ≤ q → q ≤ u + 1 → sm = sSum S i a (q - a).toNat → u + 1 - q < (n5 : Int) → GG K B C 5 [(0, .ref (gad B (63))), (1, .int (iI (a))), (2, .int (iI (u))), (3, .int (iI (sm))), (4, .int (iI (q)))] [] := by
    intro n5
    induction n5 with
    | zero =>
      intro q sm hq0 hq1 hs hn5
      exact absurd hn5 (by omega)
    | succ n5 ih5 =>
      intro q sm hq0 hq1 hs hn5
      have sbb := sSum_b hO i a (q - a).toNat
      refine gg_iload k dX0_sumOfNets_5 rfl ?_
      refine gg_iload_n k dX0_sumOfNets_7 rfl ?_
      refine gg_icmp_gt k 27 dX0_sumOfNets_8 (by decide) ⟨by omega, by omega⟩ ⟨by omega, by omega⟩ (fun c8 => ?_) (fun c8 => ?_)
      · refine gg_iload_n k dX0_sumOfNets_27 rfl ?_
        exact hret _ _ _ _ dX0_sumOfNets_28 (⟨by omega, by omega⟩) (⟨by rw [hs, show q = u + 1 by omega], rfl⟩)
      · refine gg_iload_n k dX0_sumOfNets_11 rfl ?_
        refine gg_aload_n k dX0_sumOfNets_12 rfl ?_
        refine gg_get k (cbAlone hB) inX0_sumOfNets_X0 1 (by decide) fX0_sumOfNets_15 rfl rfl dX0_sumOfNets_13 ?_
        refine gg_iload k dX0_sumOfNets_16 rfl ?_
        refine gg_iald k (cbNets hB) (by omega) (by omega) dX0_sumOfNets_18 ?_
        refine gg_ti (hn (q) (by omega) (by omega)) ?_
        have nb18 := sNet_b hO i (q)
        refine gg_iadd k dX0_sumOfNets_19 ?_
        refine gg_istore_n k [(3, .int (iI (sm + (sNet S i (q))))), (0, .ref (gad B (63))), (1, .int (iI (a))), (2, .int (iI (u))), (4, .int (iI (q)))] dX0_sumOfNets_20 (by decide) rfl ?_
        refine gg_iinc k 4 [(4, .int (iI (q + 1))), (3, .int (iI (sm + (sNet S i (q))))), (0, .ref (gad B (63))), (1, .int (iI (a))), (2, .int (iI (u)))] dX0_sumOfNets_21 rfl (by decide) rfl ?_
        refine gg_goto (tgt := 5) k dX0_sumOfNets_24 (by decide) ?_
        refine gg_sub [2, 3, 4, 1, 0] rfl ?_
        exact ih5 (q + 1) (sm + (sNet S i (q))) (by omega) (by omega) (by rw [sSum_s hq0, hs]) (by omega)
  refine gg_sub [2, 3, 4, 1, 0] rfl ?_
  exact L5 ((u + 1 - a).toNat + 1) (a) (0) (by omega) (by omega) (by rw [show a - a = 0 by omega]; rfl) (by omega)

abbrev rX0_followChoices : Room := { frames := 1, cells := 0, slots := 0, locals := 24 }
set_option maxRecDepth 100000 in
set_option maxHeartbeats 4000000 in
theorem kX0_followChoices {l : Launch} {B : gB} {T : Int} {S : sS} {C : gSt} (hB : clsB B T) (hO : sOk S T) (hR : cRel S T C) {i : Int} (hn : ∀ j : Int, 1 ≤ j → j ≤ T → C 64 j = sNet S i j) (hu : ∀ j : Int, 1 ≤ j → j ≤ T → C 66 j = aUnt S T i j) : gMv l B yX0_followChoices wsX0_followChoices rX0_followChoices [.ref (gad B (63))] C (fun C' => cRel S T C' ∧ (∀ j : Int, 1 ≤ j → j ≤ T → C' 67 j = sBestLot S T i j) ∧ ∀ q : Nat, q ≠ 67 → C' q = C q) := by
  refine gMv_of (cc := cX0_followChoices) (nL := 3) (by decide) rfl (Nat.le_of_ble_eq_true rfl) (fun K k hret => ?_)
  have k : gOk K B l rX0_followChoices 3 cX0_followChoices RX0 wsX0_followChoices := k
  show GG K B C 0 [(0, .ref (gad B (63)))] []
  have hT := hO.t
  have hc := hO.cnt
  
  refine gg_iconst k dX0_followChoices_0 ?_
  refine gg_istore_n k [(1, .int (iI (1))), (0, .ref (gad B (63)))] dX0_followChoices_1 (by decide) rfl ?_
  refine gg_iconst k dX0_followChoices_2 ?_
  refine gg_istore_n k [(2, .int (iI (1))), (1, .int (iI (1))), (0, .ref (gad B (63)))] dX0_followChoices_3 (by decide) rfl ?_
  have L4 : ∀ (n4 : Nat) (p : Int) (nx : Int) (C1 : gSt), 1 ≤ p → p ≤ T + 1 → nx = aNx S T i (p - 1).toNat → cRel S T C1 → (∀ j : Int, 1 ≤ j → j ≤ p - 1 → C1 67 j = sBestLot S T i j) → (∀ q : Nat, q ≠ 67 → C1 q = C q) → T + 1 - p < (n4 : Int) → GG K B C1 4 [(0, .ref (gad B (63))), (1, .int (iI (nx))), (2, .int (iI (p)))] [] := by
    intro n4
    induction n4 with
    | zero =>
      intro p nx C1 hp0 hp1 hnx hR ham hk1 hn4
      exact absurd hn4 (by omega)
    | succ n4 ih4 =>
      intro p nx C1 hp0 hp1 hnx hR ham hk1 hn4
      have nxb := fun hp : p ≤ T + 1 => aNx_b hO i (p - 1).toNat (by omega)
      have nxb := nxb hp1
      refine gg_iload_n k dX0_followChoices_4 rfl ?_
      refine gg_aload_n k dX0_followChoices_5 rfl ?_
      refine gg_get k (cbAlone hB) inX0_followChoices_X0 0 (by decide) fX0_followChoices_9 rfl rfl dX0_followChoices_6 ?_
      refine gg_icmp_gt k 60 dX0_followChoices_9 (by decide) ⟨by omega, by omega⟩ ⟨by omega, by omega⟩ (fun c9 => ?_) (fun c9 => ?_)
      · exact hret _ _ _ dX0_followChoices_60 (⟨hR, fun j h0 h1 => ham j h0 (by omega), hk1⟩)
      · refine gg_aload_n k dX0_followChoices_12 rfl ?_
        refine gg_get k (cbAlone hB) inX0_followChoices_X0 4 (by decide) fX0_followChoices_26 rfl rfl dX0_followChoices_13 ?_
        refine gg_iload_n k dX0_followChoices_16 rfl ?_
        refine gg_iconst k dX0_followChoices_17 ?_
        refine gg_iast k (cbAmounts hB) (by omega) (by omega) dX0_followChoices_18 ?_
        refine gg_nm (fun C18 e18 => ?_)
        have hR : cRel S T C18 := by rw [e18]; exact hR.wri (Or.inl (by unfold scr; omega))
        refine gg_iload_n k dX0_followChoices_19 rfl ?_
        refine gg_iload_n k dX0_followChoices_20 rfl ?_
        refine gg_icmp_ne k 54 dX0_followChoices_21 (by decide) ⟨by omega, by omega⟩ ⟨by omega, by omega⟩ (fun c21 => ?_) (fun c21 => ?_)
        · refine gg_iinc k 2 [(2, .int (iI (p + 1))), (0, .ref (gad B (63))), (1, .int (iI (nx)))] dX0_followChoices_54 rfl (by decide) rfl ?_
          refine gg_goto (tgt := 4) k dX0_followChoices_57 (by decide) ?_
          refine gg_sub [1, 2, 0] rfl ?_
          exact ih4 (p + 1) (nx) (C18) (by omega) (by omega) (by rw [show p + 1 - 1 = p by omega, aNx_s hp0, if_neg (by omega)]; exact hnx) (hR) (fun j h0 h1 => by rw [e18]; by_cases hj : j = p; (· rw [hj, wr_s]; unfold sBestLot; rw [if_neg (by omega)]); (· rw [wr_j hj]; exact ham j h0 (by omega))) (fun q hq => by rw [e18, wr_k hq]; exact hk1 q hq) (by omega)
        · refine gg_aload_n k dX0_followChoices_24 rfl ?_
          refine gg_get k (cbAlone hB) inX0_followChoices_X0 4 (by decide) fX0_followChoices_26 rfl rfl dX0_followChoices_25 ?_
          refine gg_iload_n k dX0_followChoices_28 rfl ?_
          refine gg_aload_n k dX0_followChoices_29 rfl ?_
          refine gg_iload_n k dX0_followChoices_30 rfl ?_
          refine gg_aload_n k dX0_followChoices_31 rfl ?_
          refine gg_get k (cbAlone hB) inX0_followChoices_X0 3 (by decide) fX0_followChoices_23 rfl rfl dX0_followChoices_32 ?_
          refine gg_iload_n k dX0_followChoices_35 rfl ?_
          refine gg_iald k (cbUntils hB) (by omega) (by omega) dX0_followChoices_36 ?_
          refine gg_ti (show C18 66 p = aUnt S T i p by first | rw [e40, wr_k (by omega), e18, wr_k (by omega), hk1 66 (by omega)]; exact hu p (by omega) (by omega) | rw [e18, wr_k (by omega), hk1 66 (by omega)]; exact hu p (by omega) (by omega)) ?_
          have unb := aUnt_b hO (i := i) hp0 (by omega)
          refine gg_calli (n := 2) (As := [.int (iI (p)), .int (iI (aUnt S T i p))]) (rest := [.int (iI (p)), .ref (gad B (67))]) k (kX0_sumOfNets hB hO hR (i := i) (fun j h0 h1 => by rw [e18, wr_k (by omega), hk1 64 (by omega)]; exact hn j h0 h1) p (aUnt S T i p) (by omega) (by omega) (by omega) (by omega)) ⟨_, _, _, gX0_followChoices_X0_sumOfNets, rfl, rfl, rfl, by decide +kernel, by decide, by decide⟩ (cbAlone hB) rfl rfl (Nat.le_of_ble_eq_true rfl) dX0_followChoices_37 (fun z37 C37 r37 q37 => ?_)
          obtain ⟨q37, e37⟩ := q37
          rw [e37]
          clear e37
          obtain ⟨r37, s37⟩ := r37
          refine gg_iast k (cbAmounts hB) (by omega) (by omega) dX0_followChoices_40 ?_
          refine gg_nm (fun C40 e40 => ?_)
          have hR : cRel S T C40 := by rw [e40]; exact hR.wri (Or.inl (by unfold scr; omega))
          refine gg_iload_n k dX0_followChoices_41 rfl ?_
          refine gg_aload_n k dX0_followChoices_42 rfl ?_
          refine gg_get k (cbAlone hB) inX0_followChoices_X0 3 (by decide) fX0_followChoices_23 rfl rfl dX0_followChoices_43 ?_
          refine gg_iload_n k dX0_followChoices_46 rfl ?_
          refine gg_iald k (cbUntils hB) (by omega) (by omega) dX0_followChoices_47 ?_
          refine gg_ti (show C40 66 p = aUnt S T i p by first | rw [e40, wr_k (by omega), e18, wr_k (by omega), hk1 66 (by omega)]; exact hu p (by omega) (by omega) | rw [e18, wr_k (by omega), hk1 66 (by omega)]; exact hu p (by omega) (by omega)) ?_
          have unb := aUnt_b hO (i := i) hp0 (by omega)
          refine gg_max k ⟨by omega, by omega⟩ ⟨by omega, by omega⟩ dX0_followChoices_48 mX0_followChoices_61.1 mX0_followChoices_61.2.1 mX0_followChoices_61.2.2.1 mX0_followChoices_61.2.2.2 (Nat.le_of_ble_eq_true rfl) (Nat.le_of_ble_eq_true rfl) ?_
          refine gg_iconst k dX0_followChoices_51 ?_
          refine gg_iadd k dX0_followChoices_52 ?_
          refine gg_istore_n k [(1, .int (iI ((max p (aUnt S T i p)) + 1))), (0, .ref (gad B (63))), (2, .int (iI (p)))] dX0_followChoices_53 (by decide) rfl ?_
          refine gg_iinc k 2 [(2, .int (iI (p + 1))), (1, .int (iI ((max p (aUnt S T i p)) + 1))), (0, .ref (gad B (63)))] dX0_followChoices_54 rfl (by decide) rfl ?_
          refine gg_goto (tgt := 4) k dX0_followChoices_57 (by decide) ?_
          refine gg_sub [2, 1, 0] rfl ?_
          exact ih4 (p + 1) ((max p (aUnt S T i p)) + 1) (C40) (by omega) (by omega) (by rw [show p + 1 - 1 = p by omega, aNx_s hp0, if_pos (by omega)]) (hR) (fun j h0 h1 => by rw [e40]; by_cases hj : j = p; (· rw [hj, wr_s]; unfold sBestLot; rw [if_pos (by omega)]; exact q37); (· rw [wr_j hj, e18, wr_j hj]; exact ham j h0 (by omega))) (fun q hq => by rw [e40, wr_k hq, e18, wr_k hq]; exact hk1 q hq) (by omega)
  refine gg_sub [2, 1, 0] rfl ?_
  exact L4 ((T + 1 - 1).toNat + 1) (1) (1) (C) (by omega) (by omega) (rfl) (hR) (fun j h0 h1 => by omega) (fun _ _ => rfl) (by omega)

abbrev rX0_plan : Room := { frames := 2, cells := 0, slots := 0, locals := 58 }
set_option maxRecDepth 100000 in
set_option maxHeartbeats 4000000 in
theorem kX0_plan {l : Launch} {B : gB} {T : Int} {S : sS} {C : gSt} (hB : clsB B T) (hO : sOk S T) (hR : cRel S T C) {i : Int} (hi0 : 0 ≤ i) (hi6 : i < 6) : gMv l B yX0_plan wsX0_plan rX0_plan [.ref (gad B (63)), .ref (gad B (2 + 9 * (i).toNat))] C (fun C' => cRel S T C' ∧ (∀ j : Int, 1 ≤ j → j ≤ T + 1 → C' 65 j = aCost S T i j) ∧ ∀ j : Int, 1 ≤ j → j ≤ T → C' 67 j = sBestLot S T i j) := by
  refine gMv_of (cc := cX0_plan) (nL := 3) (by decide) rfl (Nat.le_of_ble_eq_true rfl) (fun K k hret => ?_)
  have k : gOk K B l rX0_plan 3 cX0_plan RX0 wsX0_plan := k
  show GG K B C 0 [(0, .ref (gad B (63))), (1, .ref (gad B (2 + 9 * (i).toNat)))] []
  have hT := hO.t
  have hc := hO.cnt
  
  refine gg_aload_n k dX0_plan_0 rfl ?_
  refine gg_aload_n k dX0_plan_1 rfl ?_
  refine gg_get k (cbItem hB (by omega) (by omega)) inX0_plan_X2 1 (by decide) fX0_plan_29 rfl rfl dX0_plan_2 ?_
  refine gg_aload_n k dX0_plan_5 rfl ?_
  refine gg_get k (cbItem hB (by omega) (by omega)) inX0_plan_X2 0 (by decide) fX0_plan_34 rfl rfl dX0_plan_6 ?_
  refine gg_iconst k dX0_plan_9 ?_
  refine gg_iald k (cbNum hB (by omega) (by omega)) (by omega) (by omega) dX0_plan_10 ?_
  refine gg_ti (hR.num _ (by omega) (by omega)) ?_
  have bd10 := hO.n4 (i)
  refine gg_callv (n := 2) (As := [.ref (gad B (4 + 9 * (i).toNat)), .int (iI (sNum S (i) (4)))]) (rest := []) k (kX0_findNets hB hO hR hi0 hi6) ⟨_, _, _, gX0_plan_X0_findNets, rfl, rfl, rfl, by decide +kernel, by decide, by decide⟩ (cbAlone hB) rfl rfl (Nat.le_of_ble_eq_true rfl) dX0_plan_11 (fun C11 q11 => ?_)
  obtain ⟨hR, hn11, hk11⟩ := q11
  refine gg_aload_n k dX0_plan_14 rfl ?_
  refine gg_get k (cbAlone hB) inX0_plan_X0 0 (by decide) fX0_plan_9 rfl rfl dX0_plan_15 ?_
  refine gg_istore_n k [(2, .int (iI (T))), (0, .ref (gad B (63))), (1, .ref (gad B (2 + 9 * (i).toNat)))] dX0_plan_18 (by decide) rfl ?_
  have L19 : ∀ (n19 : Nat) (p : Int) (C1 : gSt), 0 ≤ p → p ≤ T → cRel S T C1 → (∀ j : Int, 1 ≤ j → j ≤ T → C1 64 j = sNet S i j) → (∀ j : Int, p < j → j ≤ T + 1 → C1 65 j = (aCo S T i (T - p).toNat) j) → (∀ j : Int, p < j → j ≤ T → C1 66 j = aUnt S T i j) → p < (n19 : Int) → GG K B C1 19 [(0, .ref (gad B (63))), (1, .ref (gad B (2 + 9 * (i).toNat))), (2, .int (iI (p)))] [] := by
    intro n19
    induction n19 with
    | zero =>
      intro p C1 hp0 hp1 hR hn hco hu hn19
      exact absurd hn19 (by omega)
    | succ n19 ih19 =>
      intro p C1 hp0 hp1 hR hn hco hu hn19
      refine gg_iload_n k dX0_plan_19 rfl ?_
      refine gg_iconst k dX0_plan_20 ?_
      refine gg_icmp_lt k 53 dX0_plan_21 (by decide) ⟨by omega, by omega⟩ ⟨by omega, by omega⟩ (fun c21 => ?_) (fun c21 => ?_)
      · refine gg_aload_n k dX0_plan_53 rfl ?_
        refine gg_callv (n := 0) (As := []) (rest := []) k (kX0_followChoices hB hO hR (i := i) hn (fun j h0 h1 => hu j (by omega) h1)) ⟨_, _, _, gX0_plan_X0_followChoices, rfl, rfl, rfl, by decide +kernel, by decide, by decide⟩ (cbAlone hB) rfl rfl (Nat.le_of_ble_eq_true rfl) dX0_plan_54 (fun C54 q54 => ?_)
        obtain ⟨hR, ham, hk54⟩ := q54
        exact hret _ _ _ dX0_plan_57 (⟨hR, fun j h0 h1 => by rw [hk54 65 (by omega), hco j (by omega) h1, aCo_cost (by omega) h1], ham⟩)
      · refine gg_aload_n k dX0_plan_24 rfl ?_
        refine gg_iload_n k dX0_plan_25 rfl ?_
        refine gg_aload_n k dX0_plan_26 rfl ?_
        refine gg_get k (cbItem hB (by omega) (by omega)) inX0_plan_X2 0 (by decide) fX0_plan_34 rfl rfl dX0_plan_27 ?_
        refine gg_iconst k dX0_plan_30 ?_
        refine gg_iald k (cbNum hB (by omega) (by omega)) (by omega) (by omega) dX0_plan_31 ?_
        refine gg_ti (hR.num _ (by omega) (by omega)) ?_
        have bd31 := hO.n0 (i)
        refine gg_aload_n k dX0_plan_32 rfl ?_
        refine gg_get k (cbItem hB (by omega) (by omega)) inX0_plan_X2 0 (by decide) fX0_plan_34 rfl rfl dX0_plan_33 ?_
        refine gg_iconst k dX0_plan_36 ?_
        refine gg_iald k (cbNum hB (by omega) (by omega)) (by omega) (by omega) dX0_plan_37 ?_
        refine gg_ti (hR.num _ (by omega) (by omega)) ?_
        have bd37 := hO.n1 (i)
        refine gg_aload_n k dX0_plan_38 rfl ?_
        refine gg_get k (cbItem hB (by omega) (by omega)) inX0_plan_X2 0 (by decide) fX0_plan_34 rfl rfl dX0_plan_39 ?_
        refine gg_iconst k dX0_plan_42 ?_
        refine gg_iald k (cbNum hB (by omega) (by omega)) (by omega) (by omega) dX0_plan_43 ?_
        refine gg_ti (hR.num _ (by omega) (by omega)) ?_
        have bd43 := hO.n3 (i)
        refine gg_callv (n := 4) (As := [.int (iI (p)), .int (iI (sNum S (i) (0))), .int (iI (sNum S (i) (1))), .int (iI (sNum S (i) (3)))]) (rest := []) k (kX0_choose hB hO hR hi0 hi6 hn p (by omega) (by omega) hco) ⟨_, _, _, gX0_plan_X0_choose, rfl, rfl, rfl, by decide +kernel, by decide, by decide⟩ (cbAlone hB) rfl rfl (Nat.le_of_ble_eq_true rfl) dX0_plan_44 (fun C44 q44 => ?_)
        obtain ⟨hR, w2, w3, w4⟩ := q44
        refine gg_iinc k 2 [(2, .int (iI (p + (-1)))), (0, .ref (gad B (63))), (1, .ref (gad B (2 + 9 * (i).toNat)))] dX0_plan_47 rfl (by decide) rfl ?_
        refine gg_goto (tgt := 19) k dX0_plan_50 (by decide) ?_
        refine gg_sub [1, 2, 0] rfl ?_
        exact ih19 (p + (-1)) (C44) (by omega) (by omega) (hR) (fun j h0 h1 => by rw [w4 64 (by omega) (by omega)]; exact hn j h0 h1) (fun j h0 h1 => by rw [w2, show (T - (p + -1)).toNat = (T - p).toNat + 1 by omega]; show _ = upI (aCo S T i (T - p).toNat) (T - (((T - p).toNat : Nat) : Int)) _ j; rw [show T - (((T - p).toNat : Nat) : Int) = p by omega]; by_cases hj : j = p; (· rw [hj, upI_s, upI_s]); (· rw [upI_n hj, upI_n hj]; exact hco j (by omega) h1)) (fun j h0 h1 => by rw [w3]; by_cases hj : j = p; (· rw [hj, upI_s]; rfl); (· rw [upI_n hj]; exact hu j (by omega) h1)) (by omega)
  refine gg_sub [1, 2, 0] rfl ?_
  exact L19 ((T).toNat + 1) (T) (C11) (by omega) (by omega) (hR) (hn11) (fun j h0 h1 => by rw [show j = T + 1 by omega, hR.co1, show (T - T).toNat = 0 by omega]; rfl) (fun j h0 h1 => by omega) (by omega)

abbrev rX5_best : Room := { frames := 3, cells := 0, slots := 0, locals := 80 }
set_option maxRecDepth 100000 in
set_option maxHeartbeats 4000000 in
theorem kX5_best {l : Launch} {B : gB} {T : Int} {S : sS} {C : gSt} (hB : clsB B T) (hO : sOk S T) (hR : cRel S T C) (i : Int) (hi : rI i) : gMl l B yX5_best wsX5_best rX5_best [.ref (gad B (0)), .int (iI (i))] C (fun z C' => cRel S T C' ∧ z = if 0 ≤ i ∧ i < sCnt S then aCost S T i 1 else -9223372036854775808) := by
  refine gMl_of (cc := cX5_best) (nL := 2) (by decide) rfl (Nat.le_of_ble_eq_true rfl) (fun K k hret => ?_)
  have k : gOk K B l rX5_best 2 cX5_best RX5 wsX5_best := k
  show GG K B C 0 [(0, .ref (gad B (0))), (1, .int (iI (i)))] []
  have hT := hO.t
  have hc := hO.cnt
  obtain ⟨hi1, hi2⟩ := hi
  refine gg_aload_n k dX5_best_0 rfl ?_
  refine gg_iload_n k dX5_best_1 rfl ?_
  refine gg_calli (n := 1) (As := [.int (iI (i))]) (rest := []) k (kX5_isItem hB hO hR (i) ⟨by omega, by omega⟩) ⟨_, _, _, gX5_best_X5_isItem, rfl, rfl, rfl, by decide +kernel, by decide, by decide⟩ (cb0 hB) rfl rfl (Nat.le_of_ble_eq_true rfl) dX5_best_2 (fun z2 C2 r2 q2 => ?_)
  obtain ⟨q2, e2⟩ := q2
  rw [e2]
  clear e2
  obtain ⟨r2, s2⟩ := r2
  refine gg_if_ne k 12 dX5_best_5 (by decide) ⟨by omega, by omega⟩ (fun c5 => ?_) (fun c5 => ?_)
  · refine gg_aload_n k dX5_best_12 rfl ?_
    refine gg_get k (cb0 hB) inX5_best_X5 7 (by decide) fX5_best_63 rfl rfl dX5_best_13 ?_
    refine gg_aload_n k dX5_best_16 rfl ?_
    refine gg_get k (cb0 hB) inX5_best_X5 1 (by decide) fX5_best_26 rfl rfl dX5_best_17 ?_
    refine gg_iload_n k dX5_best_20 rfl ?_
    refine gg_aald k (cb1 hB) (by omega) (by omega) dX5_best_21 ?_
    refine gg_callv (n := 1) (As := [.ref (gad B (2 + 9 * (i).toNat))]) (rest := []) k (kX0_plan hB hO hR (i := i) (by omega) (by omega)) ⟨_, _, _, gX5_best_X0_plan, rfl, rfl, rfl, by decide +kernel, by decide, by decide⟩ (cbAlone hB) rfl rfl (Nat.le_of_ble_eq_true rfl) dX5_best_22 (fun C22 q22 => ?_)
    obtain ⟨hR, hc22, ha22⟩ := q22
    refine gg_aload_n k dX5_best_25 rfl ?_
    refine gg_get k (cb0 hB) inX5_best_X5 7 (by decide) fX5_best_63 rfl rfl dX5_best_26 ?_
    refine gg_get k (cbAlone hB) inX5_best_X0 2 (by decide) fX5_best_153 rfl rfl dX5_best_29 ?_
    refine gg_iconst k dX5_best_32 ?_
    refine gg_lald k (cbCosts hB) (by omega) (by omega) dX5_best_33 ?_
    refine gg_tl (hc22 1 (by omega) (by omega)) ?_
    have cbb := aCost_b hO i (p := 1) (by omega) (by omega)
    exact hret _ _ _ _ dX5_best_34 (⟨by omega, by omega⟩) (⟨hR, by rw [if_pos (by omega)]⟩)
  · refine gg_ldc2 (z := -9223372036854775808) k dX5_best_8 (by decide +kernel) ?_
    exact hret _ _ _ _ dX5_best_11 (⟨by omega, by omega⟩) (⟨hR, by rw [if_neg (by omega)]⟩)

abbrev rX5_lot : Room := { frames := 3, cells := 0, slots := 0, locals := 80 }
set_option maxRecDepth 100000 in
set_option maxHeartbeats 4000000 in
theorem kX5_lot {l : Launch} {B : gB} {T : Int} {S : sS} {C : gSt} (hB : clsB B T) (hO : sOk S T) (hR : cRel S T C) (i p : Int) (hi : rI i) (hp : rI p) : gMi l B yX5_lot wsX5_lot rX5_lot [.ref (gad B (0)), .int (iI (i)), .int (iI (p))] C (fun z C' => cRel S T C' ∧ z = if (0 ≤ i ∧ i < sCnt S) ∧ 1 ≤ p ∧ p ≤ T then sBestLot S T i p else -1) := by
  refine gMi_of (ty := .int) rfl (cc := cX5_lot) (nL := 3) (by decide) rfl (Nat.le_of_ble_eq_true rfl) (fun K k hret => ?_)
  have k : gOk K B l rX5_lot 3 cX5_lot RX5 wsX5_lot := k
  show GG K B C 0 [(0, .ref (gad B (0))), (1, .int (iI (i))), (2, .int (iI (p)))] []
  have hT := hO.t
  have hc := hO.cnt
  obtain ⟨hi1, hi2⟩ := hi
  obtain ⟨hp1, hp2⟩ := hp
  refine gg_aload_n k dX5_lot_0 rfl ?_
  refine gg_iload_n k dX5_lot_1 rfl ?_
  refine gg_calli (n := 1) (As := [.int (iI (i))]) (rest := []) k (kX5_isItem hB hO hR (i) ⟨by omega, by omega⟩) ⟨_, _, _, gX5_lot_X5_isItem, rfl, rfl, rfl, by decide +kernel, by decide, by decide⟩ (cb0 hB) rfl rfl (Nat.le_of_ble_eq_true rfl) dX5_lot_2 (fun z2 C2 r2 q2 => ?_)
  obtain ⟨q2, e2⟩ := q2
  rw [e2]
  clear e2
  obtain ⟨r2, s2⟩ := r2
  refine gg_if_eq k 16 dX5_lot_5 (by decide) ⟨by omega, by omega⟩ (fun c5 => ?_) (fun c5 => ?_)
  · refine gg_iconst k dX5_lot_16 ?_
    exact hret _ _ _ _ dX5_lot_17 (⟨by omega, by omega⟩) (⟨hR, by rw [if_neg (by omega)]⟩)
  · refine gg_aload_n k dX5_lot_8 rfl ?_
    refine gg_iload_n k dX5_lot_9 rfl ?_
    refine gg_calli (n := 1) (As := [.int (iI (p))]) (rest := []) k (kX5_isPeriod hB hO hR (p) ⟨by omega, by omega⟩) ⟨_, _, _, gX5_lot_X5_isPeriod, rfl, rfl, rfl, by decide +kernel, by decide, by decide⟩ (cb0 hB) rfl rfl (Nat.le_of_ble_eq_true rfl) dX5_lot_10 (fun z10 C10 r10 q10 => ?_)
    obtain ⟨q10, e10⟩ := q10
    rw [e10]
    clear e10
    obtain ⟨r10, s10⟩ := r10
    refine gg_if_ne k 18 dX5_lot_13 (by decide) ⟨by omega, by omega⟩ (fun c13 => ?_) (fun c13 => ?_)
    · refine gg_aload_n k dX5_lot_18 rfl ?_
      refine gg_get k (cb0 hB) inX5_lot_X5 7 (by decide) fX5_lot_63 rfl rfl dX5_lot_19 ?_
      refine gg_aload_n k dX5_lot_22 rfl ?_
      refine gg_get k (cb0 hB) inX5_lot_X5 1 (by decide) fX5_lot_26 rfl rfl dX5_lot_23 ?_
      refine gg_iload_n k dX5_lot_26 rfl ?_
      refine gg_aald k (cb1 hB) (by omega) (by omega) dX5_lot_27 ?_
      refine gg_callv (n := 1) (As := [.ref (gad B (2 + 9 * (i).toNat))]) (rest := []) k (kX0_plan hB hO hR (i := i) (by omega) (by omega)) ⟨_, _, _, gX5_lot_X0_plan, rfl, rfl, rfl, by decide +kernel, by decide, by decide⟩ (cbAlone hB) rfl rfl (Nat.le_of_ble_eq_true rfl) dX5_lot_28 (fun C28 q28 => ?_)
      obtain ⟨hR, hc28, ha28⟩ := q28
      refine gg_aload_n k dX5_lot_31 rfl ?_
      refine gg_get k (cb0 hB) inX5_lot_X5 7 (by decide) fX5_lot_63 rfl rfl dX5_lot_32 ?_
      refine gg_get k (cbAlone hB) inX5_lot_X0 4 (by decide) fX5_lot_157 rfl rfl dX5_lot_35 ?_
      refine gg_iload_n k dX5_lot_38 rfl ?_
      refine gg_iald k (cbAmounts hB) (by omega) (by omega) dX5_lot_39 ?_
      refine gg_ti (ha28 p (by omega) (by omega)) ?_
      have abb := aAm_b hO (i := i) (p := p) (by omega) (by omega)
      have abb2 : 0 ≤ sBestLot S T i p ∧ sBestLot S T i p ≤ 13000 := by unfold sBestLot; split <;> omega
      exact hret _ _ _ _ dX5_lot_40 (⟨by omega, by omega⟩) (⟨hR, by rw [if_pos (by omega)]⟩)
    · refine gg_iconst k dX5_lot_16 ?_
      exact hret _ _ _ _ dX5_lot_17 (⟨by omega, by omega⟩) (⟨hR, by rw [if_neg (by omega)]⟩)

abbrev rX5_from : Room := { frames := 3, cells := 0, slots := 0, locals := 80 }
set_option maxRecDepth 100000 in
set_option maxHeartbeats 4000000 in
theorem kX5_from {l : Launch} {B : gB} {T : Int} {S : sS} {C : gSt} (hB : clsB B T) (hO : sOk S T) (hR : cRel S T C) (i p : Int) (hi : rI i) (hp : rI p) : gMl l B yX5_from wsX5_from rX5_from [.ref (gad B (0)), .int (iI (i)), .int (iI (p))] C (fun z C' => cRel S T C' ∧ z = if (0 ≤ i ∧ i < sCnt S) ∧ 1 ≤ p ∧ p ≤ T + 1 then aCost S T i p else -9223372036854775808) := by
  refine gMl_of (cc := cX5_from) (nL := 3) (by decide) rfl (Nat.le_of_ble_eq_true rfl) (fun K k hret => ?_)
  have k : gOk K B l rX5_from 3 cX5_from RX5 wsX5_from := k
  show GG K B C 0 [(0, .ref (gad B (0))), (1, .int (iI (i))), (2, .int (iI (p)))] []
  have hT := hO.t
  have hc := hO.cnt
  obtain ⟨hi1, hi2⟩ := hi
  obtain ⟨hp1, hp2⟩ := hp
  refine gg_aload_n k dX5_from_0 rfl ?_
  refine gg_iload_n k dX5_from_1 rfl ?_
  refine gg_calli (n := 1) (As := [.int (iI (i))]) (rest := []) k (kX5_isItem hB hO hR (i) ⟨by omega, by omega⟩) ⟨_, _, _, gX5_from_X5_isItem, rfl, rfl, rfl, by decide +kernel, by decide, by decide⟩ (cb0 hB) rfl rfl (Nat.le_of_ble_eq_true rfl) dX5_from_2 (fun z2 C2 r2 q2 => ?_)
  obtain ⟨q2, e2⟩ := q2
  rw [e2]
  clear e2
  obtain ⟨r2, s2⟩ := r2
  refine gg_if_eq k 23 dX5_from_5 (by decide) ⟨by omega, by omega⟩ (fun c5 => ?_) (fun c5 => ?_)
  · refine gg_ldc2 (z := -9223372036854775808) k dX5_from_23 (by decide +kernel) ?_
    exact hret _ _ _ _ dX5_from_26 (⟨by omega, by omega⟩) (⟨hR, by rw [if_neg (by omega)]⟩)
  · refine gg_iload_n k dX5_from_8 rfl ?_
    refine gg_iconst k dX5_from_9 ?_
    refine gg_icmp_lt k 23 dX5_from_10 (by decide) ⟨by omega, by omega⟩ ⟨by omega, by omega⟩ (fun c10 => ?_) (fun c10 => ?_)
    · refine gg_ldc2 (z := -9223372036854775808) k dX5_from_23 (by decide +kernel) ?_
      exact hret _ _ _ _ dX5_from_26 (⟨by omega, by omega⟩) (⟨hR, by rw [if_neg (by omega)]⟩)
    · refine gg_iload_n k dX5_from_13 rfl ?_
      refine gg_aload_n k dX5_from_14 rfl ?_
      refine gg_get k (cb0 hB) inX5_from_X5 0 (by decide) fX5_from_20 rfl rfl dX5_from_15 ?_
      refine gg_iconst k dX5_from_18 ?_
      refine gg_iadd k dX5_from_19 ?_
      refine gg_icmp_le k 27 dX5_from_20 (by decide) ⟨by omega, by omega⟩ ⟨by omega, by omega⟩ (fun c20 => ?_) (fun c20 => ?_)
      · refine gg_aload_n k dX5_from_27 rfl ?_
        refine gg_get k (cb0 hB) inX5_from_X5 7 (by decide) fX5_from_63 rfl rfl dX5_from_28 ?_
        refine gg_aload_n k dX5_from_31 rfl ?_
        refine gg_get k (cb0 hB) inX5_from_X5 1 (by decide) fX5_from_26 rfl rfl dX5_from_32 ?_
        refine gg_iload_n k dX5_from_35 rfl ?_
        refine gg_aald k (cb1 hB) (by omega) (by omega) dX5_from_36 ?_
        refine gg_callv (n := 1) (As := [.ref (gad B (2 + 9 * (i).toNat))]) (rest := []) k (kX0_plan hB hO hR (i := i) (by omega) (by omega)) ⟨_, _, _, gX5_from_X0_plan, rfl, rfl, rfl, by decide +kernel, by decide, by decide⟩ (cbAlone hB) rfl rfl (Nat.le_of_ble_eq_true rfl) dX5_from_37 (fun C37 q37 => ?_)
        obtain ⟨hR, hc37, ha37⟩ := q37
        refine gg_aload_n k dX5_from_40 rfl ?_
        refine gg_get k (cb0 hB) inX5_from_X5 7 (by decide) fX5_from_63 rfl rfl dX5_from_41 ?_
        refine gg_get k (cbAlone hB) inX5_from_X0 2 (by decide) fX5_from_153 rfl rfl dX5_from_44 ?_
        refine gg_iload_n k dX5_from_47 rfl ?_
        refine gg_lald k (cbCosts hB) (by omega) (by omega) dX5_from_48 ?_
        refine gg_tl (hc37 p (by omega) (by omega)) ?_
        have cbb := aCost_b hO i (p := p) (by omega) (by omega)
        exact hret _ _ _ _ dX5_from_49 (⟨by omega, by omega⟩) (⟨hR, by rw [if_pos (by omega)]⟩)
      · refine gg_ldc2 (z := -9223372036854775808) k dX5_from_23 (by decide +kernel) ?_
        exact hret _ _ _ _ dX5_from_26 (⟨by omega, by omega⟩) (⟨hR, by rw [if_neg (by omega)]⟩)
