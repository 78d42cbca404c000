abbrev rX6_last : Room := { frames := 0, cells := 0, slots := 0, locals := 0 }
set_option maxRecDepth 100000 in
set_option maxHeartbeats 4000000 in
theorem kX6_last {l : Launch} {B : gB} {T : Int} {S : sS} {C : gSt} (hB : mdlB B T) (hO : sOk S T) (hR : mRel S T C) {i : Int} (hi0 : 0 ≤ i) (hi6 : i < 6) (p : Int) (hp0 : 1 ≤ p) (hp1 : p ≤ T) : gMi l B yX6_last wsX6_last rX6_last [.ref (gad B (0)), .int (iI (i)), .int (iI (p))] C (fun z C' => z = aEnd S T i p ∧ C' = C) := by
  refine gMi_of (ty := .int) rfl (cc := cX6_last) (nL := 4) (by decide) rfl (Nat.le_of_ble_eq_true rfl) (fun K k hret => ?_)
  have k : gOk K B l rX6_last 4 cX6_last RX6 wsX6_last := k
  show GG K B C 0 [(0, .ref (gad B (0))), (1, .int (iI (i))), (2, .int (iI (p)))] []
  have hT := hO.t
  have hc := hO.cnt
  
  refine gg_aload_n k dX6_last_0 rfl ?_
  refine gg_get k (mb0 hB) inX6_last_X6 3 (by decide) fX6_last_7 rfl rfl dX6_last_1 ?_
  refine gg_bipush k dX6_last_4 (by decide +kernel) ?_
  refine gg_iload_n k dX6_last_6 rfl ?_
  refine gg_imul k dX6_last_7 ?_
  refine gg_iconst k dX6_last_8 ?_
  refine gg_iadd k dX6_last_9 ?_
  refine gg_iald k (mb1 hB) (by omega) (by omega) dX6_last_10 ?_
  refine gg_ti (hR.num (i := i) (w := 3) (by omega) (by omega) (by omega) (by omega) (by omega)) ?_
  have bd10 := hO.n3 (i)
  refine gg_istore_n k [(3, .int (iI (sNum S (i) (3)))), (0, .ref (gad B (0))), (1, .int (iI (i))), (2, .int (iI (p)))] dX6_last_11 (by decide) rfl ?_
  refine gg_iload_n k dX6_last_12 rfl ?_
  refine gg_if_le k 32 dX6_last_13 (by decide) ⟨by omega, by omega⟩ (fun c13 => ?_) (fun c13 => ?_)
  · refine gg_aload_n k dX6_last_32 rfl ?_
    refine gg_get k (mb0 hB) inX6_last_X6 1 (by decide) fX6_last_69 rfl rfl dX6_last_33 ?_
    exact hret _ _ _ _ dX6_last_36 (⟨by omega, by omega⟩) (⟨by unfold aEnd; rw [if_neg (by omega)], rfl⟩)
  · refine gg_iload_n k dX6_last_16 rfl ?_
    refine gg_iload_n k dX6_last_17 rfl ?_
    refine gg_iadd k dX6_last_18 ?_
    refine gg_aload_n k dX6_last_19 rfl ?_
    refine gg_get k (mb0 hB) inX6_last_X6 1 (by decide) fX6_last_69 rfl rfl dX6_last_20 ?_
    refine gg_icmp_ge k 32 dX6_last_23 (by decide) ⟨by omega, by omega⟩ ⟨by omega, by omega⟩ (fun c23 => ?_) (fun c23 => ?_)
    · refine gg_aload_n k dX6_last_32 rfl ?_
      refine gg_get k (mb0 hB) inX6_last_X6 1 (by decide) fX6_last_69 rfl rfl dX6_last_33 ?_
      exact hret _ _ _ _ dX6_last_36 (⟨by omega, by omega⟩) (⟨by unfold aEnd; rw [if_pos (by omega)]; omega, rfl⟩)
    · refine gg_iload_n k dX6_last_26 rfl ?_
      refine gg_iload_n k dX6_last_27 rfl ?_
      refine gg_iadd k dX6_last_28 ?_
      refine gg_goto (tgt := 36) k dX6_last_29 (by decide) ?_
      exact hret _ _ _ _ dX6_last_36 (⟨by omega, by omega⟩) (⟨by unfold aEnd; rw [if_pos (by omega)]; omega, rfl⟩)

abbrev rX6_priceTo : Room := { frames := 0, cells := 0, slots := 0, locals := 0 }
set_option maxRecDepth 100000 in
set_option maxHeartbeats 4000000 in
theorem kX6_priceTo {l : Launch} {B : gB} {T : Int} {S : sS} {C : gSt} (hB : mdlB B T) (hO : sOk S T) (hR : mRel S T C) {i : Int} (hi0 : 0 ≤ i) (hi6 : i < 6) (hn : (∀ j : Int, 1 ≤ j → j ≤ T → C 18 j = sNet S i j)) (p q : Int) (hp0 : 1 ≤ p) (hpq : p ≤ q) (hq : q ≤ T) (hc9 : 0 ≤ C 19 (q + 1) ∧ C 19 (q + 1) ≤ 120000) : gMl l B yX6_priceTo wsX6_priceTo rX6_priceTo [.ref (gad B (0)), .int (iI (i)), .int (iI (p)), .int (iI (q))] C (fun z C' => z = sPay S i p (q + 1 - p).toNat + C 19 (q + 1) ∧ C' = C) := by
  refine gMl_of (cc := cX6_priceTo) (nL := 7) (by decide) rfl (Nat.le_of_ble_eq_true rfl) (fun K k hret => ?_)
  have k : gOk K B l rX6_priceTo 7 cX6_priceTo RX6 wsX6_priceTo := k
  show GG K B C 0 [(0, .ref (gad B (0))), (1, .int (iI (i))), (2, .int (iI (p))), (3, .int (iI (q)))] []
  have hT := hO.t
  have hc := hO.cnt
  have hn0 := hO.n0 i
  refine gg_aload_n k dX6_priceTo_0 rfl ?_
  refine gg_get k (mb0 hB) inX6_priceTo_X6 3 (by decide) fX6_priceTo_7 rfl rfl dX6_priceTo_1 ?_
  refine gg_bipush k dX6_priceTo_4 (by decide +kernel) ?_
  refine gg_iload_n k dX6_priceTo_6 rfl ?_
  refine gg_imul k dX6_priceTo_7 ?_
  refine gg_iald k (mb1 hB) (by omega) (by omega) dX6_priceTo_8 ?_
  refine gg_ti (hR.num (i := i) (w := 0) (by omega) (by omega) (by omega) (by omega) (by omega)) ?_
  have bd8 := hO.n0 (i)
  refine gg_i2l k dX6_priceTo_9 ⟨by omega, by omega⟩ ?_
  refine gg_aload_n k dX6_priceTo_10 rfl ?_
  refine gg_get k (mb0 hB) inX6_priceTo_X6 24 (by decide) fX6_priceTo_66 rfl rfl dX6_priceTo_11 ?_
  refine gg_iload_n k dX6_priceTo_14 rfl ?_
  refine gg_iconst k dX6_priceTo_15 ?_
  refine gg_iadd k dX6_priceTo_16 ?_
  refine gg_lald k (mb19 hB) (by omega) (by omega) dX6_priceTo_17 ?_
  refine gg_ladd k dX6_priceTo_18 ?_
  refine gg_lstore k [(4, .long (iL ((sNum S (i) (0)) + (C (19) (q + 1))))), (0, .ref (gad B (0))), (1, .int (iI (i))), (2, .int (iI (p))), (3, .int (iI (q)))] dX6_priceTo_19 (by decide) rfl ?_
  refine gg_iload_n k dX6_priceTo_21 rfl ?_
  refine gg_istore k [(6, .int (iI (p))), (4, .long (iL ((sNum S (i) (0)) + (C (19) (q + 1))))), (0, .ref (gad B (0))), (1, .int (iI (i))), (2, .int (iI (p))), (3, .int (iI (q)))] dX6_priceTo_22 (by decide) rfl ?_
  have L24 : ∀ (n24 : Nat) (j : Int) (sm : Int), (p ≤ j) → (j ≤ q + 1) → (sm = sPay S i p (j - p).toNat + C 19 (q + 1)) → q + 1 - j < (n24 : Int) → GG K B C 24 [(0, .ref (gad B (0))), (1, .int (iI (i))), (2, .int (iI (p))), (3, .int (iI (q))), (4, .long (iL (sm))), (6, .int (iI (j)))] [] := by
    intro n24
    induction n24 with
    | zero =>
      intro j sm hj0 hj1 hs hn24
      exact absurd hn24 (by omega)
    | succ n24 ih24 =>
      intro j sm hj0 hj1 hs hn24
      have pbb := sPay_b hO i p (j - p).toNat (by omega)
      refine gg_iload k dX6_priceTo_24 rfl ?_
      refine gg_iload_n k dX6_priceTo_26 rfl ?_
      refine gg_icmp_gt k 68 dX6_priceTo_27 (by decide) ⟨by omega, by omega⟩ ⟨by omega, by omega⟩ (fun c27 => ?_) (fun c27 => ?_)
      · refine gg_lload k dX6_priceTo_68 rfl ?_
        exact hret _ _ _ _ dX6_priceTo_70 (⟨by omega, by omega⟩) (⟨by rw [hs, show j = q + 1 by omega], rfl⟩)
      · refine gg_lload k dX6_priceTo_30 rfl ?_
        refine gg_aload_n k dX6_priceTo_32 rfl ?_
        refine gg_get k (mb0 hB) inX6_priceTo_X6 23 (by decide) fX6_priceTo_63 rfl rfl dX6_priceTo_33 ?_
        refine gg_iload k dX6_priceTo_36 rfl ?_
        refine gg_iald k (mb18 hB) (by omega) (by omega) dX6_priceTo_38 ?_
        refine gg_ti (hn (j) (by omega) (by omega)) ?_
        have nb38 := sNet_b hO i (j)
        refine gg_i2l k dX6_priceTo_39 ⟨by omega, by omega⟩ ?_
        refine gg_iload k dX6_priceTo_40 rfl ?_
        refine gg_iload_n k dX6_priceTo_42 rfl ?_
        refine gg_isub k dX6_priceTo_43 ?_
        refine gg_i2l k dX6_priceTo_44 ⟨by omega, by omega⟩ ?_
        refine gg_lmul k dX6_priceTo_45 ?_
        refine gg_aload_n k dX6_priceTo_46 rfl ?_
        refine gg_get k (mb0 hB) inX6_priceTo_X6 3 (by decide) fX6_priceTo_7 rfl rfl dX6_priceTo_47 ?_
        refine gg_bipush k dX6_priceTo_50 (by decide +kernel) ?_
        refine gg_iload_n k dX6_priceTo_52 rfl ?_
        refine gg_imul k dX6_priceTo_53 ?_
        refine gg_iconst k dX6_priceTo_54 ?_
        refine gg_iadd k dX6_priceTo_55 ?_
        refine gg_iald k (mb1 hB) (by omega) (by omega) dX6_priceTo_56 ?_
        refine gg_ti (hR.num (i := i) (w := 1) (by omega) (by omega) (by omega) (by omega) (by omega)) ?_
        have bd56 := hO.n1 (i)
        refine gg_i2l k dX6_priceTo_57 ⟨by omega, by omega⟩ ?_
        refine gg_lmul k dX6_priceTo_58 ?_
        refine gg_ladd k dX6_priceTo_59 ?_
        refine gg_lstore k [(4, .long (iL (sm + (((sNet S i (j)) * (j - p)) * (sNum S (i) (1)))))), (0, .ref (gad B (0))), (1, .int (iI (i))), (2, .int (iI (p))), (3, .int (iI (q))), (6, .int (iI (j)))] dX6_priceTo_60 (by decide) rfl ?_
        refine gg_iinc k 5 [(6, .int (iI (j + 1))), (4, .long (iL (sm + (((sNet S i (j)) * (j - p)) * (sNum S (i) (1)))))), (0, .ref (gad B (0))), (1, .int (iI (i))), (2, .int (iI (p))), (3, .int (iI (q)))] dX6_priceTo_62 rfl (by decide) rfl ?_
        refine gg_goto (tgt := 24) k dX6_priceTo_65 (by decide) ?_
        refine gg_sub [2, 3, 4, 5, 1, 0] rfl ?_
        exact ih24 (j + 1) (sm + (((sNet S i (j)) * (j - p)) * (sNum S (i) (1)))) (by omega) (by omega) (by rw [sPay_s hj0, hs, mul3]; omega) (by omega)
  refine gg_sub [2, 3, 4, 5, 1, 0] rfl ?_
  exact L24 ((q + 1 - p).toNat + 1) (p) ((sNum S (i) (0)) + (C (19) (q + 1))) (by omega) (by omega) (by rw [show p - p = 0 by omega]; rfl) (by omega)

abbrev rX6_alone : Room := { frames := 1, cells := 0, slots := 0, locals := 26 }
set_option maxRecDepth 100000 in
set_option maxHeartbeats 4000000 in
theorem kX6_alone {l : Launch} {B : gB} {T : Int} {S : sS} {C : gSt} (hB : mdlB B T) (hO : sOk S T) (hR : mRel S T C) {i : Int} (hi0 : 0 ≤ i) (hi6 : i < 6) : gMv l B yX6_alone wsX6_alone rX6_alone [.ref (gad B (0)), .int (iI (i))] C (fun C' => mRel S T C' ∧ (∀ j : Int, 1 ≤ j → j ≤ T → C' 18 j = sNet S i j) ∧ (∀ j : Int, 1 ≤ j → j ≤ T + 1 → C' 19 j = aCost S T i j) ∧ ∀ q : Nat, q ≠ 18 → q ≠ 19 → C' q = C q) := by
  refine gMv_of (cc := cX6_alone) (nL := 7) (by decide) rfl (Nat.le_of_ble_eq_true rfl) (fun K k hret => ?_)
  have k : gOk K B l rX6_alone 7 cX6_alone RX6 wsX6_alone := k
  show GG K B C 0 [(0, .ref (gad B (0))), (1, .int (iI (i)))] []
  have hT := hO.t
  have hc := hO.cnt
  have b4 := hO.n4 i
  refine gg_aload_n k dX6_alone_0 rfl ?_
  refine gg_get k (mb0 hB) inX6_alone_X6 3 (by decide) fX6_alone_7 rfl rfl dX6_alone_1 ?_
  refine gg_bipush k dX6_alone_4 (by decide +kernel) ?_
  refine gg_iload_n k dX6_alone_6 rfl ?_
  refine gg_imul k dX6_alone_7 ?_
  refine gg_iconst k dX6_alone_8 ?_
  refine gg_iadd k dX6_alone_9 ?_
  refine gg_iald k (mb1 hB) (by omega) (by omega) dX6_alone_10 ?_
  refine gg_ti (hR.num (i := i) (w := 4) (by omega) (by omega) (by omega) (by omega) (by omega)) ?_
  have bd10 := hO.n4 (i)
  refine gg_istore_n k [(2, .int (iI (sNum S (i) (4)))), (0, .ref (gad B (0))), (1, .int (iI (i)))] dX6_alone_11 (by decide) rfl ?_
  refine gg_iconst k dX6_alone_12 ?_
  refine gg_istore_n k [(3, .int (iI (1))), (2, .int (iI (sNum S (i) (4)))), (0, .ref (gad B (0))), (1, .int (iI (i)))] dX6_alone_13 (by decide) rfl ?_
  have L14 : ∀ (n14 : Nat) (p : Int) (w : Int) (C1 : gSt), (1 ≤ p) → (p ≤ T + 1) → (w = sLft S i (p - 1).toNat) → (mRel S T C1) → ((∀ j : Int, 1 ≤ j → j ≤ p - 1 → C1 18 j = sNet S i j)) → ((∀ q : Nat, q ≠ 18 → q ≠ 19 → C1 q = C q)) → T + 1 - p < (n14 : Int) → GG K B C1 14 [(0, .ref (gad B (0))), (1, .int (iI (i))), (2, .int (iI (w))), (3, .int (iI (p)))] [] := by
    intro n14
    induction n14 with
    | zero =>
      intro p w C1 hp0 hp1 hw hR hn1 hk1 hn14
      exact absurd hn14 (by omega)
    | succ n14 ih14 =>
      intro p w C1 hp0 hp1 hw hR hn1 hk1 hn14
      have hlb := sLft_b hO i (p - 1).toNat
      refine gg_iload_n k dX6_alone_14 rfl ?_
      refine gg_aload_n k dX6_alone_15 rfl ?_
      refine gg_get k (mb0 hB) inX6_alone_X6 1 (by decide) fX6_alone_69 rfl rfl dX6_alone_16 ?_
      refine gg_icmp_gt k 85 dX6_alone_19 (by decide) ⟨by omega, by omega⟩ ⟨by omega, by omega⟩ (fun c19 => ?_) (fun c19 => ?_)
      · refine gg_aload_n k dX6_alone_85 rfl ?_
        refine gg_get k (mb0 hB) inX6_alone_X6 24 (by decide) fX6_alone_66 rfl rfl dX6_alone_86 ?_
        refine gg_aload_n k dX6_alone_89 rfl ?_
        refine gg_get k (mb0 hB) inX6_alone_X6 1 (by decide) fX6_alone_69 rfl rfl dX6_alone_90 ?_
        refine gg_iconst k dX6_alone_93 ?_
        refine gg_iadd k dX6_alone_94 ?_
        refine gg_lconst0 k dX6_alone_95 ?_
        refine gg_last k (mb19 hB) (by omega) (by omega) dX6_alone_96 ?_
        refine gg_nm (fun C96 e96 => ?_)
        have hR : mRel S T C96 := by rw [e96]; exact hR.wri (Or.inl (by omega))
        refine gg_aload_n k dX6_alone_97 rfl ?_
        refine gg_get k (mb0 hB) inX6_alone_X6 1 (by decide) fX6_alone_69 rfl rfl dX6_alone_98 ?_
        refine gg_istore_n k [(3, .int (iI (T))), (0, .ref (gad B (0))), (1, .int (iI (i))), (2, .int (iI (w)))] dX6_alone_101 (by decide) rfl ?_
        have L102 : ∀ (n102 : Nat) (p : Int) (C2 : gSt), (0 ≤ p) → (p ≤ T) → (mRel S T C2) → ((∀ j : Int, 1 ≤ j → j ≤ T → C2 18 j = sNet S i j)) → ((∀ j : Int, p < j → j ≤ T + 1 → C2 19 j = (aCo S T i (T - p).toNat) j)) → ((∀ q : Nat, q ≠ 18 → q ≠ 19 → C2 q = C q)) → p < (n102 : Int) → GG K B C2 102 [(0, .ref (gad B (0))), (1, .int (iI (i))), (3, .int (iI (p)))] [] := by
          intro n102
          induction n102 with
          | zero =>
            intro p C2 hp0 hp1 hR hn hco hk2 hn102
            exact absurd hn102 (by omega)
          | succ n102 ih102 =>
            intro p C2 hp0 hp1 hR hn hco hk2 hn102
            have hcb : ∀ j : Int, p < j → j ≤ T + 1 → 0 ≤ (aCo S T i (T - p).toNat) j ∧ (aCo S T i (T - p).toNat) j ≤ 120000 := fun j h1 h2 => by have := aCo_b hO i (T - p).toNat (by omega) j (by omega) h2; omega
            refine gg_iload_n k dX6_alone_102 rfl ?_
            refine gg_iconst k dX6_alone_103 ?_
            refine gg_icmp_lt k 205 dX6_alone_104 (by decide) ⟨by omega, by omega⟩ ⟨by omega, by omega⟩ (fun c104 => ?_) (fun c104 => ?_)
            · exact hret _ _ _ dX6_alone_205 (⟨hR, hn, fun j h0 h1 => by rw [hco j (by omega) h1, aCo_cost (by omega) h1], hk2⟩)
            · have heb := aEnd_b hO (i := i) (p := p) (by omega)
              refine gg_aload_n k dX6_alone_107 rfl ?_
              refine gg_get k (mb0 hB) inX6_alone_X6 24 (by decide) fX6_alone_66 rfl rfl dX6_alone_108 ?_
              refine gg_iload_n k dX6_alone_111 rfl ?_
              have J135 : ∀ (le : Int), (le = mLe S i (aCo S T i (T - p).toNat) p 0) → GG K B C2 135 [(0, .ref (gad B (0))), (1, .int (iI (i))), (3, .int (iI (p)))] [.long (iL (le)), .int (iI (p)), .ref (gad B (19))] := by
                intro le hle0
                refine gg_last k (mb19 hB) (by omega) (by omega) dX6_alone_135 ?_
                refine gg_nm (fun C135 e135 => ?_)
                have hR : mRel S T C135 := by rw [e135]; exact hR.wri (Or.inl (by omega))
                refine gg_iload_n k dX6_alone_136 rfl ?_
                refine gg_istore k [(4, .int (iI (p))), (0, .ref (gad B (0))), (1, .int (iI (i))), (3, .int (iI (p)))] dX6_alone_137 (by decide) rfl ?_
                have L139 : ∀ (n139 : Nat) (q : Int) (C3 : gSt), (p ≤ q) → (q ≤ aEnd S T i p + 1) → (mRel S T C3) → (C3 19 p = mLe S i (aCo S T i (T - p).toNat) p (q - p).toNat) → ((∀ j : Int, 1 ≤ j → j ≤ T → C3 18 j = sNet S i j)) → ((∀ j : Int, p < j → j ≤ T + 1 → C3 19 j = (aCo S T i (T - p).toNat) j)) → ((∀ q : Nat, q ≠ 18 → q ≠ 19 → C3 q = C q)) → aEnd S T i p + 1 - q < (n139 : Int) → GG K B C3 139 [(0, .ref (gad B (0))), (1, .int (iI (i))), (3, .int (iI (p))), (4, .int (iI (q)))] [] := by
                  intro n139
                  induction n139 with
                  | zero =>
                    intro q C3 hq0 hq1 hR hle hn hco hk3 hn139
                    exact absurd hn139 (by omega)
                  | succ n139 ih139 =>
                    intro q C3 hq0 hq1 hR hle hn hco hk3 hn139
                    have lbb := mLe_b hO (i := i) (p := p) (co := (aCo S T i (T - p).toNat)) (q - p).toNat (by omega) (fun j h1 h2 => hcb j h1 (by omega))
                    have hms := fun hqe : q ≤ aEnd S T i p => mLe_s hO (i := i) (co := (aCo S T i (T - p).toNat)) hq0 (by omega) (fun j h1 h2 => hcb j h1 (by omega))
                    refine gg_iload k dX6_alone_139 rfl ?_
                    refine gg_aload_n k dX6_alone_141 rfl ?_
                    refine gg_iload_n k dX6_alone_142 rfl ?_
                    refine gg_iload_n k dX6_alone_143 rfl ?_
                    refine gg_calli (n := 2) (As := [.int (iI (i)), .int (iI (p))]) (rest := [.int (iI (q))]) k (kX6_last hB hO hR hi0 (by omega) p (by omega) (by omega)) ⟨_, _, _, gX6_alone_X6_last, rfl, rfl, rfl, by decide +kernel, by decide, by decide⟩ (mb0 hB) rfl rfl (Nat.le_of_ble_eq_true rfl) dX6_alone_144 (fun z144 C144 r144 q144 => ?_)
                    obtain ⟨q144, e144⟩ := q144
                    rw [e144]
                    clear e144
                    obtain ⟨r144, s144⟩ := r144
                    refine gg_icmp_gt k 199 dX6_alone_147 (by decide) ⟨by omega, by omega⟩ ⟨by omega, by omega⟩ (fun c147 => ?_) (fun c147 => ?_)
                    · refine gg_iinc k 2 [(3, .int (iI (p + (-1)))), (0, .ref (gad B (0))), (1, .int (iI (i))), (4, .int (iI (q)))] dX6_alone_199 rfl (by decide) rfl ?_
                      refine gg_goto (tgt := 102) k dX6_alone_202 (by decide) ?_
                      refine gg_sub [1, 2, 0] rfl ?_
                      exact ih102 (p + (-1)) (C3) (by omega) (by omega) (hR) (hn) (fun j h0 h1 => by
                        rw [show (T - (p + -1)).toNat = (T - p).toNat + 1 by omega]
                        show _ = upI (aCo S T i (T - p).toNat) (T - (((T - p).toNat : Nat) : Int)) _ j
                        rw [show T - (((T - p).toNat : Nat) : Int) = p by omega]
                        by_cases hj : j = p
                        · rw [hj, upI_s, hle]
                          unfold aAll
                          rw [show (q - p).toNat = (aEnd S T i p - p).toNat + 1 by omega, show (aEnd S T i p - p + 1).toNat = (aEnd S T i p - p).toNat + 1 by omega]
                          rfl
                        · rw [upI_n hj]; exact hco j (by omega) h1) (hk3) (by omega)
                    · refine gg_aload_n k dX6_alone_150 rfl ?_
                      refine gg_iload_n k dX6_alone_151 rfl ?_
                      refine gg_iload_n k dX6_alone_152 rfl ?_
                      refine gg_iload k dX6_alone_153 rfl ?_
                      refine gg_calll (n := 3) (As := [.int (iI (i)), .int (iI (p)), .int (iI (q))]) (rest := []) k (kX6_priceTo hB hO hR hi0 (by omega) hn p q (by omega) (by omega) (by omega) (by rw [hco (q + 1) (by omega) (by omega)]; exact hcb (q + 1) (by omega) (by omega))) ⟨_, _, _, gX6_alone_X6_priceTo, rfl, rfl, rfl, by decide +kernel, by decide, by decide⟩ (mb0 hB) rfl rfl (Nat.le_of_ble_eq_true rfl) dX6_alone_155 (fun z155 C155 r155 q155 => ?_)
                      obtain ⟨q155, e155⟩ := q155
                      rw [e155]
                      clear e155
                      obtain ⟨r155, s155⟩ := r155
                      rw [hco (q + 1) (by omega) (by omega)] at q155
                      have cb155 := hcb (q + 1) (by omega) (by omega)
                      have pb155 := sPay_b hO i p (q + 1 - p).toNat (by omega)
                      refine gg_lstore k [(5, .long (iL (z155))), (0, .ref (gad B (0))), (1, .int (iI (i))), (3, .int (iI (p))), (4, .int (iI (q)))] dX6_alone_158 (by decide) rfl ?_
                      refine gg_aload_n k dX6_alone_160 rfl ?_
                      refine gg_get k (mb0 hB) inX6_alone_X6 24 (by decide) fX6_alone_66 rfl rfl dX6_alone_161 ?_
                      refine gg_iload_n k dX6_alone_164 rfl ?_
                      refine gg_lald k (mb19 hB) (by omega) (by omega) dX6_alone_165 ?_
                      refine gg_tl hle ?_
                      refine gg_ldc2 (z := -9223372036854775808) k dX6_alone_166 (by decide +kernel) ?_
                      refine gg_lt_eq k 185 dX6_alone_169 dX6_alone_170 (by decide) ⟨by omega, by omega⟩ ⟨by omega, by omega⟩ (fun c169 => ?_) (fun c169 => ?_)
                      · refine gg_aload_n k dX6_alone_185 rfl ?_
                        refine gg_get k (mb0 hB) inX6_alone_X6 24 (by decide) fX6_alone_66 rfl rfl dX6_alone_186 ?_
                        refine gg_iload_n k dX6_alone_189 rfl ?_
                        refine gg_lload k dX6_alone_190 rfl ?_
                        refine gg_last k (mb19 hB) (by omega) (by omega) dX6_alone_192 ?_
                        refine gg_nm (fun C192 e192 => ?_)
                        have hR : mRel S T C192 := by rw [e192]; exact hR.wri (Or.inl (by omega))
                        refine gg_iinc k 4 [(4, .int (iI (q + 1))), (5, .long (iL (z155))), (0, .ref (gad B (0))), (1, .int (iI (i))), (3, .int (iI (p)))] dX6_alone_193 rfl (by decide) rfl ?_
                        refine gg_goto (tgt := 139) k dX6_alone_196 (by decide) ?_
                        refine gg_sub [2, 3, 4, 0] rfl ?_
                        exact ih139 (q + 1) (C192) (by omega) (by omega) (hR) (by rw [e192, wr_s, hms (by omega), if_pos (by omega)]; exact q155) (fun j h0 h1 => by rw [e192, wr_k (by omega)]; exact hn j h0 h1) (fun j h0 h1 => by rw [e192, wr_j (by omega)]; exact hco j h0 h1) (fun q h1 h2 => by rw [e192, wr_k h2]; exact hk3 q h1 h2) (by omega)
                      · refine gg_lload k dX6_alone_173 rfl ?_
                        refine gg_aload_n k dX6_alone_175 rfl ?_
                        refine gg_get k (mb0 hB) inX6_alone_X6 24 (by decide) fX6_alone_66 rfl rfl dX6_alone_176 ?_
                        refine gg_iload_n k dX6_alone_179 rfl ?_
                        refine gg_lald k (mb19 hB) (by omega) (by omega) dX6_alone_180 ?_
                        refine gg_tl hle ?_
                        refine gg_lt_ge k 193 dX6_alone_181 dX6_alone_182 (by decide) ⟨by omega, by omega⟩ ⟨by omega, by omega⟩ (fun c181 => ?_) (fun c181 => ?_)
                        · refine gg_iinc k 4 [(4, .int (iI (q + 1))), (5, .long (iL (z155))), (0, .ref (gad B (0))), (1, .int (iI (i))), (3, .int (iI (p)))] dX6_alone_193 rfl (by decide) rfl ?_
                          refine gg_goto (tgt := 139) k dX6_alone_196 (by decide) ?_
                          refine gg_sub [2, 3, 4, 0] rfl ?_
                          exact ih139 (q + 1) (C3) (by omega) (by omega) (hR) (by rw [hms (by omega), if_neg (by omega)]; exact hle) (hn) (hco) (hk3) (by omega)
                        · refine gg_aload_n k dX6_alone_185 rfl ?_
                          refine gg_get k (mb0 hB) inX6_alone_X6 24 (by decide) fX6_alone_66 rfl rfl dX6_alone_186 ?_
                          refine gg_iload_n k dX6_alone_189 rfl ?_
                          refine gg_lload k dX6_alone_190 rfl ?_
                          refine gg_last k (mb19 hB) (by omega) (by omega) dX6_alone_192 ?_
                          refine gg_nm (fun C192 e192 => ?_)
                          have hR : mRel S T C192 := by rw [e192]; exact hR.wri (Or.inl (by omega))
                          refine gg_iinc k 4 [(4, .int (iI (q + 1))), (5, .long (iL (z155))), (0, .ref (gad B (0))), (1, .int (iI (i))), (3, .int (iI (p)))] dX6_alone_193 rfl (by decide) rfl ?_
                          refine gg_goto (tgt := 139) k dX6_alone_196 (by decide) ?_
                          refine gg_sub [2, 3, 4, 0] rfl ?_
                          exact ih139 (q + 1) (C192) (by omega) (by omega) (hR) (by rw [e192, wr_s, hms (by omega), if_pos (by omega)]; exact q155) (fun j h0 h1 => by rw [e192, wr_k (by omega)]; exact hn j h0 h1) (fun j h0 h1 => by rw [e192, wr_j (by omega)]; exact hco j h0 h1) (fun q h1 h2 => by rw [e192, wr_k h2]; exact hk3 q h1 h2) (by omega)
                refine gg_sub [1, 2, 3, 0] rfl ?_
                exact L139 ((aEnd S T i p + 1 - p).toNat + 1) (p) (C135) (by omega) (by omega) (hR) (by rw [show p - p = 0 by omega, e135, wr_s]; exact hle0) (fun j h0 h1 => by rw [e135, wr_k (by omega)]; exact hn j h0 h1) (fun j h0 h1 => by rw [e135, wr_j (by omega)]; exact hco j h0 h1) (fun q h1 h2 => by rw [e135, wr_k h2]; exact hk2 q h1 h2) (by omega)
              refine gg_aload_n k dX6_alone_112 rfl ?_
              refine gg_get k (mb0 hB) inX6_alone_X6 23 (by decide) fX6_alone_63 rfl rfl dX6_alone_113 ?_
              refine gg_iload_n k dX6_alone_116 rfl ?_
              refine gg_iald k (mb18 hB) (by omega) (by omega) dX6_alone_117 ?_
              refine gg_ti (hn (p) (by omega) (by omega)) ?_
              have nb117 := sNet_b hO i (p)
              refine gg_if_ne k 132 dX6_alone_118 (by decide) ⟨by omega, by omega⟩ (fun c118 => ?_) (fun c118 => ?_)
              · refine gg_ldc2 (z := -9223372036854775808) k dX6_alone_132 (by decide +kernel) ?_
                exact J135 (-9223372036854775808) (by unfold mLe; rw [if_neg (by omega)])
              · refine gg_aload_n k dX6_alone_121 rfl ?_
                refine gg_get k (mb0 hB) inX6_alone_X6 24 (by decide) fX6_alone_66 rfl rfl dX6_alone_122 ?_
                refine gg_iload_n k dX6_alone_125 rfl ?_
                refine gg_iconst k dX6_alone_126 ?_
                refine gg_iadd k dX6_alone_127 ?_
                refine gg_lald k (mb19 hB) (by omega) (by omega) dX6_alone_128 ?_
                refine gg_tl (hco (p + 1) (by omega) (by omega)) ?_
                have cb128 := hcb (p + 1) (by omega) (by omega)
                refine gg_goto (tgt := 135) k dX6_alone_129 (by decide) ?_
                exact J135 ((aCo S T i (T - p).toNat) (p + 1)) (by unfold mLe; rw [if_pos (by omega)])
        refine gg_sub [1, 2, 0] rfl ?_
        exact L102 ((T).toNat + 1) (T) (C96) (by omega) (by omega) (hR) (fun j h0 h1 => by rw [e96, wr_k (by omega)]; exact hn1 j h0 (by omega)) (fun j h0 h1 => by rw [show j = T + 1 by omega, e96, wr_s, show (T - T).toNat = 0 by omega]; rfl) (fun q h1 h2 => by rw [e96, wr_k h2]; exact hk1 q h1 h2) (by omega)
      · have J52 : ∀ (tk : Int), (tk = min w (sNee S i p)) → (0 ≤ tk ∧ tk ≤ 1000) → GG K B C1 52 [(0, .ref (gad B (0))), (1, .int (iI (i))), (2, .int (iI (w))), (3, .int (iI (p)))] [.int (iI (tk))] := by
          intro tk htk htb
          refine gg_istore k [(4, .int (iI (tk))), (0, .ref (gad B (0))), (1, .int (iI (i))), (2, .int (iI (w))), (3, .int (iI (p)))] dX6_alone_52 (by decide) rfl ?_
          refine gg_aload_n k dX6_alone_54 rfl ?_
          refine gg_get k (mb0 hB) inX6_alone_X6 23 (by decide) fX6_alone_63 rfl rfl dX6_alone_55 ?_
          refine gg_iload_n k dX6_alone_58 rfl ?_
          refine gg_aload_n k dX6_alone_59 rfl ?_
          refine gg_get k (mb0 hB) inX6_alone_X6 4 (by decide) fX6_alone_13 rfl rfl dX6_alone_60 ?_
          refine gg_bipush k dX6_alone_63 (by decide +kernel) ?_
          refine gg_iload_n k dX6_alone_65 rfl ?_
          refine gg_imul k dX6_alone_66 ?_
          refine gg_iload_n k dX6_alone_67 rfl ?_
          refine gg_iadd k dX6_alone_68 ?_
          refine gg_iald k (mb2 hB) (by omega) (by omega) dX6_alone_69 ?_
          refine gg_ti (hR.nee (i := i) (p := p) (by omega) (by omega) (by omega) (by omega) (by omega)) ?_
          have bd69 := hO.nee (i) (p)
          refine gg_iload k dX6_alone_70 rfl ?_
          refine gg_isub k dX6_alone_72 ?_
          refine gg_iast k (mb18 hB) (by omega) (by omega) dX6_alone_73 ?_
          refine gg_nm (fun C73 e73 => ?_)
          have hR : mRel S T C73 := by rw [e73]; exact hR.wri (Or.inl (by omega))
          refine gg_iload_n k dX6_alone_74 rfl ?_
          refine gg_iload k dX6_alone_75 rfl ?_
          refine gg_isub k dX6_alone_77 ?_
          refine gg_istore_n k [(2, .int (iI (w - tk))), (4, .int (iI (tk))), (0, .ref (gad B (0))), (1, .int (iI (i))), (3, .int (iI (p)))] dX6_alone_78 (by decide) rfl ?_
          refine gg_iinc k 4 [(3, .int (iI (p + 1))), (2, .int (iI (w - tk))), (4, .int (iI (tk))), (0, .ref (gad B (0))), (1, .int (iI (i)))] dX6_alone_79 rfl (by decide) rfl ?_
          refine gg_goto (tgt := 14) k dX6_alone_82 (by decide) ?_
          refine gg_sub [3, 4, 1, 0] rfl ?_
          exact ih14 (p + 1) (w - tk) (C73) (by omega) (by omega) (by rw [show p + 1 - 1 = p by omega, sLft_s (by omega), ← hw, htk]) (hR) (fun j h0 h1 => by rw [e73]; by_cases hj : j = p; (· rw [hj, wr_s]; unfold sNet; rw [← hw, htk]); (· rw [wr_j hj]; exact hn1 j h0 (by omega))) (fun q h1 h2 => by rw [e73, wr_k h1]; exact hk1 q h1 h2) (by omega)
        refine gg_iload_n k dX6_alone_22 rfl ?_
        refine gg_aload_n k dX6_alone_23 rfl ?_
        refine gg_get k (mb0 hB) inX6_alone_X6 4 (by decide) fX6_alone_13 rfl rfl dX6_alone_24 ?_
        refine gg_bipush k dX6_alone_27 (by decide +kernel) ?_
        refine gg_iload_n k dX6_alone_29 rfl ?_
        refine gg_imul k dX6_alone_30 ?_
        refine gg_iload_n k dX6_alone_31 rfl ?_
        refine gg_iadd k dX6_alone_32 ?_
        refine gg_iald k (mb2 hB) (by omega) (by omega) dX6_alone_33 ?_
        refine gg_ti (hR.nee (i := i) (p := p) (by omega) (by omega) (by omega) (by omega) (by omega)) ?_
        have bd33 := hO.nee (i) (p)
        refine gg_icmp_ge k 41 dX6_alone_34 (by decide) ⟨by omega, by omega⟩ ⟨by omega, by omega⟩ (fun c34 => ?_) (fun c34 => ?_)
        · refine gg_aload_n k dX6_alone_41 rfl ?_
          refine gg_get k (mb0 hB) inX6_alone_X6 4 (by decide) fX6_alone_13 rfl rfl dX6_alone_42 ?_
          refine gg_bipush k dX6_alone_45 (by decide +kernel) ?_
          refine gg_iload_n k dX6_alone_47 rfl ?_
          refine gg_imul k dX6_alone_48 ?_
          refine gg_iload_n k dX6_alone_49 rfl ?_
          refine gg_iadd k dX6_alone_50 ?_
          refine gg_iald k (mb2 hB) (by omega) (by omega) dX6_alone_51 ?_
          refine gg_ti (hR.nee (i := i) (p := p) (by omega) (by omega) (by omega) (by omega) (by omega)) ?_
          have bd51 := hO.nee (i) (p)
          exact J52 (sNee S (i) (p)) (by omega) (by omega)
        · refine gg_iload_n k dX6_alone_37 rfl ?_
          refine gg_goto (tgt := 52) k dX6_alone_38 (by decide) ?_
          exact J52 (w) (by omega) (by omega)
  refine gg_sub [2, 3, 1, 0] rfl ?_
  exact L14 ((T + 1 - 1).toNat + 1) (1) (sNum S (i) (4)) (C) (by omega) (by omega) (rfl) (hR) (fun j h0 h1 => by omega) (fun _ _ _ => rfl) (by omega)

abbrev rX6_best : Room := { frames := 2, cells := 0, slots := 0, locals := 52 }
set_option maxRecDepth 100000 in
set_option maxHeartbeats 4000000 in
theorem kX6_best {l : Launch} {B : gB} {T : Int} {S : sS} {C : gSt} (hB : mdlB B T) (hO : sOk S T) (hR : mRel S T C) (i : Int) (hi : rI i) : gMl l B yX6_best wsX6_best rX6_best [.ref (gad B (0)), .int (iI (i))] C (fun z C' => mRel S T C' ∧ z = if 0 ≤ i ∧ i < sCnt S then aCost S T i 1 else -9223372036854775808) := by
  refine gMl_of (cc := cX6_best) (nL := 2) (by decide) rfl (Nat.le_of_ble_eq_true rfl) (fun K k hret => ?_)
  have k : gOk K B l rX6_best 2 cX6_best RX6 wsX6_best := k
  show GG K B C 0 [(0, .ref (gad B (0))), (1, .int (iI (i)))] []
  have hT := hO.t
  have hc := hO.cnt
  obtain ⟨hi1, hi2⟩ := hi
  refine gg_aload_n k dX6_best_0 rfl ?_
  refine gg_iconst k dX6_best_1 ?_
  refine gg_put (e := 0) k (mb0 hB) inX6_best_X6 tyX6 tyX6_ok nmX6 0 (by decide) fX6_best_73 rfl rfl rfl (Nat.le_of_ble_eq_true rfl) rfl dX6_best_2 ?_
  refine gg_nm (fun C2 e2 => ?_)
  have hR : mRel S T C2 := by rw [e2]; exact hR.wri (Or.inr ⟨rfl, by omega, by omega, by omega⟩)
  refine gg_aload_n k dX6_best_5 rfl ?_
  refine gg_iload_n k dX6_best_6 rfl ?_
  refine gg_calli (n := 1) (As := [.int (iI (i))]) (rest := []) k (kX6_isItem hB hO hR (i) ⟨by omega, by omega⟩) ⟨_, _, _, gX6_best_X6_isItem, rfl, rfl, rfl, by decide +kernel, by decide, by decide⟩ (mb0 hB) rfl rfl (Nat.le_of_ble_eq_true rfl) dX6_best_7 (fun z7 C7 r7 q7 => ?_)
  obtain ⟨q7, e7⟩ := q7
  rw [e7]
  clear e7
  obtain ⟨r7, s7⟩ := r7
  refine gg_if_ne k 17 dX6_best_10 (by decide) ⟨by omega, by omega⟩ (fun c10 => ?_) (fun c10 => ?_)
  · refine gg_aload_n k dX6_best_17 rfl ?_
    refine gg_iload_n k dX6_best_18 rfl ?_
    refine gg_callv (n := 1) (As := [.int (iI (i))]) (rest := []) k (kX6_alone hB hO hR (i := i) (by omega) (by omega)) ⟨_, _, _, gX6_best_X6_alone, rfl, rfl, rfl, by decide +kernel, by decide, by decide⟩ (mb0 hB) rfl rfl (Nat.le_of_ble_eq_true rfl) dX6_best_19 (fun C19 q19 => ?_)
    obtain ⟨hR, hn, hcs, hk19⟩ := q19
    refine gg_aload_n k dX6_best_22 rfl ?_
    refine gg_get k (mb0 hB) inX6_best_X6 24 (by decide) fX6_best_66 rfl rfl dX6_best_23 ?_
    refine gg_iconst k dX6_best_26 ?_
    refine gg_lald k (mb19 hB) (by omega) (by omega) dX6_best_27 ?_
    refine gg_tl (hcs 1 (by omega) (by omega)) ?_
    have cbb := aCost_b hO i (p := 1) (by omega) (by omega)
    exact hret _ _ _ _ dX6_best_28 (⟨by omega, by omega⟩) (⟨hR, by rw [if_pos (by omega)]⟩)
  · refine gg_ldc2 (z := -9223372036854775808) k dX6_best_13 (by decide +kernel) ?_
    exact hret _ _ _ _ dX6_best_16 (⟨by omega, by omega⟩) (⟨hR, by rw [if_neg (by omega)]⟩)

abbrev rX6_from : Room := { frames := 2, cells := 0, slots := 0, locals := 52 }
set_option maxRecDepth 100000 in
set_option maxHeartbeats 4000000 in
theorem kX6_from {l : Launch} {B : gB} {T : Int} {S : sS} {C : gSt} (hB : mdlB B T) (hO : sOk S T) (hR : mRel S T C) (i p : Int) (hi : rI i) (hp : rI p) : gMl l B yX6_from wsX6_from rX6_from [.ref (gad B (0)), .int (iI (i)), .int (iI (p))] C (fun z C' => mRel S T C' ∧ z = if (0 ≤ i ∧ i < sCnt S) ∧ 1 ≤ p ∧ p ≤ T + 1 then aCost S T i p else -9223372036854775808) := by
  refine gMl_of (cc := cX6_from) (nL := 3) (by decide) rfl (Nat.le_of_ble_eq_true rfl) (fun K k hret => ?_)
  have k : gOk K B l rX6_from 3 cX6_from RX6 wsX6_from := k
  show GG K B C 0 [(0, .ref (gad B (0))), (1, .int (iI (i))), (2, .int (iI (p)))] []
  have hT := hO.t
  have hc := hO.cnt
  obtain ⟨hi1, hi2⟩ := hi
  obtain ⟨hp1, hp2⟩ := hp
  refine gg_aload_n k dX6_from_0 rfl ?_
  refine gg_iconst k dX6_from_1 ?_
  refine gg_put (e := 0) k (mb0 hB) inX6_from_X6 tyX6 tyX6_ok nmX6 0 (by decide) fX6_from_73 rfl rfl rfl (Nat.le_of_ble_eq_true rfl) rfl dX6_from_2 ?_
  refine gg_nm (fun C2 e2 => ?_)
  have hR : mRel S T C2 := by rw [e2]; exact hR.wri (Or.inr ⟨rfl, by omega, by omega, by omega⟩)
  refine gg_aload_n k dX6_from_5 rfl ?_
  refine gg_iload_n k dX6_from_6 rfl ?_
  refine gg_calli (n := 1) (As := [.int (iI (i))]) (rest := []) k (kX6_isItem hB hO hR (i) ⟨by omega, by omega⟩) ⟨_, _, _, gX6_from_X6_isItem, rfl, rfl, rfl, by decide +kernel, by decide, by decide⟩ (mb0 hB) rfl rfl (Nat.le_of_ble_eq_true rfl) dX6_from_7 (fun z7 C7 r7 q7 => ?_)
  obtain ⟨q7, e7⟩ := q7
  rw [e7]
  clear e7
  obtain ⟨r7, s7⟩ := r7
  refine gg_if_eq k 27 dX6_from_10 (by decide) ⟨by omega, by omega⟩ (fun c10 => ?_) (fun c10 => ?_)
  · refine gg_ldc2 (z := -9223372036854775808) k dX6_from_27 (by decide +kernel) ?_
    exact hret _ _ _ _ dX6_from_30 (⟨by omega, by omega⟩) (⟨hR, by rw [if_neg (by omega)]⟩)
  · refine gg_iload_n k dX6_from_13 rfl ?_
    refine gg_iconst k dX6_from_14 ?_
    refine gg_aload_n k dX6_from_15 rfl ?_
    refine gg_get k (mb0 hB) inX6_from_X6 1 (by decide) fX6_from_69 rfl rfl dX6_from_16 ?_
    refine gg_iconst k dX6_from_19 ?_
    refine gg_iadd k dX6_from_20 ?_
    refine gg_callsi (n := 3) (As := [.int (iI (p)), .int (iI (1)), .int (iI (T + 1))]) (rest := []) k (kX6_in (p) (1) (T + 1) ⟨by omega, by omega⟩ ⟨by omega, by omega⟩ ⟨by omega, by omega⟩) ⟨_, _, _, gX6_from_X6_in, rfl, rfl, rfl, by decide +kernel, by decide, by decide⟩ rfl rfl (Nat.le_of_ble_eq_true rfl) dX6_from_21 (fun z21 C21 r21 q21 => ?_)
    obtain ⟨q21, e21⟩ := q21
    rw [e21]
    clear e21
    obtain ⟨r21, s21⟩ := r21
    refine gg_if_ne k 31 dX6_from_24 (by decide) ⟨by omega, by omega⟩ (fun c24 => ?_) (fun c24 => ?_)
    · refine gg_aload_n k dX6_from_31 rfl ?_
      refine gg_iload_n k dX6_from_32 rfl ?_
      refine gg_callv (n := 1) (As := [.int (iI (i))]) (rest := []) k (kX6_alone hB hO hR (i := i) (by omega) (by omega)) ⟨_, _, _, gX6_from_X6_alone, rfl, rfl, rfl, by decide +kernel, by decide, by decide⟩ (mb0 hB) rfl rfl (Nat.le_of_ble_eq_true rfl) dX6_from_33 (fun C33 q33 => ?_)
      obtain ⟨hR, hn, hcs, hk33⟩ := q33
      refine gg_aload_n k dX6_from_36 rfl ?_
      refine gg_get k (mb0 hB) inX6_from_X6 24 (by decide) fX6_from_66 rfl rfl dX6_from_37 ?_
      refine gg_iload_n k dX6_from_40 rfl ?_
      refine gg_lald k (mb19 hB) (by omega) (by omega) dX6_from_41 ?_
      refine gg_tl (hcs p (by omega) (by omega)) ?_
      have cbb := aCost_b hO i (p := p) (by omega) (by omega)
      exact hret _ _ _ _ dX6_from_42 (⟨by omega, by omega⟩) (⟨hR, by rw [if_pos (by omega)]⟩)
    · refine gg_ldc2 (z := -9223372036854775808) k dX6_from_27 (by decide +kernel) ?_
      exact hret _ _ _ _ dX6_from_30 (⟨by omega, by omega⟩) (⟨hR, by rw [if_neg (by omega)]⟩)

abbrev rX6_lot : Room := { frames := 2, cells := 0, slots := 0, locals := 52 }
set_option maxRecDepth 100000 in
set_option maxHeartbeats 4000000 in
theorem kX6_lot {l : Launch} {B : gB} {T : Int} {S : sS} {C : gSt} (hB : mdlB B T) (hO : sOk S T) (hR : mRel S T C) (i d : Int) (hi : rI i) (hd : rI d) : gMi l B yX6_lot wsX6_lot rX6_lot [.ref (gad B (0)), .int (iI (i)), .int (iI (d))] C (fun z C' => mRel S T C' ∧ z = if (0 ≤ i ∧ i < sCnt S) ∧ 1 ≤ d ∧ d ≤ T then sBestLot S T i d else -1) := by
  refine gMi_of (ty := .int) rfl (cc := cX6_lot) (nL := 7) (by decide) rfl (Nat.le_of_ble_eq_true rfl) (fun K k hret => ?_)
  have k : gOk K B l rX6_lot 7 cX6_lot RX6 wsX6_lot := k
  show GG K B C 0 [(0, .ref (gad B (0))), (1, .int (iI (i))), (2, .int (iI (d)))] []
  have hT := hO.t
  have hc := hO.cnt
  obtain ⟨hi1, hi2⟩ := hi
  obtain ⟨hd1, hd2⟩ := hd
  refine gg_aload_n k dX6_lot_0 rfl ?_
  refine gg_iconst k dX6_lot_1 ?_
  refine gg_put (e := 0) k (mb0 hB) inX6_lot_X6 tyX6 tyX6_ok nmX6 0 (by decide) fX6_lot_73 rfl rfl rfl (Nat.le_of_ble_eq_true rfl) rfl dX6_lot_2 ?_
  refine gg_nm (fun C2 e2 => ?_)
  have hR : mRel S T C2 := by rw [e2]; exact hR.wri (Or.inr ⟨rfl, by omega, by omega, by omega⟩)
  refine gg_aload_n k dX6_lot_5 rfl ?_
  refine gg_iload_n k dX6_lot_6 rfl ?_
  refine gg_calli (n := 1) (As := [.int (iI (i))]) (rest := []) k (kX6_isItem hB hO hR (i) ⟨by omega, by omega⟩) ⟨_, _, _, gX6_lot_X6_isItem, rfl, rfl, rfl, by decide +kernel, by decide, by decide⟩ (mb0 hB) rfl rfl (Nat.le_of_ble_eq_true rfl) dX6_lot_7 (fun z7 C7 r7 q7 => ?_)
  obtain ⟨q7, e7⟩ := q7
  rw [e7]
  clear e7
  obtain ⟨r7, s7⟩ := r7
  refine gg_if_eq k 21 dX6_lot_10 (by decide) ⟨by omega, by omega⟩ (fun c10 => ?_) (fun c10 => ?_)
  · refine gg_iconst k dX6_lot_21 ?_
    exact hret _ _ _ _ dX6_lot_22 (⟨by omega, by omega⟩) (⟨hR, by rw [if_neg (by omega)]⟩)
  · refine gg_aload_n k dX6_lot_13 rfl ?_
    refine gg_iload_n k dX6_lot_14 rfl ?_
    refine gg_calli (n := 1) (As := [.int (iI (d))]) (rest := []) k (kX6_isPeriod hB hO hR (d) ⟨by omega, by omega⟩) ⟨_, _, _, gX6_lot_X6_isPeriod, rfl, rfl, rfl, by decide +kernel, by decide, by decide⟩ (mb0 hB) rfl rfl (Nat.le_of_ble_eq_true rfl) dX6_lot_15 (fun z15 C15 r15 q15 => ?_)
    obtain ⟨q15, e15⟩ := q15
    rw [e15]
    clear e15
    obtain ⟨r15, s15⟩ := r15
    refine gg_if_ne k 23 dX6_lot_18 (by decide) ⟨by omega, by omega⟩ (fun c18 => ?_) (fun c18 => ?_)
    · have hi0 : 0 ≤ i := by omega
      refine gg_aload_n k dX6_lot_23 rfl ?_
      refine gg_iload_n k dX6_lot_24 rfl ?_
      refine gg_callv (n := 1) (As := [.int (iI (i))]) (rest := []) k (kX6_alone hB hO hR (i := i) (by omega) (by omega)) ⟨_, _, _, gX6_lot_X6_alone, rfl, rfl, rfl, by decide +kernel, by decide, by decide⟩ (mb0 hB) rfl rfl (Nat.le_of_ble_eq_true rfl) dX6_lot_25 (fun C25 q25 => ?_)
      obtain ⟨hR, hn, hcs, hk25⟩ := q25
      refine gg_iconst k dX6_lot_28 ?_
      refine gg_istore_n k [(3, .int (iI (1))), (0, .ref (gad B (0))), (1, .int (iI (i))), (2, .int (iI (d)))] dX6_lot_29 (by decide) rfl ?_
      have L30 : ∀ (n30 : Nat) (p : Int), (1 ≤ p) → (p ≤ T + 1) → (p = aNx S T i (p - 1).toNat) → (p ≤ d ∨ sBestLot S T i d = 0) → T + 1 - p < (n30 : Int) → GG K B C25 30 [(0, .ref (gad B (0))), (1, .int (iI (i))), (2, .int (iI (d))), (3, .int (iI (p)))] [] := by
        intro n30
        induction n30 with
        | zero =>
          intro p hp0 hp1 hch hex hn30
          exact absurd hn30 (by omega)
        | succ n30 ih30 =>
          intro p hp0 hp1 hch hex hn30
          refine gg_iload_n k dX6_lot_30 rfl ?_
          refine gg_iload_n k dX6_lot_31 rfl ?_
          refine gg_icmp_gt k 159 dX6_lot_32 (by decide) ⟨by omega, by omega⟩ ⟨by omega, by omega⟩ (fun c32 => ?_) (fun c32 => ?_)
          · refine gg_iconst k dX6_lot_159 ?_
            exact hret _ _ _ _ dX6_lot_160 (⟨by omega, by omega⟩) (⟨hR, by rw [if_pos (by omega)]; omega⟩)
          · have heb := aEnd_b hO (i := i) (p := p) (by omega)
            have hun := aUnt_i hO (i := i) hp0 (by omega)
            have hub := aUnt_b hO (i := i) hp0 (by omega)
            have cpb := aCost_b hO i (p := p) hp0 (by omega)
            have cpb2 := aCost_b hO i (p := p + 1) (by omega) (by omega)
            have hco : ∀ j : Int, p < j → j ≤ T + 1 → C25 19 j = (aCo S T i (T - p).toNat) j := fun j h1 h2 => by rw [hcs j (by omega) h2, aCo_cost (by omega) h2]
            have hcb : ∀ j : Int, p < j → j ≤ T + 1 → 0 ≤ (aCo S T i (T - p).toNat) j ∧ (aCo S T i (T - p).toNat) j ≤ 120000 := fun j h1 h2 => by have := aCo_b hO i (T - p).toNat (by omega) j (by omega) h2; omega
            have J143 : ∀ (q : Int) (md : Int), (q = max p (aUnt S T i p)) → (md = aAm S T i p) → GG K B C25 143 [(0, .ref (gad B (0))), (1, .int (iI (i))), (2, .int (iI (d))), (3, .int (iI (p))), (4, .int (iI (q))), (5, .int (iI (md)))] [] := by
              intro q md hq hmd
              have amb := aAm_b hO (i := i) (p := p) (by omega) (by omega)
              have hns : aNx S T i p.toNat = q + 1 := by rw [aNx_s hp0, if_pos hch, hq]
              refine gg_iload_n k dX6_lot_143 rfl ?_
              refine gg_iload_n k dX6_lot_144 rfl ?_
              refine gg_icmp_ne k 151 dX6_lot_145 (by decide) ⟨by omega, by omega⟩ ⟨by omega, by omega⟩ (fun c145 => ?_) (fun c145 => ?_)
              · refine gg_iload k dX6_lot_151 rfl ?_
                refine gg_iconst k dX6_lot_153 ?_
                refine gg_iadd k dX6_lot_154 ?_
                refine gg_istore_n k [(3, .int (iI (q + 1))), (0, .ref (gad B (0))), (1, .int (iI (i))), (2, .int (iI (d))), (4, .int (iI (q))), (5, .int (iI (md)))] dX6_lot_155 (by decide) rfl ?_
                refine gg_goto (tgt := 30) k dX6_lot_156 (by decide) ?_
                refine gg_sub [1, 2, 3, 0] rfl ?_
                exact ih30 (q + 1) (by omega) (by omega) (by
                  have h9 := aNx_run (S := S) (T := T) (i := i) hp0 hns (q - p).toNat (by omega)
                  rw [show p + (((q - p).toNat : Nat) : Int) = q by omega] at h9
                  rw [show q + 1 - 1 = q by omega]
                  exact h9.symm) (by
                  by_cases hd : q + 1 ≤ d
                  · exact Or.inl hd
                  · right
                    unfold sBestLot
                    have h9 := aNx_run (S := S) (T := T) (i := i) hp0 hns (d - 1 - p).toNat (by omega)
                    rw [show p + (((d - 1 - p).toNat : Nat) : Int) = d - 1 by omega] at h9
                    rw [h9, if_neg (by omega)]) (by omega)
              · refine gg_iload k dX6_lot_148 rfl ?_
                exact hret _ _ _ _ dX6_lot_150 (⟨by omega, by omega⟩) (⟨hR, by rw [if_pos (by omega)]; unfold sBestLot; rw [← show p = d by omega, if_pos hch]; exact hmd⟩)
            refine gg_iload_n k dX6_lot_35 rfl ?_
            refine gg_istore k [(4, .int (iI (p))), (0, .ref (gad B (0))), (1, .int (iI (i))), (2, .int (iI (d))), (3, .int (iI (p)))] dX6_lot_36 (by decide) rfl ?_
            refine gg_iconst k dX6_lot_38 ?_
            refine gg_istore k [(5, .int (iI (0))), (4, .int (iI (p))), (0, .ref (gad B (0))), (1, .int (iI (i))), (2, .int (iI (d))), (3, .int (iI (p)))] dX6_lot_39 (by decide) rfl ?_
            have J68 : ∀ (dm : Int), ((0 < sNet S i p ∨ aCost S T i p < aCost S T i (p + 1))) → GG K B C25 68 [(5, .int (iI (0))), (4, .int (iI (p))), (0, .ref (gad B (0))), (1, .int (iI (i))), (2, .int (iI (d))), (3, .int (iI (p)))] [] := by
              intro dm hlt
              have hu2 : p ≤ aUnt S T i p ∧ mQ S i (aCo S T i (T - p).toNat) p (aCost S T i p) (aEnd S T i p + 1 - p).toNat = aUnt S T i p := by rcases hun with ⟨u1, u2, u3⟩ | ⟨u1, u2, u3⟩; (· omega); (· exact ⟨u1, u3⟩)
              refine gg_iload_n k dX6_lot_68 rfl ?_
              refine gg_istore k [(6, .int (iI (p))), (5, .int (iI (0))), (4, .int (iI (p))), (0, .ref (gad B (0))), (1, .int (iI (i))), (2, .int (iI (d))), (3, .int (iI (p)))] dX6_lot_69 (by decide) rfl ?_
              have L71 : ∀ (n71 : Nat) (e : Int) (qq : Int), (p ≤ e) → (e ≤ aEnd S T i p + 1) → (qq = (mQ S i (aCo S T i (T - p).toNat) p (aCost S T i p) (e - p).toNat)) → aEnd S T i p + 1 - e < (n71 : Int) → GG K B C25 71 [(0, .ref (gad B (0))), (1, .int (iI (i))), (2, .int (iI (d))), (3, .int (iI (p))), (4, .int (iI (qq))), (5, .int (iI (0))), (6, .int (iI (e)))] [] := by
                intro n71
                induction n71 with
                | zero =>
                  intro e qq he0 he1 hqq hn71
                  exact absurd hn71 (by omega)
                | succ n71 ih71 =>
                  intro e qq he0 he1 hqq hn71
                  have qbb := mQ_b (S := S) (i := i) (p := p) (le := (aCost S T i p)) (co := (aCo S T i (T - p).toNat)) (e - p).toNat
                  refine gg_iload k dX6_lot_71 rfl ?_
                  refine gg_aload_n k dX6_lot_73 rfl ?_
                  refine gg_iload_n k dX6_lot_74 rfl ?_
                  refine gg_iload_n k dX6_lot_75 rfl ?_
                  refine gg_calli (n := 2) (As := [.int (iI (i)), .int (iI (p))]) (rest := [.int (iI (e))]) k (kX6_last hB hO hR hi0 (by omega) p (by omega) (by omega)) ⟨_, _, _, gX6_lot_X6_last, rfl, rfl, rfl, by decide +kernel, by decide, by decide⟩ (mb0 hB) rfl rfl (Nat.le_of_ble_eq_true rfl) dX6_lot_76 (fun z76 C76 r76 q76 => ?_)
                  obtain ⟨q76, e76⟩ := q76
                  rw [e76]
                  clear e76
                  obtain ⟨r76, s76⟩ := r76
                  refine gg_icmp_gt k 115 dX6_lot_79 (by decide) ⟨by omega, by omega⟩ ⟨by omega, by omega⟩ (fun c79 => ?_) (fun c79 => ?_)
                  · have hqu : qq = aUnt S T i p := by rw [hqq, show e = aEnd S T i p + 1 by omega]; exact hu2.2
                    refine gg_iload_n k dX6_lot_115 rfl ?_
                    refine gg_istore k [(6, .int (iI (p))), (0, .ref (gad B (0))), (1, .int (iI (i))), (2, .int (iI (d))), (3, .int (iI (p))), (4, .int (iI (qq))), (5, .int (iI (0)))] dX6_lot_116 (by decide) rfl ?_
                    have L118 : ∀ (n118 : Nat) (e2 : Int) (ms : Int), (p ≤ e2) → (e2 ≤ qq + 1) → (ms = sSum S i p (e2 - p).toNat) → qq + 1 - e2 < (n118 : Int) → GG K B C25 118 [(0, .ref (gad B (0))), (1, .int (iI (i))), (2, .int (iI (d))), (3, .int (iI (p))), (4, .int (iI (qq))), (5, .int (iI (ms))), (6, .int (iI (e2)))] [] := by
                      intro n118
                      induction n118 with
                      | zero =>
                        intro e2 ms hf0 hf1 hms hn118
                        exact absurd hn118 (by omega)
                      | succ n118 ih118 =>
                        intro e2 ms hf0 hf1 hms hn118
                        have smb := sSum_b hO i p (e2 - p).toNat
                        refine gg_iload k dX6_lot_118 rfl ?_
                        refine gg_iload k dX6_lot_120 rfl ?_
                        refine gg_icmp_gt k 143 dX6_lot_122 (by decide) ⟨by omega, by omega⟩ ⟨by omega, by omega⟩ (fun c122 => ?_) (fun c122 => ?_)
                        · refine gg_sub [0, 1, 2, 3, 4, 5] rfl ?_
                          exact J143 (qq) (ms) (by omega) (by unfold aAm; rw [hms, show e2 = aUnt S T i p + 1 by omega])
                        · refine gg_iload k dX6_lot_125 rfl ?_
                          refine gg_aload_n k dX6_lot_127 rfl ?_
                          refine gg_get k (mb0 hB) inX6_lot_X6 23 (by decide) fX6_lot_63 rfl rfl dX6_lot_128 ?_
                          refine gg_iload k dX6_lot_131 rfl ?_
                          refine gg_iald k (mb18 hB) (by omega) (by omega) dX6_lot_133 ?_
                          refine gg_ti (hn (e2) (by omega) (by omega)) ?_
                          have nb133 := sNet_b hO i (e2)
                          refine gg_iadd k dX6_lot_134 ?_
                          refine gg_istore k [(5, .int (iI (ms + (sNet S i (e2))))), (0, .ref (gad B (0))), (1, .int (iI (i))), (2, .int (iI (d))), (3, .int (iI (p))), (4, .int (iI (qq))), (6, .int (iI (e2)))] dX6_lot_135 (by decide) rfl ?_
                          refine gg_iinc k 6 [(6, .int (iI (e2 + 1))), (5, .int (iI (ms + (sNet S i (e2))))), (0, .ref (gad B (0))), (1, .int (iI (i))), (2, .int (iI (d))), (3, .int (iI (p))), (4, .int (iI (qq)))] dX6_lot_137 rfl (by decide) rfl ?_
                          refine gg_goto (tgt := 118) k dX6_lot_140 (by decide) ?_
                          refine gg_sub [2, 3, 4, 5, 6, 1, 0] rfl ?_
                          exact ih118 (e2 + 1) (ms + (sNet S i (e2))) (by omega) (by omega) (by rw [sSum_s hf0, hms]) (by omega)
                    refine gg_sub [1, 2, 3, 4, 5, 6, 0] rfl ?_
                    exact L118 ((qq + 1 - p).toNat + 1) (p) (0) (by omega) (by omega) (by rw [show p - p = 0 by omega]; rfl) (by omega)
                  · refine gg_aload_n k dX6_lot_82 rfl ?_
                    refine gg_iload_n k dX6_lot_83 rfl ?_
                    refine gg_iload_n k dX6_lot_84 rfl ?_
                    refine gg_iload k dX6_lot_85 rfl ?_
                    refine gg_calll (n := 3) (As := [.int (iI (i)), .int (iI (p)), .int (iI (e))]) (rest := []) k (kX6_priceTo hB hO hR hi0 (by omega) hn p e (by omega) (by omega) (by omega) (by rw [hco (e + 1) (by omega) (by omega)]; exact hcb (e + 1) (by omega) (by omega))) ⟨_, _, _, gX6_lot_X6_priceTo, rfl, rfl, rfl, by decide +kernel, by decide, by decide⟩ (mb0 hB) rfl rfl (Nat.le_of_ble_eq_true rfl) dX6_lot_87 (fun z87 C87 r87 q87 => ?_)
                    obtain ⟨q87, e87⟩ := q87
                    rw [e87]
                    clear e87
                    obtain ⟨r87, s87⟩ := r87
                    rw [hco (e + 1) (by omega) (by omega)] at q87
                    have cb87 := hcb (e + 1) (by omega) (by omega)
                    have pb87 := sPay_b hO i p (e + 1 - p).toNat (by omega)
                    refine gg_aload_n k dX6_lot_90 rfl ?_
                    refine gg_get k (mb0 hB) inX6_lot_X6 24 (by decide) fX6_lot_66 rfl rfl dX6_lot_91 ?_
                    refine gg_iload_n k dX6_lot_94 rfl ?_
                    refine gg_lald k (mb19 hB) (by omega) (by omega) dX6_lot_95 ?_
                    refine gg_tl (hcs (p) (by omega) (by omega)) ?_
                    refine gg_lt_ne k 105 dX6_lot_96 dX6_lot_97 (by decide) ⟨by omega, by omega⟩ ⟨by omega, by omega⟩ (fun c96 => ?_) (fun c96 => ?_)
                    · refine gg_iload k dX6_lot_105 rfl ?_
                      refine gg_istore k [(4, .int (iI (qq))), (0, .ref (gad B (0))), (1, .int (iI (i))), (2, .int (iI (d))), (3, .int (iI (p))), (5, .int (iI (0))), (6, .int (iI (e)))] dX6_lot_107 (by decide) rfl ?_
                      refine gg_iinc k 6 [(6, .int (iI (e + 1))), (4, .int (iI (qq))), (0, .ref (gad B (0))), (1, .int (iI (i))), (2, .int (iI (d))), (3, .int (iI (p))), (5, .int (iI (0)))] dX6_lot_109 rfl (by decide) rfl ?_
                      refine gg_goto (tgt := 71) k dX6_lot_112 (by decide) ?_
                      refine gg_sub [2, 3, 4, 5, 1, 6, 0] rfl ?_
                      exact ih71 (e + 1) (qq) (by omega) (by omega) (by rw [mQ_s he0, if_neg (by omega)]; exact hqq) (by omega)
                    · refine gg_iload k dX6_lot_100 rfl ?_
                      refine gg_goto (tgt := 107) k dX6_lot_102 (by decide) ?_
                      refine gg_istore k [(4, .int (iI (e))), (0, .ref (gad B (0))), (1, .int (iI (i))), (2, .int (iI (d))), (3, .int (iI (p))), (5, .int (iI (0))), (6, .int (iI (e)))] dX6_lot_107 (by decide) rfl ?_
                      refine gg_iinc k 6 [(6, .int (iI (e + 1))), (4, .int (iI (e))), (0, .ref (gad B (0))), (1, .int (iI (i))), (2, .int (iI (d))), (3, .int (iI (p))), (5, .int (iI (0)))] dX6_lot_109 rfl (by decide) rfl ?_
                      refine gg_goto (tgt := 71) k dX6_lot_112 (by decide) ?_
                      refine gg_sub [2, 3, 4, 5, 1, 6, 0] rfl ?_
                      exact ih71 (e + 1) (e) (by omega) (by omega) (by rw [mQ_s he0, if_pos (by omega)]) (by omega)
              refine gg_sub [3, 4, 5, 6, 2, 1, 0] rfl ?_
              exact L71 ((aEnd S T i p + 1 - p).toNat + 1) (p) (p) (by omega) (by omega) (by rw [show p - p = 0 by omega]; rfl) (by omega)
            refine gg_aload_n k dX6_lot_41 rfl ?_
            refine gg_get k (mb0 hB) inX6_lot_X6 23 (by decide) fX6_lot_63 rfl rfl dX6_lot_42 ?_
            refine gg_iload_n k dX6_lot_45 rfl ?_
            refine gg_iald k (mb18 hB) (by omega) (by omega) dX6_lot_46 ?_
            refine gg_ti (hn (p) (by omega) (by omega)) ?_
            have nb46 := sNet_b hO i (p)
            refine gg_if_gt k 68 dX6_lot_47 (by decide) ⟨by omega, by omega⟩ (fun c47 => ?_) (fun c47 => ?_)
            · exact J68 (0) (by omega)
            · refine gg_aload_n k dX6_lot_50 rfl ?_
              refine gg_get k (mb0 hB) inX6_lot_X6 24 (by decide) fX6_lot_66 rfl rfl dX6_lot_51 ?_
              refine gg_iload_n k dX6_lot_54 rfl ?_
              refine gg_iconst k dX6_lot_55 ?_
              refine gg_iadd k dX6_lot_56 ?_
              refine gg_lald k (mb19 hB) (by omega) (by omega) dX6_lot_57 ?_
              refine gg_tl (hcs (p + 1) (by omega) (by omega)) ?_
              refine gg_aload_n k dX6_lot_58 rfl ?_
              refine gg_get k (mb0 hB) inX6_lot_X6 24 (by decide) fX6_lot_66 rfl rfl dX6_lot_59 ?_
              refine gg_iload_n k dX6_lot_62 rfl ?_
              refine gg_lald k (mb19 hB) (by omega) (by omega) dX6_lot_63 ?_
              refine gg_tl (hcs (p) (by omega) (by omega)) ?_
              refine gg_lt_le k 143 dX6_lot_64 dX6_lot_65 (by decide) ⟨by omega, by omega⟩ ⟨by omega, by omega⟩ (fun c64 => ?_) (fun c64 => ?_)
              · refine gg_sub [2, 3, 4, 5, 1, 0] rfl ?_
                exact J143 (p) (0) (by rcases hun with ⟨u1, u2, u3⟩ | ⟨u1, u2, u3⟩ <;> omega) (by rcases hun with ⟨u1, u2, u3⟩ | ⟨u1, u2, u3⟩; (· unfold aAm; rw [u1, show (p - 1 + 1 - p).toNat = 0 by omega]; rfl); (· omega))
              · exact J68 (0) (by omega)
      refine gg_sub [1, 2, 3, 0] rfl ?_
      exact L30 ((T + 1 - 1).toNat + 1) (1) (by omega) (by omega) (rfl) (by omega) (by omega)
    · refine gg_iconst k dX6_lot_21 ?_
      exact hret _ _ _ _ dX6_lot_22 (⟨by omega, by omega⟩) (⟨hR, by rw [if_neg (by omega)]⟩)
