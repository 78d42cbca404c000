abbrev rX6_run : Room := { frames := 1, cells := 0, slots := 0, locals := 24 }
set_option maxRecDepth 100000 in
set_option maxHeartbeats 4000000 in
theorem kX6_run {l : Launch} {B : gB} {T : Int} {S : sS} {C : gSt} (hB : mdlB B T) (hO : sOk S T) (hR : mRel S T C) {i : Int} (hi0 : 0 ≤ i) (hi1 : i < sCnt S) : gMv l B yX6_run wsX6_run rX6_run [.ref (gad B (0)), .int (iI (i))] C (fun C' => mRel S T C' ∧ mRun S i C' T ∧ ∀ q : Nat, q ≠ 7 → q ≠ 8 → q ≠ 9 → q ≠ 10 → C' q = C q) := by
  refine gMv_of (cc := cX6_run) (nL := 12) (by decide) rfl (Nat.le_of_ble_eq_true rfl) (fun K k hret => ?_)
  have k : gOk K B l rX6_run 12 cX6_run RX6 wsX6_run := k
  show GG K B C 0 [(0, .ref (gad B (0))), (1, .int (iI (i)))] []
  have hT := hO.t
  have hc := hO.cnt
  have b3 := hO.n3 i
  have b7 := hO.n7 i
  have b4 := hO.n4 i
  refine gg_aload_n k dX6_run_0 rfl ?_
  refine gg_get k (mb0 hB) inX6_run_X6 3 (by decide) fX6_run_7 rfl rfl dX6_run_1 ?_
  refine gg_bipush k dX6_run_4 (by decide +kernel) ?_
  refine gg_iload_n k dX6_run_6 rfl ?_
  refine gg_imul k dX6_run_7 ?_
  refine gg_iconst k dX6_run_8 ?_
  refine gg_iadd k dX6_run_9 ?_
  refine gg_iald k (mb1 hB) (by omega) (by omega) dX6_run_10 ?_
  refine gg_ti (hR.num (i := i) (w := 3) (by omega) (by omega) (by omega) (by omega) (by omega)) ?_
  have bd10 := hO.n3 (i)
  refine gg_istore_n k [(2, .int (iI (sNum S (i) (3)))), (0, .ref (gad B (0))), (1, .int (iI (i)))] dX6_run_11 (by decide) rfl ?_
  refine gg_aload_n k dX6_run_12 rfl ?_
  refine gg_get k (mb0 hB) inX6_run_X6 3 (by decide) fX6_run_7 rfl rfl dX6_run_13 ?_
  refine gg_bipush k dX6_run_16 (by decide +kernel) ?_
  refine gg_iload_n k dX6_run_18 rfl ?_
  refine gg_imul k dX6_run_19 ?_
  refine gg_bipush k dX6_run_20 (by decide +kernel) ?_
  refine gg_iadd k dX6_run_22 ?_
  refine gg_iald k (mb1 hB) (by omega) (by omega) dX6_run_23 ?_
  refine gg_ti (hR.num (i := i) (w := 7) (by omega) (by omega) (by omega) (by omega) (by omega)) ?_
  have bd23 := hO.n7 (i)
  refine gg_istore_n k [(3, .int (iI (sNum S (i) (7)))), (2, .int (iI (sNum S (i) (3)))), (0, .ref (gad B (0))), (1, .int (iI (i)))] dX6_run_24 (by decide) rfl ?_
  refine gg_iconst k dX6_run_25 ?_
  refine gg_istore k [(4, .int (iI (0))), (3, .int (iI (sNum S (i) (7)))), (2, .int (iI (sNum S (i) (3)))), (0, .ref (gad B (0))), (1, .int (iI (i)))] dX6_run_26 (by decide) rfl ?_
  have L28 : ∀ (n28 : Nat) (c : Int) (C1 : gSt), 0 ≤ c → c ≤ 13 → mRel S T C1 → (∀ j : Int, 0 ≤ j → j < c → C1 7 j = 0 ∧ C1 8 j = 0 ∧ C1 9 j = 0 ∧ C1 10 j = 0) → (∀ q : Nat, q ≠ 7 → q ≠ 8 → q ≠ 9 → q ≠ 10 → C1 q = C q) → 13 - c < (n28 : Int) → GG K B C1 28 [(0, .ref (gad B (0))), (1, .int (iI (i))), (2, .int (iI (sNum S i 3))), (3, .int (iI (sNum S i 7))), (4, .int (iI (c)))] [] := by
    intro n28
    induction n28 with
    | zero =>
      intro c C1 hc0 hc1 hR hz hk hn28
      exact absurd hn28 (by omega)
    | succ n28 ih28 =>
      intro c C1 hc0 hc1 hR hz hk hn28
      refine gg_iload k dX6_run_28 rfl ?_
      refine gg_bipush k dX6_run_30 (by decide +kernel) ?_
      refine gg_icmp_ge k 73 dX6_run_32 (by decide) ⟨by omega, by omega⟩ ⟨by omega, by omega⟩ (fun c32 => ?_) (fun c32 => ?_)
      · refine gg_aload_n k dX6_run_73 rfl ?_
        refine gg_get k (mb0 hB) inX6_run_X6 11 (by decide) fX6_run_29 rfl rfl dX6_run_74 ?_
        refine gg_iconst k dX6_run_77 ?_
        refine gg_aload_n k dX6_run_78 rfl ?_
        refine gg_get k (mb0 hB) inX6_run_X6 3 (by decide) fX6_run_7 rfl rfl dX6_run_79 ?_
        refine gg_bipush k dX6_run_82 (by decide +kernel) ?_
        refine gg_iload_n k dX6_run_84 rfl ?_
        refine gg_imul k dX6_run_85 ?_
        refine gg_iconst k dX6_run_86 ?_
        refine gg_iadd k dX6_run_87 ?_
        refine gg_iald k (mb1 hB) (by omega) (by omega) dX6_run_88 ?_
        refine gg_ti (hR.num (i := i) (w := 4) (by omega) (by omega) (by omega) (by omega) (by omega)) ?_
        have bd88 := hO.n4 (i)
        refine gg_i2l k dX6_run_89 ⟨by omega, by omega⟩ ?_
        refine gg_last k (mb7 hB) (by omega) (by omega) dX6_run_90 ?_
        refine gg_nm (fun C90 e90 => ?_)
        have hR : mRel S T C90 := by rw [e90]; exact hR.wri (Or.inl (by omega))
        refine gg_aload_n k dX6_run_91 rfl ?_
        refine gg_get k (mb0 hB) inX6_run_X6 14 (by decide) fX6_run_39 rfl rfl dX6_run_92 ?_
        refine gg_iconst k dX6_run_95 ?_
        refine gg_aload_n k dX6_run_96 rfl ?_
        refine gg_get k (mb0 hB) inX6_run_X6 11 (by decide) fX6_run_29 rfl rfl dX6_run_97 ?_
        refine gg_iconst k dX6_run_100 ?_
        refine gg_lald k (mb7 hB) (by omega) (by omega) dX6_run_101 ?_
        refine gg_tl (show C90 7 0 = sNum S i 4 by rw [e90, wr_s]) ?_
        refine gg_last k (mb10 hB) (by omega) (by omega) dX6_run_102 ?_
        refine gg_nm (fun C102 e102 => ?_)
        have hR : mRel S T C102 := by rw [e102]; exact hR.wri (Or.inl (by omega))
        refine gg_lconst0 k dX6_run_103 ?_
        refine gg_lstore k [(4, .long (iL (0))), (0, .ref (gad B (0))), (1, .int (iI (i))), (2, .int (iI (sNum S i 3))), (3, .int (iI (sNum S i 7)))] dX6_run_104 (by decide) rfl ?_
        refine gg_iconst k dX6_run_106 ?_
        refine gg_istore k [(6, .int (iI (1))), (4, .long (iL (0))), (0, .ref (gad B (0))), (1, .int (iI (i))), (2, .int (iI (sNum S i 3))), (3, .int (iI (sNum S i 7)))] dX6_run_107 (by decide) rfl ?_
        have L109 : ∀ (n109 : Nat) (p : Int) (ow : Int) (C2 : gSt), 1 ≤ p → p ≤ T + 1 → ow = (sRun S i (p - 1).toNat).2 → mRel S T C2 → (∀ j : Int, 0 ≤ j → j < 13 → C2 7 j = (sRun S i (p - 1).toNat).1 j) → mRun S i C2 (p - 1) → (∀ j : Int, p ≤ j → j < 13 → C2 9 j = 0 ∧ C2 10 j = 0) → (∀ q : Nat, q ≠ 7 → q ≠ 8 → q ≠ 9 → q ≠ 10 → C2 q = C q) → T + 1 - p < (n109 : Int) → GG K B C2 109 [(0, .ref (gad B (0))), (1, .int (iI (i))), (2, .int (iI (sNum S i 3))), (3, .int (iI (sNum S i 7))), (4, .long (iL (ow))), (6, .int (iI (p)))] [] := by
          intro n109
          induction n109 with
          | zero =>
            intro p ow C2 hp0 hp1 how hR hl hm hz2 hk2 hn109
            exact absurd hn109 (by omega)
          | succ n109 ih109 =>
            intro p ow C2 hp0 hp1 how hR hl hm hz2 hk2 hn109
            have rb := sRun_b hO i (p - 1).toNat
            refine gg_iload k dX6_run_109 rfl ?_
            refine gg_aload_n k dX6_run_111 rfl ?_
            refine gg_get k (mb0 hB) inX6_run_X6 1 (by decide) fX6_run_69 rfl rfl dX6_run_112 ?_
            refine gg_icmp_gt k 312 dX6_run_115 (by decide) ⟨by omega, by omega⟩ ⟨by omega, by omega⟩ (fun c115 => ?_) (fun c115 => ?_)
            · exact hret _ _ _ dX6_run_312 (⟨hR, by rw [← show p - 1 = T by omega]; exact hm, hk2⟩)
            · have J148 : ∀ (C3 : gSt), (∀ j : Int, 0 ≤ j → j < 13 → C3 7 j = mL0 S i p j) → (∀ q : Nat, q ≠ 7 → C3 q = C2 q) → mRel S T C3 → GG K B C3 148 [(0, .ref (gad B (0))), (1, .int (iI (i))), (2, .int (iI (sNum S i 3))), (3, .int (iI (sNum S i 7))), (4, .long (iL (ow))), (6, .int (iI (p)))] [] := by
                intro C3 h3l h3k hR
                refine gg_lload k dX6_run_148 rfl ?_
                refine gg_aload_n k dX6_run_150 rfl ?_
                refine gg_iload_n k dX6_run_151 rfl ?_
                refine gg_iload k dX6_run_152 rfl ?_
                refine gg_calli (n := 2) (As := [.int (iI (i)), .int (iI (p))]) (rest := [.long (iL (ow))]) k (kX6_grossOf hB hO hR (i := i) hi0 hi1 p (by omega) (by omega)) ⟨_, _, _, gX6_run_X6_grossOf, rfl, rfl, rfl, by decide +kernel, by decide, by decide⟩ (mb0 hB) rfl rfl (Nat.le_of_ble_eq_true rfl) dX6_run_154 (fun z154 C154 r154 q154 => ?_)
                obtain ⟨q154, e154⟩ := q154
                rw [e154]
                clear e154
                obtain ⟨r154, s154⟩ := r154
                have gb := sGross_b hO i p
                have w0b := mW0_b hO i hp0 (by omega)
                refine gg_i2l k dX6_run_157 ⟨by omega, by omega⟩ ?_
                refine gg_ladd k dX6_run_158 ?_
                refine gg_lstore k [(7, .long (iL (ow + z154))), (0, .ref (gad B (0))), (1, .int (iI (i))), (2, .int (iI (sNum S i 3))), (3, .int (iI (sNum S i 7))), (4, .long (iL (ow))), (6, .int (iI (p)))] dX6_run_159 (by decide) rfl ?_
                refine gg_iconst k dX6_run_161 ?_
                refine gg_istore k [(9, .int (iI (0))), (7, .long (iL (ow + z154))), (0, .ref (gad B (0))), (1, .int (iI (i))), (2, .int (iI (sNum S i 3))), (3, .int (iI (sNum S i 7))), (4, .long (iL (ow))), (6, .int (iI (p)))] dX6_run_162 (by decide) rfl ?_
                have L164 : ∀ (n164 : Nat) (c : Int) (w : Int) (C4 : gSt), 0 ≤ c → c ≤ p + 1 → w = (tkL (mL0 S i p) (mW0 S i p) c.toNat).2 → (∀ j : Int, 0 ≤ j → j < 13 → C4 7 j = (tkL (mL0 S i p) (mW0 S i p) c.toNat).1 j) → (∀ q : Nat, q ≠ 7 → C4 q = C3 q) → mRel S T C4 → p + 1 - c < (n164 : Int) → GG K B C4 164 [(0, .ref (gad B (0))), (1, .int (iI (i))), (2, .int (iI (sNum S i 3))), (3, .int (iI (sNum S i 7))), (4, .long (iL (ow))), (6, .int (iI (p))), (7, .long (iL (w))), (9, .int (iI (c)))] [] := by
                  intro n164
                  induction n164 with
                  | zero =>
                    intro c w C4 hc0 hc1 hw h4l h4k hR hn164
                    exact absurd hn164 (by omega)
                  | succ n164 ih164 =>
                    intro c w C4 hc0 hc1 hw h4l h4k hR hn164
                    have tb := tkL_b (l := mL0 S i p) (w := mW0 S i p) (fun j h0 => (mL0_b hO i hp0 j h0).1) w0b.1 c.toNat
                    refine gg_iload k dX6_run_164 rfl ?_
                    refine gg_iload k dX6_run_166 rfl ?_
                    refine gg_icmp_gt k 223 dX6_run_168 (by decide) ⟨by omega, by omega⟩ ⟨by omega, by omega⟩ (fun c168 => ?_) (fun c168 => ?_)
                    · have hce : c = p + 1 := by omega
                      have hwe : w = (sTk S i (p - 1).toNat).2 := by rw [hw, hce, mTk hp0]
                      have h4t : ∀ j : Int, 0 ≤ j → j < 13 → C4 7 j = (sTk S i (p - 1).toNat).1 j := fun j h0 h1 => by rw [h4l j h0 h1, hce, mTk hp0]
                      have skb := sTk_b hO i (p - 1).toNat
                      have hwb := tb.2
                      refine gg_lload k dX6_run_223 rfl ?_
                      refine gg_lstore k [(4, .long (iL (w))), (0, .ref (gad B (0))), (1, .int (iI (i))), (2, .int (iI (sNum S i 3))), (3, .int (iI (sNum S i 7))), (6, .int (iI (p))), (7, .long (iL (w))), (9, .int (iI (c)))] dX6_run_225 (by decide) rfl ?_
                      refine gg_aload_n k dX6_run_227 rfl ?_
                      refine gg_get k (mb0 hB) inX6_run_X6 12 (by decide) fX6_run_33 rfl rfl dX6_run_228 ?_
                      refine gg_iload k dX6_run_231 rfl ?_
                      refine gg_lload k dX6_run_233 rfl ?_
                      refine gg_last k (mb8 hB) (by omega) (by omega) dX6_run_235 ?_
                      refine gg_nm (fun C235 e235 => ?_)
                      have hR : mRel S T C235 := by rw [e235]; exact hR.wri (Or.inl (by omega))
                      have J273 : ∀ (C5 : gSt), (∀ j : Int, 0 ≤ j → j < 13 → C5 7 j = (sRun S i p.toNat).1 j) → C5 9 p = sGone S i (p - 1).toNat → C5 8 p = (sTk S i (p - 1).toNat).2 → (∀ j : Int, j ≠ p → C5 8 j = C2 8 j) → (∀ j : Int, j ≠ p → C5 9 j = C2 9 j) → C5 10 = C2 10 → (∀ q : Nat, q ≠ 7 → q ≠ 8 → q ≠ 9 → C5 q = C2 q) → mRel S T C5 → GG K B C5 273 [(0, .ref (gad B (0))), (1, .int (iI (i))), (2, .int (iI (sNum S i 3))), (3, .int (iI (sNum S i 7))), (4, .long (iL (w))), (6, .int (iI (p)))] [] := by
                        intro C5 h5l h5g h5o8 h5n8 h5n9 h510 h5k hR
                        refine gg_iconst k dX6_run_273 ?_
                        refine gg_istore k [(9, .int (iI (0))), (0, .ref (gad B (0))), (1, .int (iI (i))), (2, .int (iI (sNum S i 3))), (3, .int (iI (sNum S i 7))), (4, .long (iL (w))), (6, .int (iI (p)))] dX6_run_274 (by decide) rfl ?_
                        have L276 : ∀ (n276 : Nat) (c : Int) (C6 : gSt), 0 ≤ c → c ≤ p + 1 → C6 10 p = smL (sRun S i p.toNat).1 c.toNat → (∀ j : Int, j ≠ p → C6 10 j = C5 10 j) → (∀ q : Nat, q ≠ 10 → C6 q = C5 q) → mRel S T C6 → p + 1 - c < (n276 : Int) → GG K B C6 276 [(0, .ref (gad B (0))), (1, .int (iI (i))), (2, .int (iI (sNum S i 3))), (3, .int (iI (sNum S i 7))), (4, .long (iL (w))), (6, .int (iI (p))), (9, .int (iI (c)))] [] := by
                          intro n276
                          induction n276 with
                          | zero =>
                            intro c C6 hc0 hc1 h6p h6n h6o hR hn276
                            exact absurd hn276 (by omega)
                          | succ n276 ih276 =>
                            intro c C6 hc0 hc1 h6p h6n h6o hR hn276
                            refine gg_iload k dX6_run_276 rfl ?_
                            refine gg_iload k dX6_run_278 rfl ?_
                            refine gg_icmp_gt k 306 dX6_run_280 (by decide) ⟨by omega, by omega⟩ ⟨by omega, by omega⟩ (fun c280 => ?_) (fun c280 => ?_)
                            · refine gg_iinc k 5 [(6, .int (iI (p + 1))), (0, .ref (gad B (0))), (1, .int (iI (i))), (2, .int (iI (sNum S i 3))), (3, .int (iI (sNum S i 7))), (4, .long (iL (w))), (9, .int (iI (c)))] dX6_run_306 rfl (by decide) rfl ?_
                              refine gg_goto (tgt := 109) k dX6_run_309 (by decide) ?_
                              refine gg_sub [1, 2, 3, 4, 5, 0] rfl ?_
                              exact ih109 (p + 1) (w) (C6) (by omega) (by omega) (by rw [show p + 1 - 1 = p by omega, mRun_s hp0]; exact hwe) (hR) (by rw [show p + 1 - 1 = p by omega]; exact fun j h0 h1 => by rw [h6o 7 (by omega)]; exact h5l j h0 h1) (by
                                rw [show p + 1 - 1 = p by omega]
                                refine ⟨fun j h0 h1 => ?_, fun j h0 h1 => ?_⟩
                                · by_cases hj : j = p
                                  · rw [hj, h6p, show c = p + 1 by omega, show (p + 1).toNat = p.toNat + 1 by omega, h6o 8 (by omega), h5o8, mRun_s hp0]
                                    exact ⟨rfl, rfl⟩
                                  · rw [h6n j hj, h6o 8 (by omega), h5n8 j hj]
                                    have := hm.1 j h0 (by omega)
                                    exact ⟨by rw [h510]; exact this.1, this.2⟩
                                · by_cases hj : j = p
                                  · rw [hj, h6o 9 (by omega)]; exact h5g
                                  · rw [h6o 9 (by omega), h5n9 j hj]; exact hm.2 j h0 (by omega)) (fun j h0 h1 => by rw [h6o 9 (by omega), h5n9 j (by omega), h6n j (by omega), h510]; exact hz2 j (by omega) h1) (fun q h1 h2 h3 h4 => by rw [h6o q h4, h5k q h1 h2 h3]; exact hk2 q h1 h2 h3 h4) (by omega)
                            · refine gg_aload_n k dX6_run_283 rfl ?_
                              refine gg_get k (mb0 hB) inX6_run_X6 14 (by decide) fX6_run_39 rfl rfl dX6_run_284 ?_
                              refine gg_iload k dX6_run_287 rfl ?_
                              refine gg_dup2 k dX6_run_289 rfl rfl ?_
                              refine gg_lald k (mb10 hB) (by omega) (by omega) dX6_run_290 ?_
                              refine gg_aload_n k dX6_run_291 rfl ?_
                              refine gg_get k (mb0 hB) inX6_run_X6 11 (by decide) fX6_run_29 rfl rfl dX6_run_292 ?_
                              refine gg_iload k dX6_run_295 rfl ?_
                              refine gg_lald k (mb7 hB) (by omega) (by omega) dX6_run_297 ?_
                              refine gg_ladd k dX6_run_298 ?_
                              refine gg_last k (mb10 hB) (by omega) (by omega) dX6_run_299 ?_
                              refine gg_nm (fun C299 e299 => ?_)
                              have hR : mRel S T C299 := by rw [e299]; exact hR.wri (Or.inl (by omega))
                              refine gg_iinc k 6 [(9, .int (iI (c + 1))), (0, .ref (gad B (0))), (1, .int (iI (i))), (2, .int (iI (sNum S i 3))), (3, .int (iI (sNum S i 7))), (4, .long (iL (w))), (6, .int (iI (p)))] dX6_run_300 rfl (by decide) rfl ?_
                              refine gg_goto (tgt := 276) k dX6_run_303 (by decide) ?_
                              refine gg_sub [1, 2, 3, 4, 5, 6, 0] rfl ?_
                              exact ih276 (c + 1) (C299) (by omega) (by omega) (by rw [e299, wr_s, smL_s hc0, h6p, h6o 7 (by omega), h5l c (by omega) (by omega)]) (fun j hj => by rw [e299, wr_j hj]; exact h6n j hj) (fun q hq => by rw [e299, wr_k hq]; exact h6o q hq) (hR) (by omega)
                        refine gg_sub [1, 2, 3, 4, 5, 6, 0] rfl ?_
                        exact L276 ((p + 1 - 0).toNat + 1) (0) (C5) (by omega) (by omega) (by rw [h510]; exact (hz2 p (by omega) (by omega)).2) (fun _ _ => rfl) (fun _ _ => rfl) (hR) (by omega)
                      refine gg_iload_n k dX6_run_236 rfl ?_
                      refine gg_if_le k 273 dX6_run_237 (by decide) ⟨by omega, by omega⟩ (fun c237 => ?_) (fun c237 => ?_)
                      · refine gg_sub [1, 2, 3, 4, 0, 5] rfl ?_
                        exact J273 (C235) (fun j h0 h1 => by rw [e235, wr_k (by omega), mRun_s hp0]; show _ = (if _ then _ else _ : Int → Int) j; rw [if_neg (show ¬ (0 < sNum S i 3 ∧ sNum S i 3 ≤ p) by omega)]; exact h4t j h0 h1) (by rw [e235, wr_k (by omega), h4k 9 (by omega), h3k 9 (by omega), (hz2 p (by omega) (by omega)).1, mGone hp0, if_neg (by omega)]) (by rw [e235, wr_s]; exact hwe) (fun j hj => by rw [e235, wr_j hj, h4k 8 (by omega), h3k 8 (by omega)]) (fun j hj => by rw [e235, wr_k (by omega), h4k 9 (by omega), h3k 9 (by omega)]) (by rw [e235, wr_k (by omega), h4k 10 (by omega), h3k 10 (by omega)]) (fun q h1 h2 h3 => by rw [e235, wr_k h2, h4k q h1, h3k q h1]) (hR)
                      · refine gg_iload k dX6_run_240 rfl ?_
                        refine gg_iload_n k dX6_run_242 rfl ?_
                        refine gg_isub k dX6_run_243 ?_
                        refine gg_if_lt k 273 dX6_run_244 (by decide) ⟨by omega, by omega⟩ (fun c244 => ?_) (fun c244 => ?_)
                        · refine gg_sub [1, 2, 3, 4, 0, 5] rfl ?_
                          exact J273 (C235) (fun j h0 h1 => by rw [e235, wr_k (by omega), mRun_s hp0]; show _ = (if _ then _ else _ : Int → Int) j; rw [if_neg (show ¬ (0 < sNum S i 3 ∧ sNum S i 3 ≤ p) by omega)]; exact h4t j h0 h1) (by rw [e235, wr_k (by omega), h4k 9 (by omega), h3k 9 (by omega), (hz2 p (by omega) (by omega)).1, mGone hp0, if_neg (by omega)]) (by rw [e235, wr_s]; exact hwe) (fun j hj => by rw [e235, wr_j hj, h4k 8 (by omega), h3k 8 (by omega)]) (fun j hj => by rw [e235, wr_k (by omega), h4k 9 (by omega), h3k 9 (by omega)]) (by rw [e235, wr_k (by omega), h4k 10 (by omega), h3k 10 (by omega)]) (fun q h1 h2 h3 => by rw [e235, wr_k h2, h4k q h1, h3k q h1]) (hR)
                        · refine gg_aload_n k dX6_run_247 rfl ?_
                          refine gg_get k (mb0 hB) inX6_run_X6 13 (by decide) fX6_run_36 rfl rfl dX6_run_248 ?_
                          refine gg_iload k dX6_run_251 rfl ?_
                          refine gg_aload_n k dX6_run_253 rfl ?_
                          refine gg_get k (mb0 hB) inX6_run_X6 11 (by decide) fX6_run_29 rfl rfl dX6_run_254 ?_
                          refine gg_iload k dX6_run_257 rfl ?_
                          refine gg_iload_n k dX6_run_259 rfl ?_
                          refine gg_isub k dX6_run_260 ?_
                          refine gg_lald k (mb7 hB) (by omega) (by omega) dX6_run_261 ?_
                          refine gg_last k (mb9 hB) (by omega) (by omega) dX6_run_262 ?_
                          refine gg_nm (fun C262 e262 => ?_)
                          have hR : mRel S T C262 := by rw [e262]; exact hR.wri (Or.inl (by omega))
                          refine gg_aload_n k dX6_run_263 rfl ?_
                          refine gg_get k (mb0 hB) inX6_run_X6 11 (by decide) fX6_run_29 rfl rfl dX6_run_264 ?_
                          refine gg_iload k dX6_run_267 rfl ?_
                          refine gg_iload_n k dX6_run_269 rfl ?_
                          refine gg_isub k dX6_run_270 ?_
                          refine gg_lconst0 k dX6_run_271 ?_
                          refine gg_last k (mb7 hB) (by omega) (by omega) dX6_run_272 ?_
                          refine gg_nm (fun C272 e272 => ?_)
                          have hR : mRel S T C272 := by rw [e272]; exact hR.wri (Or.inl (by omega))
                          refine gg_sub [1, 2, 3, 4, 0, 5] rfl ?_
                          exact J273 (C272) (fun j h0 h1 => by rw [mRun_s hp0]; show _ = (if _ then _ else _ : Int → Int) j; rw [if_pos (show 0 < sNum S i 3 ∧ sNum S i 3 ≤ p by omega), e272, wr_w, e262, wr_k (by omega), e235, wr_k (by omega)]; by_cases hj : j = p - sNum S i 3; (· rw [if_pos hj, hj, upI_s]); (· rw [if_neg hj, upI_n hj]; exact h4t j h0 h1)) (by rw [e272, wr_k (by omega), e262, wr_s, mGone hp0, if_pos (by omega), e235, wr_k (by omega)]; exact h4t _ (by omega) (by omega)) (by rw [e272, wr_k (by omega), e262, wr_k (by omega), e235, wr_s]; exact hwe) (fun j hj => by rw [e272, wr_k (by omega), e262, wr_k (by omega), e235, wr_j hj, h4k 8 (by omega), h3k 8 (by omega)]) (fun j hj => by rw [e272, wr_k (by omega), e262, wr_j hj, e235, wr_k (by omega), h4k 9 (by omega), h3k 9 (by omega)]) (by rw [e272, wr_k (by omega), e262, wr_k (by omega), e235, wr_k (by omega), h4k 10 (by omega), h3k 10 (by omega)]) (fun q h1 h2 h3 => by rw [e272, wr_k h1, e262, wr_k h3, e235, wr_k h2, h4k q h1, h3k q h1]) (hR)
                    · have hxc : C4 7 c = (tkL (mL0 S i p) (mW0 S i p) c.toNat).1 c := h4l c (by omega) (by omega)
                      have hxb := tb.1 c (by omega)
                      have hxm := mL0_b hO i hp0 c (by omega)
                      have htb := tb.2
                      have J196 : ∀ (tk : Int), tk = min (C4 7 c) w → GG K B C4 196 [(0, .ref (gad B (0))), (1, .int (iI (i))), (2, .int (iI (sNum S i 3))), (3, .int (iI (sNum S i 7))), (4, .long (iL (ow))), (6, .int (iI (p))), (7, .long (iL (w))), (9, .int (iI (c)))] [.long (iL (tk))] := by
                        intro tk htk
                        refine gg_lstore k [(10, .long (iL (tk))), (0, .ref (gad B (0))), (1, .int (iI (i))), (2, .int (iI (sNum S i 3))), (3, .int (iI (sNum S i 7))), (4, .long (iL (ow))), (6, .int (iI (p))), (7, .long (iL (w))), (9, .int (iI (c)))] dX6_run_196 (by decide) rfl ?_
                        refine gg_aload_n k dX6_run_198 rfl ?_
                        refine gg_get k (mb0 hB) inX6_run_X6 11 (by decide) fX6_run_29 rfl rfl dX6_run_199 ?_
                        refine gg_iload k dX6_run_202 rfl ?_
                        refine gg_dup2 k dX6_run_204 rfl rfl ?_
                        refine gg_lald k (mb7 hB) (by omega) (by omega) dX6_run_205 ?_
                        refine gg_lload k dX6_run_206 rfl ?_
                        refine gg_lsub k dX6_run_208 ?_
                        refine gg_last k (mb7 hB) (by omega) (by omega) dX6_run_209 ?_
                        refine gg_nm (fun C209 e209 => ?_)
                        have hR : mRel S T C209 := by rw [e209]; exact hR.wri (Or.inl (by omega))
                        refine gg_lload k dX6_run_210 rfl ?_
                        refine gg_lload k dX6_run_212 rfl ?_
                        refine gg_lsub k dX6_run_214 ?_
                        refine gg_lstore k [(7, .long (iL (w - tk))), (10, .long (iL (tk))), (0, .ref (gad B (0))), (1, .int (iI (i))), (2, .int (iI (sNum S i 3))), (3, .int (iI (sNum S i 7))), (4, .long (iL (ow))), (6, .int (iI (p))), (9, .int (iI (c)))] dX6_run_215 (by decide) rfl ?_
                        refine gg_iinc k 8 [(9, .int (iI (c + 1))), (7, .long (iL (w - tk))), (10, .long (iL (tk))), (0, .ref (gad B (0))), (1, .int (iI (i))), (2, .int (iI (sNum S i 3))), (3, .int (iI (sNum S i 7))), (4, .long (iL (ow))), (6, .int (iI (p)))] dX6_run_217 rfl (by decide) rfl ?_
                        refine gg_goto (tgt := 164) k dX6_run_220 (by decide) ?_
                        refine gg_sub [3, 4, 5, 6, 7, 8, 1, 0] rfl ?_
                        exact ih164 (c + 1) (w - tk) (C209) (by omega) (by omega) (by rw [tkL_s hc0]; show _ = _ - _; rw [← hw, ← hxc, ← htk]) (fun j h0 h1 => by rw [e209, wr_w, tkL_s hc0]; show _ = upI _ _ _ j; by_cases hj : j = c; (· rw [if_pos hj, hj, upI_s, ← hw, ← hxc, ← htk]); (· rw [if_neg hj, upI_n hj]; exact h4l j h0 h1)) (fun q hq => by rw [e209, wr_k hq]; exact h4k q hq) (hR) (by omega)
                      refine gg_aload_n k dX6_run_171 rfl ?_
                      refine gg_get k (mb0 hB) inX6_run_X6 11 (by decide) fX6_run_29 rfl rfl dX6_run_172 ?_
                      refine gg_iload k dX6_run_175 rfl ?_
                      refine gg_lald k (mb7 hB) (by omega) (by omega) dX6_run_177 ?_
                      refine gg_lload k dX6_run_178 rfl ?_
                      refine gg_lt_ge k 194 dX6_run_180 dX6_run_181 (by decide) ⟨by omega, by omega⟩ ⟨by omega, by omega⟩ (fun c180 => ?_) (fun c180 => ?_)
                      · refine gg_lload k dX6_run_194 rfl ?_
                        exact J196 (w) (by omega)
                      · refine gg_aload_n k dX6_run_184 rfl ?_
                        refine gg_get k (mb0 hB) inX6_run_X6 11 (by decide) fX6_run_29 rfl rfl dX6_run_185 ?_
                        refine gg_iload k dX6_run_188 rfl ?_
                        refine gg_lald k (mb7 hB) (by omega) (by omega) dX6_run_190 ?_
                        refine gg_goto (tgt := 196) k dX6_run_191 (by decide) ?_
                        exact J196 (C4 (7) (c)) (by omega)
                refine gg_sub [2, 3, 4, 5, 6, 7, 1, 0] rfl ?_
                exact L164 ((p + 1 - 0).toNat + 1) (0) (ow + z154) (C3) (by omega) (by omega) (by show _ = mW0 S i p; unfold mW0; omega) (h3l) (fun _ _ => rfl) (hR) (by omega)
              refine gg_iload k dX6_run_118 rfl ?_
              refine gg_iload_n k dX6_run_120 rfl ?_
              refine gg_isub k dX6_run_121 ?_
              refine gg_iconst k dX6_run_122 ?_
              refine gg_icmp_lt k 148 dX6_run_123 (by decide) ⟨by omega, by omega⟩ ⟨by omega, by omega⟩ (fun c123 => ?_) (fun c123 => ?_)
              · exact J148 (C2) (fun j h0 h1 => by rw [hl j h0 h1]; unfold mL0 sCome; rw [if_neg (by omega)]; by_cases hj : j = p; (· rw [hj, upI_s]; exact sRun_z _ _ (by omega)); (· rw [upI_n hj])) (fun _ _ => rfl) (hR)
              · refine gg_aload_n k dX6_run_126 rfl ?_
                refine gg_get k (mb0 hB) inX6_run_X6 11 (by decide) fX6_run_29 rfl rfl dX6_run_127 ?_
                refine gg_iload k dX6_run_130 rfl ?_
                refine gg_aload_n k dX6_run_132 rfl ?_
                refine gg_get k (mb0 hB) inX6_run_X6 5 (by decide) fX6_run_16 rfl rfl dX6_run_133 ?_
                refine gg_bipush k dX6_run_136 (by decide +kernel) ?_
                refine gg_iload_n k dX6_run_138 rfl ?_
                refine gg_imul k dX6_run_139 ?_
                refine gg_iload k dX6_run_140 rfl ?_
                refine gg_iadd k dX6_run_142 ?_
                refine gg_iload_n k dX6_run_143 rfl ?_
                refine gg_isub k dX6_run_144 ?_
                refine gg_iald k (mb3 hB) (by omega) (by omega) dX6_run_145 ?_
                refine gg_ti (hR.lot (i := i) (p := p - (sNum S i 7)) (by omega) (by omega) (by omega) (by omega) (by omega)) ?_
                have bd145 := hO.lot (i) (p - (sNum S i 7))
                refine gg_i2l k dX6_run_146 ⟨by omega, by omega⟩ ?_
                refine gg_last k (mb7 hB) (by omega) (by omega) dX6_run_147 ?_
                refine gg_nm (fun C147 e147 => ?_)
                have hR : mRel S T C147 := by rw [e147]; exact hR.wri (Or.inl (by omega))
                exact J148 (C147) (fun j h0 h1 => by rw [e147, wr_w]; unfold mL0 sCome; rw [if_pos (show 1 ≤ p - sNum S i 7 by omega)]; by_cases hj : j = p; (· rw [if_pos hj, hj, upI_s]); (· rw [if_neg hj, upI_n hj]; exact hl j h0 h1)) (fun q hq => by rw [e147, wr_k hq]) (hR)
        refine gg_sub [2, 3, 4, 5, 1, 0] rfl ?_
        exact L109 ((T + 1 - 1).toNat + 1) (1) (0) (C102) (by omega) (by omega) (rfl) (hR) (fun j h0 h1 => by rw [e102, wr_k (by omega), e90, wr_w, (hz j h0 (by omega)).1]; rfl) (by
          refine ⟨fun j h0 h1 => ?_, fun j h0 h1 => by omega⟩
          rw [show j = 0 by omega, e102, wr_s, wr_k (by omega), e90, wr_k (by omega), (hz 0 (by omega) (by omega)).2.1]
          exact ⟨by simp [sRun, smL], rfl⟩) (fun j h0 h1 => by rw [e102, wr_k (by omega), wr_j (by omega), e90, wr_k (by omega), wr_k (by omega)]; exact (hz j (by omega) (by omega)).2.2) (fun q h1 h2 h3 h4 => by rw [e102, wr_k h4, e90, wr_k h1]; exact hk q h1 h2 h3 h4) (by omega)
      · refine gg_aload_n k dX6_run_35 rfl ?_
        refine gg_get k (mb0 hB) inX6_run_X6 11 (by decide) fX6_run_29 rfl rfl dX6_run_36 ?_
        refine gg_iload k dX6_run_39 rfl ?_
        refine gg_lconst0 k dX6_run_41 ?_
        refine gg_last k (mb7 hB) (by omega) (by omega) dX6_run_42 ?_
        refine gg_nm (fun C42 e42 => ?_)
        have hR : mRel S T C42 := by rw [e42]; exact hR.wri (Or.inl (by omega))
        refine gg_aload_n k dX6_run_43 rfl ?_
        refine gg_get k (mb0 hB) inX6_run_X6 12 (by decide) fX6_run_33 rfl rfl dX6_run_44 ?_
        refine gg_iload k dX6_run_47 rfl ?_
        refine gg_lconst0 k dX6_run_49 ?_
        refine gg_last k (mb8 hB) (by omega) (by omega) dX6_run_50 ?_
        refine gg_nm (fun C50 e50 => ?_)
        have hR : mRel S T C50 := by rw [e50]; exact hR.wri (Or.inl (by omega))
        refine gg_aload_n k dX6_run_51 rfl ?_
        refine gg_get k (mb0 hB) inX6_run_X6 13 (by decide) fX6_run_36 rfl rfl dX6_run_52 ?_
        refine gg_iload k dX6_run_55 rfl ?_
        refine gg_lconst0 k dX6_run_57 ?_
        refine gg_last k (mb9 hB) (by omega) (by omega) dX6_run_58 ?_
        refine gg_nm (fun C58 e58 => ?_)
        have hR : mRel S T C58 := by rw [e58]; exact hR.wri (Or.inl (by omega))
        refine gg_aload_n k dX6_run_59 rfl ?_
        refine gg_get k (mb0 hB) inX6_run_X6 14 (by decide) fX6_run_39 rfl rfl dX6_run_60 ?_
        refine gg_iload k dX6_run_63 rfl ?_
        refine gg_lconst0 k dX6_run_65 ?_
        refine gg_last k (mb10 hB) (by omega) (by omega) dX6_run_66 ?_
        refine gg_nm (fun C66 e66 => ?_)
        have hR : mRel S T C66 := by rw [e66]; exact hR.wri (Or.inl (by omega))
        refine gg_iinc k 4 [(4, .int (iI (c + 1))), (0, .ref (gad B (0))), (1, .int (iI (i))), (2, .int (iI (sNum S i 3))), (3, .int (iI (sNum S i 7)))] dX6_run_67 rfl (by decide) rfl ?_
        refine gg_goto (tgt := 28) k dX6_run_70 (by decide) ?_
        refine gg_sub [1, 2, 3, 4, 0] rfl ?_
        exact ih28 (c + 1) (C66) (by omega) (by omega) (hR) (fun j h0 h1 => by
          rw [e66, wr_k (by omega), wr_k (by omega), wr_k (by omega), wr_w, e58, wr_k (by omega), wr_k (by omega), wr_w, wr_k (by omega), e50, wr_k (by omega), wr_w, wr_k (by omega), wr_k (by omega), e42, wr_w, wr_k (by omega), wr_k (by omega), wr_k (by omega)]
          by_cases hj : j = c
          · rw [if_pos hj, if_pos hj, if_pos hj, if_pos hj]; exact ⟨rfl, rfl, rfl, rfl⟩
          · rw [if_neg hj, if_neg hj, if_neg hj, if_neg hj]; exact hz j h0 (by omega)) (fun q h1 h2 h3 h4 => by rw [e66, wr_k h4, e58, wr_k h3, e50, wr_k h2, e42, wr_k h1]; exact hk q h1 h2 h3 h4) (by omega)
  refine gg_sub [3, 4, 2, 1, 0] rfl ?_
  exact L28 (((13 : Int) - 0).toNat + 1) (0) (C) (by omega) (by omega) (hR) (fun j h0 h1 => by omega) (fun _ _ _ _ _ => rfl) (by omega)

abbrev rX6_stock : Room := { frames := 2, cells := 0, slots := 0, locals := 55 }
set_option maxRecDepth 100000 in
set_option maxHeartbeats 4000000 in
theorem kX6_stock {l : Launch} {B : gB} {T : Int} {S : sS} {C : gSt} (hB : mdlB B T) (hO : sOk S T) (hR : mRel S T C) (i p : Int) (hi : rI i) (hp : rI p) : gMl l B yX6_stock wsX6_stock rX6_stock [.ref (gad B (0)), .int (iI (i)), .int (iI (p))] C (fun z C' => mRel S T C' ∧ z = if (0 ≤ i ∧ i < sCnt S) ∧ 0 ≤ p ∧ p ≤ T then sStk S i p.toNat else -9223372036854775808) := by
  refine gMl_of (cc := cX6_stock) (nL := 3) (by decide) rfl (Nat.le_of_ble_eq_true rfl) (fun K k hret => ?_)
  have k : gOk K B l rX6_stock 3 cX6_stock RX6 wsX6_stock := k
  show GG K B C 0 [(0, .ref (gad B (0))), (1, .int (iI (i))), (2, .int (iI (p)))] []
  have hT := hO.t
  have hc := hO.cnt
  obtain ⟨hi1, hi2⟩ := hi
  obtain ⟨hp1, hp2⟩ := hp
  refine gg_aload_n k dX6_stock_0 rfl ?_
  refine gg_iconst k dX6_stock_1 ?_
  refine gg_put (e := 0) k (mb0 hB) inX6_stock_X6 tyX6 tyX6_ok nmX6 0 (by decide) fX6_stock_73 rfl rfl rfl (Nat.le_of_ble_eq_true rfl) rfl dX6_stock_2 ?_
  refine gg_nm (fun C2 e2 => ?_)
  have hR : mRel S T C2 := by rw [e2]; exact hR.wri (Or.inr ⟨rfl, by omega, by omega, by omega⟩)
  refine gg_aload_n k dX6_stock_5 rfl ?_
  refine gg_iload_n k dX6_stock_6 rfl ?_
  refine gg_calli (n := 1) (As := [.int (iI (i))]) (rest := []) k (kX6_isItem hB hO hR (i) ⟨by omega, by omega⟩) ⟨_, _, _, gX6_stock_X6_isItem, rfl, rfl, rfl, by decide +kernel, by decide, by decide⟩ (mb0 hB) rfl rfl (Nat.le_of_ble_eq_true rfl) dX6_stock_7 (fun z7 C7 r7 q7 => ?_)
  obtain ⟨q7, e7⟩ := q7
  rw [e7]
  clear e7
  obtain ⟨r7, s7⟩ := r7
  refine gg_if_eq k 25 dX6_stock_10 (by decide) ⟨by omega, by omega⟩ (fun c10 => ?_) (fun c10 => ?_)
  · refine gg_ldc2 (z := -9223372036854775808) k dX6_stock_25 (by decide +kernel) ?_
    exact hret _ _ _ _ dX6_stock_28 (⟨by omega, by omega⟩) (⟨hR, by rw [if_neg (by omega)]⟩)
  · refine gg_iload_n k dX6_stock_13 rfl ?_
    refine gg_iconst k dX6_stock_14 ?_
    refine gg_aload_n k dX6_stock_15 rfl ?_
    refine gg_get k (mb0 hB) inX6_stock_X6 1 (by decide) fX6_stock_69 rfl rfl dX6_stock_16 ?_
    refine gg_callsi (n := 3) (As := [.int (iI (p)), .int (iI (0)), .int (iI (T))]) (rest := []) k (kX6_in (p) (0) (T) ⟨by omega, by omega⟩ ⟨by omega, by omega⟩ ⟨by omega, by omega⟩) ⟨_, _, _, gX6_stock_X6_in, rfl, rfl, rfl, by decide +kernel, by decide, by decide⟩ rfl rfl (Nat.le_of_ble_eq_true rfl) dX6_stock_19 (fun z19 C19 r19 q19 => ?_)
    obtain ⟨q19, e19⟩ := q19
    rw [e19]
    clear e19
    obtain ⟨r19, s19⟩ := r19
    refine gg_if_ne k 29 dX6_stock_22 (by decide) ⟨by omega, by omega⟩ (fun c22 => ?_) (fun c22 => ?_)
    · refine gg_aload_n k dX6_stock_29 rfl ?_
      refine gg_iload_n k dX6_stock_30 rfl ?_
      refine gg_callv (n := 1) (As := [.int (iI (i))]) (rest := []) k (kX6_run hB hO hR (i := i) (by omega) (by omega)) ⟨_, _, _, gX6_stock_X6_run, rfl, rfl, rfl, by decide +kernel, by decide, by decide⟩ (mb0 hB) rfl rfl (Nat.le_of_ble_eq_true rfl) dX6_stock_31 (fun C31 q31 => ?_)
      obtain ⟨hR, hr31, hk31⟩ := q31
      refine gg_aload_n k dX6_stock_34 rfl ?_
      refine gg_get k (mb0 hB) inX6_stock_X6 14 (by decide) fX6_stock_39 rfl rfl dX6_stock_35 ?_
      refine gg_iload_n k dX6_stock_38 rfl ?_
      refine gg_lald k (mb10 hB) (by omega) (by omega) dX6_stock_39 ?_
      refine gg_tl ((hr31.1 p (by omega) (by omega)).1) ?_
      refine gg_aload_n k dX6_stock_40 rfl ?_
      refine gg_get k (mb0 hB) inX6_stock_X6 12 (by decide) fX6_stock_33 rfl rfl dX6_stock_41 ?_
      refine gg_iload_n k dX6_stock_44 rfl ?_
      refine gg_lald k (mb8 hB) (by omega) (by omega) dX6_stock_45 ?_
      refine gg_tl ((hr31.1 p (by omega) (by omega)).2) ?_
      refine gg_lsub k dX6_stock_46 ?_
      refine gg_tl (show _ = sStk S i p.toNat from rfl) ?_
      have hb9 := sStk_b hO i p.toNat (by omega)
      exact hret _ _ _ _ dX6_stock_47 (⟨by omega, by omega⟩) (⟨hR, by rw [if_pos (by omega)]⟩)
    · refine gg_ldc2 (z := -9223372036854775808) k dX6_stock_25 (by decide +kernel) ?_
      exact hret _ _ _ _ dX6_stock_28 (⟨by omega, by omega⟩) (⟨hR, by rw [if_neg (by omega)]⟩)

abbrev rX6_spoilt : Room := { frames := 2, cells := 0, slots := 0, locals := 55 }
set_option maxRecDepth 100000 in
set_option maxHeartbeats 4000000 in
theorem kX6_spoilt {l : Launch} {B : gB} {T : Int} {S : sS} {C : gSt} (hB : mdlB B T) (hO : sOk S T) (hR : mRel S T C) (i p : Int) (hi : rI i) (hp : rI p) : gMi l B yX6_spoilt wsX6_spoilt rX6_spoilt [.ref (gad B (0)), .int (iI (i)), .int (iI (p))] C (fun z C' => mRel S T C' ∧ z = if (0 ≤ i ∧ i < sCnt S) ∧ 1 ≤ p ∧ p ≤ T then sGone S i (p - 1).toNat else -1) := by
  refine gMi_of (ty := .int) rfl (cc := cX6_spoilt) (nL := 3) (by decide) rfl (Nat.le_of_ble_eq_true rfl) (fun K k hret => ?_)
  have k : gOk K B l rX6_spoilt 3 cX6_spoilt RX6 wsX6_spoilt := k
  show GG K B C 0 [(0, .ref (gad B (0))), (1, .int (iI (i))), (2, .int (iI (p)))] []
  have hT := hO.t
  have hc := hO.cnt
  obtain ⟨hi1, hi2⟩ := hi
  obtain ⟨hp1, hp2⟩ := hp
  refine gg_aload_n k dX6_spoilt_0 rfl ?_
  refine gg_iconst k dX6_spoilt_1 ?_
  refine gg_put (e := 0) k (mb0 hB) inX6_spoilt_X6 tyX6 tyX6_ok nmX6 0 (by decide) fX6_spoilt_73 rfl rfl rfl (Nat.le_of_ble_eq_true rfl) rfl dX6_spoilt_2 ?_
  refine gg_nm (fun C2 e2 => ?_)
  have hR : mRel S T C2 := by rw [e2]; exact hR.wri (Or.inr ⟨rfl, by omega, by omega, by omega⟩)
  refine gg_aload_n k dX6_spoilt_5 rfl ?_
  refine gg_iload_n k dX6_spoilt_6 rfl ?_
  refine gg_calli (n := 1) (As := [.int (iI (i))]) (rest := []) k (kX6_isItem hB hO hR (i) ⟨by omega, by omega⟩) ⟨_, _, _, gX6_spoilt_X6_isItem, rfl, rfl, rfl, by decide +kernel, by decide, by decide⟩ (mb0 hB) rfl rfl (Nat.le_of_ble_eq_true rfl) dX6_spoilt_7 (fun z7 C7 r7 q7 => ?_)
  obtain ⟨q7, e7⟩ := q7
  rw [e7]
  clear e7
  obtain ⟨r7, s7⟩ := r7
  refine gg_if_eq k 21 dX6_spoilt_10 (by decide) ⟨by omega, by omega⟩ (fun c10 => ?_) (fun c10 => ?_)
  · refine gg_iconst k dX6_spoilt_21 ?_
    exact hret _ _ _ _ dX6_spoilt_22 (⟨by omega, by omega⟩) (⟨hR, by rw [if_neg (by omega)]⟩)
  · refine gg_aload_n k dX6_spoilt_13 rfl ?_
    refine gg_iload_n k dX6_spoilt_14 rfl ?_
    refine gg_calli (n := 1) (As := [.int (iI (p))]) (rest := []) k (kX6_isPeriod hB hO hR (p) ⟨by omega, by omega⟩) ⟨_, _, _, gX6_spoilt_X6_isPeriod, rfl, rfl, rfl, by decide +kernel, by decide, by decide⟩ (mb0 hB) rfl rfl (Nat.le_of_ble_eq_true rfl) dX6_spoilt_15 (fun z15 C15 r15 q15 => ?_)
    obtain ⟨q15, e15⟩ := q15
    rw [e15]
    clear e15
    obtain ⟨r15, s15⟩ := r15
    refine gg_if_ne k 23 dX6_spoilt_18 (by decide) ⟨by omega, by omega⟩ (fun c18 => ?_) (fun c18 => ?_)
    · refine gg_aload_n k dX6_spoilt_23 rfl ?_
      refine gg_iload_n k dX6_spoilt_24 rfl ?_
      refine gg_callv (n := 1) (As := [.int (iI (i))]) (rest := []) k (kX6_run hB hO hR (i := i) (by omega) (by omega)) ⟨_, _, _, gX6_spoilt_X6_run, rfl, rfl, rfl, by decide +kernel, by decide, by decide⟩ (mb0 hB) rfl rfl (Nat.le_of_ble_eq_true rfl) dX6_spoilt_25 (fun C25 q25 => ?_)
      obtain ⟨hR, hr25, hk25⟩ := q25
      refine gg_aload_n k dX6_spoilt_28 rfl ?_
      refine gg_get k (mb0 hB) inX6_spoilt_X6 13 (by decide) fX6_spoilt_36 rfl rfl dX6_spoilt_29 ?_
      refine gg_iload_n k dX6_spoilt_32 rfl ?_
      refine gg_lald k (mb9 hB) (by omega) (by omega) dX6_spoilt_33 ?_
      refine gg_tl (hr25.2 p (by omega) (by omega)) ?_
      have hb9 := sGone_b hO i (p - 1).toNat
      refine gg_l2i k dX6_spoilt_34 ?_
      exact hret _ _ _ _ dX6_spoilt_35 (⟨by omega, by omega⟩) (⟨hR, by rw [if_pos (by omega)]⟩)
    · refine gg_iconst k dX6_spoilt_21 ?_
      exact hret _ _ _ _ dX6_spoilt_22 (⟨by omega, by omega⟩) (⟨hR, by rw [if_neg (by omega)]⟩)
