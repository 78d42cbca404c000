abbrev rX6_isWithin : Room := { frames := 0, cells := 0, slots := 0, locals := 0 }
set_option maxRecDepth 100000 in
set_option maxHeartbeats 4000000 in
theorem kX6_isWithin {l : Launch} {B : gB} {T : Int} {S : sS} {C : gSt} (hB : mdlB B T) (hO : sOk S T) (hR : mRel S T C) (x g : Int) (hx0 : 0 ≤ x) (hx1 : x < sCnt S) (hg0 : 0 ≤ g) (hg1 : g < sCnt S) : gMi l B yX6_isWithin wsX6_isWithin rX6_isWithin [.ref (gad B (0)), .int (iI (x)), .int (iI (g))] C (fun z C' => ((z = 1 ∧ sRing S x g = true) ∨ (z = 0 ∧ sRing S x g = false)) ∧ mRel S T C' ∧ ∀ q : Nat, q ≠ 6 → C' q = C q) := by
  refine gMz_of (cc := cX6_isWithin) (nL := 6) (by decide) rfl (Nat.le_of_ble_eq_true rfl) (fun z C' h => by omega) (fun K k hret => ?_)
  have k : gOk K B l rX6_isWithin 6 cX6_isWithin RX6 wsX6_isWithin := k
  show GG K B C 0 [(0, .ref (gad B (0))), (1, .int (iI (x))), (2, .int (iI (g)))] []
  have hT := hO.t
  have hc := hO.cnt
  
  refine gg_iconst k dX6_isWithin_0 ?_
  refine gg_istore_n k [(3, .int (iI (0))), (0, .ref (gad B (0))), (1, .int (iI (x))), (2, .int (iI (g)))] dX6_isWithin_1 (by decide) rfl ?_
  have L2 : ∀ (n2 : Nat) (c : Int) (C1 : gSt), (0 ≤ c) → (c ≤ 6) → (mRel S T C1) → ((∀ j : Int, 0 ≤ j → j < c → C1 6 j = bi (decide (j = x)))) → ((∀ q : Nat, q ≠ 6 → C1 q = C q)) → 6 - c < (n2 : Int) → GG K B C1 2 [(0, .ref (gad B (0))), (1, .int (iI (x))), (2, .int (iI (g))), (3, .int (iI (c)))] [] := by
    intro n2
    induction n2 with
    | zero =>
      intro c C1 hc0 hc1 hR h1 hk1 hn2
      exact absurd hn2 (by omega)
    | succ n2 ih2 =>
      intro c C1 hc0 hc1 hR h1 hk1 hn2
      refine gg_iload_n k dX6_isWithin_2 rfl ?_
      refine gg_bipush k dX6_isWithin_3 (by decide +kernel) ?_
      refine gg_icmp_ge k 30 dX6_isWithin_5 (by decide) ⟨by omega, by omega⟩ ⟨by omega, by omega⟩ (fun c5 => ?_) (fun c5 => ?_)
      · refine gg_iconst k dX6_isWithin_30 ?_
        refine gg_istore_n k [(3, .int (iI (0))), (0, .ref (gad B (0))), (1, .int (iI (x))), (2, .int (iI (g)))] dX6_isWithin_31 (by decide) rfl ?_
        have L32 : ∀ (n32 : Nat) (r : Int) (C2 : gSt), (0 ≤ r) → (r ≤ sCnt S) → (mRel S T C2) → ((∀ y : Int, 0 ≤ y → y < 6 → C2 6 y = bi ((rcR S x r.toNat) y))) → ((∀ q : Nat, q ≠ 6 → C2 q = C q)) → sCnt S - r < (n32 : Int) → GG K B C2 32 [(0, .ref (gad B (0))), (1, .int (iI (x))), (2, .int (iI (g))), (3, .int (iI (r)))] [] := by
          intro n32
          induction n32 with
          | zero =>
            intro r C2 hr0 hr1 hR h2 hk2 hn32
            exact absurd hn32 (by omega)
          | succ n32 ih32 =>
            intro r C2 hr0 hr1 hR h2 hk2 hn32
            refine gg_iload_n k dX6_isWithin_32 rfl ?_
            refine gg_aload_n k dX6_isWithin_33 rfl ?_
            refine gg_get k (mb0 hB) inX6_isWithin_X6 2 (by decide) fX6_isWithin_76 rfl rfl dX6_isWithin_34 ?_
            refine gg_ti hR.cnt ?_
            refine gg_icmp_ge k 130 dX6_isWithin_37 (by decide) ⟨by omega, by omega⟩ ⟨by omega, by omega⟩ (fun c37 => ?_) (fun c37 => ?_)
            · refine gg_aload_n k dX6_isWithin_130 rfl ?_
              refine gg_get k (mb0 hB) inX6_isWithin_X6 10 (by decide) fX6_isWithin_25 rfl rfl dX6_isWithin_131 ?_
              refine gg_iload_n k dX6_isWithin_134 rfl ?_
              refine gg_zald k (mb6 hB) (by omega) (by omega) dX6_isWithin_135 ?_
              refine gg_ti (h2 g (by omega) (by omega)) ?_
              have bb135 := bi_01 ((rcR S x r.toNat) g)
              exact hret _ _ _ _ dX6_isWithin_136 (⟨by omega, by omega⟩) (⟨by unfold sRing; rw [← show r = sCnt S by omega]; cases hq : rcR S x r.toNat g; (· exact Or.inr ⟨rfl, rfl⟩); (· exact Or.inl ⟨rfl, rfl⟩), hR, hk2⟩)
            · refine gg_iconst k dX6_isWithin_40 ?_
              refine gg_istore k [(4, .int (iI (0))), (0, .ref (gad B (0))), (1, .int (iI (x))), (2, .int (iI (g))), (3, .int (iI (r)))] dX6_isWithin_41 (by decide) rfl ?_
              have L43 : ∀ (n43 : Nat) (a : Int) (C3 : gSt), (0 ≤ a) → (a ≤ sCnt S) → (mRel S T C3) → ((∀ y : Int, 0 ≤ y → y < 6 → C3 6 y = bi ((rcA S (rcR S x r.toNat) a.toNat) y))) → ((∀ q : Nat, q ≠ 6 → C3 q = C q)) → sCnt S - a < (n43 : Int) → GG K B C3 43 [(0, .ref (gad B (0))), (1, .int (iI (x))), (2, .int (iI (g))), (3, .int (iI (r))), (4, .int (iI (a)))] [] := by
                intro n43
                induction n43 with
                | zero =>
                  intro a C3 ha0 ha1 hR h3 hk3 hn43
                  exact absurd hn43 (by omega)
                | succ n43 ih43 =>
                  intro a C3 ha0 ha1 hR h3 hk3 hn43
                  refine gg_iload k dX6_isWithin_43 rfl ?_
                  refine gg_aload_n k dX6_isWithin_45 rfl ?_
                  refine gg_get k (mb0 hB) inX6_isWithin_X6 2 (by decide) fX6_isWithin_76 rfl rfl dX6_isWithin_46 ?_
                  refine gg_ti hR.cnt ?_
                  refine gg_icmp_ge k 124 dX6_isWithin_49 (by decide) ⟨by omega, by omega⟩ ⟨by omega, by omega⟩ (fun c49 => ?_) (fun c49 => ?_)
                  · refine gg_iinc k 3 [(3, .int (iI (r + 1))), (0, .ref (gad B (0))), (1, .int (iI (x))), (2, .int (iI (g))), (4, .int (iI (a)))] dX6_isWithin_124 rfl (by decide) rfl ?_
                    refine gg_goto (tgt := 32) k dX6_isWithin_127 (by decide) ?_
                    refine gg_sub [1, 2, 3, 0] rfl ?_
                    exact ih32 (r + 1) (C3) (by omega) (by omega) (hR) (fun y h0 h1 => by rw [rcR_s hr0, ← show a = sCnt S by omega]; exact h3 y h0 h1) (hk3) (by omega)
                  · refine gg_iconst k dX6_isWithin_52 ?_
                    refine gg_istore k [(5, .int (iI (0))), (0, .ref (gad B (0))), (1, .int (iI (x))), (2, .int (iI (g))), (3, .int (iI (r))), (4, .int (iI (a)))] dX6_isWithin_53 (by decide) rfl ?_
                    have L55 : ∀ (n55 : Nat) (b : Int) (C4 : gSt), (0 ≤ b) → (b ≤ sCnt S) → (mRel S T C4) → ((∀ y : Int, 0 ≤ y → y < b → C4 6 y = bi ((rcA S (rcR S x r.toNat) (a + 1).toNat) y))) → ((∀ y : Int, b ≤ y → y < 6 → C4 6 y = bi ((rcA S (rcR S x r.toNat) a.toNat) y))) → ((∀ q : Nat, q ≠ 6 → C4 q = C q)) → sCnt S - b < (n55 : Int) → GG K B C4 55 [(0, .ref (gad B (0))), (1, .int (iI (x))), (2, .int (iI (g))), (3, .int (iI (r))), (4, .int (iI (a))), (5, .int (iI (b)))] [] := by
                      intro n55
                      induction n55 with
                      | zero =>
                        intro b C4 hb0 hb1 hR h4a h4b hk4 hn55
                        exact absurd hn55 (by omega)
                      | succ n55 ih55 =>
                        intro b C4 hb0 hb1 hR h4a h4b hk4 hn55
                        refine gg_iload k dX6_isWithin_55 rfl ?_
                        refine gg_aload_n k dX6_isWithin_57 rfl ?_
                        refine gg_get k (mb0 hB) inX6_isWithin_X6 2 (by decide) fX6_isWithin_76 rfl rfl dX6_isWithin_58 ?_
                        refine gg_ti hR.cnt ?_
                        refine gg_icmp_ge k 118 dX6_isWithin_61 (by decide) ⟨by omega, by omega⟩ ⟨by omega, by omega⟩ (fun c61 => ?_) (fun c61 => ?_)
                        · refine gg_iinc k 4 [(4, .int (iI (a + 1))), (0, .ref (gad B (0))), (1, .int (iI (x))), (2, .int (iI (g))), (3, .int (iI (r))), (5, .int (iI (b)))] dX6_isWithin_118 rfl (by decide) rfl ?_
                          refine gg_goto (tgt := 43) k dX6_isWithin_121 (by decide) ?_
                          refine gg_sub [1, 2, 3, 4, 0] rfl ?_
                          exact ih43 (a + 1) (C4) (by omega) (by omega) (hR) (fun y h0 h1 => by by_cases hy : y < b; (· exact h4a y h0 hy); (· rw [rcA_out hO ha0 (by omega)]; exact h4b y (by omega) h1)) (hk4) (by omega)
                        · refine gg_aload_n k dX6_isWithin_64 rfl ?_
                          refine gg_get k (mb0 hB) inX6_isWithin_X6 10 (by decide) fX6_isWithin_25 rfl rfl dX6_isWithin_65 ?_
                          refine gg_iload k dX6_isWithin_68 rfl ?_
                          have J111 : ∀ (z : Int), (z = bi ((rcA S (rcR S x r.toNat) (a + 1).toNat) b)) → (z = 0 ∨ z = 1) → GG K B C4 111 [(0, .ref (gad B (0))), (1, .int (iI (x))), (2, .int (iI (g))), (3, .int (iI (r))), (4, .int (iI (a))), (5, .int (iI (b)))] [.int (iI (z)), .int (iI (b)), .ref (gad B (6))] := by
                            intro z hz hz01
                            refine gg_zast k (mb6 hB) (by omega) (by omega) (hz01) dX6_isWithin_111 ?_
                            refine gg_nm (fun C111 e111 => ?_)
                            have hR : mRel S T C111 := by rw [e111]; exact hR.wri (Or.inl (by omega))
                            refine gg_iinc k 5 [(5, .int (iI (b + 1))), (0, .ref (gad B (0))), (1, .int (iI (x))), (2, .int (iI (g))), (3, .int (iI (r))), (4, .int (iI (a)))] dX6_isWithin_112 rfl (by decide) rfl ?_
                            refine gg_goto (tgt := 55) k dX6_isWithin_115 (by decide) ?_
                            refine gg_sub [1, 2, 3, 4, 5, 0] rfl ?_
                            exact ih55 (b + 1) (C111) (by omega) (by omega) (hR) (fun y h0 h1 => by rw [e111, wr_w]; by_cases hy : y = b; (· rw [if_pos hy, hy]; exact hz); (· rw [if_neg hy]; exact h4a y h0 (by omega))) (fun y h0 h1 => by rw [e111, wr_j (by omega)]; exact h4b y (by omega) h1) (fun q hq => by rw [e111, wr_k hq]; exact hk4 q hq) (by omega)
                          refine gg_aload_n k dX6_isWithin_70 rfl ?_
                          refine gg_get k (mb0 hB) inX6_isWithin_X6 10 (by decide) fX6_isWithin_25 rfl rfl dX6_isWithin_71 ?_
                          refine gg_iload k dX6_isWithin_74 rfl ?_
                          refine gg_zald k (mb6 hB) (by omega) (by omega) dX6_isWithin_76 ?_
                          refine gg_ti (h4b b (by omega) (by omega)) ?_
                          have bb76 := bi_01 ((rcA S (rcR S x r.toNat) a.toNat) b)
                          refine gg_if_ne k 106 dX6_isWithin_77 (by decide) ⟨by omega, by omega⟩ (fun c77 => ?_) (fun c77 => ?_)
                          · refine gg_iconst k dX6_isWithin_106 ?_
                            refine gg_goto (tgt := 111) k dX6_isWithin_107 (by decide) ?_
                            exact J111 (1) (by rw [rcA_s ha0, bi_t c77]; rfl) (by omega)
                          · refine gg_aload_n k dX6_isWithin_80 rfl ?_
                            refine gg_get k (mb0 hB) inX6_isWithin_X6 10 (by decide) fX6_isWithin_25 rfl rfl dX6_isWithin_81 ?_
                            refine gg_iload k dX6_isWithin_84 rfl ?_
                            refine gg_zald k (mb6 hB) (by omega) (by omega) dX6_isWithin_86 ?_
                            refine gg_ti (show C4 6 a = bi ((rcA S (rcR S x r.toNat) a.toNat) a) by by_cases hy : a < b; (· rw [h4a a ha0 hy, rcA_self ha0]); (· exact h4b a (by omega) (by omega))) ?_
                            have bb86 := bi_01 ((rcA S (rcR S x r.toNat) a.toNat) a)
                            refine gg_if_eq k 110 dX6_isWithin_87 (by decide) ⟨by omega, by omega⟩ (fun c87 => ?_) (fun c87 => ?_)
                            · refine gg_iconst k dX6_isWithin_110 ?_
                              exact J111 (0) (by rw [rcA_s ha0, bi_f c77, bi_f c87]; rfl) (by omega)
                            · refine gg_aload_n k dX6_isWithin_90 rfl ?_
                              refine gg_get k (mb0 hB) inX6_isWithin_X6 6 (by decide) fX6_isWithin_19 rfl rfl dX6_isWithin_91 ?_
                              refine gg_bipush k dX6_isWithin_94 (by decide +kernel) ?_
                              refine gg_iload k dX6_isWithin_96 rfl ?_
                              refine gg_imul k dX6_isWithin_98 ?_
                              refine gg_iload k dX6_isWithin_99 rfl ?_
                              refine gg_iadd k dX6_isWithin_101 ?_
                              refine gg_iald k (mb4 hB) (by omega) (by omega) dX6_isWithin_102 ?_
                              refine gg_ti (hR.tim (i := a) (j := b) (by omega) (by omega) (by omega) (by omega) (by omega)) ?_
                              have bd102 := hO.tim (a) (b)
                              refine gg_if_le k 110 dX6_isWithin_103 (by decide) ⟨by omega, by omega⟩ (fun c103 => ?_) (fun c103 => ?_)
                              · refine gg_iconst k dX6_isWithin_110 ?_
                                exact J111 (0) (by rw [rcA_s ha0, bi_f c77, bi_t c87, decide_eq_false (show ¬ 0 < sTim S a b by omega)]; rfl) (by omega)
                              · refine gg_iconst k dX6_isWithin_106 ?_
                                refine gg_goto (tgt := 111) k dX6_isWithin_107 (by decide) ?_
                                exact J111 (1) (by rw [rcA_s ha0, bi_f c77, bi_t c87, decide_eq_true (show 0 < sTim S a b by omega)]; rfl) (by omega)
                    refine gg_sub [1, 2, 3, 4, 5, 0] rfl ?_
                    exact L55 ((sCnt S - 0).toNat + 1) (0) (C3) (by omega) (by omega) (hR) (fun y h0 h1 => by omega) (fun y h0 h1 => h3 y (by omega) h1) (hk3) (by omega)
              refine gg_sub [1, 2, 3, 4, 0] rfl ?_
              exact L43 ((sCnt S - 0).toNat + 1) (0) (C2) (by omega) (by omega) (hR) (h2) (hk2) (by omega)
        refine gg_sub [1, 2, 3, 0] rfl ?_
        exact L32 ((sCnt S - 0).toNat + 1) (0) (C1) (by omega) (by omega) (hR) (fun y h0 h3 => h1 y h0 (by omega)) (hk1) (by omega)
      · refine gg_aload_n k dX6_isWithin_8 rfl ?_
        refine gg_get k (mb0 hB) inX6_isWithin_X6 10 (by decide) fX6_isWithin_25 rfl rfl dX6_isWithin_9 ?_
        refine gg_iload_n k dX6_isWithin_12 rfl ?_
        refine gg_iload_n k dX6_isWithin_13 rfl ?_
        refine gg_iload_n k dX6_isWithin_14 rfl ?_
        refine gg_icmp_ne k 22 dX6_isWithin_15 (by decide) ⟨by omega, by omega⟩ ⟨by omega, by omega⟩ (fun c15 => ?_) (fun c15 => ?_)
        · refine gg_iconst k dX6_isWithin_22 ?_
          refine gg_zast k (mb6 hB) (by omega) (by omega) (by omega) dX6_isWithin_23 ?_
          refine gg_nm (fun C23 e23 => ?_)
          have hR : mRel S T C23 := by rw [e23]; exact hR.wri (Or.inl (by omega))
          refine gg_iinc k 3 [(3, .int (iI (c + 1))), (0, .ref (gad B (0))), (1, .int (iI (x))), (2, .int (iI (g)))] dX6_isWithin_24 rfl (by decide) rfl ?_
          refine gg_goto (tgt := 2) k dX6_isWithin_27 (by decide) ?_
          refine gg_sub [1, 2, 3, 0] rfl ?_
          exact ih2 (c + 1) (C23) (by omega) (by omega) (hR) (fun j h0 h2 => by rw [e23, wr_w]; by_cases hj : j = c; (· rw [if_pos hj, hj, decide_eq_false (show ¬ c = x by omega)]; rfl); (· rw [if_neg hj]; exact h1 j h0 (by omega))) (fun q hq => by rw [e23, wr_k hq]; exact hk1 q hq) (by omega)
        · refine gg_iconst k dX6_isWithin_18 ?_
          refine gg_goto (tgt := 23) k dX6_isWithin_19 (by decide) ?_
          refine gg_zast k (mb6 hB) (by omega) (by omega) (by omega) dX6_isWithin_23 ?_
          refine gg_nm (fun C23 e23 => ?_)
          have hR : mRel S T C23 := by rw [e23]; exact hR.wri (Or.inl (by omega))
          refine gg_iinc k 3 [(3, .int (iI (c + 1))), (0, .ref (gad B (0))), (1, .int (iI (x))), (2, .int (iI (g)))] dX6_isWithin_24 rfl (by decide) rfl ?_
          refine gg_goto (tgt := 2) k dX6_isWithin_27 (by decide) ?_
          refine gg_sub [1, 2, 3, 0] rfl ?_
          exact ih2 (c + 1) (C23) (by omega) (by omega) (hR) (fun j h0 h2 => by rw [e23, wr_w]; by_cases hj : j = c; (· rw [if_pos hj, hj, decide_eq_true (show c = x by omega)]; rfl); (· rw [if_neg hj]; exact h1 j h0 (by omega))) (fun q hq => by rw [e23, wr_k hq]; exact hk1 q hq) (by omega)
  refine gg_sub [1, 2, 3, 0] rfl ?_
  exact L2 (((6 : Int) - 0).toNat + 1) (0) (C) (by omega) (by omega) (hR) (fun j h0 h1 => by omega) (fun _ _ => rfl) (by omega)

abbrev rX6_part : Room := { frames := 2, cells := 0, slots := 0, locals := 43 }
set_option maxRecDepth 100000 in
set_option maxHeartbeats 4000000 in
theorem kX6_part {l : Launch} {B : gB} {T : Int} {S : sS} {C : gSt} (hB : mdlB B T) (hO : sOk S T) (hR : mRel S T C) (i o n : Int) (hi : rI i) (ho : rI o) (hn : rI n) : gMi l B yX6_part wsX6_part rX6_part [.ref (gad B (0)), .int (iI (i)), .int (iI (o)), .int (iI (n))] C (fun z C' => mRel (gUpd (rPart S i o n) S (sUp S 3 i o n)) T C' ∧ z = gAns (rPart S i o n) (sTim S i o)) := by
  refine gMi_of (ty := .int) rfl (cc := cX6_part) (nL := 5) (by decide) rfl (Nat.le_of_ble_eq_true rfl) (fun K k hret => ?_)
  have k : gOk K B l rX6_part 5 cX6_part RX6 wsX6_part := k
  show GG K B C 0 [(0, .ref (gad B (0))), (1, .int (iI (i))), (2, .int (iI (o))), (3, .int (iI (n)))] []
  have hT := hO.t
  have hc := hO.cnt
  obtain ⟨hi1, hi2⟩ := hi
  obtain ⟨ho1, ho2⟩ := ho
  obtain ⟨hn1, hn2⟩ := hn
  refine gg_aload_n k dX6_part_0 rfl ?_
  refine gg_iconst k dX6_part_1 ?_
  refine gg_put (e := 0) k (mb0 hB) inX6_part_X6 tyX6 tyX6_ok nmX6 0 (by decide) fX6_part_73 rfl rfl rfl (Nat.le_of_ble_eq_true rfl) rfl dX6_part_2 ?_
  refine gg_nm (fun C2 e2 => ?_)
  have hR : mRel S T C2 := by rw [e2]; exact hR.wri (Or.inr ⟨rfl, by omega, by omega, by omega⟩)
  refine gg_aload_n k dX6_part_5 rfl ?_
  refine gg_iload_n k dX6_part_6 rfl ?_
  refine gg_calli (n := 1) (As := [.int (iI (i))]) (rest := []) k (kX6_isItem hB hO hR (i) ⟨by omega, by omega⟩) ⟨_, _, _, gX6_part_X6_isItem, rfl, rfl, rfl, by decide +kernel, by decide, by decide⟩ (mb0 hB) rfl rfl (Nat.le_of_ble_eq_true rfl) dX6_part_7 (fun z7 C7 r7 q7 => ?_)
  obtain ⟨q7, e7⟩ := q7
  rw [e7]
  clear e7
  obtain ⟨r7, s7⟩ := r7
  refine gg_if_eq k 21 dX6_part_10 (by decide) ⟨by omega, by omega⟩ (fun c10 => ?_) (fun c10 => ?_)
  · refine gg_iconst k dX6_part_21 ?_
    exact hret _ _ _ _ dX6_part_22 (⟨by omega, by omega⟩) (⟨by rw [gUpd_n (by rw [rPart_1 (by omega)]; omega)]; exact hR, by rw [gAns_n (by rw [rPart_1 (by omega)]; omega), rPart_1 (by omega)]⟩)
  · refine gg_aload_n k dX6_part_13 rfl ?_
    refine gg_iload_n k dX6_part_14 rfl ?_
    refine gg_calli (n := 1) (As := [.int (iI (o))]) (rest := []) k (kX6_isItem hB hO hR (o) ⟨by omega, by omega⟩) ⟨_, _, _, gX6_part_X6_isItem, rfl, rfl, rfl, by decide +kernel, by decide, by decide⟩ (mb0 hB) rfl rfl (Nat.le_of_ble_eq_true rfl) dX6_part_15 (fun z15 C15 r15 q15 => ?_)
    obtain ⟨q15, e15⟩ := q15
    rw [e15]
    clear e15
    obtain ⟨r15, s15⟩ := r15
    refine gg_if_ne k 23 dX6_part_18 (by decide) ⟨by omega, by omega⟩ (fun c18 => ?_) (fun c18 => ?_)
    · refine gg_iload_n k dX6_part_23 rfl ?_
      refine gg_iconst k dX6_part_24 ?_
      refine gg_bipush k dX6_part_25 (by decide +kernel) ?_
      refine gg_callsi (n := 3) (As := [.int (iI (n)), .int (iI (0)), .int (iI (9))]) (rest := []) k (kX6_in (n) (0) (9) ⟨by omega, by omega⟩ ⟨by omega, by omega⟩ ⟨by omega, by omega⟩) ⟨_, _, _, gX6_part_X6_in, rfl, rfl, rfl, by decide +kernel, by decide, by decide⟩ rfl rfl (Nat.le_of_ble_eq_true rfl) dX6_part_27 (fun z27 C27 r27 q27 => ?_)
      obtain ⟨q27, e27⟩ := q27
      rw [e27]
      clear e27
      obtain ⟨r27, s27⟩ := r27
      refine gg_if_ne k 36 dX6_part_30 (by decide) ⟨by omega, by omega⟩ (fun c30 => ?_) (fun c30 => ?_)
      · refine gg_iload_n k dX6_part_36 rfl ?_
        refine gg_if_le k 52 dX6_part_37 (by decide) ⟨by omega, by omega⟩ (fun c37 => ?_) (fun c37 => ?_)
        · refine gg_aload_n k dX6_part_52 rfl ?_
          refine gg_get k (mb0 hB) inX6_part_X6 6 (by decide) fX6_part_19 rfl rfl dX6_part_53 ?_
          refine gg_bipush k dX6_part_56 (by decide +kernel) ?_
          refine gg_iload_n k dX6_part_58 rfl ?_
          refine gg_imul k dX6_part_59 ?_
          refine gg_iload_n k dX6_part_60 rfl ?_
          refine gg_iadd k dX6_part_61 ?_
          refine gg_iald k (mb4 hB) (by omega) (by omega) dX6_part_62 ?_
          refine gg_ti (hR.tim (i := i) (j := o) (by omega) (by omega) (by omega) (by omega) (by omega)) ?_
          have bd62 := hO.tim (i) (o)
          refine gg_istore k [(4, .int (iI (sTim S (i) (o)))), (0, .ref (gad B (0))), (1, .int (iI (i))), (2, .int (iI (o))), (3, .int (iI (n)))] dX6_part_63 (by decide) rfl ?_
          refine gg_aload_n k dX6_part_65 rfl ?_
          refine gg_get k (mb0 hB) inX6_part_X6 6 (by decide) fX6_part_19 rfl rfl dX6_part_66 ?_
          refine gg_bipush k dX6_part_69 (by decide +kernel) ?_
          refine gg_iload_n k dX6_part_71 rfl ?_
          refine gg_imul k dX6_part_72 ?_
          refine gg_iload_n k dX6_part_73 rfl ?_
          refine gg_iadd k dX6_part_74 ?_
          refine gg_iload_n k dX6_part_75 rfl ?_
          refine gg_iast k (mb4 hB) (by omega) (by omega) dX6_part_76 ?_
          refine gg_nm (fun C76 e76 => ?_)
          refine gg_iload k dX6_part_77 rfl ?_
          exact hret _ _ _ _ dX6_part_79 (⟨by omega, by omega⟩) (by
            have hg0 : rPart S i o n = 0 := rPart_0 (by omega) (by omega) (fun w => absurd w.1 (by omega))
            rw [gUpd_0 hg0, gAns_0 hg0, e76]
            exact ⟨hR.upT (by omega) (by omega) (by omega) (by omega) rfl, rfl⟩)
        · refine gg_aload_n k dX6_part_40 rfl ?_
          refine gg_iload_n k dX6_part_41 rfl ?_
          refine gg_iload_n k dX6_part_42 rfl ?_
          refine gg_calli (n := 2) (As := [.int (iI (o)), .int (iI (i))]) (rest := []) k (kX6_isWithin hB hO hR (o) (i) (by omega) (by omega) (by omega) (by omega)) ⟨_, _, _, gX6_part_X6_isWithin, rfl, rfl, rfl, by decide +kernel, by decide, by decide⟩ (mb0 hB) rfl rfl (Nat.le_of_ble_eq_true rfl) dX6_part_43 (fun z43 C43 r43 q43 => ?_)
          obtain ⟨q43, hR, hk43⟩ := q43
          obtain ⟨r43, s43⟩ := r43
          refine gg_if_eq k 52 dX6_part_46 (by decide) ⟨by omega, by omega⟩ (fun c46 => ?_) (fun c46 => ?_)
          · refine gg_aload_n k dX6_part_52 rfl ?_
            refine gg_get k (mb0 hB) inX6_part_X6 6 (by decide) fX6_part_19 rfl rfl dX6_part_53 ?_
            refine gg_bipush k dX6_part_56 (by decide +kernel) ?_
            refine gg_iload_n k dX6_part_58 rfl ?_
            refine gg_imul k dX6_part_59 ?_
            refine gg_iload_n k dX6_part_60 rfl ?_
            refine gg_iadd k dX6_part_61 ?_
            refine gg_iald k (mb4 hB) (by omega) (by omega) dX6_part_62 ?_
            refine gg_ti (hR.tim (i := i) (j := o) (by omega) (by omega) (by omega) (by omega) (by omega)) ?_
            have bd62 := hO.tim (i) (o)
            refine gg_istore k [(4, .int (iI (sTim S (i) (o)))), (0, .ref (gad B (0))), (1, .int (iI (i))), (2, .int (iI (o))), (3, .int (iI (n)))] dX6_part_63 (by decide) rfl ?_
            refine gg_aload_n k dX6_part_65 rfl ?_
            refine gg_get k (mb0 hB) inX6_part_X6 6 (by decide) fX6_part_19 rfl rfl dX6_part_66 ?_
            refine gg_bipush k dX6_part_69 (by decide +kernel) ?_
            refine gg_iload_n k dX6_part_71 rfl ?_
            refine gg_imul k dX6_part_72 ?_
            refine gg_iload_n k dX6_part_73 rfl ?_
            refine gg_iadd k dX6_part_74 ?_
            refine gg_iload_n k dX6_part_75 rfl ?_
            refine gg_iast k (mb4 hB) (by omega) (by omega) dX6_part_76 ?_
            refine gg_nm (fun C76 e76 => ?_)
            refine gg_iload k dX6_part_77 rfl ?_
            exact hret _ _ _ _ dX6_part_79 (⟨by omega, by omega⟩) (by
              have hg0 : rPart S i o n = 0 := rPart_0 (by omega) (by omega) (fun w => by rcases q43 with u | u; (· omega); (· rw [u.2] at w; exact absurd w.2 (by decide)))
              rw [gUpd_0 hg0, gAns_0 hg0, e76]
              exact ⟨hR.upT (by omega) (by omega) (by omega) (by omega) rfl, rfl⟩)
          · refine gg_bipush k dX6_part_49 (by decide +kernel) ?_
            exact hret _ _ _ _ dX6_part_51 (⟨by omega, by omega⟩) (by
              have hg3 : 0 < n ∧ sRing S o i = true := ⟨by omega, by rcases q43 with w | w; (· exact w.2); (· omega)⟩
              exact ⟨by rw [gUpd_n (by rw [rPart_3 (by omega) (by omega) hg3]; omega)]; exact hR, by rw [gAns_n (by rw [rPart_3 (by omega) (by omega) hg3]; omega), rPart_3 (by omega) (by omega) hg3]⟩)
      · refine gg_bipush k dX6_part_33 (by decide +kernel) ?_
        exact hret _ _ _ _ dX6_part_35 (⟨by omega, by omega⟩) (⟨by rw [gUpd_n (by rw [rPart_2 (by omega) (by omega)]; omega)]; exact hR, by rw [gAns_n (by rw [rPart_2 (by omega) (by omega)]; omega), rPart_2 (by omega) (by omega)]⟩)
    · refine gg_iconst k dX6_part_21 ?_
      exact hret _ _ _ _ dX6_part_22 (⟨by omega, by omega⟩) (⟨by rw [gUpd_n (by rw [rPart_1 (by omega)]; omega)]; exact hR, by rw [gAns_n (by rw [rPart_1 (by omega)]; omega), rPart_1 (by omega)]⟩)

abbrev rX6_note : Room := { frames := 0, cells := 0, slots := 0, locals := 0 }
set_option maxRecDepth 100000 in
set_option maxHeartbeats 4000000 in
theorem kX6_note {l : Launch} {B : gB} {T : Int} {C : gSt} (hB : mdlB B T) (Lf : List fQ) (hf : mFl C Lf) (hl : (Lf.length : Int) < 160) (a b c d : Int) (hd : rL d) : gMv l B yX6_note wsX6_note rX6_note [.ref (gad B (0)), .int (iI (a)), .int (iI (b)), .int (iI (c)), .long (iL (d))] C (fun C' => mFl C' (Lf ++ (if 0 < d then [(a, b, c, d)] else [])) ∧ (∀ q : Nat, q ≠ 0 → q ≠ 13 → q ≠ 14 → q ≠ 15 → q ≠ 16 → C' q = C q) ∧ ∀ j : Int, j ≠ 17 → C' 0 j = C 0 j) := by
  refine gMv_of (cc := cX6_note) (nL := 6) (by decide) rfl (Nat.le_of_ble_eq_true rfl) (fun K k hret => ?_)
  have k : gOk K B l rX6_note 6 cX6_note RX6 wsX6_note := k
  show GG K B C 0 [(0, .ref (gad B (0))), (1, .int (iI (a))), (2, .int (iI (b))), (3, .int (iI (c))), (4, .long (iL (d)))] []
  obtain ⟨hd1, hd2⟩ := hd
  refine gg_lload k dX6_note_0 rfl ?_
  refine gg_lconst0 k dX6_note_2 ?_
  refine gg_lt_le k 58 dX6_note_3 dX6_note_4 (by decide) ⟨by omega, by omega⟩ ⟨by omega, by omega⟩ (fun c3 => ?_) (fun c3 => ?_)
  · exact hret _ _ _ dX6_note_58 (⟨by rw [if_neg (by omega), List.append_nil]; exact hf, fun _ _ _ _ _ _ => rfl, fun _ _ => rfl⟩)
  · refine gg_aload_n k dX6_note_7 rfl ?_
    refine gg_get k (mb0 hB) inX6_note_X6 18 (by decide) fX6_note_48 rfl rfl dX6_note_8 ?_
    refine gg_aload_n k dX6_note_11 rfl ?_
    refine gg_get k (mb0 hB) inX6_note_X6 17 (by decide) fX6_note_129 rfl rfl dX6_note_12 ?_
    refine gg_ti (show C 0 17 = (Lf.length : Int) from hf.1) ?_
    refine gg_iload_n k dX6_note_15 rfl ?_
    refine gg_iast k (mb13 hB) (by omega) (by omega) dX6_note_16 ?_
    refine gg_nm (fun C16 e16 => ?_)
    refine gg_aload_n k dX6_note_17 rfl ?_
    refine gg_get k (mb0 hB) inX6_note_X6 19 (by decide) fX6_note_51 rfl rfl dX6_note_18 ?_
    refine gg_aload_n k dX6_note_21 rfl ?_
    refine gg_get k (mb0 hB) inX6_note_X6 17 (by decide) fX6_note_129 rfl rfl dX6_note_22 ?_
    refine gg_ti (show C16 0 17 = (Lf.length : Int) from by rw [e16, wr_k (by omega)]; exact hf.1) ?_
    refine gg_iload_n k dX6_note_25 rfl ?_
    refine gg_iast k (mb14 hB) (by omega) (by omega) dX6_note_26 ?_
    refine gg_nm (fun C26 e26 => ?_)
    refine gg_aload_n k dX6_note_27 rfl ?_
    refine gg_get k (mb0 hB) inX6_note_X6 20 (by decide) fX6_note_54 rfl rfl dX6_note_28 ?_
    refine gg_aload_n k dX6_note_31 rfl ?_
    refine gg_get k (mb0 hB) inX6_note_X6 17 (by decide) fX6_note_129 rfl rfl dX6_note_32 ?_
    refine gg_ti (show C26 0 17 = (Lf.length : Int) from by rw [e26, wr_k (by omega), e16, wr_k (by omega)]; exact hf.1) ?_
    refine gg_iload_n k dX6_note_35 rfl ?_
    refine gg_iast k (mb15 hB) (by omega) (by omega) dX6_note_36 ?_
    refine gg_nm (fun C36 e36 => ?_)
    refine gg_aload_n k dX6_note_37 rfl ?_
    refine gg_get k (mb0 hB) inX6_note_X6 21 (by decide) fX6_note_57 rfl rfl dX6_note_38 ?_
    refine gg_aload_n k dX6_note_41 rfl ?_
    refine gg_get k (mb0 hB) inX6_note_X6 17 (by decide) fX6_note_129 rfl rfl dX6_note_42 ?_
    refine gg_ti (show C36 0 17 = (Lf.length : Int) from by rw [e36, wr_k (by omega), e26, wr_k (by omega), e16, wr_k (by omega)]; exact hf.1) ?_
    refine gg_lload k dX6_note_45 rfl ?_
    refine gg_last k (mb16 hB) (by omega) (by omega) dX6_note_47 ?_
    refine gg_nm (fun C47 e47 => ?_)
    refine gg_aload_n k dX6_note_48 rfl ?_
    refine gg_dup k dX6_note_49 rfl ?_
    refine gg_get k (mb0 hB) inX6_note_X6 17 (by decide) fX6_note_129 rfl rfl dX6_note_50 ?_
    refine gg_ti (show C47 0 17 = (Lf.length : Int) from by rw [e47, wr_k (by omega), e36, wr_k (by omega), e26, wr_k (by omega), e16, wr_k (by omega)]; exact hf.1) ?_
    refine gg_iconst k dX6_note_53 ?_
    refine gg_iadd k dX6_note_54 ?_
    refine gg_put (e := 17) k (mb0 hB) inX6_note_X6 tyX6 tyX6_ok nmX6 17 (by decide) fX6_note_129 rfl rfl rfl (Nat.le_of_ble_eq_true rfl) rfl dX6_note_55 ?_
    refine gg_nm (fun C55 e55 => ?_)
    exact hret _ _ _ dX6_note_58 (by rw [if_pos (by omega)]; exact mFl_put hf (by rw [e55, e47, e36, e26, e16]))

abbrev rX6_find : Room := { frames := 3, cells := 0, slots := 0, locals := 70 }
set_option maxRecDepth 100000 in
set_option maxHeartbeats 4000000 in
theorem kX6_find {l : Launch} {B : gB} {T : Int} {S : sS} {C : gSt} (hB : mdlB B T) (hO : sOk S T) (hR : mRel S T C)  : gMv l B yX6_find wsX6_find rX6_find [.ref (gad B (0))] C (fun C' => mRel S T C' ∧ mFl C' (fAll S T.toNat)) := by
  refine gMv_of (cc := cX6_find) (nL := 4) (by decide) rfl (Nat.le_of_ble_eq_true rfl) (fun K k hret => ?_)
  have k : gOk K B l rX6_find 4 cX6_find RX6 wsX6_find := k
  show GG K B C 0 [(0, .ref (gad B (0)))] []
  have hT := hO.t
  have hc := hO.cnt
  
  refine gg_aload_n k dX6_find_0 rfl ?_
  refine gg_iconst k dX6_find_1 ?_
  refine gg_put (e := 17) k (mb0 hB) inX6_find_X6 tyX6 tyX6_ok nmX6 17 (by decide) fX6_find_129 rfl rfl rfl (Nat.le_of_ble_eq_true rfl) rfl dX6_find_2 ?_
  refine gg_nm (fun C2 e2 => ?_)
  have hR : mRel S T C2 := by rw [e2]; exact hR.wri (Or.inr ⟨rfl, by omega, by omega, by omega⟩)
  refine gg_iconst k dX6_find_5 ?_
  refine gg_istore_n k [(1, .int (iI (0))), (0, .ref (gad B (0)))] dX6_find_6 (by decide) rfl ?_
  have L7 : ∀ (n7 : Nat) (i : Int) (C1 : gSt), (0 ≤ i) → (i ≤ sCnt S) → (mRel S T C1) → (C1 0 17 = 0) → ((∀ y j : Int, 0 ≤ y → y < i → 1 ≤ j → j ≤ T → C1 17 (13 * y + j) = (sRun S y j.toNat).2)) → sCnt S - i < (n7 : Int) → GG K B C1 7 [(0, .ref (gad B (0))), (1, .int (iI (i)))] [] := by
    intro n7
    induction n7 with
    | zero =>
      intro i C1 hi0 hi1 hR h17 hob hn7
      exact absurd hn7 (by omega)
    | succ n7 ih7 =>
      intro i C1 hi0 hi1 hR h17 hob hn7
      refine gg_iload_n k dX6_find_7 rfl ?_
      refine gg_aload_n k dX6_find_8 rfl ?_
      refine gg_get k (mb0 hB) inX6_find_X6 2 (by decide) fX6_find_76 rfl rfl dX6_find_9 ?_
      refine gg_ti hR.cnt ?_
      refine gg_icmp_ge k 59 dX6_find_12 (by decide) ⟨by omega, by omega⟩ ⟨by omega, by omega⟩ (fun c12 => ?_) (fun c12 => ?_)
      · refine gg_iconst k dX6_find_59 ?_
        refine gg_istore_n k [(1, .int (iI (1))), (0, .ref (gad B (0)))] dX6_find_60 (by decide) rfl ?_
        have L61 : ∀ (n61 : Nat) (p : Int) (C3 : gSt), (1 ≤ p) → (p ≤ T + 1) → (mRel S T C3) → ((∀ y j : Int, 0 ≤ y → y < sCnt S → 1 ≤ j → j ≤ T → C3 17 (13 * y + j) = (sRun S y j.toNat).2)) → (mFl C3 (fAll S (p - 1).toNat)) → T + 1 - p < (n61 : Int) → GG K B C3 61 [(0, .ref (gad B (0))), (1, .int (iI (p)))] [] := by
          intro n61
          induction n61 with
          | zero =>
            intro p C3 hp0 hp1 hR hob hf hn61
            exact absurd hn61 (by omega)
          | succ n61 ih61 =>
            intro p C3 hp0 hp1 hR hob hf hn61
            have hln := fAll_l hO (p - 1).toNat
            have l1 := fOw_l (S := S) (p := p) (sCnt S).toNat
            have l2 := fLe_l (S := S) (p := p) (sCnt S).toNat
            refine gg_iload_n k dX6_find_61 rfl ?_
            refine gg_aload_n k dX6_find_62 rfl ?_
            refine gg_get k (mb0 hB) inX6_find_X6 1 (by decide) fX6_find_69 rfl rfl dX6_find_63 ?_
            refine gg_icmp_gt k 185 dX6_find_66 (by decide) ⟨by omega, by omega⟩ ⟨by omega, by omega⟩ (fun c66 => ?_) (fun c66 => ?_)
            · exact hret _ _ _ dX6_find_185 (⟨hR, by rw [← show p - 1 = T by omega]; exact hf⟩)
            · refine gg_iconst k dX6_find_69 ?_
              refine gg_istore_n k [(2, .int (iI (0))), (0, .ref (gad B (0))), (1, .int (iI (p)))] dX6_find_70 (by decide) rfl ?_
              have L71 : ∀ (n71 : Nat) (x : Int) (C4 : gSt), (0 ≤ x) → (x ≤ sCnt S) → (mRel S T C4) → ((∀ y j : Int, 0 ≤ y → y < sCnt S → 1 ≤ j → j ≤ T → C4 17 (13 * y + j) = (sRun S y j.toNat).2)) → (mFl C4 ((fAll S (p - 1).toNat) ++ fOw S p x.toNat)) → sCnt S - x < (n71 : Int) → GG K B C4 71 [(0, .ref (gad B (0))), (1, .int (iI (p))), (2, .int (iI (x)))] [] := by
                intro n71
                induction n71 with
                | zero =>
                  intro x C4 hx0 hx1 hR hob hf hn71
                  exact absurd hn71 (by omega)
                | succ n71 ih71 =>
                  intro x C4 hx0 hx1 hR hob hf hn71
                  have lx := fOw_l (S := S) (p := p) x.toNat
                  refine gg_iload_n k dX6_find_71 rfl ?_
                  refine gg_aload_n k dX6_find_72 rfl ?_
                  refine gg_get k (mb0 hB) inX6_find_X6 2 (by decide) fX6_find_76 rfl rfl dX6_find_73 ?_
                  refine gg_ti hR.cnt ?_
                  refine gg_icmp_ge k 103 dX6_find_76 (by decide) ⟨by omega, by omega⟩ ⟨by omega, by omega⟩ (fun c76 => ?_) (fun c76 => ?_)
                  · refine gg_iconst k dX6_find_103 ?_
                    refine gg_istore_n k [(2, .int (iI (0))), (0, .ref (gad B (0))), (1, .int (iI (p)))] dX6_find_104 (by decide) rfl ?_
                    have L105 : ∀ (n105 : Nat) (x : Int) (C5 : gSt), (0 ≤ x) → (x ≤ sCnt S) → (mRel S T C5) → ((∀ y j : Int, 0 ≤ y → y < sCnt S → 1 ≤ j → j ≤ T → C5 17 (13 * y + j) = (sRun S y j.toNat).2)) → (mFl C5 (((fAll S (p - 1).toNat) ++ fOw S p (sCnt S).toNat) ++ fLe S p x.toNat)) → sCnt S - x < (n105 : Int) → GG K B C5 105 [(0, .ref (gad B (0))), (1, .int (iI (p))), (2, .int (iI (x)))] [] := by
                      intro n105
                      induction n105 with
                      | zero =>
                        intro x C5 hx0 hx1 hR hob hf hn105
                        exact absurd hn105 (by omega)
                      | succ n105 ih105 =>
                        intro x C5 hx0 hx1 hR hob hf hn105
                        have lx := fLe_l (S := S) (p := p) x.toNat
                        refine gg_iload_n k dX6_find_105 rfl ?_
                        refine gg_aload_n k dX6_find_106 rfl ?_
                        refine gg_get k (mb0 hB) inX6_find_X6 2 (by decide) fX6_find_76 rfl rfl dX6_find_107 ?_
                        refine gg_ti hR.cnt ?_
                        refine gg_icmp_ge k 160 dX6_find_110 (by decide) ⟨by omega, by omega⟩ ⟨by omega, by omega⟩ (fun c110 => ?_) (fun c110 => ?_)
                        · refine gg_aload_n k dX6_find_160 rfl ?_
                          refine gg_iconst k dX6_find_161 ?_
                          refine gg_iload_n k dX6_find_162 rfl ?_
                          refine gg_bipush k dX6_find_163 (by decide +kernel) ?_
                          refine gg_aload_n k dX6_find_165 rfl ?_
                          refine gg_iload_n k dX6_find_166 rfl ?_
                          refine gg_calll (n := 1) (As := [.int (iI (p))]) (rest := [.int (iI (-3)), .int (iI (p)), .int (iI (3)), .ref (gad B (0))]) k (kX6_overOf hB hO hR p (by omega) (by omega)) ⟨_, _, _, gX6_find_X6_overOf, rfl, rfl, rfl, by decide +kernel, by decide, by decide⟩ (mb0 hB) rfl rfl (Nat.le_of_ble_eq_true rfl) dX6_find_167 (fun z167 C167 r167 q167 => ?_)
                          obtain ⟨q167, hR, hm167, hk167⟩ := q167
                          obtain ⟨r167, s167⟩ := r167
                          have ob167 := sOver_b hO p
                          have hxe : x = sCnt S := by omega
                          rw [hxe] at hf
                          refine gg_aload_n k dX6_find_170 rfl ?_
                          refine gg_get k (mb0 hB) inX6_find_X6 9 (by decide) fX6_find_101 rfl rfl dX6_find_171 ?_
                          refine gg_ti hR.mov ?_
                          have bd171 := hO.ovr 1
                          refine gg_i2l k dX6_find_174 ⟨by omega, by omega⟩ ?_
                          refine gg_lsub k dX6_find_175 ?_
                          refine gg_callv (n := 4) (As := [.int (iI (3)), .int (iI (p)), .int (iI (-3)), .long (iL (z167 - (sOvr S 1)))]) (rest := []) k (kX6_note hB _ (hf.kept (by rw [hk167 0 (by omega) (by omega)]) (by rw [hk167 13 (by omega) (by omega)]) (by rw [hk167 14 (by omega) (by omega)]) (by rw [hk167 15 (by omega) (by omega)]) (by rw [hk167 16 (by omega) (by omega)])) (by simp only [List.length_append]; push_cast; omega) (3) (p) (-3) (z167 - (sOvr S 1)) ⟨by omega, by omega⟩) ⟨_, _, _, gX6_find_X6_note, rfl, rfl, rfl, by decide +kernel, by decide, by decide⟩ (mb0 hB) rfl rfl (Nat.le_of_ble_eq_true rfl) dX6_find_176 (fun C176 q176 => ?_)
                          obtain ⟨w1, w2, w3⟩ := q176
                          have hR : mRel S T C176 := hR.of ⟨w3 2 (by omega), w3 8 (by omega), w3 9 (by omega)⟩ (fun q h1 h2 => w2 q (by omega) (by omega) (by omega) (by omega) (by omega))
                          refine gg_iinc k 1 [(1, .int (iI (p + 1))), (0, .ref (gad B (0))), (2, .int (iI (x)))] dX6_find_179 rfl (by decide) rfl ?_
                          refine gg_goto (tgt := 61) k dX6_find_182 (by decide) ?_
                          refine gg_sub [1, 0] rfl ?_
                          exact ih61 (p + 1) (C176) (by omega) (by omega) (hR) (fun y j h0 h1 h2 h3 => by rw [w2 17 (by omega) (by omega) (by omega) (by omega) (by omega), hk167 17 (by omega) (by omega)]; exact hob y j h0 h1 h2 h3) (by rw [show p + 1 - 1 = p by omega, fAll_s (by omega)]; unfold fPer fOv; rw [← List.append_assoc, ← List.append_assoc, ← q167]; exact w1) (by omega)
                        · refine gg_aload_n k dX6_find_113 rfl ?_
                          refine gg_get k (mb0 hB) inX6_find_X6 5 (by decide) fX6_find_16 rfl rfl dX6_find_114 ?_
                          refine gg_bipush k dX6_find_117 (by decide +kernel) ?_
                          refine gg_iload_n k dX6_find_119 rfl ?_
                          refine gg_imul k dX6_find_120 ?_
                          refine gg_iload_n k dX6_find_121 rfl ?_
                          refine gg_iadd k dX6_find_122 ?_
                          refine gg_iald k (mb3 hB) (by omega) (by omega) dX6_find_123 ?_
                          refine gg_ti (hR.lot (i := x) (p := p) (by omega) (by omega) (by omega) (by omega) (by omega)) ?_
                          have bd123 := hO.lot (x) (p)
                          refine gg_istore_n k [(3, .int (iI (sLot S (x) (p)))), (0, .ref (gad B (0))), (1, .int (iI (p))), (2, .int (iI (x)))] dX6_find_124 (by decide) rfl ?_
                          refine gg_aload_n k dX6_find_125 rfl ?_
                          refine gg_iconst k dX6_find_126 ?_
                          refine gg_iload_n k dX6_find_127 rfl ?_
                          refine gg_iload_n k dX6_find_128 rfl ?_
                          have J151 : ∀ (xl : Int), (xl ≤ 0 ∧ ¬ (0 < sLot S x p ∧ sLot S x p < sNum S x 2) ∨ (0 < sLot S x p ∧ sLot S x p < sNum S x 2) ∧ xl = sNum S x 2 - sLot S x p) → (-5000 ≤ xl ∧ xl ≤ 1000) → GG K B C5 151 [(3, .int (iI (sLot S (x) (p)))), (0, .ref (gad B (0))), (1, .int (iI (p))), (2, .int (iI (x)))] [.long (iL (xl)), .int (iI (x)), .int (iI (p)), .int (iI (2)), .ref (gad B (0))] := by
                            intro xl hxl hxb
                            refine gg_callv (n := 4) (As := [.int (iI (2)), .int (iI (p)), .int (iI (x)), .long (iL (xl))]) (rest := []) k (kX6_note hB _ hf (by simp only [List.length_append]; push_cast; omega) (2) (p) (x) (xl) ⟨by omega, by omega⟩) ⟨_, _, _, gX6_find_X6_note, rfl, rfl, rfl, by decide +kernel, by decide, by decide⟩ (mb0 hB) rfl rfl (Nat.le_of_ble_eq_true rfl) dX6_find_151 (fun C151 q151 => ?_)
                            obtain ⟨w1, w2, w3⟩ := q151
                            have hR : mRel S T C151 := hR.of ⟨w3 2 (by omega), w3 8 (by omega), w3 9 (by omega)⟩ (fun q h1 h2 => w2 q (by omega) (by omega) (by omega) (by omega) (by omega))
                            rw [show (if 0 < xl then [((2 : Int), p, x, xl)] else []) = (if 0 < sLot S x p ∧ sLot S x p < sNum S x 2 then [((2 : Int), p, x, sNum S x 2 - sLot S x p)] else []) by by_cases hq : 0 < sLot S x p ∧ sLot S x p < sNum S x 2; (· rw [if_pos hq, if_pos (show 0 < xl by omega), show xl = sNum S x 2 - sLot S x p by omega]); (· rw [if_neg hq, if_neg (show ¬ 0 < xl by omega)])] at w1
                            refine gg_iinc k 3 [(2, .int (iI (x + 1))), (3, .int (iI (sLot S (x) (p)))), (0, .ref (gad B (0))), (1, .int (iI (p)))] dX6_find_154 rfl (by decide) rfl ?_
                            refine gg_goto (tgt := 105) k dX6_find_157 (by decide) ?_
                            refine gg_sub [2, 3, 0] rfl ?_
                            exact ih105 (x + 1) (C151) (by omega) (by omega) (hR) (fun y j h0 h1 h2 h3 => by rw [w2 17 (by omega) (by omega) (by omega) (by omega) (by omega)]; exact hob y j h0 h1 h2 h3) (by rw [fLe_s hx0, ← List.append_assoc]; exact w1) (by omega)
                          refine gg_iload_n k dX6_find_129 rfl ?_
                          refine gg_if_le k 150 dX6_find_130 (by decide) ⟨by omega, by omega⟩ (fun c130 => ?_) (fun c130 => ?_)
                          · refine gg_lconst0 k dX6_find_150 ?_
                            exact J151 (0) (by omega) (by omega)
                          · refine gg_aload_n k dX6_find_133 rfl ?_
                            refine gg_get k (mb0 hB) inX6_find_X6 3 (by decide) fX6_find_7 rfl rfl dX6_find_134 ?_
                            refine gg_bipush k dX6_find_137 (by decide +kernel) ?_
                            refine gg_iload_n k dX6_find_139 rfl ?_
                            refine gg_imul k dX6_find_140 ?_
                            refine gg_iconst k dX6_find_141 ?_
                            refine gg_iadd k dX6_find_142 ?_
                            refine gg_iald k (mb1 hB) (by omega) (by omega) dX6_find_143 ?_
                            refine gg_ti (hR.num (i := x) (w := 2) (by omega) (by omega) (by omega) (by omega) (by omega)) ?_
                            have bd143 := hO.n2 (x)
                            refine gg_iload_n k dX6_find_144 rfl ?_
                            refine gg_isub k dX6_find_145 ?_
                            refine gg_i2l k dX6_find_146 ⟨by omega, by omega⟩ ?_
                            refine gg_goto (tgt := 151) k dX6_find_147 (by decide) ?_
                            exact J151 ((sNum S (x) (2)) - (sLot S (x) (p))) (by omega) (by omega)
                    refine gg_sub [1, 2, 0] rfl ?_
                    exact L105 ((sCnt S - 0).toNat + 1) (0) (C4) (by omega) (by omega) (hR) (hob) (by rw [show fLe S p (0 : Int).toNat = [] from rfl, List.append_nil, ← show x = sCnt S by omega]; exact hf) (by omega)
                  · refine gg_aload_n k dX6_find_79 rfl ?_
                    refine gg_iconst k dX6_find_80 ?_
                    refine gg_iload_n k dX6_find_81 rfl ?_
                    refine gg_iload_n k dX6_find_82 rfl ?_
                    refine gg_aload_n k dX6_find_83 rfl ?_
                    refine gg_get k (mb0 hB) inX6_find_X6 22 (by decide) fX6_find_60 rfl rfl dX6_find_84 ?_
                    refine gg_bipush k dX6_find_87 (by decide +kernel) ?_
                    refine gg_iload_n k dX6_find_89 rfl ?_
                    refine gg_imul k dX6_find_90 ?_
                    refine gg_iload_n k dX6_find_91 rfl ?_
                    refine gg_iadd k dX6_find_92 ?_
                    refine gg_lald k (mb17 hB) (by omega) (by omega) dX6_find_93 ?_
                    refine gg_tl (hob x p (by omega) (by omega) (by omega) (by omega)) ?_
                    have rbb := sRun_b hO x p.toNat
                    refine gg_callv (n := 4) (As := [.int (iI (1)), .int (iI (p)), .int (iI (x)), .long (iL ((sRun S x p.toNat).2))]) (rest := []) k (kX6_note hB _ hf (by simp only [List.length_append]; push_cast; omega) (1) (p) (x) ((sRun S x p.toNat).2) ⟨by omega, by omega⟩) ⟨_, _, _, gX6_find_X6_note, rfl, rfl, rfl, by decide +kernel, by decide, by decide⟩ (mb0 hB) rfl rfl (Nat.le_of_ble_eq_true rfl) dX6_find_94 (fun C94 q94 => ?_)
                    obtain ⟨w1, w2, w3⟩ := q94
                    have hR : mRel S T C94 := hR.of ⟨w3 2 (by omega), w3 8 (by omega), w3 9 (by omega)⟩ (fun q h1 h2 => w2 q (by omega) (by omega) (by omega) (by omega) (by omega))
                    refine gg_iinc k 2 [(2, .int (iI (x + 1))), (0, .ref (gad B (0))), (1, .int (iI (p)))] dX6_find_97 rfl (by decide) rfl ?_
                    refine gg_goto (tgt := 71) k dX6_find_100 (by decide) ?_
                    refine gg_sub [1, 2, 0] rfl ?_
                    exact ih71 (x + 1) (C94) (by omega) (by omega) (hR) (fun y j h0 h1 h2 h3 => by rw [w2 17 (by omega) (by omega) (by omega) (by omega) (by omega)]; exact hob y j h0 h1 h2 h3) (by rw [fOw_s hx0, ← List.append_assoc]; exact w1) (by omega)
              refine gg_sub [1, 2, 0] rfl ?_
              exact L71 ((sCnt S - 0).toNat + 1) (0) (C3) (by omega) (by omega) (hR) (hob) (by rw [show fOw S p (0 : Int).toNat = [] from rfl, List.append_nil]; exact hf) (by omega)
        refine gg_sub [1, 0] rfl ?_
        exact L61 ((T + 1 - 1).toNat + 1) (1) (C1) (by omega) (by omega) (hR) (by rw [← show i = sCnt S by omega]; exact hob) (⟨h17, fun k x hx => by cases hx⟩) (by omega)
      · refine gg_aload_n k dX6_find_15 rfl ?_
        refine gg_iload_n k dX6_find_16 rfl ?_
        refine gg_callv (n := 1) (As := [.int (iI (i))]) (rest := []) k (kX6_run hB hO hR (i := i) (by omega) (by omega)) ⟨_, _, _, gX6_find_X6_run, rfl, rfl, rfl, by decide +kernel, by decide, by decide⟩ (mb0 hB) rfl rfl (Nat.le_of_ble_eq_true rfl) dX6_find_17 (fun C17 q17 => ?_)
        obtain ⟨hR, hr17, hk17⟩ := q17
        refine gg_iconst k dX6_find_20 ?_
        refine gg_istore_n k [(2, .int (iI (1))), (0, .ref (gad B (0))), (1, .int (iI (i)))] dX6_find_21 (by decide) rfl ?_
        have L22 : ∀ (n22 : Nat) (p : Int) (C2 : gSt), (1 ≤ p) → (p ≤ T + 1) → (mRel S T C2) → ((∀ j : Int, 1 ≤ j → j < p → C2 17 (13 * i + j) = (sRun S i j.toNat).2)) → ((∀ y j : Int, 0 ≤ y → y < i → 1 ≤ j → j ≤ T → C2 17 (13 * y + j) = C17 17 (13 * y + j))) → ((∀ q : Nat, q ≠ 17 → C2 q = C17 q)) → T + 1 - p < (n22 : Int) → GG K B C2 22 [(0, .ref (gad B (0))), (1, .int (iI (i))), (2, .int (iI (p)))] [] := by
          intro n22
          induction n22 with
          | zero =>
            intro p C2 hp0 hp1 hR hnew hold hk2 hn22
            exact absurd hn22 (by omega)
          | succ n22 ih22 =>
            intro p C2 hp0 hp1 hR hnew hold hk2 hn22
            have rbb := sRun_b hO i p.toNat
            refine gg_iload_n k dX6_find_22 rfl ?_
            refine gg_aload_n k dX6_find_23 rfl ?_
            refine gg_get k (mb0 hB) inX6_find_X6 1 (by decide) fX6_find_69 rfl rfl dX6_find_24 ?_
            refine gg_icmp_gt k 53 dX6_find_27 (by decide) ⟨by omega, by omega⟩ ⟨by omega, by omega⟩ (fun c27 => ?_) (fun c27 => ?_)
            · refine gg_iinc k 1 [(1, .int (iI (i + 1))), (0, .ref (gad B (0))), (2, .int (iI (p)))] dX6_find_53 rfl (by decide) rfl ?_
              refine gg_goto (tgt := 7) k dX6_find_56 (by decide) ?_
              refine gg_sub [1, 0] rfl ?_
              exact ih7 (i + 1) (C2) (by omega) (by omega) (hR) (by rw [hk2 0 (by omega), hk17 0 (by omega) (by omega) (by omega) (by omega)]; exact h17) (fun y j h0 h1 h2 h3 => by by_cases hy : y = i; (· rw [hy]; exact hnew j h2 (by omega)); (· rw [hold y j h0 (by omega) h2 h3]; rw [hk17 17 (by omega) (by omega) (by omega) (by omega)]; exact hob y j h0 (by omega) h2 h3)) (by omega)
            · refine gg_aload_n k dX6_find_30 rfl ?_
              refine gg_get k (mb0 hB) inX6_find_X6 22 (by decide) fX6_find_60 rfl rfl dX6_find_31 ?_
              refine gg_bipush k dX6_find_34 (by decide +kernel) ?_
              refine gg_iload_n k dX6_find_36 rfl ?_
              refine gg_imul k dX6_find_37 ?_
              refine gg_iload_n k dX6_find_38 rfl ?_
              refine gg_iadd k dX6_find_39 ?_
              refine gg_aload_n k dX6_find_40 rfl ?_
              refine gg_get k (mb0 hB) inX6_find_X6 12 (by decide) fX6_find_33 rfl rfl dX6_find_41 ?_
              refine gg_iload_n k dX6_find_44 rfl ?_
              refine gg_lald k (mb8 hB) (by omega) (by omega) dX6_find_45 ?_
              refine gg_tl (show C2 8 p = (sRun S i p.toNat).2 by rw [hk2 8 (by omega)]; exact (hr17.1 p (by omega) (by omega)).2) ?_
              refine gg_last k (mb17 hB) (by omega) (by omega) dX6_find_46 ?_
              refine gg_nm (fun C46 e46 => ?_)
              have hR : mRel S T C46 := by rw [e46]; exact hR.wri (Or.inl (by omega))
              refine gg_iinc k 2 [(2, .int (iI (p + 1))), (0, .ref (gad B (0))), (1, .int (iI (i)))] dX6_find_47 rfl (by decide) rfl ?_
              refine gg_goto (tgt := 22) k dX6_find_50 (by decide) ?_
              refine gg_sub [1, 2, 0] rfl ?_
              exact ih22 (p + 1) (C46) (by omega) (by omega) (hR) (fun j h0 h1 => by rw [e46, wr_w]; by_cases hj : j = p; (· rw [hj, if_pos rfl]); (· rw [if_neg (by omega)]; exact hnew j h0 (by omega))) (fun y j h0 h1 h2 h3 => by rw [e46, wr_j (by omega)]; exact hold y j h0 h1 h2 h3) (fun q hq => by rw [e46, wr_k hq]; exact hk2 q hq) (by omega)
        refine gg_sub [1, 2, 0] rfl ?_
        exact L22 ((T + 1 - 1).toNat + 1) (1) (C17) (by omega) (by omega) (hR) (fun j h0 h1 => by omega) (fun _ _ _ _ _ _ => rfl) (fun _ _ => rfl) (by omega)
  refine gg_sub [1, 0] rfl ?_
  exact L7 ((sCnt S - 0).toNat + 1) (0) (C2) (by omega) (by omega) (hR) (by rw [e2, wr_s]) (fun y j h0 h1 _ _ => by omega) (by omega)

abbrev rX6_faults : Room := { frames := 4, cells := 0, slots := 0, locals := 93 }
set_option maxRecDepth 100000 in
set_option maxHeartbeats 4000000 in
theorem kX6_faults {l : Launch} {B : gB} {T : Int} {S : sS} {C : gSt} (hB : mdlB B T) (hO : sOk S T) (hR : mRel S T C)  : gMi l B yX6_faults wsX6_faults rX6_faults [.ref (gad B (0))] C (fun z C' => mRel S T C' ∧ z = ((fAll S T.toNat).length : Int)) := by
  refine gMi_of (ty := .int) rfl (cc := cX6_faults) (nL := 1) (by decide) rfl (Nat.le_of_ble_eq_true rfl) (fun K k hret => ?_)
  have k : gOk K B l rX6_faults 1 cX6_faults RX6 wsX6_faults := k
  show GG K B C 0 [(0, .ref (gad B (0)))] []
  have hT := hO.t
  have hc := hO.cnt
  
  refine gg_aload_n k dX6_faults_0 rfl ?_
  refine gg_iconst k dX6_faults_1 ?_
  refine gg_put (e := 0) k (mb0 hB) inX6_faults_X6 tyX6 tyX6_ok nmX6 0 (by decide) fX6_faults_73 rfl rfl rfl (Nat.le_of_ble_eq_true rfl) rfl dX6_faults_2 ?_
  refine gg_nm (fun C2 e2 => ?_)
  have hR : mRel S T C2 := by rw [e2]; exact hR.wri (Or.inr ⟨rfl, by omega, by omega, by omega⟩)
  refine gg_aload_n k dX6_faults_5 rfl ?_
  refine gg_callv (n := 0) (As := []) (rest := []) k (kX6_find hB hO hR) ⟨_, _, _, gX6_faults_X6_find, rfl, rfl, rfl, by decide +kernel, by decide, by decide⟩ (mb0 hB) rfl rfl (Nat.le_of_ble_eq_true rfl) dX6_faults_6 (fun C6 q6 => ?_)
  obtain ⟨hR, hf⟩ := q6
  have hln := fAll_l hO T.toNat
  refine gg_aload_n k dX6_faults_9 rfl ?_
  refine gg_get k (mb0 hB) inX6_faults_X6 17 (by decide) fX6_faults_129 rfl rfl dX6_faults_10 ?_
  refine gg_ti (hf.1) ?_
  exact hret _ _ _ _ dX6_faults_13 (⟨by omega, by omega⟩) (⟨hR, rfl⟩)

abbrev rX6_fault : Room := { frames := 4, cells := 0, slots := 0, locals := 93 }
set_option maxRecDepth 100000 in
set_option maxHeartbeats 4000000 in
theorem kX6_fault {l : Launch} {B : gB} {T : Int} {S : sS} {C : gSt} (hB : mdlB B T) (hO : sOk S T) (hR : mRel S T C) (k0 w : Int) (hk : rI k0) (hw : rI w) : gMi l B yX6_fault wsX6_fault rX6_fault [.ref (gad B (0)), .int (iI (k0)), .int (iI (w))] C (fun z C' => mRel S T C' ∧ z = sFault S T k0 w) := by
  refine gMi_of (ty := .int) rfl (cc := cX6_fault) (nL := 3) (by decide) rfl (Nat.le_of_ble_eq_true rfl) (fun K k hret => ?_)
  have k : gOk K B l rX6_fault 3 cX6_fault RX6 wsX6_fault := k
  show GG K B C 0 [(0, .ref (gad B (0))), (1, .int (iI (k0))), (2, .int (iI (w)))] []
  have hT := hO.t
  have hc := hO.cnt
  obtain ⟨hk1, hk2⟩ := hk
  obtain ⟨hw1, hw2⟩ := hw
  refine gg_aload_n k dX6_fault_0 rfl ?_
  refine gg_iconst k dX6_fault_1 ?_
  refine gg_put (e := 0) k (mb0 hB) inX6_fault_X6 tyX6 tyX6_ok nmX6 0 (by decide) fX6_fault_73 rfl rfl rfl (Nat.le_of_ble_eq_true rfl) rfl dX6_fault_2 ?_
  refine gg_nm (fun C2 e2 => ?_)
  have hR : mRel S T C2 := by rw [e2]; exact hR.wri (Or.inr ⟨rfl, by omega, by omega, by omega⟩)
  refine gg_aload_n k dX6_fault_5 rfl ?_
  refine gg_callv (n := 0) (As := []) (rest := []) k (kX6_find hB hO hR) ⟨_, _, _, gX6_fault_X6_find, rfl, rfl, rfl, by decide +kernel, by decide, by decide⟩ (mb0 hB) rfl rfl (Nat.le_of_ble_eq_true rfl) dX6_fault_6 (fun C6 q6 => ?_)
  obtain ⟨hR, hf⟩ := q6
  have hln := fAll_l hO T.toNat
  refine gg_iload_n k dX6_fault_9 rfl ?_
  refine gg_iconst k dX6_fault_10 ?_
  refine gg_aload_n k dX6_fault_11 rfl ?_
  refine gg_get k (mb0 hB) inX6_fault_X6 17 (by decide) fX6_fault_129 rfl rfl dX6_fault_12 ?_
  refine gg_ti (hf.1) ?_
  refine gg_iconst k dX6_fault_15 ?_
  refine gg_isub k dX6_fault_16 ?_
  refine gg_callsi (n := 3) (As := [.int (iI (k0)), .int (iI (0)), .int (iI ((((fAll S T.toNat).length : Int)) - 1))]) (rest := []) k (kX6_in (k0) (0) ((((fAll S T.toNat).length : Int)) - 1) ⟨by omega, by omega⟩ ⟨by omega, by omega⟩ ⟨by omega, by omega⟩) ⟨_, _, _, gX6_fault_X6_in, rfl, rfl, rfl, by decide +kernel, by decide, by decide⟩ rfl rfl (Nat.le_of_ble_eq_true rfl) dX6_fault_17 (fun z17 C17 r17 q17 => ?_)
  obtain ⟨q17, e17⟩ := q17
  rw [e17]
  clear e17
  obtain ⟨r17, s17⟩ := r17
  refine gg_if_ne k 25 dX6_fault_20 (by decide) ⟨by omega, by omega⟩ (fun c20 => ?_) (fun c20 => ?_)
  · obtain ⟨g1, g2⟩ := fAll_get hO (k := k0) (by omega) (by omega)
    obtain ⟨f1, f2, f3, f4⟩ := hf.2 k0.toNat _ g1
    rw [Int.toNat_of_nonneg (by omega)] at f1 f2 f3 f4
    obtain ⟨⟨ga1, ga2⟩, ⟨gb1, gb2⟩, ⟨gc1, gc2⟩, ⟨gd1, gd2⟩⟩ := g2
    refine gg_iload_n k dX6_fault_25 rfl ?_
    by_cases c26 : w < 0 ∨ 3 < w
    · refine gg_tsO k 85 dX6_fault_26 (by decide) ⟨by omega, by omega⟩ c26 ?_
      refine gg_bipush k dX6_fault_85 (by decide +kernel) ?_
      exact hret _ _ _ _ dX6_fault_87 (⟨by omega, by omega⟩) (⟨hR, by unfold sFault; rw [if_pos (by omega), if_neg (by omega)]⟩)
    · rcases (show w = 0 ∨ w = 1 ∨ w = 2 ∨ w = 3 by omega) with c26 | c26 | c26 | c26
      · refine gg_tsI (c := 0) k 56 dX6_fault_26 c26 ⟨by omega, by omega⟩ (by decide) (by decide) rfl (by decide) ?_
        refine gg_aload_n k dX6_fault_56 rfl ?_
        refine gg_get k (mb0 hB) inX6_fault_X6 18 (by decide) fX6_fault_48 rfl rfl dX6_fault_57 ?_
        refine gg_iload_n k dX6_fault_60 rfl ?_
        refine gg_iald k (mb13 hB) (by omega) (by omega) dX6_fault_61 ?_
        refine gg_ti f1 ?_
        exact hret _ _ _ _ dX6_fault_62 (⟨by omega, by omega⟩) (⟨hR, by unfold sFault; rw [if_pos (by omega), if_pos (by omega)]; unfold fComp; rw [if_pos (by omega)]⟩)
      · refine gg_tsI (c := 1) k 63 dX6_fault_26 c26 ⟨by omega, by omega⟩ (by decide) (by decide) rfl (by decide) ?_
        refine gg_aload_n k dX6_fault_63 rfl ?_
        refine gg_get k (mb0 hB) inX6_fault_X6 19 (by decide) fX6_fault_51 rfl rfl dX6_fault_64 ?_
        refine gg_iload_n k dX6_fault_67 rfl ?_
        refine gg_iald k (mb14 hB) (by omega) (by omega) dX6_fault_68 ?_
        refine gg_ti f2 ?_
        exact hret _ _ _ _ dX6_fault_69 (⟨by omega, by omega⟩) (⟨hR, by unfold sFault; rw [if_pos (by omega), if_pos (by omega)]; unfold fComp; rw [if_neg (by omega), if_pos (by omega)]⟩)
      · refine gg_tsI (c := 2) k 70 dX6_fault_26 c26 ⟨by omega, by omega⟩ (by decide) (by decide) rfl (by decide) ?_
        refine gg_aload_n k dX6_fault_70 rfl ?_
        refine gg_get k (mb0 hB) inX6_fault_X6 20 (by decide) fX6_fault_54 rfl rfl dX6_fault_71 ?_
        refine gg_iload_n k dX6_fault_74 rfl ?_
        refine gg_iald k (mb15 hB) (by omega) (by omega) dX6_fault_75 ?_
        refine gg_ti f3 ?_
        exact hret _ _ _ _ dX6_fault_76 (⟨by omega, by omega⟩) (⟨hR, by unfold sFault; rw [if_pos (by omega), if_pos (by omega)]; unfold fComp; rw [if_neg (by omega), if_neg (by omega), if_pos (by omega)]⟩)
      · refine gg_tsI (c := 3) k 77 dX6_fault_26 c26 ⟨by omega, by omega⟩ (by decide) (by decide) rfl (by decide) ?_
        refine gg_aload_n k dX6_fault_77 rfl ?_
        refine gg_get k (mb0 hB) inX6_fault_X6 21 (by decide) fX6_fault_57 rfl rfl dX6_fault_78 ?_
        refine gg_iload_n k dX6_fault_81 rfl ?_
        refine gg_lald k (mb16 hB) (by omega) (by omega) dX6_fault_82 ?_
        refine gg_tl f4 ?_
        refine gg_l2i k dX6_fault_83 ?_
        exact hret _ _ _ _ dX6_fault_84 (⟨by omega, by omega⟩) (⟨hR, by unfold sFault; rw [if_pos (by omega), if_pos (by omega)]; unfold fComp; rw [if_neg (by omega), if_neg (by omega), if_neg (by omega)]⟩)
  · refine gg_iconst k dX6_fault_23 ?_
    exact hret _ _ _ _ dX6_fault_24 (⟨by omega, by omega⟩) (⟨hR, by unfold sFault; rw [if_neg (by omega)]⟩)
