
set_option maxRecDepth 100000 in
set_option maxHeartbeats 4000000 in
theorem kX5_share {l : Launch} {B : gB} {T : Int} {S : sS} {C : gSt} (hB : clsB B T) (hO : sOk S T) (hR : cRel S T C) (htr : l.stackTraces = false) (w b : Int) (hw : rI w) (hb : rI b) : gxMl l B yX5_share wsX5_share rX5_share [.ref (gad B (0)), .int (iI (w)), .int (iI (b))] C (fun z C' => cRel S T C' ∧ ((¬ ((0 ≤ w ∧ w ≤ 3) ∧ 0 ≤ b ∧ b ≤ 3) ∧ z = -9223372036854775808) ∨ (((0 ≤ w ∧ w ≤ 3) ∧ 0 ≤ b ∧ b ≤ 3) ∧ sPrice S T b ≠ 0 ∧ z = sShare S T w b))) (fun C' => cRel S T C' ∧ ((0 ≤ w ∧ w ≤ 3) ∧ 0 ≤ b ∧ b ≤ 3) ∧ sPrice S T b = 0) := by
  refine gxMl_of htr (Nat.le_of_ble_eq_true rfl) (fun K k hret hthr => ?_)
  show GG K B C 0 [(0, .ref (gad B (0))), (1, .int (iI (w))), (2, .int (iI (b)))] []
  have hT := hO.t
  have hc := hO.cnt
  obtain ⟨hw1, hw2⟩ := hw
  obtain ⟨hb1, hb2⟩ := hb
  refine gg_iload_n k dX5_share_0 rfl ?_
  refine gg_callsi (n := 1) (As := [.int (iI (w))]) (rest := []) k (kX5_isPrice (w) ⟨by omega, by omega⟩) ⟨_, _, _, gX5_share_X5_isPrice, rfl, rfl, rfl, by decide +kernel, by decide, by decide⟩ rfl rfl (Nat.le_of_ble_eq_true rfl) dX5_share_1 (fun z1 C1 r1 q1 => ?_)
  obtain ⟨q1, e1⟩ := q1
  rw [e1]
  clear e1
  obtain ⟨r1, s1⟩ := r1
  refine gg_if_eq k 14 dX5_share_4 (by decide) ⟨by omega, by omega⟩ (fun c4 => ?_) (fun c4 => ?_)
  · refine gg_ldc2 (z := -9223372036854775808) k dX5_share_14 (by decide +kernel) ?_
    exact hret _ _ _ _ dX5_share_17 (⟨by omega, by omega⟩) (⟨hR, Or.inl ⟨by omega, rfl⟩⟩)
  · refine gg_iload_n k dX5_share_7 rfl ?_
    refine gg_callsi (n := 1) (As := [.int (iI (b))]) (rest := []) k (kX5_isPrice (b) ⟨by omega, by omega⟩) ⟨_, _, _, gX5_share_X5_isPrice, rfl, rfl, rfl, by decide +kernel, by decide, by decide⟩ rfl rfl (Nat.le_of_ble_eq_true rfl) dX5_share_8 (fun z8 C8 r8 q8 => ?_)
    obtain ⟨q8, e8⟩ := q8
    rw [e8]
    clear e8
    obtain ⟨r8, s8⟩ := r8
    refine gg_if_ne k 18 dX5_share_11 (by decide) ⟨by omega, by omega⟩ (fun c11 => ?_) (fun c11 => ?_)
    · refine gg_aload_n k dX5_share_18 rfl ?_
      refine gg_iload_n k dX5_share_19 rfl ?_
      refine gg_calll (n := 1) (As := [.int (iI (b))]) (rest := []) k (kX5_priceOf hB hO hR (b) (by omega) (by omega)) ⟨_, _, _, gX5_share_X5_priceOf, rfl, rfl, rfl, by decide +kernel, by decide, by decide⟩ (cb0 hB) rfl rfl (Nat.le_of_ble_eq_true rfl) dX5_share_20 (fun z20 C20 r20 q20 => ?_)
      obtain ⟨hR, q20⟩ := q20
      obtain ⟨r20, s20⟩ := r20
      have pb20 := sPrice_b hO (b)
      refine gg_lstore_n k [(3, .long (iL (z20))), (0, .ref (gad B (0))), (1, .int (iI (w))), (2, .int (iI (b)))] dX5_share_23 (by decide) rfl ?_
      refine gg_lload_n k dX5_share_24 rfl ?_
      refine gg_lconst0 k dX5_share_25 ?_
      refine gg_lt_ne k 40 dX5_share_26 dX5_share_27 (by decide) ⟨by omega, by omega⟩ ⟨by omega, by omega⟩ (fun c26 => ?_) (fun c26 => ?_)
      · refine gg_ldc2 (z := 1000) k dX5_share_40 (by decide +kernel) ?_
        refine gg_aload_n k dX5_share_43 rfl ?_
        refine gg_iload_n k dX5_share_44 rfl ?_
        refine gg_calll (n := 1) (As := [.int (iI (w))]) (rest := [.long (iL (1000))]) k (kX5_priceOf hB hO hR (w) (by omega) (by omega)) ⟨_, _, _, gX5_share_X5_priceOf, rfl, rfl, rfl, by decide +kernel, by decide, by decide⟩ (cb0 hB) rfl rfl (Nat.le_of_ble_eq_true rfl) dX5_share_45 (fun z45 C45 r45 q45 => ?_)
        obtain ⟨hR, q45⟩ := q45
        obtain ⟨r45, s45⟩ := r45
        have pb45 := sPrice_b hO (w)
        refine gg_lmul k dX5_share_48 ?_
        refine gg_lload_n k dX5_share_49 rfl ?_
        refine gg_ldiv k ⟨by omega, by omega⟩ (by omega) ⟨by omega, by omega⟩ (by omega) dX5_share_50 ?_
        exact hret _ _ _ _ dX5_share_51 (by have := sShare_b hO w b; unfold sShare at this; rw [q45, q20]; exact ⟨by omega, by omega⟩) (⟨hR, Or.inr ⟨by omega, by omega, by unfold sShare; rw [← q45, ← q20]⟩⟩)
      · exact hthr _ _ ⟨hR, by omega, by omega⟩
    · refine gg_ldc2 (z := -9223372036854775808) k dX5_share_14 (by decide +kernel) ?_
      exact hret _ _ _ _ dX5_share_17 (⟨by omega, by omega⟩) (⟨hR, Or.inl ⟨by omega, rfl⟩⟩)
