/-! ===== the reference's world: 0 the object; 1 number, 2 needs, 3 lots, 4 times, 5 room, 6 reached, 7 left, 8 owes, 9 gone, 10 there, 11 stood, 12 setUp, 13 kind, 14 when, 15 whose, 16 by, 17 owedBy, 18 net, 19 least ===== -/
def mdlB (B : gB) (T : Int) : Prop :=
  gOB B 0 RX6 TX6 25 (fun f => [.int (iI (f 0)), .int (iI T), .int (iI (f 2)), .ref (gad B 1), .ref (gad B 2), .ref (gad B 3), .ref (gad B 4), .ref (gad B 5), .int (iI (f 8)), .int (iI (f 9)), .ref (gad B 6), .ref (gad B 7), .ref (gad B 8), .ref (gad B 9), .ref (gad B 10), .ref (gad B 11), .ref (gad B 12), .int (iI (f 17)), .ref (gad B 13), .ref (gad B 14), .ref (gad B 15), .ref (gad B 16), .ref (gad B 17), .ref (gad B 18), .ref (gad B 19)]) ∧
  gIA B 1 48 ∧ gIA B 2 78 ∧ gIA B 3 78 ∧ gIA B 4 36 ∧ gIA B 5 13 ∧ gZA B 6 6 ∧ gLA B 7 13 ∧ gLA B 8 13 ∧ gLA B 9 13 ∧ gLA B 10 13 ∧ gIA B 11 13 ∧ gZA B 12 78 ∧ gIA B 13 160 ∧ gIA B 14 160 ∧ gIA B 15 160 ∧ gLA B 16 160 ∧ gLA B 17 78 ∧ gIA B 18 13 ∧ gLA B 19 14
section MB
variable {B : gB} {T : Int}
theorem mb0 (h : mdlB B T) : gOB B 0 RX6 TX6 25 (fun f => [.int (iI (f 0)), .int (iI T), .int (iI (f 2)), .ref (gad B 1), .ref (gad B 2), .ref (gad B 3), .ref (gad B 4), .ref (gad B 5), .int (iI (f 8)), .int (iI (f 9)), .ref (gad B 6), .ref (gad B 7), .ref (gad B 8), .ref (gad B 9), .ref (gad B 10), .ref (gad B 11), .ref (gad B 12), .int (iI (f 17)), .ref (gad B 13), .ref (gad B 14), .ref (gad B 15), .ref (gad B 16), .ref (gad B 17), .ref (gad B 18), .ref (gad B 19)]) := h.1
theorem mb1 (h : mdlB B T) : gIA B 1 48 := h.2.1
theorem mb2 (h : mdlB B T) : gIA B 2 78 := h.2.2.1
theorem mb3 (h : mdlB B T) : gIA B 3 78 := h.2.2.2.1
theorem mb4 (h : mdlB B T) : gIA B 4 36 := h.2.2.2.2.1
theorem mb5 (h : mdlB B T) : gIA B 5 13 := h.2.2.2.2.2.1
theorem mb6 (h : mdlB B T) : gZA B 6 6 := h.2.2.2.2.2.2.1
theorem mb7 (h : mdlB B T) : gLA B 7 13 := h.2.2.2.2.2.2.2.1
theorem mb8 (h : mdlB B T) : gLA B 8 13 := h.2.2.2.2.2.2.2.2.1
theorem mb9 (h : mdlB B T) : gLA B 9 13 := h.2.2.2.2.2.2.2.2.2.1
theorem mb10 (h : mdlB B T) : gLA B 10 13 := h.2.2.2.2.2.2.2.2.2.2.1
theorem mb11 (h : mdlB B T) : gIA B 11 13 := h.2.2.2.2.2.2.2.2.2.2.2.1
theorem mb12 (h : mdlB B T) : gZA B 12 78 := h.2.2.2.2.2.2.2.2.2.2.2.2.1
theorem mb13 (h : mdlB B T) : gIA B 13 160 := h.2.2.2.2.2.2.2.2.2.2.2.2.2.1
theorem mb14 (h : mdlB B T) : gIA B 14 160 := h.2.2.2.2.2.2.2.2.2.2.2.2.2.2.1
theorem mb15 (h : mdlB B T) : gIA B 15 160 := h.2.2.2.2.2.2.2.2.2.2.2.2.2.2.2.1
theorem mb16 (h : mdlB B T) : gLA B 16 160 := h.2.2.2.2.2.2.2.2.2.2.2.2.2.2.2.2.1
theorem mb17 (h : mdlB B T) : gLA B 17 78 := h.2.2.2.2.2.2.2.2.2.2.2.2.2.2.2.2.2.1
theorem mb18 (h : mdlB B T) : gIA B 18 13 := h.2.2.2.2.2.2.2.2.2.2.2.2.2.2.2.2.2.2.1
theorem mb19 (h : mdlB B T) : gLA B 19 14 := h.2.2.2.2.2.2.2.2.2.2.2.2.2.2.2.2.2.2.2
end MB
/-- the reference's cells hold S -/
def mRel (S : sS) (T : Int) (C : gSt) : Prop := C 0 2 = sCnt S ∧ C 0 8 = sOvr S 0 ∧ C 0 9 = sOvr S 1 ∧ (∀ i w : Int, 0 ≤ i → i < 6 → 0 ≤ w → w < 8 → C 1 (8 * i + w) = sNum S i w) ∧ (∀ i p : Int, 0 ≤ i → i < 6 → 0 ≤ p → p < 13 → C 2 (13 * i + p) = sNee S i p ∧ C 3 (13 * i + p) = sLot S i p) ∧ (∀ i j : Int, 0 ≤ i → i < 6 → 0 ≤ j → j < 6 → C 4 (6 * i + j) = sTim S i j) ∧ (∀ p : Int, 1 ≤ p → p ≤ T → C 5 p = sCap S p)
section MR
variable {S : sS} {T : Int} {C C' : gSt}
theorem mRel.cnt (h : mRel S T C) : C 0 2 = sCnt S := h.1
theorem mRel.ovp (h : mRel S T C) : C 0 8 = sOvr S 0 := h.2.1
theorem mRel.mov (h : mRel S T C) : C 0 9 = sOvr S 1 := h.2.2.1
theorem mRel.num (h : mRel S T C) {i w e : Int} (he : e = 8 * i + w) (h0 : 0 ≤ i) (h1 : i < 6) (h2 : 0 ≤ w) (h3 : w < 8) : C 1 e = sNum S i w := he ▸ h.2.2.2.1 i w h0 h1 h2 h3
theorem mRel.nee (h : mRel S T C) {i p e : Int} (he : e = 13 * i + p) (h0 : 0 ≤ i) (h1 : i < 6) (h2 : 0 ≤ p) (h3 : p < 13) : C 2 e = sNee S i p := he ▸ (h.2.2.2.2.1 i p h0 h1 h2 h3).1
theorem mRel.lot (h : mRel S T C) {i p e : Int} (he : e = 13 * i + p) (h0 : 0 ≤ i) (h1 : i < 6) (h2 : 0 ≤ p) (h3 : p < 13) : C 3 e = sLot S i p := he ▸ (h.2.2.2.2.1 i p h0 h1 h2 h3).2
theorem mRel.tim (h : mRel S T C) {i j e : Int} (he : e = 6 * i + j) (h0 : 0 ≤ i) (h1 : i < 6) (h2 : 0 ≤ j) (h3 : j < 6) : C 4 e = sTim S i j := he ▸ h.2.2.2.2.2.1 i j h0 h1 h2 h3
theorem mRel.cap (h : mRel S T C) {p : Int} (h0 : 1 ≤ p) (h1 : p ≤ T) : C 5 p = sCap S p := h.2.2.2.2.2.2 p h0 h1
theorem mRel.of (h : mRel S T C) (h0 : C' 0 2 = C 0 2 ∧ C' 0 8 = C 0 8 ∧ C' 0 9 = C 0 9) (h1 : ∀ q : Nat, 1 ≤ q → q ≤ 5 → C' q = C q) : mRel S T C' := by
  refine ⟨h0.1.trans h.1, h0.2.1.trans h.2.1, h0.2.2.trans h.2.2.1, fun i w a b c d => ?_, fun i p a b c d => ?_, fun i j a b c d => ?_, fun p a b => ?_⟩
  · rw [h1 1 (by omega) (by omega)]; exact h.2.2.2.1 i w a b c d
  · rw [h1 2 (by omega) (by omega), h1 3 (by omega) (by omega)]; exact h.2.2.2.2.1 i p a b c d
  · rw [h1 4 (by omega) (by omega)]; exact h.2.2.2.2.2.1 i j a b c d
  · rw [h1 5 (by omega) (by omega)]; exact h.2.2.2.2.2.2 p a b
theorem mRel.wri (h : mRel S T C) {q : Nat} {e v : Int} (hq : 6 ≤ q ∨ (q = 0 ∧ e ≠ 2 ∧ e ≠ 8 ∧ e ≠ 9)) : mRel S T (wr C q e v) := by
  refine h.of ?_ (fun q' h1 h2 => wr_k (by omega))
  rcases hq with hq | ⟨rfl, h2, h8, h9⟩
  · rw [wr_k (by omega)]; exact ⟨rfl, rfl, rfl⟩
  · exact ⟨wr_j (Ne.symm h2), wr_j (Ne.symm h8), wr_j (Ne.symm h9)⟩
end MR
section MUP
variable {S : sS} {T : Int} {C : gSt}
theorem sUp_n {n m : Nat} {i j v a w : Int} (h : m ≠ n) : sUp S n i j v m a w = S m a w := by unfold sUp; rw [if_neg (fun z => h z.1)]
theorem sUp_w {n : Nat} {i j v a w : Int} : sUp S n i j v n a w = if a = i ∧ w = j then v else S n a w := by
  unfold sUp
  by_cases h : a = i ∧ w = j
  · rw [if_pos h, if_pos ⟨rfl, h⟩]
  · rw [if_neg h, if_neg (fun z => h z.2)]
theorem mRel.upN (h : mRel S T C) {i w v : Int} (h0 : 0 ≤ i) (h1 : i < 6) (h2 : 0 ≤ w) (h3 : w < 8) {e : Int} (he : e = 8 * i + w) : mRel (sUp S 0 i w v) T (wr C 1 e v) := by
  subst he
  refine ⟨?_, ?_, ?_, fun a b p q r s => ?_, fun a b p q r s => ?_, fun a b p q r s => ?_, fun p a b => ?_⟩
  · rw [wr_k (by omega), h.1]; exact (sUp_n (by omega)).symm
  · rw [wr_k (by omega), h.2.1]; exact (sUp_n (by omega)).symm
  · rw [wr_k (by omega), h.2.2.1]; exact (sUp_n (by omega)).symm
  · rw [wr_w]; unfold sNum; rw [sUp_w]
    by_cases hz : a = i ∧ b = w
    · rw [if_pos hz, if_pos (by omega)]
    · rw [if_neg hz, if_neg (by omega)]; exact h.2.2.2.1 a b p q r s
  · rw [wr_k (by omega), wr_k (by omega)]; unfold sNee sLot; rw [sUp_n (by omega), sUp_n (by omega)]; exact h.2.2.2.2.1 a b p q r s
  · rw [wr_k (by omega)]; unfold sTim; rw [sUp_n (by omega)]; exact h.2.2.2.2.2.1 a b p q r s
  · rw [wr_k (by omega)]; unfold sCap; rw [sUp_n (by omega)]; exact h.2.2.2.2.2.2 p a b
theorem mRel.upE (h : mRel S T C) {i w v : Int} (h0 : 0 ≤ i) (h1 : i < 6) (h2 : 0 ≤ w) (h3 : w < 13) {e : Int} (he : e = 13 * i + w) : mRel (sUp S 1 i w v) T (wr C 2 e v) := by
  subst he
  refine ⟨?_, ?_, ?_, fun a b p q r s => ?_, fun a b p q r s => ?_, fun a b p q r s => ?_, fun p a b => ?_⟩
  · rw [wr_k (by omega), h.1]; exact (sUp_n (by omega)).symm
  · rw [wr_k (by omega), h.2.1]; exact (sUp_n (by omega)).symm
  · rw [wr_k (by omega), h.2.2.1]; exact (sUp_n (by omega)).symm
  · rw [wr_k (by omega)]; unfold sNum; rw [sUp_n (by omega)]; exact h.2.2.2.1 a b p q r s
  · rw [wr_w, wr_k (by omega)]; unfold sNee sLot; rw [sUp_w, sUp_n (by omega)]
    refine ⟨?_, (h.2.2.2.2.1 a b p q r s).2⟩
    by_cases hz : a = i ∧ b = w
    · rw [if_pos hz, if_pos (by omega)]
    · rw [if_neg hz, if_neg (by omega)]; exact (h.2.2.2.2.1 a b p q r s).1
  · rw [wr_k (by omega)]; unfold sTim; rw [sUp_n (by omega)]; exact h.2.2.2.2.2.1 a b p q r s
  · rw [wr_k (by omega)]; unfold sCap; rw [sUp_n (by omega)]; exact h.2.2.2.2.2.2 p a b
theorem mRel.upL (h : mRel S T C) {i w v : Int} (h0 : 0 ≤ i) (h1 : i < 6) (h2 : 0 ≤ w) (h3 : w < 13) {e : Int} (he : e = 13 * i + w) : mRel (sUp S 2 i w v) T (wr C 3 e v) := by
  subst he
  refine ⟨?_, ?_, ?_, fun a b p q r s => ?_, fun a b p q r s => ?_, fun a b p q r s => ?_, fun p a b => ?_⟩
  · rw [wr_k (by omega), h.1]; exact (sUp_n (by omega)).symm
  · rw [wr_k (by omega), h.2.1]; exact (sUp_n (by omega)).symm
  · rw [wr_k (by omega), h.2.2.1]; exact (sUp_n (by omega)).symm
  · rw [wr_k (by omega)]; unfold sNum; rw [sUp_n (by omega)]; exact h.2.2.2.1 a b p q r s
  · rw [wr_w, wr_k (by omega)]; unfold sNee sLot; rw [sUp_n (by omega), sUp_w]
    refine ⟨(h.2.2.2.2.1 a b p q r s).1, ?_⟩
    by_cases hz : a = i ∧ b = w
    · rw [if_pos hz, if_pos (by omega)]
    · rw [if_neg hz, if_neg (by omega)]; exact (h.2.2.2.2.1 a b p q r s).2
  · rw [wr_k (by omega)]; unfold sTim; rw [sUp_n (by omega)]; exact h.2.2.2.2.2.1 a b p q r s
  · rw [wr_k (by omega)]; unfold sCap; rw [sUp_n (by omega)]; exact h.2.2.2.2.2.2 p a b
theorem mRel.upT (h : mRel S T C) {i w v : Int} (h0 : 0 ≤ i) (h1 : i < 6) (h2 : 0 ≤ w) (h3 : w < 6) {e : Int} (he : e = 6 * i + w) : mRel (sUp S 3 i w v) T (wr C 4 e v) := by
  subst he
  refine ⟨?_, ?_, ?_, fun a b p q r s => ?_, fun a b p q r s => ?_, fun a b p q r s => ?_, fun p a b => ?_⟩
  · rw [wr_k (by omega), h.1]; exact (sUp_n (by omega)).symm
  · rw [wr_k (by omega), h.2.1]; exact (sUp_n (by omega)).symm
  · rw [wr_k (by omega), h.2.2.1]; exact (sUp_n (by omega)).symm
  · rw [wr_k (by omega)]; unfold sNum; rw [sUp_n (by omega)]; exact h.2.2.2.1 a b p q r s
  · rw [wr_k (by omega), wr_k (by omega)]; unfold sNee sLot; rw [sUp_n (by omega), sUp_n (by omega)]; exact h.2.2.2.2.1 a b p q r s
  · rw [wr_w]; unfold sTim; rw [sUp_w]
    by_cases hz : a = i ∧ b = w
    · rw [if_pos hz, if_pos (by omega)]
    · rw [if_neg hz, if_neg (by omega)]; exact h.2.2.2.2.2.1 a b p q r s
  · rw [wr_k (by omega)]; unfold sCap; rw [sUp_n (by omega)]; exact h.2.2.2.2.2.2 p a b
theorem mRel.upCap (h : mRel S T C) {p0 v : Int} : mRel (sUp S 4 0 p0 v) T (wr C 5 p0 v) := by
  refine ⟨?_, ?_, ?_, fun a b p q r s => ?_, fun a b p q r s => ?_, fun a b p q r s => ?_, fun p a b => ?_⟩
  · rw [wr_k (by omega), h.1]; exact (sUp_n (by omega)).symm
  · rw [wr_k (by omega), h.2.1]; exact (sUp_n (by omega)).symm
  · rw [wr_k (by omega), h.2.2.1]; exact (sUp_n (by omega)).symm
  · rw [wr_k (by omega)]; unfold sNum; rw [sUp_n (by omega)]; exact h.2.2.2.1 a b p q r s
  · rw [wr_k (by omega), wr_k (by omega)]; unfold sNee sLot; rw [sUp_n (by omega), sUp_n (by omega)]; exact h.2.2.2.2.1 a b p q r s
  · rw [wr_k (by omega)]; unfold sTim; rw [sUp_n (by omega)]; exact h.2.2.2.2.2.1 a b p q r s
  · rw [wr_w]; unfold sCap; rw [sUp_w]
    by_cases hz : p = p0
    · rw [if_pos hz, if_pos ⟨rfl, hz⟩]
    · rw [if_neg hz, if_neg (fun z => hz z.2)]; exact h.2.2.2.2.2.2 p a b
theorem mRel.upF (h : mRel S T C) {f v : Int} {n : Nat} (hn : 5 ≤ n) {j : Int} (h2 : (if (2 : Int) = f then v else C 0 2) = sUp S n 0 j v 6 0 0) (h8 : (if (8 : Int) = f then v else C 0 8) = sUp S n 0 j v 5 0 0) (h9 : (if (9 : Int) = f then v else C 0 9) = sUp S n 0 j v 5 0 1) : mRel (sUp S n 0 j v) T (wr C 0 f v) := by
  refine ⟨?_, ?_, ?_, fun a b p q r s => ?_, fun a b p q r s => ?_, fun a b p q r s => ?_, fun p a b => ?_⟩
  · rw [wr_w]; exact h2
  · rw [wr_w]; exact h8
  · rw [wr_w]; exact h9
  · rw [wr_k (by omega)]; unfold sNum; rw [sUp_n (by omega)]; exact h.2.2.2.1 a b p q r s
  · rw [wr_k (by omega), wr_k (by omega)]; unfold sNee sLot; rw [sUp_n (by omega), sUp_n (by omega)]; exact h.2.2.2.2.1 a b p q r s
  · rw [wr_k (by omega)]; unfold sTim; rw [sUp_n (by omega)]; exact h.2.2.2.2.2.1 a b p q r s
  · rw [wr_k (by omega)]; unfold sCap; rw [sUp_n (by omega)]; exact h.2.2.2.2.2.2 p a b
theorem mRel.upCnt (h : mRel S T C) {v : Int} : mRel (sUp S 6 0 0 v) T (wr C 0 2 v) := by
  refine h.upF (by omega) ?_ ?_ ?_
  · rw [if_pos rfl, sUp_w, if_pos ⟨rfl, rfl⟩]
  · rw [if_neg (by omega), sUp_n (by omega)]; exact h.ovp
  · rw [if_neg (by omega), sUp_n (by omega)]; exact h.mov
theorem mRel.upO0 (h : mRel S T C) {v : Int} : mRel (sUp S 5 0 0 v) T (wr C 0 8 v) := by
  refine h.upF (by omega) ?_ ?_ ?_
  · rw [if_neg (by omega), sUp_n (by omega)]; exact h.cnt
  · rw [if_pos rfl, sUp_w, if_pos ⟨rfl, rfl⟩]
  · rw [if_neg (by omega), sUp_w, if_neg (fun z => by omega)]; exact h.mov
theorem mRel.upO1 (h : mRel S T C) {v : Int} : mRel (sUp S 5 0 1 v) T (wr C 0 9 v) := by
  refine h.upF (by omega) ?_ ?_ ?_
  · rw [if_neg (by omega), sUp_n (by omega)]; exact h.cnt
  · rw [if_neg (by omega), sUp_w, if_neg (fun z => by omega)]; exact h.ovp
  · rw [if_pos rfl, sUp_w, if_pos ⟨rfl, rfl⟩]
theorem wr_id {q : Nat} {e : Int} : wr C q e (C q e) = C := by
  funext k j
  unfold wr
  split
  · rename_i h; rw [h.1, h.2]
  · rfl
end MUP
