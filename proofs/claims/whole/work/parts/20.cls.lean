/-! ===== what is told, as numbers: S 0 i w an item's numbers, S 1 needs, S 2 lots, S 3 times part of, S 4 0 p capacities, S 5 0 w over, S 6 0 0 how many items ===== -/
abbrev sS : Type := Nat → Int → Int → Int
def sNum (S : sS) (i w : Int) : Int := S 0 i w
def sNee (S : sS) (i p : Int) : Int := S 1 i p
def sLot (S : sS) (i p : Int) : Int := S 2 i p
def sTim (S : sS) (i j : Int) : Int := S 3 i j
def sCap (S : sS) (p : Int) : Int := S 4 0 p
def sOvr (S : sS) (w : Int) : Int := S 5 0 w
def sCnt (S : sS) : Int := S 6 0 0
def sBnd (w : Int) : Int := if w = 0 then 10000 else if w = 1 then 100 else if w = 2 then 1000 else if w = 3 then 12 else if w = 4 then 1000 else if w = 5 then 20 else if w = 6 then 200 else if w = 7 then 3 else 0
def sOk (S : sS) (T : Int) : Prop := (1 ≤ T ∧ T ≤ 12) ∧ (0 ≤ sCnt S ∧ sCnt S ≤ 6) ∧ (∀ i w, 0 ≤ sNum S i w ∧ sNum S i w ≤ sBnd w) ∧ (∀ i p, 0 ≤ sNee S i p ∧ sNee S i p ≤ 1000) ∧ (∀ i p, 0 ≤ sLot S i p ∧ sLot S i p ≤ 5000) ∧ (∀ i j, 0 ≤ sTim S i j ∧ sTim S i j ≤ 9) ∧ (∀ p, 0 ≤ sCap S p ∧ sCap S p ≤ 10000) ∧ (∀ w, 0 ≤ sOvr S w ∧ sOvr S w ≤ if w = 0 then 100 else 10000) ∧ (∀ i j, ¬ (0 ≤ j ∧ j < sCnt S) → sTim S i j = 0)
section SOK
variable {S : sS} {T : Int}
theorem sOk.t (h : sOk S T) : 1 ≤ T ∧ T ≤ 12 := h.1
theorem sOk.cnt (h : sOk S T) : 0 ≤ sCnt S ∧ sCnt S ≤ 6 := h.2.1
theorem sOk.num (h : sOk S T) (i w : Int) : 0 ≤ sNum S i w ∧ sNum S i w ≤ sBnd w := h.2.2.1 i w
theorem sOk.nee (h : sOk S T) (i p : Int) : 0 ≤ sNee S i p ∧ sNee S i p ≤ 1000 := h.2.2.2.1 i p
theorem sOk.lot (h : sOk S T) (i p : Int) : 0 ≤ sLot S i p ∧ sLot S i p ≤ 5000 := h.2.2.2.2.1 i p
theorem sOk.tim (h : sOk S T) (i j : Int) : 0 ≤ sTim S i j ∧ sTim S i j ≤ 9 := h.2.2.2.2.2.1 i j
theorem sOk.cap (h : sOk S T) (p : Int) : 0 ≤ sCap S p ∧ sCap S p ≤ 10000 := h.2.2.2.2.2.2.1 p
theorem sOk.ovr (h : sOk S T) (w : Int) : 0 ≤ sOvr S w ∧ sOvr S w ≤ 10000 := ⟨(h.2.2.2.2.2.2.2.1 w).1, by have := (h.2.2.2.2.2.2.2.1 w).2; split at this <;> omega⟩
theorem sOk.ovr0 (h : sOk S T) : 0 ≤ sOvr S 0 ∧ sOvr S 0 ≤ 100 := h.2.2.2.2.2.2.2.1 0
theorem sOk.tim0 (h : sOk S T) (i j : Int) (hj : ¬ (0 ≤ j ∧ j < sCnt S)) : sTim S i j = 0 := h.2.2.2.2.2.2.2.2 i j hj
theorem sOk.n0 (h : sOk S T) (i : Int) : 0 ≤ sNum S i 0 ∧ sNum S i 0 ≤ 10000 := h.num i 0
theorem sOk.n1 (h : sOk S T) (i : Int) : 0 ≤ sNum S i 1 ∧ sNum S i 1 ≤ 100 := h.num i 1
theorem sOk.n2 (h : sOk S T) (i : Int) : 0 ≤ sNum S i 2 ∧ sNum S i 2 ≤ 1000 := h.num i 2
theorem sOk.n3 (h : sOk S T) (i : Int) : 0 ≤ sNum S i 3 ∧ sNum S i 3 ≤ 12 := h.num i 3
theorem sOk.n4 (h : sOk S T) (i : Int) : 0 ≤ sNum S i 4 ∧ sNum S i 4 ≤ 1000 := h.num i 4
theorem sOk.n5 (h : sOk S T) (i : Int) : 0 ≤ sNum S i 5 ∧ sNum S i 5 ≤ 20 := h.num i 5
theorem sOk.n6 (h : sOk S T) (i : Int) : 0 ≤ sNum S i 6 ∧ sNum S i 6 ≤ 200 := h.num i 6
theorem sOk.n7 (h : sOk S T) (i : Int) : 0 ≤ sNum S i 7 ∧ sNum S i 7 ≤ 3 := h.num i 7
end SOK
/-! ===== the class's world: 0 the object, 1 its items; 2+9i an Item, 3+9i numbers, 4+9i needs, 5+9i lots, 6+9i timesPartOf, 7+9i Store, 8+9i stocks, 9+9i losses, 10+9i left; 56 capacities, 57 overs, 58 Machine, 59 setUps, 60 standing, 61 FaultList, 62 cells, 63 Alone, 64 nets, 65 costs, 66 untils, 67 amounts ===== -/
def clsB (B : gB) (T : Int) : Prop :=
  gOB B 0 RX5 TX5 8 (fun f => [.int (iI T), .ref (gad B 1), .int (iI (f 2)), .ref (gad B 56), .ref (gad B 57), .ref (gad B 58), .ref (gad B 61), .ref (gad B 63)]) ∧
  gQA B 1 6 (fun j => 2 + 9 * j) ∧
  (∀ i : Nat, i < 6 → gOB B (2 + 9 * i) RX2 TX2 5 (fun _ => [.ref (gad B (3 + 9 * i)), .ref (gad B (4 + 9 * i)), .ref (gad B (5 + 9 * i)), .ref (gad B (6 + 9 * i)), .ref (gad B (7 + 9 * i))]) ∧
    gIA B (3 + 9 * i) 8 ∧ gIA B (4 + 9 * i) (T.toNat + 1) ∧ gIA B (5 + 9 * i) (T.toNat + 1) ∧ gIA B (6 + 9 * i) 6 ∧
    gOB B (7 + 9 * i) RX4 TX4 3 (fun _ => [.ref (gad B (8 + 9 * i)), .ref (gad B (9 + 9 * i)), .ref (gad B (10 + 9 * i))]) ∧
    gIA B (8 + 9 * i) (T.toNat + 1) ∧ gIA B (9 + 9 * i) (T.toNat + 1) ∧ gIA B (10 + 9 * i) (T.toNat + 1)) ∧
  gIA B 56 (T.toNat + 1) ∧ gIA B 57 2 ∧
  gOB B 58 RX3 TX3 2 (fun _ => [.ref (gad B 59), .ref (gad B 60)]) ∧ gIA B 59 (T.toNat + 1) ∧ gIA B 60 (T.toNat + 1) ∧
  gOB B 61 RX1 TX1 2 (fun f => [.int (iI (f 0)), .ref (gad B 62)]) ∧ gIA B 62 (T.toNat * 52) ∧
  gOB B 63 RX0 TX0 5 (fun _ => [.int (iI T), .ref (gad B 64), .ref (gad B 65), .ref (gad B 66), .ref (gad B 67)]) ∧
  gIA B 64 (T.toNat + 1) ∧ gLA B 65 (T.toNat + 2) ∧ gIA B 66 (T.toNat + 1) ∧ gIA B 67 (T.toNat + 1)
section CB
variable {B : gB} {T : Int}
theorem cb0 (h : clsB B T) : gOB B 0 RX5 TX5 8 (fun f => [.int (iI T), .ref (gad B 1), .int (iI (f 2)), .ref (gad B 56), .ref (gad B 57), .ref (gad B 58), .ref (gad B 61), .ref (gad B 63)]) := h.1
theorem cb1 (h : clsB B T) : gQA B 1 6 (fun j => 2 + 9 * j) := h.2.1
theorem cbItem (h : clsB B T) {i : Int} (h0 : 0 ≤ i) (h1 : i < 6) : gOB B (2 + 9 * i.toNat) RX2 TX2 5 (fun _ => [.ref (gad B (3 + 9 * i.toNat)), .ref (gad B (4 + 9 * i.toNat)), .ref (gad B (5 + 9 * i.toNat)), .ref (gad B (6 + 9 * i.toNat)), .ref (gad B (7 + 9 * i.toNat))]) := (h.2.2.1 i.toNat (by omega)).1
theorem cbNum (h : clsB B T) {i : Int} (h0 : 0 ≤ i) (h1 : i < 6) : gIA B (3 + 9 * i.toNat) 8 := (h.2.2.1 i.toNat (by omega)).2.1
theorem cbNee (h : clsB B T) {i : Int} (h0 : 0 ≤ i) (h1 : i < 6) : gIA B (4 + 9 * i.toNat) (T.toNat + 1) := (h.2.2.1 i.toNat (by omega)).2.2.1
theorem cbLot (h : clsB B T) {i : Int} (h0 : 0 ≤ i) (h1 : i < 6) : gIA B (5 + 9 * i.toNat) (T.toNat + 1) := (h.2.2.1 i.toNat (by omega)).2.2.2.1
theorem cbTim (h : clsB B T) {i : Int} (h0 : 0 ≤ i) (h1 : i < 6) : gIA B (6 + 9 * i.toNat) 6 := (h.2.2.1 i.toNat (by omega)).2.2.2.2.1
theorem cbStore (h : clsB B T) {i : Int} (h0 : 0 ≤ i) (h1 : i < 6) : gOB B (7 + 9 * i.toNat) RX4 TX4 3 (fun _ => [.ref (gad B (8 + 9 * i.toNat)), .ref (gad B (9 + 9 * i.toNat)), .ref (gad B (10 + 9 * i.toNat))]) := (h.2.2.1 i.toNat (by omega)).2.2.2.2.2.1
theorem cbStocks (h : clsB B T) {i : Int} (h0 : 0 ≤ i) (h1 : i < 6) : gIA B (8 + 9 * i.toNat) (T.toNat + 1) := (h.2.2.1 i.toNat (by omega)).2.2.2.2.2.2.1
theorem cbLosses (h : clsB B T) {i : Int} (h0 : 0 ≤ i) (h1 : i < 6) : gIA B (9 + 9 * i.toNat) (T.toNat + 1) := (h.2.2.1 i.toNat (by omega)).2.2.2.2.2.2.2.1
theorem cbLeft (h : clsB B T) {i : Int} (h0 : 0 ≤ i) (h1 : i < 6) : gIA B (10 + 9 * i.toNat) (T.toNat + 1) := (h.2.2.1 i.toNat (by omega)).2.2.2.2.2.2.2.2
theorem cbCap (h : clsB B T) : gIA B 56 (T.toNat + 1) := h.2.2.2.1
theorem cbOvr (h : clsB B T) : gIA B 57 2 := h.2.2.2.2.1
theorem cbMach (h : clsB B T) : gOB B 58 RX3 TX3 2 (fun _ => [.ref (gad B 59), .ref (gad B 60)]) := h.2.2.2.2.2.1
theorem cbSetUps (h : clsB B T) : gIA B 59 (T.toNat + 1) := h.2.2.2.2.2.2.1
theorem cbStanding (h : clsB B T) : gIA B 60 (T.toNat + 1) := h.2.2.2.2.2.2.2.1
theorem cbFL (h : clsB B T) : gOB B 61 RX1 TX1 2 (fun f => [.int (iI (f 0)), .ref (gad B 62)]) := h.2.2.2.2.2.2.2.2.1
theorem cbCells (h : clsB B T) : gIA B 62 (T.toNat * 52) := h.2.2.2.2.2.2.2.2.2.1
theorem cbAlone (h : clsB B T) : gOB B 63 RX0 TX0 5 (fun _ => [.int (iI T), .ref (gad B 64), .ref (gad B 65), .ref (gad B 66), .ref (gad B 67)]) := h.2.2.2.2.2.2.2.2.2.2.1
theorem cbNets (h : clsB B T) : gIA B 64 (T.toNat + 1) := h.2.2.2.2.2.2.2.2.2.2.2.1
theorem cbCosts (h : clsB B T) : gLA B 65 (T.toNat + 2) := h.2.2.2.2.2.2.2.2.2.2.2.2.1
theorem cbUntils (h : clsB B T) : gIA B 66 (T.toNat + 1) := h.2.2.2.2.2.2.2.2.2.2.2.2.2.1
theorem cbAmounts (h : clsB B T) : gIA B 67 (T.toNat + 1) := h.2.2.2.2.2.2.2.2.2.2.2.2.2.2
end CB
/-- the class's cells hold S -/
def cRel (S : sS) (T : Int) (C : gSt) : Prop := C 0 2 = sCnt S ∧ (∀ i : Int, 0 ≤ i → i < 6 → C (3 + 9 * i.toNat) = S 0 i ∧ C (4 + 9 * i.toNat) = S 1 i ∧ C (5 + 9 * i.toNat) = S 2 i ∧ C (6 + 9 * i.toNat) = S 3 i) ∧ (∀ p : Int, 1 ≤ p → p ≤ T → C 56 p = sCap S p) ∧ C 57 = S 5 0 ∧ C 60 0 = -3 ∧ C 65 (T + 1) = 0
/-- cells that every question works out anew -/
def scr (q : Nat) : Prop := (2 ≤ q ∧ q < 56 ∧ 6 ≤ (q - 2) % 9) ∨ q = 59 ∨ q = 61 ∨ q = 62 ∨ q = 64 ∨ q = 66 ∨ q = 67
section CR
variable {S : sS} {T : Int} {C C' : gSt}
theorem cRel.cnt (h : cRel S T C) : C 0 2 = sCnt S := h.1
theorem cRel.num (h : cRel S T C) {i : Int} (w : Int) (h0 : 0 ≤ i) (h1 : i < 6) : C (3 + 9 * i.toNat) w = sNum S i w := congrFun (h.2.1 i h0 h1).1 w
theorem cRel.nee (h : cRel S T C) {i : Int} (w : Int) (h0 : 0 ≤ i) (h1 : i < 6) : C (4 + 9 * i.toNat) w = sNee S i w := congrFun (h.2.1 i h0 h1).2.1 w
theorem cRel.lot (h : cRel S T C) {i : Int} (w : Int) (h0 : 0 ≤ i) (h1 : i < 6) : C (5 + 9 * i.toNat) w = sLot S i w := congrFun (h.2.1 i h0 h1).2.2.1 w
theorem cRel.tim (h : cRel S T C) {i : Int} (w : Int) (h0 : 0 ≤ i) (h1 : i < 6) : C (6 + 9 * i.toNat) w = sTim S i w := congrFun (h.2.1 i h0 h1).2.2.2 w
theorem cRel.cap (h : cRel S T C) {p : Int} (h0 : 1 ≤ p) (h1 : p ≤ T) : C 56 p = sCap S p := h.2.2.1 p h0 h1
theorem cRel.ovr (h : cRel S T C) (w : Int) : C 57 w = sOvr S w := congrFun h.2.2.2.1 w
theorem cRel.st0 (h : cRel S T C) : C 60 0 = -3 := h.2.2.2.2.1
theorem cRel.co1 (h : cRel S T C) : C 65 (T + 1) = 0 := h.2.2.2.2.2
theorem cRel.of (h : cRel S T C) (h1 : ∀ q, ¬ scr q → q ≠ 60 → q ≠ 65 → C' q = C q) (h2 : C' 60 0 = C 60 0) (h3 : C' 65 (T + 1) = C 65 (T + 1)) : cRel S T C' := by
  unfold scr at h1
  refine ⟨by rw [h1 0 (by omega) (by omega) (by omega)]; exact h.1, fun i h0 h6 => ?_, fun p q1 q2 => by rw [h1 56 (by omega) (by omega) (by omega)]; exact h.2.2.1 p q1 q2, by rw [h1 57 (by omega) (by omega) (by omega)]; exact h.2.2.2.1, h2.trans h.st0, h3.trans h.co1⟩
  rw [h1 (3 + 9 * i.toNat) (by omega) (by omega) (by omega), h1 (4 + 9 * i.toNat) (by omega) (by omega) (by omega), h1 (5 + 9 * i.toNat) (by omega) (by omega) (by omega), h1 (6 + 9 * i.toNat) (by omega) (by omega) (by omega)]
  exact h.2.1 i h0 h6
theorem cRel.wri (h : cRel S T C) {q : Nat} {e v : Int} (hq : scr q ∨ (q = 60 ∧ e ≠ 0) ∨ (q = 65 ∧ e ≠ T + 1)) : cRel S T (wr C q e v) := by
  refine h.of (fun q' h1 h2 h3 => ?_) ?_ ?_
  · refine wr_k (fun w => ?_)
    subst w
    rcases hq with w | w | w
    · exact h1 w
    · exact h2 w.1
    · exact h3 w.1
  · by_cases w : q = 60
    · subst w
      rcases hq with w | w | w
      · unfold scr at w; omega
      · exact wr_j (Ne.symm w.2)
      · omega
    · rw [wr_k (Ne.symm w)]
  · by_cases w : q = 65
    · subst w
      rcases hq with w | w | w
      · unfold scr at w; omega
      · omega
      · exact wr_j (Ne.symm w.2)
    · rw [wr_k (Ne.symm w)]
end CR
section GG4
variable {K : gK} {B : gB} {C : gSt} {pc : Nat} {lv : gLv} {st : List Value}
theorem gg_ti {a b : Int} (hab : a = b) (h : GG K B C pc lv (.int (iI b) :: st)) : GG K B C pc lv (.int (iI a) :: st) := by rw [hab]; exact h
theorem gg_tl {a b : Int} (hab : a = b) (h : GG K B C pc lv (.long (iL b) :: st)) : GG K B C pc lv (.long (iL a) :: st) := by rw [hab]; exact h
end GG4
theorem gg_nm {K : gK} {B : gB} {C : gSt} {pc : Nat} {lv : gLv} {st : List Value} (h : ∀ C', C' = C → GG K B C' pc lv st) : GG K B C pc lv st := h C rfl
