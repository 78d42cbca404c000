theorem cFl_put {C C' : gSt} {Lf : List fQ} (h : cFl C Lf) {a b c d : Int} (e : C' = wr (wr (wr (wr (wr C 62 ((Lf.length : Int) * 4) a) 62 ((Lf.length : Int) * 4 + 1) b) 62 ((Lf.length : Int) * 4 + 2) c) 62 ((Lf.length : Int) * 4 + 3) d) 61 0 ((Lf.length : Int) + 1)) : cFl C' (Lf ++ [(a, b, c, d)]) ∧ ∀ q : Nat, q ≠ 61 → q ≠ 62 → C' q = C q := by
  have h62 : ∀ j : Int, C' 62 j = if j = (Lf.length : Int) * 4 + 3 then d else if j = (Lf.length : Int) * 4 + 2 then c else if j = (Lf.length : Int) * 4 + 1 then b else if j = (Lf.length : Int) * 4 then a else C 62 j := fun j => by
    rw [e, wr_k (by omega), wr_w, wr_w, wr_w, wr_w]
  refine ⟨⟨?_, fun k x hx => ?_⟩, fun q h1 h2 => ?_⟩
  · rw [e, wr_s, List.length_append]; rfl
  · by_cases hk : k < Lf.length
    · rw [List.getElem?_append_left hk] at hx
      obtain ⟨q1, q2, q3, q4⟩ := h.2 k x hx
      rw [h62, h62, h62, h62]
      refine ⟨?_, ?_, ?_, ?_⟩
      · rw [if_neg (by omega), if_neg (by omega), if_neg (by omega), if_neg (by omega)]; exact q1
      · rw [if_neg (by omega), if_neg (by omega), if_neg (by omega), if_neg (by omega)]; exact q2
      · rw [if_neg (by omega), if_neg (by omega), if_neg (by omega), if_neg (by omega)]; exact q3
      · rw [if_neg (by omega), if_neg (by omega), if_neg (by omega), if_neg (by omega)]; exact q4
    · rw [List.getElem?_append_right (by omega)] at hx
      have hz : k - Lf.length < 1 := (List.getElem?_eq_some_iff.mp hx).1
      rw [show k - Lf.length = 0 by omega] at hx
      cases hx
      have hkl : (k : Int) = (Lf.length : Int) := by omega
      rw [h62, h62, h62, h62, hkl]
      refine ⟨?_, ?_, ?_, ?_⟩
      · rw [if_neg (by omega), if_neg (by omega), if_neg (by omega), if_pos (by omega)]
      · rw [if_neg (by omega), if_neg (by omega), if_pos (by omega)]
      · rw [if_neg (by omega), if_pos (by omega)]
      · rw [if_pos (by omega)]
  · rw [e, wr_k h1, wr_k h2, wr_k h2, wr_k h2, wr_k h2]
/-- all stores run, the machine followed -/
def cRdy (S : sS) (T : Int) (C : gSt) : Prop := cRel S T C ∧ (∀ i : Int, 0 ≤ i → i < sCnt S → cRun S i C T) ∧ cMach S C T
theorem cRun.kept {S : sS} {i n : Int} {C C' : gSt} (h : cRun S i C n) (h1 : C' (8 + 9 * i.toNat) = C (8 + 9 * i.toNat)) (h2 : C' (9 + 9 * i.toNat) = C (9 + 9 * i.toNat)) : cRun S i C' n := by
  unfold cRun
  rw [h1, h2]
  exact h
theorem cMach.kept {S : sS} {n : Int} {C C' : gSt} (h : cMach S C n) (h1 : C' 59 = C 59) (h2 : C' 60 = C 60) : cMach S C' n := by
  unfold cMach
  rw [h1, h2]
  exact h
theorem cRdy.kept {S : sS} {T : Int} (hO : sOk S T) {C C' : gSt} (h : cRdy S T C) (hk : ∀ q : Nat, q ≠ 61 → q ≠ 62 → C' q = C q) : cRdy S T C' := by
  have hc := hO.cnt
  refine ⟨h.1.of (fun q h1 _ _ => hk q (fun w => h1 (by unfold scr; omega)) (fun w => h1 (by unfold scr; omega))) (by rw [hk 60 (by omega) (by omega)]) (by rw [hk 65 (by omega) (by omega)]), fun i h0 h1 => (h.2.1 i h0 h1).kept (hk _ (by omega) (by omega)) (hk _ (by omega) (by omega)), h.2.2.kept (hk _ (by omega) (by omega)) (hk _ (by omega) (by omega))⟩
theorem fAll_get {S : sS} {T : Int} (h : sOk S T) {k : Int} (h0 : 0 ≤ k) (h1 : k < ((fAll S T.toNat).length : Int)) : (fAll S T.toNat)[k.toNat]? = some ((fAll S T.toNat).getD k.toNat (0, 0, 0, 0)) ∧ fRng ((fAll S T.toNat).getD k.toNat (0, 0, 0, 0)) := by
  have hl : k.toNat < (fAll S T.toNat).length := by omega
  have e : (fAll S T.toNat)[k.toNat]? = some ((fAll S T.toNat).getD k.toNat (0, 0, 0, 0)) := by
    rw [List.getD_eq_getElem?_getD, List.getElem?_eq_getElem hl]
    rfl
  exact ⟨e, fAll_r h T.toNat (by have := h.t; omega) _ (List.mem_of_getElem? e)⟩
