/-! ===== what is told stays within its bounds; a new pair ===== -/
section UP
variable {S : sS} {T : Int}
theorem sOk.sup0 (h : sOk S T) {i j v : Int} (hv : 0 ≤ v ∧ v ≤ sBnd j) : sOk (sUp S 0 i j v) T := by
  refine ⟨h.1, ?_, fun a w => ?_, fun a b => ?_, fun a b => ?_, fun a b => ?_, fun b => ?_, fun b => ?_, fun a b hj => ?_⟩
  · show 0 ≤ sUp S 0 i j v 6 0 0 ∧ sUp S 0 i j v 6 0 0 ≤ 6
    rw [sUp_n (by omega)]; exact h.cnt
  · show 0 ≤ sUp S 0 i j v 0 a w ∧ sUp S 0 i j v 0 a w ≤ sBnd w
    rw [sUp_w]
    by_cases hz : a = i ∧ w = j
    · rw [if_pos hz, hz.2]; exact hv
    · rw [if_neg hz]; exact h.num a w
  · show 0 ≤ sUp S 0 i j v 1 a b ∧ sUp S 0 i j v 1 a b ≤ 1000
    rw [sUp_n (by omega)]; exact h.nee a b
  · show 0 ≤ sUp S 0 i j v 2 a b ∧ sUp S 0 i j v 2 a b ≤ 5000
    rw [sUp_n (by omega)]; exact h.lot a b
  · show 0 ≤ sUp S 0 i j v 3 a b ∧ sUp S 0 i j v 3 a b ≤ 9
    rw [sUp_n (by omega)]; exact h.tim a b
  · show 0 ≤ sUp S 0 i j v 4 0 b ∧ sUp S 0 i j v 4 0 b ≤ 10000
    rw [sUp_n (by omega)]; exact h.cap b
  · show 0 ≤ sUp S 0 i j v 5 0 b ∧ sUp S 0 i j v 5 0 b ≤ if b = 0 then 100 else 10000
    rw [sUp_n (by omega)]; exact h.2.2.2.2.2.2.2.1 b
  · show sUp S 0 i j v 3 a b = 0
    have hj : ¬ (0 ≤ b ∧ b < sUp S 0 i j v 6 0 0) := hj
    rw [sUp_n (by omega)] at hj ⊢; exact h.tim0 a b hj
theorem sOk.sup1 (h : sOk S T) {i j v : Int} (hv : 0 ≤ v ∧ v ≤ 1000) : sOk (sUp S 1 i j v) T := by
  refine ⟨h.1, ?_, fun a w => ?_, fun a b => ?_, fun a b => ?_, fun a b => ?_, fun b => ?_, fun b => ?_, fun a b hj => ?_⟩
  · show 0 ≤ sUp S 1 i j v 6 0 0 ∧ sUp S 1 i j v 6 0 0 ≤ 6
    rw [sUp_n (by omega)]; exact h.cnt
  · show 0 ≤ sUp S 1 i j v 0 a w ∧ sUp S 1 i j v 0 a w ≤ sBnd w
    rw [sUp_n (by omega)]; exact h.num a w
  · show 0 ≤ sUp S 1 i j v 1 a b ∧ sUp S 1 i j v 1 a b ≤ 1000
    rw [sUp_w]
    by_cases hz : a = i ∧ b = j
    · rw [if_pos hz]; exact hv
    · rw [if_neg hz]; exact h.nee a b
  · show 0 ≤ sUp S 1 i j v 2 a b ∧ sUp S 1 i j v 2 a b ≤ 5000
    rw [sUp_n (by omega)]; exact h.lot a b
  · show 0 ≤ sUp S 1 i j v 3 a b ∧ sUp S 1 i j v 3 a b ≤ 9
    rw [sUp_n (by omega)]; exact h.tim a b
  · show 0 ≤ sUp S 1 i j v 4 0 b ∧ sUp S 1 i j v 4 0 b ≤ 10000
    rw [sUp_n (by omega)]; exact h.cap b
  · show 0 ≤ sUp S 1 i j v 5 0 b ∧ sUp S 1 i j v 5 0 b ≤ if b = 0 then 100 else 10000
    rw [sUp_n (by omega)]; exact h.2.2.2.2.2.2.2.1 b
  · show sUp S 1 i j v 3 a b = 0
    have hj : ¬ (0 ≤ b ∧ b < sUp S 1 i j v 6 0 0) := hj
    rw [sUp_n (by omega)] at hj ⊢; exact h.tim0 a b hj
theorem sOk.sup2 (h : sOk S T) {i j v : Int} (hv : 0 ≤ v ∧ v ≤ 5000) : sOk (sUp S 2 i j v) T := by
  refine ⟨h.1, ?_, fun a w => ?_, fun a b => ?_, fun a b => ?_, fun a b => ?_, fun b => ?_, fun b => ?_, fun a b hj => ?_⟩
  · show 0 ≤ sUp S 2 i j v 6 0 0 ∧ sUp S 2 i j v 6 0 0 ≤ 6
    rw [sUp_n (by omega)]; exact h.cnt
  · show 0 ≤ sUp S 2 i j v 0 a w ∧ sUp S 2 i j v 0 a w ≤ sBnd w
    rw [sUp_n (by omega)]; exact h.num a w
  · show 0 ≤ sUp S 2 i j v 1 a b ∧ sUp S 2 i j v 1 a b ≤ 1000
    rw [sUp_n (by omega)]; exact h.nee a b
  · show 0 ≤ sUp S 2 i j v 2 a b ∧ sUp S 2 i j v 2 a b ≤ 5000
    rw [sUp_w]
    by_cases hz : a = i ∧ b = j
    · rw [if_pos hz]; exact hv
    · rw [if_neg hz]; exact h.lot a b
  · show 0 ≤ sUp S 2 i j v 3 a b ∧ sUp S 2 i j v 3 a b ≤ 9
    rw [sUp_n (by omega)]; exact h.tim a b
  · show 0 ≤ sUp S 2 i j v 4 0 b ∧ sUp S 2 i j v 4 0 b ≤ 10000
    rw [sUp_n (by omega)]; exact h.cap b
  · show 0 ≤ sUp S 2 i j v 5 0 b ∧ sUp S 2 i j v 5 0 b ≤ if b = 0 then 100 else 10000
    rw [sUp_n (by omega)]; exact h.2.2.2.2.2.2.2.1 b
  · show sUp S 2 i j v 3 a b = 0
    have hj : ¬ (0 ≤ b ∧ b < sUp S 2 i j v 6 0 0) := hj
    rw [sUp_n (by omega)] at hj ⊢; exact h.tim0 a b hj
theorem sOk.sup3 (h : sOk S T) {i j v : Int} (hv : 0 ≤ v ∧ v ≤ 9) (hj0 : 0 ≤ j ∧ j < sCnt S) : sOk (sUp S 3 i j v) T := by
  refine ⟨h.1, ?_, fun a w => ?_, fun a b => ?_, fun a b => ?_, fun a b => ?_, fun b => ?_, fun b => ?_, fun a b hj => ?_⟩
  · show 0 ≤ sUp S 3 i j v 6 0 0 ∧ sUp S 3 i j v 6 0 0 ≤ 6
    rw [sUp_n (by omega)]; exact h.cnt
  · show 0 ≤ sUp S 3 i j v 0 a w ∧ sUp S 3 i j v 0 a w ≤ sBnd w
    rw [sUp_n (by omega)]; exact h.num a w
  · show 0 ≤ sUp S 3 i j v 1 a b ∧ sUp S 3 i j v 1 a b ≤ 1000
    rw [sUp_n (by omega)]; exact h.nee a b
  · show 0 ≤ sUp S 3 i j v 2 a b ∧ sUp S 3 i j v 2 a b ≤ 5000
    rw [sUp_n (by omega)]; exact h.lot a b
  · show 0 ≤ sUp S 3 i j v 3 a b ∧ sUp S 3 i j v 3 a b ≤ 9
    rw [sUp_w]
    by_cases hz : a = i ∧ b = j
    · rw [if_pos hz]; exact hv
    · rw [if_neg hz]; exact h.tim a b
  · show 0 ≤ sUp S 3 i j v 4 0 b ∧ sUp S 3 i j v 4 0 b ≤ 10000
    rw [sUp_n (by omega)]; exact h.cap b
  · show 0 ≤ sUp S 3 i j v 5 0 b ∧ sUp S 3 i j v 5 0 b ≤ if b = 0 then 100 else 10000
    rw [sUp_n (by omega)]; exact h.2.2.2.2.2.2.2.1 b
  · show sUp S 3 i j v 3 a b = 0
    have hj : ¬ (0 ≤ b ∧ b < sUp S 3 i j v 6 0 0) := hj
    rw [sUp_n (by omega)] at hj
    have hj : ¬ (0 ≤ b ∧ b < sCnt S) := hj
    rw [sUp_w, if_neg (fun z => hj (by rw [z.2]; exact hj0))]
    exact h.tim0 a b hj
theorem sOk.sup4 (h : sOk S T) {j v : Int} (hv : 0 ≤ v ∧ v ≤ 10000) : sOk (sUp S 4 0 j v) T := by
  refine ⟨h.1, ?_, fun a w => ?_, fun a b => ?_, fun a b => ?_, fun a b => ?_, fun b => ?_, fun b => ?_, fun a b hj => ?_⟩
  · show 0 ≤ sUp S 4 0 j v 6 0 0 ∧ sUp S 4 0 j v 6 0 0 ≤ 6
    rw [sUp_n (by omega)]; exact h.cnt
  · show 0 ≤ sUp S 4 0 j v 0 a w ∧ sUp S 4 0 j v 0 a w ≤ sBnd w
    rw [sUp_n (by omega)]; exact h.num a w
  · show 0 ≤ sUp S 4 0 j v 1 a b ∧ sUp S 4 0 j v 1 a b ≤ 1000
    rw [sUp_n (by omega)]; exact h.nee a b
  · show 0 ≤ sUp S 4 0 j v 2 a b ∧ sUp S 4 0 j v 2 a b ≤ 5000
    rw [sUp_n (by omega)]; exact h.lot a b
  · show 0 ≤ sUp S 4 0 j v 3 a b ∧ sUp S 4 0 j v 3 a b ≤ 9
    rw [sUp_n (by omega)]; exact h.tim a b
  · show 0 ≤ sUp S 4 0 j v 4 0 b ∧ sUp S 4 0 j v 4 0 b ≤ 10000
    rw [sUp_w]
    by_cases hz : (0 : Int) = 0 ∧ b = j
    · rw [if_pos hz]; exact hv
    · rw [if_neg hz]; exact h.cap b
  · show 0 ≤ sUp S 4 0 j v 5 0 b ∧ sUp S 4 0 j v 5 0 b ≤ if b = 0 then 100 else 10000
    rw [sUp_n (by omega)]; exact h.2.2.2.2.2.2.2.1 b
  · show sUp S 4 0 j v 3 a b = 0
    have hj : ¬ (0 ≤ b ∧ b < sUp S 4 0 j v 6 0 0) := hj
    rw [sUp_n (by omega)] at hj ⊢; exact h.tim0 a b hj
theorem sOk.sup5 (h : sOk S T) {j v : Int} (hv : 0 ≤ v ∧ v ≤ if j = 0 then 100 else 10000) : sOk (sUp S 5 0 j v) T := by
  refine ⟨h.1, ?_, fun a w => ?_, fun a b => ?_, fun a b => ?_, fun a b => ?_, fun b => ?_, fun b => ?_, fun a b hj => ?_⟩
  · show 0 ≤ sUp S 5 0 j v 6 0 0 ∧ sUp S 5 0 j v 6 0 0 ≤ 6
    rw [sUp_n (by omega)]; exact h.cnt
  · show 0 ≤ sUp S 5 0 j v 0 a w ∧ sUp S 5 0 j v 0 a w ≤ sBnd w
    rw [sUp_n (by omega)]; exact h.num a w
  · show 0 ≤ sUp S 5 0 j v 1 a b ∧ sUp S 5 0 j v 1 a b ≤ 1000
    rw [sUp_n (by omega)]; exact h.nee a b
  · show 0 ≤ sUp S 5 0 j v 2 a b ∧ sUp S 5 0 j v 2 a b ≤ 5000
    rw [sUp_n (by omega)]; exact h.lot a b
  · show 0 ≤ sUp S 5 0 j v 3 a b ∧ sUp S 5 0 j v 3 a b ≤ 9
    rw [sUp_n (by omega)]; exact h.tim a b
  · show 0 ≤ sUp S 5 0 j v 4 0 b ∧ sUp S 5 0 j v 4 0 b ≤ 10000
    rw [sUp_n (by omega)]; exact h.cap b
  · show 0 ≤ sUp S 5 0 j v 5 0 b ∧ sUp S 5 0 j v 5 0 b ≤ if b = 0 then 100 else 10000
    rw [sUp_w]
    by_cases hz : (0 : Int) = 0 ∧ b = j
    · rw [if_pos hz, hz.2]; exact hv
    · rw [if_neg hz]; exact h.2.2.2.2.2.2.2.1 b
  · show sUp S 5 0 j v 3 a b = 0
    have hj : ¬ (0 ≤ b ∧ b < sUp S 5 0 j v 6 0 0) := hj
    rw [sUp_n (by omega)] at hj ⊢; exact h.tim0 a b hj
theorem sOk.sup6 (h : sOk S T) (hc : sCnt S < 6) : sOk (sUp S 6 0 0 (sCnt S + 1)) T := by
  have hcn := h.cnt
  have e6 : sUp S 6 0 0 (sCnt S + 1) 6 0 0 = sCnt S + 1 := by rw [sUp_w, if_pos ⟨rfl, rfl⟩]
  refine ⟨h.1, ?_, fun a w => ?_, fun a b => ?_, fun a b => ?_, fun a b => ?_, fun b => ?_, fun b => ?_, fun a b hj => ?_⟩
  · show 0 ≤ sUp S 6 0 0 (sCnt S + 1) 6 0 0 ∧ sUp S 6 0 0 (sCnt S + 1) 6 0 0 ≤ 6
    rw [e6]; omega
  · show 0 ≤ sUp S 6 0 0 (sCnt S + 1) 0 a w ∧ sUp S 6 0 0 (sCnt S + 1) 0 a w ≤ sBnd w
    rw [sUp_n (by omega)]; exact h.num a w
  · show 0 ≤ sUp S 6 0 0 (sCnt S + 1) 1 a b ∧ sUp S 6 0 0 (sCnt S + 1) 1 a b ≤ 1000
    rw [sUp_n (by omega)]; exact h.nee a b
  · show 0 ≤ sUp S 6 0 0 (sCnt S + 1) 2 a b ∧ sUp S 6 0 0 (sCnt S + 1) 2 a b ≤ 5000
    rw [sUp_n (by omega)]; exact h.lot a b
  · show 0 ≤ sUp S 6 0 0 (sCnt S + 1) 3 a b ∧ sUp S 6 0 0 (sCnt S + 1) 3 a b ≤ 9
    rw [sUp_n (by omega)]; exact h.tim a b
  · show 0 ≤ sUp S 6 0 0 (sCnt S + 1) 4 0 b ∧ sUp S 6 0 0 (sCnt S + 1) 4 0 b ≤ 10000
    rw [sUp_n (by omega)]; exact h.cap b
  · show 0 ≤ sUp S 6 0 0 (sCnt S + 1) 5 0 b ∧ sUp S 6 0 0 (sCnt S + 1) 5 0 b ≤ if b = 0 then 100 else 10000
    rw [sUp_n (by omega)]; exact h.2.2.2.2.2.2.2.1 b
  · show sUp S 6 0 0 (sCnt S + 1) 3 a b = 0
    have hj : ¬ (0 ≤ b ∧ b < sUp S 6 0 0 (sCnt S + 1) 6 0 0) := hj
    rw [e6] at hj
    rw [sUp_n (by omega)]; exact h.tim0 a b (by omega)
theorem sOk.gupd (h : sOk S T) {g : Int} {S' : sS} (h2 : g = 0 → sOk S' T) : sOk (gUpd g S S') T := by
  by_cases hg : g = 0
  · rw [gUpd_0 hg]; exact h2 hg
  · rw [gUpd_n hg]; exact h
theorem sOk.uup (h : sOk S T) {n : Nat} {i j v m : Int} (h2 : 0 ≤ v ∧ v ≤ m → sOk (sUp S n i j v) T) : sOk (uUp S n i j v m) T := by
  by_cases hv : v < 0 ∨ m < v
  · rw [uUp_2 hv]; exact h
  · rw [uUp_0 hv]; exact h2 (by omega)
theorem sOk.setU (h : sOk S T) (i p v : Int) : sOk (gUpd (rSet S i p) S (uUp S 0 i p v (sBnd p))) T := h.gupd (fun _ => h.uup (fun q => h.sup0 q))
theorem sOk.needU (h : sOk S T) (i p v : Int) : sOk (gUpd (rIP S T i p) S (uUp S 1 i p v 1000)) T := h.gupd (fun _ => h.uup (fun q => h.sup1 q))
theorem sOk.makeU (h : sOk S T) (i p v : Int) : sOk (gUpd (rIP S T i p) S (uUp S 2 i p v 5000)) T := h.gupd (fun _ => h.uup (fun q => h.sup2 q))
theorem sOk.capU (h : sOk S T) (p v : Int) : sOk (gUpd (rCap T p) S (uUp S 4 0 p v 10000)) T := h.gupd (fun _ => h.uup (fun q => h.sup4 q))
theorem sOk.ovrU (h : sOk S T) (p v : Int) : sOk (gUpd (rOvr p) S (uUp S 5 0 p v (if p = 0 then 100 else 10000))) T := h.gupd (fun _ => h.uup (fun q => h.sup5 q))
theorem sOk.partU (h : sOk S T) (i o n : Int) : sOk (gUpd (rPart S i o n) S (sUp S 3 i o n)) T := h.gupd (fun hg => by
  unfold rPart at hg
  by_cases h1 : (0 ≤ i ∧ i < sCnt S) ∧ 0 ≤ o ∧ o < sCnt S
  · rw [if_pos h1] at hg
    by_cases h2 : 0 ≤ n ∧ n ≤ 9
    · exact h.sup3 h2 h1.2
    · rw [if_neg h2] at hg; omega
  · rw [if_neg h1] at hg; omega)
end UP
def s0S : sS := fun n _ _ => if n = 4 then 10000 else 0
theorem s0S_ok {T : Int} (hT : 1 ≤ T ∧ T ≤ 12) : sOk s0S T := by
  refine ⟨hT, ⟨Int.le_refl _, by decide⟩, fun a w => ?_, fun a b => ⟨Int.le_refl _, by show (0 : Int) ≤ 1000; omega⟩, fun a b => ⟨Int.le_refl _, by show (0 : Int) ≤ 5000; omega⟩, fun a b => ⟨Int.le_refl _, by show (0 : Int) ≤ 9; omega⟩, fun b => ⟨by show (0 : Int) ≤ 10000; omega, Int.le_refl _⟩, fun b => ?_, fun a b _ => rfl⟩
  · show (0 : Int) ≤ 0 ∧ (0 : Int) ≤ sBnd w
    refine ⟨Int.le_refl _, ?_⟩
    unfold sBnd
    split
    · omega
    · split
      · omega
      · split
        · omega
        · split
          · omega
          · split
            · omega
            · split
              · omega
              · split
                · omega
                · split <;> omega
  · show (0 : Int) ≤ 0 ∧ (0 : Int) ≤ if b = 0 then 100 else 10000
    refine ⟨Int.le_refl _, ?_⟩
    split <;> omega
theorem cC0_rel {T : Int} (hT : 1 ≤ T ∧ T ≤ 12) : cRel s0S T (cC0 T) := by
  have z : ∀ q : Nat, q ≠ 56 → q ≠ 60 → cC0 T q = fun _ => 0 := fun q h1 h2 => by
    funext j
    unfold cC0
    rw [if_neg h1, if_neg h2]
  refine ⟨rfl, fun i h0 h6 => ⟨?_, ?_, ?_, ?_⟩, fun p h1 h2 => ?_, rfl, rfl, rfl⟩
  · rw [z _ (by omega) (by omega)]; rfl
  · rw [z _ (by omega) (by omega)]; rfl
  · rw [z _ (by omega) (by omega)]; rfl
  · rw [z _ (by omega) (by omega)]; rfl
  · show (if 1 ≤ p ∧ p < T + 1 then (10000 : Int) else 0) = 10000
    rw [if_pos (by omega)]
theorem mC0_rel {T : Int} (hT : 1 ≤ T ∧ T ≤ 12) : mRel s0S T mC0 := by
  refine ⟨rfl, rfl, rfl, fun i w _ _ _ _ => rfl, fun i p _ _ _ _ => ⟨rfl, rfl⟩, fun i j _ _ _ _ => rfl, fun p h1 h2 => ?_⟩
  show (if p < 13 then (10000 : Int) else 0) = 10000
  rw [if_pos (by omega)]
