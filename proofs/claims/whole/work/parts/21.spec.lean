/-! ===== what the calls that change something answer and do ===== -/
def sUp (S : sS) (n : Nat) (i j v : Int) : sS := fun n' i' j' => if n' = n ∧ i' = i ∧ j' = j then v else S n' i' j'
def pItem (S : sS) (i : Int) : Prop := 0 ≤ i ∧ i < sCnt S
def pPer (T p : Int) : Prop := 1 ≤ p ∧ p ≤ T
def aUp (S : sS) (n : Nat) (i j v m : Int) : Int := if v < 0 ∨ m < v then -2 else S n i j
def uUp (S : sS) (n : Nat) (i j v m : Int) : sS := if v < 0 ∨ m < v then S else sUp S n i j v
def gAns (g : Int) (x : Int) : Int := if g = 0 then x else g
def gUpd (g : Int) (S S' : sS) : sS := if g = 0 then S' else S
/-- the first refusal of need and make -/
def rIP (S : sS) (T i p : Int) : Int := if (0 ≤ i ∧ i < sCnt S) ∧ 1 ≤ p ∧ p ≤ T then 0 else -1
def rSet (S : sS) (i w : Int) : Int := if 0 ≤ i ∧ i < sCnt S then (if 0 ≤ w ∧ w < 8 then 0 else -2) else -1
def rCap (T p : Int) : Int := if 1 ≤ p ∧ p ≤ T then 0 else -1
def rOvr (w : Int) : Int := if w = 0 ∨ w = 1 then 0 else -2
theorem rIP_0 {S : sS} {T i p : Int} (h : (0 ≤ i ∧ i < sCnt S) ∧ 1 ≤ p ∧ p ≤ T) : rIP S T i p = 0 := if_pos h
theorem rIP_1 {S : sS} {T i p : Int} (h : ¬ ((0 ≤ i ∧ i < sCnt S) ∧ 1 ≤ p ∧ p ≤ T)) : rIP S T i p = -1 := if_neg h
theorem rCap_0 {T p : Int} (h : 1 ≤ p ∧ p ≤ T) : rCap T p = 0 := if_pos h
theorem rCap_1 {T p : Int} (h : ¬ (1 ≤ p ∧ p ≤ T)) : rCap T p = -1 := if_neg h
theorem rOvr_0 {w : Int} (h : w = 0 ∨ w = 1) : rOvr w = 0 := if_pos h
theorem rOvr_2 {w : Int} (h : ¬ (w = 0 ∨ w = 1)) : rOvr w = -2 := if_neg h
theorem rSet_0 {S : sS} {i w : Int} (h : 0 ≤ i ∧ i < sCnt S) (h2 : 0 ≤ w ∧ w < 8) : rSet S i w = 0 := by unfold rSet; rw [if_pos h, if_pos h2]
theorem rSet_1 {S : sS} {i w : Int} (h : ¬ (0 ≤ i ∧ i < sCnt S)) : rSet S i w = -1 := if_neg h
theorem rSet_2 {S : sS} {i w : Int} (h : 0 ≤ i ∧ i < sCnt S) (h2 : ¬ (0 ≤ w ∧ w < 8)) : rSet S i w = -2 := by unfold rSet; rw [if_pos h, if_neg h2]
theorem gAns_0 {g x : Int} (h : g = 0) : gAns g x = x := if_pos h
theorem gAns_n {g x : Int} (h : g ≠ 0) : gAns g x = g := if_neg h
theorem gUpd_0 {g : Int} {S S' : sS} (h : g = 0) : gUpd g S S' = S' := if_pos h
theorem gUpd_n {g : Int} {S S' : sS} (h : g ≠ 0) : gUpd g S S' = S := if_neg h
theorem aUp_2 {S : sS} {n : Nat} {i j v m : Int} (h : v < 0 ∨ m < v) : aUp S n i j v m = -2 := if_pos h
theorem aUp_0 {S : sS} {n : Nat} {i j v m : Int} (h : ¬ (v < 0 ∨ m < v)) : aUp S n i j v m = S n i j := if_neg h
theorem uUp_2 {S : sS} {n : Nat} {i j v m : Int} (h : v < 0 ∨ m < v) : uUp S n i j v m = S := if_pos h
theorem uUp_0 {S : sS} {n : Nat} {i j v m : Int} (h : ¬ (v < 0 ∨ m < v)) : uUp S n i j v m = sUp S n i j v := if_neg h
/-- a write into an item's row n (0 numbers, 1 needs, 2 lots, 3 times), the class's cell 3 + n + 9 i -/
theorem cRel.up {S : sS} {T : Int} {C : gSt} (h : cRel S T C) {n : Nat} (hn : n < 4) {i j v : Int} (h0 : 0 ≤ i) (h6 : i < 6) : cRel (sUp S n i j v) T (wr C (3 + n + 9 * i.toNat) j v) := by
  have hk : ∀ q, q ≠ 3 + n + 9 * i.toNat → wr C (3 + n + 9 * i.toNat) j v q = C q := fun q hq => wr_k hq
  have hrow : ∀ (a : Int) (m : Nat), 0 ≤ a → a < 6 → m < 4 → C (3 + m + 9 * a.toNat) = S m a → wr C (3 + n + 9 * i.toNat) j v (3 + m + 9 * a.toNat) = sUp S n i j v m a := by
    intro a m ha0 ha6 hm he
    by_cases hq : m = n ∧ a = i
    · obtain ⟨rfl, rfl⟩ := hq
      funext w
      rw [wr_w]
      unfold sUp
      by_cases hw : w = j
      · rw [if_pos hw, if_pos ⟨rfl, rfl, hw⟩]
      · rw [if_neg hw, if_neg (fun z => hw z.2.2), he]
    · rw [hk _ (by omega), he]
      funext w
      unfold sUp
      rw [if_neg (fun z => hq ⟨z.1, z.2.1⟩)]
  have hsame : ∀ (m : Nat) (a w : Int), 4 ≤ m → sUp S n i j v m a w = S m a w := fun m a w hm => by
    unfold sUp
    rw [if_neg (fun z => by omega)]
  refine ⟨?_, fun a ha0 ha6 => ⟨hrow a 0 ha0 ha6 (by omega) (h.2.1 a ha0 ha6).1, hrow a 1 ha0 ha6 (by omega) (h.2.1 a ha0 ha6).2.1, hrow a 2 ha0 ha6 (by omega) (h.2.1 a ha0 ha6).2.2.1, hrow a 3 ha0 ha6 (by omega) (h.2.1 a ha0 ha6).2.2.2⟩, fun p q1 q2 => ?_, ?_, ?_, ?_⟩
  · rw [hk 0 (by omega), h.1]; exact (hsame 6 0 0 (by omega)).symm
  · rw [hk 56 (by omega), h.cap q1 q2]; exact (hsame 4 0 p (by omega)).symm
  · rw [hk 57 (by omega), h.2.2.2.1]; funext w; exact (hsame 5 0 w (by omega)).symm
  · rw [hk 60 (by omega)]; exact h.st0
  · rw [hk 65 (by omega)]; exact h.co1
theorem cRel.upCap {S : sS} {T : Int} {C : gSt} (h : cRel S T C) {p v : Int} : cRel (sUp S 4 0 p v) T (wr C 56 p v) := by
  have hk : ∀ q, q ≠ 56 → wr C 56 p v q = C q := fun q hq => wr_k hq
  have hs : ∀ m a, m ≠ 4 → sUp S 4 0 p v m a = S m a := fun m a hm => by funext w; unfold sUp; rw [if_neg (fun z => hm z.1)]
  refine ⟨?_, fun a ha0 ha6 => ?_, fun q q1 q2 => ?_, ?_, ?_, ?_⟩
  · rw [hk 0 (by omega), h.1]; exact (congrFun (hs 6 0 (by omega)) 0).symm
  · rw [hk _ (by omega), hk _ (by omega), hk _ (by omega), hk _ (by omega), hs 0 a (by omega), hs 1 a (by omega), hs 2 a (by omega), hs 3 a (by omega)]; exact h.2.1 a ha0 ha6
  · rw [wr_w]; unfold sCap sUp
    by_cases hw : q = p
    · rw [if_pos hw, if_pos ⟨rfl, rfl, hw⟩]
    · rw [if_neg hw, if_neg (fun z => hw z.2.2)]; exact h.cap q1 q2
  · rw [hk 57 (by omega), hs 5 0 (by omega)]; exact h.2.2.2.1
  · rw [hk 60 (by omega)]; exact h.st0
  · rw [hk 65 (by omega)]; exact h.co1
theorem cRel.upOvr {S : sS} {T : Int} {C : gSt} (h : cRel S T C) {p v : Int} : cRel (sUp S 5 0 p v) T (wr C 57 p v) := by
  have hk : ∀ q, q ≠ 57 → wr C 57 p v q = C q := fun q hq => wr_k hq
  have hs : ∀ m a, m ≠ 5 → sUp S 5 0 p v m a = S m a := fun m a hm => by funext w; unfold sUp; rw [if_neg (fun z => hm z.1)]
  refine ⟨?_, fun a ha0 ha6 => ?_, fun q q1 q2 => ?_, ?_, ?_, ?_⟩
  · rw [hk 0 (by omega), h.1]; exact (congrFun (hs 6 0 (by omega)) 0).symm
  · rw [hk _ (by omega), hk _ (by omega), hk _ (by omega), hk _ (by omega), hs 0 a (by omega), hs 1 a (by omega), hs 2 a (by omega), hs 3 a (by omega)]; exact h.2.1 a ha0 ha6
  · rw [hk 56 (by omega), h.cap q1 q2]; exact (congrFun (hs 4 0 (by omega)) q).symm
  · funext w; rw [wr_w]; unfold sUp
    by_cases hw : w = p
    · rw [if_pos hw, if_pos ⟨rfl, rfl, hw⟩]
    · rw [if_neg hw, if_neg (fun z => hw z.2.2)]; exact h.ovr w
  · rw [hk 60 (by omega)]; exact h.st0
  · rw [hk 65 (by omega)]; exact h.co1
theorem cRel.upCnt {S : sS} {T : Int} {C : gSt} (h : cRel S T C) {v : Int} : cRel (sUp S 6 0 0 v) T (wr C 0 2 v) := by
  have hk : ∀ q, q ≠ 0 → wr C 0 2 v q = C q := fun q hq => wr_k hq
  have hs : ∀ m a, m ≠ 6 → sUp S 6 0 0 v m a = S m a := fun m a hm => by funext w; unfold sUp; rw [if_neg (fun z => hm z.1)]
  refine ⟨?_, fun a ha0 ha6 => ?_, fun q q1 q2 => ?_, ?_, ?_, ?_⟩
  · rw [wr_s]; unfold sCnt sUp; rw [if_pos ⟨rfl, rfl, rfl⟩]
  · rw [hk _ (by omega), hk _ (by omega), hk _ (by omega), hk _ (by omega), hs 0 a (by omega), hs 1 a (by omega), hs 2 a (by omega), hs 3 a (by omega)]; exact h.2.1 a ha0 ha6
  · rw [hk 56 (by omega), h.cap q1 q2]; exact (congrFun (hs 4 0 (by omega)) q).symm
  · rw [hk 57 (by omega), hs 5 0 (by omega)]; exact h.2.2.2.1
  · rw [hk 60 (by omega)]; exact h.st0
  · rw [hk 65 (by omega)]; exact h.co1
/-- GROSS: the need, and the items' lots by the times that this one is a part of them -/
def sGrossN (S : sS) (i p : Int) : Nat → Int
  | 0 => sNee S i p
  | n + 1 => sGrossN S i p n + sTim S i (n : Int) * sLot S (n : Int) p
def sGross (S : sS) (i p : Int) : Int := sGrossN S i p (sCnt S).toNat
theorem sGrossN_b {S : sS} {T : Int} (h : sOk S T) (i p : Int) : ∀ n : Nat, 0 ≤ sGrossN S i p n ∧ sGrossN S i p n ≤ 1000 + 45000 * (n : Int)
  | 0 => by have := h.nee i p; unfold sGrossN; omega
  | n + 1 => by
    have ih := sGrossN_b h i p n
    have h1 := h.tim i n
    have h2 := h.lot n p
    have h3 : 0 ≤ sTim S i n * sLot S n p := Int.mul_nonneg h1.1 h2.1
    have h4 : sTim S i n * sLot S n p ≤ 9 * 5000 := Int.mul_le_mul h1.2 h2.2 h2.1 (by omega)
    unfold sGrossN
    omega
theorem sGross_b {S : sS} {T : Int} (h : sOk S T) (i p : Int) : 0 ≤ sGross S i p ∧ sGross S i p ≤ 271000 := by
  have h1 := sGrossN_b h i p (sCnt S).toNat
  have h2 := h.cnt
  unfold sGross
  omega
theorem sGrossN_s {S : sS} {i p j : Int} (hj : 0 ≤ j) : sGrossN S i p (j + 1).toNat = sGrossN S i p j.toNat + sTim S i j * sLot S j p := by
  rw [show (j + 1).toNat = j.toNat + 1 by omega]
  show sGrossN S i p j.toNat + sTim S i (j.toNat : Int) * sLot S (j.toNat : Int) p = _
  rw [Int.toNat_of_nonneg hj]
/-- what comes of an item in a period -/
def sCome (S : sS) (i p : Int) : Int := if 1 ≤ p - sNum S i 7 then sLot S i (p - sNum S i 7) else 0
theorem sCome_b {S : sS} {T : Int} (h : sOk S T) (i p : Int) : 0 ≤ sCome S i p ∧ sCome S i p ≤ 5000 := by
  unfold sCome
  split
  · exact h.lot _ _
  · omega
/-- taking w from the rows l 0 .. l (n-1), the first first: what is left in them, what is still wanted -/
def upI (l : Int → Int) (e v : Int) : Int → Int := fun j => if j = e then v else l j
def tkL (l : Int → Int) (w : Int) : Nat → (Int → Int) × Int
  | 0 => (l, w)
  | n + 1 => (upI (tkL l w n).1 n ((tkL l w n).1 n - min ((tkL l w n).1 n) (tkL l w n).2), (tkL l w n).2 - min ((tkL l w n).1 n) (tkL l w n).2)
theorem upI_s {l : Int → Int} {e v : Int} : upI l e v e = v := if_pos rfl
theorem upI_n {l : Int → Int} {e v j : Int} (h : j ≠ e) : upI l e v j = l j := if_neg h
/-- places from n on are untouched -/
theorem tkL_hi {l : Int → Int} {w : Int} : ∀ (n : Nat) (j : Int), (n : Int) ≤ j → (tkL l w n).1 j = l j
  | 0, _, _ => rfl
  | n + 1, j, h => by
    show upI _ _ _ j = _
    rw [upI_n (by omega)]
    exact tkL_hi n j (by omega)
/-- only the places below n count -/
theorem tkL_congr {l l' : Int → Int} {w : Int} : ∀ (n : Nat), (∀ j : Int, 0 ≤ j → j < n → l j = l' j) → (tkL l w n).2 = (tkL l' w n).2 ∧ ∀ j : Int, 0 ≤ j → j < n → (tkL l w n).1 j = (tkL l' w n).1 j
  | 0, _ => ⟨rfl, fun j h1 h2 => by omega⟩
  | n + 1, h => by
    obtain ⟨i1, i2⟩ := tkL_congr (w := w) n (fun j h1 h2 => h j h1 (by omega))
    have e : (tkL l w n).1 n = (tkL l' w n).1 n := by
      rw [tkL_hi n n (Int.le_refl _), tkL_hi n n (Int.le_refl _)]
      exact h n (by omega) (by omega)
    refine ⟨?_, fun j h1 h2 => ?_⟩
    · show (tkL l w n).2 - min ((tkL l w n).1 n) (tkL l w n).2 = (tkL l' w n).2 - min ((tkL l' w n).1 n) (tkL l' w n).2
      rw [e, i1]
    · show upI (tkL l w n).1 n ((tkL l w n).1 n - min ((tkL l w n).1 n) (tkL l w n).2) j = upI (tkL l' w n).1 n ((tkL l' w n).1 n - min ((tkL l' w n).1 n) (tkL l' w n).2) j
      by_cases hj : j = n
      · rw [hj, upI_s, upI_s, e, i1]
      · rw [upI_n hj, upI_n hj]
        exact i2 j h1 (by omega)
/-- the sum of places 0 .. n-1 -/
def smL (l : Int → Int) : Nat → Int
  | 0 => 0
  | n + 1 => smL l n + l n
theorem smL_congr {l l' : Int → Int} : ∀ (n : Nat), (∀ j : Int, 0 ≤ j → j < n → l j = l' j) → smL l n = smL l' n
  | 0, _ => rfl
  | n + 1, h => by
    show smL l n + l n = smL l' n + l' n
    rw [smL_congr n (fun j h1 h2 => h j h1 (by omega)), h n (by omega) (by omega)]
theorem smL_up {l : Int → Int} {e v : Int} : ∀ (n : Nat), 0 ≤ e → smL (upI l e v) n = smL l n + (if e < n then v - l e else 0)
  | 0, h0 => by rw [if_neg (by omega)]; rfl
  | n + 1, h0 => by
    show smL (upI l e v) n + upI l e v n = smL l n + l n + _
    rw [smL_up n h0]
    by_cases he : e = n
    · rw [he, upI_s, if_neg (by omega), if_pos (by omega)]; omega
    · rw [upI_n (Ne.symm he)]
      by_cases h1 : e < n
      · rw [if_pos h1, if_pos (by omega)]; omega
      · rw [if_neg h1, if_neg (by omega)]; omega
/-- what taking does: bounds, sums, and where something still lacks nothing is left -/
theorem tkL_b {l : Int → Int} {w : Int} (hl : ∀ j : Int, 0 ≤ j → 0 ≤ l j) (hw : 0 ≤ w) : ∀ (n : Nat), (∀ j : Int, 0 ≤ j → 0 ≤ (tkL l w n).1 j ∧ (tkL l w n).1 j ≤ l j) ∧ 0 ≤ (tkL l w n).2 ∧ (tkL l w n).2 ≤ w ∧ smL (tkL l w n).1 n + (w - (tkL l w n).2) = smL l n ∧ (0 < (tkL l w n).2 → ∀ j : Int, 0 ≤ j → j < n → (tkL l w n).1 j = 0)
  | 0 => ⟨fun j h => ⟨hl j h, Int.le_refl _⟩, hw, Int.le_refl _, by show (0 : Int) + (w - w) = 0; omega, fun _ j h1 h2 => by omega⟩
  | n + 1 => by
    obtain ⟨i1, i2, i3, i4, i5⟩ := tkL_b hl hw n
    have hn := i1 n (by omega)
    have hhi : (tkL l w n).1 n = l n := tkL_hi n n (Int.le_refl _)
    generalize ha : (tkL l w n).1 = a at i1 i4 i5 hn hhi
    generalize hb : (tkL l w n).2 = b at i2 i3 i4 i5
    have e1 : (tkL l w (n + 1)).1 = upI a n (a n - min (a n) b) := by show upI _ _ _ = _; rw [ha, hb]
    have e2 : (tkL l w (n + 1)).2 = b - min (a n) b := by show _ - _ = _; rw [ha, hb]
    rw [e1, e2]
    refine ⟨fun j h => ?_, by omega, by omega, ?_, fun h j h1 h2 => ?_⟩
    · by_cases hj : j = n
      · rw [hj, upI_s]; omega
      · rw [upI_n hj]; exact i1 j h
    · show smL (upI a n (a n - min (a n) b)) n + upI a n (a n - min (a n) b) n + _ = smL l n + l n
      rw [smL_up n (by omega), if_neg (by omega), upI_s]
      omega
    · by_cases hj : j = n
      · rw [hj, upI_s]; omega
      · rw [upI_n hj]; exact i5 (by omega) j h1 (by omega)
/-- RUNNING: what is left of each lot and what is owed behind period n, what is spoilt in it -/
def sWant (S : sS) (i : Int) (n : Nat) (o : Int) : Int := o + sGross S i ((n : Int) + 1)
def sRun (S : sS) (i : Int) : Nat → (Int → Int) × Int
  | 0 => (fun j => if j = 0 then sNum S i 4 else 0, 0)
  | n + 1 =>
    let t := tkL (upI (sRun S i n).1 ((n : Int) + 1) (sCome S i ((n : Int) + 1))) (sWant S i n (sRun S i n).2) (n + 2)
    (if 0 < sNum S i 3 ∧ sNum S i 3 ≤ (n : Int) + 1 then upI t.1 ((n : Int) + 1 - sNum S i 3) 0 else t.1, t.2)
def sTk (S : sS) (i : Int) (n : Nat) : (Int → Int) × Int := tkL (upI (sRun S i n).1 ((n : Int) + 1) (sCome S i ((n : Int) + 1))) (sWant S i n (sRun S i n).2) (n + 2)
def sGone (S : sS) (i : Int) (n : Nat) : Int := if 0 < sNum S i 3 ∧ sNum S i 3 ≤ (n : Int) + 1 then (sTk S i n).1 ((n : Int) + 1 - sNum S i 3) else 0
theorem sRun_s {S : sS} {i : Int} {n : Nat} : sRun S i (n + 1) = (if 0 < sNum S i 3 ∧ sNum S i 3 ≤ (n : Int) + 1 then upI (sTk S i n).1 ((n : Int) + 1 - sNum S i 3) 0 else (sTk S i n).1, (sTk S i n).2) := rfl
/-- STOCK behind period n -/
def sStk (S : sS) (i : Int) (n : Nat) : Int := smL (sRun S i n).1 (n + 1) - (sRun S i n).2
theorem sRun_b {S : sS} {T : Int} (h : sOk S T) (i : Int) : ∀ n : Nat, (∀ j : Int, 0 ≤ j → 0 ≤ (sRun S i n).1 j ∧ (sRun S i n).1 j ≤ 5000) ∧ 0 ≤ (sRun S i n).2 ∧ (sRun S i n).2 ≤ 271000 * (n : Int) ∧ (0 < (sRun S i n).2 → ∀ j : Int, 0 ≤ j → j < (n : Int) + 1 → (sRun S i n).1 j = 0)
  | 0 => by
    have h4 := h.n4 i
    refine ⟨fun j hj => ?_, by show (0 : Int) ≤ 0; omega, by show (0 : Int) ≤ _; omega, fun hc => absurd hc (by show ¬ (0 : Int) < 0; omega)⟩
    show 0 ≤ (if j = 0 then sNum S i 4 else 0) ∧ (if j = 0 then sNum S i 4 else 0) ≤ 5000
    split <;> omega
  | n + 1 => by
    obtain ⟨i1, i2, i3, i4⟩ := sRun_b h i n
    have hg := sGross_b h i ((n : Int) + 1)
    have hc := sCome_b h i ((n : Int) + 1)
    have hl : ∀ j : Int, 0 ≤ j → 0 ≤ upI (sRun S i n).1 ((n : Int) + 1) (sCome S i ((n : Int) + 1)) j := fun j hj => by
      by_cases hj2 : j = (n : Int) + 1
      · rw [hj2, upI_s]; omega
      · rw [upI_n hj2]; exact (i1 j hj).1
    have hl5 : ∀ j : Int, 0 ≤ j → upI (sRun S i n).1 ((n : Int) + 1) (sCome S i ((n : Int) + 1)) j ≤ 5000 := fun j hj => by
      by_cases hj2 : j = (n : Int) + 1
      · rw [hj2, upI_s]; omega
      · rw [upI_n hj2]; exact (i1 j hj).2
    obtain ⟨t1, t2, t3, t4, t5⟩ := tkL_b hl (w := sWant S i n (sRun S i n).2) (by unfold sWant; omega) (n + 2)
    have hw : sWant S i n (sRun S i n).2 ≤ 271000 * ((n : Int) + 1) := by unfold sWant; omega
    rw [sRun_s]
    refine ⟨fun j hj => ?_, t2, by show (sTk S i n).2 ≤ _; have : (sTk S i n).2 ≤ sWant S i n (sRun S i n).2 := t3; push_cast; omega, fun hc j h0 h1 => ?_⟩
    · have q1 := t1 j hj
      have q2 := hl5 j hj
      show 0 ≤ (if _ then _ else _ : Int → Int) j ∧ (if _ then _ else _ : Int → Int) j ≤ 5000
      split
      · by_cases hj2 : j = (n : Int) + 1 - sNum S i 3
        · rw [hj2, upI_s]; omega
        · rw [upI_n hj2]; exact ⟨q1.1, Int.le_trans q1.2 q2⟩
      · exact ⟨q1.1, Int.le_trans q1.2 q2⟩
    · have z := t5 hc j h0 (by push_cast at h1 ⊢; omega)
      show (if _ then _ else _ : Int → Int) j = 0
      split
      · by_cases hj2 : j = (n : Int) + 1 - sNum S i 3
        · rw [hj2, upI_s]
        · rw [upI_n hj2]; exact z
      · exact z
theorem smL_nn {l : Int → Int} : ∀ (n : Nat), (∀ j : Int, 0 ≤ j → j < n → 0 ≤ l j) → 0 ≤ smL l n
  | 0, _ => Int.le_refl _
  | n + 1, h => by
    have h1 := smL_nn n (fun j h1 h2 => h j h1 (by omega))
    have h2 := h n (by omega) (by omega)
    show 0 ≤ smL l n + l n
    omega
theorem smL_le {l : Int → Int} {m : Int} : ∀ (n : Nat), (∀ j : Int, 0 ≤ j → j < n → l j ≤ m) → smL l n ≤ m * (n : Int)
  | 0, _ => by show (0 : Int) ≤ _; simp
  | n + 1, h => by
    have h1 := smL_le n (fun j h1 h2 => h j h1 (by omega))
    have h2 := h n (by omega) (by omega)
    show smL l n + l n ≤ m * ((n + 1 : Nat) : Int)
    have e : m * ((n + 1 : Nat) : Int) = m * (n : Int) + m := by push_cast; rw [Int.mul_add, Int.mul_one]
    omega
theorem smL_0 {l : Int → Int} : ∀ (n : Nat), (∀ j : Int, 0 ≤ j → j < n → l j = 0) → smL l n = 0
  | 0, _ => rfl
  | n + 1, h => by
    have h1 := smL_0 n (fun j h1 h2 => h j h1 (by omega))
    have h2 := h n (by omega) (by omega)
    show smL l n + l n = 0
    omega
theorem sTk_b {S : sS} {T : Int} (h : sOk S T) (i : Int) (n : Nat) : (∀ j : Int, 0 ≤ j → 0 ≤ (sTk S i n).1 j ∧ (sTk S i n).1 j ≤ 5000) ∧ 0 ≤ (sTk S i n).2 ∧ (sTk S i n).2 ≤ sWant S i n (sRun S i n).2 ∧ smL (sTk S i n).1 (n + 2) + (sWant S i n (sRun S i n).2 - (sTk S i n).2) = smL (sRun S i n).1 (n + 1) + sCome S i ((n : Int) + 1) := by
  obtain ⟨i1, i2, i3, i4⟩ := sRun_b h i n
  have hg := sGross_b h i ((n : Int) + 1)
  have hc := sCome_b h i ((n : Int) + 1)
  have hl : ∀ j : Int, 0 ≤ j → 0 ≤ upI (sRun S i n).1 ((n : Int) + 1) (sCome S i ((n : Int) + 1)) j := fun j hj => by
    by_cases hj2 : j = (n : Int) + 1
    · rw [hj2, upI_s]; omega
    · rw [upI_n hj2]; exact (i1 j hj).1
  obtain ⟨t1, t2, t3, t4, t5⟩ := tkL_b hl (w := sWant S i n (sRun S i n).2) (by unfold sWant; omega) (n + 2)
  refine ⟨fun j hj => ⟨(t1 j hj).1, Int.le_trans (t1 j hj).2 ?_⟩, t2, t3, t4.trans ?_⟩
  · by_cases hj2 : j = (n : Int) + 1
    · rw [hj2, upI_s]; omega
    · rw [upI_n hj2]; exact (i1 j hj).2
  · show smL (upI (sRun S i n).1 ((n : Int) + 1) (sCome S i ((n : Int) + 1))) (n + 1) + upI (sRun S i n).1 ((n : Int) + 1) (sCome S i ((n : Int) + 1)) ((n + 1 : Nat) : Int) = _
    rw [smL_up (n + 1) (by omega), if_neg (by push_cast; omega), show ((n + 1 : Nat) : Int) = (n : Int) + 1 by push_cast; rfl, upI_s]
    omega
theorem sStk_s {S : sS} {T : Int} (h : sOk S T) (i : Int) (n : Nat) : sStk S i (n + 1) = sStk S i n + sCome S i ((n : Int) + 1) - sGross S i ((n : Int) + 1) - sGone S i n := by
  obtain ⟨t1, t2, t3, t4⟩ := sTk_b h i n
  have h3 := h.n3 i
  unfold sStk
  rw [sRun_s]
  show smL (if _ then _ else _) (n + 2) - (sTk S i n).2 = _
  unfold sWant at t4
  unfold sGone
  split
  · rw [smL_up _ (by omega), if_pos (by push_cast; omega)]
    omega
  · omega
theorem sOwed {S : sS} {T : Int} (h : sOk S T) (i : Int) (n : Nat) : max 0 (-(sStk S i n)) = (sRun S i n).2 := by
  obtain ⟨i1, i2, i3, i4⟩ := sRun_b h i n
  have hs := smL_nn (l := (sRun S i n).1) (n + 1) (fun j h0 _ => (i1 j h0).1)
  unfold sStk
  by_cases ho : 0 < (sRun S i n).2
  · have hz := smL_0 (l := (sRun S i n).1) (n + 1) (fun j h0 h1 => i4 ho j h0 (by push_cast at h1; omega))
    omega
  · omega
theorem sStk_b {S : sS} {T : Int} (h : sOk S T) (i : Int) (n : Nat) (hn : n ≤ 12) : -3252000 ≤ sStk S i n ∧ sStk S i n ≤ 65000 := by
  obtain ⟨i1, i2, i3, i4⟩ := sRun_b h i n
  have hs := smL_nn (l := (sRun S i n).1) (n + 1) (fun j h0 _ => (i1 j h0).1)
  have hs2 := smL_le (l := (sRun S i n).1) (m := 5000) (n + 1) (fun j h0 _ => (i1 j h0).2)
  unfold sStk
  push_cast at hs2
  omega
theorem sGone_b {S : sS} {T : Int} (h : sOk S T) (i : Int) (n : Nat) : 0 ≤ sGone S i n ∧ sGone S i n ≤ 5000 := by
  obtain ⟨t1, -⟩ := sTk_b h i n
  unfold sGone
  split
  · exact t1 _ (by omega)
  · omega
theorem sStk_0 {S : sS} {i : Int} : sStk S i 0 = sNum S i 4 := by
  simp [sStk, sRun, smL]
theorem tkL_c {l : Int → Int} {w : Int} {n : Nat} (hl : ∀ j : Int, 0 ≤ j → j < n → 0 ≤ l j) (hw : 0 ≤ w) : (∀ j : Int, 0 ≤ j → j < n → 0 ≤ (tkL l w n).1 j ∧ (tkL l w n).1 j ≤ l j) ∧ 0 ≤ (tkL l w n).2 ∧ (tkL l w n).2 ≤ w := by
  have e : ∀ j : Int, 0 ≤ j → j < n → l j = (fun j : Int => if 0 ≤ j ∧ j < n then l j else 0) j := fun j h0 h1 => (if_pos ⟨h0, h1⟩).symm
  obtain ⟨c1, c2⟩ := tkL_congr (w := w) n e
  obtain ⟨t1, t2, t3, -⟩ := tkL_b (l := fun j : Int => if 0 ≤ j ∧ j < n then l j else 0) (fun j h0 => by
    show 0 ≤ (if 0 ≤ j ∧ j < n then l j else 0)
    split
    · rename_i h; exact hl j h.1 h.2
    · exact Int.le_refl _) hw n
  rw [c1]
  refine ⟨fun j h0 h1 => ?_, t2, t3⟩
  rw [c2 j h0 h1]
  have := t1 j h0
  rw [if_pos ⟨h0, h1⟩] at this
  exact this
theorem tkL_s {l : Int → Int} {w j : Int} (h : 0 ≤ j) : tkL l w (j + 1).toNat = (upI (tkL l w j.toNat).1 j ((tkL l w j.toNat).1 j - min ((tkL l w j.toNat).1 j) (tkL l w j.toNat).2), (tkL l w j.toNat).2 - min ((tkL l w j.toNat).1 j) (tkL l w j.toNat).2) := by
  rw [show (j + 1).toNat = j.toNat + 1 by omega]
  show (upI _ (j.toNat : Int) _, _) = _
  rw [Int.toNat_of_nonneg h]
theorem wr_up {C : gSt} {q : Nat} {e v : Int} : wr C q e v q = upI (C q) e v := by funext j; rw [wr_w]; rfl
/-- the second half of a period in the store: what is spoilt, what is left -/
def pGone (t : Int → Int) (p sh : Int) : Int := if 0 < sh ∧ sh ≤ p then t (p - sh) else 0
def pLeft (t : Int → Int) (p sh : Int) : Int → Int := if 0 < sh ∧ sh ≤ p then upI t (p - sh) 0 else t
theorem run_step {S : sS} {T : Int} (hO : sOk S T) {i p : Int} (hp : 1 ≤ p) {l : Int → Int} {o : Int} (hl : ∀ j : Int, 0 ≤ j → j ≤ p - 1 → l j = (sRun S i (p - 1).toNat).1 j) (ho : o = (sRun S i (p - 1).toNat).2) :
    pGone (tkL (upI l p (sCome S i p)) (sGross S i p + o) (p + 1).toNat).1 p (sNum S i 3) = sGone S i (p - 1).toNat ∧ ∀ j : Int, 0 ≤ j → j ≤ p → pLeft (tkL (upI l p (sCome S i p)) (sGross S i p + o) (p + 1).toNat).1 p (sNum S i 3) j = (sRun S i p.toNat).1 j := by
  obtain ⟨n, hn⟩ : ∃ n : Nat, n = (p - 1).toNat := ⟨_, rfl⟩
  have hpn : p = (n : Int) + 1 := by omega
  rw [← hn] at hl ho
  have h3 := hO.n3 i
  have e1 : (p + 1).toNat = n + 2 := by omega
  have e2 : p.toNat = n + 1 := by omega
  have hw : sGross S i p + o = sWant S i n (sRun S i n).2 := by unfold sWant; rw [ho, hpn]; omega
  have hc := tkL_congr (l := upI l p (sCome S i p)) (l' := upI (sRun S i n).1 ((n : Int) + 1) (sCome S i ((n : Int) + 1))) (w := sWant S i n (sRun S i n).2) (n + 2) (fun j h0 h1 => by
    rw [hpn]
    by_cases hj : j = (n : Int) + 1
    · rw [hj, upI_s, upI_s]
    · rw [upI_n hj, upI_n hj]; exact hl j h0 (by push_cast at h1; omega))
  have ht : ∀ j : Int, 0 ≤ j → j ≤ p → (tkL (upI l p (sCome S i p)) (sWant S i n (sRun S i n).2) (n + 2)).1 j = (sTk S i n).1 j := fun j h0 h1 => hc.2 j h0 (by push_cast; omega)
  rw [e1, e2, hw, ← hn, sRun_s]
  refine ⟨?_, fun j h0 h1 => ?_⟩
  · unfold pGone sGone
    rw [hpn]
    split
    · rw [← hpn]; exact ht _ (by omega) (by omega)
    · rfl
  · show pLeft _ _ _ j = (if _ then _ else _ : Int → Int) j
    unfold pLeft
    rw [hpn]
    split
    · by_cases hj : j = (n : Int) + 1 - sNum S i 3
      · rw [hj, upI_s, upI_s]
      · rw [upI_n hj, upI_n hj, ← hpn]; exact ht j h0 h1
    · rw [← hpn]; exact ht j h0 h1
/-- item i's store has been run through period n -/
def cRun (S : sS) (i : Int) (C : gSt) (n : Int) : Prop := (∀ j : Int, 0 ≤ j → j ≤ n → C (8 + 9 * i.toNat) j = sStk S i j.toNat) ∧ ∀ j : Int, 1 ≤ j → j ≤ n → C (9 + 9 * i.toNat) j = sGone S i (j - 1).toNat
